-- instructions
theorem dJ7_fill_53178_0 : decode cJ7_fill_53178 0 = .ok (.iconst 0, 1) := by decide +kernel
theorem dJ7_fill_53178_1 : decode cJ7_fill_53178 1 = .ok (.istore_n 2, 1) := by decide +kernel
theorem dJ7_fill_53178_2 : decode cJ7_fill_53178 2 = .ok (.aload_n 0, 1) := by decide +kernel
theorem dJ7_fill_53178_3 : decode cJ7_fill_53178 3 = .ok (.arraylength, 1) := by decide +kernel
theorem dJ7_fill_53178_4 : decode cJ7_fill_53178 4 = .ok (.istore_n 3, 1) := by decide +kernel
theorem dJ7_fill_53178_5 : decode cJ7_fill_53178 5 = .ok (.iload_n 2, 1) := by decide +kernel
theorem dJ7_fill_53178_6 : decode cJ7_fill_53178 6 = .ok (.iload_n 3, 1) := by decide +kernel
theorem dJ7_fill_53178_7 : decode cJ7_fill_53178 7 = .ok (.if_icmp .ge 13, 3) := by decide +kernel
theorem dJ7_fill_53178_10 : decode cJ7_fill_53178 10 = .ok (.aload_n 0, 1) := by decide +kernel
theorem dJ7_fill_53178_11 : decode cJ7_fill_53178 11 = .ok (.iload_n 2, 1) := by decide +kernel
theorem dJ7_fill_53178_12 : decode cJ7_fill_53178 12 = .ok (.iload_n 1, 1) := by decide +kernel
theorem dJ7_fill_53178_13 : decode cJ7_fill_53178 13 = .ok (.iastore, 1) := by decide +kernel
theorem dJ7_fill_53178_14 : decode cJ7_fill_53178 14 = .ok (.iinc 2 1, 3) := by decide +kernel
theorem dJ7_fill_53178_17 : decode cJ7_fill_53178 17 = .ok (.goto (-12), 3) := by decide +kernel
theorem dJ7_fill_53178_20 : decode cJ7_fill_53178 20 = .ok (.return_, 1) := by decide +kernel
theorem dL_law_0 : decode cL_law 0 = .ok (.new 7, 3) := by decide +kernel
theorem dL_law_3 : decode cL_law 3 = .ok (.dup, 1) := by decide +kernel
theorem dL_law_4 : decode cL_law 4 = .ok (.invokespecial 9, 3) := by decide +kernel
theorem dL_law_7 : decode cL_law 7 = .ok (.astore_n 1, 1) := by decide +kernel
theorem dL_law_8 : decode cL_law 8 = .ok (.new 10, 3) := by decide +kernel
theorem dL_law_11 : decode cL_law 11 = .ok (.dup, 1) := by decide +kernel
theorem dL_law_12 : decode cL_law 12 = .ok (.invokespecial 12, 3) := by decide +kernel
theorem dL_law_15 : decode cL_law 15 = .ok (.astore_n 2, 1) := by decide +kernel
theorem dL_law_16 : decode cL_law 16 = .ok (.iconst 0, 1) := by decide +kernel
theorem dL_law_17 : decode cL_law 17 = .ok (.istore_n 3, 1) := by decide +kernel
theorem dL_law_18 : decode cL_law 18 = .ok (.iload_n 3, 1) := by decide +kernel
theorem dL_law_19 : decode cL_law 19 = .ok (.aload_n 0, 1) := by decide +kernel
theorem dL_law_20 : decode cL_law 20 = .ok (.arraylength, 1) := by decide +kernel
theorem dL_law_21 : decode cL_law 21 = .ok (.bipush 6, 2) := by decide +kernel
theorem dL_law_23 : decode cL_law 23 = .ok (.isub, 1) := by decide +kernel
theorem dL_law_24 : decode cL_law 24 = .ok (.if_icmp .gt 826, 3) := by decide +kernel
theorem dL_law_27 : decode cL_law 27 = .ok (.aload_n 0, 1) := by decide +kernel
theorem dL_law_28 : decode cL_law 28 = .ok (.iload_n 3, 1) := by decide +kernel
theorem dL_law_29 : decode cL_law 29 = .ok (.iaload, 1) := by decide +kernel
theorem dL_law_30 : decode cL_law 30 = .ok (.bipush 31, 2) := by decide +kernel
theorem dL_law_32 : decode cL_law 32 = .ok (.iand, 1) := by decide +kernel
theorem dL_law_33 : decode cL_law 33 = .ok (.tableswitch 811 0 24 #[115, 178, 201, 214, 227, 250, 273, 296, 329, 352, 375, 408, 441, 484, 507, 540, 583, 616, 640, 683, 706, 729, 752, 775, 798], 115) := by decide +kernel
theorem dL_law_148 : decode cL_law 148 = .ok (.aload_n 1, 1) := by decide +kernel
theorem dL_law_149 : decode cL_law 149 = .ok (.aload_n 0, 1) := by decide +kernel
theorem dL_law_150 : decode cL_law 150 = .ok (.iload_n 3, 1) := by decide +kernel
theorem dL_law_151 : decode cL_law 151 = .ok (.iconst 1, 1) := by decide +kernel
theorem dL_law_152 : decode cL_law 152 = .ok (.iadd, 1) := by decide +kernel
theorem dL_law_153 : decode cL_law 153 = .ok (.iaload, 1) := by decide +kernel
theorem dL_law_154 : decode cL_law 154 = .ok (.aload_n 0, 1) := by decide +kernel
theorem dL_law_155 : decode cL_law 155 = .ok (.iload_n 3, 1) := by decide +kernel
theorem dL_law_156 : decode cL_law 156 = .ok (.iconst 2, 1) := by decide +kernel
theorem dL_law_157 : decode cL_law 157 = .ok (.iadd, 1) := by decide +kernel
theorem dL_law_158 : decode cL_law 158 = .ok (.iaload, 1) := by decide +kernel
theorem dL_law_159 : decode cL_law 159 = .ok (.aload_n 0, 1) := by decide +kernel
theorem dL_law_160 : decode cL_law 160 = .ok (.iload_n 3, 1) := by decide +kernel
theorem dL_law_161 : decode cL_law 161 = .ok (.iconst 3, 1) := by decide +kernel
theorem dL_law_162 : decode cL_law 162 = .ok (.iadd, 1) := by decide +kernel
theorem dL_law_163 : decode cL_law 163 = .ok (.iaload, 1) := by decide +kernel
theorem dL_law_164 : decode cL_law 164 = .ok (.aload_n 0, 1) := by decide +kernel
theorem dL_law_165 : decode cL_law 165 = .ok (.iload_n 3, 1) := by decide +kernel
theorem dL_law_166 : decode cL_law 166 = .ok (.iconst 4, 1) := by decide +kernel
theorem dL_law_167 : decode cL_law 167 = .ok (.iadd, 1) := by decide +kernel
theorem dL_law_168 : decode cL_law 168 = .ok (.iaload, 1) := by decide +kernel
theorem dL_law_169 : decode cL_law 169 = .ok (.aload_n 0, 1) := by decide +kernel
theorem dL_law_170 : decode cL_law 170 = .ok (.iload_n 3, 1) := by decide +kernel
theorem dL_law_171 : decode cL_law 171 = .ok (.iconst 5, 1) := by decide +kernel
theorem dL_law_172 : decode cL_law 172 = .ok (.iadd, 1) := by decide +kernel
theorem dL_law_173 : decode cL_law 173 = .ok (.iaload, 1) := by decide +kernel
theorem dL_law_174 : decode cL_law 174 = .ok (.invokevirtual 13, 3) := by decide +kernel
theorem dL_law_177 : decode cL_law 177 = .ok (.aload_n 2, 1) := by decide +kernel
theorem dL_law_178 : decode cL_law 178 = .ok (.aload_n 0, 1) := by decide +kernel
theorem dL_law_179 : decode cL_law 179 = .ok (.iload_n 3, 1) := by decide +kernel
theorem dL_law_180 : decode cL_law 180 = .ok (.iconst 1, 1) := by decide +kernel
theorem dL_law_181 : decode cL_law 181 = .ok (.iadd, 1) := by decide +kernel
theorem dL_law_182 : decode cL_law 182 = .ok (.iaload, 1) := by decide +kernel
theorem dL_law_183 : decode cL_law 183 = .ok (.aload_n 0, 1) := by decide +kernel
theorem dL_law_184 : decode cL_law 184 = .ok (.iload_n 3, 1) := by decide +kernel
theorem dL_law_185 : decode cL_law 185 = .ok (.iconst 2, 1) := by decide +kernel
theorem dL_law_186 : decode cL_law 186 = .ok (.iadd, 1) := by decide +kernel
theorem dL_law_187 : decode cL_law 187 = .ok (.iaload, 1) := by decide +kernel
theorem dL_law_188 : decode cL_law 188 = .ok (.aload_n 0, 1) := by decide +kernel
theorem dL_law_189 : decode cL_law 189 = .ok (.iload_n 3, 1) := by decide +kernel
theorem dL_law_190 : decode cL_law 190 = .ok (.iconst 3, 1) := by decide +kernel
theorem dL_law_191 : decode cL_law 191 = .ok (.iadd, 1) := by decide +kernel
theorem dL_law_192 : decode cL_law 192 = .ok (.iaload, 1) := by decide +kernel
theorem dL_law_193 : decode cL_law 193 = .ok (.aload_n 0, 1) := by decide +kernel
theorem dL_law_194 : decode cL_law 194 = .ok (.iload_n 3, 1) := by decide +kernel
theorem dL_law_195 : decode cL_law 195 = .ok (.iconst 4, 1) := by decide +kernel
theorem dL_law_196 : decode cL_law 196 = .ok (.iadd, 1) := by decide +kernel
theorem dL_law_197 : decode cL_law 197 = .ok (.iaload, 1) := by decide +kernel
theorem dL_law_198 : decode cL_law 198 = .ok (.aload_n 0, 1) := by decide +kernel
theorem dL_law_199 : decode cL_law 199 = .ok (.iload_n 3, 1) := by decide +kernel
theorem dL_law_200 : decode cL_law 200 = .ok (.iconst 5, 1) := by decide +kernel
theorem dL_law_201 : decode cL_law 201 = .ok (.iadd, 1) := by decide +kernel
theorem dL_law_202 : decode cL_law 202 = .ok (.iaload, 1) := by decide +kernel
theorem dL_law_203 : decode cL_law 203 = .ok (.invokevirtual 17, 3) := by decide +kernel
theorem dL_law_206 : decode cL_law 206 = .ok (.if_icmp .eq 638, 3) := by decide +kernel
theorem dL_law_211 : decode cL_law 211 = .ok (.aload_n 1, 1) := by decide +kernel
theorem dL_law_212 : decode cL_law 212 = .ok (.aload_n 0, 1) := by decide +kernel
theorem dL_law_213 : decode cL_law 213 = .ok (.iload_n 3, 1) := by decide +kernel
theorem dL_law_214 : decode cL_law 214 = .ok (.iconst 1, 1) := by decide +kernel
theorem dL_law_215 : decode cL_law 215 = .ok (.iadd, 1) := by decide +kernel
theorem dL_law_216 : decode cL_law 216 = .ok (.iaload, 1) := by decide +kernel
theorem dL_law_217 : decode cL_law 217 = .ok (.invokevirtual 18, 3) := by decide +kernel
theorem dL_law_220 : decode cL_law 220 = .ok (.aload_n 2, 1) := by decide +kernel
theorem dL_law_221 : decode cL_law 221 = .ok (.aload_n 0, 1) := by decide +kernel
theorem dL_law_222 : decode cL_law 222 = .ok (.iload_n 3, 1) := by decide +kernel
theorem dL_law_223 : decode cL_law 223 = .ok (.iconst 1, 1) := by decide +kernel
theorem dL_law_224 : decode cL_law 224 = .ok (.iadd, 1) := by decide +kernel
theorem dL_law_225 : decode cL_law 225 = .ok (.iaload, 1) := by decide +kernel
theorem dL_law_226 : decode cL_law 226 = .ok (.invokevirtual 22, 3) := by decide +kernel
theorem dL_law_229 : decode cL_law 229 = .ok (.if_icmp .eq 615, 3) := by decide +kernel
theorem dL_law_234 : decode cL_law 234 = .ok (.aload_n 1, 1) := by decide +kernel
theorem dL_law_235 : decode cL_law 235 = .ok (.invokevirtual 23, 3) := by decide +kernel
theorem dL_law_238 : decode cL_law 238 = .ok (.aload_n 2, 1) := by decide +kernel
theorem dL_law_239 : decode cL_law 239 = .ok (.invokevirtual 27, 3) := by decide +kernel
theorem dL_law_242 : decode cL_law 242 = .ok (.if_icmp .eq 602, 3) := by decide +kernel
theorem dL_law_247 : decode cL_law 247 = .ok (.aload_n 1, 1) := by decide +kernel
theorem dL_law_248 : decode cL_law 248 = .ok (.invokevirtual 28, 3) := by decide +kernel
theorem dL_law_251 : decode cL_law 251 = .ok (.aload_n 2, 1) := by decide +kernel
theorem dL_law_252 : decode cL_law 252 = .ok (.invokevirtual 31, 3) := by decide +kernel
theorem dL_law_255 : decode cL_law 255 = .ok (.if_icmp .eq 589, 3) := by decide +kernel
theorem dL_law_260 : decode cL_law 260 = .ok (.aload_n 1, 1) := by decide +kernel
theorem dL_law_261 : decode cL_law 261 = .ok (.aload_n 0, 1) := by decide +kernel
theorem dL_law_262 : decode cL_law 262 = .ok (.iload_n 3, 1) := by decide +kernel
theorem dL_law_263 : decode cL_law 263 = .ok (.iconst 1, 1) := by decide +kernel
theorem dL_law_264 : decode cL_law 264 = .ok (.iadd, 1) := by decide +kernel
theorem dL_law_265 : decode cL_law 265 = .ok (.iaload, 1) := by decide +kernel
theorem dL_law_266 : decode cL_law 266 = .ok (.invokevirtual 32, 3) := by decide +kernel
theorem dL_law_269 : decode cL_law 269 = .ok (.aload_n 2, 1) := by decide +kernel
theorem dL_law_270 : decode cL_law 270 = .ok (.aload_n 0, 1) := by decide +kernel
theorem dL_law_271 : decode cL_law 271 = .ok (.iload_n 3, 1) := by decide +kernel
theorem dL_law_272 : decode cL_law 272 = .ok (.iconst 1, 1) := by decide +kernel
theorem dL_law_273 : decode cL_law 273 = .ok (.iadd, 1) := by decide +kernel
theorem dL_law_274 : decode cL_law 274 = .ok (.iaload, 1) := by decide +kernel
theorem dL_law_275 : decode cL_law 275 = .ok (.invokevirtual 35, 3) := by decide +kernel
theorem dL_law_278 : decode cL_law 278 = .ok (.if_icmp .eq 566, 3) := by decide +kernel
theorem dL_law_283 : decode cL_law 283 = .ok (.aload_n 1, 1) := by decide +kernel
theorem dL_law_284 : decode cL_law 284 = .ok (.aload_n 0, 1) := by decide +kernel
theorem dL_law_285 : decode cL_law 285 = .ok (.iload_n 3, 1) := by decide +kernel
theorem dL_law_286 : decode cL_law 286 = .ok (.iconst 1, 1) := by decide +kernel
theorem dL_law_287 : decode cL_law 287 = .ok (.iadd, 1) := by decide +kernel
theorem dL_law_288 : decode cL_law 288 = .ok (.iaload, 1) := by decide +kernel
theorem dL_law_289 : decode cL_law 289 = .ok (.invokevirtual 36, 3) := by decide +kernel
theorem dL_law_292 : decode cL_law 292 = .ok (.aload_n 2, 1) := by decide +kernel
theorem dL_law_293 : decode cL_law 293 = .ok (.aload_n 0, 1) := by decide +kernel
theorem dL_law_294 : decode cL_law 294 = .ok (.iload_n 3, 1) := by decide +kernel
theorem dL_law_295 : decode cL_law 295 = .ok (.iconst 1, 1) := by decide +kernel
theorem dL_law_296 : decode cL_law 296 = .ok (.iadd, 1) := by decide +kernel
theorem dL_law_297 : decode cL_law 297 = .ok (.iaload, 1) := by decide +kernel
theorem dL_law_298 : decode cL_law 298 = .ok (.invokevirtual 39, 3) := by decide +kernel
theorem dL_law_301 : decode cL_law 301 = .ok (.if_icmp .eq 543, 3) := by decide +kernel
theorem dL_law_306 : decode cL_law 306 = .ok (.aload_n 1, 1) := by decide +kernel
theorem dL_law_307 : decode cL_law 307 = .ok (.aload_n 0, 1) := by decide +kernel
theorem dL_law_308 : decode cL_law 308 = .ok (.iload_n 3, 1) := by decide +kernel
theorem dL_law_309 : decode cL_law 309 = .ok (.iconst 1, 1) := by decide +kernel
theorem dL_law_310 : decode cL_law 310 = .ok (.iadd, 1) := by decide +kernel
theorem dL_law_311 : decode cL_law 311 = .ok (.iaload, 1) := by decide +kernel
theorem dL_law_312 : decode cL_law 312 = .ok (.invokevirtual 40, 3) := by decide +kernel
theorem dL_law_315 : decode cL_law 315 = .ok (.aload_n 2, 1) := by decide +kernel
theorem dL_law_316 : decode cL_law 316 = .ok (.aload_n 0, 1) := by decide +kernel
theorem dL_law_317 : decode cL_law 317 = .ok (.iload_n 3, 1) := by decide +kernel
theorem dL_law_318 : decode cL_law 318 = .ok (.iconst 1, 1) := by decide +kernel
theorem dL_law_319 : decode cL_law 319 = .ok (.iadd, 1) := by decide +kernel
theorem dL_law_320 : decode cL_law 320 = .ok (.iaload, 1) := by decide +kernel
theorem dL_law_321 : decode cL_law 321 = .ok (.invokevirtual 43, 3) := by decide +kernel
theorem dL_law_324 : decode cL_law 324 = .ok (.if_icmp .eq 520, 3) := by decide +kernel
theorem dL_law_329 : decode cL_law 329 = .ok (.aload_n 1, 1) := by decide +kernel
theorem dL_law_330 : decode cL_law 330 = .ok (.aload_n 0, 1) := by decide +kernel
theorem dL_law_331 : decode cL_law 331 = .ok (.iload_n 3, 1) := by decide +kernel
theorem dL_law_332 : decode cL_law 332 = .ok (.iconst 1, 1) := by decide +kernel
theorem dL_law_333 : decode cL_law 333 = .ok (.iadd, 1) := by decide +kernel
theorem dL_law_334 : decode cL_law 334 = .ok (.iaload, 1) := by decide +kernel
theorem dL_law_335 : decode cL_law 335 = .ok (.aload_n 0, 1) := by decide +kernel
theorem dL_law_336 : decode cL_law 336 = .ok (.iload_n 3, 1) := by decide +kernel
theorem dL_law_337 : decode cL_law 337 = .ok (.iconst 2, 1) := by decide +kernel
theorem dL_law_338 : decode cL_law 338 = .ok (.iadd, 1) := by decide +kernel
theorem dL_law_339 : decode cL_law 339 = .ok (.iaload, 1) := by decide +kernel
theorem dL_law_340 : decode cL_law 340 = .ok (.invokevirtual 44, 3) := by decide +kernel
theorem dL_law_343 : decode cL_law 343 = .ok (.aload_n 2, 1) := by decide +kernel
theorem dL_law_344 : decode cL_law 344 = .ok (.aload_n 0, 1) := by decide +kernel
theorem dL_law_345 : decode cL_law 345 = .ok (.iload_n 3, 1) := by decide +kernel
theorem dL_law_346 : decode cL_law 346 = .ok (.iconst 1, 1) := by decide +kernel
theorem dL_law_347 : decode cL_law 347 = .ok (.iadd, 1) := by decide +kernel
theorem dL_law_348 : decode cL_law 348 = .ok (.iaload, 1) := by decide +kernel
theorem dL_law_349 : decode cL_law 349 = .ok (.aload_n 0, 1) := by decide +kernel
theorem dL_law_350 : decode cL_law 350 = .ok (.iload_n 3, 1) := by decide +kernel
theorem dL_law_351 : decode cL_law 351 = .ok (.iconst 2, 1) := by decide +kernel
theorem dL_law_352 : decode cL_law 352 = .ok (.iadd, 1) := by decide +kernel
theorem dL_law_353 : decode cL_law 353 = .ok (.iaload, 1) := by decide +kernel
theorem dL_law_354 : decode cL_law 354 = .ok (.invokevirtual 48, 3) := by decide +kernel
theorem dL_law_357 : decode cL_law 357 = .ok (.if_icmp .eq 487, 3) := by decide +kernel
theorem dL_law_362 : decode cL_law 362 = .ok (.aload_n 1, 1) := by decide +kernel
theorem dL_law_363 : decode cL_law 363 = .ok (.aload_n 0, 1) := by decide +kernel
theorem dL_law_364 : decode cL_law 364 = .ok (.iload_n 3, 1) := by decide +kernel
theorem dL_law_365 : decode cL_law 365 = .ok (.iconst 1, 1) := by decide +kernel
theorem dL_law_366 : decode cL_law 366 = .ok (.iadd, 1) := by decide +kernel
theorem dL_law_367 : decode cL_law 367 = .ok (.iaload, 1) := by decide +kernel
theorem dL_law_368 : decode cL_law 368 = .ok (.invokevirtual 49, 3) := by decide +kernel
theorem dL_law_371 : decode cL_law 371 = .ok (.aload_n 2, 1) := by decide +kernel
theorem dL_law_372 : decode cL_law 372 = .ok (.aload_n 0, 1) := by decide +kernel
theorem dL_law_373 : decode cL_law 373 = .ok (.iload_n 3, 1) := by decide +kernel
theorem dL_law_374 : decode cL_law 374 = .ok (.iconst 1, 1) := by decide +kernel
theorem dL_law_375 : decode cL_law 375 = .ok (.iadd, 1) := by decide +kernel
theorem dL_law_376 : decode cL_law 376 = .ok (.iaload, 1) := by decide +kernel
theorem dL_law_377 : decode cL_law 377 = .ok (.invokevirtual 52, 3) := by decide +kernel
theorem dL_law_380 : decode cL_law 380 = .ok (.if_icmp .eq 464, 3) := by decide +kernel
theorem dL_law_385 : decode cL_law 385 = .ok (.aload_n 1, 1) := by decide +kernel
theorem dL_law_386 : decode cL_law 386 = .ok (.aload_n 0, 1) := by decide +kernel
theorem dL_law_387 : decode cL_law 387 = .ok (.iload_n 3, 1) := by decide +kernel
theorem dL_law_388 : decode cL_law 388 = .ok (.iconst 1, 1) := by decide +kernel
theorem dL_law_389 : decode cL_law 389 = .ok (.iadd, 1) := by decide +kernel
theorem dL_law_390 : decode cL_law 390 = .ok (.iaload, 1) := by decide +kernel
theorem dL_law_391 : decode cL_law 391 = .ok (.invokevirtual 53, 3) := by decide +kernel
theorem dL_law_394 : decode cL_law 394 = .ok (.aload_n 2, 1) := by decide +kernel
theorem dL_law_395 : decode cL_law 395 = .ok (.aload_n 0, 1) := by decide +kernel
theorem dL_law_396 : decode cL_law 396 = .ok (.iload_n 3, 1) := by decide +kernel
theorem dL_law_397 : decode cL_law 397 = .ok (.iconst 1, 1) := by decide +kernel
theorem dL_law_398 : decode cL_law 398 = .ok (.iadd, 1) := by decide +kernel
theorem dL_law_399 : decode cL_law 399 = .ok (.iaload, 1) := by decide +kernel
theorem dL_law_400 : decode cL_law 400 = .ok (.invokevirtual 56, 3) := by decide +kernel
theorem dL_law_403 : decode cL_law 403 = .ok (.if_icmp .eq 441, 3) := by decide +kernel
theorem dL_law_408 : decode cL_law 408 = .ok (.aload_n 1, 1) := by decide +kernel
theorem dL_law_409 : decode cL_law 409 = .ok (.aload_n 0, 1) := by decide +kernel
theorem dL_law_410 : decode cL_law 410 = .ok (.iload_n 3, 1) := by decide +kernel
theorem dL_law_411 : decode cL_law 411 = .ok (.iconst 1, 1) := by decide +kernel
theorem dL_law_412 : decode cL_law 412 = .ok (.iadd, 1) := by decide +kernel
theorem dL_law_413 : decode cL_law 413 = .ok (.iaload, 1) := by decide +kernel
theorem dL_law_414 : decode cL_law 414 = .ok (.aload_n 0, 1) := by decide +kernel
theorem dL_law_415 : decode cL_law 415 = .ok (.iload_n 3, 1) := by decide +kernel
theorem dL_law_416 : decode cL_law 416 = .ok (.iconst 2, 1) := by decide +kernel
theorem dL_law_417 : decode cL_law 417 = .ok (.iadd, 1) := by decide +kernel
theorem dL_law_418 : decode cL_law 418 = .ok (.iaload, 1) := by decide +kernel
theorem dL_law_419 : decode cL_law 419 = .ok (.invokevirtual 57, 3) := by decide +kernel
theorem dL_law_422 : decode cL_law 422 = .ok (.aload_n 2, 1) := by decide +kernel
theorem dL_law_423 : decode cL_law 423 = .ok (.aload_n 0, 1) := by decide +kernel
theorem dL_law_424 : decode cL_law 424 = .ok (.iload_n 3, 1) := by decide +kernel
theorem dL_law_425 : decode cL_law 425 = .ok (.iconst 1, 1) := by decide +kernel
theorem dL_law_426 : decode cL_law 426 = .ok (.iadd, 1) := by decide +kernel
theorem dL_law_427 : decode cL_law 427 = .ok (.iaload, 1) := by decide +kernel
theorem dL_law_428 : decode cL_law 428 = .ok (.aload_n 0, 1) := by decide +kernel
theorem dL_law_429 : decode cL_law 429 = .ok (.iload_n 3, 1) := by decide +kernel
theorem dL_law_430 : decode cL_law 430 = .ok (.iconst 2, 1) := by decide +kernel
theorem dL_law_431 : decode cL_law 431 = .ok (.iadd, 1) := by decide +kernel
theorem dL_law_432 : decode cL_law 432 = .ok (.iaload, 1) := by decide +kernel
theorem dL_law_433 : decode cL_law 433 = .ok (.invokevirtual 60, 3) := by decide +kernel
theorem dL_law_436 : decode cL_law 436 = .ok (.if_icmp .eq 408, 3) := by decide +kernel
theorem dL_law_441 : decode cL_law 441 = .ok (.aload_n 1, 1) := by decide +kernel
theorem dL_law_442 : decode cL_law 442 = .ok (.aload_n 0, 1) := by decide +kernel
theorem dL_law_443 : decode cL_law 443 = .ok (.iload_n 3, 1) := by decide +kernel
theorem dL_law_444 : decode cL_law 444 = .ok (.iconst 1, 1) := by decide +kernel
theorem dL_law_445 : decode cL_law 445 = .ok (.iadd, 1) := by decide +kernel
theorem dL_law_446 : decode cL_law 446 = .ok (.iaload, 1) := by decide +kernel
theorem dL_law_447 : decode cL_law 447 = .ok (.aload_n 0, 1) := by decide +kernel
theorem dL_law_448 : decode cL_law 448 = .ok (.iload_n 3, 1) := by decide +kernel
theorem dL_law_449 : decode cL_law 449 = .ok (.iconst 2, 1) := by decide +kernel
theorem dL_law_450 : decode cL_law 450 = .ok (.iadd, 1) := by decide +kernel
theorem dL_law_451 : decode cL_law 451 = .ok (.iaload, 1) := by decide +kernel
theorem dL_law_452 : decode cL_law 452 = .ok (.invokevirtual 61, 3) := by decide +kernel
theorem dL_law_455 : decode cL_law 455 = .ok (.aload_n 2, 1) := by decide +kernel
theorem dL_law_456 : decode cL_law 456 = .ok (.aload_n 0, 1) := by decide +kernel
theorem dL_law_457 : decode cL_law 457 = .ok (.iload_n 3, 1) := by decide +kernel
theorem dL_law_458 : decode cL_law 458 = .ok (.iconst 1, 1) := by decide +kernel
theorem dL_law_459 : decode cL_law 459 = .ok (.iadd, 1) := by decide +kernel
theorem dL_law_460 : decode cL_law 460 = .ok (.iaload, 1) := by decide +kernel
theorem dL_law_461 : decode cL_law 461 = .ok (.aload_n 0, 1) := by decide +kernel
theorem dL_law_462 : decode cL_law 462 = .ok (.iload_n 3, 1) := by decide +kernel
theorem dL_law_463 : decode cL_law 463 = .ok (.iconst 2, 1) := by decide +kernel
theorem dL_law_464 : decode cL_law 464 = .ok (.iadd, 1) := by decide +kernel
theorem dL_law_465 : decode cL_law 465 = .ok (.iaload, 1) := by decide +kernel
theorem dL_law_466 : decode cL_law 466 = .ok (.invokevirtual 64, 3) := by decide +kernel
theorem dL_law_469 : decode cL_law 469 = .ok (.if_icmp .eq 375, 3) := by decide +kernel
theorem dL_law_474 : decode cL_law 474 = .ok (.aload_n 1, 1) := by decide +kernel
theorem dL_law_475 : decode cL_law 475 = .ok (.aload_n 0, 1) := by decide +kernel
theorem dL_law_476 : decode cL_law 476 = .ok (.iload_n 3, 1) := by decide +kernel
theorem dL_law_477 : decode cL_law 477 = .ok (.iconst 1, 1) := by decide +kernel
theorem dL_law_478 : decode cL_law 478 = .ok (.iadd, 1) := by decide +kernel
theorem dL_law_479 : decode cL_law 479 = .ok (.iaload, 1) := by decide +kernel
theorem dL_law_480 : decode cL_law 480 = .ok (.aload_n 0, 1) := by decide +kernel
theorem dL_law_481 : decode cL_law 481 = .ok (.iload_n 3, 1) := by decide +kernel
theorem dL_law_482 : decode cL_law 482 = .ok (.iconst 2, 1) := by decide +kernel
theorem dL_law_483 : decode cL_law 483 = .ok (.iadd, 1) := by decide +kernel
theorem dL_law_484 : decode cL_law 484 = .ok (.iaload, 1) := by decide +kernel
theorem dL_law_485 : decode cL_law 485 = .ok (.aload_n 0, 1) := by decide +kernel
theorem dL_law_486 : decode cL_law 486 = .ok (.iload_n 3, 1) := by decide +kernel
theorem dL_law_487 : decode cL_law 487 = .ok (.iconst 3, 1) := by decide +kernel
theorem dL_law_488 : decode cL_law 488 = .ok (.iadd, 1) := by decide +kernel
theorem dL_law_489 : decode cL_law 489 = .ok (.iaload, 1) := by decide +kernel
theorem dL_law_490 : decode cL_law 490 = .ok (.invokevirtual 65, 3) := by decide +kernel
theorem dL_law_493 : decode cL_law 493 = .ok (.aload_n 2, 1) := by decide +kernel
theorem dL_law_494 : decode cL_law 494 = .ok (.aload_n 0, 1) := by decide +kernel
theorem dL_law_495 : decode cL_law 495 = .ok (.iload_n 3, 1) := by decide +kernel
theorem dL_law_496 : decode cL_law 496 = .ok (.iconst 1, 1) := by decide +kernel
theorem dL_law_497 : decode cL_law 497 = .ok (.iadd, 1) := by decide +kernel
theorem dL_law_498 : decode cL_law 498 = .ok (.iaload, 1) := by decide +kernel
theorem dL_law_499 : decode cL_law 499 = .ok (.aload_n 0, 1) := by decide +kernel
theorem dL_law_500 : decode cL_law 500 = .ok (.iload_n 3, 1) := by decide +kernel
theorem dL_law_501 : decode cL_law 501 = .ok (.iconst 2, 1) := by decide +kernel
theorem dL_law_502 : decode cL_law 502 = .ok (.iadd, 1) := by decide +kernel
theorem dL_law_503 : decode cL_law 503 = .ok (.iaload, 1) := by decide +kernel
theorem dL_law_504 : decode cL_law 504 = .ok (.aload_n 0, 1) := by decide +kernel
theorem dL_law_505 : decode cL_law 505 = .ok (.iload_n 3, 1) := by decide +kernel
theorem dL_law_506 : decode cL_law 506 = .ok (.iconst 3, 1) := by decide +kernel
theorem dL_law_507 : decode cL_law 507 = .ok (.iadd, 1) := by decide +kernel
theorem dL_law_508 : decode cL_law 508 = .ok (.iaload, 1) := by decide +kernel
theorem dL_law_509 : decode cL_law 509 = .ok (.invokevirtual 69, 3) := by decide +kernel
theorem dL_law_512 : decode cL_law 512 = .ok (.if_icmp .eq 332, 3) := by decide +kernel
theorem dL_law_517 : decode cL_law 517 = .ok (.aload_n 1, 1) := by decide +kernel
theorem dL_law_518 : decode cL_law 518 = .ok (.aload_n 0, 1) := by decide +kernel
theorem dL_law_519 : decode cL_law 519 = .ok (.iload_n 3, 1) := by decide +kernel
theorem dL_law_520 : decode cL_law 520 = .ok (.iconst 1, 1) := by decide +kernel
theorem dL_law_521 : decode cL_law 521 = .ok (.iadd, 1) := by decide +kernel
theorem dL_law_522 : decode cL_law 522 = .ok (.iaload, 1) := by decide +kernel
theorem dL_law_523 : decode cL_law 523 = .ok (.invokevirtual 70, 3) := by decide +kernel
theorem dL_law_526 : decode cL_law 526 = .ok (.aload_n 2, 1) := by decide +kernel
theorem dL_law_527 : decode cL_law 527 = .ok (.aload_n 0, 1) := by decide +kernel
theorem dL_law_528 : decode cL_law 528 = .ok (.iload_n 3, 1) := by decide +kernel
theorem dL_law_529 : decode cL_law 529 = .ok (.iconst 1, 1) := by decide +kernel
theorem dL_law_530 : decode cL_law 530 = .ok (.iadd, 1) := by decide +kernel
theorem dL_law_531 : decode cL_law 531 = .ok (.iaload, 1) := by decide +kernel
theorem dL_law_532 : decode cL_law 532 = .ok (.invokevirtual 73, 3) := by decide +kernel
theorem dL_law_535 : decode cL_law 535 = .ok (.if_icmp .eq 309, 3) := by decide +kernel
theorem dL_law_540 : decode cL_law 540 = .ok (.aload_n 1, 1) := by decide +kernel
theorem dL_law_541 : decode cL_law 541 = .ok (.aload_n 0, 1) := by decide +kernel
theorem dL_law_542 : decode cL_law 542 = .ok (.iload_n 3, 1) := by decide +kernel
theorem dL_law_543 : decode cL_law 543 = .ok (.iconst 1, 1) := by decide +kernel
theorem dL_law_544 : decode cL_law 544 = .ok (.iadd, 1) := by decide +kernel
theorem dL_law_545 : decode cL_law 545 = .ok (.iaload, 1) := by decide +kernel
theorem dL_law_546 : decode cL_law 546 = .ok (.aload_n 0, 1) := by decide +kernel
theorem dL_law_547 : decode cL_law 547 = .ok (.iload_n 3, 1) := by decide +kernel
theorem dL_law_548 : decode cL_law 548 = .ok (.iconst 2, 1) := by decide +kernel
theorem dL_law_549 : decode cL_law 549 = .ok (.iadd, 1) := by decide +kernel
theorem dL_law_550 : decode cL_law 550 = .ok (.iaload, 1) := by decide +kernel
theorem dL_law_551 : decode cL_law 551 = .ok (.invokevirtual 74, 3) := by decide +kernel
theorem dL_law_554 : decode cL_law 554 = .ok (.aload_n 2, 1) := by decide +kernel
theorem dL_law_555 : decode cL_law 555 = .ok (.aload_n 0, 1) := by decide +kernel
theorem dL_law_556 : decode cL_law 556 = .ok (.iload_n 3, 1) := by decide +kernel
theorem dL_law_557 : decode cL_law 557 = .ok (.iconst 1, 1) := by decide +kernel
theorem dL_law_558 : decode cL_law 558 = .ok (.iadd, 1) := by decide +kernel
theorem dL_law_559 : decode cL_law 559 = .ok (.iaload, 1) := by decide +kernel
theorem dL_law_560 : decode cL_law 560 = .ok (.aload_n 0, 1) := by decide +kernel
theorem dL_law_561 : decode cL_law 561 = .ok (.iload_n 3, 1) := by decide +kernel
theorem dL_law_562 : decode cL_law 562 = .ok (.iconst 2, 1) := by decide +kernel
theorem dL_law_563 : decode cL_law 563 = .ok (.iadd, 1) := by decide +kernel
theorem dL_law_564 : decode cL_law 564 = .ok (.iaload, 1) := by decide +kernel
theorem dL_law_565 : decode cL_law 565 = .ok (.invokevirtual 77, 3) := by decide +kernel
theorem dL_law_568 : decode cL_law 568 = .ok (.if_icmp .eq 276, 3) := by decide +kernel
theorem dL_law_573 : decode cL_law 573 = .ok (.aload_n 1, 1) := by decide +kernel
theorem dL_law_574 : decode cL_law 574 = .ok (.aload_n 0, 1) := by decide +kernel
theorem dL_law_575 : decode cL_law 575 = .ok (.iload_n 3, 1) := by decide +kernel
theorem dL_law_576 : decode cL_law 576 = .ok (.iconst 1, 1) := by decide +kernel
theorem dL_law_577 : decode cL_law 577 = .ok (.iadd, 1) := by decide +kernel
theorem dL_law_578 : decode cL_law 578 = .ok (.iaload, 1) := by decide +kernel
theorem dL_law_579 : decode cL_law 579 = .ok (.aload_n 0, 1) := by decide +kernel
theorem dL_law_580 : decode cL_law 580 = .ok (.iload_n 3, 1) := by decide +kernel
theorem dL_law_581 : decode cL_law 581 = .ok (.iconst 2, 1) := by decide +kernel
theorem dL_law_582 : decode cL_law 582 = .ok (.iadd, 1) := by decide +kernel
theorem dL_law_583 : decode cL_law 583 = .ok (.iaload, 1) := by decide +kernel
theorem dL_law_584 : decode cL_law 584 = .ok (.aload_n 0, 1) := by decide +kernel
theorem dL_law_585 : decode cL_law 585 = .ok (.iload_n 3, 1) := by decide +kernel
theorem dL_law_586 : decode cL_law 586 = .ok (.iconst 3, 1) := by decide +kernel
theorem dL_law_587 : decode cL_law 587 = .ok (.iadd, 1) := by decide +kernel
theorem dL_law_588 : decode cL_law 588 = .ok (.iaload, 1) := by decide +kernel
theorem dL_law_589 : decode cL_law 589 = .ok (.invokevirtual 78, 3) := by decide +kernel
theorem dL_law_592 : decode cL_law 592 = .ok (.aload_n 2, 1) := by decide +kernel
theorem dL_law_593 : decode cL_law 593 = .ok (.aload_n 0, 1) := by decide +kernel
theorem dL_law_594 : decode cL_law 594 = .ok (.iload_n 3, 1) := by decide +kernel
theorem dL_law_595 : decode cL_law 595 = .ok (.iconst 1, 1) := by decide +kernel
theorem dL_law_596 : decode cL_law 596 = .ok (.iadd, 1) := by decide +kernel
theorem dL_law_597 : decode cL_law 597 = .ok (.iaload, 1) := by decide +kernel
theorem dL_law_598 : decode cL_law 598 = .ok (.aload_n 0, 1) := by decide +kernel
theorem dL_law_599 : decode cL_law 599 = .ok (.iload_n 3, 1) := by decide +kernel
theorem dL_law_600 : decode cL_law 600 = .ok (.iconst 2, 1) := by decide +kernel
theorem dL_law_601 : decode cL_law 601 = .ok (.iadd, 1) := by decide +kernel
theorem dL_law_602 : decode cL_law 602 = .ok (.iaload, 1) := by decide +kernel
theorem dL_law_603 : decode cL_law 603 = .ok (.aload_n 0, 1) := by decide +kernel
theorem dL_law_604 : decode cL_law 604 = .ok (.iload_n 3, 1) := by decide +kernel
theorem dL_law_605 : decode cL_law 605 = .ok (.iconst 3, 1) := by decide +kernel
theorem dL_law_606 : decode cL_law 606 = .ok (.iadd, 1) := by decide +kernel
theorem dL_law_607 : decode cL_law 607 = .ok (.iaload, 1) := by decide +kernel
theorem dL_law_608 : decode cL_law 608 = .ok (.invokevirtual 81, 3) := by decide +kernel
theorem dL_law_611 : decode cL_law 611 = .ok (.if_icmp .eq 233, 3) := by decide +kernel
theorem dL_law_616 : decode cL_law 616 = .ok (.aload_n 1, 1) := by decide +kernel
theorem dL_law_617 : decode cL_law 617 = .ok (.aload_n 0, 1) := by decide +kernel
theorem dL_law_618 : decode cL_law 618 = .ok (.iload_n 3, 1) := by decide +kernel
theorem dL_law_619 : decode cL_law 619 = .ok (.iconst 1, 1) := by decide +kernel
theorem dL_law_620 : decode cL_law 620 = .ok (.iadd, 1) := by decide +kernel
theorem dL_law_621 : decode cL_law 621 = .ok (.iaload, 1) := by decide +kernel
theorem dL_law_622 : decode cL_law 622 = .ok (.aload_n 0, 1) := by decide +kernel
theorem dL_law_623 : decode cL_law 623 = .ok (.iload_n 3, 1) := by decide +kernel
theorem dL_law_624 : decode cL_law 624 = .ok (.iconst 2, 1) := by decide +kernel
theorem dL_law_625 : decode cL_law 625 = .ok (.iadd, 1) := by decide +kernel
theorem dL_law_626 : decode cL_law 626 = .ok (.iaload, 1) := by decide +kernel
theorem dL_law_627 : decode cL_law 627 = .ok (.invokevirtual 82, 3) := by decide +kernel
theorem dL_law_630 : decode cL_law 630 = .ok (.aload_n 2, 1) := by decide +kernel
theorem dL_law_631 : decode cL_law 631 = .ok (.aload_n 0, 1) := by decide +kernel
theorem dL_law_632 : decode cL_law 632 = .ok (.iload_n 3, 1) := by decide +kernel
theorem dL_law_633 : decode cL_law 633 = .ok (.iconst 1, 1) := by decide +kernel
theorem dL_law_634 : decode cL_law 634 = .ok (.iadd, 1) := by decide +kernel
theorem dL_law_635 : decode cL_law 635 = .ok (.iaload, 1) := by decide +kernel
theorem dL_law_636 : decode cL_law 636 = .ok (.aload_n 0, 1) := by decide +kernel
theorem dL_law_637 : decode cL_law 637 = .ok (.iload_n 3, 1) := by decide +kernel
theorem dL_law_638 : decode cL_law 638 = .ok (.iconst 2, 1) := by decide +kernel
theorem dL_law_639 : decode cL_law 639 = .ok (.iadd, 1) := by decide +kernel
theorem dL_law_640 : decode cL_law 640 = .ok (.iaload, 1) := by decide +kernel
theorem dL_law_641 : decode cL_law 641 = .ok (.invokevirtual 85, 3) := by decide +kernel
theorem dL_law_644 : decode cL_law 644 = .ok (.if_icmp .eq 200, 3) := by decide +kernel
theorem dL_law_649 : decode cL_law 649 = .ok (.aload_n 1, 1) := by decide +kernel
theorem dL_law_650 : decode cL_law 650 = .ok (.aload_n 0, 1) := by decide +kernel
theorem dL_law_651 : decode cL_law 651 = .ok (.iload_n 3, 1) := by decide +kernel
theorem dL_law_652 : decode cL_law 652 = .ok (.iconst 1, 1) := by decide +kernel
theorem dL_law_653 : decode cL_law 653 = .ok (.iadd, 1) := by decide +kernel
theorem dL_law_654 : decode cL_law 654 = .ok (.iaload, 1) := by decide +kernel
theorem dL_law_655 : decode cL_law 655 = .ok (.invokevirtual 86, 3) := by decide +kernel
theorem dL_law_658 : decode cL_law 658 = .ok (.aload_n 2, 1) := by decide +kernel
theorem dL_law_659 : decode cL_law 659 = .ok (.aload_n 0, 1) := by decide +kernel
theorem dL_law_660 : decode cL_law 660 = .ok (.iload_n 3, 1) := by decide +kernel
theorem dL_law_661 : decode cL_law 661 = .ok (.iconst 1, 1) := by decide +kernel
theorem dL_law_662 : decode cL_law 662 = .ok (.iadd, 1) := by decide +kernel
theorem dL_law_663 : decode cL_law 663 = .ok (.iaload, 1) := by decide +kernel
theorem dL_law_664 : decode cL_law 664 = .ok (.invokevirtual 90, 3) := by decide +kernel
theorem dL_law_667 : decode cL_law 667 = .ok (.lcmp, 1) := by decide +kernel
theorem dL_law_668 : decode cL_law 668 = .ok (.ifCond .eq 176, 3) := by decide +kernel
theorem dL_law_673 : decode cL_law 673 = .ok (.aload_n 1, 1) := by decide +kernel
theorem dL_law_674 : decode cL_law 674 = .ok (.aload_n 0, 1) := by decide +kernel
theorem dL_law_675 : decode cL_law 675 = .ok (.iload_n 3, 1) := by decide +kernel
theorem dL_law_676 : decode cL_law 676 = .ok (.iconst 1, 1) := by decide +kernel
theorem dL_law_677 : decode cL_law 677 = .ok (.iadd, 1) := by decide +kernel
theorem dL_law_678 : decode cL_law 678 = .ok (.iaload, 1) := by decide +kernel
theorem dL_law_679 : decode cL_law 679 = .ok (.aload_n 0, 1) := by decide +kernel
theorem dL_law_680 : decode cL_law 680 = .ok (.iload_n 3, 1) := by decide +kernel
theorem dL_law_681 : decode cL_law 681 = .ok (.iconst 2, 1) := by decide +kernel
theorem dL_law_682 : decode cL_law 682 = .ok (.iadd, 1) := by decide +kernel
theorem dL_law_683 : decode cL_law 683 = .ok (.iaload, 1) := by decide +kernel
theorem dL_law_684 : decode cL_law 684 = .ok (.aload_n 0, 1) := by decide +kernel
theorem dL_law_685 : decode cL_law 685 = .ok (.iload_n 3, 1) := by decide +kernel
theorem dL_law_686 : decode cL_law 686 = .ok (.iconst 3, 1) := by decide +kernel
theorem dL_law_687 : decode cL_law 687 = .ok (.iadd, 1) := by decide +kernel
theorem dL_law_688 : decode cL_law 688 = .ok (.iaload, 1) := by decide +kernel
theorem dL_law_689 : decode cL_law 689 = .ok (.invokevirtual 91, 3) := by decide +kernel
theorem dL_law_692 : decode cL_law 692 = .ok (.aload_n 2, 1) := by decide +kernel
theorem dL_law_693 : decode cL_law 693 = .ok (.aload_n 0, 1) := by decide +kernel
theorem dL_law_694 : decode cL_law 694 = .ok (.iload_n 3, 1) := by decide +kernel
theorem dL_law_695 : decode cL_law 695 = .ok (.iconst 1, 1) := by decide +kernel
theorem dL_law_696 : decode cL_law 696 = .ok (.iadd, 1) := by decide +kernel
theorem dL_law_697 : decode cL_law 697 = .ok (.iaload, 1) := by decide +kernel
theorem dL_law_698 : decode cL_law 698 = .ok (.aload_n 0, 1) := by decide +kernel
theorem dL_law_699 : decode cL_law 699 = .ok (.iload_n 3, 1) := by decide +kernel
theorem dL_law_700 : decode cL_law 700 = .ok (.iconst 2, 1) := by decide +kernel
theorem dL_law_701 : decode cL_law 701 = .ok (.iadd, 1) := by decide +kernel
theorem dL_law_702 : decode cL_law 702 = .ok (.iaload, 1) := by decide +kernel
theorem dL_law_703 : decode cL_law 703 = .ok (.aload_n 0, 1) := by decide +kernel
theorem dL_law_704 : decode cL_law 704 = .ok (.iload_n 3, 1) := by decide +kernel
theorem dL_law_705 : decode cL_law 705 = .ok (.iconst 3, 1) := by decide +kernel
theorem dL_law_706 : decode cL_law 706 = .ok (.iadd, 1) := by decide +kernel
theorem dL_law_707 : decode cL_law 707 = .ok (.iaload, 1) := by decide +kernel
theorem dL_law_708 : decode cL_law 708 = .ok (.invokevirtual 94, 3) := by decide +kernel
theorem dL_law_711 : decode cL_law 711 = .ok (.if_icmp .eq 133, 3) := by decide +kernel
theorem dL_law_716 : decode cL_law 716 = .ok (.aload_n 1, 1) := by decide +kernel
theorem dL_law_717 : decode cL_law 717 = .ok (.aload_n 0, 1) := by decide +kernel
theorem dL_law_718 : decode cL_law 718 = .ok (.iload_n 3, 1) := by decide +kernel
theorem dL_law_719 : decode cL_law 719 = .ok (.iconst 1, 1) := by decide +kernel
theorem dL_law_720 : decode cL_law 720 = .ok (.iadd, 1) := by decide +kernel
theorem dL_law_721 : decode cL_law 721 = .ok (.iaload, 1) := by decide +kernel
theorem dL_law_722 : decode cL_law 722 = .ok (.invokevirtual 95, 3) := by decide +kernel
theorem dL_law_725 : decode cL_law 725 = .ok (.aload_n 2, 1) := by decide +kernel
theorem dL_law_726 : decode cL_law 726 = .ok (.aload_n 0, 1) := by decide +kernel
theorem dL_law_727 : decode cL_law 727 = .ok (.iload_n 3, 1) := by decide +kernel
theorem dL_law_728 : decode cL_law 728 = .ok (.iconst 1, 1) := by decide +kernel
theorem dL_law_729 : decode cL_law 729 = .ok (.iadd, 1) := by decide +kernel
theorem dL_law_730 : decode cL_law 730 = .ok (.iaload, 1) := by decide +kernel
theorem dL_law_731 : decode cL_law 731 = .ok (.invokevirtual 98, 3) := by decide +kernel
theorem dL_law_734 : decode cL_law 734 = .ok (.if_icmp .eq 110, 3) := by decide +kernel
theorem dL_law_739 : decode cL_law 739 = .ok (.aload_n 1, 1) := by decide +kernel
theorem dL_law_740 : decode cL_law 740 = .ok (.aload_n 0, 1) := by decide +kernel
theorem dL_law_741 : decode cL_law 741 = .ok (.iload_n 3, 1) := by decide +kernel
theorem dL_law_742 : decode cL_law 742 = .ok (.iconst 1, 1) := by decide +kernel
theorem dL_law_743 : decode cL_law 743 = .ok (.iadd, 1) := by decide +kernel
theorem dL_law_744 : decode cL_law 744 = .ok (.iaload, 1) := by decide +kernel
theorem dL_law_745 : decode cL_law 745 = .ok (.invokevirtual 99, 3) := by decide +kernel
theorem dL_law_748 : decode cL_law 748 = .ok (.aload_n 2, 1) := by decide +kernel
theorem dL_law_749 : decode cL_law 749 = .ok (.aload_n 0, 1) := by decide +kernel
theorem dL_law_750 : decode cL_law 750 = .ok (.iload_n 3, 1) := by decide +kernel
theorem dL_law_751 : decode cL_law 751 = .ok (.iconst 1, 1) := by decide +kernel
theorem dL_law_752 : decode cL_law 752 = .ok (.iadd, 1) := by decide +kernel
theorem dL_law_753 : decode cL_law 753 = .ok (.iaload, 1) := by decide +kernel
theorem dL_law_754 : decode cL_law 754 = .ok (.invokevirtual 102, 3) := by decide +kernel
theorem dL_law_757 : decode cL_law 757 = .ok (.if_icmp .eq 87, 3) := by decide +kernel
theorem dL_law_762 : decode cL_law 762 = .ok (.aload_n 1, 1) := by decide +kernel
theorem dL_law_763 : decode cL_law 763 = .ok (.aload_n 0, 1) := by decide +kernel
theorem dL_law_764 : decode cL_law 764 = .ok (.iload_n 3, 1) := by decide +kernel
theorem dL_law_765 : decode cL_law 765 = .ok (.iconst 1, 1) := by decide +kernel
theorem dL_law_766 : decode cL_law 766 = .ok (.iadd, 1) := by decide +kernel
theorem dL_law_767 : decode cL_law 767 = .ok (.iaload, 1) := by decide +kernel
theorem dL_law_768 : decode cL_law 768 = .ok (.invokevirtual 103, 3) := by decide +kernel
theorem dL_law_771 : decode cL_law 771 = .ok (.aload_n 2, 1) := by decide +kernel
theorem dL_law_772 : decode cL_law 772 = .ok (.aload_n 0, 1) := by decide +kernel
theorem dL_law_773 : decode cL_law 773 = .ok (.iload_n 3, 1) := by decide +kernel
theorem dL_law_774 : decode cL_law 774 = .ok (.iconst 1, 1) := by decide +kernel
theorem dL_law_775 : decode cL_law 775 = .ok (.iadd, 1) := by decide +kernel
theorem dL_law_776 : decode cL_law 776 = .ok (.iaload, 1) := by decide +kernel
theorem dL_law_777 : decode cL_law 777 = .ok (.invokevirtual 106, 3) := by decide +kernel
theorem dL_law_780 : decode cL_law 780 = .ok (.if_icmp .eq 64, 3) := by decide +kernel
theorem dL_law_785 : decode cL_law 785 = .ok (.aload_n 1, 1) := by decide +kernel
theorem dL_law_786 : decode cL_law 786 = .ok (.aload_n 0, 1) := by decide +kernel
theorem dL_law_787 : decode cL_law 787 = .ok (.iload_n 3, 1) := by decide +kernel
theorem dL_law_788 : decode cL_law 788 = .ok (.iconst 1, 1) := by decide +kernel
theorem dL_law_789 : decode cL_law 789 = .ok (.iadd, 1) := by decide +kernel
theorem dL_law_790 : decode cL_law 790 = .ok (.iaload, 1) := by decide +kernel
theorem dL_law_791 : decode cL_law 791 = .ok (.invokevirtual 107, 3) := by decide +kernel
theorem dL_law_794 : decode cL_law 794 = .ok (.aload_n 2, 1) := by decide +kernel
theorem dL_law_795 : decode cL_law 795 = .ok (.aload_n 0, 1) := by decide +kernel
theorem dL_law_796 : decode cL_law 796 = .ok (.iload_n 3, 1) := by decide +kernel
theorem dL_law_797 : decode cL_law 797 = .ok (.iconst 1, 1) := by decide +kernel
theorem dL_law_798 : decode cL_law 798 = .ok (.iadd, 1) := by decide +kernel
theorem dL_law_799 : decode cL_law 799 = .ok (.iaload, 1) := by decide +kernel
theorem dL_law_800 : decode cL_law 800 = .ok (.invokevirtual 110, 3) := by decide +kernel
theorem dL_law_803 : decode cL_law 803 = .ok (.if_icmp .eq 41, 3) := by decide +kernel
theorem dL_law_808 : decode cL_law 808 = .ok (.aload_n 1, 1) := by decide +kernel
theorem dL_law_809 : decode cL_law 809 = .ok (.aload_n 0, 1) := by decide +kernel
theorem dL_law_810 : decode cL_law 810 = .ok (.iload_n 3, 1) := by decide +kernel
theorem dL_law_811 : decode cL_law 811 = .ok (.iconst 1, 1) := by decide +kernel
theorem dL_law_812 : decode cL_law 812 = .ok (.iadd, 1) := by decide +kernel
theorem dL_law_813 : decode cL_law 813 = .ok (.iaload, 1) := by decide +kernel
theorem dL_law_814 : decode cL_law 814 = .ok (.invokevirtual 111, 3) := by decide +kernel
theorem dL_law_817 : decode cL_law 817 = .ok (.aload_n 2, 1) := by decide +kernel
theorem dL_law_818 : decode cL_law 818 = .ok (.aload_n 0, 1) := by decide +kernel
theorem dL_law_819 : decode cL_law 819 = .ok (.iload_n 3, 1) := by decide +kernel
theorem dL_law_820 : decode cL_law 820 = .ok (.iconst 1, 1) := by decide +kernel
theorem dL_law_821 : decode cL_law 821 = .ok (.iadd, 1) := by decide +kernel
theorem dL_law_822 : decode cL_law 822 = .ok (.iaload, 1) := by decide +kernel
theorem dL_law_823 : decode cL_law 823 = .ok (.invokevirtual 114, 3) := by decide +kernel
theorem dL_law_826 : decode cL_law 826 = .ok (.if_icmp .eq 18, 3) := by decide +kernel
theorem dL_law_831 : decode cL_law 831 = .ok (.aload_n 1, 1) := by decide +kernel
theorem dL_law_832 : decode cL_law 832 = .ok (.invokevirtual 115, 3) := by decide +kernel
theorem dL_law_835 : decode cL_law 835 = .ok (.aload_n 2, 1) := by decide +kernel
theorem dL_law_836 : decode cL_law 836 = .ok (.invokevirtual 118, 3) := by decide +kernel
theorem dL_law_839 : decode cL_law 839 = .ok (.if_icmp .eq 5, 3) := by decide +kernel
theorem dL_law_844 : decode cL_law 844 = .ok (.iinc 3 6, 3) := by decide +kernel
theorem dL_law_847 : decode cL_law 847 = .ok (.goto (-829), 3) := by decide +kernel
theorem dL_law_850 : decode cL_law 850 = .ok (.iconst 1, 1) := by decide +kernel
theorem dL_law_851 : decode cL_law 851 = .ok (.ireturn, 1) := by decide +kernel
theorem dX0_init_0 : decode cX0_init 0 = .ok (.aload_n 0, 1) := by decide +kernel
theorem dX0_init_1 : decode cX0_init 1 = .ok (.invokespecial 3, 3) := by decide +kernel
theorem dX0_init_4 : decode cX0_init 4 = .ok (.aload_n 0, 1) := by decide +kernel
theorem dX0_init_5 : decode cX0_init 5 = .ok (.sipush 1500, 3) := by decide +kernel
theorem dX0_init_8 : decode cX0_init 8 = .ok (.newarray .int, 2) := by decide +kernel
theorem dX0_init_10 : decode cX0_init 10 = .ok (.putfield 9, 3) := by decide +kernel
theorem dX0_init_13 : decode cX0_init 13 = .ok (.aload_n 0, 1) := by decide +kernel
theorem dX0_init_14 : decode cX0_init 14 = .ok (.sipush 1500, 3) := by decide +kernel
theorem dX0_init_17 : decode cX0_init 17 = .ok (.newarray .int, 2) := by decide +kernel
theorem dX0_init_19 : decode cX0_init 19 = .ok (.putfield 15, 3) := by decide +kernel
theorem dX0_init_22 : decode cX0_init 22 = .ok (.aload_n 0, 1) := by decide +kernel
theorem dX0_init_23 : decode cX0_init 23 = .ok (.ldc 18, 2) := by decide +kernel
theorem dX0_init_25 : decode cX0_init 25 = .ok (.newarray .int, 2) := by decide +kernel
theorem dX0_init_27 : decode cX0_init 27 = .ok (.putfield 19, 3) := by decide +kernel
theorem dX0_init_30 : decode cX0_init 30 = .ok (.aload_n 0, 1) := by decide +kernel
theorem dX0_init_31 : decode cX0_init 31 = .ok (.sipush 1500, 3) := by decide +kernel
theorem dX0_init_34 : decode cX0_init 34 = .ok (.newarray .int, 2) := by decide +kernel
theorem dX0_init_36 : decode cX0_init 36 = .ok (.putfield 22, 3) := by decide +kernel
theorem dX0_init_39 : decode cX0_init 39 = .ok (.aload_n 0, 1) := by decide +kernel
theorem dX0_init_40 : decode cX0_init 40 = .ok (.sipush 1500, 3) := by decide +kernel
theorem dX0_init_43 : decode cX0_init 43 = .ok (.newarray .int, 2) := by decide +kernel
theorem dX0_init_45 : decode cX0_init 45 = .ok (.putfield 25, 3) := by decide +kernel
theorem dX0_init_48 : decode cX0_init 48 = .ok (.aload_n 0, 1) := by decide +kernel
theorem dX0_init_49 : decode cX0_init 49 = .ok (.sipush 20000, 3) := by decide +kernel
theorem dX0_init_52 : decode cX0_init 52 = .ok (.newarray .int, 2) := by decide +kernel
theorem dX0_init_54 : decode cX0_init 54 = .ok (.putfield 28, 3) := by decide +kernel
theorem dX0_init_57 : decode cX0_init 57 = .ok (.aload_n 0, 1) := by decide +kernel
theorem dX0_init_58 : decode cX0_init 58 = .ok (.sipush 1500, 3) := by decide +kernel
theorem dX0_init_61 : decode cX0_init 61 = .ok (.newarray .int, 2) := by decide +kernel
theorem dX0_init_63 : decode cX0_init 63 = .ok (.putfield 31, 3) := by decide +kernel
theorem dX0_init_66 : decode cX0_init 66 = .ok (.aload_n 0, 1) := by decide +kernel
theorem dX0_init_67 : decode cX0_init 67 = .ok (.sipush 1500, 3) := by decide +kernel
theorem dX0_init_70 : decode cX0_init 70 = .ok (.newarray .int, 2) := by decide +kernel
theorem dX0_init_72 : decode cX0_init 72 = .ok (.putfield 34, 3) := by decide +kernel
theorem dX0_init_75 : decode cX0_init 75 = .ok (.aload_n 0, 1) := by decide +kernel
theorem dX0_init_76 : decode cX0_init 76 = .ok (.sipush 20000, 3) := by decide +kernel
theorem dX0_init_79 : decode cX0_init 79 = .ok (.newarray .int, 2) := by decide +kernel
theorem dX0_init_81 : decode cX0_init 81 = .ok (.putfield 37, 3) := by decide +kernel
theorem dX0_init_84 : decode cX0_init 84 = .ok (.aload_n 0, 1) := by decide +kernel
theorem dX0_init_85 : decode cX0_init 85 = .ok (.sipush 20001, 3) := by decide +kernel
theorem dX0_init_88 : decode cX0_init 88 = .ok (.newarray .int, 2) := by decide +kernel
theorem dX0_init_90 : decode cX0_init 90 = .ok (.putfield 40, 3) := by decide +kernel
theorem dX0_init_93 : decode cX0_init 93 = .ok (.aload_n 0, 1) := by decide +kernel
theorem dX0_init_94 : decode cX0_init 94 = .ok (.sipush 20000, 3) := by decide +kernel
theorem dX0_init_97 : decode cX0_init 97 = .ok (.newarray .int, 2) := by decide +kernel
theorem dX0_init_99 : decode cX0_init 99 = .ok (.putfield 43, 3) := by decide +kernel
theorem dX0_init_102 : decode cX0_init 102 = .ok (.aload_n 0, 1) := by decide +kernel
theorem dX0_init_103 : decode cX0_init 103 = .ok (.sipush 20000, 3) := by decide +kernel
theorem dX0_init_106 : decode cX0_init 106 = .ok (.newarray .long, 2) := by decide +kernel
theorem dX0_init_108 : decode cX0_init 108 = .ok (.putfield 46, 3) := by decide +kernel
theorem dX0_init_111 : decode cX0_init 111 = .ok (.aload_n 0, 1) := by decide +kernel
theorem dX0_init_112 : decode cX0_init 112 = .ok (.ldc 50, 2) := by decide +kernel
theorem dX0_init_114 : decode cX0_init 114 = .ok (.newarray .long, 2) := by decide +kernel
theorem dX0_init_116 : decode cX0_init 116 = .ok (.putfield 51, 3) := by decide +kernel
theorem dX0_init_119 : decode cX0_init 119 = .ok (.aload_n 0, 1) := by decide +kernel
theorem dX0_init_120 : decode cX0_init 120 = .ok (.iconst 4, 1) := by decide +kernel
theorem dX0_init_121 : decode cX0_init 121 = .ok (.newarray .int, 2) := by decide +kernel
theorem dX0_init_123 : decode cX0_init 123 = .ok (.putfield 54, 3) := by decide +kernel
theorem dX0_init_126 : decode cX0_init 126 = .ok (.aload_n 0, 1) := by decide +kernel
theorem dX0_init_127 : decode cX0_init 127 = .ok (.aload_n 1, 1) := by decide +kernel
theorem dX0_init_128 : decode cX0_init 128 = .ok (.putfield 57, 3) := by decide +kernel
theorem dX0_init_131 : decode cX0_init 131 = .ok (.aload_n 0, 1) := by decide +kernel
theorem dX0_init_132 : decode cX0_init 132 = .ok (.aload_n 2, 1) := by decide +kernel
theorem dX0_init_133 : decode cX0_init 133 = .ok (.putfield 61, 3) := by decide +kernel
theorem dX0_init_136 : decode cX0_init 136 = .ok (.return_, 1) := by decide +kernel
theorem dX0_keep_0 : decode cX0_keep 0 = .ok (.aload_n 0, 1) := by decide +kernel
theorem dX0_keep_1 : decode cX0_keep 1 = .ok (.getfield 54, 3) := by decide +kernel
theorem dX0_keep_4 : decode cX0_keep 4 = .ok (.iconst 0, 1) := by decide +kernel
theorem dX0_keep_5 : decode cX0_keep 5 = .ok (.aload_n 0, 1) := by decide +kernel
theorem dX0_keep_6 : decode cX0_keep 6 = .ok (.getfield 65, 3) := by decide +kernel
theorem dX0_keep_9 : decode cX0_keep 9 = .ok (.iastore, 1) := by decide +kernel
theorem dX0_keep_10 : decode cX0_keep 10 = .ok (.aload_n 0, 1) := by decide +kernel
theorem dX0_keep_11 : decode cX0_keep 11 = .ok (.getfield 54, 3) := by decide +kernel
theorem dX0_keep_14 : decode cX0_keep 14 = .ok (.iconst 1, 1) := by decide +kernel
theorem dX0_keep_15 : decode cX0_keep 15 = .ok (.aload_n 0, 1) := by decide +kernel
theorem dX0_keep_16 : decode cX0_keep 16 = .ok (.getfield 69, 3) := by decide +kernel
theorem dX0_keep_19 : decode cX0_keep 19 = .ok (.iastore, 1) := by decide +kernel
theorem dX0_keep_20 : decode cX0_keep 20 = .ok (.aload_n 0, 1) := by decide +kernel
theorem dX0_keep_21 : decode cX0_keep 21 = .ok (.getfield 54, 3) := by decide +kernel
theorem dX0_keep_24 : decode cX0_keep 24 = .ok (.iconst 2, 1) := by decide +kernel
theorem dX0_keep_25 : decode cX0_keep 25 = .ok (.aload_n 0, 1) := by decide +kernel
theorem dX0_keep_26 : decode cX0_keep 26 = .ok (.getfield 72, 3) := by decide +kernel
theorem dX0_keep_29 : decode cX0_keep 29 = .ok (.iastore, 1) := by decide +kernel
theorem dX0_keep_30 : decode cX0_keep 30 = .ok (.aload_n 0, 1) := by decide +kernel
theorem dX0_keep_31 : decode cX0_keep 31 = .ok (.getfield 54, 3) := by decide +kernel
theorem dX0_keep_34 : decode cX0_keep 34 = .ok (.iconst 3, 1) := by decide +kernel
theorem dX0_keep_35 : decode cX0_keep 35 = .ok (.aload_n 0, 1) := by decide +kernel
theorem dX0_keep_36 : decode cX0_keep 36 = .ok (.getfield 75, 3) := by decide +kernel
theorem dX0_keep_39 : decode cX0_keep 39 = .ok (.iastore, 1) := by decide +kernel
theorem dX0_keep_40 : decode cX0_keep 40 = .ok (.return_, 1) := by decide +kernel
theorem dX10_init_0 : decode cX10_init 0 = .ok (.aload_n 0, 1) := by decide +kernel
theorem dX10_init_1 : decode cX10_init 1 = .ok (.invokespecial 3, 3) := by decide +kernel
theorem dX10_init_4 : decode cX10_init 4 = .ok (.aload_n 0, 1) := by decide +kernel
theorem dX10_init_5 : decode cX10_init 5 = .ok (.sipush 20000, 3) := by decide +kernel
theorem dX10_init_8 : decode cX10_init 8 = .ok (.newarray .int, 2) := by decide +kernel
theorem dX10_init_10 : decode cX10_init 10 = .ok (.putfield 9, 3) := by decide +kernel
theorem dX10_init_13 : decode cX10_init 13 = .ok (.aload_n 0, 1) := by decide +kernel
theorem dX10_init_14 : decode cX10_init 14 = .ok (.sipush 20000, 3) := by decide +kernel
theorem dX10_init_17 : decode cX10_init 17 = .ok (.newarray .int, 2) := by decide +kernel
theorem dX10_init_19 : decode cX10_init 19 = .ok (.putfield 15, 3) := by decide +kernel
theorem dX10_init_22 : decode cX10_init 22 = .ok (.aload_n 0, 1) := by decide +kernel
theorem dX10_init_23 : decode cX10_init 23 = .ok (.sipush 300, 3) := by decide +kernel
theorem dX10_init_26 : decode cX10_init 26 = .ok (.newarray .int, 2) := by decide +kernel
theorem dX10_init_28 : decode cX10_init 28 = .ok (.putfield 18, 3) := by decide +kernel
theorem dX10_init_31 : decode cX10_init 31 = .ok (.aload_n 0, 1) := by decide +kernel
theorem dX10_init_32 : decode cX10_init 32 = .ok (.sipush 200, 3) := by decide +kernel
theorem dX10_init_35 : decode cX10_init 35 = .ok (.newarray .int, 2) := by decide +kernel
theorem dX10_init_37 : decode cX10_init 37 = .ok (.putfield 21, 3) := by decide +kernel
theorem dX10_init_40 : decode cX10_init 40 = .ok (.aload_n 0, 1) := by decide +kernel
theorem dX10_init_41 : decode cX10_init 41 = .ok (.sipush 300, 3) := by decide +kernel
theorem dX10_init_44 : decode cX10_init 44 = .ok (.newarray .int, 2) := by decide +kernel
theorem dX10_init_46 : decode cX10_init 46 = .ok (.putfield 24, 3) := by decide +kernel
theorem dX10_init_49 : decode cX10_init 49 = .ok (.aload_n 0, 1) := by decide +kernel
theorem dX10_init_50 : decode cX10_init 50 = .ok (.aload_n 1, 1) := by decide +kernel
theorem dX10_init_51 : decode cX10_init 51 = .ok (.putfield 27, 3) := by decide +kernel
theorem dX10_init_54 : decode cX10_init 54 = .ok (.aload_n 0, 1) := by decide +kernel
theorem dX10_init_55 : decode cX10_init 55 = .ok (.aload_n 2, 1) := by decide +kernel
theorem dX10_init_56 : decode cX10_init 56 = .ok (.putfield 31, 3) := by decide +kernel
theorem dX10_init_59 : decode cX10_init 59 = .ok (.aload_n 0, 1) := by decide +kernel
theorem dX10_init_60 : decode cX10_init 60 = .ok (.aload_n 3, 1) := by decide +kernel
theorem dX10_init_61 : decode cX10_init 61 = .ok (.putfield 35, 3) := by decide +kernel
theorem dX10_init_64 : decode cX10_init 64 = .ok (.aload_n 0, 1) := by decide +kernel
theorem dX10_init_65 : decode cX10_init 65 = .ok (.aload 4, 2) := by decide +kernel
theorem dX10_init_67 : decode cX10_init 67 = .ok (.putfield 39, 3) := by decide +kernel
theorem dX10_init_70 : decode cX10_init 70 = .ok (.return_, 1) := by decide +kernel
theorem dX11_init_0 : decode cX11_init 0 = .ok (.aload_n 0, 1) := by decide +kernel
theorem dX11_init_1 : decode cX11_init 1 = .ok (.invokespecial 3, 3) := by decide +kernel
theorem dX11_init_4 : decode cX11_init 4 = .ok (.aload_n 0, 1) := by decide +kernel
theorem dX11_init_5 : decode cX11_init 5 = .ok (.sipush 12000, 3) := by decide +kernel
theorem dX11_init_8 : decode cX11_init 8 = .ok (.newarray .int, 2) := by decide +kernel
theorem dX11_init_10 : decode cX11_init 10 = .ok (.putfield 9, 3) := by decide +kernel
theorem dX11_init_13 : decode cX11_init 13 = .ok (.aload_n 0, 1) := by decide +kernel
theorem dX11_init_14 : decode cX11_init 14 = .ok (.sipush 12000, 3) := by decide +kernel
theorem dX11_init_17 : decode cX11_init 17 = .ok (.newarray .int, 2) := by decide +kernel
theorem dX11_init_19 : decode cX11_init 19 = .ok (.putfield 15, 3) := by decide +kernel
theorem dX11_init_22 : decode cX11_init 22 = .ok (.aload_n 0, 1) := by decide +kernel
theorem dX11_init_23 : decode cX11_init 23 = .ok (.sipush 12000, 3) := by decide +kernel
theorem dX11_init_26 : decode cX11_init 26 = .ok (.newarray .int, 2) := by decide +kernel
theorem dX11_init_28 : decode cX11_init 28 = .ok (.putfield 18, 3) := by decide +kernel
theorem dX11_init_31 : decode cX11_init 31 = .ok (.aload_n 0, 1) := by decide +kernel
theorem dX11_init_32 : decode cX11_init 32 = .ok (.sipush 12000, 3) := by decide +kernel
theorem dX11_init_35 : decode cX11_init 35 = .ok (.newarray .int, 2) := by decide +kernel
theorem dX11_init_37 : decode cX11_init 37 = .ok (.putfield 21, 3) := by decide +kernel
theorem dX11_init_40 : decode cX11_init 40 = .ok (.aload_n 0, 1) := by decide +kernel
theorem dX11_init_41 : decode cX11_init 41 = .ok (.bipush 120, 2) := by decide +kernel
theorem dX11_init_43 : decode cX11_init 43 = .ok (.newarray .int, 2) := by decide +kernel
theorem dX11_init_45 : decode cX11_init 45 = .ok (.putfield 24, 3) := by decide +kernel
theorem dX11_init_48 : decode cX11_init 48 = .ok (.aload_n 0, 1) := by decide +kernel
theorem dX11_init_49 : decode cX11_init 49 = .ok (.bipush 61, 2) := by decide +kernel
theorem dX11_init_51 : decode cX11_init 51 = .ok (.newarray .long, 2) := by decide +kernel
theorem dX11_init_53 : decode cX11_init 53 = .ok (.putfield 27, 3) := by decide +kernel
theorem dX11_init_56 : decode cX11_init 56 = .ok (.aload_n 0, 1) := by decide +kernel
theorem dX11_init_57 : decode cX11_init 57 = .ok (.sipush 1000, 3) := by decide +kernel
theorem dX11_init_60 : decode cX11_init 60 = .ok (.newarray .int, 2) := by decide +kernel
theorem dX11_init_62 : decode cX11_init 62 = .ok (.putfield 31, 3) := by decide +kernel
theorem dX11_init_65 : decode cX11_init 65 = .ok (.aload_n 0, 1) := by decide +kernel
theorem dX11_init_66 : decode cX11_init 66 = .ok (.sipush 1000, 3) := by decide +kernel
theorem dX11_init_69 : decode cX11_init 69 = .ok (.newarray .int, 2) := by decide +kernel
theorem dX11_init_71 : decode cX11_init 71 = .ok (.putfield 34, 3) := by decide +kernel
theorem dX11_init_74 : decode cX11_init 74 = .ok (.aload_n 0, 1) := by decide +kernel
theorem dX11_init_75 : decode cX11_init 75 = .ok (.sipush 1000, 3) := by decide +kernel
theorem dX11_init_78 : decode cX11_init 78 = .ok (.newarray .int, 2) := by decide +kernel
theorem dX11_init_80 : decode cX11_init 80 = .ok (.putfield 37, 3) := by decide +kernel
theorem dX11_init_83 : decode cX11_init 83 = .ok (.aload_n 0, 1) := by decide +kernel
theorem dX11_init_84 : decode cX11_init 84 = .ok (.aload_n 1, 1) := by decide +kernel
theorem dX11_init_85 : decode cX11_init 85 = .ok (.putfield 40, 3) := by decide +kernel
theorem dX11_init_88 : decode cX11_init 88 = .ok (.aload_n 0, 1) := by decide +kernel
theorem dX11_init_89 : decode cX11_init 89 = .ok (.aload_n 2, 1) := by decide +kernel
theorem dX11_init_90 : decode cX11_init 90 = .ok (.putfield 44, 3) := by decide +kernel
theorem dX11_init_93 : decode cX11_init 93 = .ok (.aload_n 0, 1) := by decide +kernel
theorem dX11_init_94 : decode cX11_init 94 = .ok (.aload_n 3, 1) := by decide +kernel
theorem dX11_init_95 : decode cX11_init 95 = .ok (.putfield 48, 3) := by decide +kernel
theorem dX11_init_98 : decode cX11_init 98 = .ok (.return_, 1) := by decide +kernel
theorem dX12_apart_0 : decode cX12_apart 0 = .ok (.aload_n 0, 1) := by decide +kernel
theorem dX12_apart_1 : decode cX12_apart 1 = .ok (.getfield 25, 3) := by decide +kernel
theorem dX12_apart_4 : decode cX12_apart 4 = .ok (.iload_n 1, 1) := by decide +kernel
theorem dX12_apart_5 : decode cX12_apart 5 = .ok (.invokevirtual 197, 3) := by decide +kernel
theorem dX12_apart_8 : decode cX12_apart 8 = .ok (.ifCond .ne 5, 3) := by decide +kernel
theorem dX12_apart_11 : decode cX12_apart 11 = .ok (.iconst (-1), 1) := by decide +kernel
theorem dX12_apart_12 : decode cX12_apart 12 = .ok (.ireturn, 1) := by decide +kernel
theorem dX12_apply_0 : decode cX12_apply 0 = .ok (.aload_n 0, 1) := by decide +kernel
theorem dX12_apply_1 : decode cX12_apply 1 = .ok (.invokevirtual 387, 3) := by decide +kernel
theorem dX12_apply_4 : decode cX12_apply 4 = .ok (.istore_n 2, 1) := by decide +kernel
theorem dX12_apply_5 : decode cX12_apply 5 = .ok (.aload_n 0, 1) := by decide +kernel
theorem dX12_apply_6 : decode cX12_apply 6 = .ok (.getfield 25, 3) := by decide +kernel
theorem dX12_apply_9 : decode cX12_apply 9 = .ok (.iload_n 1, 1) := by decide +kernel
theorem dX12_apply_10 : decode cX12_apply 10 = .ok (.invokevirtual 197, 3) := by decide +kernel
theorem dX12_apply_13 : decode cX12_apply 13 = .ok (.ifCond .eq 7, 3) := by decide +kernel
theorem dX12_apply_20 : decode cX12_apply 20 = .ok (.iconst (-1), 1) := by decide +kernel
theorem dX12_apply_21 : decode cX12_apply 21 = .ok (.ireturn, 1) := by decide +kernel
theorem dX12_character_0 : decode cX12_character 0 = .ok (.aload_n 0, 1) := by decide +kernel
theorem dX12_character_1 : decode cX12_character 1 = .ok (.getfield 116, 3) := by decide +kernel
theorem dX12_character_4 : decode cX12_character 4 = .ok (.iload_n 1, 1) := by decide +kernel
theorem dX12_character_5 : decode cX12_character 5 = .ok (.invokevirtual 369, 3) := by decide +kernel
theorem dX12_character_8 : decode cX12_character 8 = .ok (.ireturn, 1) := by decide +kernel
theorem dX12_check_0 : decode cX12_check 0 = .ok (.iconst 0, 1) := by decide +kernel
theorem dX12_check_1 : decode cX12_check 1 = .ok (.istore_n 1, 1) := by decide +kernel
theorem dX12_check_2 : decode cX12_check 2 = .ok (.iload_n 1, 1) := by decide +kernel
theorem dX12_check_3 : decode cX12_check 3 = .ok (.aload_n 0, 1) := by decide +kernel
theorem dX12_check_4 : decode cX12_check 4 = .ok (.getfield 25, 3) := by decide +kernel
theorem dX12_check_7 : decode cX12_check 7 = .ok (.getfield 141, 3) := by decide +kernel
theorem dX12_check_10 : decode cX12_check 10 = .ok (.if_icmp .ge 32, 3) := by decide +kernel
theorem dX12_check_42 : decode cX12_check 42 = .ok (.iconst 0, 1) := by decide +kernel
theorem dX12_check_43 : decode cX12_check 43 = .ok (.aload_n 0, 1) := by decide +kernel
theorem dX12_check_44 : decode cX12_check 44 = .ok (.getfield 25, 3) := by decide +kernel
theorem dX12_check_47 : decode cX12_check 47 = .ok (.getfield 141, 3) := by decide +kernel
theorem dX12_check_50 : decode cX12_check 50 = .ok (.iconst 4, 1) := by decide +kernel
theorem dX12_check_51 : decode cX12_check 51 = .ok (.isub, 1) := by decide +kernel
theorem dX12_check_52 : decode cX12_check 52 = .ok (.invokestatic 427, 3) := by decide +kernel
theorem dX12_check_55 : decode cX12_check 55 = .ok (.istore_n 1, 1) := by decide +kernel
theorem dX12_check_56 : decode cX12_check 56 = .ok (.iload_n 1, 1) := by decide +kernel
theorem dX12_check_57 : decode cX12_check 57 = .ok (.aload_n 0, 1) := by decide +kernel
theorem dX12_check_58 : decode cX12_check 58 = .ok (.getfield 25, 3) := by decide +kernel
theorem dX12_check_61 : decode cX12_check 61 = .ok (.getfield 141, 3) := by decide +kernel
theorem dX12_check_64 : decode cX12_check 64 = .ok (.if_icmp .ge 28, 3) := by decide +kernel
theorem dX12_check_92 : decode cX12_check 92 = .ok (.iconst 1, 1) := by decide +kernel
theorem dX12_check_93 : decode cX12_check 93 = .ok (.ireturn, 1) := by decide +kernel
theorem dX12_count_0 : decode cX12_count 0 = .ok (.iload_n 1, 1) := by decide +kernel
theorem dX12_count_1 : decode cX12_count 1 = .ok (.tableswitch 149 0 9 #[55, 63, 71, 79, 88, 97, 106, 124, 133, 141], 55) := by decide +kernel
theorem dX12_count_56 : decode cX12_count 56 = .ok (.aload_n 0, 1) := by decide +kernel
theorem dX12_count_57 : decode cX12_count 57 = .ok (.getfield 25, 3) := by decide +kernel
theorem dX12_count_60 : decode cX12_count 60 = .ok (.getfield 141, 3) := by decide +kernel
theorem dX12_count_63 : decode cX12_count 63 = .ok (.ireturn, 1) := by decide +kernel
theorem dX12_count_64 : decode cX12_count 64 = .ok (.aload_n 0, 1) := by decide +kernel
theorem dX12_count_65 : decode cX12_count 65 = .ok (.getfield 25, 3) := by decide +kernel
theorem dX12_count_68 : decode cX12_count 68 = .ok (.getfield 144, 3) := by decide +kernel
theorem dX12_count_71 : decode cX12_count 71 = .ok (.ireturn, 1) := by decide +kernel
theorem dX12_count_72 : decode cX12_count 72 = .ok (.aload_n 0, 1) := by decide +kernel
theorem dX12_count_73 : decode cX12_count 73 = .ok (.getfield 25, 3) := by decide +kernel
theorem dX12_count_76 : decode cX12_count 76 = .ok (.invokevirtual 147, 3) := by decide +kernel
theorem dX12_count_79 : decode cX12_count 79 = .ok (.ireturn, 1) := by decide +kernel
theorem dX12_count_80 : decode cX12_count 80 = .ok (.aload_n 0, 1) := by decide +kernel
theorem dX12_count_81 : decode cX12_count 81 = .ok (.getfield 25, 3) := by decide +kernel
theorem dX12_count_84 : decode cX12_count 84 = .ok (.iconst 0, 1) := by decide +kernel
theorem dX12_count_85 : decode cX12_count 85 = .ok (.invokevirtual 151, 3) := by decide +kernel
theorem dX12_count_88 : decode cX12_count 88 = .ok (.ireturn, 1) := by decide +kernel
theorem dX12_count_89 : decode cX12_count 89 = .ok (.aload_n 0, 1) := by decide +kernel
theorem dX12_count_90 : decode cX12_count 90 = .ok (.getfield 25, 3) := by decide +kernel
theorem dX12_count_93 : decode cX12_count 93 = .ok (.iconst 1, 1) := by decide +kernel
theorem dX12_count_94 : decode cX12_count 94 = .ok (.invokevirtual 151, 3) := by decide +kernel
theorem dX12_count_97 : decode cX12_count 97 = .ok (.ireturn, 1) := by decide +kernel
theorem dX12_count_98 : decode cX12_count 98 = .ok (.aload_n 0, 1) := by decide +kernel
theorem dX12_count_99 : decode cX12_count 99 = .ok (.getfield 25, 3) := by decide +kernel
theorem dX12_count_102 : decode cX12_count 102 = .ok (.iconst 2, 1) := by decide +kernel
theorem dX12_count_103 : decode cX12_count 103 = .ok (.invokevirtual 151, 3) := by decide +kernel
theorem dX12_count_106 : decode cX12_count 106 = .ok (.ireturn, 1) := by decide +kernel
theorem dX12_count_107 : decode cX12_count 107 = .ok (.aload_n 0, 1) := by decide +kernel
theorem dX12_count_108 : decode cX12_count 108 = .ok (.getfield 25, 3) := by decide +kernel
theorem dX12_count_111 : decode cX12_count 111 = .ok (.iconst 3, 1) := by decide +kernel
theorem dX12_count_112 : decode cX12_count 112 = .ok (.invokevirtual 151, 3) := by decide +kernel
theorem dX12_count_115 : decode cX12_count 115 = .ok (.aload_n 0, 1) := by decide +kernel
theorem dX12_count_116 : decode cX12_count 116 = .ok (.getfield 25, 3) := by decide +kernel
theorem dX12_count_119 : decode cX12_count 119 = .ok (.iconst 4, 1) := by decide +kernel
theorem dX12_count_120 : decode cX12_count 120 = .ok (.invokevirtual 151, 3) := by decide +kernel
theorem dX12_count_123 : decode cX12_count 123 = .ok (.iadd, 1) := by decide +kernel
theorem dX12_count_124 : decode cX12_count 124 = .ok (.ireturn, 1) := by decide +kernel
theorem dX12_count_125 : decode cX12_count 125 = .ok (.aload_n 0, 1) := by decide +kernel
theorem dX12_count_126 : decode cX12_count 126 = .ok (.getfield 25, 3) := by decide +kernel
theorem dX12_count_129 : decode cX12_count 129 = .ok (.iconst 4, 1) := by decide +kernel
theorem dX12_count_130 : decode cX12_count 130 = .ok (.invokevirtual 151, 3) := by decide +kernel
theorem dX12_count_133 : decode cX12_count 133 = .ok (.ireturn, 1) := by decide +kernel
theorem dX12_count_134 : decode cX12_count 134 = .ok (.aload_n 0, 1) := by decide +kernel
theorem dX12_count_135 : decode cX12_count 135 = .ok (.getfield 43, 3) := by decide +kernel
theorem dX12_count_138 : decode cX12_count 138 = .ok (.getfield 155, 3) := by decide +kernel
theorem dX12_count_141 : decode cX12_count 141 = .ok (.ireturn, 1) := by decide +kernel
theorem dX12_count_142 : decode cX12_count 142 = .ok (.aload_n 0, 1) := by decide +kernel
theorem dX12_count_143 : decode cX12_count 143 = .ok (.getfield 43, 3) := by decide +kernel
theorem dX12_count_146 : decode cX12_count 146 = .ok (.getfield 158, 3) := by decide +kernel
theorem dX12_count_149 : decode cX12_count 149 = .ok (.ireturn, 1) := by decide +kernel
theorem dX12_count_150 : decode cX12_count 150 = .ok (.iconst (-1), 1) := by decide +kernel
theorem dX12_count_151 : decode cX12_count 151 = .ok (.ireturn, 1) := by decide +kernel
theorem dX12_definition_0 : decode cX12_definition 0 = .ok (.aload_n 0, 1) := by decide +kernel
theorem dX12_definition_1 : decode cX12_definition 1 = .ok (.getfield 25, 3) := by decide +kernel
theorem dX12_definition_4 : decode cX12_definition 4 = .ok (.iload_n 1, 1) := by decide +kernel
theorem dX12_definition_5 : decode cX12_definition 5 = .ok (.invokevirtual 161, 3) := by decide +kernel
theorem dX12_definition_8 : decode cX12_definition 8 = .ok (.ifCond .eq 16, 3) := by decide +kernel
theorem dX12_definition_24 : decode cX12_definition 24 = .ok (.iconst (-1), 1) := by decide +kernel
theorem dX12_definition_25 : decode cX12_definition 25 = .ok (.ireturn, 1) := by decide +kernel
theorem dX12_end_0 : decode cX12_end 0 = .ok (.aload_n 0, 1) := by decide +kernel
theorem dX12_end_1 : decode cX12_end 1 = .ok (.getfield 123, 3) := by decide +kernel
theorem dX12_end_4 : decode cX12_end 4 = .ok (.ifCond .eq 13, 3) := by decide +kernel
theorem dX12_end_17 : decode cX12_end 17 = .ok (.iconst (-1), 1) := by decide +kernel
theorem dX12_end_18 : decode cX12_end 18 = .ok (.ireturn, 1) := by decide +kernel
theorem dX12_equate_0 : decode cX12_equate 0 = .ok (.aload_n 0, 1) := by decide +kernel
theorem dX12_equate_1 : decode cX12_equate 1 = .ok (.getfield 82, 3) := by decide +kernel
theorem dX12_equate_4 : decode cX12_equate 4 = .ok (.invokevirtual 357, 3) := by decide +kernel
theorem dX12_equate_7 : decode cX12_equate 7 = .ok (.aload_n 0, 1) := by decide +kernel
theorem dX12_equate_8 : decode cX12_equate 8 = .ok (.getfield 25, 3) := by decide +kernel
theorem dX12_equate_11 : decode cX12_equate 11 = .ok (.iload_n 1, 1) := by decide +kernel
theorem dX12_equate_12 : decode cX12_equate 12 = .ok (.invokevirtual 161, 3) := by decide +kernel
theorem dX12_equate_15 : decode cX12_equate 15 = .ok (.ifCond .eq 27, 3) := by decide +kernel
theorem dX12_equate_42 : decode cX12_equate 42 = .ok (.iconst (-1), 1) := by decide +kernel
theorem dX12_equate_43 : decode cX12_equate 43 = .ok (.ireturn, 1) := by decide +kernel
theorem dX12_feed_0 : decode cX12_feed 0 = .ok (.aload_n 0, 1) := by decide +kernel
theorem dX12_feed_1 : decode cX12_feed 1 = .ok (.aload_n 0, 1) := by decide +kernel
theorem dX12_feed_2 : decode cX12_feed 2 = .ok (.getfield 120, 3) := by decide +kernel
theorem dX12_feed_5 : decode cX12_feed 5 = .ok (.bipush 20, 2) := by decide +kernel
theorem dX12_feed_7 : decode cX12_feed 7 = .ok (.iadd, 1) := by decide +kernel
theorem dX12_feed_8 : decode cX12_feed 8 = .ok (.ldc 9, 2) := by decide +kernel
theorem dX12_feed_10 : decode cX12_feed 10 = .ok (.if_icmp .gt 7, 3) := by decide +kernel
theorem dX12_feed_13 : decode cX12_feed 13 = .ok (.iconst 1, 1) := by decide +kernel
theorem dX12_feed_14 : decode cX12_feed 14 = .ok (.goto 4, 3) := by decide +kernel
theorem dX12_feed_18 : decode cX12_feed 18 = .ok (.putfield 123, 3) := by decide +kernel
theorem dX12_feed_21 : decode cX12_feed 21 = .ok (.aload_n 0, 1) := by decide +kernel
theorem dX12_feed_22 : decode cX12_feed 22 = .ok (.getfield 123, 3) := by decide +kernel
theorem dX12_feed_25 : decode cX12_feed 25 = .ok (.ifCond .ne 6, 3) := by decide +kernel
theorem dX12_feed_31 : decode cX12_feed 31 = .ok (.aload_n 0, 1) := by decide +kernel
theorem dX12_feed_32 : decode cX12_feed 32 = .ok (.iload_n 1, 1) := by decide +kernel
theorem dX12_feed_33 : decode cX12_feed 33 = .ok (.invokevirtual 127, 3) := by decide +kernel
theorem dX12_feed_36 : decode cX12_feed 36 = .ok (.aload_n 0, 1) := by decide +kernel
theorem dX12_feed_37 : decode cX12_feed 37 = .ok (.iload_n 2, 1) := by decide +kernel
theorem dX12_feed_38 : decode cX12_feed 38 = .ok (.invokevirtual 127, 3) := by decide +kernel
theorem dX12_feed_41 : decode cX12_feed 41 = .ok (.aload_n 0, 1) := by decide +kernel
theorem dX12_feed_42 : decode cX12_feed 42 = .ok (.iload_n 3, 1) := by decide +kernel
theorem dX12_feed_43 : decode cX12_feed 43 = .ok (.invokevirtual 127, 3) := by decide +kernel
theorem dX12_feed_46 : decode cX12_feed 46 = .ok (.aload_n 0, 1) := by decide +kernel
theorem dX12_feed_47 : decode cX12_feed 47 = .ok (.iload 4, 2) := by decide +kernel
theorem dX12_feed_49 : decode cX12_feed 49 = .ok (.invokevirtual 127, 3) := by decide +kernel
theorem dX12_feed_52 : decode cX12_feed 52 = .ok (.aload_n 0, 1) := by decide +kernel
theorem dX12_feed_53 : decode cX12_feed 53 = .ok (.iload 5, 2) := by decide +kernel
theorem dX12_feed_55 : decode cX12_feed 55 = .ok (.invokevirtual 127, 3) := by decide +kernel
theorem dX12_feed_58 : decode cX12_feed 58 = .ok (.aload_n 0, 1) := by decide +kernel
theorem dX12_feed_59 : decode cX12_feed 59 = .ok (.getfield 120, 3) := by decide +kernel
theorem dX12_feed_62 : decode cX12_feed 62 = .ok (.ireturn, 1) := by decide +kernel
theorem dX12_find_0 : decode cX12_find 0 = .ok (.aload_n 0, 1) := by decide +kernel
theorem dX12_find_1 : decode cX12_find 1 = .ok (.getfield 120, 3) := by decide +kernel
theorem dX12_find_4 : decode cX12_find 4 = .ok (.istore_n 2, 1) := by decide +kernel
theorem dX12_find_5 : decode cX12_find 5 = .ok (.aload_n 0, 1) := by decide +kernel
theorem dX12_find_6 : decode cX12_find 6 = .ok (.invokevirtual 138, 3) := by decide +kernel
theorem dX12_find_9 : decode cX12_find 9 = .ok (.aload_n 0, 1) := by decide +kernel
theorem dX12_find_10 : decode cX12_find 10 = .ok (.getfield 10, 3) := by decide +kernel
theorem dX12_find_13 : decode cX12_find 13 = .ok (.iconst 0, 1) := by decide +kernel
theorem dX12_find_14 : decode cX12_find 14 = .ok (.iload_n 2, 1) := by decide +kernel
theorem dX12_find_15 : decode cX12_find 15 = .ok (.invokestatic 184, 3) := by decide +kernel
theorem dX12_find_18 : decode cX12_find 18 = .ok (.istore_n 3, 1) := by decide +kernel
theorem dX12_find_19 : decode cX12_find 19 = .ok (.aload_n 0, 1) := by decide +kernel
theorem dX12_find_20 : decode cX12_find 20 = .ok (.getfield 10, 3) := by decide +kernel
theorem dX12_find_23 : decode cX12_find 23 = .ok (.iload_n 3, 1) := by decide +kernel
theorem dX12_find_24 : decode cX12_find 24 = .ok (.iload_n 2, 1) := by decide +kernel
theorem dX12_find_25 : decode cX12_find 25 = .ok (.invokestatic 188, 3) := by decide +kernel
theorem dX12_find_28 : decode cX12_find 28 = .ok (.istore 4, 2) := by decide +kernel
theorem dX12_find_30 : decode cX12_find 30 = .ok (.iload 4, 2) := by decide +kernel
theorem dX12_find_32 : decode cX12_find 32 = .ok (.iload_n 3, 1) := by decide +kernel
theorem dX12_find_33 : decode cX12_find 33 = .ok (.if_icmp .eq 17, 3) := by decide +kernel
theorem dX12_find_50 : decode cX12_find 50 = .ok (.iconst (-1), 1) := by decide +kernel
theorem dX12_find_51 : decode cX12_find 51 = .ok (.ireturn, 1) := by decide +kernel
theorem dX12_frame_0 : decode cX12_frame 0 = .ok (.aload_n 0, 1) := by decide +kernel
theorem dX12_frame_1 : decode cX12_frame 1 = .ok (.getfield 25, 3) := by decide +kernel
theorem dX12_frame_4 : decode cX12_frame 4 = .ok (.iload_n 1, 1) := by decide +kernel
theorem dX12_frame_5 : decode cX12_frame 5 = .ok (.invokevirtual 197, 3) := by decide +kernel
theorem dX12_frame_8 : decode cX12_frame 8 = .ok (.ifCond .ne 5, 3) := by decide +kernel
theorem dX12_frame_11 : decode cX12_frame 11 = .ok (.iconst (-1), 1) := by decide +kernel
theorem dX12_frame_12 : decode cX12_frame 12 = .ok (.ireturn, 1) := by decide +kernel
theorem dX12_from_0 : decode cX12_from 0 = .ok (.aload_n 0, 1) := by decide +kernel
theorem dX12_from_1 : decode cX12_from 1 = .ok (.iload_n 1, 1) := by decide +kernel
theorem dX12_from_2 : decode cX12_from 2 = .ok (.iload_n 2, 1) := by decide +kernel
theorem dX12_from_3 : decode cX12_from 3 = .ok (.invokevirtual 225, 3) := by decide +kernel
theorem dX12_from_6 : decode cX12_from 6 = .ok (.ifCond .ne 5, 3) := by decide +kernel
theorem dX12_from_9 : decode cX12_from 9 = .ok (.iconst (-1), 1) := by decide +kernel
theorem dX12_from_10 : decode cX12_from 10 = .ok (.ireturn, 1) := by decide +kernel
theorem dX12_hypothesis_0 : decode cX12_hypothesis 0 = .ok (.aload_n 0, 1) := by decide +kernel
theorem dX12_hypothesis_1 : decode cX12_hypothesis 1 = .ok (.getfield 25, 3) := by decide +kernel
theorem dX12_hypothesis_4 : decode cX12_hypothesis 4 = .ok (.iload_n 1, 1) := by decide +kernel
theorem dX12_hypothesis_5 : decode cX12_hypothesis 5 = .ok (.invokevirtual 197, 3) := by decide +kernel
theorem dX12_hypothesis_8 : decode cX12_hypothesis 8 = .ok (.ifCond .eq 20, 3) := by decide +kernel
theorem dX12_hypothesis_28 : decode cX12_hypothesis 28 = .ok (.iconst (-1), 1) := by decide +kernel
theorem dX12_hypothesis_29 : decode cX12_hypothesis 29 = .ok (.ireturn, 1) := by decide +kernel
theorem dX12_init_0 : decode cX12_init 0 = .ok (.aload_n 0, 1) := by decide +kernel
theorem dX12_init_1 : decode cX12_init 1 = .ok (.invokespecial 3, 3) := by decide +kernel
theorem dX12_init_4 : decode cX12_init 4 = .ok (.aload_n 0, 1) := by decide +kernel
theorem dX12_init_5 : decode cX12_init 5 = .ok (.ldc 9, 2) := by decide +kernel
theorem dX12_init_7 : decode cX12_init 7 = .ok (.newarray .char, 2) := by decide +kernel
theorem dX12_init_9 : decode cX12_init 9 = .ok (.putfield 10, 3) := by decide +kernel
theorem dX12_init_12 : decode cX12_init 12 = .ok (.aload_n 0, 1) := by decide +kernel
theorem dX12_init_13 : decode cX12_init 13 = .ok (.iconst (-1), 1) := by decide +kernel
theorem dX12_init_14 : decode cX12_init 14 = .ok (.putfield 14, 3) := by decide +kernel
theorem dX12_init_17 : decode cX12_init 17 = .ok (.aload_n 0, 1) := by decide +kernel
theorem dX12_init_18 : decode cX12_init 18 = .ok (.bipush 60, 2) := by decide +kernel
theorem dX12_init_20 : decode cX12_init 20 = .ok (.newarray .int, 2) := by decide +kernel
theorem dX12_init_22 : decode cX12_init 22 = .ok (.putfield 18, 3) := by decide +kernel
theorem dX12_init_25 : decode cX12_init 25 = .ok (.aload_n 0, 1) := by decide +kernel
theorem dX12_init_26 : decode cX12_init 26 = .ok (.new 22, 3) := by decide +kernel
theorem dX12_init_29 : decode cX12_init 29 = .ok (.dup, 1) := by decide +kernel
theorem dX12_init_30 : decode cX12_init 30 = .ok (.invokespecial 24, 3) := by decide +kernel
theorem dX12_init_33 : decode cX12_init 33 = .ok (.putfield 25, 3) := by decide +kernel
theorem dX12_init_36 : decode cX12_init 36 = .ok (.aload_n 0, 1) := by decide +kernel
theorem dX12_init_37 : decode cX12_init 37 = .ok (.new 29, 3) := by decide +kernel
theorem dX12_init_40 : decode cX12_init 40 = .ok (.dup, 1) := by decide +kernel
theorem dX12_init_41 : decode cX12_init 41 = .ok (.aload_n 0, 1) := by decide +kernel
theorem dX12_init_42 : decode cX12_init 42 = .ok (.getfield 25, 3) := by decide +kernel
theorem dX12_init_45 : decode cX12_init 45 = .ok (.invokespecial 31, 3) := by decide +kernel
theorem dX12_init_48 : decode cX12_init 48 = .ok (.putfield 34, 3) := by decide +kernel
theorem dX12_init_51 : decode cX12_init 51 = .ok (.aload_n 0, 1) := by decide +kernel
theorem dX12_init_52 : decode cX12_init 52 = .ok (.new 38, 3) := by decide +kernel
theorem dX12_init_55 : decode cX12_init 55 = .ok (.dup, 1) := by decide +kernel
theorem dX12_init_56 : decode cX12_init 56 = .ok (.aload_n 0, 1) := by decide +kernel
theorem dX12_init_57 : decode cX12_init 57 = .ok (.getfield 25, 3) := by decide +kernel
theorem dX12_init_60 : decode cX12_init 60 = .ok (.aload_n 0, 1) := by decide +kernel
theorem dX12_init_61 : decode cX12_init 61 = .ok (.getfield 34, 3) := by decide +kernel
theorem dX12_init_64 : decode cX12_init 64 = .ok (.invokespecial 40, 3) := by decide +kernel
theorem dX12_init_67 : decode cX12_init 67 = .ok (.putfield 43, 3) := by decide +kernel
theorem dX12_init_70 : decode cX12_init 70 = .ok (.aload_n 0, 1) := by decide +kernel
theorem dX12_init_71 : decode cX12_init 71 = .ok (.new 47, 3) := by decide +kernel
theorem dX12_init_74 : decode cX12_init 74 = .ok (.dup, 1) := by decide +kernel
theorem dX12_init_75 : decode cX12_init 75 = .ok (.aload_n 0, 1) := by decide +kernel
theorem dX12_init_76 : decode cX12_init 76 = .ok (.getfield 25, 3) := by decide +kernel
theorem dX12_init_79 : decode cX12_init 79 = .ok (.aload_n 0, 1) := by decide +kernel
theorem dX12_init_80 : decode cX12_init 80 = .ok (.getfield 43, 3) := by decide +kernel
theorem dX12_init_83 : decode cX12_init 83 = .ok (.aload_n 0, 1) := by decide +kernel
theorem dX12_init_84 : decode cX12_init 84 = .ok (.getfield 34, 3) := by decide +kernel
theorem dX12_init_87 : decode cX12_init 87 = .ok (.invokespecial 49, 3) := by decide +kernel
theorem dX12_init_90 : decode cX12_init 90 = .ok (.putfield 52, 3) := by decide +kernel
theorem dX12_init_93 : decode cX12_init 93 = .ok (.aload_n 0, 1) := by decide +kernel
theorem dX12_init_94 : decode cX12_init 94 = .ok (.new 56, 3) := by decide +kernel
theorem dX12_init_97 : decode cX12_init 97 = .ok (.dup, 1) := by decide +kernel
theorem dX12_init_98 : decode cX12_init 98 = .ok (.aload_n 0, 1) := by decide +kernel
theorem dX12_init_99 : decode cX12_init 99 = .ok (.getfield 25, 3) := by decide +kernel
theorem dX12_init_102 : decode cX12_init 102 = .ok (.aload_n 0, 1) := by decide +kernel
theorem dX12_init_103 : decode cX12_init 103 = .ok (.getfield 43, 3) := by decide +kernel
theorem dX12_init_106 : decode cX12_init 106 = .ok (.aload_n 0, 1) := by decide +kernel
theorem dX12_init_107 : decode cX12_init 107 = .ok (.getfield 34, 3) := by decide +kernel
theorem dX12_init_110 : decode cX12_init 110 = .ok (.new 58, 3) := by decide +kernel
theorem dX12_init_113 : decode cX12_init 113 = .ok (.dup, 1) := by decide +kernel
theorem dX12_init_114 : decode cX12_init 114 = .ok (.aload_n 0, 1) := by decide +kernel
theorem dX12_init_115 : decode cX12_init 115 = .ok (.getfield 25, 3) := by decide +kernel
theorem dX12_init_118 : decode cX12_init 118 = .ok (.aload_n 0, 1) := by decide +kernel
theorem dX12_init_119 : decode cX12_init 119 = .ok (.getfield 43, 3) := by decide +kernel
theorem dX12_init_122 : decode cX12_init 122 = .ok (.aload_n 0, 1) := by decide +kernel
theorem dX12_init_123 : decode cX12_init 123 = .ok (.getfield 34, 3) := by decide +kernel
theorem dX12_init_126 : decode cX12_init 126 = .ok (.aload_n 0, 1) := by decide +kernel
theorem dX12_init_127 : decode cX12_init 127 = .ok (.getfield 52, 3) := by decide +kernel
theorem dX12_init_130 : decode cX12_init 130 = .ok (.invokespecial 60, 3) := by decide +kernel
theorem dX12_init_133 : decode cX12_init 133 = .ok (.invokespecial 63, 3) := by decide +kernel
theorem dX12_init_136 : decode cX12_init 136 = .ok (.putfield 66, 3) := by decide +kernel
theorem dX12_init_139 : decode cX12_init 139 = .ok (.aload_n 0, 1) := by decide +kernel
theorem dX12_init_140 : decode cX12_init 140 = .ok (.new 70, 3) := by decide +kernel
theorem dX12_init_143 : decode cX12_init 143 = .ok (.dup, 1) := by decide +kernel
theorem dX12_init_144 : decode cX12_init 144 = .ok (.aload_n 0, 1) := by decide +kernel
theorem dX12_init_145 : decode cX12_init 145 = .ok (.getfield 25, 3) := by decide +kernel
theorem dX12_init_148 : decode cX12_init 148 = .ok (.aload_n 0, 1) := by decide +kernel
theorem dX12_init_149 : decode cX12_init 149 = .ok (.getfield 43, 3) := by decide +kernel
theorem dX12_init_152 : decode cX12_init 152 = .ok (.invokespecial 72, 3) := by decide +kernel
theorem dX12_init_155 : decode cX12_init 155 = .ok (.putfield 75, 3) := by decide +kernel
theorem dX12_init_158 : decode cX12_init 158 = .ok (.aload_n 0, 1) := by decide +kernel
theorem dX12_init_159 : decode cX12_init 159 = .ok (.new 79, 3) := by decide +kernel
theorem dX12_init_162 : decode cX12_init 162 = .ok (.dup, 1) := by decide +kernel
theorem dX12_init_163 : decode cX12_init 163 = .ok (.aload_n 0, 1) := by decide +kernel
theorem dX12_init_164 : decode cX12_init 164 = .ok (.getfield 25, 3) := by decide +kernel
theorem dX12_init_167 : decode cX12_init 167 = .ok (.aload_n 0, 1) := by decide +kernel
theorem dX12_init_168 : decode cX12_init 168 = .ok (.getfield 43, 3) := by decide +kernel
theorem dX12_init_171 : decode cX12_init 171 = .ok (.invokespecial 81, 3) := by decide +kernel
theorem dX12_init_174 : decode cX12_init 174 = .ok (.putfield 82, 3) := by decide +kernel
theorem dX12_init_177 : decode cX12_init 177 = .ok (.aload_n 0, 1) := by decide +kernel
theorem dX12_init_178 : decode cX12_init 178 = .ok (.new 86, 3) := by decide +kernel
theorem dX12_init_181 : decode cX12_init 181 = .ok (.dup, 1) := by decide +kernel
theorem dX12_init_182 : decode cX12_init 182 = .ok (.aload_n 0, 1) := by decide +kernel
theorem dX12_init_183 : decode cX12_init 183 = .ok (.getfield 25, 3) := by decide +kernel
theorem dX12_init_186 : decode cX12_init 186 = .ok (.aload_n 0, 1) := by decide +kernel
theorem dX12_init_187 : decode cX12_init 187 = .ok (.getfield 82, 3) := by decide +kernel
theorem dX12_init_190 : decode cX12_init 190 = .ok (.invokespecial 88, 3) := by decide +kernel
theorem dX12_init_193 : decode cX12_init 193 = .ok (.putfield 91, 3) := by decide +kernel
theorem dX12_init_196 : decode cX12_init 196 = .ok (.aload_n 0, 1) := by decide +kernel
theorem dX12_init_197 : decode cX12_init 197 = .ok (.new 95, 3) := by decide +kernel
theorem dX12_init_200 : decode cX12_init 200 = .ok (.dup, 1) := by decide +kernel
theorem dX12_init_201 : decode cX12_init 201 = .ok (.aload_n 0, 1) := by decide +kernel
theorem dX12_init_202 : decode cX12_init 202 = .ok (.getfield 25, 3) := by decide +kernel
theorem dX12_init_205 : decode cX12_init 205 = .ok (.aload_n 0, 1) := by decide +kernel
theorem dX12_init_206 : decode cX12_init 206 = .ok (.getfield 43, 3) := by decide +kernel
theorem dX12_init_209 : decode cX12_init 209 = .ok (.aload_n 0, 1) := by decide +kernel
theorem dX12_init_210 : decode cX12_init 210 = .ok (.getfield 91, 3) := by decide +kernel
theorem dX12_init_213 : decode cX12_init 213 = .ok (.invokespecial 97, 3) := by decide +kernel
theorem dX12_init_216 : decode cX12_init 216 = .ok (.putfield 100, 3) := by decide +kernel
theorem dX12_init_219 : decode cX12_init 219 = .ok (.aload_n 0, 1) := by decide +kernel
theorem dX12_init_220 : decode cX12_init 220 = .ok (.new 104, 3) := by decide +kernel
theorem dX12_init_223 : decode cX12_init 223 = .ok (.dup, 1) := by decide +kernel
theorem dX12_init_224 : decode cX12_init 224 = .ok (.aload_n 0, 1) := by decide +kernel
theorem dX12_init_225 : decode cX12_init 225 = .ok (.getfield 25, 3) := by decide +kernel
theorem dX12_init_228 : decode cX12_init 228 = .ok (.aload_n 0, 1) := by decide +kernel
theorem dX12_init_229 : decode cX12_init 229 = .ok (.getfield 43, 3) := by decide +kernel
theorem dX12_init_232 : decode cX12_init 232 = .ok (.aload_n 0, 1) := by decide +kernel
theorem dX12_init_233 : decode cX12_init 233 = .ok (.getfield 82, 3) := by decide +kernel
theorem dX12_init_236 : decode cX12_init 236 = .ok (.aload_n 0, 1) := by decide +kernel
theorem dX12_init_237 : decode cX12_init 237 = .ok (.getfield 91, 3) := by decide +kernel
theorem dX12_init_240 : decode cX12_init 240 = .ok (.aload_n 0, 1) := by decide +kernel
theorem dX12_init_241 : decode cX12_init 241 = .ok (.getfield 100, 3) := by decide +kernel
theorem dX12_init_244 : decode cX12_init 244 = .ok (.aload_n 0, 1) := by decide +kernel
theorem dX12_init_245 : decode cX12_init 245 = .ok (.getfield 52, 3) := by decide +kernel
theorem dX12_init_248 : decode cX12_init 248 = .ok (.invokespecial 106, 3) := by decide +kernel
theorem dX12_init_251 : decode cX12_init 251 = .ok (.putfield 109, 3) := by decide +kernel
theorem dX12_init_254 : decode cX12_init 254 = .ok (.aload_n 0, 1) := by decide +kernel
theorem dX12_init_255 : decode cX12_init 255 = .ok (.new 113, 3) := by decide +kernel
theorem dX12_init_258 : decode cX12_init 258 = .ok (.dup, 1) := by decide +kernel
theorem dX12_init_259 : decode cX12_init 259 = .ok (.aload_n 0, 1) := by decide +kernel
theorem dX12_init_260 : decode cX12_init 260 = .ok (.getfield 25, 3) := by decide +kernel
theorem dX12_init_263 : decode cX12_init 263 = .ok (.invokespecial 115, 3) := by decide +kernel
theorem dX12_init_266 : decode cX12_init 266 = .ok (.putfield 116, 3) := by decide +kernel
theorem dX12_init_269 : decode cX12_init 269 = .ok (.return_, 1) := by decide +kernel
theorem dX12_isRow_0 : decode cX12_isRow 0 = .ok (.aload_n 0, 1) := by decide +kernel
theorem dX12_isRow_1 : decode cX12_isRow 1 = .ok (.getfield 25, 3) := by decide +kernel
theorem dX12_isRow_4 : decode cX12_isRow 4 = .ok (.iload_n 1, 1) := by decide +kernel
theorem dX12_isRow_5 : decode cX12_isRow 5 = .ok (.invokevirtual 219, 3) := by decide +kernel
theorem dX12_isRow_8 : decode cX12_isRow 8 = .ok (.ifCond .eq 24, 3) := by decide +kernel
theorem dX12_isRow_32 : decode cX12_isRow 32 = .ok (.iconst 0, 1) := by decide +kernel
theorem dX12_isRow_33 : decode cX12_isRow 33 = .ok (.ireturn, 1) := by decide +kernel
theorem dX12_kind_0 : decode cX12_kind 0 = .ok (.aload_n 0, 1) := by decide +kernel
theorem dX12_kind_1 : decode cX12_kind 1 = .ok (.getfield 25, 3) := by decide +kernel
theorem dX12_kind_4 : decode cX12_kind 4 = .ok (.iload_n 1, 1) := by decide +kernel
theorem dX12_kind_5 : decode cX12_kind 5 = .ok (.invokevirtual 161, 3) := by decide +kernel
theorem dX12_kind_8 : decode cX12_kind 8 = .ok (.ifCond .eq 15, 3) := by decide +kernel
theorem dX12_kind_23 : decode cX12_kind 23 = .ok (.iconst (-1), 1) := by decide +kernel
theorem dX12_kind_24 : decode cX12_kind 24 = .ok (.ireturn, 1) := by decide +kernel
theorem dX12_length_0 : decode cX12_length 0 = .ok (.aload_n 0, 1) := by decide +kernel
theorem dX12_length_1 : decode cX12_length 1 = .ok (.getfield 25, 3) := by decide +kernel
theorem dX12_length_4 : decode cX12_length 4 = .ok (.iload_n 1, 1) := by decide +kernel
theorem dX12_length_5 : decode cX12_length 5 = .ok (.invokevirtual 161, 3) := by decide +kernel
theorem dX12_length_8 : decode cX12_length 8 = .ok (.ifCond .eq 14, 3) := by decide +kernel
theorem dX12_length_22 : decode cX12_length 22 = .ok (.iconst (-1), 1) := by decide +kernel
theorem dX12_length_23 : decode cX12_length 23 = .ok (.ireturn, 1) := by decide +kernel
theorem dX12_place_0 : decode cX12_place 0 = .ok (.aload_n 0, 1) := by decide +kernel
theorem dX12_place_1 : decode cX12_place 1 = .ok (.getfield 14, 3) := by decide +kernel
theorem dX12_place_4 : decode cX12_place 4 = .ok (.ireturn, 1) := by decide +kernel
theorem dX12_print_0 : decode cX12_print 0 = .ok (.iload_n 1, 1) := by decide +kernel
theorem dX12_print_1 : decode cX12_print 1 = .ok (.iconst 1, 1) := by decide +kernel
theorem dX12_print_2 : decode cX12_print 2 = .ok (.if_icmp .ne 9, 3) := by decide +kernel
theorem dX12_print_5 : decode cX12_print 5 = .ok (.aload_n 0, 1) := by decide +kernel
theorem dX12_print_6 : decode cX12_print 6 = .ok (.iload_n 2, 1) := by decide +kernel
theorem dX12_print_7 : decode cX12_print 7 = .ok (.invokevirtual 257, 3) := by decide +kernel
theorem dX12_print_10 : decode cX12_print 10 = .ok (.ireturn, 1) := by decide +kernel
theorem dX12_print_11 : decode cX12_print 11 = .ok (.aload_n 0, 1) := by decide +kernel
theorem dX12_print_12 : decode cX12_print 12 = .ok (.getfield 25, 3) := by decide +kernel
theorem dX12_print_15 : decode cX12_print 15 = .ok (.iload_n 2, 1) := by decide +kernel
theorem dX12_print_16 : decode cX12_print 16 = .ok (.invokevirtual 161, 3) := by decide +kernel
theorem dX12_print_19 : decode cX12_print 19 = .ok (.ifCond .ne 5, 3) := by decide +kernel
theorem dX12_print_22 : decode cX12_print 22 = .ok (.iconst (-1), 1) := by decide +kernel
theorem dX12_print_23 : decode cX12_print 23 = .ok (.ireturn, 1) := by decide +kernel
theorem dX12_printSymbol_0 : decode cX12_printSymbol 0 = .ok (.aload_n 0, 1) := by decide +kernel
theorem dX12_printSymbol_1 : decode cX12_printSymbol 1 = .ok (.getfield 25, 3) := by decide +kernel
theorem dX12_printSymbol_4 : decode cX12_printSymbol 4 = .ok (.iload_n 1, 1) := by decide +kernel
theorem dX12_printSymbol_5 : decode cX12_printSymbol 5 = .ok (.invokevirtual 177, 3) := by decide +kernel
theorem dX12_printSymbol_8 : decode cX12_printSymbol 8 = .ok (.ifCond .ne 5, 3) := by decide +kernel
theorem dX12_printSymbol_11 : decode cX12_printSymbol 11 = .ok (.iconst (-1), 1) := by decide +kernel
theorem dX12_printSymbol_12 : decode cX12_printSymbol 12 = .ok (.ireturn, 1) := by decide +kernel
theorem dX12_putFour_0 : decode cX12_putFour 0 = .ok (.bipush 24, 2) := by decide +kernel
theorem dX12_putFour_2 : decode cX12_putFour 2 = .ok (.istore_n 2, 1) := by decide +kernel
theorem dX12_putFour_3 : decode cX12_putFour 3 = .ok (.iload_n 2, 1) := by decide +kernel
theorem dX12_putFour_4 : decode cX12_putFour 4 = .ok (.ifCond .lt 36, 3) := by decide +kernel
theorem dX12_putFour_7 : decode cX12_putFour 7 = .ok (.aload_n 0, 1) := by decide +kernel
theorem dX12_putFour_8 : decode cX12_putFour 8 = .ok (.getfield 10, 3) := by decide +kernel
theorem dX12_putFour_11 : decode cX12_putFour 11 = .ok (.aload_n 0, 1) := by decide +kernel
theorem dX12_putFour_12 : decode cX12_putFour 12 = .ok (.getfield 120, 3) := by decide +kernel
theorem dX12_putFour_15 : decode cX12_putFour 15 = .ok (.iload_n 1, 1) := by decide +kernel
theorem dX12_putFour_16 : decode cX12_putFour 16 = .ok (.iload_n 2, 1) := by decide +kernel
theorem dX12_putFour_17 : decode cX12_putFour 17 = .ok (.ishr, 1) := by decide +kernel
theorem dX12_putFour_18 : decode cX12_putFour 18 = .ok (.sipush 255, 3) := by decide +kernel
theorem dX12_putFour_21 : decode cX12_putFour 21 = .ok (.iand, 1) := by decide +kernel
theorem dX12_putFour_22 : decode cX12_putFour 22 = .ok (.i2c, 1) := by decide +kernel
theorem dX12_putFour_23 : decode cX12_putFour 23 = .ok (.castore, 1) := by decide +kernel
theorem dX12_putFour_24 : decode cX12_putFour 24 = .ok (.aload_n 0, 1) := by decide +kernel
theorem dX12_putFour_25 : decode cX12_putFour 25 = .ok (.dup, 1) := by decide +kernel
theorem dX12_putFour_26 : decode cX12_putFour 26 = .ok (.getfield 120, 3) := by decide +kernel
theorem dX12_putFour_29 : decode cX12_putFour 29 = .ok (.iconst 1, 1) := by decide +kernel
theorem dX12_putFour_30 : decode cX12_putFour 30 = .ok (.iadd, 1) := by decide +kernel
theorem dX12_putFour_31 : decode cX12_putFour 31 = .ok (.putfield 120, 3) := by decide +kernel
theorem dX12_putFour_34 : decode cX12_putFour 34 = .ok (.iinc 2 (-8), 3) := by decide +kernel
theorem dX12_putFour_37 : decode cX12_putFour 37 = .ok (.goto (-34), 3) := by decide +kernel
theorem dX12_putFour_40 : decode cX12_putFour 40 = .ok (.return_, 1) := by decide +kernel
theorem dX12_read_0 : decode cX12_read 0 = .ok (.aload_n 0, 1) := by decide +kernel
theorem dX12_read_1 : decode cX12_read 1 = .ok (.getfield 66, 3) := by decide +kernel
theorem dX12_read_4 : decode cX12_read 4 = .ok (.aload_n 0, 1) := by decide +kernel
theorem dX12_read_5 : decode cX12_read 5 = .ok (.getfield 10, 3) := by decide +kernel
theorem dX12_read_8 : decode cX12_read 8 = .ok (.aload_n 0, 1) := by decide +kernel
theorem dX12_read_9 : decode cX12_read 9 = .ok (.getfield 120, 3) := by decide +kernel
theorem dX12_read_12 : decode cX12_read 12 = .ok (.invokevirtual 131, 3) := by decide +kernel
theorem dX12_read_15 : decode cX12_read 15 = .ok (.istore_n 1, 1) := by decide +kernel
theorem dX12_read_16 : decode cX12_read 16 = .ok (.aload_n 0, 1) := by decide +kernel
theorem dX12_read_17 : decode cX12_read 17 = .ok (.iload_n 1, 1) := by decide +kernel
theorem dX12_read_18 : decode cX12_read 18 = .ok (.ifCond .ne 7, 3) := by decide +kernel
theorem dX12_read_21 : decode cX12_read 21 = .ok (.iconst (-1), 1) := by decide +kernel
theorem dX12_read_22 : decode cX12_read 22 = .ok (.goto 10, 3) := by decide +kernel
theorem dX12_read_32 : decode cX12_read 32 = .ok (.putfield 14, 3) := by decide +kernel
theorem dX12_read_35 : decode cX12_read 35 = .ok (.aload_n 0, 1) := by decide +kernel
theorem dX12_read_36 : decode cX12_read 36 = .ok (.invokevirtual 138, 3) := by decide +kernel
theorem dX12_read_39 : decode cX12_read 39 = .ok (.iload_n 1, 1) := by decide +kernel
theorem dX12_read_40 : decode cX12_read 40 = .ok (.ireturn, 1) := by decide +kernel
theorem dX12_rests_0 : decode cX12_rests 0 = .ok (.aload_n 0, 1) := by decide +kernel
theorem dX12_rests_1 : decode cX12_rests 1 = .ok (.getfield 25, 3) := by decide +kernel
theorem dX12_rests_4 : decode cX12_rests 4 = .ok (.iload_n 1, 1) := by decide +kernel
theorem dX12_rests_5 : decode cX12_rests 5 = .ok (.invokevirtual 219, 3) := by decide +kernel
theorem dX12_rests_8 : decode cX12_rests 8 = .ok (.ifCond .eq 14, 3) := by decide +kernel
theorem dX12_rests_22 : decode cX12_rests 22 = .ok (.iconst (-1), 1) := by decide +kernel
theorem dX12_rests_23 : decode cX12_rests 23 = .ok (.ireturn, 1) := by decide +kernel
theorem dX12_row_0 : decode cX12_row 0 = .ok (.aload_n 0, 1) := by decide +kernel
theorem dX12_row_1 : decode cX12_row 1 = .ok (.iload_n 1, 1) := by decide +kernel
theorem dX12_row_2 : decode cX12_row 2 = .ok (.iload_n 2, 1) := by decide +kernel
theorem dX12_row_3 : decode cX12_row 3 = .ok (.invokevirtual 225, 3) := by decide +kernel
theorem dX12_row_6 : decode cX12_row 6 = .ok (.ifCond .eq 25, 3) := by decide +kernel
theorem dX12_row_31 : decode cX12_row 31 = .ok (.iconst (-1), 1) := by decide +kernel
theorem dX12_row_32 : decode cX12_row 32 = .ok (.ireturn, 1) := by decide +kernel
theorem dX12_rows_0 : decode cX12_rows 0 = .ok (.aload_n 0, 1) := by decide +kernel
theorem dX12_rows_1 : decode cX12_rows 1 = .ok (.getfield 25, 3) := by decide +kernel
theorem dX12_rows_4 : decode cX12_rows 4 = .ok (.iload_n 1, 1) := by decide +kernel
theorem dX12_rows_5 : decode cX12_rows 5 = .ok (.invokevirtual 219, 3) := by decide +kernel
theorem dX12_rows_8 : decode cX12_rows 8 = .ok (.ifCond .eq 15, 3) := by decide +kernel
theorem dX12_rows_23 : decode cX12_rows 23 = .ok (.iconst (-1), 1) := by decide +kernel
theorem dX12_rows_24 : decode cX12_rows 24 = .ok (.ireturn, 1) := by decide +kernel
theorem dX12_size_0 : decode cX12_size 0 = .ok (.aload_n 0, 1) := by decide +kernel
theorem dX12_size_1 : decode cX12_size 1 = .ok (.getfield 25, 3) := by decide +kernel
theorem dX12_size_4 : decode cX12_size 4 = .ok (.iload_n 1, 1) := by decide +kernel
theorem dX12_size_5 : decode cX12_size 5 = .ok (.invokevirtual 219, 3) := by decide +kernel
theorem dX12_size_8 : decode cX12_size 8 = .ok (.ifCond .ne 7, 3) := by decide +kernel
theorem dX12_size_11 : decode cX12_size 11 = .ok (.ldc2_w 247, 3) := by decide +kernel
theorem dX12_size_14 : decode cX12_size 14 = .ok (.lreturn, 1) := by decide +kernel
theorem dX12_skipBlanks_0 : decode cX12_skipBlanks 0 = .ok (.iload_n 1, 1) := by decide +kernel
theorem dX12_skipBlanks_1 : decode cX12_skipBlanks 1 = .ok (.istore_n 3, 1) := by decide +kernel
theorem dX12_skipBlanks_2 : decode cX12_skipBlanks 2 = .ok (.iload_n 3, 1) := by decide +kernel
theorem dX12_skipBlanks_3 : decode cX12_skipBlanks 3 = .ok (.iload_n 2, 1) := by decide +kernel
theorem dX12_skipBlanks_4 : decode cX12_skipBlanks 4 = .ok (.if_icmp .ge 18, 3) := by decide +kernel
theorem dX12_skipBlanks_22 : decode cX12_skipBlanks 22 = .ok (.iload_n 3, 1) := by decide +kernel
theorem dX12_skipBlanks_23 : decode cX12_skipBlanks 23 = .ok (.ireturn, 1) := by decide +kernel
theorem dX12_symbol_0 : decode cX12_symbol 0 = .ok (.aload_n 0, 1) := by decide +kernel
theorem dX12_symbol_1 : decode cX12_symbol 1 = .ok (.getfield 25, 3) := by decide +kernel
theorem dX12_symbol_4 : decode cX12_symbol 4 = .ok (.iload_n 1, 1) := by decide +kernel
theorem dX12_symbol_5 : decode cX12_symbol 5 = .ok (.invokevirtual 161, 3) := by decide +kernel
theorem dX12_symbol_8 : decode cX12_symbol 8 = .ok (.ifCond .eq 19, 3) := by decide +kernel
theorem dX12_symbol_27 : decode cX12_symbol 27 = .ok (.iconst (-1), 1) := by decide +kernel
theorem dX12_symbol_28 : decode cX12_symbol 28 = .ok (.ireturn, 1) := by decide +kernel
theorem dX12_takeRow_0 : decode cX12_takeRow 0 = .ok (.aload_n 0, 1) := by decide +kernel
theorem dX12_takeRow_1 : decode cX12_takeRow 1 = .ok (.getfield 120, 3) := by decide +kernel
theorem dX12_takeRow_4 : decode cX12_takeRow 4 = .ok (.istore_n 1, 1) := by decide +kernel
theorem dX12_takeRow_5 : decode cX12_takeRow 5 = .ok (.aload_n 0, 1) := by decide +kernel
theorem dX12_takeRow_6 : decode cX12_takeRow 6 = .ok (.invokevirtual 138, 3) := by decide +kernel
theorem dX12_takeRow_9 : decode cX12_takeRow 9 = .ok (.iconst 0, 1) := by decide +kernel
theorem dX12_takeRow_10 : decode cX12_takeRow 10 = .ok (.istore_n 2, 1) := by decide +kernel
theorem dX12_takeRow_11 : decode cX12_takeRow 11 = .ok (.aload_n 0, 1) := by decide +kernel
theorem dX12_takeRow_12 : decode cX12_takeRow 12 = .ok (.getfield 10, 3) := by decide +kernel
theorem dX12_takeRow_15 : decode cX12_takeRow 15 = .ok (.iconst 0, 1) := by decide +kernel
theorem dX12_takeRow_16 : decode cX12_takeRow 16 = .ok (.iload_n 1, 1) := by decide +kernel
theorem dX12_takeRow_17 : decode cX12_takeRow 17 = .ok (.invokestatic 184, 3) := by decide +kernel
theorem dX12_takeRow_20 : decode cX12_takeRow 20 = .ok (.istore_n 3, 1) := by decide +kernel
theorem dX12_takeRow_21 : decode cX12_takeRow 21 = .ok (.iconst 0, 1) := by decide +kernel
theorem dX12_takeRow_22 : decode cX12_takeRow 22 = .ok (.istore 4, 2) := by decide +kernel
theorem dX12_takeRow_24 : decode cX12_takeRow 24 = .ok (.iload 4, 2) := by decide +kernel
theorem dX12_takeRow_26 : decode cX12_takeRow 26 = .ok (.iload_n 1, 1) := by decide +kernel
theorem dX12_takeRow_27 : decode cX12_takeRow 27 = .ok (.if_icmp .ge 89, 3) := by decide +kernel
theorem dX12_takeRow_116 : decode cX12_takeRow 116 = .ok (.iload_n 2, 1) := by decide +kernel
theorem dX12_takeRow_117 : decode cX12_takeRow 117 = .ok (.ireturn, 1) := by decide +kernel
theorem dX12_tokenEnd_0 : decode cX12_tokenEnd 0 = .ok (.iload_n 1, 1) := by decide +kernel
theorem dX12_tokenEnd_1 : decode cX12_tokenEnd 1 = .ok (.istore_n 3, 1) := by decide +kernel
theorem dX12_tokenEnd_2 : decode cX12_tokenEnd 2 = .ok (.iload_n 3, 1) := by decide +kernel
theorem dX12_tokenEnd_3 : decode cX12_tokenEnd 3 = .ok (.iload_n 2, 1) := by decide +kernel
theorem dX12_tokenEnd_4 : decode cX12_tokenEnd 4 = .ok (.if_icmp .ge 18, 3) := by decide +kernel
theorem dX12_tokenEnd_22 : decode cX12_tokenEnd 22 = .ok (.iload_n 3, 1) := by decide +kernel
theorem dX12_tokenEnd_23 : decode cX12_tokenEnd 23 = .ok (.ireturn, 1) := by decide +kernel
theorem dX12_trees_0 : decode cX12_trees 0 = .ok (.aload_n 0, 1) := by decide +kernel
theorem dX12_trees_1 : decode cX12_trees 1 = .ok (.getfield 25, 3) := by decide +kernel
theorem dX12_trees_4 : decode cX12_trees 4 = .ok (.iload_n 1, 1) := by decide +kernel
theorem dX12_trees_5 : decode cX12_trees 5 = .ok (.invokevirtual 161, 3) := by decide +kernel
theorem dX12_trees_8 : decode cX12_trees 8 = .ok (.ifCond .eq 11, 3) := by decide +kernel
theorem dX12_trees_19 : decode cX12_trees 19 = .ok (.iconst (-1), 1) := by decide +kernel
theorem dX12_trees_20 : decode cX12_trees 20 = .ok (.ireturn, 1) := by decide +kernel
theorem dX12_useTape_0 : decode cX12_useTape 0 = .ok (.aload_n 0, 1) := by decide +kernel
theorem dX12_useTape_1 : decode cX12_useTape 1 = .ok (.iconst 0, 1) := by decide +kernel
theorem dX12_useTape_2 : decode cX12_useTape 2 = .ok (.putfield 120, 3) := by decide +kernel
theorem dX12_useTape_5 : decode cX12_useTape 5 = .ok (.aload_n 0, 1) := by decide +kernel
theorem dX12_useTape_6 : decode cX12_useTape 6 = .ok (.iconst 0, 1) := by decide +kernel
theorem dX12_useTape_7 : decode cX12_useTape 7 = .ok (.putfield 123, 3) := by decide +kernel
theorem dX12_useTape_10 : decode cX12_useTape 10 = .ok (.return_, 1) := by decide +kernel
theorem dX12_variable_0 : decode cX12_variable 0 = .ok (.aload_n 0, 1) := by decide +kernel
theorem dX12_variable_1 : decode cX12_variable 1 = .ok (.getfield 25, 3) := by decide +kernel
theorem dX12_variable_4 : decode cX12_variable 4 = .ok (.iload_n 1, 1) := by decide +kernel
theorem dX12_variable_5 : decode cX12_variable 5 = .ok (.invokevirtual 177, 3) := by decide +kernel
theorem dX12_variable_8 : decode cX12_variable 8 = .ok (.ifCond .ne 5, 3) := by decide +kernel
theorem dX12_variable_11 : decode cX12_variable 11 = .ok (.iconst (-1), 1) := by decide +kernel
theorem dX12_variable_12 : decode cX12_variable 12 = .ok (.ireturn, 1) := by decide +kernel
theorem dX13_apart_0 : decode cX13_apart 0 = .ok (.aload_n 0, 1) := by decide +kernel
theorem dX13_apart_1 : decode cX13_apart 1 = .ok (.iload_n 1, 1) := by decide +kernel
theorem dX13_apart_2 : decode cX13_apart 2 = .ok (.invokevirtual 719, 3) := by decide +kernel
theorem dX13_apart_5 : decode cX13_apart 5 = .ok (.ifCond .ne 5, 3) := by decide +kernel
theorem dX13_apart_8 : decode cX13_apart 8 = .ok (.iconst (-1), 1) := by decide +kernel
theorem dX13_apart_9 : decode cX13_apart 9 = .ok (.ireturn, 1) := by decide +kernel
theorem dX13_apply_0 : decode cX13_apply 0 = .ok (.aload_n 0, 1) := by decide +kernel
theorem dX13_apply_1 : decode cX13_apply 1 = .ok (.invokevirtual 995, 3) := by decide +kernel
theorem dX13_apply_4 : decode cX13_apply 4 = .ok (.istore_n 2, 1) := by decide +kernel
theorem dX13_apply_5 : decode cX13_apply 5 = .ok (.aload_n 0, 1) := by decide +kernel
theorem dX13_apply_6 : decode cX13_apply 6 = .ok (.invokevirtual 716, 3) := by decide +kernel
theorem dX13_apply_9 : decode cX13_apply 9 = .ok (.aload_n 0, 1) := by decide +kernel
theorem dX13_apply_10 : decode cX13_apply 10 = .ok (.iload_n 1, 1) := by decide +kernel
theorem dX13_apply_11 : decode cX13_apply 11 = .ok (.invokevirtual 719, 3) := by decide +kernel
theorem dX13_apply_14 : decode cX13_apply 14 = .ok (.ifCond .eq 8, 3) := by decide +kernel
theorem dX13_apply_22 : decode cX13_apply 22 = .ok (.iconst (-1), 1) := by decide +kernel
theorem dX13_apply_23 : decode cX13_apply 23 = .ok (.ireturn, 1) := by decide +kernel
theorem dX13_beginTrees_0 : decode cX13_beginTrees 0 = .ok (.aload_n 0, 1) := by decide +kernel
theorem dX13_beginTrees_1 : decode cX13_beginTrees 1 = .ok (.iconst 0, 1) := by decide +kernel
theorem dX13_beginTrees_2 : decode cX13_beginTrees 2 = .ok (.putfield 876, 3) := by decide +kernel
theorem dX13_beginTrees_5 : decode cX13_beginTrees 5 = .ok (.aload_n 0, 1) := by decide +kernel
theorem dX13_beginTrees_6 : decode cX13_beginTrees 6 = .ok (.iconst 0, 1) := by decide +kernel
theorem dX13_beginTrees_7 : decode cX13_beginTrees 7 = .ok (.putfield 879, 3) := by decide +kernel
theorem dX13_beginTrees_10 : decode cX13_beginTrees 10 = .ok (.return_, 1) := by decide +kernel
theorem dX13_character_0 : decode cX13_character 0 = .ok (.iload_n 1, 1) := by decide +kernel
theorem dX13_character_1 : decode cX13_character 1 = .ok (.i2l, 1) := by decide +kernel
theorem dX13_character_2 : decode cX13_character 2 = .ok (.lconst 0, 1) := by decide +kernel
theorem dX13_character_3 : decode cX13_character 3 = .ok (.aload_n 0, 1) := by decide +kernel
theorem dX13_character_4 : decode cX13_character 4 = .ok (.getfield 772, 3) := by decide +kernel
theorem dX13_character_7 : decode cX13_character 7 = .ok (.iconst 1, 1) := by decide +kernel
theorem dX13_character_8 : decode cX13_character 8 = .ok (.isub, 1) := by decide +kernel
theorem dX13_character_9 : decode cX13_character 9 = .ok (.i2l, 1) := by decide +kernel
theorem dX13_character_10 : decode cX13_character 10 = .ok (.invokestatic 388, 3) := by decide +kernel
theorem dX13_character_13 : decode cX13_character 13 = .ok (.ifCond .eq 12, 3) := by decide +kernel
theorem dX13_character_25 : decode cX13_character 25 = .ok (.iconst (-1), 1) := by decide +kernel
theorem dX13_character_26 : decode cX13_character 26 = .ok (.ireturn, 1) := by decide +kernel
theorem dX13_check_0 : decode cX13_check 0 = .ok (.iconst 1, 1) := by decide +kernel
theorem dX13_check_1 : decode cX13_check 1 = .ok (.ireturn, 1) := by decide +kernel
theorem dX13_clearTables_0 : decode cX13_clearTables 0 = .ok (.iconst 0, 1) := by decide +kernel
theorem dX13_clearTables_1 : decode cX13_clearTables 1 = .ok (.istore_n 1, 1) := by decide +kernel
theorem dX13_clearTables_2 : decode cX13_clearTables 2 = .ok (.iload_n 1, 1) := by decide +kernel
theorem dX13_clearTables_3 : decode cX13_clearTables 3 = .ok (.sipush 4096, 3) := by decide +kernel
theorem dX13_clearTables_6 : decode cX13_clearTables 6 = .ok (.if_icmp .ge 23, 3) := by decide +kernel
theorem dX13_clearTables_9 : decode cX13_clearTables 9 = .ok (.aload_n 0, 1) := by decide +kernel
theorem dX13_clearTables_10 : decode cX13_clearTables 10 = .ok (.getfield 29, 3) := by decide +kernel
theorem dX13_clearTables_13 : decode cX13_clearTables 13 = .ok (.iload_n 1, 1) := by decide +kernel
theorem dX13_clearTables_14 : decode cX13_clearTables 14 = .ok (.iconst (-1), 1) := by decide +kernel
theorem dX13_clearTables_15 : decode cX13_clearTables 15 = .ok (.iastore, 1) := by decide +kernel
theorem dX13_clearTables_16 : decode cX13_clearTables 16 = .ok (.aload_n 0, 1) := by decide +kernel
theorem dX13_clearTables_17 : decode cX13_clearTables 17 = .ok (.getfield 32, 3) := by decide +kernel
theorem dX13_clearTables_20 : decode cX13_clearTables 20 = .ok (.iload_n 1, 1) := by decide +kernel
theorem dX13_clearTables_21 : decode cX13_clearTables 21 = .ok (.iconst (-1), 1) := by decide +kernel
theorem dX13_clearTables_22 : decode cX13_clearTables 22 = .ok (.iastore, 1) := by decide +kernel
theorem dX13_clearTables_23 : decode cX13_clearTables 23 = .ok (.iinc 1 1, 3) := by decide +kernel
theorem dX13_clearTables_26 : decode cX13_clearTables 26 = .ok (.goto (-24), 3) := by decide +kernel
theorem dX13_clearTables_29 : decode cX13_clearTables 29 = .ok (.return_, 1) := by decide +kernel
theorem dX13_count_0 : decode cX13_count 0 = .ok (.iconst 0, 1) := by decide +kernel
theorem dX13_count_1 : decode cX13_count 1 = .ok (.istore_n 2, 1) := by decide +kernel
theorem dX13_count_2 : decode cX13_count 2 = .ok (.iconst 0, 1) := by decide +kernel
theorem dX13_count_3 : decode cX13_count 3 = .ok (.istore_n 3, 1) := by decide +kernel
theorem dX13_count_4 : decode cX13_count 4 = .ok (.iload_n 3, 1) := by decide +kernel
theorem dX13_count_5 : decode cX13_count 5 = .ok (.aload_n 0, 1) := by decide +kernel
theorem dX13_count_6 : decode cX13_count 6 = .ok (.getfield 471, 3) := by decide +kernel
theorem dX13_count_9 : decode cX13_count 9 = .ok (.if_icmp .ge 26, 3) := by decide +kernel
theorem dX13_count_35 : decode cX13_count 35 = .ok (.iconst 0, 1) := by decide +kernel
theorem dX13_count_36 : decode cX13_count 36 = .ok (.istore_n 3, 1) := by decide +kernel
theorem dX13_count_37 : decode cX13_count 37 = .ok (.iconst 0, 1) := by decide +kernel
theorem dX13_count_38 : decode cX13_count 38 = .ok (.istore 4, 2) := by decide +kernel
theorem dX13_count_40 : decode cX13_count 40 = .ok (.iload 4, 2) := by decide +kernel
theorem dX13_count_42 : decode cX13_count 42 = .ok (.aload_n 0, 1) := by decide +kernel
theorem dX13_count_43 : decode cX13_count 43 = .ok (.getfield 512, 3) := by decide +kernel
theorem dX13_count_46 : decode cX13_count 46 = .ok (.if_icmp .ge 61, 3) := by decide +kernel
theorem dX13_count_107 : decode cX13_count 107 = .ok (.iload_n 1, 1) := by decide +kernel
theorem dX13_count_108 : decode cX13_count 108 = .ok (.tableswitch 80 0 9 #[56, 61, 66, 68, 68, 68, 68, 68, 70, 75], 56) := by decide +kernel
theorem dX13_count_164 : decode cX13_count 164 = .ok (.aload_n 0, 1) := by decide +kernel
theorem dX13_count_165 : decode cX13_count 165 = .ok (.getfield 512, 3) := by decide +kernel
theorem dX13_count_168 : decode cX13_count 168 = .ok (.ireturn, 1) := by decide +kernel
theorem dX13_count_169 : decode cX13_count 169 = .ok (.aload_n 0, 1) := by decide +kernel
theorem dX13_count_170 : decode cX13_count 170 = .ok (.getfield 471, 3) := by decide +kernel
theorem dX13_count_173 : decode cX13_count 173 = .ok (.ireturn, 1) := by decide +kernel
theorem dX13_count_174 : decode cX13_count 174 = .ok (.iload_n 2, 1) := by decide +kernel
theorem dX13_count_175 : decode cX13_count 175 = .ok (.ireturn, 1) := by decide +kernel
theorem dX13_count_176 : decode cX13_count 176 = .ok (.iload_n 3, 1) := by decide +kernel
theorem dX13_count_177 : decode cX13_count 177 = .ok (.ireturn, 1) := by decide +kernel
theorem dX13_count_178 : decode cX13_count 178 = .ok (.aload_n 0, 1) := by decide +kernel
theorem dX13_count_179 : decode cX13_count 179 = .ok (.getfield 533, 3) := by decide +kernel
theorem dX13_count_182 : decode cX13_count 182 = .ok (.ireturn, 1) := by decide +kernel
theorem dX13_count_183 : decode cX13_count 183 = .ok (.aload_n 0, 1) := by decide +kernel
theorem dX13_count_184 : decode cX13_count 184 = .ok (.getfield 530, 3) := by decide +kernel
theorem dX13_count_187 : decode cX13_count 187 = .ok (.ireturn, 1) := by decide +kernel
theorem dX13_count_188 : decode cX13_count 188 = .ok (.iconst (-1), 1) := by decide +kernel
theorem dX13_count_189 : decode cX13_count 189 = .ok (.ireturn, 1) := by decide +kernel
theorem dX13_definition_0 : decode cX13_definition 0 = .ok (.aload_n 0, 1) := by decide +kernel
theorem dX13_definition_1 : decode cX13_definition 1 = .ok (.iload_n 1, 1) := by decide +kernel
theorem dX13_definition_2 : decode cX13_definition 2 = .ok (.invokevirtual 709, 3) := by decide +kernel
theorem dX13_definition_5 : decode cX13_definition 5 = .ok (.ifCond .eq 13, 3) := by decide +kernel
theorem dX13_definition_18 : decode cX13_definition 18 = .ok (.iconst (-1), 1) := by decide +kernel
theorem dX13_definition_19 : decode cX13_definition 19 = .ok (.ireturn, 1) := by decide +kernel
theorem dX13_end_0 : decode cX13_end 0 = .ok (.aload_n 0, 1) := by decide +kernel
theorem dX13_end_1 : decode cX13_end 1 = .ok (.getfield 382, 3) := by decide +kernel
theorem dX13_end_4 : decode cX13_end 4 = .ok (.ifCond .eq 15, 3) := by decide +kernel
theorem dX13_end_19 : decode cX13_end 19 = .ok (.iconst (-1), 1) := by decide +kernel
theorem dX13_end_20 : decode cX13_end 20 = .ok (.ireturn, 1) := by decide +kernel
theorem dX13_equate_0 : decode cX13_equate 0 = .ok (.aload_n 0, 1) := by decide +kernel
theorem dX13_equate_1 : decode cX13_equate 1 = .ok (.iload_n 1, 1) := by decide +kernel
theorem dX13_equate_2 : decode cX13_equate 2 = .ok (.invokevirtual 709, 3) := by decide +kernel
theorem dX13_equate_5 : decode cX13_equate 5 = .ok (.ifCond .eq 13, 3) := by decide +kernel
theorem dX13_equate_18 : decode cX13_equate 18 = .ok (.iconst (-1), 1) := by decide +kernel
theorem dX13_equate_19 : decode cX13_equate 19 = .ok (.ireturn, 1) := by decide +kernel
theorem dX13_feed_0 : decode cX13_feed 0 = .ok (.aload_n 0, 1) := by decide +kernel
theorem dX13_feed_1 : decode cX13_feed 1 = .ok (.aload_n 0, 1) := by decide +kernel
theorem dX13_feed_2 : decode cX13_feed 2 = .ok (.getfield 379, 3) := by decide +kernel
theorem dX13_feed_5 : decode cX13_feed 5 = .ok (.bipush 20, 2) := by decide +kernel
theorem dX13_feed_7 : decode cX13_feed 7 = .ok (.iadd, 1) := by decide +kernel
theorem dX13_feed_8 : decode cX13_feed 8 = .ok (.ldc 7, 2) := by decide +kernel
theorem dX13_feed_10 : decode cX13_feed 10 = .ok (.if_icmp .gt 7, 3) := by decide +kernel
theorem dX13_feed_13 : decode cX13_feed 13 = .ok (.iconst 1, 1) := by decide +kernel
theorem dX13_feed_14 : decode cX13_feed 14 = .ok (.goto 4, 3) := by decide +kernel
theorem dX13_feed_18 : decode cX13_feed 18 = .ok (.putfield 382, 3) := by decide +kernel
theorem dX13_feed_21 : decode cX13_feed 21 = .ok (.aload_n 0, 1) := by decide +kernel
theorem dX13_feed_22 : decode cX13_feed 22 = .ok (.getfield 382, 3) := by decide +kernel
theorem dX13_feed_25 : decode cX13_feed 25 = .ok (.ifCond .ne 6, 3) := by decide +kernel
theorem dX13_feed_31 : decode cX13_feed 31 = .ok (.iconst 0, 1) := by decide +kernel
theorem dX13_feed_32 : decode cX13_feed 32 = .ok (.istore 6, 2) := by decide +kernel
theorem dX13_feed_34 : decode cX13_feed 34 = .ok (.iload 6, 2) := by decide +kernel
theorem dX13_feed_36 : decode cX13_feed 36 = .ok (.bipush 20, 2) := by decide +kernel
theorem dX13_feed_38 : decode cX13_feed 38 = .ok (.if_icmp .ge 93, 3) := by decide +kernel
theorem dX13_feed_41 : decode cX13_feed 41 = .ok (.iload 6, 2) := by decide +kernel
theorem dX13_feed_43 : decode cX13_feed 43 = .ok (.iconst 4, 1) := by decide +kernel
theorem dX13_feed_44 : decode cX13_feed 44 = .ok (.if_icmp .ge 7, 3) := by decide +kernel
theorem dX13_feed_47 : decode cX13_feed 47 = .ok (.iload_n 1, 1) := by decide +kernel
theorem dX13_feed_48 : decode cX13_feed 48 = .ok (.goto 39, 3) := by decide +kernel
theorem dX13_feed_51 : decode cX13_feed 51 = .ok (.iload 6, 2) := by decide +kernel
theorem dX13_feed_53 : decode cX13_feed 53 = .ok (.bipush 8, 2) := by decide +kernel
theorem dX13_feed_55 : decode cX13_feed 55 = .ok (.if_icmp .ge 7, 3) := by decide +kernel
theorem dX13_feed_58 : decode cX13_feed 58 = .ok (.iload_n 2, 1) := by decide +kernel
theorem dX13_feed_59 : decode cX13_feed 59 = .ok (.goto 28, 3) := by decide +kernel
theorem dX13_feed_62 : decode cX13_feed 62 = .ok (.iload 6, 2) := by decide +kernel
theorem dX13_feed_64 : decode cX13_feed 64 = .ok (.bipush 12, 2) := by decide +kernel
theorem dX13_feed_66 : decode cX13_feed 66 = .ok (.if_icmp .ge 7, 3) := by decide +kernel
theorem dX13_feed_69 : decode cX13_feed 69 = .ok (.iload_n 3, 1) := by decide +kernel
theorem dX13_feed_70 : decode cX13_feed 70 = .ok (.goto 17, 3) := by decide +kernel
theorem dX13_feed_73 : decode cX13_feed 73 = .ok (.iload 6, 2) := by decide +kernel
theorem dX13_feed_75 : decode cX13_feed 75 = .ok (.bipush 16, 2) := by decide +kernel
theorem dX13_feed_77 : decode cX13_feed 77 = .ok (.if_icmp .ge 8, 3) := by decide +kernel
theorem dX13_feed_80 : decode cX13_feed 80 = .ok (.iload 4, 2) := by decide +kernel
theorem dX13_feed_82 : decode cX13_feed 82 = .ok (.goto 5, 3) := by decide +kernel
theorem dX13_feed_85 : decode cX13_feed 85 = .ok (.iload 5, 2) := by decide +kernel
theorem dX13_feed_87 : decode cX13_feed 87 = .ok (.istore 7, 2) := by decide +kernel
theorem dX13_feed_89 : decode cX13_feed 89 = .ok (.aload_n 0, 1) := by decide +kernel
theorem dX13_feed_90 : decode cX13_feed 90 = .ok (.getfield 8, 3) := by decide +kernel
theorem dX13_feed_93 : decode cX13_feed 93 = .ok (.aload_n 0, 1) := by decide +kernel
theorem dX13_feed_94 : decode cX13_feed 94 = .ok (.getfield 379, 3) := by decide +kernel
theorem dX13_feed_97 : decode cX13_feed 97 = .ok (.iload 7, 2) := by decide +kernel
theorem dX13_feed_99 : decode cX13_feed 99 = .ok (.bipush 24, 2) := by decide +kernel
theorem dX13_feed_101 : decode cX13_feed 101 = .ok (.bipush 8, 2) := by decide +kernel
theorem dX13_feed_103 : decode cX13_feed 103 = .ok (.iload 6, 2) := by decide +kernel
theorem dX13_feed_105 : decode cX13_feed 105 = .ok (.iconst 4, 1) := by decide +kernel
theorem dX13_feed_106 : decode cX13_feed 106 = .ok (.irem, 1) := by decide +kernel
theorem dX13_feed_107 : decode cX13_feed 107 = .ok (.imul, 1) := by decide +kernel
theorem dX13_feed_108 : decode cX13_feed 108 = .ok (.isub, 1) := by decide +kernel
theorem dX13_feed_109 : decode cX13_feed 109 = .ok (.ishr, 1) := by decide +kernel
theorem dX13_feed_110 : decode cX13_feed 110 = .ok (.sipush 255, 3) := by decide +kernel
theorem dX13_feed_113 : decode cX13_feed 113 = .ok (.iand, 1) := by decide +kernel
theorem dX13_feed_114 : decode cX13_feed 114 = .ok (.iastore, 1) := by decide +kernel
theorem dX13_feed_115 : decode cX13_feed 115 = .ok (.aload_n 0, 1) := by decide +kernel
theorem dX13_feed_116 : decode cX13_feed 116 = .ok (.dup, 1) := by decide +kernel
theorem dX13_feed_117 : decode cX13_feed 117 = .ok (.getfield 379, 3) := by decide +kernel
theorem dX13_feed_120 : decode cX13_feed 120 = .ok (.iconst 1, 1) := by decide +kernel
theorem dX13_feed_121 : decode cX13_feed 121 = .ok (.iadd, 1) := by decide +kernel
theorem dX13_feed_122 : decode cX13_feed 122 = .ok (.putfield 379, 3) := by decide +kernel
theorem dX13_feed_125 : decode cX13_feed 125 = .ok (.iinc 6 1, 3) := by decide +kernel
theorem dX13_feed_128 : decode cX13_feed 128 = .ok (.goto (-94), 3) := by decide +kernel
theorem dX13_feed_131 : decode cX13_feed 131 = .ok (.aload_n 0, 1) := by decide +kernel
theorem dX13_feed_132 : decode cX13_feed 132 = .ok (.getfield 379, 3) := by decide +kernel
theorem dX13_feed_135 : decode cX13_feed 135 = .ok (.ireturn, 1) := by decide +kernel
theorem dX13_find_0 : decode cX13_find 0 = .ok (.aload_n 0, 1) := by decide +kernel
theorem dX13_find_1 : decode cX13_find 1 = .ok (.iconst 0, 1) := by decide +kernel
theorem dX13_find_2 : decode cX13_find 2 = .ok (.invokevirtual 712, 3) := by decide +kernel
theorem dX13_find_5 : decode cX13_find 5 = .ok (.istore_n 2, 1) := by decide +kernel
theorem dX13_find_6 : decode cX13_find 6 = .ok (.aload_n 0, 1) := by decide +kernel
theorem dX13_find_7 : decode cX13_find 7 = .ok (.getfield 424, 3) := by decide +kernel
theorem dX13_find_10 : decode cX13_find 10 = .ok (.istore_n 3, 1) := by decide +kernel
theorem dX13_find_11 : decode cX13_find 11 = .ok (.aload_n 0, 1) := by decide +kernel
theorem dX13_find_12 : decode cX13_find 12 = .ok (.getfield 421, 3) := by decide +kernel
theorem dX13_find_15 : decode cX13_find 15 = .ok (.istore 4, 2) := by decide +kernel
theorem dX13_find_17 : decode cX13_find 17 = .ok (.iload_n 2, 1) := by decide +kernel
theorem dX13_find_18 : decode cX13_find 18 = .ok (.iconst 1, 1) := by decide +kernel
theorem dX13_find_19 : decode cX13_find 19 = .ok (.if_icmp .ne 18, 3) := by decide +kernel
theorem dX13_find_37 : decode cX13_find 37 = .ok (.iconst 0, 1) := by decide +kernel
theorem dX13_find_38 : decode cX13_find 38 = .ok (.istore 5, 2) := by decide +kernel
theorem dX13_find_40 : decode cX13_find 40 = .ok (.iload 5, 2) := by decide +kernel
theorem dX13_find_42 : decode cX13_find 42 = .ok (.ifCond .eq 13, 3) := by decide +kernel
theorem dX13_find_55 : decode cX13_find 55 = .ok (.iconst (-1), 1) := by decide +kernel
theorem dX13_find_56 : decode cX13_find 56 = .ok (.goto 32, 3) := by decide +kernel
theorem dX13_find_88 : decode cX13_find 88 = .ok (.istore 6, 2) := by decide +kernel
theorem dX13_find_90 : decode cX13_find 90 = .ok (.aload_n 0, 1) := by decide +kernel
theorem dX13_find_91 : decode cX13_find 91 = .ok (.invokevirtual 716, 3) := by decide +kernel
theorem dX13_find_94 : decode cX13_find 94 = .ok (.iload 6, 2) := by decide +kernel
theorem dX13_find_96 : decode cX13_find 96 = .ok (.ireturn, 1) := by decide +kernel
theorem dX13_forgetTrees_0 : decode cX13_forgetTrees 0 = .ok (.aload_n 0, 1) := by decide +kernel
theorem dX13_forgetTrees_1 : decode cX13_forgetTrees 1 = .ok (.iconst 0, 1) := by decide +kernel
theorem dX13_forgetTrees_2 : decode cX13_forgetTrees 2 = .ok (.putfield 846, 3) := by decide +kernel
theorem dX13_forgetTrees_5 : decode cX13_forgetTrees 5 = .ok (.iload_n 1, 1) := by decide +kernel
theorem dX13_forgetTrees_6 : decode cX13_forgetTrees 6 = .ok (.istore_n 2, 1) := by decide +kernel
theorem dX13_forgetTrees_7 : decode cX13_forgetTrees 7 = .ok (.iload_n 2, 1) := by decide +kernel
theorem dX13_forgetTrees_8 : decode cX13_forgetTrees 8 = .ok (.sipush 1500, 3) := by decide +kernel
theorem dX13_forgetTrees_11 : decode cX13_forgetTrees 11 = .ok (.if_icmp .ge 23, 3) := by decide +kernel
theorem dX13_forgetTrees_14 : decode cX13_forgetTrees 14 = .ok (.aload_n 0, 1) := by decide +kernel
theorem dX13_forgetTrees_15 : decode cX13_forgetTrees 15 = .ok (.getfield 323, 3) := by decide +kernel
theorem dX13_forgetTrees_18 : decode cX13_forgetTrees 18 = .ok (.iload_n 2, 1) := by decide +kernel
theorem dX13_forgetTrees_19 : decode cX13_forgetTrees 19 = .ok (.iconst (-1), 1) := by decide +kernel
theorem dX13_forgetTrees_20 : decode cX13_forgetTrees 20 = .ok (.iastore, 1) := by decide +kernel
theorem dX13_forgetTrees_21 : decode cX13_forgetTrees 21 = .ok (.aload_n 0, 1) := by decide +kernel
theorem dX13_forgetTrees_22 : decode cX13_forgetTrees 22 = .ok (.getfield 332, 3) := by decide +kernel
theorem dX13_forgetTrees_25 : decode cX13_forgetTrees 25 = .ok (.iload_n 2, 1) := by decide +kernel
theorem dX13_forgetTrees_26 : decode cX13_forgetTrees 26 = .ok (.iconst 0, 1) := by decide +kernel
theorem dX13_forgetTrees_27 : decode cX13_forgetTrees 27 = .ok (.bastore, 1) := by decide +kernel
theorem dX13_forgetTrees_28 : decode cX13_forgetTrees 28 = .ok (.iinc 2 1, 3) := by decide +kernel
theorem dX13_forgetTrees_31 : decode cX13_forgetTrees 31 = .ok (.goto (-24), 3) := by decide +kernel
theorem dX13_forgetTrees_34 : decode cX13_forgetTrees 34 = .ok (.iconst 0, 1) := by decide +kernel
theorem dX13_forgetTrees_35 : decode cX13_forgetTrees 35 = .ok (.istore_n 2, 1) := by decide +kernel
theorem dX13_forgetTrees_36 : decode cX13_forgetTrees 36 = .ok (.iload_n 2, 1) := by decide +kernel
theorem dX13_forgetTrees_37 : decode cX13_forgetTrees 37 = .ok (.sipush 1500, 3) := by decide +kernel
theorem dX13_forgetTrees_40 : decode cX13_forgetTrees 40 = .ok (.if_icmp .ge 17, 3) := by decide +kernel
theorem dX13_forgetTrees_43 : decode cX13_forgetTrees 43 = .ok (.aload_n 0, 1) := by decide +kernel
theorem dX13_forgetTrees_44 : decode cX13_forgetTrees 44 = .ok (.getfield 329, 3) := by decide +kernel
theorem dX13_forgetTrees_47 : decode cX13_forgetTrees 47 = .ok (.iload_n 2, 1) := by decide +kernel
theorem dX13_forgetTrees_48 : decode cX13_forgetTrees 48 = .ok (.bipush (-9), 2) := by decide +kernel
theorem dX13_forgetTrees_50 : decode cX13_forgetTrees 50 = .ok (.iastore, 1) := by decide +kernel
theorem dX13_forgetTrees_51 : decode cX13_forgetTrees 51 = .ok (.iinc 2 1, 3) := by decide +kernel
theorem dX13_forgetTrees_54 : decode cX13_forgetTrees 54 = .ok (.goto (-18), 3) := by decide +kernel
theorem dX13_forgetTrees_57 : decode cX13_forgetTrees 57 = .ok (.aload_n 0, 1) := by decide +kernel
theorem dX13_forgetTrees_58 : decode cX13_forgetTrees 58 = .ok (.iconst 0, 1) := by decide +kernel
theorem dX13_forgetTrees_59 : decode cX13_forgetTrees 59 = .ok (.putfield 727, 3) := by decide +kernel
theorem dX13_forgetTrees_62 : decode cX13_forgetTrees 62 = .ok (.return_, 1) := by decide +kernel
theorem dX13_frame_0 : decode cX13_frame 0 = .ok (.aload_n 0, 1) := by decide +kernel
theorem dX13_frame_1 : decode cX13_frame 1 = .ok (.iload_n 1, 1) := by decide +kernel
theorem dX13_frame_2 : decode cX13_frame 2 = .ok (.invokevirtual 719, 3) := by decide +kernel
theorem dX13_frame_5 : decode cX13_frame 5 = .ok (.ifCond .eq 15, 3) := by decide +kernel
theorem dX13_frame_20 : decode cX13_frame 20 = .ok (.iconst (-1), 1) := by decide +kernel
theorem dX13_frame_21 : decode cX13_frame 21 = .ok (.ireturn, 1) := by decide +kernel
theorem dX13_from_0 : decode cX13_from 0 = .ok (.aload_n 0, 1) := by decide +kernel
theorem dX13_from_1 : decode cX13_from 1 = .ok (.iload_n 1, 1) := by decide +kernel
theorem dX13_from_2 : decode cX13_from 2 = .ok (.iload_n 2, 1) := by decide +kernel
theorem dX13_from_3 : decode cX13_from 3 = .ok (.invokevirtual 745, 3) := by decide +kernel
theorem dX13_from_6 : decode cX13_from 6 = .ok (.ifCond .eq 36, 3) := by decide +kernel
theorem dX13_from_42 : decode cX13_from 42 = .ok (.iconst (-1), 1) := by decide +kernel
theorem dX13_from_43 : decode cX13_from 43 = .ok (.ireturn, 1) := by decide +kernel
theorem dX13_hypothesis_0 : decode cX13_hypothesis 0 = .ok (.aload_n 0, 1) := by decide +kernel
theorem dX13_hypothesis_1 : decode cX13_hypothesis 1 = .ok (.iload_n 1, 1) := by decide +kernel
theorem dX13_hypothesis_2 : decode cX13_hypothesis 2 = .ok (.invokevirtual 719, 3) := by decide +kernel
theorem dX13_hypothesis_5 : decode cX13_hypothesis 5 = .ok (.ifCond .eq 37, 3) := by decide +kernel
theorem dX13_hypothesis_42 : decode cX13_hypothesis 42 = .ok (.iconst (-1), 1) := by decide +kernel
theorem dX13_hypothesis_43 : decode cX13_hypothesis 43 = .ok (.ireturn, 1) := by decide +kernel
theorem dX13_init_0 : decode cX13_init 0 = .ok (.aload_n 0, 1) := by decide +kernel
theorem dX13_init_1 : decode cX13_init 1 = .ok (.invokespecial 1, 3) := by decide +kernel
theorem dX13_init_4 : decode cX13_init 4 = .ok (.aload_n 0, 1) := by decide +kernel
theorem dX13_init_5 : decode cX13_init 5 = .ok (.ldc 7, 2) := by decide +kernel
theorem dX13_init_7 : decode cX13_init 7 = .ok (.newarray .int, 2) := by decide +kernel
theorem dX13_init_9 : decode cX13_init 9 = .ok (.putfield 8, 3) := by decide +kernel
theorem dX13_init_12 : decode cX13_init 12 = .ok (.aload_n 0, 1) := by decide +kernel
theorem dX13_init_13 : decode cX13_init 13 = .ok (.sipush 30100, 3) := by decide +kernel
theorem dX13_init_16 : decode cX13_init 16 = .ok (.newarray .int, 2) := by decide +kernel
theorem dX13_init_18 : decode cX13_init 18 = .ok (.putfield 14, 3) := by decide +kernel
theorem dX13_init_21 : decode cX13_init 21 = .ok (.aload_n 0, 1) := by decide +kernel
theorem dX13_init_22 : decode cX13_init 22 = .ok (.sipush 1001, 3) := by decide +kernel
theorem dX13_init_25 : decode cX13_init 25 = .ok (.newarray .int, 2) := by decide +kernel
theorem dX13_init_27 : decode cX13_init 27 = .ok (.putfield 17, 3) := by decide +kernel
theorem dX13_init_30 : decode cX13_init 30 = .ok (.aload_n 0, 1) := by decide +kernel
theorem dX13_init_31 : decode cX13_init 31 = .ok (.sipush 1001, 3) := by decide +kernel
theorem dX13_init_34 : decode cX13_init 34 = .ok (.newarray .int, 2) := by decide +kernel
theorem dX13_init_36 : decode cX13_init 36 = .ok (.putfield 20, 3) := by decide +kernel
theorem dX13_init_39 : decode cX13_init 39 = .ok (.aload_n 0, 1) := by decide +kernel
theorem dX13_init_40 : decode cX13_init 40 = .ok (.sipush 1501, 3) := by decide +kernel
theorem dX13_init_43 : decode cX13_init 43 = .ok (.newarray .int, 2) := by decide +kernel
theorem dX13_init_45 : decode cX13_init 45 = .ok (.putfield 23, 3) := by decide +kernel
theorem dX13_init_48 : decode cX13_init 48 = .ok (.aload_n 0, 1) := by decide +kernel
theorem dX13_init_49 : decode cX13_init 49 = .ok (.sipush 1501, 3) := by decide +kernel
theorem dX13_init_52 : decode cX13_init 52 = .ok (.newarray .int, 2) := by decide +kernel
theorem dX13_init_54 : decode cX13_init 54 = .ok (.putfield 26, 3) := by decide +kernel
theorem dX13_init_57 : decode cX13_init 57 = .ok (.aload_n 0, 1) := by decide +kernel
theorem dX13_init_58 : decode cX13_init 58 = .ok (.sipush 4096, 3) := by decide +kernel
theorem dX13_init_61 : decode cX13_init 61 = .ok (.newarray .int, 2) := by decide +kernel
theorem dX13_init_63 : decode cX13_init 63 = .ok (.putfield 29, 3) := by decide +kernel
theorem dX13_init_66 : decode cX13_init 66 = .ok (.aload_n 0, 1) := by decide +kernel
theorem dX13_init_67 : decode cX13_init 67 = .ok (.sipush 4096, 3) := by decide +kernel
theorem dX13_init_70 : decode cX13_init 70 = .ok (.newarray .int, 2) := by decide +kernel
theorem dX13_init_72 : decode cX13_init 72 = .ok (.putfield 32, 3) := by decide +kernel
theorem dX13_init_75 : decode cX13_init 75 = .ok (.aload_n 0, 1) := by decide +kernel
theorem dX13_init_76 : decode cX13_init 76 = .ok (.sipush 1001, 3) := by decide +kernel
theorem dX13_init_79 : decode cX13_init 79 = .ok (.newarray .boolean, 2) := by decide +kernel
theorem dX13_init_81 : decode cX13_init 81 = .ok (.putfield 35, 3) := by decide +kernel
theorem dX13_init_84 : decode cX13_init 84 = .ok (.aload_n 0, 1) := by decide +kernel
theorem dX13_init_85 : decode cX13_init 85 = .ok (.sipush 1001, 3) := by decide +kernel
theorem dX13_init_88 : decode cX13_init 88 = .ok (.newarray .boolean, 2) := by decide +kernel
theorem dX13_init_90 : decode cX13_init 90 = .ok (.putfield 39, 3) := by decide +kernel
theorem dX13_init_93 : decode cX13_init 93 = .ok (.aload_n 0, 1) := by decide +kernel
theorem dX13_init_94 : decode cX13_init 94 = .ok (.sipush 1001, 3) := by decide +kernel
theorem dX13_init_97 : decode cX13_init 97 = .ok (.newarray .int, 2) := by decide +kernel
theorem dX13_init_99 : decode cX13_init 99 = .ok (.putfield 42, 3) := by decide +kernel
theorem dX13_init_102 : decode cX13_init 102 = .ok (.aload_n 0, 1) := by decide +kernel
theorem dX13_init_103 : decode cX13_init 103 = .ok (.sipush 1001, 3) := by decide +kernel
theorem dX13_init_106 : decode cX13_init 106 = .ok (.newarray .int, 2) := by decide +kernel
theorem dX13_init_108 : decode cX13_init 108 = .ok (.putfield 45, 3) := by decide +kernel
theorem dX13_init_111 : decode cX13_init 111 = .ok (.aload_n 0, 1) := by decide +kernel
theorem dX13_init_112 : decode cX13_init 112 = .ok (.sipush 1001, 3) := by decide +kernel
theorem dX13_init_115 : decode cX13_init 115 = .ok (.newarray .boolean, 2) := by decide +kernel
theorem dX13_init_117 : decode cX13_init 117 = .ok (.putfield 48, 3) := by decide +kernel
theorem dX13_init_120 : decode cX13_init 120 = .ok (.aload_n 0, 1) := by decide +kernel
theorem dX13_init_121 : decode cX13_init 121 = .ok (.sipush 1501, 3) := by decide +kernel
theorem dX13_init_124 : decode cX13_init 124 = .ok (.newarray .int, 2) := by decide +kernel
theorem dX13_init_126 : decode cX13_init 126 = .ok (.putfield 51, 3) := by decide +kernel
theorem dX13_init_129 : decode cX13_init 129 = .ok (.aload_n 0, 1) := by decide +kernel
theorem dX13_init_130 : decode cX13_init 130 = .ok (.sipush 1501, 3) := by decide +kernel
theorem dX13_init_133 : decode cX13_init 133 = .ok (.newarray .int, 2) := by decide +kernel
theorem dX13_init_135 : decode cX13_init 135 = .ok (.putfield 54, 3) := by decide +kernel
theorem dX13_init_138 : decode cX13_init 138 = .ok (.aload_n 0, 1) := by decide +kernel
theorem dX13_init_139 : decode cX13_init 139 = .ok (.sipush 1501, 3) := by decide +kernel
theorem dX13_init_142 : decode cX13_init 142 = .ok (.newarray .int, 2) := by decide +kernel
theorem dX13_init_144 : decode cX13_init 144 = .ok (.putfield 57, 3) := by decide +kernel
theorem dX13_init_147 : decode cX13_init 147 = .ok (.aload_n 0, 1) := by decide +kernel
theorem dX13_init_148 : decode cX13_init 148 = .ok (.sipush 30400, 3) := by decide +kernel
theorem dX13_init_151 : decode cX13_init 151 = .ok (.newarray .int, 2) := by decide +kernel
theorem dX13_init_153 : decode cX13_init 153 = .ok (.putfield 60, 3) := by decide +kernel
theorem dX13_init_156 : decode cX13_init 156 = .ok (.aload_n 0, 1) := by decide +kernel
theorem dX13_init_157 : decode cX13_init 157 = .ok (.sipush 30400, 3) := by decide +kernel
theorem dX13_init_160 : decode cX13_init 160 = .ok (.newarray .int, 2) := by decide +kernel
theorem dX13_init_162 : decode cX13_init 162 = .ok (.putfield 63, 3) := by decide +kernel
theorem dX13_init_165 : decode cX13_init 165 = .ok (.aload_n 0, 1) := by decide +kernel
theorem dX13_init_166 : decode cX13_init 166 = .ok (.sipush 1501, 3) := by decide +kernel
theorem dX13_init_169 : decode cX13_init 169 = .ok (.newarray .int, 2) := by decide +kernel
theorem dX13_init_171 : decode cX13_init 171 = .ok (.putfield 66, 3) := by decide +kernel
theorem dX13_init_174 : decode cX13_init 174 = .ok (.aload_n 0, 1) := by decide +kernel
theorem dX13_init_175 : decode cX13_init 175 = .ok (.sipush 1501, 3) := by decide +kernel
theorem dX13_init_178 : decode cX13_init 178 = .ok (.newarray .int, 2) := by decide +kernel
theorem dX13_init_180 : decode cX13_init 180 = .ok (.putfield 69, 3) := by decide +kernel
theorem dX13_init_183 : decode cX13_init 183 = .ok (.aload_n 0, 1) := by decide +kernel
theorem dX13_init_184 : decode cX13_init 184 = .ok (.ldc 72, 2) := by decide +kernel
theorem dX13_init_186 : decode cX13_init 186 = .ok (.newarray .int, 2) := by decide +kernel
theorem dX13_init_188 : decode cX13_init 188 = .ok (.putfield 73, 3) := by decide +kernel
theorem dX13_init_191 : decode cX13_init 191 = .ok (.aload_n 0, 1) := by decide +kernel
theorem dX13_init_192 : decode cX13_init 192 = .ok (.sipush 1501, 3) := by decide +kernel
theorem dX13_init_195 : decode cX13_init 195 = .ok (.newarray .int, 2) := by decide +kernel
theorem dX13_init_197 : decode cX13_init 197 = .ok (.putfield 76, 3) := by decide +kernel
theorem dX13_init_200 : decode cX13_init 200 = .ok (.aload_n 0, 1) := by decide +kernel
theorem dX13_init_201 : decode cX13_init 201 = .ok (.sipush 1501, 3) := by decide +kernel
theorem dX13_init_204 : decode cX13_init 204 = .ok (.newarray .int, 2) := by decide +kernel
theorem dX13_init_206 : decode cX13_init 206 = .ok (.putfield 79, 3) := by decide +kernel
theorem dX13_init_209 : decode cX13_init 209 = .ok (.aload_n 0, 1) := by decide +kernel
theorem dX13_init_210 : decode cX13_init 210 = .ok (.sipush 20000, 3) := by decide +kernel
theorem dX13_init_213 : decode cX13_init 213 = .ok (.newarray .int, 2) := by decide +kernel
theorem dX13_init_215 : decode cX13_init 215 = .ok (.putfield 82, 3) := by decide +kernel
theorem dX13_init_218 : decode cX13_init 218 = .ok (.aload_n 0, 1) := by decide +kernel
theorem dX13_init_219 : decode cX13_init 219 = .ok (.sipush 20000, 3) := by decide +kernel
theorem dX13_init_222 : decode cX13_init 222 = .ok (.newarray .int, 2) := by decide +kernel
theorem dX13_init_224 : decode cX13_init 224 = .ok (.putfield 85, 3) := by decide +kernel
theorem dX13_init_227 : decode cX13_init 227 = .ok (.aload_n 0, 1) := by decide +kernel
theorem dX13_init_228 : decode cX13_init 228 = .ok (.sipush 1501, 3) := by decide +kernel
theorem dX13_init_231 : decode cX13_init 231 = .ok (.newarray .int, 2) := by decide +kernel
theorem dX13_init_233 : decode cX13_init 233 = .ok (.putfield 88, 3) := by decide +kernel
theorem dX13_init_236 : decode cX13_init 236 = .ok (.aload_n 0, 1) := by decide +kernel
theorem dX13_init_237 : decode cX13_init 237 = .ok (.sipush 1501, 3) := by decide +kernel
theorem dX13_init_240 : decode cX13_init 240 = .ok (.newarray .int, 2) := by decide +kernel
theorem dX13_init_242 : decode cX13_init 242 = .ok (.putfield 91, 3) := by decide +kernel
theorem dX13_init_245 : decode cX13_init 245 = .ok (.aload_n 0, 1) := by decide +kernel
theorem dX13_init_246 : decode cX13_init 246 = .ok (.sipush 20001, 3) := by decide +kernel
theorem dX13_init_249 : decode cX13_init 249 = .ok (.newarray .int, 2) := by decide +kernel
theorem dX13_init_251 : decode cX13_init 251 = .ok (.putfield 94, 3) := by decide +kernel
theorem dX13_init_254 : decode cX13_init 254 = .ok (.aload_n 0, 1) := by decide +kernel
theorem dX13_init_255 : decode cX13_init 255 = .ok (.sipush 20001, 3) := by decide +kernel
theorem dX13_init_258 : decode cX13_init 258 = .ok (.newarray .boolean, 2) := by decide +kernel
theorem dX13_init_260 : decode cX13_init 260 = .ok (.putfield 97, 3) := by decide +kernel
theorem dX13_init_263 : decode cX13_init 263 = .ok (.aload_n 0, 1) := by decide +kernel
theorem dX13_init_264 : decode cX13_init 264 = .ok (.sipush 20001, 3) := by decide +kernel
theorem dX13_init_267 : decode cX13_init 267 = .ok (.newarray .int, 2) := by decide +kernel
theorem dX13_init_269 : decode cX13_init 269 = .ok (.putfield 100, 3) := by decide +kernel
theorem dX13_init_272 : decode cX13_init 272 = .ok (.aload_n 0, 1) := by decide +kernel
theorem dX13_init_273 : decode cX13_init 273 = .ok (.ldc 103, 2) := by decide +kernel
theorem dX13_init_275 : decode cX13_init 275 = .ok (.newarray .long, 2) := by decide +kernel
theorem dX13_init_277 : decode cX13_init 277 = .ok (.putfield 104, 3) := by decide +kernel
theorem dX13_init_280 : decode cX13_init 280 = .ok (.aload_n 0, 1) := by decide +kernel
theorem dX13_init_281 : decode cX13_init 281 = .ok (.sipush 1001, 3) := by decide +kernel
theorem dX13_init_284 : decode cX13_init 284 = .ok (.newarray .int, 2) := by decide +kernel
theorem dX13_init_286 : decode cX13_init 286 = .ok (.putfield 108, 3) := by decide +kernel
theorem dX13_init_289 : decode cX13_init 289 = .ok (.aload_n 0, 1) := by decide +kernel
theorem dX13_init_290 : decode cX13_init 290 = .ok (.sipush 1501, 3) := by decide +kernel
theorem dX13_init_293 : decode cX13_init 293 = .ok (.newarray .int, 2) := by decide +kernel
theorem dX13_init_295 : decode cX13_init 295 = .ok (.putfield 111, 3) := by decide +kernel
theorem dX13_init_298 : decode cX13_init 298 = .ok (.aload_n 0, 1) := by decide +kernel
theorem dX13_init_299 : decode cX13_init 299 = .ok (.sipush 1001, 3) := by decide +kernel
theorem dX13_init_302 : decode cX13_init 302 = .ok (.newarray .int, 2) := by decide +kernel
theorem dX13_init_304 : decode cX13_init 304 = .ok (.putfield 114, 3) := by decide +kernel
theorem dX13_init_307 : decode cX13_init 307 = .ok (.aload_n 0, 1) := by decide +kernel
theorem dX13_init_308 : decode cX13_init 308 = .ok (.sipush 1001, 3) := by decide +kernel
theorem dX13_init_311 : decode cX13_init 311 = .ok (.newarray .int, 2) := by decide +kernel
theorem dX13_init_313 : decode cX13_init 313 = .ok (.putfield 117, 3) := by decide +kernel
theorem dX13_init_316 : decode cX13_init 316 = .ok (.aload_n 0, 1) := by decide +kernel
theorem dX13_init_317 : decode cX13_init 317 = .ok (.sipush 16016, 3) := by decide +kernel
theorem dX13_init_320 : decode cX13_init 320 = .ok (.newarray .long, 2) := by decide +kernel
theorem dX13_init_322 : decode cX13_init 322 = .ok (.putfield 120, 3) := by decide +kernel
theorem dX13_init_325 : decode cX13_init 325 = .ok (.aload_n 0, 1) := by decide +kernel
theorem dX13_init_326 : decode cX13_init 326 = .ok (.bipush 51, 2) := by decide +kernel
theorem dX13_init_328 : decode cX13_init 328 = .ok (.newarray .int, 2) := by decide +kernel
theorem dX13_init_330 : decode cX13_init 330 = .ok (.putfield 123, 3) := by decide +kernel
theorem dX13_init_333 : decode cX13_init 333 = .ok (.aload_n 0, 1) := by decide +kernel
theorem dX13_init_334 : decode cX13_init 334 = .ok (.bipush 51, 2) := by decide +kernel
theorem dX13_init_336 : decode cX13_init 336 = .ok (.newarray .int, 2) := by decide +kernel
theorem dX13_init_338 : decode cX13_init 338 = .ok (.putfield 126, 3) := by decide +kernel
theorem dX13_init_341 : decode cX13_init 341 = .ok (.aload_n 0, 1) := by decide +kernel
theorem dX13_init_342 : decode cX13_init 342 = .ok (.bipush 51, 2) := by decide +kernel
theorem dX13_init_344 : decode cX13_init 344 = .ok (.newarray .int, 2) := by decide +kernel
theorem dX13_init_346 : decode cX13_init 346 = .ok (.putfield 129, 3) := by decide +kernel
theorem dX13_init_349 : decode cX13_init 349 = .ok (.aload_n 0, 1) := by decide +kernel
theorem dX13_init_350 : decode cX13_init 350 = .ok (.sipush 1001, 3) := by decide +kernel
theorem dX13_init_353 : decode cX13_init 353 = .ok (.newarray .int, 2) := by decide +kernel
theorem dX13_init_355 : decode cX13_init 355 = .ok (.putfield 132, 3) := by decide +kernel
theorem dX13_init_358 : decode cX13_init 358 = .ok (.aload_n 0, 1) := by decide +kernel
theorem dX13_init_359 : decode cX13_init 359 = .ok (.sipush 1001, 3) := by decide +kernel
theorem dX13_init_362 : decode cX13_init 362 = .ok (.newarray .boolean, 2) := by decide +kernel
theorem dX13_init_364 : decode cX13_init 364 = .ok (.putfield 135, 3) := by decide +kernel
theorem dX13_init_367 : decode cX13_init 367 = .ok (.aload_n 0, 1) := by decide +kernel
theorem dX13_init_368 : decode cX13_init 368 = .ok (.sipush 300, 3) := by decide +kernel
theorem dX13_init_371 : decode cX13_init 371 = .ok (.newarray .int, 2) := by decide +kernel
theorem dX13_init_373 : decode cX13_init 373 = .ok (.putfield 138, 3) := by decide +kernel
theorem dX13_init_376 : decode cX13_init 376 = .ok (.aload_n 0, 1) := by decide +kernel
theorem dX13_init_377 : decode cX13_init 377 = .ok (.sipush 202, 3) := by decide +kernel
theorem dX13_init_380 : decode cX13_init 380 = .ok (.newarray .int, 2) := by decide +kernel
theorem dX13_init_382 : decode cX13_init 382 = .ok (.putfield 141, 3) := by decide +kernel
theorem dX13_init_385 : decode cX13_init 385 = .ok (.aload_n 0, 1) := by decide +kernel
theorem dX13_init_386 : decode cX13_init 386 = .ok (.sipush 202, 3) := by decide +kernel
theorem dX13_init_389 : decode cX13_init 389 = .ok (.newarray .int, 2) := by decide +kernel
theorem dX13_init_391 : decode cX13_init 391 = .ok (.putfield 144, 3) := by decide +kernel
theorem dX13_init_394 : decode cX13_init 394 = .ok (.aload_n 0, 1) := by decide +kernel
theorem dX13_init_395 : decode cX13_init 395 = .ok (.sipush 202, 3) := by decide +kernel
theorem dX13_init_398 : decode cX13_init 398 = .ok (.newarray .int, 2) := by decide +kernel
theorem dX13_init_400 : decode cX13_init 400 = .ok (.putfield 147, 3) := by decide +kernel
theorem dX13_init_403 : decode cX13_init 403 = .ok (.aload_n 0, 1) := by decide +kernel
theorem dX13_init_404 : decode cX13_init 404 = .ok (.ldc 150, 2) := by decide +kernel
theorem dX13_init_406 : decode cX13_init 406 = .ok (.newarray .int, 2) := by decide +kernel
theorem dX13_init_408 : decode cX13_init 408 = .ok (.putfield 151, 3) := by decide +kernel
theorem dX13_init_411 : decode cX13_init 411 = .ok (.aload_n 0, 1) := by decide +kernel
theorem dX13_init_412 : decode cX13_init 412 = .ok (.sipush 300, 3) := by decide +kernel
theorem dX13_init_415 : decode cX13_init 415 = .ok (.newarray .int, 2) := by decide +kernel
theorem dX13_init_417 : decode cX13_init 417 = .ok (.putfield 154, 3) := by decide +kernel
theorem dX13_init_420 : decode cX13_init 420 = .ok (.aload_n 0, 1) := by decide +kernel
theorem dX13_init_421 : decode cX13_init 421 = .ok (.sipush 300, 3) := by decide +kernel
theorem dX13_init_424 : decode cX13_init 424 = .ok (.newarray .int, 2) := by decide +kernel
theorem dX13_init_426 : decode cX13_init 426 = .ok (.putfield 157, 3) := by decide +kernel
theorem dX13_init_429 : decode cX13_init 429 = .ok (.aload_n 0, 1) := by decide +kernel
theorem dX13_init_430 : decode cX13_init 430 = .ok (.sipush 300, 3) := by decide +kernel
theorem dX13_init_433 : decode cX13_init 433 = .ok (.newarray .int, 2) := by decide +kernel
theorem dX13_init_435 : decode cX13_init 435 = .ok (.putfield 160, 3) := by decide +kernel
theorem dX13_init_438 : decode cX13_init 438 = .ok (.aload_n 0, 1) := by decide +kernel
theorem dX13_init_439 : decode cX13_init 439 = .ok (.ldc 150, 2) := by decide +kernel
theorem dX13_init_441 : decode cX13_init 441 = .ok (.newarray .int, 2) := by decide +kernel
theorem dX13_init_443 : decode cX13_init 443 = .ok (.putfield 163, 3) := by decide +kernel
theorem dX13_init_446 : decode cX13_init 446 = .ok (.aload_n 0, 1) := by decide +kernel
theorem dX13_init_447 : decode cX13_init 447 = .ok (.sipush 1001, 3) := by decide +kernel
theorem dX13_init_450 : decode cX13_init 450 = .ok (.newarray .int, 2) := by decide +kernel
theorem dX13_init_452 : decode cX13_init 452 = .ok (.putfield 166, 3) := by decide +kernel
theorem dX13_init_455 : decode cX13_init 455 = .ok (.aload_n 0, 1) := by decide +kernel
theorem dX13_init_456 : decode cX13_init 456 = .ok (.sipush 1001, 3) := by decide +kernel
theorem dX13_init_459 : decode cX13_init 459 = .ok (.newarray .int, 2) := by decide +kernel
theorem dX13_init_461 : decode cX13_init 461 = .ok (.putfield 169, 3) := by decide +kernel
theorem dX13_init_464 : decode cX13_init 464 = .ok (.aload_n 0, 1) := by decide +kernel
theorem dX13_init_465 : decode cX13_init 465 = .ok (.sipush 1002, 3) := by decide +kernel
theorem dX13_init_468 : decode cX13_init 468 = .ok (.newarray .int, 2) := by decide +kernel
theorem dX13_init_470 : decode cX13_init 470 = .ok (.putfield 172, 3) := by decide +kernel
theorem dX13_init_473 : decode cX13_init 473 = .ok (.aload_n 0, 1) := by decide +kernel
theorem dX13_init_474 : decode cX13_init 474 = .ok (.sipush 1001, 3) := by decide +kernel
theorem dX13_init_477 : decode cX13_init 477 = .ok (.newarray .boolean, 2) := by decide +kernel
theorem dX13_init_479 : decode cX13_init 479 = .ok (.putfield 175, 3) := by decide +kernel
theorem dX13_init_482 : decode cX13_init 482 = .ok (.aload_n 0, 1) := by decide +kernel
theorem dX13_init_483 : decode cX13_init 483 = .ok (.sipush 1001, 3) := by decide +kernel
theorem dX13_init_486 : decode cX13_init 486 = .ok (.newarray .boolean, 2) := by decide +kernel
theorem dX13_init_488 : decode cX13_init 488 = .ok (.putfield 178, 3) := by decide +kernel
theorem dX13_init_491 : decode cX13_init 491 = .ok (.aload_n 0, 1) := by decide +kernel
theorem dX13_init_492 : decode cX13_init 492 = .ok (.sipush 1001, 3) := by decide +kernel
theorem dX13_init_495 : decode cX13_init 495 = .ok (.newarray .boolean, 2) := by decide +kernel
theorem dX13_init_497 : decode cX13_init 497 = .ok (.putfield 181, 3) := by decide +kernel
theorem dX13_init_500 : decode cX13_init 500 = .ok (.aload_n 0, 1) := by decide +kernel
theorem dX13_init_501 : decode cX13_init 501 = .ok (.sipush 1001, 3) := by decide +kernel
theorem dX13_init_504 : decode cX13_init 504 = .ok (.newarray .int, 2) := by decide +kernel
theorem dX13_init_506 : decode cX13_init 506 = .ok (.putfield 184, 3) := by decide +kernel
theorem dX13_init_509 : decode cX13_init 509 = .ok (.aload_n 0, 1) := by decide +kernel
theorem dX13_init_510 : decode cX13_init 510 = .ok (.sipush 1001, 3) := by decide +kernel
theorem dX13_init_513 : decode cX13_init 513 = .ok (.newarray .int, 2) := by decide +kernel
theorem dX13_init_515 : decode cX13_init 515 = .ok (.putfield 187, 3) := by decide +kernel
theorem dX13_init_518 : decode cX13_init 518 = .ok (.aload_n 0, 1) := by decide +kernel
theorem dX13_init_519 : decode cX13_init 519 = .ok (.sipush 20001, 3) := by decide +kernel
theorem dX13_init_522 : decode cX13_init 522 = .ok (.newarray .int, 2) := by decide +kernel
theorem dX13_init_524 : decode cX13_init 524 = .ok (.putfield 190, 3) := by decide +kernel
theorem dX13_init_527 : decode cX13_init 527 = .ok (.aload_n 0, 1) := by decide +kernel
theorem dX13_init_528 : decode cX13_init 528 = .ok (.sipush 20001, 3) := by decide +kernel
theorem dX13_init_531 : decode cX13_init 531 = .ok (.newarray .int, 2) := by decide +kernel
theorem dX13_init_533 : decode cX13_init 533 = .ok (.putfield 193, 3) := by decide +kernel
theorem dX13_init_536 : decode cX13_init 536 = .ok (.aload_n 0, 1) := by decide +kernel
theorem dX13_init_537 : decode cX13_init 537 = .ok (.ldc 196, 2) := by decide +kernel
theorem dX13_init_539 : decode cX13_init 539 = .ok (.newarray .int, 2) := by decide +kernel
theorem dX13_init_541 : decode cX13_init 541 = .ok (.putfield 197, 3) := by decide +kernel
theorem dX13_init_544 : decode cX13_init 544 = .ok (.aload_n 0, 1) := by decide +kernel
theorem dX13_init_545 : decode cX13_init 545 = .ok (.sipush 20001, 3) := by decide +kernel
theorem dX13_init_548 : decode cX13_init 548 = .ok (.newarray .long, 2) := by decide +kernel
theorem dX13_init_550 : decode cX13_init 550 = .ok (.putfield 200, 3) := by decide +kernel
theorem dX13_init_553 : decode cX13_init 553 = .ok (.aload_n 0, 1) := by decide +kernel
theorem dX13_init_554 : decode cX13_init 554 = .ok (.sipush 24002, 3) := by decide +kernel
theorem dX13_init_557 : decode cX13_init 557 = .ok (.newarray .int, 2) := by decide +kernel
theorem dX13_init_559 : decode cX13_init 559 = .ok (.putfield 203, 3) := by decide +kernel
theorem dX13_init_562 : decode cX13_init 562 = .ok (.aload_n 0, 1) := by decide +kernel
theorem dX13_init_563 : decode cX13_init 563 = .ok (.sipush 24000, 3) := by decide +kernel
theorem dX13_init_566 : decode cX13_init 566 = .ok (.newarray .int, 2) := by decide +kernel
theorem dX13_init_568 : decode cX13_init 568 = .ok (.putfield 206, 3) := by decide +kernel
theorem dX13_init_571 : decode cX13_init 571 = .ok (.aload_n 0, 1) := by decide +kernel
theorem dX13_init_572 : decode cX13_init 572 = .ok (.sipush 20001, 3) := by decide +kernel
theorem dX13_init_575 : decode cX13_init 575 = .ok (.newarray .int, 2) := by decide +kernel
theorem dX13_init_577 : decode cX13_init 577 = .ok (.putfield 209, 3) := by decide +kernel
theorem dX13_init_580 : decode cX13_init 580 = .ok (.aload_n 0, 1) := by decide +kernel
theorem dX13_init_581 : decode cX13_init 581 = .ok (.sipush 20001, 3) := by decide +kernel
theorem dX13_init_584 : decode cX13_init 584 = .ok (.newarray .int, 2) := by decide +kernel
theorem dX13_init_586 : decode cX13_init 586 = .ok (.putfield 212, 3) := by decide +kernel
theorem dX13_init_589 : decode cX13_init 589 = .ok (.aload_n 0, 1) := by decide +kernel
theorem dX13_init_590 : decode cX13_init 590 = .ok (.sipush 20001, 3) := by decide +kernel
theorem dX13_init_593 : decode cX13_init 593 = .ok (.newarray .int, 2) := by decide +kernel
theorem dX13_init_595 : decode cX13_init 595 = .ok (.putfield 215, 3) := by decide +kernel
theorem dX13_init_598 : decode cX13_init 598 = .ok (.aload_n 0, 1) := by decide +kernel
theorem dX13_init_599 : decode cX13_init 599 = .ok (.sipush 20001, 3) := by decide +kernel
theorem dX13_init_602 : decode cX13_init 602 = .ok (.newarray .int, 2) := by decide +kernel
theorem dX13_init_604 : decode cX13_init 604 = .ok (.putfield 218, 3) := by decide +kernel
theorem dX13_init_607 : decode cX13_init 607 = .ok (.aload_n 0, 1) := by decide +kernel
theorem dX13_init_608 : decode cX13_init 608 = .ok (.ldc 221, 2) := by decide +kernel
theorem dX13_init_610 : decode cX13_init 610 = .ok (.newarray .int, 2) := by decide +kernel
theorem dX13_init_612 : decode cX13_init 612 = .ok (.putfield 222, 3) := by decide +kernel
theorem dX13_init_615 : decode cX13_init 615 = .ok (.aload_n 0, 1) := by decide +kernel
theorem dX13_init_616 : decode cX13_init 616 = .ok (.ldc 221, 2) := by decide +kernel
theorem dX13_init_618 : decode cX13_init 618 = .ok (.newarray .int, 2) := by decide +kernel
theorem dX13_init_620 : decode cX13_init 620 = .ok (.putfield 225, 3) := by decide +kernel
theorem dX13_init_623 : decode cX13_init 623 = .ok (.aload_n 0, 1) := by decide +kernel
theorem dX13_init_624 : decode cX13_init 624 = .ok (.sipush 1501, 3) := by decide +kernel
theorem dX13_init_627 : decode cX13_init 627 = .ok (.newarray .int, 2) := by decide +kernel
theorem dX13_init_629 : decode cX13_init 629 = .ok (.putfield 228, 3) := by decide +kernel
theorem dX13_init_632 : decode cX13_init 632 = .ok (.aload_n 0, 1) := by decide +kernel
theorem dX13_init_633 : decode cX13_init 633 = .ok (.sipush 1501, 3) := by decide +kernel
theorem dX13_init_636 : decode cX13_init 636 = .ok (.newarray .int, 2) := by decide +kernel
theorem dX13_init_638 : decode cX13_init 638 = .ok (.putfield 231, 3) := by decide +kernel
theorem dX13_init_641 : decode cX13_init 641 = .ok (.aload_n 0, 1) := by decide +kernel
theorem dX13_init_642 : decode cX13_init 642 = .ok (.ldc 234, 2) := by decide +kernel
theorem dX13_init_644 : decode cX13_init 644 = .ok (.newarray .int, 2) := by decide +kernel
theorem dX13_init_646 : decode cX13_init 646 = .ok (.putfield 235, 3) := by decide +kernel
theorem dX13_init_649 : decode cX13_init 649 = .ok (.aload_n 0, 1) := by decide +kernel
theorem dX13_init_650 : decode cX13_init 650 = .ok (.ldc 221, 2) := by decide +kernel
theorem dX13_init_652 : decode cX13_init 652 = .ok (.newarray .int, 2) := by decide +kernel
theorem dX13_init_654 : decode cX13_init 654 = .ok (.putfield 238, 3) := by decide +kernel
theorem dX13_init_657 : decode cX13_init 657 = .ok (.aload_n 0, 1) := by decide +kernel
theorem dX13_init_658 : decode cX13_init 658 = .ok (.sipush 1001, 3) := by decide +kernel
theorem dX13_init_661 : decode cX13_init 661 = .ok (.newarray .int, 2) := by decide +kernel
theorem dX13_init_663 : decode cX13_init 663 = .ok (.putfield 241, 3) := by decide +kernel
theorem dX13_init_666 : decode cX13_init 666 = .ok (.aload_n 0, 1) := by decide +kernel
theorem dX13_init_667 : decode cX13_init 667 = .ok (.bipush 64, 2) := by decide +kernel
theorem dX13_init_669 : decode cX13_init 669 = .ok (.newarray .int, 2) := by decide +kernel
theorem dX13_init_671 : decode cX13_init 671 = .ok (.putfield 244, 3) := by decide +kernel
theorem dX13_init_674 : decode cX13_init 674 = .ok (.aload_n 0, 1) := by decide +kernel
theorem dX13_init_675 : decode cX13_init 675 = .ok (.bipush 64, 2) := by decide +kernel
theorem dX13_init_677 : decode cX13_init 677 = .ok (.newarray .int, 2) := by decide +kernel
theorem dX13_init_679 : decode cX13_init 679 = .ok (.putfield 247, 3) := by decide +kernel
theorem dX13_init_682 : decode cX13_init 682 = .ok (.aload_n 0, 1) := by decide +kernel
theorem dX13_init_683 : decode cX13_init 683 = .ok (.bipush 64, 2) := by decide +kernel
theorem dX13_init_685 : decode cX13_init 685 = .ok (.newarray .int, 2) := by decide +kernel
theorem dX13_init_687 : decode cX13_init 687 = .ok (.putfield 250, 3) := by decide +kernel
theorem dX13_init_690 : decode cX13_init 690 = .ok (.aload_n 0, 1) := by decide +kernel
theorem dX13_init_691 : decode cX13_init 691 = .ok (.ldc 253, 2) := by decide +kernel
theorem dX13_init_693 : decode cX13_init 693 = .ok (.newarray .int, 2) := by decide +kernel
theorem dX13_init_695 : decode cX13_init 695 = .ok (.putfield 254, 3) := by decide +kernel
theorem dX13_init_698 : decode cX13_init 698 = .ok (.aload_n 0, 1) := by decide +kernel
theorem dX13_init_699 : decode cX13_init 699 = .ok (.ldc 253, 2) := by decide +kernel
theorem dX13_init_701 : decode cX13_init 701 = .ok (.newarray .int, 2) := by decide +kernel
theorem dX13_init_703 : decode cX13_init 703 = .ok (.putfield 257, 3) := by decide +kernel
theorem dX13_init_706 : decode cX13_init 706 = .ok (.aload_n 0, 1) := by decide +kernel
theorem dX13_init_707 : decode cX13_init 707 = .ok (.sipush 6200, 3) := by decide +kernel
theorem dX13_init_710 : decode cX13_init 710 = .ok (.newarray .long, 2) := by decide +kernel
theorem dX13_init_712 : decode cX13_init 712 = .ok (.putfield 260, 3) := by decide +kernel
theorem dX13_init_715 : decode cX13_init 715 = .ok (.aload_n 0, 1) := by decide +kernel
theorem dX13_init_716 : decode cX13_init 716 = .ok (.sipush 6200, 3) := by decide +kernel
theorem dX13_init_719 : decode cX13_init 719 = .ok (.newarray .long, 2) := by decide +kernel
theorem dX13_init_721 : decode cX13_init 721 = .ok (.putfield 263, 3) := by decide +kernel
theorem dX13_init_724 : decode cX13_init 724 = .ok (.aload_n 0, 1) := by decide +kernel
theorem dX13_init_725 : decode cX13_init 725 = .ok (.sipush 30002, 3) := by decide +kernel
theorem dX13_init_728 : decode cX13_init 728 = .ok (.newarray .int, 2) := by decide +kernel
theorem dX13_init_730 : decode cX13_init 730 = .ok (.putfield 266, 3) := by decide +kernel
theorem dX13_init_733 : decode cX13_init 733 = .ok (.aload_n 0, 1) := by decide +kernel
theorem dX13_init_734 : decode cX13_init 734 = .ok (.sipush 30002, 3) := by decide +kernel
theorem dX13_init_737 : decode cX13_init 737 = .ok (.newarray .int, 2) := by decide +kernel
theorem dX13_init_739 : decode cX13_init 739 = .ok (.putfield 269, 3) := by decide +kernel
theorem dX13_init_742 : decode cX13_init 742 = .ok (.aload_n 0, 1) := by decide +kernel
theorem dX13_init_743 : decode cX13_init 743 = .ok (.sipush 30002, 3) := by decide +kernel
theorem dX13_init_746 : decode cX13_init 746 = .ok (.newarray .int, 2) := by decide +kernel
theorem dX13_init_748 : decode cX13_init 748 = .ok (.putfield 272, 3) := by decide +kernel
theorem dX13_init_751 : decode cX13_init 751 = .ok (.aload_n 0, 1) := by decide +kernel
theorem dX13_init_752 : decode cX13_init 752 = .ok (.sipush 30002, 3) := by decide +kernel
theorem dX13_init_755 : decode cX13_init 755 = .ok (.newarray .int, 2) := by decide +kernel
theorem dX13_init_757 : decode cX13_init 757 = .ok (.putfield 275, 3) := by decide +kernel
theorem dX13_init_760 : decode cX13_init 760 = .ok (.aload_n 0, 1) := by decide +kernel
theorem dX13_init_761 : decode cX13_init 761 = .ok (.sipush 30002, 3) := by decide +kernel
theorem dX13_init_764 : decode cX13_init 764 = .ok (.newarray .int, 2) := by decide +kernel
theorem dX13_init_766 : decode cX13_init 766 = .ok (.putfield 278, 3) := by decide +kernel
theorem dX13_init_769 : decode cX13_init 769 = .ok (.aload_n 0, 1) := by decide +kernel
theorem dX13_init_770 : decode cX13_init 770 = .ok (.sipush 30002, 3) := by decide +kernel
theorem dX13_init_773 : decode cX13_init 773 = .ok (.newarray .int, 2) := by decide +kernel
theorem dX13_init_775 : decode cX13_init 775 = .ok (.putfield 281, 3) := by decide +kernel
theorem dX13_init_778 : decode cX13_init 778 = .ok (.aload_n 0, 1) := by decide +kernel
theorem dX13_init_779 : decode cX13_init 779 = .ok (.sipush 30002, 3) := by decide +kernel
theorem dX13_init_782 : decode cX13_init 782 = .ok (.newarray .int, 2) := by decide +kernel
theorem dX13_init_784 : decode cX13_init 784 = .ok (.putfield 284, 3) := by decide +kernel
theorem dX13_init_787 : decode cX13_init 787 = .ok (.aload_n 0, 1) := by decide +kernel
theorem dX13_init_788 : decode cX13_init 788 = .ok (.sipush 30002, 3) := by decide +kernel
theorem dX13_init_791 : decode cX13_init 791 = .ok (.newarray .long, 2) := by decide +kernel
theorem dX13_init_793 : decode cX13_init 793 = .ok (.putfield 287, 3) := by decide +kernel
theorem dX13_init_796 : decode cX13_init 796 = .ok (.aload_n 0, 1) := by decide +kernel
theorem dX13_init_797 : decode cX13_init 797 = .ok (.sipush 30002, 3) := by decide +kernel
theorem dX13_init_800 : decode cX13_init 800 = .ok (.newarray .long, 2) := by decide +kernel
theorem dX13_init_802 : decode cX13_init 802 = .ok (.putfield 290, 3) := by decide +kernel
theorem dX13_init_805 : decode cX13_init 805 = .ok (.aload_n 0, 1) := by decide +kernel
theorem dX13_init_806 : decode cX13_init 806 = .ok (.sipush 1501, 3) := by decide +kernel
theorem dX13_init_809 : decode cX13_init 809 = .ok (.newarray .int, 2) := by decide +kernel
theorem dX13_init_811 : decode cX13_init 811 = .ok (.putfield 293, 3) := by decide +kernel
theorem dX13_init_814 : decode cX13_init 814 = .ok (.aload_n 0, 1) := by decide +kernel
theorem dX13_init_815 : decode cX13_init 815 = .ok (.sipush 3800, 3) := by decide +kernel
theorem dX13_init_818 : decode cX13_init 818 = .ok (.newarray .int, 2) := by decide +kernel
theorem dX13_init_820 : decode cX13_init 820 = .ok (.putfield 296, 3) := by decide +kernel
theorem dX13_init_823 : decode cX13_init 823 = .ok (.aload_n 0, 1) := by decide +kernel
theorem dX13_init_824 : decode cX13_init 824 = .ok (.ldc 7, 2) := by decide +kernel
theorem dX13_init_826 : decode cX13_init 826 = .ok (.newarray .int, 2) := by decide +kernel
theorem dX13_init_828 : decode cX13_init 828 = .ok (.putfield 299, 3) := by decide +kernel
theorem dX13_init_831 : decode cX13_init 831 = .ok (.aload_n 0, 1) := by decide +kernel
theorem dX13_init_832 : decode cX13_init 832 = .ok (.ldc 7, 2) := by decide +kernel
theorem dX13_init_834 : decode cX13_init 834 = .ok (.newarray .int, 2) := by decide +kernel
theorem dX13_init_836 : decode cX13_init 836 = .ok (.putfield 302, 3) := by decide +kernel
theorem dX13_init_839 : decode cX13_init 839 = .ok (.aload_n 0, 1) := by decide +kernel
theorem dX13_init_840 : decode cX13_init 840 = .ok (.ldc 7, 2) := by decide +kernel
theorem dX13_init_842 : decode cX13_init 842 = .ok (.newarray .int, 2) := by decide +kernel
theorem dX13_init_844 : decode cX13_init 844 = .ok (.putfield 305, 3) := by decide +kernel
theorem dX13_init_847 : decode cX13_init 847 = .ok (.aload_n 0, 1) := by decide +kernel
theorem dX13_init_848 : decode cX13_init 848 = .ok (.ldc 7, 2) := by decide +kernel
theorem dX13_init_850 : decode cX13_init 850 = .ok (.newarray .int, 2) := by decide +kernel
theorem dX13_init_852 : decode cX13_init 852 = .ok (.putfield 308, 3) := by decide +kernel
theorem dX13_init_855 : decode cX13_init 855 = .ok (.aload_n 0, 1) := by decide +kernel
theorem dX13_init_856 : decode cX13_init 856 = .ok (.ldc 7, 2) := by decide +kernel
theorem dX13_init_858 : decode cX13_init 858 = .ok (.newarray .int, 2) := by decide +kernel
theorem dX13_init_860 : decode cX13_init 860 = .ok (.putfield 311, 3) := by decide +kernel
theorem dX13_init_863 : decode cX13_init 863 = .ok (.aload_n 0, 1) := by decide +kernel
theorem dX13_init_864 : decode cX13_init 864 = .ok (.ldc 196, 2) := by decide +kernel
theorem dX13_init_866 : decode cX13_init 866 = .ok (.newarray .int, 2) := by decide +kernel
theorem dX13_init_868 : decode cX13_init 868 = .ok (.putfield 314, 3) := by decide +kernel
theorem dX13_init_871 : decode cX13_init 871 = .ok (.aload_n 0, 1) := by decide +kernel
theorem dX13_init_872 : decode cX13_init 872 = .ok (.bipush 101, 2) := by decide +kernel
theorem dX13_init_874 : decode cX13_init 874 = .ok (.newarray .int, 2) := by decide +kernel
theorem dX13_init_876 : decode cX13_init 876 = .ok (.putfield 317, 3) := by decide +kernel
theorem dX13_init_879 : decode cX13_init 879 = .ok (.aload_n 0, 1) := by decide +kernel
theorem dX13_init_880 : decode cX13_init 880 = .ok (.bipush 101, 2) := by decide +kernel
theorem dX13_init_882 : decode cX13_init 882 = .ok (.newarray .int, 2) := by decide +kernel
theorem dX13_init_884 : decode cX13_init 884 = .ok (.putfield 320, 3) := by decide +kernel
theorem dX13_init_887 : decode cX13_init 887 = .ok (.aload_n 0, 1) := by decide +kernel
theorem dX13_init_888 : decode cX13_init 888 = .ok (.sipush 1501, 3) := by decide +kernel
theorem dX13_init_891 : decode cX13_init 891 = .ok (.newarray .int, 2) := by decide +kernel
theorem dX13_init_893 : decode cX13_init 893 = .ok (.putfield 323, 3) := by decide +kernel
theorem dX13_init_896 : decode cX13_init 896 = .ok (.aload_n 0, 1) := by decide +kernel
theorem dX13_init_897 : decode cX13_init 897 = .ok (.ldc 103, 2) := by decide +kernel
theorem dX13_init_899 : decode cX13_init 899 = .ok (.newarray .long, 2) := by decide +kernel
theorem dX13_init_901 : decode cX13_init 901 = .ok (.putfield 326, 3) := by decide +kernel
theorem dX13_init_904 : decode cX13_init 904 = .ok (.aload_n 0, 1) := by decide +kernel
theorem dX13_init_905 : decode cX13_init 905 = .ok (.sipush 1501, 3) := by decide +kernel
theorem dX13_init_908 : decode cX13_init 908 = .ok (.newarray .int, 2) := by decide +kernel
theorem dX13_init_910 : decode cX13_init 910 = .ok (.putfield 329, 3) := by decide +kernel
theorem dX13_init_913 : decode cX13_init 913 = .ok (.aload_n 0, 1) := by decide +kernel
theorem dX13_init_914 : decode cX13_init 914 = .ok (.sipush 1501, 3) := by decide +kernel
theorem dX13_init_917 : decode cX13_init 917 = .ok (.newarray .boolean, 2) := by decide +kernel
theorem dX13_init_919 : decode cX13_init 919 = .ok (.putfield 332, 3) := by decide +kernel
theorem dX13_init_922 : decode cX13_init 922 = .ok (.aload_n 0, 1) := by decide +kernel
theorem dX13_init_923 : decode cX13_init 923 = .ok (.sipush 1501, 3) := by decide +kernel
theorem dX13_init_926 : decode cX13_init 926 = .ok (.newarray .int, 2) := by decide +kernel
theorem dX13_init_928 : decode cX13_init 928 = .ok (.putfield 335, 3) := by decide +kernel
theorem dX13_init_931 : decode cX13_init 931 = .ok (.aload_n 0, 1) := by decide +kernel
theorem dX13_init_932 : decode cX13_init 932 = .ok (.sipush 1501, 3) := by decide +kernel
theorem dX13_init_935 : decode cX13_init 935 = .ok (.newarray .boolean, 2) := by decide +kernel
theorem dX13_init_937 : decode cX13_init 937 = .ok (.putfield 338, 3) := by decide +kernel
theorem dX13_init_940 : decode cX13_init 940 = .ok (.aload_n 0, 1) := by decide +kernel
theorem dX13_init_941 : decode cX13_init 941 = .ok (.sipush 1501, 3) := by decide +kernel
theorem dX13_init_944 : decode cX13_init 944 = .ok (.newarray .int, 2) := by decide +kernel
theorem dX13_init_946 : decode cX13_init 946 = .ok (.putfield 341, 3) := by decide +kernel
theorem dX13_init_949 : decode cX13_init 949 = .ok (.aload_n 0, 1) := by decide +kernel
theorem dX13_init_950 : decode cX13_init 950 = .ok (.sipush 1501, 3) := by decide +kernel
theorem dX13_init_953 : decode cX13_init 953 = .ok (.newarray .int, 2) := by decide +kernel
theorem dX13_init_955 : decode cX13_init 955 = .ok (.putfield 344, 3) := by decide +kernel
theorem dX13_init_958 : decode cX13_init 958 = .ok (.aload_n 0, 1) := by decide +kernel
theorem dX13_init_959 : decode cX13_init 959 = .ok (.ldc_w 347, 3) := by decide +kernel
theorem dX13_init_962 : decode cX13_init 962 = .ok (.newarray .int, 2) := by decide +kernel
theorem dX13_init_964 : decode cX13_init 964 = .ok (.putfield 348, 3) := by decide +kernel
theorem dX13_init_967 : decode cX13_init 967 = .ok (.aload_n 0, 1) := by decide +kernel
theorem dX13_init_968 : decode cX13_init 968 = .ok (.sipush 1300, 3) := by decide +kernel
theorem dX13_init_971 : decode cX13_init 971 = .ok (.newarray .int, 2) := by decide +kernel
theorem dX13_init_973 : decode cX13_init 973 = .ok (.putfield 351, 3) := by decide +kernel
theorem dX13_init_976 : decode cX13_init 976 = .ok (.aload_n 0, 1) := by decide +kernel
theorem dX13_init_977 : decode cX13_init 977 = .ok (.bipush 64, 2) := by decide +kernel
theorem dX13_init_979 : decode cX13_init 979 = .ok (.newarray .int, 2) := by decide +kernel
theorem dX13_init_981 : decode cX13_init 981 = .ok (.putfield 354, 3) := by decide +kernel
theorem dX13_init_984 : decode cX13_init 984 = .ok (.aload_n 0, 1) := by decide +kernel
theorem dX13_init_985 : decode cX13_init 985 = .ok (.sipush 1001, 3) := by decide +kernel
theorem dX13_init_988 : decode cX13_init 988 = .ok (.newarray .int, 2) := by decide +kernel
theorem dX13_init_990 : decode cX13_init 990 = .ok (.putfield 357, 3) := by decide +kernel
theorem dX13_init_993 : decode cX13_init 993 = .ok (.aload_n 0, 1) := by decide +kernel
theorem dX13_init_994 : decode cX13_init 994 = .ok (.sipush 1001, 3) := by decide +kernel
theorem dX13_init_997 : decode cX13_init 997 = .ok (.newarray .int, 2) := by decide +kernel
theorem dX13_init_999 : decode cX13_init 999 = .ok (.putfield 360, 3) := by decide +kernel
theorem dX13_init_1002 : decode cX13_init 1002 = .ok (.aload_n 0, 1) := by decide +kernel
theorem dX13_init_1003 : decode cX13_init 1003 = .ok (.ldc 221, 2) := by decide +kernel
theorem dX13_init_1005 : decode cX13_init 1005 = .ok (.newarray .int, 2) := by decide +kernel
theorem dX13_init_1007 : decode cX13_init 1007 = .ok (.putfield 363, 3) := by decide +kernel
theorem dX13_init_1010 : decode cX13_init 1010 = .ok (.aload_n 0, 1) := by decide +kernel
theorem dX13_init_1011 : decode cX13_init 1011 = .ok (.iconst (-1), 1) := by decide +kernel
theorem dX13_init_1012 : decode cX13_init 1012 = .ok (.putfield 366, 3) := by decide +kernel
theorem dX13_init_1015 : decode cX13_init 1015 = .ok (.aload_n 0, 1) := by decide +kernel
theorem dX13_init_1016 : decode cX13_init 1016 = .ok (.iconst (-1), 1) := by decide +kernel
theorem dX13_init_1017 : decode cX13_init 1017 = .ok (.putfield 370, 3) := by decide +kernel
theorem dX13_init_1020 : decode cX13_init 1020 = .ok (.aload_n 0, 1) := by decide +kernel
theorem dX13_init_1021 : decode cX13_init 1021 = .ok (.iconst (-1), 1) := by decide +kernel
theorem dX13_init_1022 : decode cX13_init 1022 = .ok (.putfield 373, 3) := by decide +kernel
theorem dX13_init_1025 : decode cX13_init 1025 = .ok (.aload_n 0, 1) := by decide +kernel
theorem dX13_init_1026 : decode cX13_init 1026 = .ok (.invokevirtual 376, 3) := by decide +kernel
theorem dX13_init_1029 : decode cX13_init 1029 = .ok (.return_, 1) := by decide +kernel
theorem dX13_isAssertion_0 : decode cX13_isAssertion 0 = .ok (.aload_n 0, 1) := by decide +kernel
theorem dX13_isAssertion_1 : decode cX13_isAssertion 1 = .ok (.iload_n 1, 1) := by decide +kernel
theorem dX13_isAssertion_2 : decode cX13_isAssertion 2 = .ok (.invokevirtual 709, 3) := by decide +kernel
theorem dX13_isAssertion_5 : decode cX13_isAssertion 5 = .ok (.ifCond .eq 17, 3) := by decide +kernel
theorem dX13_isAssertion_22 : decode cX13_isAssertion 22 = .ok (.iconst 0, 1) := by decide +kernel
theorem dX13_isAssertion_23 : decode cX13_isAssertion 23 = .ok (.ireturn, 1) := by decide +kernel
theorem dX13_isIn_0 : decode cX13_isIn 0 = .ok (.lload_n 0, 1) := by decide +kernel
theorem dX13_isIn_1 : decode cX13_isIn 1 = .ok (.lload_n 2, 1) := by decide +kernel
theorem dX13_isIn_2 : decode cX13_isIn 2 = .ok (.lcmp, 1) := by decide +kernel
theorem dX13_isIn_3 : decode cX13_isIn 3 = .ok (.ifCond .lt 14, 3) := by decide +kernel
theorem dX13_isIn_6 : decode cX13_isIn 6 = .ok (.lload_n 0, 1) := by decide +kernel
theorem dX13_isIn_7 : decode cX13_isIn 7 = .ok (.lload 4, 2) := by decide +kernel
theorem dX13_isIn_9 : decode cX13_isIn 9 = .ok (.lcmp, 1) := by decide +kernel
theorem dX13_isIn_10 : decode cX13_isIn 10 = .ok (.ifCond .gt 7, 3) := by decide +kernel
theorem dX13_isIn_13 : decode cX13_isIn 13 = .ok (.iconst 1, 1) := by decide +kernel
theorem dX13_isIn_14 : decode cX13_isIn 14 = .ok (.goto 4, 3) := by decide +kernel
theorem dX13_isIn_17 : decode cX13_isIn 17 = .ok (.iconst 0, 1) := by decide +kernel
theorem dX13_isIn_18 : decode cX13_isIn 18 = .ok (.ireturn, 1) := by decide +kernel
theorem dX13_isProved_0 : decode cX13_isProved 0 = .ok (.aload_n 0, 1) := by decide +kernel
theorem dX13_isProved_1 : decode cX13_isProved 1 = .ok (.iload_n 1, 1) := by decide +kernel
theorem dX13_isProved_2 : decode cX13_isProved 2 = .ok (.invokevirtual 709, 3) := by decide +kernel
theorem dX13_isProved_5 : decode cX13_isProved 5 = .ok (.ifCond .eq 17, 3) := by decide +kernel
theorem dX13_isProved_22 : decode cX13_isProved 22 = .ok (.iconst 0, 1) := by decide +kernel
theorem dX13_isProved_23 : decode cX13_isProved 23 = .ok (.ireturn, 1) := by decide +kernel
theorem dX13_isRow_0 : decode cX13_isRow 0 = .ok (.aload_n 0, 1) := by decide +kernel
theorem dX13_isRow_1 : decode cX13_isRow 1 = .ok (.iload_n 1, 1) := by decide +kernel
theorem dX13_isRow_2 : decode cX13_isRow 2 = .ok (.invokevirtual 736, 3) := by decide +kernel
theorem dX13_isRow_5 : decode cX13_isRow 5 = .ok (.ifCond .eq 20, 3) := by decide +kernel
theorem dX13_isRow_25 : decode cX13_isRow 25 = .ok (.iconst 0, 1) := by decide +kernel
theorem dX13_isRow_26 : decode cX13_isRow 26 = .ok (.ireturn, 1) := by decide +kernel
theorem dX13_isStatement_0 : decode cX13_isStatement 0 = .ok (.iload_n 1, 1) := by decide +kernel
theorem dX13_isStatement_1 : decode cX13_isStatement 1 = .ok (.i2l, 1) := by decide +kernel
theorem dX13_isStatement_2 : decode cX13_isStatement 2 = .ok (.lconst 0, 1) := by decide +kernel
theorem dX13_isStatement_3 : decode cX13_isStatement 3 = .ok (.aload_n 0, 1) := by decide +kernel
theorem dX13_isStatement_4 : decode cX13_isStatement 4 = .ok (.getfield 512, 3) := by decide +kernel
theorem dX13_isStatement_7 : decode cX13_isStatement 7 = .ok (.iconst 1, 1) := by decide +kernel
theorem dX13_isStatement_8 : decode cX13_isStatement 8 = .ok (.isub, 1) := by decide +kernel
theorem dX13_isStatement_9 : decode cX13_isStatement 9 = .ok (.i2l, 1) := by decide +kernel
theorem dX13_isStatement_10 : decode cX13_isStatement 10 = .ok (.invokestatic 388, 3) := by decide +kernel
theorem dX13_isStatement_13 : decode cX13_isStatement 13 = .ok (.ireturn, 1) := by decide +kernel
theorem dX13_kind_0 : decode cX13_kind 0 = .ok (.aload_n 0, 1) := by decide +kernel
theorem dX13_kind_1 : decode cX13_kind 1 = .ok (.iload_n 1, 1) := by decide +kernel
theorem dX13_kind_2 : decode cX13_kind 2 = .ok (.invokevirtual 709, 3) := by decide +kernel
theorem dX13_kind_5 : decode cX13_kind 5 = .ok (.ifCond .eq 12, 3) := by decide +kernel
theorem dX13_kind_17 : decode cX13_kind 17 = .ok (.iconst (-1), 1) := by decide +kernel
theorem dX13_kind_18 : decode cX13_kind 18 = .ok (.ireturn, 1) := by decide +kernel
theorem dX13_length_0 : decode cX13_length 0 = .ok (.aload_n 0, 1) := by decide +kernel
theorem dX13_length_1 : decode cX13_length 1 = .ok (.iload_n 1, 1) := by decide +kernel
theorem dX13_length_2 : decode cX13_length 2 = .ok (.invokevirtual 709, 3) := by decide +kernel
theorem dX13_length_5 : decode cX13_length 5 = .ok (.ifCond .eq 12, 3) := by decide +kernel
theorem dX13_length_17 : decode cX13_length 17 = .ok (.iconst (-1), 1) := by decide +kernel
theorem dX13_length_18 : decode cX13_length 18 = .ok (.ireturn, 1) := by decide +kernel
theorem dX13_next_0 : decode cX13_next 0 = .ok (.iconst 1, 1) := by decide +kernel
theorem dX13_next_1 : decode cX13_next 1 = .ok (.istore_n 1, 1) := by decide +kernel
theorem dX13_next_2 : decode cX13_next 2 = .ok (.iload_n 1, 1) := by decide +kernel
theorem dX13_next_3 : decode cX13_next 3 = .ok (.ifCond .eq 68, 3) := by decide +kernel
theorem dX13_next_6 : decode cX13_next 6 = .ok (.iconst 0, 1) := by decide +kernel
theorem dX13_next_7 : decode cX13_next 7 = .ok (.istore_n 1, 1) := by decide +kernel
theorem dX13_next_8 : decode cX13_next 8 = .ok (.aload_n 0, 1) := by decide +kernel
theorem dX13_next_9 : decode cX13_next 9 = .ok (.invokevirtual 441, 3) := by decide +kernel
theorem dX13_next_12 : decode cX13_next 12 = .ok (.ifCond .ne 9, 3) := by decide +kernel
theorem dX13_next_15 : decode cX13_next 15 = .ok (.aload_n 0, 1) := by decide +kernel
theorem dX13_next_16 : decode cX13_next 16 = .ok (.iconst 0, 1) := by decide +kernel
theorem dX13_next_17 : decode cX13_next 17 = .ok (.putfield 452, 3) := by decide +kernel
theorem dX13_next_20 : decode cX13_next 20 = .ok (.return_, 1) := by decide +kernel
theorem dX13_nextRow_0 : decode cX13_nextRow 0 = .ok (.aload_n 0, 1) := by decide +kernel
theorem dX13_nextRow_1 : decode cX13_nextRow 1 = .ok (.getfield 427, 3) := by decide +kernel
theorem dX13_nextRow_4 : decode cX13_nextRow 4 = .ok (.aload_n 0, 1) := by decide +kernel
theorem dX13_nextRow_5 : decode cX13_nextRow 5 = .ok (.getfield 379, 3) := by decide +kernel
theorem dX13_nextRow_8 : decode cX13_nextRow 8 = .ok (.if_icmp .ge 31, 3) := by decide +kernel
theorem dX13_nextRow_39 : decode cX13_nextRow 39 = .ok (.aload_n 0, 1) := by decide +kernel
theorem dX13_nextRow_40 : decode cX13_nextRow 40 = .ok (.aload_n 0, 1) := by decide +kernel
theorem dX13_nextRow_41 : decode cX13_nextRow 41 = .ok (.getfield 427, 3) := by decide +kernel
theorem dX13_nextRow_44 : decode cX13_nextRow 44 = .ok (.putfield 424, 3) := by decide +kernel
theorem dX13_nextRow_47 : decode cX13_nextRow 47 = .ok (.aload_n 0, 1) := by decide +kernel
theorem dX13_nextRow_48 : decode cX13_nextRow 48 = .ok (.getfield 427, 3) := by decide +kernel
theorem dX13_nextRow_51 : decode cX13_nextRow 51 = .ok (.aload_n 0, 1) := by decide +kernel
theorem dX13_nextRow_52 : decode cX13_nextRow 52 = .ok (.getfield 379, 3) := by decide +kernel
theorem dX13_nextRow_55 : decode cX13_nextRow 55 = .ok (.if_icmp .ge 27, 3) := by decide +kernel
theorem dX13_nextRow_82 : decode cX13_nextRow 82 = .ok (.aload_n 0, 1) := by decide +kernel
theorem dX13_nextRow_83 : decode cX13_nextRow 83 = .ok (.getfield 427, 3) := by decide +kernel
theorem dX13_nextRow_86 : decode cX13_nextRow 86 = .ok (.aload_n 0, 1) := by decide +kernel
theorem dX13_nextRow_87 : decode cX13_nextRow 87 = .ok (.getfield 379, 3) := by decide +kernel
theorem dX13_nextRow_90 : decode cX13_nextRow 90 = .ok (.if_icmp .ge 31, 3) := by decide +kernel
theorem dX13_nextRow_121 : decode cX13_nextRow 121 = .ok (.aload_n 0, 1) := by decide +kernel
theorem dX13_nextRow_122 : decode cX13_nextRow 122 = .ok (.aload_n 0, 1) := by decide +kernel
theorem dX13_nextRow_123 : decode cX13_nextRow 123 = .ok (.getfield 427, 3) := by decide +kernel
theorem dX13_nextRow_126 : decode cX13_nextRow 126 = .ok (.aload_n 0, 1) := by decide +kernel
theorem dX13_nextRow_127 : decode cX13_nextRow 127 = .ok (.getfield 424, 3) := by decide +kernel
theorem dX13_nextRow_130 : decode cX13_nextRow 130 = .ok (.isub, 1) := by decide +kernel
theorem dX13_nextRow_131 : decode cX13_nextRow 131 = .ok (.putfield 421, 3) := by decide +kernel
theorem dX13_nextRow_134 : decode cX13_nextRow 134 = .ok (.aload_n 0, 1) := by decide +kernel
theorem dX13_nextRow_135 : decode cX13_nextRow 135 = .ok (.getfield 421, 3) := by decide +kernel
theorem dX13_nextRow_138 : decode cX13_nextRow 138 = .ok (.ifCond .le 14, 3) := by decide +kernel
theorem dX13_nextRow_152 : decode cX13_nextRow 152 = .ok (.iconst 0, 1) := by decide +kernel
theorem dX13_nextRow_153 : decode cX13_nextRow 153 = .ok (.ireturn, 1) := by decide +kernel
theorem dX13_noteAll_0 : decode cX13_noteAll 0 = .ok (.iconst 0, 1) := by decide +kernel
theorem dX13_noteAll_1 : decode cX13_noteAll 1 = .ok (.istore_n 1, 1) := by decide +kernel
theorem dX13_noteAll_2 : decode cX13_noteAll 2 = .ok (.iload_n 1, 1) := by decide +kernel
theorem dX13_noteAll_3 : decode cX13_noteAll 3 = .ok (.aload_n 0, 1) := by decide +kernel
theorem dX13_noteAll_4 : decode cX13_noteAll 4 = .ok (.getfield 471, 3) := by decide +kernel
theorem dX13_noteAll_7 : decode cX13_noteAll 7 = .ok (.if_icmp .ge 69, 3) := by decide +kernel
theorem dX13_noteAll_76 : decode cX13_noteAll 76 = .ok (.return_, 1) := by decide +kernel
theorem dX13_place_0 : decode cX13_place 0 = .ok (.aload_n 0, 1) := by decide +kernel
theorem dX13_place_1 : decode cX13_place 1 = .ok (.getfield 366, 3) := by decide +kernel
theorem dX13_place_4 : decode cX13_place 4 = .ok (.ireturn, 1) := by decide +kernel
theorem dX13_print_0 : decode cX13_print 0 = .ok (.aload_n 0, 1) := by decide +kernel
theorem dX13_print_1 : decode cX13_print 1 = .ok (.iconst 0, 1) := by decide +kernel
theorem dX13_print_2 : decode cX13_print 2 = .ok (.putfield 760, 3) := by decide +kernel
theorem dX13_print_5 : decode cX13_print 5 = .ok (.aload_n 0, 1) := by decide +kernel
theorem dX13_print_6 : decode cX13_print 6 = .ok (.invokevirtual 964, 3) := by decide +kernel
theorem dX13_print_9 : decode cX13_print 9 = .ok (.iload_n 1, 1) := by decide +kernel
theorem dX13_print_10 : decode cX13_print 10 = .ok (.tableswitch 187 0 7 #[46, 66, 94, 112, 132, 150, 168, 168], 46) := by decide +kernel
theorem dX13_print_56 : decode cX13_print 56 = .ok (.aload_n 0, 1) := by decide +kernel
theorem dX13_print_57 : decode cX13_print 57 = .ok (.iload_n 2, 1) := by decide +kernel
theorem dX13_print_58 : decode cX13_print 58 = .ok (.invokevirtual 709, 3) := by decide +kernel
theorem dX13_print_61 : decode cX13_print 61 = .ok (.ifCond .ne 5, 3) := by decide +kernel
theorem dX13_print_64 : decode cX13_print 64 = .ok (.iconst (-1), 1) := by decide +kernel
theorem dX13_print_65 : decode cX13_print 65 = .ok (.ireturn, 1) := by decide +kernel
theorem dX13_print_76 : decode cX13_print 76 = .ok (.iload_n 2, 1) := by decide +kernel
theorem dX13_print_77 : decode cX13_print 77 = .ok (.i2l, 1) := by decide +kernel
theorem dX13_print_78 : decode cX13_print 78 = .ok (.lconst 0, 1) := by decide +kernel
theorem dX13_print_79 : decode cX13_print 79 = .ok (.aload_n 0, 1) := by decide +kernel
theorem dX13_print_80 : decode cX13_print 80 = .ok (.getfield 471, 3) := by decide +kernel
theorem dX13_print_83 : decode cX13_print 83 = .ok (.iconst 1, 1) := by decide +kernel
theorem dX13_print_84 : decode cX13_print 84 = .ok (.isub, 1) := by decide +kernel
theorem dX13_print_85 : decode cX13_print 85 = .ok (.i2l, 1) := by decide +kernel
theorem dX13_print_86 : decode cX13_print 86 = .ok (.invokestatic 388, 3) := by decide +kernel
theorem dX13_print_89 : decode cX13_print 89 = .ok (.ifCond .ne 5, 3) := by decide +kernel
theorem dX13_print_92 : decode cX13_print 92 = .ok (.iconst (-1), 1) := by decide +kernel
theorem dX13_print_93 : decode cX13_print 93 = .ok (.ireturn, 1) := by decide +kernel
theorem dX13_print_104 : decode cX13_print 104 = .ok (.aload_n 0, 1) := by decide +kernel
theorem dX13_print_105 : decode cX13_print 105 = .ok (.iload_n 2, 1) := by decide +kernel
theorem dX13_print_106 : decode cX13_print 106 = .ok (.invokevirtual 709, 3) := by decide +kernel
theorem dX13_print_109 : decode cX13_print 109 = .ok (.ifCond .eq 11, 3) := by decide +kernel
theorem dX13_print_120 : decode cX13_print 120 = .ok (.iconst (-1), 1) := by decide +kernel
theorem dX13_print_121 : decode cX13_print 121 = .ok (.ireturn, 1) := by decide +kernel
theorem dX13_print_122 : decode cX13_print 122 = .ok (.aload_n 0, 1) := by decide +kernel
theorem dX13_print_123 : decode cX13_print 123 = .ok (.iload_n 2, 1) := by decide +kernel
theorem dX13_print_124 : decode cX13_print 124 = .ok (.iload_n 3, 1) := by decide +kernel
theorem dX13_print_125 : decode cX13_print 125 = .ok (.invokevirtual 745, 3) := by decide +kernel
theorem dX13_print_128 : decode cX13_print 128 = .ok (.ifCond .eq 12, 3) := by decide +kernel
theorem dX13_print_140 : decode cX13_print 140 = .ok (.iconst (-1), 1) := by decide +kernel
theorem dX13_print_141 : decode cX13_print 141 = .ok (.ireturn, 1) := by decide +kernel
theorem dX13_print_142 : decode cX13_print 142 = .ok (.aload_n 0, 1) := by decide +kernel
theorem dX13_print_143 : decode cX13_print 143 = .ok (.iload_n 2, 1) := by decide +kernel
theorem dX13_print_144 : decode cX13_print 144 = .ok (.invokevirtual 736, 3) := by decide +kernel
theorem dX13_print_147 : decode cX13_print 147 = .ok (.ifCond .eq 11, 3) := by decide +kernel
theorem dX13_print_158 : decode cX13_print 158 = .ok (.iconst (-1), 1) := by decide +kernel
theorem dX13_print_159 : decode cX13_print 159 = .ok (.ireturn, 1) := by decide +kernel
theorem dX13_print_160 : decode cX13_print 160 = .ok (.aload_n 0, 1) := by decide +kernel
theorem dX13_print_161 : decode cX13_print 161 = .ok (.iload_n 2, 1) := by decide +kernel
theorem dX13_print_162 : decode cX13_print 162 = .ok (.invokevirtual 736, 3) := by decide +kernel
theorem dX13_print_165 : decode cX13_print 165 = .ok (.ifCond .eq 11, 3) := by decide +kernel
theorem dX13_print_176 : decode cX13_print 176 = .ok (.iconst (-1), 1) := by decide +kernel
theorem dX13_print_177 : decode cX13_print 177 = .ok (.ireturn, 1) := by decide +kernel
theorem dX13_print_178 : decode cX13_print 178 = .ok (.aload_n 0, 1) := by decide +kernel
theorem dX13_print_179 : decode cX13_print 179 = .ok (.iload_n 2, 1) := by decide +kernel
theorem dX13_print_180 : decode cX13_print 180 = .ok (.invokevirtual 709, 3) := by decide +kernel
theorem dX13_print_183 : decode cX13_print 183 = .ok (.ifCond .eq 12, 3) := by decide +kernel
theorem dX13_print_195 : decode cX13_print 195 = .ok (.iconst (-1), 1) := by decide +kernel
theorem dX13_print_196 : decode cX13_print 196 = .ok (.ireturn, 1) := by decide +kernel
theorem dX13_print_197 : decode cX13_print 197 = .ok (.iconst (-1), 1) := by decide +kernel
theorem dX13_print_198 : decode cX13_print 198 = .ok (.ireturn, 1) := by decide +kernel
theorem dX13_read_0 : decode cX13_read 0 = .ok (.aload_n 0, 1) := by decide +kernel
theorem dX13_read_1 : decode cX13_read 1 = .ok (.getfield 471, 3) := by decide +kernel
theorem dX13_read_4 : decode cX13_read 4 = .ok (.istore_n 1, 1) := by decide +kernel
theorem dX13_read_5 : decode cX13_read 5 = .ok (.aload_n 0, 1) := by decide +kernel
theorem dX13_read_6 : decode cX13_read 6 = .ok (.getfield 512, 3) := by decide +kernel
theorem dX13_read_9 : decode cX13_read 9 = .ok (.istore_n 2, 1) := by decide +kernel
theorem dX13_read_10 : decode cX13_read 10 = .ok (.aload_n 0, 1) := by decide +kernel
theorem dX13_read_11 : decode cX13_read 11 = .ok (.getfield 400, 3) := by decide +kernel
theorem dX13_read_14 : decode cX13_read 14 = .ok (.istore_n 3, 1) := by decide +kernel
theorem dX13_read_15 : decode cX13_read 15 = .ok (.aload_n 0, 1) := by decide +kernel
theorem dX13_read_16 : decode cX13_read 16 = .ok (.getfield 405, 3) := by decide +kernel
theorem dX13_read_19 : decode cX13_read 19 = .ok (.istore 4, 2) := by decide +kernel
theorem dX13_read_21 : decode cX13_read 21 = .ok (.aload_n 0, 1) := by decide +kernel
theorem dX13_read_22 : decode cX13_read 22 = .ok (.getfield 408, 3) := by decide +kernel
theorem dX13_read_25 : decode cX13_read 25 = .ok (.istore 5, 2) := by decide +kernel
theorem dX13_read_27 : decode cX13_read 27 = .ok (.aload_n 0, 1) := by decide +kernel
theorem dX13_read_28 : decode cX13_read 28 = .ok (.getfield 411, 3) := by decide +kernel
theorem dX13_read_31 : decode cX13_read 31 = .ok (.istore 6, 2) := by decide +kernel
theorem dX13_read_33 : decode cX13_read 33 = .ok (.aload_n 0, 1) := by decide +kernel
theorem dX13_read_34 : decode cX13_read 34 = .ok (.invokevirtual 696, 3) := by decide +kernel
theorem dX13_read_37 : decode cX13_read 37 = .ok (.aload_n 0, 1) := by decide +kernel
theorem dX13_read_38 : decode cX13_read 38 = .ok (.iconst 0, 1) := by decide +kernel
theorem dX13_read_39 : decode cX13_read 39 = .ok (.putfield 427, 3) := by decide +kernel
theorem dX13_read_42 : decode cX13_read 42 = .ok (.aload_n 0, 1) := by decide +kernel
theorem dX13_read_43 : decode cX13_read 43 = .ok (.iconst 0, 1) := by decide +kernel
theorem dX13_read_44 : decode cX13_read 44 = .ok (.putfield 418, 3) := by decide +kernel
theorem dX13_read_47 : decode cX13_read 47 = .ok (.aload_n 0, 1) := by decide +kernel
theorem dX13_read_48 : decode cX13_read 48 = .ok (.iconst (-1), 1) := by decide +kernel
theorem dX13_read_49 : decode cX13_read 49 = .ok (.putfield 366, 3) := by decide +kernel
theorem dX13_read_52 : decode cX13_read 52 = .ok (.aload_n 0, 1) := by decide +kernel
theorem dX13_read_53 : decode cX13_read 53 = .ok (.iconst 0, 1) := by decide +kernel
theorem dX13_read_54 : decode cX13_read 54 = .ok (.putfield 677, 3) := by decide +kernel
theorem dX13_read_57 : decode cX13_read 57 = .ok (.aload_n 0, 1) := by decide +kernel
theorem dX13_read_58 : decode cX13_read 58 = .ok (.invokevirtual 490, 3) := by decide +kernel
theorem dX13_read_61 : decode cX13_read 61 = .ok (.aload_n 0, 1) := by decide +kernel
theorem dX13_read_62 : decode cX13_read 62 = .ok (.getfield 418, 3) := by decide +kernel
theorem dX13_read_65 : decode cX13_read 65 = .ok (.ifCond .ne 28, 3) := by decide +kernel
theorem dX13_read_68 : decode cX13_read 68 = .ok (.aload_n 0, 1) := by decide +kernel
theorem dX13_read_69 : decode cX13_read 69 = .ok (.getfield 452, 3) := by decide +kernel
theorem dX13_read_72 : decode cX13_read 72 = .ok (.ifCond .eq 21, 3) := by decide +kernel
theorem dX13_read_93 : decode cX13_read 93 = .ok (.aload_n 0, 1) := by decide +kernel
theorem dX13_read_94 : decode cX13_read 94 = .ok (.getfield 418, 3) := by decide +kernel
theorem dX13_read_97 : decode cX13_read 97 = .ok (.ifCond .ne 19, 3) := by decide +kernel
theorem dX13_read_100 : decode cX13_read 100 = .ok (.aload_n 0, 1) := by decide +kernel
theorem dX13_read_101 : decode cX13_read 101 = .ok (.getfield 677, 3) := by decide +kernel
theorem dX13_read_104 : decode cX13_read 104 = .ok (.ifCond .le 12, 3) := by decide +kernel
theorem dX13_read_116 : decode cX13_read 116 = .ok (.aload_n 0, 1) := by decide +kernel
theorem dX13_read_117 : decode cX13_read 117 = .ok (.getfield 418, 3) := by decide +kernel
theorem dX13_read_120 : decode cX13_read 120 = .ok (.ifCond .le 16, 3) := by decide +kernel
theorem dX13_read_136 : decode cX13_read 136 = .ok (.aload_n 0, 1) := by decide +kernel
theorem dX13_read_137 : decode cX13_read 137 = .ok (.iconst 0, 1) := by decide +kernel
theorem dX13_read_138 : decode cX13_read 138 = .ok (.putfield 379, 3) := by decide +kernel
theorem dX13_read_141 : decode cX13_read 141 = .ok (.aload_n 0, 1) := by decide +kernel
theorem dX13_read_142 : decode cX13_read 142 = .ok (.iconst 0, 1) := by decide +kernel
theorem dX13_read_143 : decode cX13_read 143 = .ok (.putfield 382, 3) := by decide +kernel
theorem dX13_read_146 : decode cX13_read 146 = .ok (.aload_n 0, 1) := by decide +kernel
theorem dX13_read_147 : decode cX13_read 147 = .ok (.iload_n 2, 1) := by decide +kernel
theorem dX13_read_148 : decode cX13_read 148 = .ok (.invokevirtual 706, 3) := by decide +kernel
theorem dX13_read_151 : decode cX13_read 151 = .ok (.aload_n 0, 1) := by decide +kernel
theorem dX13_read_152 : decode cX13_read 152 = .ok (.getfield 418, 3) := by decide +kernel
theorem dX13_read_155 : decode cX13_read 155 = .ok (.ireturn, 1) := by decide +kernel
theorem dX13_rests_0 : decode cX13_rests 0 = .ok (.aload_n 0, 1) := by decide +kernel
theorem dX13_rests_1 : decode cX13_rests 1 = .ok (.iload_n 1, 1) := by decide +kernel
theorem dX13_rests_2 : decode cX13_rests 2 = .ok (.invokevirtual 719, 3) := by decide +kernel
theorem dX13_rests_5 : decode cX13_rests 5 = .ok (.ifCond .eq 21, 3) := by decide +kernel
theorem dX13_rests_26 : decode cX13_rests 26 = .ok (.iconst (-1), 1) := by decide +kernel
theorem dX13_rests_27 : decode cX13_rests 27 = .ok (.ireturn, 1) := by decide +kernel
theorem dX13_row_0 : decode cX13_row 0 = .ok (.aload_n 0, 1) := by decide +kernel
theorem dX13_row_1 : decode cX13_row 1 = .ok (.iload_n 1, 1) := by decide +kernel
theorem dX13_row_2 : decode cX13_row 2 = .ok (.iload_n 2, 1) := by decide +kernel
theorem dX13_row_3 : decode cX13_row 3 = .ok (.invokevirtual 745, 3) := by decide +kernel
theorem dX13_row_6 : decode cX13_row 6 = .ok (.ifCond .eq 12, 3) := by decide +kernel
theorem dX13_row_18 : decode cX13_row 18 = .ok (.iconst (-1), 1) := by decide +kernel
theorem dX13_row_19 : decode cX13_row 19 = .ok (.ireturn, 1) := by decide +kernel
theorem dX13_rowFrom_0 : decode cX13_rowFrom 0 = .ok (.aload_n 0, 1) := by decide +kernel
theorem dX13_rowFrom_1 : decode cX13_rowFrom 1 = .ok (.iload_n 1, 1) := by decide +kernel
theorem dX13_rowFrom_2 : decode cX13_rowFrom 2 = .ok (.putfield 427, 3) := by decide +kernel
theorem dX13_rowFrom_5 : decode cX13_rowFrom 5 = .ok (.aload_n 0, 1) := by decide +kernel
theorem dX13_rowFrom_6 : decode cX13_rowFrom 6 = .ok (.getfield 427, 3) := by decide +kernel
theorem dX13_rowFrom_9 : decode cX13_rowFrom 9 = .ok (.aload_n 0, 1) := by decide +kernel
theorem dX13_rowFrom_10 : decode cX13_rowFrom 10 = .ok (.getfield 379, 3) := by decide +kernel
theorem dX13_rowFrom_13 : decode cX13_rowFrom 13 = .ok (.if_icmp .ge 31, 3) := by decide +kernel
theorem dX13_rowFrom_44 : decode cX13_rowFrom 44 = .ok (.aload_n 0, 1) := by decide +kernel
theorem dX13_rowFrom_45 : decode cX13_rowFrom 45 = .ok (.aload_n 0, 1) := by decide +kernel
theorem dX13_rowFrom_46 : decode cX13_rowFrom 46 = .ok (.getfield 427, 3) := by decide +kernel
theorem dX13_rowFrom_49 : decode cX13_rowFrom 49 = .ok (.putfield 424, 3) := by decide +kernel
theorem dX13_rowFrom_52 : decode cX13_rowFrom 52 = .ok (.aload_n 0, 1) := by decide +kernel
theorem dX13_rowFrom_53 : decode cX13_rowFrom 53 = .ok (.getfield 427, 3) := by decide +kernel
theorem dX13_rowFrom_56 : decode cX13_rowFrom 56 = .ok (.aload_n 0, 1) := by decide +kernel
theorem dX13_rowFrom_57 : decode cX13_rowFrom 57 = .ok (.getfield 379, 3) := by decide +kernel
theorem dX13_rowFrom_60 : decode cX13_rowFrom 60 = .ok (.if_icmp .ge 31, 3) := by decide +kernel
theorem dX13_rowFrom_91 : decode cX13_rowFrom 91 = .ok (.aload_n 0, 1) := by decide +kernel
theorem dX13_rowFrom_92 : decode cX13_rowFrom 92 = .ok (.aload_n 0, 1) := by decide +kernel
theorem dX13_rowFrom_93 : decode cX13_rowFrom 93 = .ok (.getfield 427, 3) := by decide +kernel
theorem dX13_rowFrom_96 : decode cX13_rowFrom 96 = .ok (.aload_n 0, 1) := by decide +kernel
theorem dX13_rowFrom_97 : decode cX13_rowFrom 97 = .ok (.getfield 424, 3) := by decide +kernel
theorem dX13_rowFrom_100 : decode cX13_rowFrom 100 = .ok (.isub, 1) := by decide +kernel
theorem dX13_rowFrom_101 : decode cX13_rowFrom 101 = .ok (.putfield 421, 3) := by decide +kernel
theorem dX13_rowFrom_104 : decode cX13_rowFrom 104 = .ok (.aload_n 0, 1) := by decide +kernel
theorem dX13_rowFrom_105 : decode cX13_rowFrom 105 = .ok (.getfield 421, 3) := by decide +kernel
theorem dX13_rowFrom_108 : decode cX13_rowFrom 108 = .ok (.ifCond .le 7, 3) := by decide +kernel
theorem dX13_rowFrom_115 : decode cX13_rowFrom 115 = .ok (.aload_n 0, 1) := by decide +kernel
theorem dX13_rowFrom_116 : decode cX13_rowFrom 116 = .ok (.getfield 427, 3) := by decide +kernel
theorem dX13_rowFrom_119 : decode cX13_rowFrom 119 = .ok (.aload_n 0, 1) := by decide +kernel
theorem dX13_rowFrom_120 : decode cX13_rowFrom 120 = .ok (.getfield 379, 3) := by decide +kernel
theorem dX13_rowFrom_123 : decode cX13_rowFrom 123 = .ok (.if_icmp .ge 7, 3) := by decide +kernel
theorem dX13_rowFrom_130 : decode cX13_rowFrom 130 = .ok (.iconst 0, 1) := by decide +kernel
theorem dX13_rowFrom_131 : decode cX13_rowFrom 131 = .ok (.ireturn, 1) := by decide +kernel
theorem dX13_rows_0 : decode cX13_rows 0 = .ok (.aload_n 0, 1) := by decide +kernel
theorem dX13_rows_1 : decode cX13_rows 1 = .ok (.iload_n 1, 1) := by decide +kernel
theorem dX13_rows_2 : decode cX13_rows 2 = .ok (.invokevirtual 736, 3) := by decide +kernel
theorem dX13_rows_5 : decode cX13_rows 5 = .ok (.ifCond .ne 5, 3) := by decide +kernel
theorem dX13_rows_8 : decode cX13_rows 8 = .ok (.iconst (-1), 1) := by decide +kernel
theorem dX13_rows_9 : decode cX13_rows 9 = .ok (.ireturn, 1) := by decide +kernel
theorem dX13_size_0 : decode cX13_size 0 = .ok (.aload_n 0, 1) := by decide +kernel
theorem dX13_size_1 : decode cX13_size 1 = .ok (.iload_n 1, 1) := by decide +kernel
theorem dX13_size_2 : decode cX13_size 2 = .ok (.invokevirtual 736, 3) := by decide +kernel
theorem dX13_size_5 : decode cX13_size 5 = .ok (.ifCond .ne 7, 3) := by decide +kernel
theorem dX13_size_8 : decode cX13_size 8 = .ok (.ldc2_w 403, 3) := by decide +kernel
theorem dX13_size_11 : decode cX13_size 11 = .ok (.lreturn, 1) := by decide +kernel
theorem dX13_symbol_0 : decode cX13_symbol 0 = .ok (.aload_n 0, 1) := by decide +kernel
theorem dX13_symbol_1 : decode cX13_symbol 1 = .ok (.iload_n 1, 1) := by decide +kernel
theorem dX13_symbol_2 : decode cX13_symbol 2 = .ok (.invokevirtual 709, 3) := by decide +kernel
theorem dX13_symbol_5 : decode cX13_symbol 5 = .ok (.ifCond .eq 37, 3) := by decide +kernel
theorem dX13_symbol_42 : decode cX13_symbol 42 = .ok (.iconst (-1), 1) := by decide +kernel
theorem dX13_symbol_43 : decode cX13_symbol 43 = .ok (.ireturn, 1) := by decide +kernel
theorem dX13_takeRow_0 : decode cX13_takeRow 0 = .ok (.iconst 0, 1) := by decide +kernel
theorem dX13_takeRow_1 : decode cX13_takeRow 1 = .ok (.istore_n 1, 1) := by decide +kernel
theorem dX13_takeRow_2 : decode cX13_takeRow 2 = .ok (.aload_n 0, 1) := by decide +kernel
theorem dX13_takeRow_3 : decode cX13_takeRow 3 = .ok (.iconst 0, 1) := by decide +kernel
theorem dX13_takeRow_4 : decode cX13_takeRow 4 = .ok (.invokevirtual 712, 3) := by decide +kernel
theorem dX13_takeRow_7 : decode cX13_takeRow 7 = .ok (.istore_n 2, 1) := by decide +kernel
theorem dX13_takeRow_8 : decode cX13_takeRow 8 = .ok (.iload_n 2, 1) := by decide +kernel
theorem dX13_takeRow_9 : decode cX13_takeRow 9 = .ok (.iconst 1, 1) := by decide +kernel
theorem dX13_takeRow_10 : decode cX13_takeRow 10 = .ok (.if_icmp .ne 7, 3) := by decide +kernel
theorem dX13_takeRow_17 : decode cX13_takeRow 17 = .ok (.iconst 0, 1) := by decide +kernel
theorem dX13_takeRow_18 : decode cX13_takeRow 18 = .ok (.istore_n 3, 1) := by decide +kernel
theorem dX13_takeRow_19 : decode cX13_takeRow 19 = .ok (.iload_n 2, 1) := by decide +kernel
theorem dX13_takeRow_20 : decode cX13_takeRow 20 = .ok (.iconst 1, 1) := by decide +kernel
theorem dX13_takeRow_21 : decode cX13_takeRow 21 = .ok (.if_icmp .ne 58, 3) := by decide +kernel
theorem dX13_takeRow_79 : decode cX13_takeRow 79 = .ok (.iload_n 3, 1) := by decide +kernel
theorem dX13_takeRow_80 : decode cX13_takeRow 80 = .ok (.ifCond .eq 11, 3) := by decide +kernel
theorem dX13_takeRow_91 : decode cX13_takeRow 91 = .ok (.iconst (-1), 1) := by decide +kernel
theorem dX13_takeRow_92 : decode cX13_takeRow 92 = .ok (.ireturn, 1) := by decide +kernel
theorem dX13_trees_0 : decode cX13_trees 0 = .ok (.aload_n 0, 1) := by decide +kernel
theorem dX13_trees_1 : decode cX13_trees 1 = .ok (.iload_n 1, 1) := by decide +kernel
theorem dX13_trees_2 : decode cX13_trees 2 = .ok (.invokevirtual 709, 3) := by decide +kernel
theorem dX13_trees_5 : decode cX13_trees 5 = .ok (.ifCond .ne 7, 3) := by decide +kernel
theorem dX13_trees_8 : decode cX13_trees 8 = .ok (.iconst (-1), 1) := by decide +kernel
theorem dX13_trees_9 : decode cX13_trees 9 = .ok (.goto 24, 3) := by decide +kernel
theorem dX13_trees_33 : decode cX13_trees 33 = .ok (.ireturn, 1) := by decide +kernel
theorem dX13_useTape_0 : decode cX13_useTape 0 = .ok (.aload_n 0, 1) := by decide +kernel
theorem dX13_useTape_1 : decode cX13_useTape 1 = .ok (.iconst 0, 1) := by decide +kernel
theorem dX13_useTape_2 : decode cX13_useTape 2 = .ok (.putfield 379, 3) := by decide +kernel
theorem dX13_useTape_5 : decode cX13_useTape 5 = .ok (.aload_n 0, 1) := by decide +kernel
theorem dX13_useTape_6 : decode cX13_useTape 6 = .ok (.iconst 0, 1) := by decide +kernel
theorem dX13_useTape_7 : decode cX13_useTape 7 = .ok (.putfield 382, 3) := by decide +kernel
theorem dX13_useTape_10 : decode cX13_useTape 10 = .ok (.return_, 1) := by decide +kernel
theorem dX13_variable_0 : decode cX13_variable 0 = .ok (.iload_n 1, 1) := by decide +kernel
theorem dX13_variable_1 : decode cX13_variable 1 = .ok (.i2l, 1) := by decide +kernel
theorem dX13_variable_2 : decode cX13_variable 2 = .ok (.lconst 0, 1) := by decide +kernel
theorem dX13_variable_3 : decode cX13_variable 3 = .ok (.aload_n 0, 1) := by decide +kernel
theorem dX13_variable_4 : decode cX13_variable 4 = .ok (.getfield 471, 3) := by decide +kernel
theorem dX13_variable_7 : decode cX13_variable 7 = .ok (.iconst 1, 1) := by decide +kernel
theorem dX13_variable_8 : decode cX13_variable 8 = .ok (.isub, 1) := by decide +kernel
theorem dX13_variable_9 : decode cX13_variable 9 = .ok (.i2l, 1) := by decide +kernel
theorem dX13_variable_10 : decode cX13_variable 10 = .ok (.invokestatic 388, 3) := by decide +kernel
theorem dX13_variable_13 : decode cX13_variable 13 = .ok (.ifCond .ne 7, 3) := by decide +kernel
theorem dX13_variable_16 : decode cX13_variable 16 = .ok (.iconst (-1), 1) := by decide +kernel
theorem dX13_variable_17 : decode cX13_variable 17 = .ok (.goto 17, 3) := by decide +kernel
theorem dX13_variable_34 : decode cX13_variable 34 = .ok (.ireturn, 1) := by decide +kernel
theorem dX1_init_0 : decode cX1_init 0 = .ok (.aload_n 0, 1) := by decide +kernel
theorem dX1_init_1 : decode cX1_init 1 = .ok (.invokespecial 3, 3) := by decide +kernel
theorem dX1_init_4 : decode cX1_init 4 = .ok (.aload_n 0, 1) := by decide +kernel
theorem dX1_init_5 : decode cX1_init 5 = .ok (.bipush 60, 2) := by decide +kernel
theorem dX1_init_7 : decode cX1_init 7 = .ok (.newarray .int, 2) := by decide +kernel
theorem dX1_init_9 : decode cX1_init 9 = .ok (.putfield 9, 3) := by decide +kernel
theorem dX1_init_12 : decode cX1_init 12 = .ok (.aload_n 0, 1) := by decide +kernel
theorem dX1_init_13 : decode cX1_init 13 = .ok (.bipush 60, 2) := by decide +kernel
theorem dX1_init_15 : decode cX1_init 15 = .ok (.newarray .int, 2) := by decide +kernel
theorem dX1_init_17 : decode cX1_init 17 = .ok (.putfield 15, 3) := by decide +kernel
theorem dX1_init_20 : decode cX1_init 20 = .ok (.aload_n 0, 1) := by decide +kernel
theorem dX1_init_21 : decode cX1_init 21 = .ok (.sipush 1000, 3) := by decide +kernel
theorem dX1_init_24 : decode cX1_init 24 = .ok (.newarray .long, 2) := by decide +kernel
theorem dX1_init_26 : decode cX1_init 26 = .ok (.putfield 18, 3) := by decide +kernel
theorem dX1_init_29 : decode cX1_init 29 = .ok (.aload_n 0, 1) := by decide +kernel
theorem dX1_init_30 : decode cX1_init 30 = .ok (.sipush 6000, 3) := by decide +kernel
theorem dX1_init_33 : decode cX1_init 33 = .ok (.newarray .long, 2) := by decide +kernel
theorem dX1_init_35 : decode cX1_init 35 = .ok (.putfield 22, 3) := by decide +kernel
theorem dX1_init_38 : decode cX1_init 38 = .ok (.aload_n 0, 1) := by decide +kernel
theorem dX1_init_39 : decode cX1_init 39 = .ok (.sipush 6000, 3) := by decide +kernel
theorem dX1_init_42 : decode cX1_init 42 = .ok (.newarray .long, 2) := by decide +kernel
theorem dX1_init_44 : decode cX1_init 44 = .ok (.putfield 25, 3) := by decide +kernel
theorem dX1_init_47 : decode cX1_init 47 = .ok (.aload_n 0, 1) := by decide +kernel
theorem dX1_init_48 : decode cX1_init 48 = .ok (.ldc 28, 2) := by decide +kernel
theorem dX1_init_50 : decode cX1_init 50 = .ok (.newarray .int, 2) := by decide +kernel
theorem dX1_init_52 : decode cX1_init 52 = .ok (.putfield 29, 3) := by decide +kernel
theorem dX1_init_55 : decode cX1_init 55 = .ok (.aload_n 0, 1) := by decide +kernel
theorem dX1_init_56 : decode cX1_init 56 = .ok (.bipush 61, 2) := by decide +kernel
theorem dX1_init_58 : decode cX1_init 58 = .ok (.newarray .int, 2) := by decide +kernel
theorem dX1_init_60 : decode cX1_init 60 = .ok (.putfield 32, 3) := by decide +kernel
theorem dX1_init_63 : decode cX1_init 63 = .ok (.aload_n 0, 1) := by decide +kernel
theorem dX1_init_64 : decode cX1_init 64 = .ok (.bipush 61, 2) := by decide +kernel
theorem dX1_init_66 : decode cX1_init 66 = .ok (.newarray .long, 2) := by decide +kernel
theorem dX1_init_68 : decode cX1_init 68 = .ok (.putfield 35, 3) := by decide +kernel
theorem dX1_init_71 : decode cX1_init 71 = .ok (.aload_n 0, 1) := by decide +kernel
theorem dX1_init_72 : decode cX1_init 72 = .ok (.bipush 61, 2) := by decide +kernel
theorem dX1_init_74 : decode cX1_init 74 = .ok (.newarray .long, 2) := by decide +kernel
theorem dX1_init_76 : decode cX1_init 76 = .ok (.putfield 38, 3) := by decide +kernel
theorem dX1_init_79 : decode cX1_init 79 = .ok (.aload_n 0, 1) := by decide +kernel
theorem dX1_init_80 : decode cX1_init 80 = .ok (.bipush 100, 2) := by decide +kernel
theorem dX1_init_82 : decode cX1_init 82 = .ok (.newarray .int, 2) := by decide +kernel
theorem dX1_init_84 : decode cX1_init 84 = .ok (.putfield 41, 3) := by decide +kernel
theorem dX1_init_87 : decode cX1_init 87 = .ok (.aload_n 0, 1) := by decide +kernel
theorem dX1_init_88 : decode cX1_init 88 = .ok (.bipush 100, 2) := by decide +kernel
theorem dX1_init_90 : decode cX1_init 90 = .ok (.newarray .int, 2) := by decide +kernel
theorem dX1_init_92 : decode cX1_init 92 = .ok (.putfield 44, 3) := by decide +kernel
theorem dX1_init_95 : decode cX1_init 95 = .ok (.aload_n 0, 1) := by decide +kernel
theorem dX1_init_96 : decode cX1_init 96 = .ok (.bipush 100, 2) := by decide +kernel
theorem dX1_init_98 : decode cX1_init 98 = .ok (.newarray .int, 2) := by decide +kernel
theorem dX1_init_100 : decode cX1_init 100 = .ok (.putfield 47, 3) := by decide +kernel
theorem dX1_init_103 : decode cX1_init 103 = .ok (.aload_n 0, 1) := by decide +kernel
theorem dX1_init_104 : decode cX1_init 104 = .ok (.aload_n 1, 1) := by decide +kernel
theorem dX1_init_105 : decode cX1_init 105 = .ok (.putfield 50, 3) := by decide +kernel
theorem dX1_init_108 : decode cX1_init 108 = .ok (.aload_n 0, 1) := by decide +kernel
theorem dX1_init_109 : decode cX1_init 109 = .ok (.aload_n 2, 1) := by decide +kernel
theorem dX1_init_110 : decode cX1_init 110 = .ok (.putfield 54, 3) := by decide +kernel
theorem dX1_init_113 : decode cX1_init 113 = .ok (.return_, 1) := by decide +kernel
theorem dX2_init_0 : decode cX2_init 0 = .ok (.aload_n 0, 1) := by decide +kernel
theorem dX2_init_1 : decode cX2_init 1 = .ok (.invokespecial 3, 3) := by decide +kernel
theorem dX2_init_4 : decode cX2_init 4 = .ok (.aload_n 0, 1) := by decide +kernel
theorem dX2_init_5 : decode cX2_init 5 = .ok (.sipush 1500, 3) := by decide +kernel
theorem dX2_init_8 : decode cX2_init 8 = .ok (.newarray .int, 2) := by decide +kernel
theorem dX2_init_10 : decode cX2_init 10 = .ok (.putfield 9, 3) := by decide +kernel
theorem dX2_init_13 : decode cX2_init 13 = .ok (.aload_n 0, 1) := by decide +kernel
theorem dX2_init_14 : decode cX2_init 14 = .ok (.sipush 1500, 3) := by decide +kernel
theorem dX2_init_17 : decode cX2_init 17 = .ok (.newarray .int, 2) := by decide +kernel
theorem dX2_init_19 : decode cX2_init 19 = .ok (.putfield 15, 3) := by decide +kernel
theorem dX2_init_22 : decode cX2_init 22 = .ok (.aload_n 0, 1) := by decide +kernel
theorem dX2_init_23 : decode cX2_init 23 = .ok (.sipush 1500, 3) := by decide +kernel
theorem dX2_init_26 : decode cX2_init 26 = .ok (.newarray .int, 2) := by decide +kernel
theorem dX2_init_28 : decode cX2_init 28 = .ok (.putfield 18, 3) := by decide +kernel
theorem dX2_init_31 : decode cX2_init 31 = .ok (.aload_n 0, 1) := by decide +kernel
theorem dX2_init_32 : decode cX2_init 32 = .ok (.sipush 1500, 3) := by decide +kernel
theorem dX2_init_35 : decode cX2_init 35 = .ok (.newarray .int, 2) := by decide +kernel
theorem dX2_init_37 : decode cX2_init 37 = .ok (.putfield 21, 3) := by decide +kernel
theorem dX2_init_40 : decode cX2_init 40 = .ok (.aload_n 0, 1) := by decide +kernel
theorem dX2_init_41 : decode cX2_init 41 = .ok (.sipush 1500, 3) := by decide +kernel
theorem dX2_init_44 : decode cX2_init 44 = .ok (.newarray .boolean, 2) := by decide +kernel
theorem dX2_init_46 : decode cX2_init 46 = .ok (.putfield 24, 3) := by decide +kernel
theorem dX2_init_49 : decode cX2_init 49 = .ok (.aload_n 0, 1) := by decide +kernel
theorem dX2_init_50 : decode cX2_init 50 = .ok (.sipush 16384, 3) := by decide +kernel
theorem dX2_init_53 : decode cX2_init 53 = .ok (.newarray .int, 2) := by decide +kernel
theorem dX2_init_55 : decode cX2_init 55 = .ok (.putfield 28, 3) := by decide +kernel
theorem dX2_init_58 : decode cX2_init 58 = .ok (.aload_n 0, 1) := by decide +kernel
theorem dX2_init_59 : decode cX2_init 59 = .ok (.sipush 1500, 3) := by decide +kernel
theorem dX2_init_62 : decode cX2_init 62 = .ok (.newarray .int, 2) := by decide +kernel
theorem dX2_init_64 : decode cX2_init 64 = .ok (.putfield 31, 3) := by decide +kernel
theorem dX2_init_67 : decode cX2_init 67 = .ok (.aload_n 0, 1) := by decide +kernel
theorem dX2_init_68 : decode cX2_init 68 = .ok (.sipush 1500, 3) := by decide +kernel
theorem dX2_init_71 : decode cX2_init 71 = .ok (.newarray .int, 2) := by decide +kernel
theorem dX2_init_73 : decode cX2_init 73 = .ok (.putfield 34, 3) := by decide +kernel
theorem dX2_init_76 : decode cX2_init 76 = .ok (.aload_n 0, 1) := by decide +kernel
theorem dX2_init_77 : decode cX2_init 77 = .ok (.sipush 1000, 3) := by decide +kernel
theorem dX2_init_80 : decode cX2_init 80 = .ok (.newarray .int, 2) := by decide +kernel
theorem dX2_init_82 : decode cX2_init 82 = .ok (.putfield 37, 3) := by decide +kernel
theorem dX2_init_85 : decode cX2_init 85 = .ok (.aload_n 0, 1) := by decide +kernel
theorem dX2_init_86 : decode cX2_init 86 = .ok (.aload_n 1, 1) := by decide +kernel
theorem dX2_init_87 : decode cX2_init 87 = .ok (.putfield 40, 3) := by decide +kernel
theorem dX2_init_90 : decode cX2_init 90 = .ok (.aload_n 0, 1) := by decide +kernel
theorem dX2_init_91 : decode cX2_init 91 = .ok (.aload_n 2, 1) := by decide +kernel
theorem dX2_init_92 : decode cX2_init 92 = .ok (.putfield 44, 3) := by decide +kernel
theorem dX2_init_95 : decode cX2_init 95 = .ok (.aload_n 0, 1) := by decide +kernel
theorem dX2_init_96 : decode cX2_init 96 = .ok (.aload_n 3, 1) := by decide +kernel
theorem dX2_init_97 : decode cX2_init 97 = .ok (.putfield 48, 3) := by decide +kernel
theorem dX2_init_100 : decode cX2_init 100 = .ok (.aload_n 0, 1) := by decide +kernel
theorem dX2_init_101 : decode cX2_init 101 = .ok (.aload 4, 2) := by decide +kernel
theorem dX2_init_103 : decode cX2_init 103 = .ok (.putfield 52, 3) := by decide +kernel
theorem dX2_init_106 : decode cX2_init 106 = .ok (.aload_n 0, 1) := by decide +kernel
theorem dX2_init_107 : decode cX2_init 107 = .ok (.aload 5, 2) := by decide +kernel
theorem dX2_init_109 : decode cX2_init 109 = .ok (.putfield 56, 3) := by decide +kernel
theorem dX2_init_112 : decode cX2_init 112 = .ok (.aload_n 0, 1) := by decide +kernel
theorem dX2_init_113 : decode cX2_init 113 = .ok (.aload 6, 2) := by decide +kernel
theorem dX2_init_115 : decode cX2_init 115 = .ok (.putfield 60, 3) := by decide +kernel
theorem dX2_init_118 : decode cX2_init 118 = .ok (.return_, 1) := by decide +kernel
theorem dX3_bucket_0 : decode cX3_bucket 0 = .ok (.iconst 0, 1) := by decide +kernel
theorem dX3_bucket_1 : decode cX3_bucket 1 = .ok (.istore_n 3, 1) := by decide +kernel
theorem dX3_bucket_2 : decode cX3_bucket 2 = .ok (.iconst 0, 1) := by decide +kernel
theorem dX3_bucket_3 : decode cX3_bucket 3 = .ok (.istore 4, 2) := by decide +kernel
theorem dX3_bucket_5 : decode cX3_bucket 5 = .ok (.iload 4, 2) := by decide +kernel
theorem dX3_bucket_7 : decode cX3_bucket 7 = .ok (.iload_n 2, 1) := by decide +kernel
theorem dX3_bucket_8 : decode cX3_bucket 8 = .ok (.if_icmp .ge 21, 3) := by decide +kernel
theorem dX3_bucket_11 : decode cX3_bucket 11 = .ok (.iload_n 3, 1) := by decide +kernel
theorem dX3_bucket_12 : decode cX3_bucket 12 = .ok (.bipush 31, 2) := by decide +kernel
theorem dX3_bucket_14 : decode cX3_bucket 14 = .ok (.imul, 1) := by decide +kernel
theorem dX3_bucket_15 : decode cX3_bucket 15 = .ok (.aload_n 0, 1) := by decide +kernel
theorem dX3_bucket_16 : decode cX3_bucket 16 = .ok (.iload_n 1, 1) := by decide +kernel
theorem dX3_bucket_17 : decode cX3_bucket 17 = .ok (.iload 4, 2) := by decide +kernel
theorem dX3_bucket_19 : decode cX3_bucket 19 = .ok (.iadd, 1) := by decide +kernel
theorem dX3_bucket_20 : decode cX3_bucket 20 = .ok (.caload, 1) := by decide +kernel
theorem dX3_bucket_21 : decode cX3_bucket 21 = .ok (.iadd, 1) := by decide +kernel
theorem dX3_bucket_22 : decode cX3_bucket 22 = .ok (.istore_n 3, 1) := by decide +kernel
theorem dX3_bucket_23 : decode cX3_bucket 23 = .ok (.iinc 4 1, 3) := by decide +kernel
theorem dX3_bucket_26 : decode cX3_bucket 26 = .ok (.goto (-21), 3) := by decide +kernel
theorem dX3_bucket_29 : decode cX3_bucket 29 = .ok (.iload_n 3, 1) := by decide +kernel
theorem dX3_bucket_30 : decode cX3_bucket 30 = .ok (.iload_n 3, 1) := by decide +kernel
theorem dX3_bucket_31 : decode cX3_bucket 31 = .ok (.bipush 12, 2) := by decide +kernel
theorem dX3_bucket_33 : decode cX3_bucket 33 = .ok (.iushr, 1) := by decide +kernel
theorem dX3_bucket_34 : decode cX3_bucket 34 = .ok (.ixor, 1) := by decide +kernel
theorem dX3_bucket_35 : decode cX3_bucket 35 = .ok (.sipush 4095, 3) := by decide +kernel
theorem dX3_bucket_38 : decode cX3_bucket 38 = .ok (.iand, 1) := by decide +kernel
theorem dX3_bucket_39 : decode cX3_bucket 39 = .ok (.ireturn, 1) := by decide +kernel
theorem dX3_constants_0 : decode cX3_constants 0 = .ok (.iconst 0, 1) := by decide +kernel
theorem dX3_constants_1 : decode cX3_constants 1 = .ok (.istore_n 1, 1) := by decide +kernel
theorem dX3_constants_2 : decode cX3_constants 2 = .ok (.iconst 0, 1) := by decide +kernel
theorem dX3_constants_3 : decode cX3_constants 3 = .ok (.istore_n 2, 1) := by decide +kernel
theorem dX3_constants_4 : decode cX3_constants 4 = .ok (.iload_n 2, 1) := by decide +kernel
theorem dX3_constants_5 : decode cX3_constants 5 = .ok (.aload_n 0, 1) := by decide +kernel
theorem dX3_constants_6 : decode cX3_constants 6 = .ok (.getfield 90, 3) := by decide +kernel
theorem dX3_constants_9 : decode cX3_constants 9 = .ok (.if_icmp .ge 26, 3) := by decide +kernel
theorem dX3_constants_35 : decode cX3_constants 35 = .ok (.iload_n 1, 1) := by decide +kernel
theorem dX3_constants_36 : decode cX3_constants 36 = .ok (.ireturn, 1) := by decide +kernel
theorem dX3_init_0 : decode cX3_init 0 = .ok (.aload_n 0, 1) := by decide +kernel
theorem dX3_init_1 : decode cX3_init 1 = .ok (.invokespecial 3, 3) := by decide +kernel
theorem dX3_init_4 : decode cX3_init 4 = .ok (.aload_n 0, 1) := by decide +kernel
theorem dX3_init_5 : decode cX3_init 5 = .ok (.sipush 30000, 3) := by decide +kernel
theorem dX3_init_8 : decode cX3_init 8 = .ok (.newarray .char, 2) := by decide +kernel
theorem dX3_init_10 : decode cX3_init 10 = .ok (.putfield 9, 3) := by decide +kernel
theorem dX3_init_13 : decode cX3_init 13 = .ok (.aload_n 0, 1) := by decide +kernel
theorem dX3_init_14 : decode cX3_init 14 = .ok (.sipush 2501, 3) := by decide +kernel
theorem dX3_init_17 : decode cX3_init 17 = .ok (.newarray .int, 2) := by decide +kernel
theorem dX3_init_19 : decode cX3_init 19 = .ok (.putfield 15, 3) := by decide +kernel
theorem dX3_init_22 : decode cX3_init 22 = .ok (.aload_n 0, 1) := by decide +kernel
theorem dX3_init_23 : decode cX3_init 23 = .ok (.sipush 2500, 3) := by decide +kernel
theorem dX3_init_26 : decode cX3_init 26 = .ok (.newarray .int, 2) := by decide +kernel
theorem dX3_init_28 : decode cX3_init 28 = .ok (.putfield 19, 3) := by decide +kernel
theorem dX3_init_31 : decode cX3_init 31 = .ok (.aload_n 0, 1) := by decide +kernel
theorem dX3_init_32 : decode cX3_init 32 = .ok (.sipush 2500, 3) := by decide +kernel
theorem dX3_init_35 : decode cX3_init 35 = .ok (.newarray .int, 2) := by decide +kernel
theorem dX3_init_37 : decode cX3_init 37 = .ok (.putfield 22, 3) := by decide +kernel
theorem dX3_init_40 : decode cX3_init 40 = .ok (.aload_n 0, 1) := by decide +kernel
theorem dX3_init_41 : decode cX3_init 41 = .ok (.sipush 4096, 3) := by decide +kernel
theorem dX3_init_44 : decode cX3_init 44 = .ok (.newarray .int, 2) := by decide +kernel
theorem dX3_init_46 : decode cX3_init 46 = .ok (.putfield 25, 3) := by decide +kernel
theorem dX3_init_49 : decode cX3_init 49 = .ok (.aload_n 0, 1) := by decide +kernel
theorem dX3_init_50 : decode cX3_init 50 = .ok (.sipush 1000, 3) := by decide +kernel
theorem dX3_init_53 : decode cX3_init 53 = .ok (.newarray .int, 2) := by decide +kernel
theorem dX3_init_55 : decode cX3_init 55 = .ok (.putfield 28, 3) := by decide +kernel
theorem dX3_init_58 : decode cX3_init 58 = .ok (.aload_n 0, 1) := by decide +kernel
theorem dX3_init_59 : decode cX3_init 59 = .ok (.sipush 1000, 3) := by decide +kernel
theorem dX3_init_62 : decode cX3_init 62 = .ok (.newarray .boolean, 2) := by decide +kernel
theorem dX3_init_64 : decode cX3_init 64 = .ok (.putfield 31, 3) := by decide +kernel
theorem dX3_init_67 : decode cX3_init 67 = .ok (.aload_n 0, 1) := by decide +kernel
theorem dX3_init_68 : decode cX3_init 68 = .ok (.sipush 1000, 3) := by decide +kernel
theorem dX3_init_71 : decode cX3_init 71 = .ok (.newarray .int, 2) := by decide +kernel
theorem dX3_init_73 : decode cX3_init 73 = .ok (.putfield 35, 3) := by decide +kernel
theorem dX3_init_76 : decode cX3_init 76 = .ok (.aload_n 0, 1) := by decide +kernel
theorem dX3_init_77 : decode cX3_init 77 = .ok (.sipush 1000, 3) := by decide +kernel
theorem dX3_init_80 : decode cX3_init 80 = .ok (.newarray .int, 2) := by decide +kernel
theorem dX3_init_82 : decode cX3_init 82 = .ok (.putfield 38, 3) := by decide +kernel
theorem dX3_init_85 : decode cX3_init 85 = .ok (.aload_n 0, 1) := by decide +kernel
theorem dX3_init_86 : decode cX3_init 86 = .ok (.bipush 100, 2) := by decide +kernel
theorem dX3_init_88 : decode cX3_init 88 = .ok (.newarray .int, 2) := by decide +kernel
theorem dX3_init_90 : decode cX3_init 90 = .ok (.putfield 41, 3) := by decide +kernel
theorem dX3_init_93 : decode cX3_init 93 = .ok (.aload_n 0, 1) := by decide +kernel
theorem dX3_init_94 : decode cX3_init 94 = .ok (.sipush 1500, 3) := by decide +kernel
theorem dX3_init_97 : decode cX3_init 97 = .ok (.newarray .int, 2) := by decide +kernel
theorem dX3_init_99 : decode cX3_init 99 = .ok (.putfield 44, 3) := by decide +kernel
theorem dX3_init_102 : decode cX3_init 102 = .ok (.aload_n 0, 1) := by decide +kernel
theorem dX3_init_103 : decode cX3_init 103 = .ok (.sipush 1500, 3) := by decide +kernel
theorem dX3_init_106 : decode cX3_init 106 = .ok (.newarray .int, 2) := by decide +kernel
theorem dX3_init_108 : decode cX3_init 108 = .ok (.putfield 47, 3) := by decide +kernel
theorem dX3_init_111 : decode cX3_init 111 = .ok (.aload_n 0, 1) := by decide +kernel
theorem dX3_init_112 : decode cX3_init 112 = .ok (.sipush 1501, 3) := by decide +kernel
theorem dX3_init_115 : decode cX3_init 115 = .ok (.newarray .int, 2) := by decide +kernel
theorem dX3_init_117 : decode cX3_init 117 = .ok (.putfield 50, 3) := by decide +kernel
theorem dX3_init_120 : decode cX3_init 120 = .ok (.aload_n 0, 1) := by decide +kernel
theorem dX3_init_121 : decode cX3_init 121 = .ok (.sipush 30000, 3) := by decide +kernel
theorem dX3_init_124 : decode cX3_init 124 = .ok (.newarray .int, 2) := by decide +kernel
theorem dX3_init_126 : decode cX3_init 126 = .ok (.putfield 53, 3) := by decide +kernel
theorem dX3_init_129 : decode cX3_init 129 = .ok (.aload_n 0, 1) := by decide +kernel
theorem dX3_init_130 : decode cX3_init 130 = .ok (.sipush 30000, 3) := by decide +kernel
theorem dX3_init_133 : decode cX3_init 133 = .ok (.newarray .int, 2) := by decide +kernel
theorem dX3_init_135 : decode cX3_init 135 = .ok (.putfield 56, 3) := by decide +kernel
theorem dX3_init_138 : decode cX3_init 138 = .ok (.aload_n 0, 1) := by decide +kernel
theorem dX3_init_139 : decode cX3_init 139 = .ok (.iconst 5, 1) := by decide +kernel
theorem dX3_init_140 : decode cX3_init 140 = .ok (.newarray .int, 2) := by decide +kernel
theorem dX3_init_142 : decode cX3_init 142 = .ok (.putfield 59, 3) := by decide +kernel
theorem dX3_init_145 : decode cX3_init 145 = .ok (.return_, 1) := by decide +kernel
theorem dX3_isAssertion_0 : decode cX3_isAssertion 0 = .ok (.aload_n 0, 1) := by decide +kernel
theorem dX3_isAssertion_1 : decode cX3_isAssertion 1 = .ok (.iload_n 1, 1) := by decide +kernel
theorem dX3_isAssertion_2 : decode cX3_isAssertion 2 = .ok (.invokevirtual 109, 3) := by decide +kernel
theorem dX3_isAssertion_5 : decode cX3_isAssertion 5 = .ok (.ifCond .eq 17, 3) := by decide +kernel
theorem dX3_isAssertion_22 : decode cX3_isAssertion 22 = .ok (.iconst 0, 1) := by decide +kernel
theorem dX3_isAssertion_23 : decode cX3_isAssertion 23 = .ok (.ireturn, 1) := by decide +kernel
theorem dX3_isProved_0 : decode cX3_isProved 0 = .ok (.aload_n 0, 1) := by decide +kernel
theorem dX3_isProved_1 : decode cX3_isProved 1 = .ok (.iload_n 1, 1) := by decide +kernel
theorem dX3_isProved_2 : decode cX3_isProved 2 = .ok (.invokevirtual 109, 3) := by decide +kernel
theorem dX3_isProved_5 : decode cX3_isProved 5 = .ok (.ifCond .eq 17, 3) := by decide +kernel
theorem dX3_isProved_22 : decode cX3_isProved 22 = .ok (.iconst 0, 1) := by decide +kernel
theorem dX3_isProved_23 : decode cX3_isProved 23 = .ok (.ireturn, 1) := by decide +kernel
theorem dX3_isStatement_0 : decode cX3_isStatement 0 = .ok (.iload_n 1, 1) := by decide +kernel
theorem dX3_isStatement_1 : decode cX3_isStatement 1 = .ok (.ifCond .lt 15, 3) := by decide +kernel
theorem dX3_isStatement_4 : decode cX3_isStatement 4 = .ok (.iload_n 1, 1) := by decide +kernel
theorem dX3_isStatement_5 : decode cX3_isStatement 5 = .ok (.aload_n 0, 1) := by decide +kernel
theorem dX3_isStatement_6 : decode cX3_isStatement 6 = .ok (.getfield 97, 3) := by decide +kernel
theorem dX3_isStatement_9 : decode cX3_isStatement 9 = .ok (.if_icmp .ge 7, 3) := by decide +kernel
theorem dX3_isStatement_16 : decode cX3_isStatement 16 = .ok (.iconst 0, 1) := by decide +kernel
theorem dX3_isStatement_17 : decode cX3_isStatement 17 = .ok (.ireturn, 1) := by decide +kernel
theorem dX3_isSymbol_0 : decode cX3_isSymbol 0 = .ok (.iload_n 1, 1) := by decide +kernel
theorem dX3_isSymbol_1 : decode cX3_isSymbol 1 = .ok (.ifCond .lt 15, 3) := by decide +kernel
theorem dX3_isSymbol_4 : decode cX3_isSymbol 4 = .ok (.iload_n 1, 1) := by decide +kernel
theorem dX3_isSymbol_5 : decode cX3_isSymbol 5 = .ok (.aload_n 0, 1) := by decide +kernel
theorem dX3_isSymbol_6 : decode cX3_isSymbol 6 = .ok (.getfield 90, 3) := by decide +kernel
theorem dX3_isSymbol_9 : decode cX3_isSymbol 9 = .ok (.if_icmp .ge 7, 3) := by decide +kernel
theorem dX3_isSymbol_16 : decode cX3_isSymbol 16 = .ok (.iconst 0, 1) := by decide +kernel
theorem dX3_isSymbol_17 : decode cX3_isSymbol 17 = .ok (.ireturn, 1) := by decide +kernel
theorem dX3_keep_0 : decode cX3_keep 0 = .ok (.aload_n 0, 1) := by decide +kernel
theorem dX3_keep_1 : decode cX3_keep 1 = .ok (.getfield 59, 3) := by decide +kernel
theorem dX3_keep_4 : decode cX3_keep 4 = .ok (.iconst 0, 1) := by decide +kernel
theorem dX3_keep_5 : decode cX3_keep 5 = .ok (.aload_n 0, 1) := by decide +kernel
theorem dX3_keep_6 : decode cX3_keep 6 = .ok (.getfield 97, 3) := by decide +kernel
theorem dX3_keep_9 : decode cX3_keep 9 = .ok (.iastore, 1) := by decide +kernel
theorem dX3_keep_10 : decode cX3_keep 10 = .ok (.aload_n 0, 1) := by decide +kernel
theorem dX3_keep_11 : decode cX3_keep 11 = .ok (.getfield 59, 3) := by decide +kernel
theorem dX3_keep_14 : decode cX3_keep 14 = .ok (.iconst 1, 1) := by decide +kernel
theorem dX3_keep_15 : decode cX3_keep 15 = .ok (.aload_n 0, 1) := by decide +kernel
theorem dX3_keep_16 : decode cX3_keep 16 = .ok (.getfield 90, 3) := by decide +kernel
theorem dX3_keep_19 : decode cX3_keep 19 = .ok (.iastore, 1) := by decide +kernel
theorem dX3_keep_20 : decode cX3_keep 20 = .ok (.aload_n 0, 1) := by decide +kernel
theorem dX3_keep_21 : decode cX3_keep 21 = .ok (.getfield 59, 3) := by decide +kernel
theorem dX3_keep_24 : decode cX3_keep 24 = .ok (.iconst 2, 1) := by decide +kernel
theorem dX3_keep_25 : decode cX3_keep 25 = .ok (.aload_n 0, 1) := by decide +kernel
theorem dX3_keep_26 : decode cX3_keep 26 = .ok (.getfield 86, 3) := by decide +kernel
theorem dX3_keep_29 : decode cX3_keep 29 = .ok (.iastore, 1) := by decide +kernel
theorem dX3_keep_30 : decode cX3_keep 30 = .ok (.aload_n 0, 1) := by decide +kernel
theorem dX3_keep_31 : decode cX3_keep 31 = .ok (.getfield 59, 3) := by decide +kernel
theorem dX3_keep_34 : decode cX3_keep 34 = .ok (.iconst 3, 1) := by decide +kernel
theorem dX3_keep_35 : decode cX3_keep 35 = .ok (.aload_n 0, 1) := by decide +kernel
theorem dX3_keep_36 : decode cX3_keep 36 = .ok (.getfield 103, 3) := by decide +kernel
theorem dX3_keep_39 : decode cX3_keep 39 = .ok (.iastore, 1) := by decide +kernel
theorem dX3_keep_40 : decode cX3_keep 40 = .ok (.aload_n 0, 1) := by decide +kernel
theorem dX3_keep_41 : decode cX3_keep 41 = .ok (.getfield 59, 3) := by decide +kernel
theorem dX3_keep_44 : decode cX3_keep 44 = .ok (.iconst 4, 1) := by decide +kernel
theorem dX3_keep_45 : decode cX3_keep 45 = .ok (.aload_n 0, 1) := by decide +kernel
theorem dX3_keep_46 : decode cX3_keep 46 = .ok (.getfield 100, 3) := by decide +kernel
theorem dX3_keep_49 : decode cX3_keep 49 = .ok (.iastore, 1) := by decide +kernel
theorem dX3_keep_50 : decode cX3_keep 50 = .ok (.return_, 1) := by decide +kernel
theorem dX3_nameOf_0 : decode cX3_nameOf 0 = .ok (.aload_n 0, 1) := by decide +kernel
theorem dX3_nameOf_1 : decode cX3_nameOf 1 = .ok (.getfield 25, 3) := by decide +kernel
theorem dX3_nameOf_4 : decode cX3_nameOf 4 = .ok (.aload_n 1, 1) := by decide +kernel
theorem dX3_nameOf_5 : decode cX3_nameOf 5 = .ok (.iload_n 2, 1) := by decide +kernel
theorem dX3_nameOf_6 : decode cX3_nameOf 6 = .ok (.iload_n 3, 1) := by decide +kernel
theorem dX3_nameOf_7 : decode cX3_nameOf 7 = .ok (.invokestatic 62, 3) := by decide +kernel
theorem dX3_nameOf_10 : decode cX3_nameOf 10 = .ok (.iaload, 1) := by decide +kernel
theorem dX3_nameOf_11 : decode cX3_nameOf 11 = .ok (.istore 4, 2) := by decide +kernel
theorem dX3_nameOf_13 : decode cX3_nameOf 13 = .ok (.iconst 0, 1) := by decide +kernel
theorem dX3_nameOf_14 : decode cX3_nameOf 14 = .ok (.istore 5, 2) := by decide +kernel
theorem dX3_nameOf_16 : decode cX3_nameOf 16 = .ok (.iload 5, 2) := by decide +kernel
theorem dX3_nameOf_18 : decode cX3_nameOf 18 = .ok (.sipush 2500, 3) := by decide +kernel
theorem dX3_nameOf_21 : decode cX3_nameOf 21 = .ok (.if_icmp .ge 44, 3) := by decide +kernel
theorem dX3_nameOf_24 : decode cX3_nameOf 24 = .ok (.iload 4, 2) := by decide +kernel
theorem dX3_nameOf_26 : decode cX3_nameOf 26 = .ok (.ifCond .le 39, 3) := by decide +kernel
theorem dX3_nameOf_65 : decode cX3_nameOf 65 = .ok (.iconst (-1), 1) := by decide +kernel
theorem dX3_nameOf_66 : decode cX3_nameOf 66 = .ok (.ireturn, 1) := by decide +kernel
theorem dX3_ofKind_0 : decode cX3_ofKind 0 = .ok (.iconst 0, 1) := by decide +kernel
theorem dX3_ofKind_1 : decode cX3_ofKind 1 = .ok (.istore_n 2, 1) := by decide +kernel
theorem dX3_ofKind_2 : decode cX3_ofKind 2 = .ok (.iconst 0, 1) := by decide +kernel
theorem dX3_ofKind_3 : decode cX3_ofKind 3 = .ok (.istore_n 3, 1) := by decide +kernel
theorem dX3_ofKind_4 : decode cX3_ofKind 4 = .ok (.iload_n 3, 1) := by decide +kernel
theorem dX3_ofKind_5 : decode cX3_ofKind 5 = .ok (.aload_n 0, 1) := by decide +kernel
theorem dX3_ofKind_6 : decode cX3_ofKind 6 = .ok (.getfield 97, 3) := by decide +kernel
theorem dX3_ofKind_9 : decode cX3_ofKind 9 = .ok (.if_icmp .ge 27, 3) := by decide +kernel
theorem dX3_ofKind_36 : decode cX3_ofKind 36 = .ok (.iload_n 2, 1) := by decide +kernel
theorem dX3_ofKind_37 : decode cX3_ofKind 37 = .ok (.ireturn, 1) := by decide +kernel
theorem dX3_symbolNamed_0 : decode cX3_symbolNamed 0 = .ok (.aload_n 0, 1) := by decide +kernel
theorem dX3_symbolNamed_1 : decode cX3_symbolNamed 1 = .ok (.aload_n 0, 1) := by decide +kernel
theorem dX3_symbolNamed_2 : decode cX3_symbolNamed 2 = .ok (.aload_n 1, 1) := by decide +kernel
theorem dX3_symbolNamed_3 : decode cX3_symbolNamed 3 = .ok (.iload_n 2, 1) := by decide +kernel
theorem dX3_symbolNamed_4 : decode cX3_symbolNamed 4 = .ok (.iload_n 3, 1) := by decide +kernel
theorem dX3_symbolNamed_5 : decode cX3_symbolNamed 5 = .ok (.invokevirtual 76, 3) := by decide +kernel
theorem dX3_symbolNamed_8 : decode cX3_symbolNamed 8 = .ok (.invokevirtual 83, 3) := by decide +kernel
theorem dX3_symbolNamed_11 : decode cX3_symbolNamed 11 = .ok (.ireturn, 1) := by decide +kernel
theorem dX3_symbolOf_0 : decode cX3_symbolOf 0 = .ok (.iload_n 1, 1) := by decide +kernel
theorem dX3_symbolOf_1 : decode cX3_symbolOf 1 = .ok (.iconst (-1), 1) := by decide +kernel
theorem dX3_symbolOf_2 : decode cX3_symbolOf 2 = .ok (.if_icmp .ne 7, 3) := by decide +kernel
theorem dX3_symbolOf_5 : decode cX3_symbolOf 5 = .ok (.iconst (-1), 1) := by decide +kernel
theorem dX3_symbolOf_6 : decode cX3_symbolOf 6 = .ok (.goto 15, 3) := by decide +kernel
theorem dX3_symbolOf_21 : decode cX3_symbolOf 21 = .ok (.ireturn, 1) := by decide +kernel
theorem dX4_init_0 : decode cX4_init 0 = .ok (.aload_n 0, 1) := by decide +kernel
theorem dX4_init_1 : decode cX4_init 1 = .ok (.invokespecial 3, 3) := by decide +kernel
theorem dX4_init_4 : decode cX4_init 4 = .ok (.aload_n 0, 1) := by decide +kernel
theorem dX4_init_5 : decode cX4_init 5 = .ok (.sipush 20000, 3) := by decide +kernel
theorem dX4_init_8 : decode cX4_init 8 = .ok (.newarray .int, 2) := by decide +kernel
theorem dX4_init_10 : decode cX4_init 10 = .ok (.putfield 9, 3) := by decide +kernel
theorem dX4_init_13 : decode cX4_init 13 = .ok (.aload_n 0, 1) := by decide +kernel
theorem dX4_init_14 : decode cX4_init 14 = .ok (.ldc 15, 2) := by decide +kernel
theorem dX4_init_16 : decode cX4_init 16 = .ok (.newarray .int, 2) := by decide +kernel
theorem dX4_init_18 : decode cX4_init 18 = .ok (.putfield 16, 3) := by decide +kernel
theorem dX4_init_21 : decode cX4_init 21 = .ok (.aload_n 0, 1) := by decide +kernel
theorem dX4_init_22 : decode cX4_init 22 = .ok (.sipush 20000, 3) := by decide +kernel
theorem dX4_init_25 : decode cX4_init 25 = .ok (.newarray .int, 2) := by decide +kernel
theorem dX4_init_27 : decode cX4_init 27 = .ok (.putfield 19, 3) := by decide +kernel
theorem dX4_init_30 : decode cX4_init 30 = .ok (.aload_n 0, 1) := by decide +kernel
theorem dX4_init_31 : decode cX4_init 31 = .ok (.sipush 20000, 3) := by decide +kernel
theorem dX4_init_34 : decode cX4_init 34 = .ok (.newarray .int, 2) := by decide +kernel
theorem dX4_init_36 : decode cX4_init 36 = .ok (.putfield 22, 3) := by decide +kernel
theorem dX4_init_39 : decode cX4_init 39 = .ok (.aload_n 0, 1) := by decide +kernel
theorem dX4_init_40 : decode cX4_init 40 = .ok (.sipush 20000, 3) := by decide +kernel
theorem dX4_init_43 : decode cX4_init 43 = .ok (.newarray .int, 2) := by decide +kernel
theorem dX4_init_45 : decode cX4_init 45 = .ok (.putfield 25, 3) := by decide +kernel
theorem dX4_init_48 : decode cX4_init 48 = .ok (.aload_n 0, 1) := by decide +kernel
theorem dX4_init_49 : decode cX4_init 49 = .ok (.sipush 1500, 3) := by decide +kernel
theorem dX4_init_52 : decode cX4_init 52 = .ok (.newarray .int, 2) := by decide +kernel
theorem dX4_init_54 : decode cX4_init 54 = .ok (.putfield 28, 3) := by decide +kernel
theorem dX4_init_57 : decode cX4_init 57 = .ok (.aload_n 0, 1) := by decide +kernel
theorem dX4_init_58 : decode cX4_init 58 = .ok (.sipush 1500, 3) := by decide +kernel
theorem dX4_init_61 : decode cX4_init 61 = .ok (.newarray .int, 2) := by decide +kernel
theorem dX4_init_63 : decode cX4_init 63 = .ok (.putfield 31, 3) := by decide +kernel
theorem dX4_init_66 : decode cX4_init 66 = .ok (.aload_n 0, 1) := by decide +kernel
theorem dX4_init_67 : decode cX4_init 67 = .ok (.sipush 20001, 3) := by decide +kernel
theorem dX4_init_70 : decode cX4_init 70 = .ok (.newarray .int, 2) := by decide +kernel
theorem dX4_init_72 : decode cX4_init 72 = .ok (.putfield 34, 3) := by decide +kernel
theorem dX4_init_75 : decode cX4_init 75 = .ok (.aload_n 0, 1) := by decide +kernel
theorem dX4_init_76 : decode cX4_init 76 = .ok (.sipush 20000, 3) := by decide +kernel
theorem dX4_init_79 : decode cX4_init 79 = .ok (.newarray .int, 2) := by decide +kernel
theorem dX4_init_81 : decode cX4_init 81 = .ok (.putfield 37, 3) := by decide +kernel
theorem dX4_init_84 : decode cX4_init 84 = .ok (.aload_n 0, 1) := by decide +kernel
theorem dX4_init_85 : decode cX4_init 85 = .ok (.sipush 20000, 3) := by decide +kernel
theorem dX4_init_88 : decode cX4_init 88 = .ok (.newarray .int, 2) := by decide +kernel
theorem dX4_init_90 : decode cX4_init 90 = .ok (.putfield 40, 3) := by decide +kernel
theorem dX4_init_93 : decode cX4_init 93 = .ok (.aload_n 0, 1) := by decide +kernel
theorem dX4_init_94 : decode cX4_init 94 = .ok (.sipush 4000, 3) := by decide +kernel
theorem dX4_init_97 : decode cX4_init 97 = .ok (.newarray .int, 2) := by decide +kernel
theorem dX4_init_99 : decode cX4_init 99 = .ok (.putfield 43, 3) := by decide +kernel
theorem dX4_init_102 : decode cX4_init 102 = .ok (.aload_n 0, 1) := by decide +kernel
theorem dX4_init_103 : decode cX4_init 103 = .ok (.sipush 20000, 3) := by decide +kernel
theorem dX4_init_106 : decode cX4_init 106 = .ok (.newarray .int, 2) := by decide +kernel
theorem dX4_init_108 : decode cX4_init 108 = .ok (.putfield 46, 3) := by decide +kernel
theorem dX4_init_111 : decode cX4_init 111 = .ok (.aload_n 0, 1) := by decide +kernel
theorem dX4_init_112 : decode cX4_init 112 = .ok (.aload_n 1, 1) := by decide +kernel
theorem dX4_init_113 : decode cX4_init 113 = .ok (.putfield 49, 3) := by decide +kernel
theorem dX4_init_116 : decode cX4_init 116 = .ok (.aload_n 0, 1) := by decide +kernel
theorem dX4_init_117 : decode cX4_init 117 = .ok (.aload_n 2, 1) := by decide +kernel
theorem dX4_init_118 : decode cX4_init 118 = .ok (.putfield 53, 3) := by decide +kernel
theorem dX4_init_121 : decode cX4_init 121 = .ok (.return_, 1) := by decide +kernel
theorem dX5_init_0 : decode cX5_init 0 = .ok (.aload_n 0, 1) := by decide +kernel
theorem dX5_init_1 : decode cX5_init 1 = .ok (.invokespecial 3, 3) := by decide +kernel
theorem dX5_init_4 : decode cX5_init 4 = .ok (.aload_n 0, 1) := by decide +kernel
theorem dX5_init_5 : decode cX5_init 5 = .ok (.sipush 24000, 3) := by decide +kernel
theorem dX5_init_8 : decode cX5_init 8 = .ok (.newarray .char, 2) := by decide +kernel
theorem dX5_init_10 : decode cX5_init 10 = .ok (.putfield 9, 3) := by decide +kernel
theorem dX5_init_13 : decode cX5_init 13 = .ok (.aload_n 0, 1) := by decide +kernel
theorem dX5_init_14 : decode cX5_init 14 = .ok (.sipush 24000, 3) := by decide +kernel
theorem dX5_init_17 : decode cX5_init 17 = .ok (.newarray .char, 2) := by decide +kernel
theorem dX5_init_19 : decode cX5_init 19 = .ok (.putfield 15, 3) := by decide +kernel
theorem dX5_init_22 : decode cX5_init 22 = .ok (.aload_n 0, 1) := by decide +kernel
theorem dX5_init_23 : decode cX5_init 23 = .ok (.aload_n 1, 1) := by decide +kernel
theorem dX5_init_24 : decode cX5_init 24 = .ok (.putfield 18, 3) := by decide +kernel
theorem dX5_init_27 : decode cX5_init 27 = .ok (.return_, 1) := by decide +kernel
theorem dX5_shown_0 : decode cX5_shown 0 = .ok (.iload_n 1, 1) := by decide +kernel
theorem dX5_shown_1 : decode cX5_shown 1 = .ok (.ifCond .lt 20, 3) := by decide +kernel
theorem dX5_shown_4 : decode cX5_shown 4 = .ok (.iload_n 1, 1) := by decide +kernel
theorem dX5_shown_5 : decode cX5_shown 5 = .ok (.aload_n 0, 1) := by decide +kernel
theorem dX5_shown_6 : decode cX5_shown 6 = .ok (.getfield 57, 3) := by decide +kernel
theorem dX5_shown_9 : decode cX5_shown 9 = .ok (.if_icmp .ge 12, 3) := by decide +kernel
theorem dX5_shown_21 : decode cX5_shown 21 = .ok (.iconst (-1), 1) := by decide +kernel
theorem dX5_shown_22 : decode cX5_shown 22 = .ok (.ireturn, 1) := by decide +kernel
theorem dX6_init_0 : decode cX6_init 0 = .ok (.aload_n 0, 1) := by decide +kernel
theorem dX6_init_1 : decode cX6_init 1 = .ok (.invokespecial 3, 3) := by decide +kernel
theorem dX6_init_4 : decode cX6_init 4 = .ok (.aload_n 0, 1) := by decide +kernel
theorem dX6_init_5 : decode cX6_init 5 = .ok (.ldc 11, 2) := by decide +kernel
theorem dX6_init_7 : decode cX6_init 7 = .ok (.newarray .int, 2) := by decide +kernel
theorem dX6_init_9 : decode cX6_init 9 = .ok (.putfield 12, 3) := by decide +kernel
theorem dX6_init_12 : decode cX6_init 12 = .ok (.aload_n 0, 1) := by decide +kernel
theorem dX6_init_13 : decode cX6_init 13 = .ok (.sipush 20000, 3) := by decide +kernel
theorem dX6_init_16 : decode cX6_init 16 = .ok (.newarray .int, 2) := by decide +kernel
theorem dX6_init_18 : decode cX6_init 18 = .ok (.putfield 16, 3) := by decide +kernel
theorem dX6_init_21 : decode cX6_init 21 = .ok (.aload_n 0, 1) := by decide +kernel
theorem dX6_init_22 : decode cX6_init 22 = .ok (.sipush 20000, 3) := by decide +kernel
theorem dX6_init_25 : decode cX6_init 25 = .ok (.newarray .int, 2) := by decide +kernel
theorem dX6_init_27 : decode cX6_init 27 = .ok (.putfield 19, 3) := by decide +kernel
theorem dX6_init_30 : decode cX6_init 30 = .ok (.aload_n 0, 1) := by decide +kernel
theorem dX6_init_31 : decode cX6_init 31 = .ok (.sipush 20000, 3) := by decide +kernel
theorem dX6_init_34 : decode cX6_init 34 = .ok (.newarray .int, 2) := by decide +kernel
theorem dX6_init_36 : decode cX6_init 36 = .ok (.putfield 22, 3) := by decide +kernel
theorem dX6_init_39 : decode cX6_init 39 = .ok (.aload_n 0, 1) := by decide +kernel
theorem dX6_init_40 : decode cX6_init 40 = .ok (.sipush 1000, 3) := by decide +kernel
theorem dX6_init_43 : decode cX6_init 43 = .ok (.newarray .int, 2) := by decide +kernel
theorem dX6_init_45 : decode cX6_init 45 = .ok (.putfield 25, 3) := by decide +kernel
theorem dX6_init_48 : decode cX6_init 48 = .ok (.aload_n 0, 1) := by decide +kernel
theorem dX6_init_49 : decode cX6_init 49 = .ok (.sipush 1000, 3) := by decide +kernel
theorem dX6_init_52 : decode cX6_init 52 = .ok (.newarray .int, 2) := by decide +kernel
theorem dX6_init_54 : decode cX6_init 54 = .ok (.putfield 28, 3) := by decide +kernel
theorem dX6_init_57 : decode cX6_init 57 = .ok (.aload_n 0, 1) := by decide +kernel
theorem dX6_init_58 : decode cX6_init 58 = .ok (.sipush 1000, 3) := by decide +kernel
theorem dX6_init_61 : decode cX6_init 61 = .ok (.newarray .int, 2) := by decide +kernel
theorem dX6_init_63 : decode cX6_init 63 = .ok (.putfield 31, 3) := by decide +kernel
theorem dX6_init_66 : decode cX6_init 66 = .ok (.aload_n 0, 1) := by decide +kernel
theorem dX6_init_67 : decode cX6_init 67 = .ok (.sipush 1000, 3) := by decide +kernel
theorem dX6_init_70 : decode cX6_init 70 = .ok (.newarray .int, 2) := by decide +kernel
theorem dX6_init_72 : decode cX6_init 72 = .ok (.putfield 34, 3) := by decide +kernel
theorem dX6_init_75 : decode cX6_init 75 = .ok (.aload_n 0, 1) := by decide +kernel
theorem dX6_init_76 : decode cX6_init 76 = .ok (.sipush 1000, 3) := by decide +kernel
theorem dX6_init_79 : decode cX6_init 79 = .ok (.newarray .int, 2) := by decide +kernel
theorem dX6_init_81 : decode cX6_init 81 = .ok (.putfield 37, 3) := by decide +kernel
theorem dX6_init_84 : decode cX6_init 84 = .ok (.aload_n 0, 1) := by decide +kernel
theorem dX6_init_85 : decode cX6_init 85 = .ok (.sipush 1000, 3) := by decide +kernel
theorem dX6_init_88 : decode cX6_init 88 = .ok (.newarray .int, 2) := by decide +kernel
theorem dX6_init_90 : decode cX6_init 90 = .ok (.putfield 40, 3) := by decide +kernel
theorem dX6_init_93 : decode cX6_init 93 = .ok (.aload_n 0, 1) := by decide +kernel
theorem dX6_init_94 : decode cX6_init 94 = .ok (.aload_n 1, 1) := by decide +kernel
theorem dX6_init_95 : decode cX6_init 95 = .ok (.putfield 43, 3) := by decide +kernel
theorem dX6_init_98 : decode cX6_init 98 = .ok (.aload_n 0, 1) := by decide +kernel
theorem dX6_init_99 : decode cX6_init 99 = .ok (.aload_n 2, 1) := by decide +kernel
theorem dX6_init_100 : decode cX6_init 100 = .ok (.putfield 47, 3) := by decide +kernel
theorem dX6_init_103 : decode cX6_init 103 = .ok (.aload_n 0, 1) := by decide +kernel
theorem dX6_init_104 : decode cX6_init 104 = .ok (.aload_n 3, 1) := by decide +kernel
theorem dX6_init_105 : decode cX6_init 105 = .ok (.putfield 51, 3) := by decide +kernel
theorem dX6_init_108 : decode cX6_init 108 = .ok (.return_, 1) := by decide +kernel
theorem dX7_begin_0 : decode cX7_begin 0 = .ok (.aload_n 0, 1) := by decide +kernel
theorem dX7_begin_1 : decode cX7_begin 1 = .ok (.aload_n 1, 1) := by decide +kernel
theorem dX7_begin_2 : decode cX7_begin 2 = .ok (.putfield 71, 3) := by decide +kernel
theorem dX7_begin_5 : decode cX7_begin 5 = .ok (.aload_n 0, 1) := by decide +kernel
theorem dX7_begin_6 : decode cX7_begin 6 = .ok (.iconst 0, 1) := by decide +kernel
theorem dX7_begin_7 : decode cX7_begin 7 = .ok (.putfield 75, 3) := by decide +kernel
theorem dX7_begin_10 : decode cX7_begin 10 = .ok (.aload_n 0, 1) := by decide +kernel
theorem dX7_begin_11 : decode cX7_begin 11 = .ok (.iconst 0, 1) := by decide +kernel
theorem dX7_begin_12 : decode cX7_begin 12 = .ok (.putfield 50, 3) := by decide +kernel
theorem dX7_begin_15 : decode cX7_begin 15 = .ok (.aload_n 0, 1) := by decide +kernel
theorem dX7_begin_16 : decode cX7_begin 16 = .ok (.getfield 15, 3) := by decide +kernel
theorem dX7_begin_19 : decode cX7_begin 19 = .ok (.invokevirtual 79, 3) := by decide +kernel
theorem dX7_begin_22 : decode cX7_begin 22 = .ok (.aload_n 0, 1) := by decide +kernel
theorem dX7_begin_23 : decode cX7_begin 23 = .ok (.getfield 19, 3) := by decide +kernel
theorem dX7_begin_26 : decode cX7_begin 26 = .ok (.invokevirtual 82, 3) := by decide +kernel
theorem dX7_begin_29 : decode cX7_begin 29 = .ok (.aload_n 0, 1) := by decide +kernel
theorem dX7_begin_30 : decode cX7_begin 30 = .ok (.getfield 23, 3) := by decide +kernel
theorem dX7_begin_33 : decode cX7_begin 33 = .ok (.invokevirtual 83, 3) := by decide +kernel
theorem dX7_begin_36 : decode cX7_begin 36 = .ok (.return_, 1) := by decide +kernel
theorem dX7_faultAtEnd_0 : decode cX7_faultAtEnd 0 = .ok (.aload_n 0, 1) := by decide +kernel
theorem dX7_faultAtEnd_1 : decode cX7_faultAtEnd 1 = .ok (.getfield 75, 3) := by decide +kernel
theorem dX7_faultAtEnd_4 : decode cX7_faultAtEnd 4 = .ok (.ifCond .eq 5, 3) := by decide +kernel
theorem dX7_faultAtEnd_9 : decode cX7_faultAtEnd 9 = .ok (.aload_n 0, 1) := by decide +kernel
theorem dX7_faultAtEnd_10 : decode cX7_faultAtEnd 10 = .ok (.getfield 50, 3) := by decide +kernel
theorem dX7_faultAtEnd_13 : decode cX7_faultAtEnd 13 = .ok (.ifCond .ne 13, 3) := by decide +kernel
theorem dX7_faultAtEnd_16 : decode cX7_faultAtEnd 16 = .ok (.aload_n 0, 1) := by decide +kernel
theorem dX7_faultAtEnd_17 : decode cX7_faultAtEnd 17 = .ok (.getfield 23, 3) := by decide +kernel
theorem dX7_faultAtEnd_20 : decode cX7_faultAtEnd 20 = .ok (.getfield 84, 3) := by decide +kernel
theorem dX7_faultAtEnd_23 : decode cX7_faultAtEnd 23 = .ok (.ifCond .le 7, 3) := by decide +kernel
theorem dX7_faultAtEnd_30 : decode cX7_faultAtEnd 30 = .ok (.iconst 0, 1) := by decide +kernel
theorem dX7_faultAtEnd_31 : decode cX7_faultAtEnd 31 = .ok (.ireturn, 1) := by decide +kernel
theorem dX7_init_0 : decode cX7_init 0 = .ok (.aload_n 0, 1) := by decide +kernel
theorem dX7_init_1 : decode cX7_init 1 = .ok (.invokespecial 3, 3) := by decide +kernel
theorem dX7_init_4 : decode cX7_init 4 = .ok (.aload_n 0, 1) := by decide +kernel
theorem dX7_init_5 : decode cX7_init 5 = .ok (.sipush 1000, 3) := by decide +kernel
theorem dX7_init_8 : decode cX7_init 8 = .ok (.newarray .int, 2) := by decide +kernel
theorem dX7_init_10 : decode cX7_init 10 = .ok (.putfield 9, 3) := by decide +kernel
theorem dX7_init_13 : decode cX7_init 13 = .ok (.aload_n 0, 1) := by decide +kernel
theorem dX7_init_14 : decode cX7_init 14 = .ok (.aload_n 1, 1) := by decide +kernel
theorem dX7_init_15 : decode cX7_init 15 = .ok (.putfield 15, 3) := by decide +kernel
theorem dX7_init_18 : decode cX7_init 18 = .ok (.aload_n 0, 1) := by decide +kernel
theorem dX7_init_19 : decode cX7_init 19 = .ok (.aload_n 2, 1) := by decide +kernel
theorem dX7_init_20 : decode cX7_init 20 = .ok (.putfield 19, 3) := by decide +kernel
theorem dX7_init_23 : decode cX7_init 23 = .ok (.aload_n 0, 1) := by decide +kernel
theorem dX7_init_24 : decode cX7_init 24 = .ok (.aload_n 3, 1) := by decide +kernel
theorem dX7_init_25 : decode cX7_init 25 = .ok (.putfield 23, 3) := by decide +kernel
theorem dX7_init_28 : decode cX7_init 28 = .ok (.aload_n 0, 1) := by decide +kernel
theorem dX7_init_29 : decode cX7_init 29 = .ok (.aload 4, 2) := by decide +kernel
theorem dX7_init_31 : decode cX7_init 31 = .ok (.putfield 27, 3) := by decide +kernel
theorem dX7_init_34 : decode cX7_init 34 = .ok (.return_, 1) := by decide +kernel
theorem dX7_readText_0 : decode cX7_readText 0 = .ok (.aload_n 0, 1) := by decide +kernel
theorem dX7_readText_1 : decode cX7_readText 1 = .ok (.aload_n 1, 1) := by decide +kernel
theorem dX7_readText_2 : decode cX7_readText 2 = .ok (.invokevirtual 31, 3) := by decide +kernel
theorem dX7_readText_5 : decode cX7_readText 5 = .ok (.iconst 0, 1) := by decide +kernel
theorem dX7_readText_6 : decode cX7_readText 6 = .ok (.istore_n 3, 1) := by decide +kernel
theorem dX7_readText_7 : decode cX7_readText 7 = .ok (.aload_n 1, 1) := by decide +kernel
theorem dX7_readText_8 : decode cX7_readText 8 = .ok (.iconst 0, 1) := by decide +kernel
theorem dX7_readText_9 : decode cX7_readText 9 = .ok (.iload_n 2, 1) := by decide +kernel
theorem dX7_readText_10 : decode cX7_readText 10 = .ok (.invokestatic 35, 3) := by decide +kernel
theorem dX7_readText_13 : decode cX7_readText 13 = .ok (.istore 4, 2) := by decide +kernel
theorem dX7_readText_15 : decode cX7_readText 15 = .ok (.iconst 0, 1) := by decide +kernel
theorem dX7_readText_16 : decode cX7_readText 16 = .ok (.istore 5, 2) := by decide +kernel
theorem dX7_readText_18 : decode cX7_readText 18 = .ok (.iload 5, 2) := by decide +kernel
theorem dX7_readText_20 : decode cX7_readText 20 = .ok (.iload_n 2, 1) := by decide +kernel
theorem dX7_readText_21 : decode cX7_readText 21 = .ok (.if_icmp .ge 84, 3) := by decide +kernel
theorem dX7_readText_105 : decode cX7_readText 105 = .ok (.iload_n 3, 1) := by decide +kernel
theorem dX7_readText_106 : decode cX7_readText 106 = .ok (.ifCond .ne 13, 3) := by decide +kernel
theorem dX7_readText_109 : decode cX7_readText 109 = .ok (.aload_n 0, 1) := by decide +kernel
theorem dX7_readText_110 : decode cX7_readText 110 = .ok (.iload_n 2, 1) := by decide +kernel
theorem dX7_readText_111 : decode cX7_readText 111 = .ok (.putfield 42, 3) := by decide +kernel
theorem dX7_readText_114 : decode cX7_readText 114 = .ok (.aload_n 0, 1) := by decide +kernel
theorem dX7_readText_115 : decode cX7_readText 115 = .ok (.invokevirtual 57, 3) := by decide +kernel
theorem dX7_readText_118 : decode cX7_readText 118 = .ok (.istore_n 3, 1) := by decide +kernel
theorem dX7_readText_119 : decode cX7_readText 119 = .ok (.iload_n 3, 1) := by decide +kernel
theorem dX7_readText_120 : decode cX7_readText 120 = .ok (.ifCond .eq 24, 3) := by decide +kernel
theorem dX7_readText_144 : decode cX7_readText 144 = .ok (.iload_n 3, 1) := by decide +kernel
theorem dX7_readText_145 : decode cX7_readText 145 = .ok (.ireturn, 1) := by decide +kernel
theorem dX8_constantNamed_0 : decode cX8_constantNamed 0 = .ok (.aload_n 0, 1) := by decide +kernel
theorem dX8_constantNamed_1 : decode cX8_constantNamed 1 = .ok (.getfield 52, 3) := by decide +kernel
theorem dX8_constantNamed_4 : decode cX8_constantNamed 4 = .ok (.aload_n 1, 1) := by decide +kernel
theorem dX8_constantNamed_5 : decode cX8_constantNamed 5 = .ok (.iconst 0, 1) := by decide +kernel
theorem dX8_constantNamed_6 : decode cX8_constantNamed 6 = .ok (.aload_n 1, 1) := by decide +kernel
theorem dX8_constantNamed_7 : decode cX8_constantNamed 7 = .ok (.arraylength, 1) := by decide +kernel
theorem dX8_constantNamed_8 : decode cX8_constantNamed 8 = .ok (.invokevirtual 91, 3) := by decide +kernel
theorem dX8_constantNamed_11 : decode cX8_constantNamed 11 = .ok (.istore_n 2, 1) := by decide +kernel
theorem dX8_constantNamed_12 : decode cX8_constantNamed 12 = .ok (.iload_n 2, 1) := by decide +kernel
theorem dX8_constantNamed_13 : decode cX8_constantNamed 13 = .ok (.iconst (-1), 1) := by decide +kernel
theorem dX8_constantNamed_14 : decode cX8_constantNamed 14 = .ok (.if_icmp .eq 15, 3) := by decide +kernel
theorem dX8_constantNamed_29 : decode cX8_constantNamed 29 = .ok (.iconst (-1), 1) := by decide +kernel
theorem dX8_constantNamed_30 : decode cX8_constantNamed 30 = .ok (.goto 4, 3) := by decide +kernel
theorem dX8_constantNamed_34 : decode cX8_constantNamed 34 = .ok (.ireturn, 1) := by decide +kernel
theorem dX8_init_0 : decode cX8_init 0 = .ok (.aload_n 0, 1) := by decide +kernel
theorem dX8_init_1 : decode cX8_init 1 = .ok (.invokespecial 3, 3) := by decide +kernel
theorem dX8_init_4 : decode cX8_init 4 = .ok (.aload_n 0, 1) := by decide +kernel
theorem dX8_init_5 : decode cX8_init 5 = .ok (.sipush 30001, 3) := by decide +kernel
theorem dX8_init_8 : decode cX8_init 8 = .ok (.newarray .int, 2) := by decide +kernel
theorem dX8_init_10 : decode cX8_init 10 = .ok (.putfield 9, 3) := by decide +kernel
theorem dX8_init_13 : decode cX8_init 13 = .ok (.aload_n 0, 1) := by decide +kernel
theorem dX8_init_14 : decode cX8_init 14 = .ok (.sipush 30001, 3) := by decide +kernel
theorem dX8_init_17 : decode cX8_init 17 = .ok (.newarray .int, 2) := by decide +kernel
theorem dX8_init_19 : decode cX8_init 19 = .ok (.putfield 15, 3) := by decide +kernel
theorem dX8_init_22 : decode cX8_init 22 = .ok (.aload_n 0, 1) := by decide +kernel
theorem dX8_init_23 : decode cX8_init 23 = .ok (.sipush 30001, 3) := by decide +kernel
theorem dX8_init_26 : decode cX8_init 26 = .ok (.newarray .int, 2) := by decide +kernel
theorem dX8_init_28 : decode cX8_init 28 = .ok (.putfield 18, 3) := by decide +kernel
theorem dX8_init_31 : decode cX8_init 31 = .ok (.aload_n 0, 1) := by decide +kernel
theorem dX8_init_32 : decode cX8_init 32 = .ok (.sipush 30001, 3) := by decide +kernel
theorem dX8_init_35 : decode cX8_init 35 = .ok (.newarray .int, 2) := by decide +kernel
theorem dX8_init_37 : decode cX8_init 37 = .ok (.putfield 21, 3) := by decide +kernel
theorem dX8_init_40 : decode cX8_init 40 = .ok (.aload_n 0, 1) := by decide +kernel
theorem dX8_init_41 : decode cX8_init 41 = .ok (.sipush 30001, 3) := by decide +kernel
theorem dX8_init_44 : decode cX8_init 44 = .ok (.newarray .int, 2) := by decide +kernel
theorem dX8_init_46 : decode cX8_init 46 = .ok (.putfield 24, 3) := by decide +kernel
theorem dX8_init_49 : decode cX8_init 49 = .ok (.aload_n 0, 1) := by decide +kernel
theorem dX8_init_50 : decode cX8_init 50 = .ok (.sipush 1500, 3) := by decide +kernel
theorem dX8_init_53 : decode cX8_init 53 = .ok (.newarray .int, 2) := by decide +kernel
theorem dX8_init_55 : decode cX8_init 55 = .ok (.putfield 27, 3) := by decide +kernel
theorem dX8_init_58 : decode cX8_init 58 = .ok (.aload_n 0, 1) := by decide +kernel
theorem dX8_init_59 : decode cX8_init 59 = .ok (.iconst 1, 1) := by decide +kernel
theorem dX8_init_60 : decode cX8_init 60 = .ok (.putfield 30, 3) := by decide +kernel
theorem dX8_init_63 : decode cX8_init 63 = .ok (.aload_n 0, 1) := by decide +kernel
theorem dX8_init_64 : decode cX8_init 64 = .ok (.sipush 1000, 3) := by decide +kernel
theorem dX8_init_67 : decode cX8_init 67 = .ok (.newarray .int, 2) := by decide +kernel
theorem dX8_init_69 : decode cX8_init 69 = .ok (.putfield 34, 3) := by decide +kernel
theorem dX8_init_72 : decode cX8_init 72 = .ok (.aload_n 0, 1) := by decide +kernel
theorem dX8_init_73 : decode cX8_init 73 = .ok (.bipush 100, 2) := by decide +kernel
theorem dX8_init_75 : decode cX8_init 75 = .ok (.newarray .int, 2) := by decide +kernel
theorem dX8_init_77 : decode cX8_init 77 = .ok (.putfield 37, 3) := by decide +kernel
theorem dX8_init_80 : decode cX8_init 80 = .ok (.aload_n 0, 1) := by decide +kernel
theorem dX8_init_81 : decode cX8_init 81 = .ok (.sipush 1500, 3) := by decide +kernel
theorem dX8_init_84 : decode cX8_init 84 = .ok (.newarray .int, 2) := by decide +kernel
theorem dX8_init_86 : decode cX8_init 86 = .ok (.putfield 40, 3) := by decide +kernel
theorem dX8_init_89 : decode cX8_init 89 = .ok (.aload_n 0, 1) := by decide +kernel
theorem dX8_init_90 : decode cX8_init 90 = .ok (.sipush 1500, 3) := by decide +kernel
theorem dX8_init_93 : decode cX8_init 93 = .ok (.newarray .int, 2) := by decide +kernel
theorem dX8_init_95 : decode cX8_init 95 = .ok (.putfield 43, 3) := by decide +kernel
theorem dX8_init_98 : decode cX8_init 98 = .ok (.aload_n 0, 1) := by decide +kernel
theorem dX8_init_99 : decode cX8_init 99 = .ok (.iconst (-1), 1) := by decide +kernel
theorem dX8_init_100 : decode cX8_init 100 = .ok (.putfield 46, 3) := by decide +kernel
theorem dX8_init_103 : decode cX8_init 103 = .ok (.aload_n 0, 1) := by decide +kernel
theorem dX8_init_104 : decode cX8_init 104 = .ok (.iconst (-1), 1) := by decide +kernel
theorem dX8_init_105 : decode cX8_init 105 = .ok (.putfield 49, 3) := by decide +kernel
theorem dX8_init_108 : decode cX8_init 108 = .ok (.aload_n 0, 1) := by decide +kernel
theorem dX8_init_109 : decode cX8_init 109 = .ok (.aload_n 1, 1) := by decide +kernel
theorem dX8_init_110 : decode cX8_init 110 = .ok (.putfield 52, 3) := by decide +kernel
theorem dX8_init_113 : decode cX8_init 113 = .ok (.aload_n 0, 1) := by decide +kernel
theorem dX8_init_114 : decode cX8_init 114 = .ok (.aload_n 2, 1) := by decide +kernel
theorem dX8_init_115 : decode cX8_init 115 = .ok (.putfield 56, 3) := by decide +kernel
theorem dX8_init_118 : decode cX8_init 118 = .ok (.return_, 1) := by decide +kernel
theorem dX8_learn_0 : decode cX8_learn 0 = .ok (.aload_n 0, 1) := by decide +kernel
theorem dX8_learn_1 : decode cX8_learn 1 = .ok (.aload_n 0, 1) := by decide +kernel
theorem dX8_learn_2 : decode cX8_learn 2 = .ok (.getstatic 60, 3) := by decide +kernel
theorem dX8_learn_5 : decode cX8_learn 5 = .ok (.invokevirtual 64, 3) := by decide +kernel
theorem dX8_learn_8 : decode cX8_learn 8 = .ok (.putfield 46, 3) := by decide +kernel
theorem dX8_learn_11 : decode cX8_learn 11 = .ok (.aload_n 0, 1) := by decide +kernel
theorem dX8_learn_12 : decode cX8_learn 12 = .ok (.aload_n 0, 1) := by decide +kernel
theorem dX8_learn_13 : decode cX8_learn 13 = .ok (.getstatic 68, 3) := by decide +kernel
theorem dX8_learn_16 : decode cX8_learn 16 = .ok (.invokevirtual 64, 3) := by decide +kernel
theorem dX8_learn_19 : decode cX8_learn 19 = .ok (.putfield 49, 3) := by decide +kernel
theorem dX8_learn_22 : decode cX8_learn 22 = .ok (.aload_n 0, 1) := by decide +kernel
theorem dX8_learn_23 : decode cX8_learn 23 = .ok (.getfield 71, 3) := by decide +kernel
theorem dX8_learn_26 : decode cX8_learn 26 = .ok (.istore_n 1, 1) := by decide +kernel
theorem dX8_learn_27 : decode cX8_learn 27 = .ok (.iload_n 1, 1) := by decide +kernel
theorem dX8_learn_28 : decode cX8_learn 28 = .ok (.aload_n 0, 1) := by decide +kernel
theorem dX8_learn_29 : decode cX8_learn 29 = .ok (.getfield 52, 3) := by decide +kernel
theorem dX8_learn_32 : decode cX8_learn 32 = .ok (.getfield 74, 3) := by decide +kernel
theorem dX8_learn_35 : decode cX8_learn 35 = .ok (.if_icmp .ge 35, 3) := by decide +kernel
theorem dX8_learn_70 : decode cX8_learn 70 = .ok (.aload_n 0, 1) := by decide +kernel
theorem dX8_learn_71 : decode cX8_learn 71 = .ok (.aload_n 0, 1) := by decide +kernel
theorem dX8_learn_72 : decode cX8_learn 72 = .ok (.getfield 52, 3) := by decide +kernel
theorem dX8_learn_75 : decode cX8_learn 75 = .ok (.getfield 74, 3) := by decide +kernel
theorem dX8_learn_78 : decode cX8_learn 78 = .ok (.putfield 71, 3) := by decide +kernel
theorem dX8_learn_81 : decode cX8_learn 81 = .ok (.return_, 1) := by decide +kernel
theorem dX9_init_0 : decode cX9_init 0 = .ok (.aload_n 0, 1) := by decide +kernel
theorem dX9_init_1 : decode cX9_init 1 = .ok (.invokespecial 3, 3) := by decide +kernel
theorem dX9_init_4 : decode cX9_init 4 = .ok (.aload_n 0, 1) := by decide +kernel
theorem dX9_init_5 : decode cX9_init 5 = .ok (.sipush 1000, 3) := by decide +kernel
theorem dX9_init_8 : decode cX9_init 8 = .ok (.newarray .boolean, 2) := by decide +kernel
theorem dX9_init_10 : decode cX9_init 10 = .ok (.putfield 9, 3) := by decide +kernel
theorem dX9_init_13 : decode cX9_init 13 = .ok (.aload_n 0, 1) := by decide +kernel
theorem dX9_init_14 : decode cX9_init 14 = .ok (.sipush 1000, 3) := by decide +kernel
theorem dX9_init_17 : decode cX9_init 17 = .ok (.newarray .int, 2) := by decide +kernel
theorem dX9_init_19 : decode cX9_init 19 = .ok (.putfield 15, 3) := by decide +kernel
theorem dX9_init_22 : decode cX9_init 22 = .ok (.aload_n 0, 1) := by decide +kernel
theorem dX9_init_23 : decode cX9_init 23 = .ok (.sipush 1000, 3) := by decide +kernel
theorem dX9_init_26 : decode cX9_init 26 = .ok (.newarray .int, 2) := by decide +kernel
theorem dX9_init_28 : decode cX9_init 28 = .ok (.putfield 19, 3) := by decide +kernel
theorem dX9_init_31 : decode cX9_init 31 = .ok (.aload_n 0, 1) := by decide +kernel
theorem dX9_init_32 : decode cX9_init 32 = .ok (.sipush 1500, 3) := by decide +kernel
theorem dX9_init_35 : decode cX9_init 35 = .ok (.newarray .boolean, 2) := by decide +kernel
theorem dX9_init_37 : decode cX9_init 37 = .ok (.putfield 22, 3) := by decide +kernel
theorem dX9_init_40 : decode cX9_init 40 = .ok (.aload_n 0, 1) := by decide +kernel
theorem dX9_init_41 : decode cX9_init 41 = .ok (.sipush 1500, 3) := by decide +kernel
theorem dX9_init_44 : decode cX9_init 44 = .ok (.newarray .int, 2) := by decide +kernel
theorem dX9_init_46 : decode cX9_init 46 = .ok (.putfield 25, 3) := by decide +kernel
theorem dX9_init_49 : decode cX9_init 49 = .ok (.aload_n 0, 1) := by decide +kernel
theorem dX9_init_50 : decode cX9_init 50 = .ok (.sipush 1000, 3) := by decide +kernel
theorem dX9_init_53 : decode cX9_init 53 = .ok (.newarray .int, 2) := by decide +kernel
theorem dX9_init_55 : decode cX9_init 55 = .ok (.putfield 28, 3) := by decide +kernel
theorem dX9_init_58 : decode cX9_init 58 = .ok (.aload_n 0, 1) := by decide +kernel
theorem dX9_init_59 : decode cX9_init 59 = .ok (.sipush 1000, 3) := by decide +kernel
theorem dX9_init_62 : decode cX9_init 62 = .ok (.newarray .int, 2) := by decide +kernel
theorem dX9_init_64 : decode cX9_init 64 = .ok (.putfield 31, 3) := by decide +kernel
theorem dX9_init_67 : decode cX9_init 67 = .ok (.aload_n 0, 1) := by decide +kernel
theorem dX9_init_68 : decode cX9_init 68 = .ok (.sipush 16000, 3) := by decide +kernel
theorem dX9_init_71 : decode cX9_init 71 = .ok (.newarray .long, 2) := by decide +kernel
theorem dX9_init_73 : decode cX9_init 73 = .ok (.putfield 34, 3) := by decide +kernel
theorem dX9_init_76 : decode cX9_init 76 = .ok (.aload_n 0, 1) := by decide +kernel
theorem dX9_init_77 : decode cX9_init 77 = .ok (.sipush 153, 3) := by decide +kernel
theorem dX9_init_80 : decode cX9_init 80 = .ok (.newarray .int, 2) := by decide +kernel
theorem dX9_init_82 : decode cX9_init 82 = .ok (.putfield 38, 3) := by decide +kernel
theorem dX9_init_85 : decode cX9_init 85 = .ok (.aload_n 0, 1) := by decide +kernel
theorem dX9_init_86 : decode cX9_init 86 = .ok (.sipush 1000, 3) := by decide +kernel
theorem dX9_init_89 : decode cX9_init 89 = .ok (.newarray .int, 2) := by decide +kernel
theorem dX9_init_91 : decode cX9_init 91 = .ok (.putfield 41, 3) := by decide +kernel
theorem dX9_init_94 : decode cX9_init 94 = .ok (.aload_n 0, 1) := by decide +kernel
theorem dX9_init_95 : decode cX9_init 95 = .ok (.aload_n 1, 1) := by decide +kernel
theorem dX9_init_96 : decode cX9_init 96 = .ok (.putfield 44, 3) := by decide +kernel
theorem dX9_init_99 : decode cX9_init 99 = .ok (.aload_n 0, 1) := by decide +kernel
theorem dX9_init_100 : decode cX9_init 100 = .ok (.getfield 15, 3) := by decide +kernel
theorem dX9_init_103 : decode cX9_init 103 = .ok (.iconst (-1), 1) := by decide +kernel
theorem dX9_init_104 : decode cX9_init 104 = .ok (.invokestatic 48, 3) := by decide +kernel
theorem dX9_init_107 : decode cX9_init 107 = .ok (.return_, 1) := by decide +kernel
theorem dX9_keep_0 : decode cX9_keep 0 = .ok (.aload_n 0, 1) := by decide +kernel
theorem dX9_keep_1 : decode cX9_keep 1 = .ok (.iconst 0, 1) := by decide +kernel
theorem dX9_keep_2 : decode cX9_keep 2 = .ok (.putfield 54, 3) := by decide +kernel
theorem dX9_keep_5 : decode cX9_keep 5 = .ok (.aload_n 0, 1) := by decide +kernel
theorem dX9_keep_6 : decode cX9_keep 6 = .ok (.invokevirtual 58, 3) := by decide +kernel
theorem dX9_keep_9 : decode cX9_keep 9 = .ok (.return_, 1) := by decide +kernel
theorem dX9_mark_0 : decode cX9_mark 0 = .ok (.aload_n 0, 1) := by decide +kernel
theorem dX9_mark_1 : decode cX9_mark 1 = .ok (.getfield 38, 3) := by decide +kernel
theorem dX9_mark_4 : decode cX9_mark 4 = .ok (.iconst 3, 1) := by decide +kernel
theorem dX9_mark_5 : decode cX9_mark 5 = .ok (.aload_n 0, 1) := by decide +kernel
theorem dX9_mark_6 : decode cX9_mark 6 = .ok (.getfield 54, 3) := by decide +kernel
theorem dX9_mark_9 : decode cX9_mark 9 = .ok (.imul, 1) := by decide +kernel
theorem dX9_mark_10 : decode cX9_mark 10 = .ok (.aload_n 0, 1) := by decide +kernel
theorem dX9_mark_11 : decode cX9_mark 11 = .ok (.getfield 64, 3) := by decide +kernel
theorem dX9_mark_14 : decode cX9_mark 14 = .ok (.iastore, 1) := by decide +kernel
theorem dX9_mark_15 : decode cX9_mark 15 = .ok (.aload_n 0, 1) := by decide +kernel
theorem dX9_mark_16 : decode cX9_mark 16 = .ok (.getfield 38, 3) := by decide +kernel
theorem dX9_mark_19 : decode cX9_mark 19 = .ok (.iconst 3, 1) := by decide +kernel
theorem dX9_mark_20 : decode cX9_mark 20 = .ok (.aload_n 0, 1) := by decide +kernel
theorem dX9_mark_21 : decode cX9_mark 21 = .ok (.getfield 54, 3) := by decide +kernel
theorem dX9_mark_24 : decode cX9_mark 24 = .ok (.imul, 1) := by decide +kernel
theorem dX9_mark_25 : decode cX9_mark 25 = .ok (.iconst 1, 1) := by decide +kernel
theorem dX9_mark_26 : decode cX9_mark 26 = .ok (.iadd, 1) := by decide +kernel
theorem dX9_mark_27 : decode cX9_mark 27 = .ok (.aload_n 0, 1) := by decide +kernel
theorem dX9_mark_28 : decode cX9_mark 28 = .ok (.getfield 67, 3) := by decide +kernel
theorem dX9_mark_31 : decode cX9_mark 31 = .ok (.iastore, 1) := by decide +kernel
theorem dX9_mark_32 : decode cX9_mark 32 = .ok (.aload_n 0, 1) := by decide +kernel
theorem dX9_mark_33 : decode cX9_mark 33 = .ok (.getfield 38, 3) := by decide +kernel
theorem dX9_mark_36 : decode cX9_mark 36 = .ok (.iconst 3, 1) := by decide +kernel
theorem dX9_mark_37 : decode cX9_mark 37 = .ok (.aload_n 0, 1) := by decide +kernel
theorem dX9_mark_38 : decode cX9_mark 38 = .ok (.getfield 54, 3) := by decide +kernel
theorem dX9_mark_41 : decode cX9_mark 41 = .ok (.imul, 1) := by decide +kernel
theorem dX9_mark_42 : decode cX9_mark 42 = .ok (.iconst 2, 1) := by decide +kernel
theorem dX9_mark_43 : decode cX9_mark 43 = .ok (.iadd, 1) := by decide +kernel
theorem dX9_mark_44 : decode cX9_mark 44 = .ok (.aload_n 0, 1) := by decide +kernel
theorem dX9_mark_45 : decode cX9_mark 45 = .ok (.getfield 70, 3) := by decide +kernel
theorem dX9_mark_48 : decode cX9_mark 48 = .ok (.iastore, 1) := by decide +kernel
theorem dX9_mark_49 : decode cX9_mark 49 = .ok (.return_, 1) := by decide +kernel
