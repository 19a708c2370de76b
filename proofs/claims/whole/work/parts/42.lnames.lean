theorem dl_0 : decode code 0 = .ok (.new 8, 3) := by decide +kernel
theorem dl_3 : decode code 3 = .ok (.dup, 1) := by decide +kernel
theorem dl_4 : decode code 4 = .ok (.invokespecial 71, 3) := by decide +kernel
theorem dl_7 : decode code 7 = .ok (.astore_n 1, 1) := by decide +kernel
theorem dl_8 : decode code 8 = .ok (.new 72, 3) := by decide +kernel
theorem dl_11 : decode code 11 = .ok (.dup, 1) := by decide +kernel
theorem dl_12 : decode code 12 = .ok (.invokespecial 74, 3) := by decide +kernel
theorem dl_15 : decode code 15 = .ok (.astore_n 2, 1) := by decide +kernel
theorem dl_16 : decode code 16 = .ok (.iconst 1, 1) := by decide +kernel
theorem dl_17 : decode code 17 = .ok (.newarray .long, 2) := by decide +kernel
theorem dl_19 : decode code 19 = .ok (.astore_n 3, 1) := by decide +kernel
theorem dl_20 : decode code 20 = .ok (.iconst 0, 1) := by decide +kernel
theorem dl_21 : decode code 21 = .ok (.istore 4, 2) := by decide +kernel
theorem dl_23 : decode code 23 = .ok (.iload 4, 2) := by decide +kernel
theorem dl_25 : decode code 25 = .ok (.aload_n 0, 1) := by decide +kernel
theorem dl_26 : decode code 26 = .ok (.arraylength, 1) := by decide +kernel
theorem dl_27 : decode code 27 = .ok (.iconst 5, 1) := by decide +kernel
theorem dl_28 : decode code 28 = .ok (.isub, 1) := by decide +kernel
theorem dl_29 : decode code 29 = .ok (.if_icmp .gt 1098, 3) := by decide +kernel
theorem dl_32 : decode code 32 = .ok (.aload_n 0, 1) := by decide +kernel
theorem dl_33 : decode code 33 = .ok (.iload 4, 2) := by decide +kernel
theorem dl_35 : decode code 35 = .ok (.iaload, 1) := by decide +kernel
theorem dl_36 : decode code 36 = .ok (.bipush 31, 2) := by decide +kernel
theorem dl_38 : decode code 38 = .ok (.iand, 1) := by decide +kernel
theorem dl_39 : decode code 39 = .ok (.tableswitch 1082 0 16 #[81, 137, 209, 289, 328, 416, 472, 516, 560, 616, 672, 740, 795, 851, 919, 963, 1026], 81) := by decide +kernel
theorem dl_120 : decode code 120 = .ok (.aload_n 1, 1) := by decide +kernel
theorem dl_121 : decode code 121 = .ok (.aload_n 0, 1) := by decide +kernel
theorem dl_122 : decode code 122 = .ok (.iload 4, 2) := by decide +kernel
theorem dl_124 : decode code 124 = .ok (.iconst 1, 1) := by decide +kernel
theorem dl_125 : decode code 125 = .ok (.iadd, 1) := by decide +kernel
theorem dl_126 : decode code 126 = .ok (.iaload, 1) := by decide +kernel
theorem dl_127 : decode code 127 = .ok (.aload_n 3, 1) := by decide +kernel
theorem dl_128 : decode code 128 = .ok (.invokestatic 75, 3) := by decide +kernel
theorem dl_131 : decode code 131 = .ok (.istore 5, 2) := by decide +kernel
theorem dl_133 : decode code 133 = .ok (.aload_n 2, 1) := by decide +kernel
theorem dl_134 : decode code 134 = .ok (.aload_n 0, 1) := by decide +kernel
theorem dl_135 : decode code 135 = .ok (.iload 4, 2) := by decide +kernel
theorem dl_137 : decode code 137 = .ok (.iconst 1, 1) := by decide +kernel
theorem dl_138 : decode code 138 = .ok (.iadd, 1) := by decide +kernel
theorem dl_139 : decode code 139 = .ok (.iaload, 1) := by decide +kernel
theorem dl_140 : decode code 140 = .ok (.invokevirtual 80, 3) := by decide +kernel
theorem dl_143 : decode code 143 = .ok (.istore 6, 2) := by decide +kernel
theorem dl_145 : decode code 145 = .ok (.aload_n 2, 1) := by decide +kernel
theorem dl_146 : decode code 146 = .ok (.invokevirtual 81, 3) := by decide +kernel
theorem dl_149 : decode code 149 = .ok (.iload 5, 2) := by decide +kernel
theorem dl_151 : decode code 151 = .ok (.if_icmp .eq 5, 3) := by decide +kernel
theorem dl_154 : decode code 154 = .ok (.iconst 0, 1) := by decide +kernel
theorem dl_155 : decode code 155 = .ok (.ireturn, 1) := by decide +kernel
theorem dl_156 : decode code 156 = .ok (.iload 5, 2) := by decide +kernel
theorem dl_158 : decode code 158 = .ok (.ifCond .ne 15, 3) := by decide +kernel
theorem dl_161 : decode code 161 = .ok (.aload_n 3, 1) := by decide +kernel
theorem dl_162 : decode code 162 = .ok (.iconst 0, 1) := by decide +kernel
theorem dl_163 : decode code 163 = .ok (.laload, 1) := by decide +kernel
theorem dl_164 : decode code 164 = .ok (.iload 6, 2) := by decide +kernel
theorem dl_166 : decode code 166 = .ok (.i2l, 1) := by decide +kernel
theorem dl_167 : decode code 167 = .ok (.lcmp, 1) := by decide +kernel
theorem dl_168 : decode code 168 = .ok (.ifCond .eq 5, 3) := by decide +kernel
theorem dl_171 : decode code 171 = .ok (.iconst 0, 1) := by decide +kernel
theorem dl_172 : decode code 172 = .ok (.ireturn, 1) := by decide +kernel
theorem dl_173 : decode code 173 = .ok (.goto 948, 3) := by decide +kernel
theorem dl_176 : decode code 176 = .ok (.aload_n 1, 1) := by decide +kernel
theorem dl_177 : decode code 177 = .ok (.aload_n 0, 1) := by decide +kernel
theorem dl_178 : decode code 178 = .ok (.iload 4, 2) := by decide +kernel
theorem dl_180 : decode code 180 = .ok (.iconst 1, 1) := by decide +kernel
theorem dl_181 : decode code 181 = .ok (.iadd, 1) := by decide +kernel
theorem dl_182 : decode code 182 = .ok (.iaload, 1) := by decide +kernel
theorem dl_183 : decode code 183 = .ok (.aload_n 0, 1) := by decide +kernel
theorem dl_184 : decode code 184 = .ok (.iload 4, 2) := by decide +kernel
theorem dl_186 : decode code 186 = .ok (.iconst 2, 1) := by decide +kernel
theorem dl_187 : decode code 187 = .ok (.iadd, 1) := by decide +kernel
theorem dl_188 : decode code 188 = .ok (.iaload, 1) := by decide +kernel
theorem dl_189 : decode code 189 = .ok (.aload_n 0, 1) := by decide +kernel
theorem dl_190 : decode code 190 = .ok (.iload 4, 2) := by decide +kernel
theorem dl_192 : decode code 192 = .ok (.iconst 3, 1) := by decide +kernel
theorem dl_193 : decode code 193 = .ok (.iadd, 1) := by decide +kernel
theorem dl_194 : decode code 194 = .ok (.iaload, 1) := by decide +kernel
theorem dl_195 : decode code 195 = .ok (.aload_n 0, 1) := by decide +kernel
theorem dl_196 : decode code 196 = .ok (.iload 4, 2) := by decide +kernel
theorem dl_198 : decode code 198 = .ok (.iconst 4, 1) := by decide +kernel
theorem dl_199 : decode code 199 = .ok (.iadd, 1) := by decide +kernel
theorem dl_200 : decode code 200 = .ok (.iaload, 1) := by decide +kernel
theorem dl_201 : decode code 201 = .ok (.invokestatic 84, 3) := by decide +kernel
theorem dl_204 : decode code 204 = .ok (.istore 5, 2) := by decide +kernel
theorem dl_206 : decode code 206 = .ok (.aload_n 2, 1) := by decide +kernel
theorem dl_207 : decode code 207 = .ok (.aload_n 0, 1) := by decide +kernel
theorem dl_208 : decode code 208 = .ok (.iload 4, 2) := by decide +kernel
theorem dl_210 : decode code 210 = .ok (.iconst 1, 1) := by decide +kernel
theorem dl_211 : decode code 211 = .ok (.iadd, 1) := by decide +kernel
theorem dl_212 : decode code 212 = .ok (.iaload, 1) := by decide +kernel
theorem dl_213 : decode code 213 = .ok (.aload_n 0, 1) := by decide +kernel
theorem dl_214 : decode code 214 = .ok (.iload 4, 2) := by decide +kernel
theorem dl_216 : decode code 216 = .ok (.iconst 2, 1) := by decide +kernel
theorem dl_217 : decode code 217 = .ok (.iadd, 1) := by decide +kernel
theorem dl_218 : decode code 218 = .ok (.iaload, 1) := by decide +kernel
theorem dl_219 : decode code 219 = .ok (.aload_n 0, 1) := by decide +kernel
theorem dl_220 : decode code 220 = .ok (.iload 4, 2) := by decide +kernel
theorem dl_222 : decode code 222 = .ok (.iconst 3, 1) := by decide +kernel
theorem dl_223 : decode code 223 = .ok (.iadd, 1) := by decide +kernel
theorem dl_224 : decode code 224 = .ok (.iaload, 1) := by decide +kernel
theorem dl_225 : decode code 225 = .ok (.aload_n 0, 1) := by decide +kernel
theorem dl_226 : decode code 226 = .ok (.iload 4, 2) := by decide +kernel
theorem dl_228 : decode code 228 = .ok (.iconst 4, 1) := by decide +kernel
theorem dl_229 : decode code 229 = .ok (.iadd, 1) := by decide +kernel
theorem dl_230 : decode code 230 = .ok (.iaload, 1) := by decide +kernel
theorem dl_231 : decode code 231 = .ok (.invokevirtual 87, 3) := by decide +kernel
theorem dl_234 : decode code 234 = .ok (.aload_n 2, 1) := by decide +kernel
theorem dl_235 : decode code 235 = .ok (.invokevirtual 81, 3) := by decide +kernel
theorem dl_238 : decode code 238 = .ok (.iload 5, 2) := by decide +kernel
theorem dl_240 : decode code 240 = .ok (.if_icmp .eq 5, 3) := by decide +kernel
theorem dl_243 : decode code 243 = .ok (.iconst 0, 1) := by decide +kernel
theorem dl_244 : decode code 244 = .ok (.ireturn, 1) := by decide +kernel
theorem dl_245 : decode code 245 = .ok (.goto 876, 3) := by decide +kernel
theorem dl_248 : decode code 248 = .ok (.aload_n 1, 1) := by decide +kernel
theorem dl_249 : decode code 249 = .ok (.aload_n 0, 1) := by decide +kernel
theorem dl_250 : decode code 250 = .ok (.iload 4, 2) := by decide +kernel
theorem dl_252 : decode code 252 = .ok (.iconst 1, 1) := by decide +kernel
theorem dl_253 : decode code 253 = .ok (.iadd, 1) := by decide +kernel
theorem dl_254 : decode code 254 = .ok (.iaload, 1) := by decide +kernel
theorem dl_255 : decode code 255 = .ok (.aload_n 0, 1) := by decide +kernel
theorem dl_256 : decode code 256 = .ok (.iload 4, 2) := by decide +kernel
theorem dl_258 : decode code 258 = .ok (.iconst 2, 1) := by decide +kernel
theorem dl_259 : decode code 259 = .ok (.iadd, 1) := by decide +kernel
theorem dl_260 : decode code 260 = .ok (.iaload, 1) := by decide +kernel
theorem dl_261 : decode code 261 = .ok (.aload_n 0, 1) := by decide +kernel
theorem dl_262 : decode code 262 = .ok (.iload 4, 2) := by decide +kernel
theorem dl_264 : decode code 264 = .ok (.iconst 3, 1) := by decide +kernel
theorem dl_265 : decode code 265 = .ok (.iadd, 1) := by decide +kernel
theorem dl_266 : decode code 266 = .ok (.iaload, 1) := by decide +kernel
theorem dl_267 : decode code 267 = .ok (.aload_n 3, 1) := by decide +kernel
theorem dl_268 : decode code 268 = .ok (.invokestatic 88, 3) := by decide +kernel
theorem dl_271 : decode code 271 = .ok (.istore 5, 2) := by decide +kernel
theorem dl_273 : decode code 273 = .ok (.aload_n 2, 1) := by decide +kernel
theorem dl_274 : decode code 274 = .ok (.aload_n 0, 1) := by decide +kernel
theorem dl_275 : decode code 275 = .ok (.iload 4, 2) := by decide +kernel
theorem dl_277 : decode code 277 = .ok (.iconst 1, 1) := by decide +kernel
theorem dl_278 : decode code 278 = .ok (.iadd, 1) := by decide +kernel
theorem dl_279 : decode code 279 = .ok (.iaload, 1) := by decide +kernel
theorem dl_280 : decode code 280 = .ok (.aload_n 0, 1) := by decide +kernel
theorem dl_281 : decode code 281 = .ok (.iload 4, 2) := by decide +kernel
theorem dl_283 : decode code 283 = .ok (.iconst 2, 1) := by decide +kernel
theorem dl_284 : decode code 284 = .ok (.iadd, 1) := by decide +kernel
theorem dl_285 : decode code 285 = .ok (.iaload, 1) := by decide +kernel
theorem dl_286 : decode code 286 = .ok (.aload_n 0, 1) := by decide +kernel
theorem dl_287 : decode code 287 = .ok (.iload 4, 2) := by decide +kernel
theorem dl_289 : decode code 289 = .ok (.iconst 3, 1) := by decide +kernel
theorem dl_290 : decode code 290 = .ok (.iadd, 1) := by decide +kernel
theorem dl_291 : decode code 291 = .ok (.iaload, 1) := by decide +kernel
theorem dl_292 : decode code 292 = .ok (.invokevirtual 91, 3) := by decide +kernel
theorem dl_295 : decode code 295 = .ok (.istore 6, 2) := by decide +kernel
theorem dl_297 : decode code 297 = .ok (.aload_n 2, 1) := by decide +kernel
theorem dl_298 : decode code 298 = .ok (.invokevirtual 81, 3) := by decide +kernel
theorem dl_301 : decode code 301 = .ok (.iload 5, 2) := by decide +kernel
theorem dl_303 : decode code 303 = .ok (.if_icmp .eq 5, 3) := by decide +kernel
theorem dl_306 : decode code 306 = .ok (.iconst 0, 1) := by decide +kernel
theorem dl_307 : decode code 307 = .ok (.ireturn, 1) := by decide +kernel
theorem dl_308 : decode code 308 = .ok (.iload 5, 2) := by decide +kernel
theorem dl_310 : decode code 310 = .ok (.ifCond .ne 15, 3) := by decide +kernel
theorem dl_313 : decode code 313 = .ok (.aload_n 3, 1) := by decide +kernel
theorem dl_314 : decode code 314 = .ok (.iconst 0, 1) := by decide +kernel
theorem dl_315 : decode code 315 = .ok (.laload, 1) := by decide +kernel
theorem dl_316 : decode code 316 = .ok (.iload 6, 2) := by decide +kernel
theorem dl_318 : decode code 318 = .ok (.i2l, 1) := by decide +kernel
theorem dl_319 : decode code 319 = .ok (.lcmp, 1) := by decide +kernel
theorem dl_320 : decode code 320 = .ok (.ifCond .eq 5, 3) := by decide +kernel
theorem dl_323 : decode code 323 = .ok (.iconst 0, 1) := by decide +kernel
theorem dl_324 : decode code 324 = .ok (.ireturn, 1) := by decide +kernel
theorem dl_325 : decode code 325 = .ok (.goto 796, 3) := by decide +kernel
theorem dl_328 : decode code 328 = .ok (.aload_n 1, 1) := by decide +kernel
theorem dl_329 : decode code 329 = .ok (.aload_n 0, 1) := by decide +kernel
theorem dl_330 : decode code 330 = .ok (.iload 4, 2) := by decide +kernel
theorem dl_332 : decode code 332 = .ok (.iconst 1, 1) := by decide +kernel
theorem dl_333 : decode code 333 = .ok (.iadd, 1) := by decide +kernel
theorem dl_334 : decode code 334 = .ok (.iaload, 1) := by decide +kernel
theorem dl_335 : decode code 335 = .ok (.ifCond .eq 7, 3) := by decide +kernel
theorem dl_338 : decode code 338 = .ok (.iconst 1, 1) := by decide +kernel
theorem dl_339 : decode code 339 = .ok (.goto 4, 3) := by decide +kernel
theorem dl_342 : decode code 342 = .ok (.iconst 0, 1) := by decide +kernel
theorem dl_343 : decode code 343 = .ok (.invokevirtual 92, 3) := by decide +kernel
theorem dl_346 : decode code 346 = .ok (.aload_n 2, 1) := by decide +kernel
theorem dl_347 : decode code 347 = .ok (.aload_n 0, 1) := by decide +kernel
theorem dl_348 : decode code 348 = .ok (.iload 4, 2) := by decide +kernel
theorem dl_350 : decode code 350 = .ok (.iconst 1, 1) := by decide +kernel
theorem dl_351 : decode code 351 = .ok (.iadd, 1) := by decide +kernel
theorem dl_352 : decode code 352 = .ok (.iaload, 1) := by decide +kernel
theorem dl_353 : decode code 353 = .ok (.ifCond .eq 7, 3) := by decide +kernel
theorem dl_356 : decode code 356 = .ok (.iconst 1, 1) := by decide +kernel
theorem dl_357 : decode code 357 = .ok (.goto 4, 3) := by decide +kernel
theorem dl_360 : decode code 360 = .ok (.iconst 0, 1) := by decide +kernel
theorem dl_361 : decode code 361 = .ok (.invokevirtual 96, 3) := by decide +kernel
theorem dl_364 : decode code 364 = .ok (.goto 757, 3) := by decide +kernel
theorem dl_367 : decode code 367 = .ok (.aload_n 1, 1) := by decide +kernel
theorem dl_368 : decode code 368 = .ok (.aload_n 0, 1) := by decide +kernel
theorem dl_369 : decode code 369 = .ok (.iload 4, 2) := by decide +kernel
theorem dl_371 : decode code 371 = .ok (.iconst 1, 1) := by decide +kernel
theorem dl_372 : decode code 372 = .ok (.iadd, 1) := by decide +kernel
theorem dl_373 : decode code 373 = .ok (.iaload, 1) := by decide +kernel
theorem dl_374 : decode code 374 = .ok (.i2l, 1) := by decide +kernel
theorem dl_375 : decode code 375 = .ok (.bipush 32, 2) := by decide +kernel
theorem dl_377 : decode code 377 = .ok (.lshl, 1) := by decide +kernel
theorem dl_378 : decode code 378 = .ok (.aload_n 0, 1) := by decide +kernel
theorem dl_379 : decode code 379 = .ok (.iload 4, 2) := by decide +kernel
theorem dl_381 : decode code 381 = .ok (.iconst 2, 1) := by decide +kernel
theorem dl_382 : decode code 382 = .ok (.iadd, 1) := by decide +kernel
theorem dl_383 : decode code 383 = .ok (.iaload, 1) := by decide +kernel
theorem dl_384 : decode code 384 = .ok (.i2l, 1) := by decide +kernel
theorem dl_385 : decode code 385 = .ok (.ldc2_w 97, 3) := by decide +kernel
theorem dl_388 : decode code 388 = .ok (.land, 1) := by decide +kernel
theorem dl_389 : decode code 389 = .ok (.lor, 1) := by decide +kernel
theorem dl_390 : decode code 390 = .ok (.aload_n 3, 1) := by decide +kernel
theorem dl_391 : decode code 391 = .ok (.invokestatic 99, 3) := by decide +kernel
theorem dl_394 : decode code 394 = .ok (.istore 5, 2) := by decide +kernel
theorem dl_396 : decode code 396 = .ok (.aload_n 2, 1) := by decide +kernel
theorem dl_397 : decode code 397 = .ok (.aload_n 0, 1) := by decide +kernel
theorem dl_398 : decode code 398 = .ok (.iload 4, 2) := by decide +kernel
theorem dl_400 : decode code 400 = .ok (.iconst 1, 1) := by decide +kernel
theorem dl_401 : decode code 401 = .ok (.iadd, 1) := by decide +kernel
theorem dl_402 : decode code 402 = .ok (.iaload, 1) := by decide +kernel
theorem dl_403 : decode code 403 = .ok (.i2l, 1) := by decide +kernel
theorem dl_404 : decode code 404 = .ok (.bipush 32, 2) := by decide +kernel
theorem dl_406 : decode code 406 = .ok (.lshl, 1) := by decide +kernel
theorem dl_407 : decode code 407 = .ok (.aload_n 0, 1) := by decide +kernel
theorem dl_408 : decode code 408 = .ok (.iload 4, 2) := by decide +kernel
theorem dl_410 : decode code 410 = .ok (.iconst 2, 1) := by decide +kernel
theorem dl_411 : decode code 411 = .ok (.iadd, 1) := by decide +kernel
theorem dl_412 : decode code 412 = .ok (.iaload, 1) := by decide +kernel
theorem dl_413 : decode code 413 = .ok (.i2l, 1) := by decide +kernel
theorem dl_414 : decode code 414 = .ok (.ldc2_w 97, 3) := by decide +kernel
theorem dl_417 : decode code 417 = .ok (.land, 1) := by decide +kernel
theorem dl_418 : decode code 418 = .ok (.lor, 1) := by decide +kernel
theorem dl_419 : decode code 419 = .ok (.invokevirtual 102, 3) := by decide +kernel
theorem dl_422 : decode code 422 = .ok (.istore 6, 2) := by decide +kernel
theorem dl_424 : decode code 424 = .ok (.aload_n 2, 1) := by decide +kernel
theorem dl_425 : decode code 425 = .ok (.invokevirtual 81, 3) := by decide +kernel
theorem dl_428 : decode code 428 = .ok (.iload 5, 2) := by decide +kernel
theorem dl_430 : decode code 430 = .ok (.if_icmp .eq 5, 3) := by decide +kernel
theorem dl_433 : decode code 433 = .ok (.iconst 0, 1) := by decide +kernel
theorem dl_434 : decode code 434 = .ok (.ireturn, 1) := by decide +kernel
theorem dl_435 : decode code 435 = .ok (.iload 5, 2) := by decide +kernel
theorem dl_437 : decode code 437 = .ok (.ifCond .ne 15, 3) := by decide +kernel
theorem dl_440 : decode code 440 = .ok (.aload_n 3, 1) := by decide +kernel
theorem dl_441 : decode code 441 = .ok (.iconst 0, 1) := by decide +kernel
theorem dl_442 : decode code 442 = .ok (.laload, 1) := by decide +kernel
theorem dl_443 : decode code 443 = .ok (.iload 6, 2) := by decide +kernel
theorem dl_445 : decode code 445 = .ok (.i2l, 1) := by decide +kernel
theorem dl_446 : decode code 446 = .ok (.lcmp, 1) := by decide +kernel
theorem dl_447 : decode code 447 = .ok (.ifCond .eq 5, 3) := by decide +kernel
theorem dl_450 : decode code 450 = .ok (.iconst 0, 1) := by decide +kernel
theorem dl_451 : decode code 451 = .ok (.ireturn, 1) := by decide +kernel
theorem dl_452 : decode code 452 = .ok (.goto 669, 3) := by decide +kernel
theorem dl_455 : decode code 455 = .ok (.aload_n 1, 1) := by decide +kernel
theorem dl_456 : decode code 456 = .ok (.aload_n 0, 1) := by decide +kernel
theorem dl_457 : decode code 457 = .ok (.iload 4, 2) := by decide +kernel
theorem dl_459 : decode code 459 = .ok (.iconst 1, 1) := by decide +kernel
theorem dl_460 : decode code 460 = .ok (.iadd, 1) := by decide +kernel
theorem dl_461 : decode code 461 = .ok (.iaload, 1) := by decide +kernel
theorem dl_462 : decode code 462 = .ok (.aload_n 3, 1) := by decide +kernel
theorem dl_463 : decode code 463 = .ok (.invokestatic 103, 3) := by decide +kernel
theorem dl_466 : decode code 466 = .ok (.istore 5, 2) := by decide +kernel
theorem dl_468 : decode code 468 = .ok (.aload_n 2, 1) := by decide +kernel
theorem dl_469 : decode code 469 = .ok (.aload_n 0, 1) := by decide +kernel
theorem dl_470 : decode code 470 = .ok (.iload 4, 2) := by decide +kernel
theorem dl_472 : decode code 472 = .ok (.iconst 1, 1) := by decide +kernel
theorem dl_473 : decode code 473 = .ok (.iadd, 1) := by decide +kernel
theorem dl_474 : decode code 474 = .ok (.iaload, 1) := by decide +kernel
theorem dl_475 : decode code 475 = .ok (.invokevirtual 105, 3) := by decide +kernel
theorem dl_478 : decode code 478 = .ok (.istore 6, 2) := by decide +kernel
theorem dl_480 : decode code 480 = .ok (.aload_n 2, 1) := by decide +kernel
theorem dl_481 : decode code 481 = .ok (.invokevirtual 81, 3) := by decide +kernel
theorem dl_484 : decode code 484 = .ok (.iload 5, 2) := by decide +kernel
theorem dl_486 : decode code 486 = .ok (.if_icmp .eq 5, 3) := by decide +kernel
theorem dl_489 : decode code 489 = .ok (.iconst 0, 1) := by decide +kernel
theorem dl_490 : decode code 490 = .ok (.ireturn, 1) := by decide +kernel
theorem dl_491 : decode code 491 = .ok (.iload 5, 2) := by decide +kernel
theorem dl_493 : decode code 493 = .ok (.ifCond .ne 15, 3) := by decide +kernel
theorem dl_496 : decode code 496 = .ok (.aload_n 3, 1) := by decide +kernel
theorem dl_497 : decode code 497 = .ok (.iconst 0, 1) := by decide +kernel
theorem dl_498 : decode code 498 = .ok (.laload, 1) := by decide +kernel
theorem dl_499 : decode code 499 = .ok (.iload 6, 2) := by decide +kernel
theorem dl_501 : decode code 501 = .ok (.i2l, 1) := by decide +kernel
theorem dl_502 : decode code 502 = .ok (.lcmp, 1) := by decide +kernel
theorem dl_503 : decode code 503 = .ok (.ifCond .eq 5, 3) := by decide +kernel
theorem dl_506 : decode code 506 = .ok (.iconst 0, 1) := by decide +kernel
theorem dl_507 : decode code 507 = .ok (.ireturn, 1) := by decide +kernel
theorem dl_508 : decode code 508 = .ok (.goto 613, 3) := by decide +kernel
theorem dl_511 : decode code 511 = .ok (.aload_n 1, 1) := by decide +kernel
theorem dl_512 : decode code 512 = .ok (.aload_n 3, 1) := by decide +kernel
theorem dl_513 : decode code 513 = .ok (.invokestatic 106, 3) := by decide +kernel
theorem dl_516 : decode code 516 = .ok (.istore 5, 2) := by decide +kernel
theorem dl_518 : decode code 518 = .ok (.aload_n 2, 1) := by decide +kernel
theorem dl_519 : decode code 519 = .ok (.invokevirtual 109, 3) := by decide +kernel
theorem dl_522 : decode code 522 = .ok (.istore 6, 2) := by decide +kernel
theorem dl_524 : decode code 524 = .ok (.aload_n 2, 1) := by decide +kernel
theorem dl_525 : decode code 525 = .ok (.invokevirtual 81, 3) := by decide +kernel
theorem dl_528 : decode code 528 = .ok (.iload 5, 2) := by decide +kernel
theorem dl_530 : decode code 530 = .ok (.if_icmp .eq 5, 3) := by decide +kernel
theorem dl_533 : decode code 533 = .ok (.iconst 0, 1) := by decide +kernel
theorem dl_534 : decode code 534 = .ok (.ireturn, 1) := by decide +kernel
theorem dl_535 : decode code 535 = .ok (.iload 5, 2) := by decide +kernel
theorem dl_537 : decode code 537 = .ok (.ifCond .ne 15, 3) := by decide +kernel
theorem dl_540 : decode code 540 = .ok (.aload_n 3, 1) := by decide +kernel
theorem dl_541 : decode code 541 = .ok (.iconst 0, 1) := by decide +kernel
theorem dl_542 : decode code 542 = .ok (.laload, 1) := by decide +kernel
theorem dl_543 : decode code 543 = .ok (.iload 6, 2) := by decide +kernel
theorem dl_545 : decode code 545 = .ok (.i2l, 1) := by decide +kernel
theorem dl_546 : decode code 546 = .ok (.lcmp, 1) := by decide +kernel
theorem dl_547 : decode code 547 = .ok (.ifCond .eq 5, 3) := by decide +kernel
theorem dl_550 : decode code 550 = .ok (.iconst 0, 1) := by decide +kernel
theorem dl_551 : decode code 551 = .ok (.ireturn, 1) := by decide +kernel
theorem dl_552 : decode code 552 = .ok (.goto 569, 3) := by decide +kernel
theorem dl_555 : decode code 555 = .ok (.aload_n 1, 1) := by decide +kernel
theorem dl_556 : decode code 556 = .ok (.aload_n 3, 1) := by decide +kernel
theorem dl_557 : decode code 557 = .ok (.invokestatic 110, 3) := by decide +kernel
theorem dl_560 : decode code 560 = .ok (.istore 5, 2) := by decide +kernel
theorem dl_562 : decode code 562 = .ok (.aload_n 2, 1) := by decide +kernel
theorem dl_563 : decode code 563 = .ok (.invokevirtual 112, 3) := by decide +kernel
theorem dl_566 : decode code 566 = .ok (.istore 6, 2) := by decide +kernel
theorem dl_568 : decode code 568 = .ok (.aload_n 2, 1) := by decide +kernel
theorem dl_569 : decode code 569 = .ok (.invokevirtual 81, 3) := by decide +kernel
theorem dl_572 : decode code 572 = .ok (.iload 5, 2) := by decide +kernel
theorem dl_574 : decode code 574 = .ok (.if_icmp .eq 5, 3) := by decide +kernel
theorem dl_577 : decode code 577 = .ok (.iconst 0, 1) := by decide +kernel
theorem dl_578 : decode code 578 = .ok (.ireturn, 1) := by decide +kernel
theorem dl_579 : decode code 579 = .ok (.iload 5, 2) := by decide +kernel
theorem dl_581 : decode code 581 = .ok (.ifCond .ne 15, 3) := by decide +kernel
theorem dl_584 : decode code 584 = .ok (.aload_n 3, 1) := by decide +kernel
theorem dl_585 : decode code 585 = .ok (.iconst 0, 1) := by decide +kernel
theorem dl_586 : decode code 586 = .ok (.laload, 1) := by decide +kernel
theorem dl_587 : decode code 587 = .ok (.iload 6, 2) := by decide +kernel
theorem dl_589 : decode code 589 = .ok (.i2l, 1) := by decide +kernel
theorem dl_590 : decode code 590 = .ok (.lcmp, 1) := by decide +kernel
theorem dl_591 : decode code 591 = .ok (.ifCond .eq 5, 3) := by decide +kernel
theorem dl_594 : decode code 594 = .ok (.iconst 0, 1) := by decide +kernel
theorem dl_595 : decode code 595 = .ok (.ireturn, 1) := by decide +kernel
theorem dl_596 : decode code 596 = .ok (.goto 525, 3) := by decide +kernel
theorem dl_599 : decode code 599 = .ok (.aload_n 1, 1) := by decide +kernel
theorem dl_600 : decode code 600 = .ok (.aload_n 0, 1) := by decide +kernel
theorem dl_601 : decode code 601 = .ok (.iload 4, 2) := by decide +kernel
theorem dl_603 : decode code 603 = .ok (.iconst 1, 1) := by decide +kernel
theorem dl_604 : decode code 604 = .ok (.iadd, 1) := by decide +kernel
theorem dl_605 : decode code 605 = .ok (.iaload, 1) := by decide +kernel
theorem dl_606 : decode code 606 = .ok (.aload_n 3, 1) := by decide +kernel
theorem dl_607 : decode code 607 = .ok (.invokestatic 113, 3) := by decide +kernel
theorem dl_610 : decode code 610 = .ok (.istore 5, 2) := by decide +kernel
theorem dl_612 : decode code 612 = .ok (.aload_n 2, 1) := by decide +kernel
theorem dl_613 : decode code 613 = .ok (.aload_n 0, 1) := by decide +kernel
theorem dl_614 : decode code 614 = .ok (.iload 4, 2) := by decide +kernel
theorem dl_616 : decode code 616 = .ok (.iconst 1, 1) := by decide +kernel
theorem dl_617 : decode code 617 = .ok (.iadd, 1) := by decide +kernel
theorem dl_618 : decode code 618 = .ok (.iaload, 1) := by decide +kernel
theorem dl_619 : decode code 619 = .ok (.invokevirtual 115, 3) := by decide +kernel
theorem dl_622 : decode code 622 = .ok (.istore 6, 2) := by decide +kernel
theorem dl_624 : decode code 624 = .ok (.aload_n 2, 1) := by decide +kernel
theorem dl_625 : decode code 625 = .ok (.invokevirtual 81, 3) := by decide +kernel
theorem dl_628 : decode code 628 = .ok (.iload 5, 2) := by decide +kernel
theorem dl_630 : decode code 630 = .ok (.if_icmp .eq 5, 3) := by decide +kernel
theorem dl_633 : decode code 633 = .ok (.iconst 0, 1) := by decide +kernel
theorem dl_634 : decode code 634 = .ok (.ireturn, 1) := by decide +kernel
theorem dl_635 : decode code 635 = .ok (.iload 5, 2) := by decide +kernel
theorem dl_637 : decode code 637 = .ok (.ifCond .ne 15, 3) := by decide +kernel
theorem dl_640 : decode code 640 = .ok (.aload_n 3, 1) := by decide +kernel
theorem dl_641 : decode code 641 = .ok (.iconst 0, 1) := by decide +kernel
theorem dl_642 : decode code 642 = .ok (.laload, 1) := by decide +kernel
theorem dl_643 : decode code 643 = .ok (.iload 6, 2) := by decide +kernel
theorem dl_645 : decode code 645 = .ok (.i2l, 1) := by decide +kernel
theorem dl_646 : decode code 646 = .ok (.lcmp, 1) := by decide +kernel
theorem dl_647 : decode code 647 = .ok (.ifCond .eq 5, 3) := by decide +kernel
theorem dl_650 : decode code 650 = .ok (.iconst 0, 1) := by decide +kernel
theorem dl_651 : decode code 651 = .ok (.ireturn, 1) := by decide +kernel
theorem dl_652 : decode code 652 = .ok (.goto 469, 3) := by decide +kernel
theorem dl_655 : decode code 655 = .ok (.aload_n 1, 1) := by decide +kernel
theorem dl_656 : decode code 656 = .ok (.aload_n 0, 1) := by decide +kernel
theorem dl_657 : decode code 657 = .ok (.iload 4, 2) := by decide +kernel
theorem dl_659 : decode code 659 = .ok (.iconst 1, 1) := by decide +kernel
theorem dl_660 : decode code 660 = .ok (.iadd, 1) := by decide +kernel
theorem dl_661 : decode code 661 = .ok (.iaload, 1) := by decide +kernel
theorem dl_662 : decode code 662 = .ok (.aload_n 3, 1) := by decide +kernel
theorem dl_663 : decode code 663 = .ok (.invokestatic 116, 3) := by decide +kernel
theorem dl_666 : decode code 666 = .ok (.istore 5, 2) := by decide +kernel
theorem dl_668 : decode code 668 = .ok (.aload_n 2, 1) := by decide +kernel
theorem dl_669 : decode code 669 = .ok (.aload_n 0, 1) := by decide +kernel
theorem dl_670 : decode code 670 = .ok (.iload 4, 2) := by decide +kernel
theorem dl_672 : decode code 672 = .ok (.iconst 1, 1) := by decide +kernel
theorem dl_673 : decode code 673 = .ok (.iadd, 1) := by decide +kernel
theorem dl_674 : decode code 674 = .ok (.iaload, 1) := by decide +kernel
theorem dl_675 : decode code 675 = .ok (.invokevirtual 118, 3) := by decide +kernel
theorem dl_678 : decode code 678 = .ok (.istore 6, 2) := by decide +kernel
theorem dl_680 : decode code 680 = .ok (.aload_n 2, 1) := by decide +kernel
theorem dl_681 : decode code 681 = .ok (.invokevirtual 81, 3) := by decide +kernel
theorem dl_684 : decode code 684 = .ok (.iload 5, 2) := by decide +kernel
theorem dl_686 : decode code 686 = .ok (.if_icmp .eq 5, 3) := by decide +kernel
theorem dl_689 : decode code 689 = .ok (.iconst 0, 1) := by decide +kernel
theorem dl_690 : decode code 690 = .ok (.ireturn, 1) := by decide +kernel
theorem dl_691 : decode code 691 = .ok (.iload 5, 2) := by decide +kernel
theorem dl_693 : decode code 693 = .ok (.ifCond .ne 15, 3) := by decide +kernel
theorem dl_696 : decode code 696 = .ok (.aload_n 3, 1) := by decide +kernel
theorem dl_697 : decode code 697 = .ok (.iconst 0, 1) := by decide +kernel
theorem dl_698 : decode code 698 = .ok (.laload, 1) := by decide +kernel
theorem dl_699 : decode code 699 = .ok (.iload 6, 2) := by decide +kernel
theorem dl_701 : decode code 701 = .ok (.i2l, 1) := by decide +kernel
theorem dl_702 : decode code 702 = .ok (.lcmp, 1) := by decide +kernel
theorem dl_703 : decode code 703 = .ok (.ifCond .eq 5, 3) := by decide +kernel
theorem dl_706 : decode code 706 = .ok (.iconst 0, 1) := by decide +kernel
theorem dl_707 : decode code 707 = .ok (.ireturn, 1) := by decide +kernel
theorem dl_708 : decode code 708 = .ok (.goto 413, 3) := by decide +kernel
theorem dl_711 : decode code 711 = .ok (.aload_n 1, 1) := by decide +kernel
theorem dl_712 : decode code 712 = .ok (.aload_n 0, 1) := by decide +kernel
theorem dl_713 : decode code 713 = .ok (.iload 4, 2) := by decide +kernel
theorem dl_715 : decode code 715 = .ok (.iconst 1, 1) := by decide +kernel
theorem dl_716 : decode code 716 = .ok (.iadd, 1) := by decide +kernel
theorem dl_717 : decode code 717 = .ok (.iaload, 1) := by decide +kernel
theorem dl_718 : decode code 718 = .ok (.aload_n 0, 1) := by decide +kernel
theorem dl_719 : decode code 719 = .ok (.iload 4, 2) := by decide +kernel
theorem dl_721 : decode code 721 = .ok (.iconst 2, 1) := by decide +kernel
theorem dl_722 : decode code 722 = .ok (.iadd, 1) := by decide +kernel
theorem dl_723 : decode code 723 = .ok (.iaload, 1) := by decide +kernel
theorem dl_724 : decode code 724 = .ok (.aload_n 3, 1) := by decide +kernel
theorem dl_725 : decode code 725 = .ok (.invokestatic 119, 3) := by decide +kernel
theorem dl_728 : decode code 728 = .ok (.istore 5, 2) := by decide +kernel
theorem dl_730 : decode code 730 = .ok (.aload_n 2, 1) := by decide +kernel
theorem dl_731 : decode code 731 = .ok (.aload_n 0, 1) := by decide +kernel
theorem dl_732 : decode code 732 = .ok (.iload 4, 2) := by decide +kernel
theorem dl_734 : decode code 734 = .ok (.iconst 1, 1) := by decide +kernel
theorem dl_735 : decode code 735 = .ok (.iadd, 1) := by decide +kernel
theorem dl_736 : decode code 736 = .ok (.iaload, 1) := by decide +kernel
theorem dl_737 : decode code 737 = .ok (.aload_n 0, 1) := by decide +kernel
theorem dl_738 : decode code 738 = .ok (.iload 4, 2) := by decide +kernel
theorem dl_740 : decode code 740 = .ok (.iconst 2, 1) := by decide +kernel
theorem dl_741 : decode code 741 = .ok (.iadd, 1) := by decide +kernel
theorem dl_742 : decode code 742 = .ok (.iaload, 1) := by decide +kernel
theorem dl_743 : decode code 743 = .ok (.invokevirtual 122, 3) := by decide +kernel
theorem dl_746 : decode code 746 = .ok (.istore 6, 2) := by decide +kernel
theorem dl_748 : decode code 748 = .ok (.aload_n 2, 1) := by decide +kernel
theorem dl_749 : decode code 749 = .ok (.invokevirtual 81, 3) := by decide +kernel
theorem dl_752 : decode code 752 = .ok (.iload 5, 2) := by decide +kernel
theorem dl_754 : decode code 754 = .ok (.if_icmp .eq 5, 3) := by decide +kernel
theorem dl_757 : decode code 757 = .ok (.iconst 0, 1) := by decide +kernel
theorem dl_758 : decode code 758 = .ok (.ireturn, 1) := by decide +kernel
theorem dl_759 : decode code 759 = .ok (.iload 5, 2) := by decide +kernel
theorem dl_761 : decode code 761 = .ok (.ifCond .ne 15, 3) := by decide +kernel
theorem dl_764 : decode code 764 = .ok (.aload_n 3, 1) := by decide +kernel
theorem dl_765 : decode code 765 = .ok (.iconst 0, 1) := by decide +kernel
theorem dl_766 : decode code 766 = .ok (.laload, 1) := by decide +kernel
theorem dl_767 : decode code 767 = .ok (.iload 6, 2) := by decide +kernel
theorem dl_769 : decode code 769 = .ok (.i2l, 1) := by decide +kernel
theorem dl_770 : decode code 770 = .ok (.lcmp, 1) := by decide +kernel
theorem dl_771 : decode code 771 = .ok (.ifCond .eq 5, 3) := by decide +kernel
theorem dl_774 : decode code 774 = .ok (.iconst 0, 1) := by decide +kernel
theorem dl_775 : decode code 775 = .ok (.ireturn, 1) := by decide +kernel
theorem dl_776 : decode code 776 = .ok (.goto 345, 3) := by decide +kernel
theorem dl_779 : decode code 779 = .ok (.aload_n 1, 1) := by decide +kernel
theorem dl_780 : decode code 780 = .ok (.aload_n 0, 1) := by decide +kernel
theorem dl_781 : decode code 781 = .ok (.iload 4, 2) := by decide +kernel
theorem dl_783 : decode code 783 = .ok (.iconst 1, 1) := by decide +kernel
theorem dl_784 : decode code 784 = .ok (.iadd, 1) := by decide +kernel
theorem dl_785 : decode code 785 = .ok (.iaload, 1) := by decide +kernel
theorem dl_786 : decode code 786 = .ok (.aload_n 3, 1) := by decide +kernel
theorem dl_787 : decode code 787 = .ok (.invokestatic 123, 3) := by decide +kernel
theorem dl_790 : decode code 790 = .ok (.istore 5, 2) := by decide +kernel
theorem dl_792 : decode code 792 = .ok (.aload_n 2, 1) := by decide +kernel
theorem dl_793 : decode code 793 = .ok (.aload_n 0, 1) := by decide +kernel
theorem dl_794 : decode code 794 = .ok (.iload 4, 2) := by decide +kernel
theorem dl_796 : decode code 796 = .ok (.iconst 1, 1) := by decide +kernel
theorem dl_797 : decode code 797 = .ok (.iadd, 1) := by decide +kernel
theorem dl_798 : decode code 798 = .ok (.iaload, 1) := by decide +kernel
theorem dl_799 : decode code 799 = .ok (.invokevirtual 125, 3) := by decide +kernel
theorem dl_802 : decode code 802 = .ok (.lstore 6, 2) := by decide +kernel
theorem dl_804 : decode code 804 = .ok (.aload_n 2, 1) := by decide +kernel
theorem dl_805 : decode code 805 = .ok (.invokevirtual 81, 3) := by decide +kernel
theorem dl_808 : decode code 808 = .ok (.iload 5, 2) := by decide +kernel
theorem dl_810 : decode code 810 = .ok (.if_icmp .eq 5, 3) := by decide +kernel
theorem dl_813 : decode code 813 = .ok (.iconst 0, 1) := by decide +kernel
theorem dl_814 : decode code 814 = .ok (.ireturn, 1) := by decide +kernel
theorem dl_815 : decode code 815 = .ok (.iload 5, 2) := by decide +kernel
theorem dl_817 : decode code 817 = .ok (.ifCond .ne 14, 3) := by decide +kernel
theorem dl_820 : decode code 820 = .ok (.aload_n 3, 1) := by decide +kernel
theorem dl_821 : decode code 821 = .ok (.iconst 0, 1) := by decide +kernel
theorem dl_822 : decode code 822 = .ok (.laload, 1) := by decide +kernel
theorem dl_823 : decode code 823 = .ok (.lload 6, 2) := by decide +kernel
theorem dl_825 : decode code 825 = .ok (.lcmp, 1) := by decide +kernel
theorem dl_826 : decode code 826 = .ok (.ifCond .eq 5, 3) := by decide +kernel
theorem dl_829 : decode code 829 = .ok (.iconst 0, 1) := by decide +kernel
theorem dl_830 : decode code 830 = .ok (.ireturn, 1) := by decide +kernel
theorem dl_831 : decode code 831 = .ok (.goto 290, 3) := by decide +kernel
theorem dl_834 : decode code 834 = .ok (.aload_n 1, 1) := by decide +kernel
theorem dl_835 : decode code 835 = .ok (.aload_n 0, 1) := by decide +kernel
theorem dl_836 : decode code 836 = .ok (.iload 4, 2) := by decide +kernel
theorem dl_838 : decode code 838 = .ok (.iconst 1, 1) := by decide +kernel
theorem dl_839 : decode code 839 = .ok (.iadd, 1) := by decide +kernel
theorem dl_840 : decode code 840 = .ok (.iaload, 1) := by decide +kernel
theorem dl_841 : decode code 841 = .ok (.aload_n 3, 1) := by decide +kernel
theorem dl_842 : decode code 842 = .ok (.invokestatic 126, 3) := by decide +kernel
theorem dl_845 : decode code 845 = .ok (.istore 5, 2) := by decide +kernel
theorem dl_847 : decode code 847 = .ok (.aload_n 2, 1) := by decide +kernel
theorem dl_848 : decode code 848 = .ok (.aload_n 0, 1) := by decide +kernel
theorem dl_849 : decode code 849 = .ok (.iload 4, 2) := by decide +kernel
theorem dl_851 : decode code 851 = .ok (.iconst 1, 1) := by decide +kernel
theorem dl_852 : decode code 852 = .ok (.iadd, 1) := by decide +kernel
theorem dl_853 : decode code 853 = .ok (.iaload, 1) := by decide +kernel
theorem dl_854 : decode code 854 = .ok (.invokevirtual 128, 3) := by decide +kernel
theorem dl_857 : decode code 857 = .ok (.istore 6, 2) := by decide +kernel
theorem dl_859 : decode code 859 = .ok (.aload_n 2, 1) := by decide +kernel
theorem dl_860 : decode code 860 = .ok (.invokevirtual 81, 3) := by decide +kernel
theorem dl_863 : decode code 863 = .ok (.iload 5, 2) := by decide +kernel
theorem dl_865 : decode code 865 = .ok (.if_icmp .eq 5, 3) := by decide +kernel
theorem dl_868 : decode code 868 = .ok (.iconst 0, 1) := by decide +kernel
theorem dl_869 : decode code 869 = .ok (.ireturn, 1) := by decide +kernel
theorem dl_870 : decode code 870 = .ok (.iload 5, 2) := by decide +kernel
theorem dl_872 : decode code 872 = .ok (.ifCond .ne 15, 3) := by decide +kernel
theorem dl_875 : decode code 875 = .ok (.aload_n 3, 1) := by decide +kernel
theorem dl_876 : decode code 876 = .ok (.iconst 0, 1) := by decide +kernel
theorem dl_877 : decode code 877 = .ok (.laload, 1) := by decide +kernel
theorem dl_878 : decode code 878 = .ok (.iload 6, 2) := by decide +kernel
theorem dl_880 : decode code 880 = .ok (.i2l, 1) := by decide +kernel
theorem dl_881 : decode code 881 = .ok (.lcmp, 1) := by decide +kernel
theorem dl_882 : decode code 882 = .ok (.ifCond .eq 5, 3) := by decide +kernel
theorem dl_885 : decode code 885 = .ok (.iconst 0, 1) := by decide +kernel
theorem dl_886 : decode code 886 = .ok (.ireturn, 1) := by decide +kernel
theorem dl_887 : decode code 887 = .ok (.goto 234, 3) := by decide +kernel
theorem dl_890 : decode code 890 = .ok (.aload_n 1, 1) := by decide +kernel
theorem dl_891 : decode code 891 = .ok (.aload_n 0, 1) := by decide +kernel
theorem dl_892 : decode code 892 = .ok (.iload 4, 2) := by decide +kernel
theorem dl_894 : decode code 894 = .ok (.iconst 1, 1) := by decide +kernel
theorem dl_895 : decode code 895 = .ok (.iadd, 1) := by decide +kernel
theorem dl_896 : decode code 896 = .ok (.iaload, 1) := by decide +kernel
theorem dl_897 : decode code 897 = .ok (.aload_n 0, 1) := by decide +kernel
theorem dl_898 : decode code 898 = .ok (.iload 4, 2) := by decide +kernel
theorem dl_900 : decode code 900 = .ok (.iconst 2, 1) := by decide +kernel
theorem dl_901 : decode code 901 = .ok (.iadd, 1) := by decide +kernel
theorem dl_902 : decode code 902 = .ok (.iaload, 1) := by decide +kernel
theorem dl_903 : decode code 903 = .ok (.aload_n 3, 1) := by decide +kernel
theorem dl_904 : decode code 904 = .ok (.invokestatic 129, 3) := by decide +kernel
theorem dl_907 : decode code 907 = .ok (.istore 5, 2) := by decide +kernel
theorem dl_909 : decode code 909 = .ok (.aload_n 2, 1) := by decide +kernel
theorem dl_910 : decode code 910 = .ok (.aload_n 0, 1) := by decide +kernel
theorem dl_911 : decode code 911 = .ok (.iload 4, 2) := by decide +kernel
theorem dl_913 : decode code 913 = .ok (.iconst 1, 1) := by decide +kernel
theorem dl_914 : decode code 914 = .ok (.iadd, 1) := by decide +kernel
theorem dl_915 : decode code 915 = .ok (.iaload, 1) := by decide +kernel
theorem dl_916 : decode code 916 = .ok (.aload_n 0, 1) := by decide +kernel
theorem dl_917 : decode code 917 = .ok (.iload 4, 2) := by decide +kernel
theorem dl_919 : decode code 919 = .ok (.iconst 2, 1) := by decide +kernel
theorem dl_920 : decode code 920 = .ok (.iadd, 1) := by decide +kernel
theorem dl_921 : decode code 921 = .ok (.iaload, 1) := by decide +kernel
theorem dl_922 : decode code 922 = .ok (.invokevirtual 131, 3) := by decide +kernel
theorem dl_925 : decode code 925 = .ok (.istore 6, 2) := by decide +kernel
theorem dl_927 : decode code 927 = .ok (.aload_n 2, 1) := by decide +kernel
theorem dl_928 : decode code 928 = .ok (.invokevirtual 81, 3) := by decide +kernel
theorem dl_931 : decode code 931 = .ok (.iload 5, 2) := by decide +kernel
theorem dl_933 : decode code 933 = .ok (.if_icmp .eq 5, 3) := by decide +kernel
theorem dl_936 : decode code 936 = .ok (.iconst 0, 1) := by decide +kernel
theorem dl_937 : decode code 937 = .ok (.ireturn, 1) := by decide +kernel
theorem dl_938 : decode code 938 = .ok (.iload 5, 2) := by decide +kernel
theorem dl_940 : decode code 940 = .ok (.ifCond .ne 15, 3) := by decide +kernel
theorem dl_943 : decode code 943 = .ok (.aload_n 3, 1) := by decide +kernel
theorem dl_944 : decode code 944 = .ok (.iconst 0, 1) := by decide +kernel
theorem dl_945 : decode code 945 = .ok (.laload, 1) := by decide +kernel
theorem dl_946 : decode code 946 = .ok (.iload 6, 2) := by decide +kernel
theorem dl_948 : decode code 948 = .ok (.i2l, 1) := by decide +kernel
theorem dl_949 : decode code 949 = .ok (.lcmp, 1) := by decide +kernel
theorem dl_950 : decode code 950 = .ok (.ifCond .eq 5, 3) := by decide +kernel
theorem dl_953 : decode code 953 = .ok (.iconst 0, 1) := by decide +kernel
theorem dl_954 : decode code 954 = .ok (.ireturn, 1) := by decide +kernel
theorem dl_955 : decode code 955 = .ok (.goto 166, 3) := by decide +kernel
theorem dl_958 : decode code 958 = .ok (.aload_n 1, 1) := by decide +kernel
theorem dl_959 : decode code 959 = .ok (.aload_n 3, 1) := by decide +kernel
theorem dl_960 : decode code 960 = .ok (.invokestatic 132, 3) := by decide +kernel
theorem dl_963 : decode code 963 = .ok (.istore 5, 2) := by decide +kernel
theorem dl_965 : decode code 965 = .ok (.aload_n 2, 1) := by decide +kernel
theorem dl_966 : decode code 966 = .ok (.invokevirtual 134, 3) := by decide +kernel
theorem dl_969 : decode code 969 = .ok (.istore 6, 2) := by decide +kernel
theorem dl_971 : decode code 971 = .ok (.aload_n 2, 1) := by decide +kernel
theorem dl_972 : decode code 972 = .ok (.invokevirtual 81, 3) := by decide +kernel
theorem dl_975 : decode code 975 = .ok (.iload 5, 2) := by decide +kernel
theorem dl_977 : decode code 977 = .ok (.if_icmp .eq 5, 3) := by decide +kernel
theorem dl_980 : decode code 980 = .ok (.iconst 0, 1) := by decide +kernel
theorem dl_981 : decode code 981 = .ok (.ireturn, 1) := by decide +kernel
theorem dl_982 : decode code 982 = .ok (.iload 5, 2) := by decide +kernel
theorem dl_984 : decode code 984 = .ok (.ifCond .ne 15, 3) := by decide +kernel
theorem dl_987 : decode code 987 = .ok (.aload_n 3, 1) := by decide +kernel
theorem dl_988 : decode code 988 = .ok (.iconst 0, 1) := by decide +kernel
theorem dl_989 : decode code 989 = .ok (.laload, 1) := by decide +kernel
theorem dl_990 : decode code 990 = .ok (.iload 6, 2) := by decide +kernel
theorem dl_992 : decode code 992 = .ok (.i2l, 1) := by decide +kernel
theorem dl_993 : decode code 993 = .ok (.lcmp, 1) := by decide +kernel
theorem dl_994 : decode code 994 = .ok (.ifCond .eq 5, 3) := by decide +kernel
theorem dl_997 : decode code 997 = .ok (.iconst 0, 1) := by decide +kernel
theorem dl_998 : decode code 998 = .ok (.ireturn, 1) := by decide +kernel
theorem dl_999 : decode code 999 = .ok (.goto 122, 3) := by decide +kernel
theorem dl_1002 : decode code 1002 = .ok (.aload_n 1, 1) := by decide +kernel
theorem dl_1003 : decode code 1003 = .ok (.aload_n 0, 1) := by decide +kernel
theorem dl_1004 : decode code 1004 = .ok (.iload 4, 2) := by decide +kernel
theorem dl_1006 : decode code 1006 = .ok (.iconst 1, 1) := by decide +kernel
theorem dl_1007 : decode code 1007 = .ok (.iadd, 1) := by decide +kernel
theorem dl_1008 : decode code 1008 = .ok (.iaload, 1) := by decide +kernel
theorem dl_1009 : decode code 1009 = .ok (.aload_n 3, 1) := by decide +kernel
theorem dl_1010 : decode code 1010 = .ok (.invokestatic 135, 3) := by decide +kernel
theorem dl_1013 : decode code 1013 = .ok (.istore 5, 2) := by decide +kernel
theorem dl_1015 : decode code 1015 = .ok (.aload_n 2, 1) := by decide +kernel
theorem dl_1016 : decode code 1016 = .ok (.aload_n 0, 1) := by decide +kernel
theorem dl_1017 : decode code 1017 = .ok (.iload 4, 2) := by decide +kernel
theorem dl_1019 : decode code 1019 = .ok (.iconst 1, 1) := by decide +kernel
theorem dl_1020 : decode code 1020 = .ok (.iadd, 1) := by decide +kernel
theorem dl_1021 : decode code 1021 = .ok (.iaload, 1) := by decide +kernel
theorem dl_1022 : decode code 1022 = .ok (.invokevirtual 137, 3) := by decide +kernel
theorem dl_1025 : decode code 1025 = .ok (.istore 6, 2) := by decide +kernel
theorem dl_1027 : decode code 1027 = .ok (.aload_n 2, 1) := by decide +kernel
theorem dl_1028 : decode code 1028 = .ok (.invokevirtual 81, 3) := by decide +kernel
theorem dl_1031 : decode code 1031 = .ok (.iload 5, 2) := by decide +kernel
theorem dl_1033 : decode code 1033 = .ok (.if_icmp .eq 5, 3) := by decide +kernel
theorem dl_1036 : decode code 1036 = .ok (.iconst 0, 1) := by decide +kernel
theorem dl_1037 : decode code 1037 = .ok (.ireturn, 1) := by decide +kernel
theorem dl_1038 : decode code 1038 = .ok (.iload 5, 2) := by decide +kernel
theorem dl_1040 : decode code 1040 = .ok (.ifCond .ne 22, 3) := by decide +kernel
theorem dl_1043 : decode code 1043 = .ok (.aload_n 3, 1) := by decide +kernel
theorem dl_1044 : decode code 1044 = .ok (.iconst 0, 1) := by decide +kernel
theorem dl_1045 : decode code 1045 = .ok (.laload, 1) := by decide +kernel
theorem dl_1046 : decode code 1046 = .ok (.iload 6, 2) := by decide +kernel
theorem dl_1048 : decode code 1048 = .ok (.ifCond .eq 7, 3) := by decide +kernel
theorem dl_1051 : decode code 1051 = .ok (.lconst 1, 1) := by decide +kernel
theorem dl_1052 : decode code 1052 = .ok (.goto 4, 3) := by decide +kernel
theorem dl_1055 : decode code 1055 = .ok (.lconst 0, 1) := by decide +kernel
theorem dl_1056 : decode code 1056 = .ok (.lcmp, 1) := by decide +kernel
theorem dl_1057 : decode code 1057 = .ok (.ifCond .eq 5, 3) := by decide +kernel
theorem dl_1060 : decode code 1060 = .ok (.iconst 0, 1) := by decide +kernel
theorem dl_1061 : decode code 1061 = .ok (.ireturn, 1) := by decide +kernel
theorem dl_1062 : decode code 1062 = .ok (.goto 59, 3) := by decide +kernel
theorem dl_1065 : decode code 1065 = .ok (.aload_n 1, 1) := by decide +kernel
theorem dl_1066 : decode code 1066 = .ok (.aload_n 0, 1) := by decide +kernel
theorem dl_1067 : decode code 1067 = .ok (.iload 4, 2) := by decide +kernel
theorem dl_1069 : decode code 1069 = .ok (.iconst 1, 1) := by decide +kernel
theorem dl_1070 : decode code 1070 = .ok (.iadd, 1) := by decide +kernel
theorem dl_1071 : decode code 1071 = .ok (.iaload, 1) := by decide +kernel
theorem dl_1072 : decode code 1072 = .ok (.aload_n 3, 1) := by decide +kernel
theorem dl_1073 : decode code 1073 = .ok (.invokestatic 138, 3) := by decide +kernel
theorem dl_1076 : decode code 1076 = .ok (.istore 5, 2) := by decide +kernel
theorem dl_1078 : decode code 1078 = .ok (.aload_n 2, 1) := by decide +kernel
theorem dl_1079 : decode code 1079 = .ok (.aload_n 0, 1) := by decide +kernel
theorem dl_1080 : decode code 1080 = .ok (.iload 4, 2) := by decide +kernel
theorem dl_1082 : decode code 1082 = .ok (.iconst 1, 1) := by decide +kernel
theorem dl_1083 : decode code 1083 = .ok (.iadd, 1) := by decide +kernel
theorem dl_1084 : decode code 1084 = .ok (.iaload, 1) := by decide +kernel
theorem dl_1085 : decode code 1085 = .ok (.invokevirtual 140, 3) := by decide +kernel
theorem dl_1088 : decode code 1088 = .ok (.istore 6, 2) := by decide +kernel
theorem dl_1090 : decode code 1090 = .ok (.aload_n 2, 1) := by decide +kernel
theorem dl_1091 : decode code 1091 = .ok (.invokevirtual 81, 3) := by decide +kernel
theorem dl_1094 : decode code 1094 = .ok (.iload 5, 2) := by decide +kernel
theorem dl_1096 : decode code 1096 = .ok (.if_icmp .eq 5, 3) := by decide +kernel
theorem dl_1099 : decode code 1099 = .ok (.iconst 0, 1) := by decide +kernel
theorem dl_1100 : decode code 1100 = .ok (.ireturn, 1) := by decide +kernel
theorem dl_1101 : decode code 1101 = .ok (.iload 5, 2) := by decide +kernel
theorem dl_1103 : decode code 1103 = .ok (.ifCond .ne 15, 3) := by decide +kernel
theorem dl_1106 : decode code 1106 = .ok (.aload_n 3, 1) := by decide +kernel
theorem dl_1107 : decode code 1107 = .ok (.iconst 0, 1) := by decide +kernel
theorem dl_1108 : decode code 1108 = .ok (.laload, 1) := by decide +kernel
theorem dl_1109 : decode code 1109 = .ok (.iload 6, 2) := by decide +kernel
theorem dl_1111 : decode code 1111 = .ok (.i2l, 1) := by decide +kernel
theorem dl_1112 : decode code 1112 = .ok (.lcmp, 1) := by decide +kernel
theorem dl_1113 : decode code 1113 = .ok (.ifCond .eq 5, 3) := by decide +kernel
theorem dl_1116 : decode code 1116 = .ok (.iconst 0, 1) := by decide +kernel
theorem dl_1117 : decode code 1117 = .ok (.ireturn, 1) := by decide +kernel
theorem dl_1118 : decode code 1118 = .ok (.goto 3, 3) := by decide +kernel
theorem dl_1121 : decode code 1121 = .ok (.iinc 4 5, 3) := by decide +kernel
theorem dl_1124 : decode code 1124 = .ok (.goto (-1101), 3) := by decide +kernel
theorem dl_1127 : decode code 1127 = .ok (.iconst 1, 1) := by decide +kernel
theorem dl_1128 : decode code 1128 = .ok (.ireturn, 1) := by decide +kernel
theorem lq_71 : Cond.methodLink "FixityTreesLaw" 71 ⟨"FixityTrees", "<init>", "()V"⟩ ∈ fx_g := fx_in 19 (by decide +kernel) (by decide +kernel)
theorem lq_74 : Cond.methodLink "FixityTreesLaw" 74 ⟨"FixityTreesModel", "<init>", "()V"⟩ ∈ fx_g := fx_in 929 (by decide +kernel) (by decide +kernel)
theorem lq_75 : Cond.methodLink "FixityTreesLaw" 75 ⟨"FixityTreesLaw", "scope", "(LFixityTrees;I[J)I"⟩ ∈ fx_g := fx_in 263 (by decide +kernel) (by decide +kernel)
theorem lq_80 : Cond.methodLink "FixityTreesLaw" 80 ⟨"FixityTreesModel", "scope", "(I)I"⟩ ∈ fx_g := fx_in 1086 (by decide +kernel) (by decide +kernel)
theorem lq_81 : Cond.methodLink "FixityTreesLaw" 81 ⟨"FixityTreesModel", "thrown", "()I"⟩ ∈ fx_g := fx_in 1082 (by decide +kernel) (by decide +kernel)
theorem lq_84 : Cond.methodLink "FixityTreesLaw" 84 ⟨"FixityTreesLaw", "fixity", "(LFixityTrees;IIII)I"⟩ ∈ fx_g := fx_in 373 (by decide +kernel) (by decide +kernel)
theorem lq_87 : Cond.methodLink "FixityTreesLaw" 87 ⟨"FixityTreesModel", "fixity", "(IIII)V"⟩ ∈ fx_g := fx_in 1101 (by decide +kernel) (by decide +kernel)
theorem lq_88 : Cond.methodLink "FixityTreesLaw" 88 ⟨"FixityTreesLaw", "looked", "(LFixityTrees;III[J)I"⟩ ∈ fx_g := fx_in 422 (by decide +kernel) (by decide +kernel)
theorem lq_91 : Cond.methodLink "FixityTreesLaw" 91 ⟨"FixityTreesModel", "looked", "(III)I"⟩ ∈ fx_g := fx_in 1108 (by decide +kernel) (by decide +kernel)
theorem lq_92 : Cond.methodLink "FixityTreesLaw" 92 ⟨"FixityTrees", "begin", "(Z)V"⟩ ∈ fx_g := fx_in 255 (by decide +kernel) (by decide +kernel)
theorem lq_96 : Cond.methodLink "FixityTreesLaw" 96 ⟨"FixityTreesModel", "begin", "(Z)V"⟩ ∈ fx_g := fx_in 1124 (by decide +kernel) (by decide +kernel)
theorem lq_99 : Cond.methodLink "FixityTreesLaw" 99 ⟨"FixityTreesLaw", "operand", "(LFixityTrees;J[J)I"⟩ ∈ fx_g := fx_in 443 (by decide +kernel) (by decide +kernel)
theorem lq_102 : Cond.methodLink "FixityTreesLaw" 102 ⟨"FixityTreesModel", "operand", "(J)I"⟩ ∈ fx_g := fx_in 1128 (by decide +kernel) (by decide +kernel)
theorem lq_103 : Cond.methodLink "FixityTreesLaw" 103 ⟨"FixityTreesLaw", "operator", "(LFixityTrees;I[J)I"⟩ ∈ fx_g := fx_in 495 (by decide +kernel) (by decide +kernel)
theorem lq_105 : Cond.methodLink "FixityTreesLaw" 105 ⟨"FixityTreesModel", "operator", "(I)I"⟩ ∈ fx_g := fx_in 1144 (by decide +kernel) (by decide +kernel)
theorem lq_106 : Cond.methodLink "FixityTreesLaw" 106 ⟨"FixityTreesLaw", "open", "(LFixityTrees;[J)I"⟩ ∈ fx_g := fx_in 511 (by decide +kernel) (by decide +kernel)
theorem lq_109 : Cond.methodLink "FixityTreesLaw" 109 ⟨"FixityTreesModel", "open", "()I"⟩ ∈ fx_g := fx_in 1148 (by decide +kernel) (by decide +kernel)
theorem lq_110 : Cond.methodLink "FixityTreesLaw" 110 ⟨"FixityTreesLaw", "close", "(LFixityTrees;[J)I"⟩ ∈ fx_g := fx_in 523 (by decide +kernel) (by decide +kernel)
theorem lq_112 : Cond.methodLink "FixityTreesLaw" 112 ⟨"FixityTreesModel", "close", "()I"⟩ ∈ fx_g := fx_in 1152 (by decide +kernel) (by decide +kernel)
theorem lq_113 : Cond.methodLink "FixityTreesLaw" 113 ⟨"FixityTreesLaw", "resolve", "(LFixityTrees;I[J)I"⟩ ∈ fx_g := fx_in 539 (by decide +kernel) (by decide +kernel)
theorem lq_115 : Cond.methodLink "FixityTreesLaw" 115 ⟨"FixityTreesModel", "resolve", "(I)I"⟩ ∈ fx_g := fx_in 1160 (by decide +kernel) (by decide +kernel)
theorem lq_116 : Cond.methodLink "FixityTreesLaw" 116 ⟨"FixityTreesLaw", "clash", "(LFixityTrees;I[J)I"⟩ ∈ fx_g := fx_in 728 (by decide +kernel) (by decide +kernel)
theorem lq_118 : Cond.methodLink "FixityTreesLaw" 118 ⟨"FixityTreesModel", "clash", "(I)I"⟩ ∈ fx_g := fx_in 1216 (by decide +kernel) (by decide +kernel)
theorem lq_119 : Cond.methodLink "FixityTreesLaw" 119 ⟨"FixityTreesLaw", "node", "(LFixityTrees;II[J)I"⟩ ∈ fx_g := fx_in 735 (by decide +kernel) (by decide +kernel)
theorem lq_122 : Cond.methodLink "FixityTreesLaw" 122 ⟨"FixityTreesModel", "node", "(II)I"⟩ ∈ fx_g := fx_in 1220 (by decide +kernel) (by decide +kernel)
theorem lq_123 : Cond.methodLink "FixityTreesLaw" 123 ⟨"FixityTreesLaw", "number", "(LFixityTrees;I[J)I"⟩ ∈ fx_g := fx_in 765 (by decide +kernel) (by decide +kernel)
theorem lq_125 : Cond.methodLink "FixityTreesLaw" 125 ⟨"FixityTreesModel", "number", "(I)J"⟩ ∈ fx_g := fx_in 1224 (by decide +kernel) (by decide +kernel)
theorem lq_126 : Cond.methodLink "FixityTreesLaw" 126 ⟨"FixityTreesLaw", "write", "(LFixityTrees;I[J)I"⟩ ∈ fx_g := fx_in 777 (by decide +kernel) (by decide +kernel)
theorem lq_128 : Cond.methodLink "FixityTreesLaw" 128 ⟨"FixityTreesModel", "write", "(I)I"⟩ ∈ fx_g := fx_in 1228 (by decide +kernel) (by decide +kernel)
theorem lq_129 : Cond.methodLink "FixityTreesLaw" 129 ⟨"FixityTreesLaw", "written", "(LFixityTrees;II[J)I"⟩ ∈ fx_g := fx_in 861 (by decide +kernel) (by decide +kernel)
theorem lq_131 : Cond.methodLink "FixityTreesLaw" 131 ⟨"FixityTreesModel", "written", "(II)I"⟩ ∈ fx_g := fx_in 1252 (by decide +kernel) (by decide +kernel)
theorem lq_132 : Cond.methodLink "FixityTreesLaw" 132 ⟨"FixityTreesLaw", "take", "(LFixityTrees;[J)I"⟩ ∈ fx_g := fx_in 879 (by decide +kernel) (by decide +kernel)
theorem lq_134 : Cond.methodLink "FixityTreesLaw" 134 ⟨"FixityTreesModel", "take", "()I"⟩ ∈ fx_g := fx_in 1256 (by decide +kernel) (by decide +kernel)
theorem lq_135 : Cond.methodLink "FixityTreesLaw" 135 ⟨"FixityTreesLaw", "same", "(LFixityTrees;I[J)I"⟩ ∈ fx_g := fx_in 896 (by decide +kernel) (by decide +kernel)
theorem lq_137 : Cond.methodLink "FixityTreesLaw" 137 ⟨"FixityTreesModel", "same", "(I)Z"⟩ ∈ fx_g := fx_in 1260 (by decide +kernel) (by decide +kernel)
theorem lq_138 : Cond.methodLink "FixityTreesLaw" 138 ⟨"FixityTreesLaw", "told", "(LFixityTrees;I[J)I"⟩ ∈ fx_g := fx_in 911 (by decide +kernel) (by decide +kernel)
theorem lq_140 : Cond.methodLink "FixityTreesLaw" 140 ⟨"FixityTreesModel", "told", "(I)I"⟩ ∈ fx_g := fx_in 1264 (by decide +kernel) (by decide +kernel)
/-- what holds all through the law -/
def lw_Cx (p : Program) (l : Launch) (s : State) (m : MethodId) (meth : Method) (c : Code) (b L : Nat) (xs : Nat → Int32) (D : va_G) (cA : Nat → ClassId) (A : Nat → Prop) : Prop := fx_X p m c code 8 s #[Value.ref b] "FixityTreesLaw" D fx_cl (fx_tys cA) fx_g lw_G A ∧ fx_HW A s s.heap ∧ va_X b L xs s s.heap ∧ b < s.heap.size ∧ ¬ A b ∧ l.stackTraces = false ∧ L ≤ 2560
theorem lw_cmp (x : Int64) : lg_cmp x x = 0 := by simp [lg_cmp]
/-- what the pure part owes: every operation, from related states -/
def lw_OK (Rel : fx_S → fx_S → Prop) : Prop := ∀ σ τ : fx_S, Rel σ τ → (∀ (a0 : Int32), lw_op Rel [(0, 1), (1, 2)] (F_FixityTrees_scope a0) (F_Md_scope a0) (fun r b => r = b) σ τ) ∧ (∀ (a0 : Int32) (a1 : Int32) (a2 : Int32) (a3 : Int32), lw_op Rel [(0, 1), (1, 2), (2, 3)] (F_FixityTrees_fixity a0 a1 a2 a3) (F_Md_fixity a0 a1 a2 a3) (fun _ _ => True) σ τ) ∧ (∀ (a0 : Int32) (a1 : Int32) (a2 : Int32), lw_op Rel [(0, 1), (2, 2)] (F_FixityTrees_looked a0 a1 a2) (F_Md_looked a0 a1 a2) (fun r b => r = b) σ τ) ∧ (∀ a0 : Int32, a0 = 0 ∨ a0 = 1 → ∃ σ' τ', F_FixityTrees_begin a0 σ = some ((), σ') ∧ F_Md_begin a0 τ = some ((), τ') ∧ Rel σ' τ') ∧ (∀ (a0 : Int64), lw_op Rel [(1, 1)] (F_FixityTrees_operand a0) (F_Md_operand a0) (fun r b => r = b) σ τ) ∧ (∀ (a0 : Int32), lw_op Rel [(0, 1), (1, 2)] (F_FixityTrees_operator a0) (F_Md_operator a0) (fun r b => r = b) σ τ) ∧ (lw_op Rel [(1, 1)] (F_FixityTrees_open) (F_Md_open) (fun r b => r = b) σ τ) ∧ (lw_op Rel [(1, 1)] (F_FixityTrees_close) (F_Md_close) (fun r b => r = b) σ τ) ∧ (∀ (a0 : Int32), lw_op Rel [(0, 1), (1, 2)] (F_FixityTrees_resolve a0) (F_Md_resolve a0) (fun r b => r = b) σ τ) ∧ (∀ (a0 : Int32), lw_op Rel [(2, 1)] (F_FixityTrees_clash a0) (F_Md_clash a0) (fun r b => r = b) σ τ) ∧ (∀ (a0 : Int32) (a1 : Int32), lw_op Rel [(0, 1), (2, 2)] (F_FixityTrees_node a0 a1) (F_Md_node a0 a1) (fun r b => r = b) σ τ) ∧ (∀ (a0 : Int32), lw_op Rel [(0, 1)] (F_FixityTrees_number a0) (F_Md_number a0) (fun r b => r = b) σ τ) ∧ (∀ (a0 : Int32), lw_op Rel [(0, 1), (1, 2)] (F_FixityTrees_write a0) (F_Md_write a0) (fun r b => r = b) σ τ) ∧ (∀ (a0 : Int32) (a1 : Int32), lw_op Rel [(0, 1), (2, 2)] (F_FixityTrees_written a0 a1) (F_Md_written a0 a1) (fun r b => r = b) σ τ) ∧ (lw_op Rel [(1, 1)] (F_FixityTrees_take) (F_Md_take) (fun r b => r = b) σ τ) ∧ (∀ (a0 : Int32), lw_op Rel [(0, 1), (1, 2)] (F_FixityTrees_same a0) (F_Md_same a0) (fun r b => (r = 0 ↔ b = 0)) σ τ) ∧ (∀ (a0 : Int32), lw_op Rel [(2, 1)] (F_FixityTrees_told a0) (F_Md_told a0) (fun r b => r = b) σ τ)
