theorem dLw_23 : decode code 23 = .ok (.iload 4, 2) := by decide +kernel
theorem dLw_25 : decode code 25 = .ok (.aload_n 0, 1) := by decide +kernel
theorem dLw_26 : decode code 26 = .ok (.arraylength, 1) := by decide +kernel
theorem dLw_27 : decode code 27 = .ok (.bipush 11, 2) := by decide +kernel
theorem dLw_29 : decode code 29 = .ok (.isub, 1) := by decide +kernel
theorem dLw_30 : decode code 30 = .ok (.if_icmp .gt 1092, 3) := by decide +kernel
theorem dLw_33 : decode code 33 = .ok (.aload_n 0, 1) := by decide +kernel
theorem dLw_34 : decode code 34 = .ok (.iload 4, 2) := by decide +kernel
theorem dLw_36 : decode code 36 = .ok (.iaload, 1) := by decide +kernel
theorem dLw_37 : decode code 37 = .ok (.bipush 31, 2) := by decide +kernel
theorem dLw_39 : decode code 39 = .ok (.iand, 1) := by decide +kernel
theorem dLw_40 : decode code 40 = .ok (.tableswitch 1076 0 21 #[104, 204, 220, 233, 273, 499, 527, 611, 639, 655, 671, 699, 724, 740, 768, 820, 872, 888, 928, 968, 1040, 1065], 104) := by decide +kernel
theorem dLw_144 : decode code 144 = .ok (.aload_n 1, 1) := by decide +kernel
theorem dLw_145 : decode code 145 = .ok (.aload_n 0, 1) := by decide +kernel
theorem dLw_146 : decode code 146 = .ok (.iload 4, 2) := by decide +kernel
theorem dLw_148 : decode code 148 = .ok (.iconst 1, 1) := by decide +kernel
theorem dLw_149 : decode code 149 = .ok (.iadd, 1) := by decide +kernel
theorem dLw_150 : decode code 150 = .ok (.iaload, 1) := by decide +kernel
theorem dLw_151 : decode code 151 = .ok (.i2l, 1) := by decide +kernel
theorem dLw_152 : decode code 152 = .ok (.bipush 32, 2) := by decide +kernel
theorem dLw_154 : decode code 154 = .ok (.lshl, 1) := by decide +kernel
theorem dLw_155 : decode code 155 = .ok (.aload_n 0, 1) := by decide +kernel
theorem dLw_156 : decode code 156 = .ok (.iload 4, 2) := by decide +kernel
theorem dLw_158 : decode code 158 = .ok (.iconst 2, 1) := by decide +kernel
theorem dLw_159 : decode code 159 = .ok (.iadd, 1) := by decide +kernel
theorem dLw_160 : decode code 160 = .ok (.iaload, 1) := by decide +kernel
theorem dLw_161 : decode code 161 = .ok (.i2l, 1) := by decide +kernel
theorem dLw_162 : decode code 162 = .ok (.ldc2_w 90, 3) := by decide +kernel
theorem dLw_165 : decode code 165 = .ok (.land, 1) := by decide +kernel
theorem dLw_166 : decode code 166 = .ok (.lor, 1) := by decide +kernel
theorem dLw_167 : decode code 167 = .ok (.aload_n 0, 1) := by decide +kernel
theorem dLw_168 : decode code 168 = .ok (.iload 4, 2) := by decide +kernel
theorem dLw_170 : decode code 170 = .ok (.iconst 3, 1) := by decide +kernel
theorem dLw_171 : decode code 171 = .ok (.iadd, 1) := by decide +kernel
theorem dLw_172 : decode code 172 = .ok (.iaload, 1) := by decide +kernel
theorem dLw_173 : decode code 173 = .ok (.aload_n 3, 1) := by decide +kernel
theorem dLw_174 : decode code 174 = .ok (.invokestatic 92, 3) := by decide +kernel
theorem dLw_177 : decode code 177 = .ok (.istore 5, 2) := by decide +kernel
theorem dLw_179 : decode code 179 = .ok (.aload_n 2, 1) := by decide +kernel
theorem dLw_180 : decode code 180 = .ok (.aload_n 0, 1) := by decide +kernel
theorem dLw_181 : decode code 181 = .ok (.iload 4, 2) := by decide +kernel
theorem dLw_183 : decode code 183 = .ok (.iconst 1, 1) := by decide +kernel
theorem dLw_184 : decode code 184 = .ok (.iadd, 1) := by decide +kernel
theorem dLw_185 : decode code 185 = .ok (.iaload, 1) := by decide +kernel
theorem dLw_186 : decode code 186 = .ok (.i2l, 1) := by decide +kernel
theorem dLw_187 : decode code 187 = .ok (.bipush 32, 2) := by decide +kernel
theorem dLw_189 : decode code 189 = .ok (.lshl, 1) := by decide +kernel
theorem dLw_190 : decode code 190 = .ok (.aload_n 0, 1) := by decide +kernel
theorem dLw_191 : decode code 191 = .ok (.iload 4, 2) := by decide +kernel
theorem dLw_193 : decode code 193 = .ok (.iconst 2, 1) := by decide +kernel
theorem dLw_194 : decode code 194 = .ok (.iadd, 1) := by decide +kernel
theorem dLw_195 : decode code 195 = .ok (.iaload, 1) := by decide +kernel
theorem dLw_196 : decode code 196 = .ok (.i2l, 1) := by decide +kernel
theorem dLw_197 : decode code 197 = .ok (.ldc2_w 90, 3) := by decide +kernel
theorem dLw_200 : decode code 200 = .ok (.land, 1) := by decide +kernel
theorem dLw_201 : decode code 201 = .ok (.lor, 1) := by decide +kernel
theorem dLw_202 : decode code 202 = .ok (.aload_n 0, 1) := by decide +kernel
theorem dLw_203 : decode code 203 = .ok (.iload 4, 2) := by decide +kernel
theorem dLw_205 : decode code 205 = .ok (.iconst 3, 1) := by decide +kernel
theorem dLw_206 : decode code 206 = .ok (.iadd, 1) := by decide +kernel
theorem dLw_207 : decode code 207 = .ok (.iaload, 1) := by decide +kernel
theorem dLw_208 : decode code 208 = .ok (.invokevirtual 97, 3) := by decide +kernel
theorem dLw_211 : decode code 211 = .ok (.istore 6, 2) := by decide +kernel
theorem dLw_213 : decode code 213 = .ok (.aload_n 2, 1) := by decide +kernel
theorem dLw_214 : decode code 214 = .ok (.invokevirtual 98, 3) := by decide +kernel
theorem dLw_217 : decode code 217 = .ok (.iload 5, 2) := by decide +kernel
theorem dLw_219 : decode code 219 = .ok (.if_icmp .eq 5, 3) := by decide +kernel
theorem dLw_224 : decode code 224 = .ok (.iload 5, 2) := by decide +kernel
theorem dLw_226 : decode code 226 = .ok (.ifCond .ne 15, 3) := by decide +kernel
theorem dLw_229 : decode code 229 = .ok (.aload_n 3, 1) := by decide +kernel
theorem dLw_230 : decode code 230 = .ok (.iconst 0, 1) := by decide +kernel
theorem dLw_231 : decode code 231 = .ok (.laload, 1) := by decide +kernel
theorem dLw_232 : decode code 232 = .ok (.iload 6, 2) := by decide +kernel
theorem dLw_234 : decode code 234 = .ok (.i2l, 1) := by decide +kernel
theorem dLw_235 : decode code 235 = .ok (.lcmp, 1) := by decide +kernel
theorem dLw_236 : decode code 236 = .ok (.ifCond .eq 5, 3) := by decide +kernel
theorem dLw_241 : decode code 241 = .ok (.goto 875, 3) := by decide +kernel
theorem dLw_244 : decode code 244 = .ok (.aload_n 1, 1) := by decide +kernel
theorem dLw_245 : decode code 245 = .ok (.aload_n 3, 1) := by decide +kernel
theorem dLw_246 : decode code 246 = .ok (.invokestatic 101, 3) := by decide +kernel
theorem dLw_249 : decode code 249 = .ok (.istore 5, 2) := by decide +kernel
theorem dLw_251 : decode code 251 = .ok (.aload_n 2, 1) := by decide +kernel
theorem dLw_252 : decode code 252 = .ok (.invokevirtual 104, 3) := by decide +kernel
theorem dLw_255 : decode code 255 = .ok (.istore 6, 2) := by decide +kernel
theorem dLw_257 : decode code 257 = .ok (.goto 859, 3) := by decide +kernel
theorem dLw_260 : decode code 260 = .ok (.aload_n 1, 1) := by decide +kernel
theorem dLw_261 : decode code 261 = .ok (.invokevirtual 105, 3) := by decide +kernel
theorem dLw_264 : decode code 264 = .ok (.pop, 1) := by decide +kernel
theorem dLw_265 : decode code 265 = .ok (.aload_n 2, 1) := by decide +kernel
theorem dLw_266 : decode code 266 = .ok (.invokevirtual 108, 3) := by decide +kernel
theorem dLw_269 : decode code 269 = .ok (.pop, 1) := by decide +kernel
theorem dLw_270 : decode code 270 = .ok (.goto 846, 3) := by decide +kernel
theorem dLw_273 : decode code 273 = .ok (.aload_n 1, 1) := by decide +kernel
theorem dLw_274 : decode code 274 = .ok (.aload_n 0, 1) := by decide +kernel
theorem dLw_275 : decode code 275 = .ok (.iload 4, 2) := by decide +kernel
theorem dLw_277 : decode code 277 = .ok (.iconst 1, 1) := by decide +kernel
theorem dLw_278 : decode code 278 = .ok (.iadd, 1) := by decide +kernel
theorem dLw_279 : decode code 279 = .ok (.iaload, 1) := by decide +kernel
theorem dLw_280 : decode code 280 = .ok (.aload_n 0, 1) := by decide +kernel
theorem dLw_281 : decode code 281 = .ok (.iload 4, 2) := by decide +kernel
theorem dLw_283 : decode code 283 = .ok (.iconst 2, 1) := by decide +kernel
theorem dLw_284 : decode code 284 = .ok (.iadd, 1) := by decide +kernel
theorem dLw_285 : decode code 285 = .ok (.iaload, 1) := by decide +kernel
theorem dLw_286 : decode code 286 = .ok (.aload_n 3, 1) := by decide +kernel
theorem dLw_287 : decode code 287 = .ok (.invokestatic 109, 3) := by decide +kernel
theorem dLw_290 : decode code 290 = .ok (.istore 5, 2) := by decide +kernel
theorem dLw_292 : decode code 292 = .ok (.aload_n 2, 1) := by decide +kernel
theorem dLw_293 : decode code 293 = .ok (.aload_n 0, 1) := by decide +kernel
theorem dLw_294 : decode code 294 = .ok (.iload 4, 2) := by decide +kernel
theorem dLw_296 : decode code 296 = .ok (.iconst 1, 1) := by decide +kernel
theorem dLw_297 : decode code 297 = .ok (.iadd, 1) := by decide +kernel
theorem dLw_298 : decode code 298 = .ok (.iaload, 1) := by decide +kernel
theorem dLw_299 : decode code 299 = .ok (.aload_n 0, 1) := by decide +kernel
theorem dLw_300 : decode code 300 = .ok (.iload 4, 2) := by decide +kernel
theorem dLw_302 : decode code 302 = .ok (.iconst 2, 1) := by decide +kernel
theorem dLw_303 : decode code 303 = .ok (.iadd, 1) := by decide +kernel
theorem dLw_304 : decode code 304 = .ok (.iaload, 1) := by decide +kernel
theorem dLw_305 : decode code 305 = .ok (.invokevirtual 112, 3) := by decide +kernel
theorem dLw_308 : decode code 308 = .ok (.lstore 6, 2) := by decide +kernel
theorem dLw_310 : decode code 310 = .ok (.goto 806, 3) := by decide +kernel
theorem dLw_313 : decode code 313 = .ok (.aload_n 1, 1) := by decide +kernel
theorem dLw_314 : decode code 314 = .ok (.aload_n 0, 1) := by decide +kernel
theorem dLw_315 : decode code 315 = .ok (.iload 4, 2) := by decide +kernel
theorem dLw_317 : decode code 317 = .ok (.iconst 1, 1) := by decide +kernel
theorem dLw_318 : decode code 318 = .ok (.iadd, 1) := by decide +kernel
theorem dLw_319 : decode code 319 = .ok (.iaload, 1) := by decide +kernel
theorem dLw_320 : decode code 320 = .ok (.aload_n 0, 1) := by decide +kernel
theorem dLw_321 : decode code 321 = .ok (.iload 4, 2) := by decide +kernel
theorem dLw_323 : decode code 323 = .ok (.iconst 2, 1) := by decide +kernel
theorem dLw_324 : decode code 324 = .ok (.iadd, 1) := by decide +kernel
theorem dLw_325 : decode code 325 = .ok (.iaload, 1) := by decide +kernel
theorem dLw_326 : decode code 326 = .ok (.aload_n 0, 1) := by decide +kernel
theorem dLw_327 : decode code 327 = .ok (.iload 4, 2) := by decide +kernel
theorem dLw_329 : decode code 329 = .ok (.iconst 3, 1) := by decide +kernel
theorem dLw_330 : decode code 330 = .ok (.iadd, 1) := by decide +kernel
theorem dLw_331 : decode code 331 = .ok (.iaload, 1) := by decide +kernel
theorem dLw_332 : decode code 332 = .ok (.i2l, 1) := by decide +kernel
theorem dLw_333 : decode code 333 = .ok (.bipush 32, 2) := by decide +kernel
theorem dLw_335 : decode code 335 = .ok (.lshl, 1) := by decide +kernel
theorem dLw_336 : decode code 336 = .ok (.aload_n 0, 1) := by decide +kernel
theorem dLw_337 : decode code 337 = .ok (.iload 4, 2) := by decide +kernel
theorem dLw_339 : decode code 339 = .ok (.iconst 4, 1) := by decide +kernel
theorem dLw_340 : decode code 340 = .ok (.iadd, 1) := by decide +kernel
theorem dLw_341 : decode code 341 = .ok (.iaload, 1) := by decide +kernel
theorem dLw_342 : decode code 342 = .ok (.i2l, 1) := by decide +kernel
theorem dLw_343 : decode code 343 = .ok (.ldc2_w 90, 3) := by decide +kernel
theorem dLw_346 : decode code 346 = .ok (.land, 1) := by decide +kernel
theorem dLw_347 : decode code 347 = .ok (.lor, 1) := by decide +kernel
theorem dLw_348 : decode code 348 = .ok (.aload_n 0, 1) := by decide +kernel
theorem dLw_349 : decode code 349 = .ok (.iload 4, 2) := by decide +kernel
theorem dLw_351 : decode code 351 = .ok (.iconst 5, 1) := by decide +kernel
theorem dLw_352 : decode code 352 = .ok (.iadd, 1) := by decide +kernel
theorem dLw_353 : decode code 353 = .ok (.iaload, 1) := by decide +kernel
theorem dLw_354 : decode code 354 = .ok (.i2l, 1) := by decide +kernel
theorem dLw_355 : decode code 355 = .ok (.bipush 32, 2) := by decide +kernel
theorem dLw_357 : decode code 357 = .ok (.lshl, 1) := by decide +kernel
theorem dLw_358 : decode code 358 = .ok (.aload_n 0, 1) := by decide +kernel
theorem dLw_359 : decode code 359 = .ok (.iload 4, 2) := by decide +kernel
theorem dLw_361 : decode code 361 = .ok (.bipush 6, 2) := by decide +kernel
theorem dLw_363 : decode code 363 = .ok (.iadd, 1) := by decide +kernel
theorem dLw_364 : decode code 364 = .ok (.iaload, 1) := by decide +kernel
theorem dLw_365 : decode code 365 = .ok (.i2l, 1) := by decide +kernel
theorem dLw_366 : decode code 366 = .ok (.ldc2_w 90, 3) := by decide +kernel
theorem dLw_369 : decode code 369 = .ok (.land, 1) := by decide +kernel
theorem dLw_370 : decode code 370 = .ok (.lor, 1) := by decide +kernel
theorem dLw_371 : decode code 371 = .ok (.aload_n 0, 1) := by decide +kernel
theorem dLw_372 : decode code 372 = .ok (.iload 4, 2) := by decide +kernel
theorem dLw_374 : decode code 374 = .ok (.bipush 7, 2) := by decide +kernel
theorem dLw_376 : decode code 376 = .ok (.iadd, 1) := by decide +kernel
theorem dLw_377 : decode code 377 = .ok (.iaload, 1) := by decide +kernel
theorem dLw_378 : decode code 378 = .ok (.i2l, 1) := by decide +kernel
theorem dLw_379 : decode code 379 = .ok (.bipush 32, 2) := by decide +kernel
theorem dLw_381 : decode code 381 = .ok (.lshl, 1) := by decide +kernel
theorem dLw_382 : decode code 382 = .ok (.aload_n 0, 1) := by decide +kernel
theorem dLw_383 : decode code 383 = .ok (.iload 4, 2) := by decide +kernel
theorem dLw_385 : decode code 385 = .ok (.bipush 8, 2) := by decide +kernel
theorem dLw_387 : decode code 387 = .ok (.iadd, 1) := by decide +kernel
theorem dLw_388 : decode code 388 = .ok (.iaload, 1) := by decide +kernel
theorem dLw_389 : decode code 389 = .ok (.i2l, 1) := by decide +kernel
theorem dLw_390 : decode code 390 = .ok (.ldc2_w 90, 3) := by decide +kernel
theorem dLw_393 : decode code 393 = .ok (.land, 1) := by decide +kernel
theorem dLw_394 : decode code 394 = .ok (.lor, 1) := by decide +kernel
theorem dLw_395 : decode code 395 = .ok (.aload_n 0, 1) := by decide +kernel
theorem dLw_396 : decode code 396 = .ok (.iload 4, 2) := by decide +kernel
theorem dLw_398 : decode code 398 = .ok (.bipush 9, 2) := by decide +kernel
theorem dLw_400 : decode code 400 = .ok (.iadd, 1) := by decide +kernel
theorem dLw_401 : decode code 401 = .ok (.iaload, 1) := by decide +kernel
theorem dLw_402 : decode code 402 = .ok (.i2l, 1) := by decide +kernel
theorem dLw_403 : decode code 403 = .ok (.bipush 32, 2) := by decide +kernel
theorem dLw_405 : decode code 405 = .ok (.lshl, 1) := by decide +kernel
theorem dLw_406 : decode code 406 = .ok (.aload_n 0, 1) := by decide +kernel
theorem dLw_407 : decode code 407 = .ok (.iload 4, 2) := by decide +kernel
theorem dLw_409 : decode code 409 = .ok (.bipush 10, 2) := by decide +kernel
theorem dLw_411 : decode code 411 = .ok (.iadd, 1) := by decide +kernel
theorem dLw_412 : decode code 412 = .ok (.iaload, 1) := by decide +kernel
theorem dLw_413 : decode code 413 = .ok (.i2l, 1) := by decide +kernel
theorem dLw_414 : decode code 414 = .ok (.ldc2_w 90, 3) := by decide +kernel
theorem dLw_417 : decode code 417 = .ok (.land, 1) := by decide +kernel
theorem dLw_418 : decode code 418 = .ok (.lor, 1) := by decide +kernel
theorem dLw_419 : decode code 419 = .ok (.aload_n 3, 1) := by decide +kernel
theorem dLw_420 : decode code 420 = .ok (.invokestatic 113, 3) := by decide +kernel
theorem dLw_423 : decode code 423 = .ok (.istore 5, 2) := by decide +kernel
theorem dLw_425 : decode code 425 = .ok (.aload_n 2, 1) := by decide +kernel
theorem dLw_426 : decode code 426 = .ok (.aload_n 0, 1) := by decide +kernel
theorem dLw_427 : decode code 427 = .ok (.iload 4, 2) := by decide +kernel
theorem dLw_429 : decode code 429 = .ok (.iconst 1, 1) := by decide +kernel
theorem dLw_430 : decode code 430 = .ok (.iadd, 1) := by decide +kernel
theorem dLw_431 : decode code 431 = .ok (.iaload, 1) := by decide +kernel
theorem dLw_432 : decode code 432 = .ok (.aload_n 0, 1) := by decide +kernel
theorem dLw_433 : decode code 433 = .ok (.iload 4, 2) := by decide +kernel
theorem dLw_435 : decode code 435 = .ok (.iconst 2, 1) := by decide +kernel
theorem dLw_436 : decode code 436 = .ok (.iadd, 1) := by decide +kernel
theorem dLw_437 : decode code 437 = .ok (.iaload, 1) := by decide +kernel
theorem dLw_438 : decode code 438 = .ok (.aload_n 0, 1) := by decide +kernel
theorem dLw_439 : decode code 439 = .ok (.iload 4, 2) := by decide +kernel
theorem dLw_441 : decode code 441 = .ok (.iconst 3, 1) := by decide +kernel
theorem dLw_442 : decode code 442 = .ok (.iadd, 1) := by decide +kernel
theorem dLw_443 : decode code 443 = .ok (.iaload, 1) := by decide +kernel
theorem dLw_444 : decode code 444 = .ok (.i2l, 1) := by decide +kernel
theorem dLw_445 : decode code 445 = .ok (.bipush 32, 2) := by decide +kernel
theorem dLw_447 : decode code 447 = .ok (.lshl, 1) := by decide +kernel
theorem dLw_448 : decode code 448 = .ok (.aload_n 0, 1) := by decide +kernel
theorem dLw_449 : decode code 449 = .ok (.iload 4, 2) := by decide +kernel
theorem dLw_451 : decode code 451 = .ok (.iconst 4, 1) := by decide +kernel
theorem dLw_452 : decode code 452 = .ok (.iadd, 1) := by decide +kernel
theorem dLw_453 : decode code 453 = .ok (.iaload, 1) := by decide +kernel
theorem dLw_454 : decode code 454 = .ok (.i2l, 1) := by decide +kernel
theorem dLw_455 : decode code 455 = .ok (.ldc2_w 90, 3) := by decide +kernel
theorem dLw_458 : decode code 458 = .ok (.land, 1) := by decide +kernel
theorem dLw_459 : decode code 459 = .ok (.lor, 1) := by decide +kernel
theorem dLw_460 : decode code 460 = .ok (.aload_n 0, 1) := by decide +kernel
theorem dLw_461 : decode code 461 = .ok (.iload 4, 2) := by decide +kernel
theorem dLw_463 : decode code 463 = .ok (.iconst 5, 1) := by decide +kernel
theorem dLw_464 : decode code 464 = .ok (.iadd, 1) := by decide +kernel
theorem dLw_465 : decode code 465 = .ok (.iaload, 1) := by decide +kernel
theorem dLw_466 : decode code 466 = .ok (.i2l, 1) := by decide +kernel
theorem dLw_467 : decode code 467 = .ok (.bipush 32, 2) := by decide +kernel
theorem dLw_469 : decode code 469 = .ok (.lshl, 1) := by decide +kernel
theorem dLw_470 : decode code 470 = .ok (.aload_n 0, 1) := by decide +kernel
theorem dLw_471 : decode code 471 = .ok (.iload 4, 2) := by decide +kernel
theorem dLw_473 : decode code 473 = .ok (.bipush 6, 2) := by decide +kernel
theorem dLw_475 : decode code 475 = .ok (.iadd, 1) := by decide +kernel
theorem dLw_476 : decode code 476 = .ok (.iaload, 1) := by decide +kernel
theorem dLw_477 : decode code 477 = .ok (.i2l, 1) := by decide +kernel
theorem dLw_478 : decode code 478 = .ok (.ldc2_w 90, 3) := by decide +kernel
theorem dLw_481 : decode code 481 = .ok (.land, 1) := by decide +kernel
theorem dLw_482 : decode code 482 = .ok (.lor, 1) := by decide +kernel
theorem dLw_483 : decode code 483 = .ok (.aload_n 0, 1) := by decide +kernel
theorem dLw_484 : decode code 484 = .ok (.iload 4, 2) := by decide +kernel
theorem dLw_486 : decode code 486 = .ok (.bipush 7, 2) := by decide +kernel
theorem dLw_488 : decode code 488 = .ok (.iadd, 1) := by decide +kernel
theorem dLw_489 : decode code 489 = .ok (.iaload, 1) := by decide +kernel
theorem dLw_490 : decode code 490 = .ok (.i2l, 1) := by decide +kernel
theorem dLw_491 : decode code 491 = .ok (.bipush 32, 2) := by decide +kernel
theorem dLw_493 : decode code 493 = .ok (.lshl, 1) := by decide +kernel
theorem dLw_494 : decode code 494 = .ok (.aload_n 0, 1) := by decide +kernel
theorem dLw_495 : decode code 495 = .ok (.iload 4, 2) := by decide +kernel
theorem dLw_497 : decode code 497 = .ok (.bipush 8, 2) := by decide +kernel
theorem dLw_499 : decode code 499 = .ok (.iadd, 1) := by decide +kernel
theorem dLw_500 : decode code 500 = .ok (.iaload, 1) := by decide +kernel
theorem dLw_501 : decode code 501 = .ok (.i2l, 1) := by decide +kernel
theorem dLw_502 : decode code 502 = .ok (.ldc2_w 90, 3) := by decide +kernel
theorem dLw_505 : decode code 505 = .ok (.land, 1) := by decide +kernel
theorem dLw_506 : decode code 506 = .ok (.lor, 1) := by decide +kernel
theorem dLw_507 : decode code 507 = .ok (.aload_n 0, 1) := by decide +kernel
theorem dLw_508 : decode code 508 = .ok (.iload 4, 2) := by decide +kernel
theorem dLw_510 : decode code 510 = .ok (.bipush 9, 2) := by decide +kernel
theorem dLw_512 : decode code 512 = .ok (.iadd, 1) := by decide +kernel
theorem dLw_513 : decode code 513 = .ok (.iaload, 1) := by decide +kernel
theorem dLw_514 : decode code 514 = .ok (.i2l, 1) := by decide +kernel
theorem dLw_515 : decode code 515 = .ok (.bipush 32, 2) := by decide +kernel
theorem dLw_517 : decode code 517 = .ok (.lshl, 1) := by decide +kernel
theorem dLw_518 : decode code 518 = .ok (.aload_n 0, 1) := by decide +kernel
theorem dLw_519 : decode code 519 = .ok (.iload 4, 2) := by decide +kernel
theorem dLw_521 : decode code 521 = .ok (.bipush 10, 2) := by decide +kernel
theorem dLw_523 : decode code 523 = .ok (.iadd, 1) := by decide +kernel
theorem dLw_524 : decode code 524 = .ok (.iaload, 1) := by decide +kernel
theorem dLw_525 : decode code 525 = .ok (.i2l, 1) := by decide +kernel
theorem dLw_526 : decode code 526 = .ok (.ldc2_w 90, 3) := by decide +kernel
theorem dLw_529 : decode code 529 = .ok (.land, 1) := by decide +kernel
theorem dLw_530 : decode code 530 = .ok (.lor, 1) := by decide +kernel
theorem dLw_531 : decode code 531 = .ok (.invokevirtual 116, 3) := by decide +kernel
theorem dLw_534 : decode code 534 = .ok (.istore 6, 2) := by decide +kernel
theorem dLw_536 : decode code 536 = .ok (.goto 580, 3) := by decide +kernel
theorem dLw_539 : decode code 539 = .ok (.aload_n 1, 1) := by decide +kernel
theorem dLw_540 : decode code 540 = .ok (.aload_n 0, 1) := by decide +kernel
theorem dLw_541 : decode code 541 = .ok (.iload 4, 2) := by decide +kernel
theorem dLw_543 : decode code 543 = .ok (.iconst 1, 1) := by decide +kernel
theorem dLw_544 : decode code 544 = .ok (.iadd, 1) := by decide +kernel
theorem dLw_545 : decode code 545 = .ok (.iaload, 1) := by decide +kernel
theorem dLw_546 : decode code 546 = .ok (.aload_n 3, 1) := by decide +kernel
theorem dLw_547 : decode code 547 = .ok (.invokestatic 117, 3) := by decide +kernel
theorem dLw_550 : decode code 550 = .ok (.istore 5, 2) := by decide +kernel
theorem dLw_552 : decode code 552 = .ok (.aload_n 2, 1) := by decide +kernel
theorem dLw_553 : decode code 553 = .ok (.aload_n 0, 1) := by decide +kernel
theorem dLw_554 : decode code 554 = .ok (.iload 4, 2) := by decide +kernel
theorem dLw_556 : decode code 556 = .ok (.iconst 1, 1) := by decide +kernel
theorem dLw_557 : decode code 557 = .ok (.iadd, 1) := by decide +kernel
theorem dLw_558 : decode code 558 = .ok (.iaload, 1) := by decide +kernel
theorem dLw_559 : decode code 559 = .ok (.invokevirtual 120, 3) := by decide +kernel
theorem dLw_562 : decode code 562 = .ok (.istore 6, 2) := by decide +kernel
theorem dLw_564 : decode code 564 = .ok (.goto 552, 3) := by decide +kernel
theorem dLw_567 : decode code 567 = .ok (.aload_n 1, 1) := by decide +kernel
theorem dLw_568 : decode code 568 = .ok (.aload_n 0, 1) := by decide +kernel
theorem dLw_569 : decode code 569 = .ok (.iload 4, 2) := by decide +kernel
theorem dLw_571 : decode code 571 = .ok (.iconst 1, 1) := by decide +kernel
theorem dLw_572 : decode code 572 = .ok (.iadd, 1) := by decide +kernel
theorem dLw_573 : decode code 573 = .ok (.iaload, 1) := by decide +kernel
theorem dLw_574 : decode code 574 = .ok (.aload_n 0, 1) := by decide +kernel
theorem dLw_575 : decode code 575 = .ok (.iload 4, 2) := by decide +kernel
theorem dLw_577 : decode code 577 = .ok (.iconst 2, 1) := by decide +kernel
theorem dLw_578 : decode code 578 = .ok (.iadd, 1) := by decide +kernel
theorem dLw_579 : decode code 579 = .ok (.iaload, 1) := by decide +kernel
theorem dLw_580 : decode code 580 = .ok (.aload_n 0, 1) := by decide +kernel
theorem dLw_581 : decode code 581 = .ok (.iload 4, 2) := by decide +kernel
theorem dLw_583 : decode code 583 = .ok (.iconst 3, 1) := by decide +kernel
theorem dLw_584 : decode code 584 = .ok (.iadd, 1) := by decide +kernel
theorem dLw_585 : decode code 585 = .ok (.iaload, 1) := by decide +kernel
theorem dLw_586 : decode code 586 = .ok (.i2l, 1) := by decide +kernel
theorem dLw_587 : decode code 587 = .ok (.bipush 32, 2) := by decide +kernel
theorem dLw_589 : decode code 589 = .ok (.lshl, 1) := by decide +kernel
theorem dLw_590 : decode code 590 = .ok (.aload_n 0, 1) := by decide +kernel
theorem dLw_591 : decode code 591 = .ok (.iload 4, 2) := by decide +kernel
theorem dLw_593 : decode code 593 = .ok (.iconst 4, 1) := by decide +kernel
theorem dLw_594 : decode code 594 = .ok (.iadd, 1) := by decide +kernel
theorem dLw_595 : decode code 595 = .ok (.iaload, 1) := by decide +kernel
theorem dLw_596 : decode code 596 = .ok (.i2l, 1) := by decide +kernel
theorem dLw_597 : decode code 597 = .ok (.ldc2_w 90, 3) := by decide +kernel
theorem dLw_600 : decode code 600 = .ok (.land, 1) := by decide +kernel
theorem dLw_601 : decode code 601 = .ok (.lor, 1) := by decide +kernel
theorem dLw_602 : decode code 602 = .ok (.aload_n 3, 1) := by decide +kernel
theorem dLw_603 : decode code 603 = .ok (.invokestatic 121, 3) := by decide +kernel
theorem dLw_606 : decode code 606 = .ok (.istore 5, 2) := by decide +kernel
theorem dLw_608 : decode code 608 = .ok (.aload_n 2, 1) := by decide +kernel
theorem dLw_609 : decode code 609 = .ok (.aload_n 0, 1) := by decide +kernel
theorem dLw_610 : decode code 610 = .ok (.iload 4, 2) := by decide +kernel
theorem dLw_612 : decode code 612 = .ok (.iconst 1, 1) := by decide +kernel
theorem dLw_613 : decode code 613 = .ok (.iadd, 1) := by decide +kernel
theorem dLw_614 : decode code 614 = .ok (.iaload, 1) := by decide +kernel
theorem dLw_615 : decode code 615 = .ok (.aload_n 0, 1) := by decide +kernel
theorem dLw_616 : decode code 616 = .ok (.iload 4, 2) := by decide +kernel
theorem dLw_618 : decode code 618 = .ok (.iconst 2, 1) := by decide +kernel
theorem dLw_619 : decode code 619 = .ok (.iadd, 1) := by decide +kernel
theorem dLw_620 : decode code 620 = .ok (.iaload, 1) := by decide +kernel
theorem dLw_621 : decode code 621 = .ok (.aload_n 0, 1) := by decide +kernel
theorem dLw_622 : decode code 622 = .ok (.iload 4, 2) := by decide +kernel
theorem dLw_624 : decode code 624 = .ok (.iconst 3, 1) := by decide +kernel
theorem dLw_625 : decode code 625 = .ok (.iadd, 1) := by decide +kernel
theorem dLw_626 : decode code 626 = .ok (.iaload, 1) := by decide +kernel
theorem dLw_627 : decode code 627 = .ok (.i2l, 1) := by decide +kernel
theorem dLw_628 : decode code 628 = .ok (.bipush 32, 2) := by decide +kernel
theorem dLw_630 : decode code 630 = .ok (.lshl, 1) := by decide +kernel
theorem dLw_631 : decode code 631 = .ok (.aload_n 0, 1) := by decide +kernel
theorem dLw_632 : decode code 632 = .ok (.iload 4, 2) := by decide +kernel
theorem dLw_634 : decode code 634 = .ok (.iconst 4, 1) := by decide +kernel
theorem dLw_635 : decode code 635 = .ok (.iadd, 1) := by decide +kernel
theorem dLw_636 : decode code 636 = .ok (.iaload, 1) := by decide +kernel
theorem dLw_637 : decode code 637 = .ok (.i2l, 1) := by decide +kernel
theorem dLw_638 : decode code 638 = .ok (.ldc2_w 90, 3) := by decide +kernel
theorem dLw_641 : decode code 641 = .ok (.land, 1) := by decide +kernel
theorem dLw_642 : decode code 642 = .ok (.lor, 1) := by decide +kernel
theorem dLw_643 : decode code 643 = .ok (.invokevirtual 124, 3) := by decide +kernel
theorem dLw_646 : decode code 646 = .ok (.istore 6, 2) := by decide +kernel
theorem dLw_648 : decode code 648 = .ok (.goto 468, 3) := by decide +kernel
theorem dLw_651 : decode code 651 = .ok (.aload_n 1, 1) := by decide +kernel
theorem dLw_652 : decode code 652 = .ok (.aload_n 0, 1) := by decide +kernel
theorem dLw_653 : decode code 653 = .ok (.iload 4, 2) := by decide +kernel
theorem dLw_655 : decode code 655 = .ok (.iconst 1, 1) := by decide +kernel
theorem dLw_656 : decode code 656 = .ok (.iadd, 1) := by decide +kernel
theorem dLw_657 : decode code 657 = .ok (.iaload, 1) := by decide +kernel
theorem dLw_658 : decode code 658 = .ok (.aload_n 3, 1) := by decide +kernel
theorem dLw_659 : decode code 659 = .ok (.invokestatic 125, 3) := by decide +kernel
theorem dLw_662 : decode code 662 = .ok (.istore 5, 2) := by decide +kernel
theorem dLw_664 : decode code 664 = .ok (.aload_n 2, 1) := by decide +kernel
theorem dLw_665 : decode code 665 = .ok (.aload_n 0, 1) := by decide +kernel
theorem dLw_666 : decode code 666 = .ok (.iload 4, 2) := by decide +kernel
theorem dLw_668 : decode code 668 = .ok (.iconst 1, 1) := by decide +kernel
theorem dLw_669 : decode code 669 = .ok (.iadd, 1) := by decide +kernel
theorem dLw_670 : decode code 670 = .ok (.iaload, 1) := by decide +kernel
theorem dLw_671 : decode code 671 = .ok (.invokevirtual 127, 3) := by decide +kernel
theorem dLw_674 : decode code 674 = .ok (.istore 6, 2) := by decide +kernel
theorem dLw_676 : decode code 676 = .ok (.goto 440, 3) := by decide +kernel
theorem dLw_679 : decode code 679 = .ok (.aload_n 1, 1) := by decide +kernel
theorem dLw_680 : decode code 680 = .ok (.aload_n 3, 1) := by decide +kernel
theorem dLw_681 : decode code 681 = .ok (.invokestatic 128, 3) := by decide +kernel
theorem dLw_684 : decode code 684 = .ok (.istore 5, 2) := by decide +kernel
theorem dLw_686 : decode code 686 = .ok (.aload_n 2, 1) := by decide +kernel
theorem dLw_687 : decode code 687 = .ok (.invokevirtual 130, 3) := by decide +kernel
theorem dLw_690 : decode code 690 = .ok (.istore 6, 2) := by decide +kernel
theorem dLw_692 : decode code 692 = .ok (.goto 424, 3) := by decide +kernel
theorem dLw_695 : decode code 695 = .ok (.aload_n 1, 1) := by decide +kernel
theorem dLw_696 : decode code 696 = .ok (.aload_n 3, 1) := by decide +kernel
theorem dLw_697 : decode code 697 = .ok (.invokestatic 131, 3) := by decide +kernel
theorem dLw_700 : decode code 700 = .ok (.istore 5, 2) := by decide +kernel
theorem dLw_702 : decode code 702 = .ok (.aload_n 2, 1) := by decide +kernel
theorem dLw_703 : decode code 703 = .ok (.invokevirtual 133, 3) := by decide +kernel
theorem dLw_706 : decode code 706 = .ok (.istore 6, 2) := by decide +kernel
theorem dLw_708 : decode code 708 = .ok (.goto 408, 3) := by decide +kernel
theorem dLw_711 : decode code 711 = .ok (.aload_n 1, 1) := by decide +kernel
theorem dLw_712 : decode code 712 = .ok (.aload_n 0, 1) := by decide +kernel
theorem dLw_713 : decode code 713 = .ok (.iload 4, 2) := by decide +kernel
theorem dLw_715 : decode code 715 = .ok (.iconst 1, 1) := by decide +kernel
theorem dLw_716 : decode code 716 = .ok (.iadd, 1) := by decide +kernel
theorem dLw_717 : decode code 717 = .ok (.iaload, 1) := by decide +kernel
theorem dLw_718 : decode code 718 = .ok (.aload_n 3, 1) := by decide +kernel
theorem dLw_719 : decode code 719 = .ok (.invokestatic 134, 3) := by decide +kernel
theorem dLw_722 : decode code 722 = .ok (.istore 5, 2) := by decide +kernel
theorem dLw_724 : decode code 724 = .ok (.aload_n 2, 1) := by decide +kernel
theorem dLw_725 : decode code 725 = .ok (.aload_n 0, 1) := by decide +kernel
theorem dLw_726 : decode code 726 = .ok (.iload 4, 2) := by decide +kernel
theorem dLw_728 : decode code 728 = .ok (.iconst 1, 1) := by decide +kernel
theorem dLw_729 : decode code 729 = .ok (.iadd, 1) := by decide +kernel
theorem dLw_730 : decode code 730 = .ok (.iaload, 1) := by decide +kernel
theorem dLw_731 : decode code 731 = .ok (.invokevirtual 136, 3) := by decide +kernel
theorem dLw_734 : decode code 734 = .ok (.istore 6, 2) := by decide +kernel
theorem dLw_736 : decode code 736 = .ok (.goto 380, 3) := by decide +kernel
theorem dLw_739 : decode code 739 = .ok (.aload_n 1, 1) := by decide +kernel
theorem dLw_740 : decode code 740 = .ok (.aload_n 0, 1) := by decide +kernel
theorem dLw_741 : decode code 741 = .ok (.iload 4, 2) := by decide +kernel
theorem dLw_743 : decode code 743 = .ok (.iconst 1, 1) := by decide +kernel
theorem dLw_744 : decode code 744 = .ok (.iadd, 1) := by decide +kernel
theorem dLw_745 : decode code 745 = .ok (.iaload, 1) := by decide +kernel
theorem dLw_746 : decode code 746 = .ok (.invokestatic 137, 3) := by decide +kernel
theorem dLw_749 : decode code 749 = .ok (.istore 5, 2) := by decide +kernel
theorem dLw_751 : decode code 751 = .ok (.aload_n 2, 1) := by decide +kernel
theorem dLw_752 : decode code 752 = .ok (.aload_n 0, 1) := by decide +kernel
theorem dLw_753 : decode code 753 = .ok (.iload 4, 2) := by decide +kernel
theorem dLw_755 : decode code 755 = .ok (.iconst 1, 1) := by decide +kernel
theorem dLw_756 : decode code 756 = .ok (.iadd, 1) := by decide +kernel
theorem dLw_757 : decode code 757 = .ok (.iaload, 1) := by decide +kernel
theorem dLw_758 : decode code 758 = .ok (.invokevirtual 140, 3) := by decide +kernel
theorem dLw_761 : decode code 761 = .ok (.goto 355, 3) := by decide +kernel
theorem dLw_764 : decode code 764 = .ok (.aload_n 1, 1) := by decide +kernel
theorem dLw_765 : decode code 765 = .ok (.aload_n 3, 1) := by decide +kernel
theorem dLw_766 : decode code 766 = .ok (.invokestatic 141, 3) := by decide +kernel
theorem dLw_769 : decode code 769 = .ok (.istore 5, 2) := by decide +kernel
theorem dLw_771 : decode code 771 = .ok (.aload_n 2, 1) := by decide +kernel
theorem dLw_772 : decode code 772 = .ok (.invokevirtual 143, 3) := by decide +kernel
theorem dLw_775 : decode code 775 = .ok (.istore 6, 2) := by decide +kernel
theorem dLw_777 : decode code 777 = .ok (.goto 339, 3) := by decide +kernel
theorem dLw_780 : decode code 780 = .ok (.aload_n 1, 1) := by decide +kernel
theorem dLw_781 : decode code 781 = .ok (.aload_n 0, 1) := by decide +kernel
theorem dLw_782 : decode code 782 = .ok (.iload 4, 2) := by decide +kernel
theorem dLw_784 : decode code 784 = .ok (.iconst 1, 1) := by decide +kernel
theorem dLw_785 : decode code 785 = .ok (.iadd, 1) := by decide +kernel
theorem dLw_786 : decode code 786 = .ok (.iaload, 1) := by decide +kernel
theorem dLw_787 : decode code 787 = .ok (.aload_n 3, 1) := by decide +kernel
theorem dLw_788 : decode code 788 = .ok (.invokestatic 144, 3) := by decide +kernel
theorem dLw_791 : decode code 791 = .ok (.istore 5, 2) := by decide +kernel
theorem dLw_793 : decode code 793 = .ok (.aload_n 2, 1) := by decide +kernel
theorem dLw_794 : decode code 794 = .ok (.aload_n 0, 1) := by decide +kernel
theorem dLw_795 : decode code 795 = .ok (.iload 4, 2) := by decide +kernel
theorem dLw_797 : decode code 797 = .ok (.iconst 1, 1) := by decide +kernel
theorem dLw_798 : decode code 798 = .ok (.iadd, 1) := by decide +kernel
theorem dLw_799 : decode code 799 = .ok (.iaload, 1) := by decide +kernel
theorem dLw_800 : decode code 800 = .ok (.invokevirtual 146, 3) := by decide +kernel
theorem dLw_803 : decode code 803 = .ok (.istore 6, 2) := by decide +kernel
theorem dLw_805 : decode code 805 = .ok (.goto 311, 3) := by decide +kernel
theorem dLw_808 : decode code 808 = .ok (.aload_n 1, 1) := by decide +kernel
theorem dLw_809 : decode code 809 = .ok (.aload_n 0, 1) := by decide +kernel
theorem dLw_810 : decode code 810 = .ok (.iload 4, 2) := by decide +kernel
theorem dLw_812 : decode code 812 = .ok (.iconst 1, 1) := by decide +kernel
theorem dLw_813 : decode code 813 = .ok (.iadd, 1) := by decide +kernel
theorem dLw_814 : decode code 814 = .ok (.iaload, 1) := by decide +kernel
theorem dLw_815 : decode code 815 = .ok (.aload_n 0, 1) := by decide +kernel
theorem dLw_816 : decode code 816 = .ok (.iload 4, 2) := by decide +kernel
theorem dLw_818 : decode code 818 = .ok (.iconst 2, 1) := by decide +kernel
theorem dLw_819 : decode code 819 = .ok (.iadd, 1) := by decide +kernel
theorem dLw_820 : decode code 820 = .ok (.iaload, 1) := by decide +kernel
theorem dLw_821 : decode code 821 = .ok (.aload_n 0, 1) := by decide +kernel
theorem dLw_822 : decode code 822 = .ok (.iload 4, 2) := by decide +kernel
theorem dLw_824 : decode code 824 = .ok (.iconst 3, 1) := by decide +kernel
theorem dLw_825 : decode code 825 = .ok (.iadd, 1) := by decide +kernel
theorem dLw_826 : decode code 826 = .ok (.iaload, 1) := by decide +kernel
theorem dLw_827 : decode code 827 = .ok (.aload_n 3, 1) := by decide +kernel
theorem dLw_828 : decode code 828 = .ok (.invokestatic 147, 3) := by decide +kernel
theorem dLw_831 : decode code 831 = .ok (.istore 5, 2) := by decide +kernel
theorem dLw_833 : decode code 833 = .ok (.aload_n 2, 1) := by decide +kernel
theorem dLw_834 : decode code 834 = .ok (.aload_n 0, 1) := by decide +kernel
theorem dLw_835 : decode code 835 = .ok (.iload 4, 2) := by decide +kernel
theorem dLw_837 : decode code 837 = .ok (.iconst 1, 1) := by decide +kernel
theorem dLw_838 : decode code 838 = .ok (.iadd, 1) := by decide +kernel
theorem dLw_839 : decode code 839 = .ok (.iaload, 1) := by decide +kernel
theorem dLw_840 : decode code 840 = .ok (.aload_n 0, 1) := by decide +kernel
theorem dLw_841 : decode code 841 = .ok (.iload 4, 2) := by decide +kernel
theorem dLw_843 : decode code 843 = .ok (.iconst 2, 1) := by decide +kernel
theorem dLw_844 : decode code 844 = .ok (.iadd, 1) := by decide +kernel
theorem dLw_845 : decode code 845 = .ok (.iaload, 1) := by decide +kernel
theorem dLw_846 : decode code 846 = .ok (.aload_n 0, 1) := by decide +kernel
theorem dLw_847 : decode code 847 = .ok (.iload 4, 2) := by decide +kernel
theorem dLw_849 : decode code 849 = .ok (.iconst 3, 1) := by decide +kernel
theorem dLw_850 : decode code 850 = .ok (.iadd, 1) := by decide +kernel
theorem dLw_851 : decode code 851 = .ok (.iaload, 1) := by decide +kernel
theorem dLw_852 : decode code 852 = .ok (.invokevirtual 150, 3) := by decide +kernel
theorem dLw_855 : decode code 855 = .ok (.lstore 6, 2) := by decide +kernel
theorem dLw_857 : decode code 857 = .ok (.goto 259, 3) := by decide +kernel
theorem dLw_860 : decode code 860 = .ok (.aload_n 1, 1) := by decide +kernel
theorem dLw_861 : decode code 861 = .ok (.aload_n 0, 1) := by decide +kernel
theorem dLw_862 : decode code 862 = .ok (.iload 4, 2) := by decide +kernel
theorem dLw_864 : decode code 864 = .ok (.iconst 1, 1) := by decide +kernel
theorem dLw_865 : decode code 865 = .ok (.iadd, 1) := by decide +kernel
theorem dLw_866 : decode code 866 = .ok (.iaload, 1) := by decide +kernel
theorem dLw_867 : decode code 867 = .ok (.aload_n 0, 1) := by decide +kernel
theorem dLw_868 : decode code 868 = .ok (.iload 4, 2) := by decide +kernel
theorem dLw_870 : decode code 870 = .ok (.iconst 2, 1) := by decide +kernel
theorem dLw_871 : decode code 871 = .ok (.iadd, 1) := by decide +kernel
theorem dLw_872 : decode code 872 = .ok (.iaload, 1) := by decide +kernel
theorem dLw_873 : decode code 873 = .ok (.aload_n 0, 1) := by decide +kernel
theorem dLw_874 : decode code 874 = .ok (.iload 4, 2) := by decide +kernel
theorem dLw_876 : decode code 876 = .ok (.iconst 3, 1) := by decide +kernel
theorem dLw_877 : decode code 877 = .ok (.iadd, 1) := by decide +kernel
theorem dLw_878 : decode code 878 = .ok (.iaload, 1) := by decide +kernel
theorem dLw_879 : decode code 879 = .ok (.aload_n 3, 1) := by decide +kernel
theorem dLw_880 : decode code 880 = .ok (.invokestatic 151, 3) := by decide +kernel
theorem dLw_883 : decode code 883 = .ok (.istore 5, 2) := by decide +kernel
theorem dLw_885 : decode code 885 = .ok (.aload_n 2, 1) := by decide +kernel
theorem dLw_886 : decode code 886 = .ok (.aload_n 0, 1) := by decide +kernel
theorem dLw_887 : decode code 887 = .ok (.iload 4, 2) := by decide +kernel
theorem dLw_889 : decode code 889 = .ok (.iconst 1, 1) := by decide +kernel
theorem dLw_890 : decode code 890 = .ok (.iadd, 1) := by decide +kernel
theorem dLw_891 : decode code 891 = .ok (.iaload, 1) := by decide +kernel
theorem dLw_892 : decode code 892 = .ok (.aload_n 0, 1) := by decide +kernel
theorem dLw_893 : decode code 893 = .ok (.iload 4, 2) := by decide +kernel
theorem dLw_895 : decode code 895 = .ok (.iconst 2, 1) := by decide +kernel
theorem dLw_896 : decode code 896 = .ok (.iadd, 1) := by decide +kernel
theorem dLw_897 : decode code 897 = .ok (.iaload, 1) := by decide +kernel
theorem dLw_898 : decode code 898 = .ok (.aload_n 0, 1) := by decide +kernel
theorem dLw_899 : decode code 899 = .ok (.iload 4, 2) := by decide +kernel
theorem dLw_901 : decode code 901 = .ok (.iconst 3, 1) := by decide +kernel
theorem dLw_902 : decode code 902 = .ok (.iadd, 1) := by decide +kernel
theorem dLw_903 : decode code 903 = .ok (.iaload, 1) := by decide +kernel
theorem dLw_904 : decode code 904 = .ok (.invokevirtual 153, 3) := by decide +kernel
theorem dLw_907 : decode code 907 = .ok (.istore 6, 2) := by decide +kernel
theorem dLw_909 : decode code 909 = .ok (.goto 207, 3) := by decide +kernel
theorem dLw_912 : decode code 912 = .ok (.aload_n 1, 1) := by decide +kernel
theorem dLw_913 : decode code 913 = .ok (.aload_n 3, 1) := by decide +kernel
theorem dLw_914 : decode code 914 = .ok (.invokestatic 154, 3) := by decide +kernel
theorem dLw_917 : decode code 917 = .ok (.istore 5, 2) := by decide +kernel
theorem dLw_919 : decode code 919 = .ok (.aload_n 2, 1) := by decide +kernel
theorem dLw_920 : decode code 920 = .ok (.invokevirtual 156, 3) := by decide +kernel
theorem dLw_923 : decode code 923 = .ok (.istore 6, 2) := by decide +kernel
theorem dLw_925 : decode code 925 = .ok (.goto 191, 3) := by decide +kernel
theorem dLw_928 : decode code 928 = .ok (.aload_n 1, 1) := by decide +kernel
theorem dLw_929 : decode code 929 = .ok (.aload_n 0, 1) := by decide +kernel
theorem dLw_930 : decode code 930 = .ok (.iload 4, 2) := by decide +kernel
theorem dLw_932 : decode code 932 = .ok (.iconst 1, 1) := by decide +kernel
theorem dLw_933 : decode code 933 = .ok (.iadd, 1) := by decide +kernel
theorem dLw_934 : decode code 934 = .ok (.iaload, 1) := by decide +kernel
theorem dLw_935 : decode code 935 = .ok (.aload_n 0, 1) := by decide +kernel
theorem dLw_936 : decode code 936 = .ok (.iload 4, 2) := by decide +kernel
theorem dLw_938 : decode code 938 = .ok (.iconst 2, 1) := by decide +kernel
theorem dLw_939 : decode code 939 = .ok (.iadd, 1) := by decide +kernel
theorem dLw_940 : decode code 940 = .ok (.iaload, 1) := by decide +kernel
theorem dLw_941 : decode code 941 = .ok (.aload_n 3, 1) := by decide +kernel
theorem dLw_942 : decode code 942 = .ok (.invokestatic 157, 3) := by decide +kernel
theorem dLw_945 : decode code 945 = .ok (.istore 5, 2) := by decide +kernel
theorem dLw_947 : decode code 947 = .ok (.aload_n 2, 1) := by decide +kernel
theorem dLw_948 : decode code 948 = .ok (.aload_n 0, 1) := by decide +kernel
theorem dLw_949 : decode code 949 = .ok (.iload 4, 2) := by decide +kernel
theorem dLw_951 : decode code 951 = .ok (.iconst 1, 1) := by decide +kernel
theorem dLw_952 : decode code 952 = .ok (.iadd, 1) := by decide +kernel
theorem dLw_953 : decode code 953 = .ok (.iaload, 1) := by decide +kernel
theorem dLw_954 : decode code 954 = .ok (.aload_n 0, 1) := by decide +kernel
theorem dLw_955 : decode code 955 = .ok (.iload 4, 2) := by decide +kernel
theorem dLw_957 : decode code 957 = .ok (.iconst 2, 1) := by decide +kernel
theorem dLw_958 : decode code 958 = .ok (.iadd, 1) := by decide +kernel
theorem dLw_959 : decode code 959 = .ok (.iaload, 1) := by decide +kernel
theorem dLw_960 : decode code 960 = .ok (.invokevirtual 159, 3) := by decide +kernel
theorem dLw_963 : decode code 963 = .ok (.lstore 6, 2) := by decide +kernel
theorem dLw_965 : decode code 965 = .ok (.goto 151, 3) := by decide +kernel
theorem dLw_968 : decode code 968 = .ok (.aload_n 1, 1) := by decide +kernel
theorem dLw_969 : decode code 969 = .ok (.aload_n 0, 1) := by decide +kernel
theorem dLw_970 : decode code 970 = .ok (.iload 4, 2) := by decide +kernel
theorem dLw_972 : decode code 972 = .ok (.iconst 1, 1) := by decide +kernel
theorem dLw_973 : decode code 973 = .ok (.iadd, 1) := by decide +kernel
theorem dLw_974 : decode code 974 = .ok (.iaload, 1) := by decide +kernel
theorem dLw_975 : decode code 975 = .ok (.aload_n 0, 1) := by decide +kernel
theorem dLw_976 : decode code 976 = .ok (.iload 4, 2) := by decide +kernel
theorem dLw_978 : decode code 978 = .ok (.iconst 2, 1) := by decide +kernel
theorem dLw_979 : decode code 979 = .ok (.iadd, 1) := by decide +kernel
theorem dLw_980 : decode code 980 = .ok (.iaload, 1) := by decide +kernel
theorem dLw_981 : decode code 981 = .ok (.aload_n 3, 1) := by decide +kernel
theorem dLw_982 : decode code 982 = .ok (.invokestatic 160, 3) := by decide +kernel
theorem dLw_985 : decode code 985 = .ok (.istore 5, 2) := by decide +kernel
theorem dLw_987 : decode code 987 = .ok (.aload_n 2, 1) := by decide +kernel
theorem dLw_988 : decode code 988 = .ok (.aload_n 0, 1) := by decide +kernel
theorem dLw_989 : decode code 989 = .ok (.iload 4, 2) := by decide +kernel
theorem dLw_991 : decode code 991 = .ok (.iconst 1, 1) := by decide +kernel
theorem dLw_992 : decode code 992 = .ok (.iadd, 1) := by decide +kernel
theorem dLw_993 : decode code 993 = .ok (.iaload, 1) := by decide +kernel
theorem dLw_994 : decode code 994 = .ok (.aload_n 0, 1) := by decide +kernel
theorem dLw_995 : decode code 995 = .ok (.iload 4, 2) := by decide +kernel
theorem dLw_997 : decode code 997 = .ok (.iconst 2, 1) := by decide +kernel
theorem dLw_998 : decode code 998 = .ok (.iadd, 1) := by decide +kernel
theorem dLw_999 : decode code 999 = .ok (.iaload, 1) := by decide +kernel
theorem dLw_1000 : decode code 1000 = .ok (.invokevirtual 162, 3) := by decide +kernel
theorem dLw_1003 : decode code 1003 = .ok (.lstore 6, 2) := by decide +kernel
theorem dLw_1005 : decode code 1005 = .ok (.goto 111, 3) := by decide +kernel
theorem dLw_1008 : decode code 1008 = .ok (.aload_n 1, 1) := by decide +kernel
theorem dLw_1009 : decode code 1009 = .ok (.aload_n 0, 1) := by decide +kernel
theorem dLw_1010 : decode code 1010 = .ok (.iload 4, 2) := by decide +kernel
theorem dLw_1012 : decode code 1012 = .ok (.iconst 1, 1) := by decide +kernel
theorem dLw_1013 : decode code 1013 = .ok (.iadd, 1) := by decide +kernel
theorem dLw_1014 : decode code 1014 = .ok (.iaload, 1) := by decide +kernel
theorem dLw_1015 : decode code 1015 = .ok (.aload_n 0, 1) := by decide +kernel
theorem dLw_1016 : decode code 1016 = .ok (.iload 4, 2) := by decide +kernel
theorem dLw_1018 : decode code 1018 = .ok (.iconst 2, 1) := by decide +kernel
theorem dLw_1019 : decode code 1019 = .ok (.iadd, 1) := by decide +kernel
theorem dLw_1020 : decode code 1020 = .ok (.iaload, 1) := by decide +kernel
theorem dLw_1021 : decode code 1021 = .ok (.i2l, 1) := by decide +kernel
theorem dLw_1022 : decode code 1022 = .ok (.bipush 32, 2) := by decide +kernel
theorem dLw_1024 : decode code 1024 = .ok (.lshl, 1) := by decide +kernel
theorem dLw_1025 : decode code 1025 = .ok (.aload_n 0, 1) := by decide +kernel
theorem dLw_1026 : decode code 1026 = .ok (.iload 4, 2) := by decide +kernel
theorem dLw_1028 : decode code 1028 = .ok (.iconst 3, 1) := by decide +kernel
theorem dLw_1029 : decode code 1029 = .ok (.iadd, 1) := by decide +kernel
theorem dLw_1030 : decode code 1030 = .ok (.iaload, 1) := by decide +kernel
theorem dLw_1031 : decode code 1031 = .ok (.i2l, 1) := by decide +kernel
theorem dLw_1032 : decode code 1032 = .ok (.ldc2_w 90, 3) := by decide +kernel
theorem dLw_1035 : decode code 1035 = .ok (.land, 1) := by decide +kernel
theorem dLw_1036 : decode code 1036 = .ok (.lor, 1) := by decide +kernel
theorem dLw_1037 : decode code 1037 = .ok (.aload_n 3, 1) := by decide +kernel
theorem dLw_1038 : decode code 1038 = .ok (.invokestatic 163, 3) := by decide +kernel
theorem dLw_1041 : decode code 1041 = .ok (.istore 5, 2) := by decide +kernel
theorem dLw_1043 : decode code 1043 = .ok (.aload_n 2, 1) := by decide +kernel
theorem dLw_1044 : decode code 1044 = .ok (.aload_n 0, 1) := by decide +kernel
theorem dLw_1045 : decode code 1045 = .ok (.iload 4, 2) := by decide +kernel
theorem dLw_1047 : decode code 1047 = .ok (.iconst 1, 1) := by decide +kernel
theorem dLw_1048 : decode code 1048 = .ok (.iadd, 1) := by decide +kernel
theorem dLw_1049 : decode code 1049 = .ok (.iaload, 1) := by decide +kernel
theorem dLw_1050 : decode code 1050 = .ok (.aload_n 0, 1) := by decide +kernel
theorem dLw_1051 : decode code 1051 = .ok (.iload 4, 2) := by decide +kernel
theorem dLw_1053 : decode code 1053 = .ok (.iconst 2, 1) := by decide +kernel
theorem dLw_1054 : decode code 1054 = .ok (.iadd, 1) := by decide +kernel
theorem dLw_1055 : decode code 1055 = .ok (.iaload, 1) := by decide +kernel
theorem dLw_1056 : decode code 1056 = .ok (.i2l, 1) := by decide +kernel
theorem dLw_1057 : decode code 1057 = .ok (.bipush 32, 2) := by decide +kernel
theorem dLw_1059 : decode code 1059 = .ok (.lshl, 1) := by decide +kernel
theorem dLw_1060 : decode code 1060 = .ok (.aload_n 0, 1) := by decide +kernel
theorem dLw_1061 : decode code 1061 = .ok (.iload 4, 2) := by decide +kernel
theorem dLw_1063 : decode code 1063 = .ok (.iconst 3, 1) := by decide +kernel
theorem dLw_1064 : decode code 1064 = .ok (.iadd, 1) := by decide +kernel
theorem dLw_1065 : decode code 1065 = .ok (.iaload, 1) := by decide +kernel
theorem dLw_1066 : decode code 1066 = .ok (.i2l, 1) := by decide +kernel
theorem dLw_1067 : decode code 1067 = .ok (.ldc2_w 90, 3) := by decide +kernel
theorem dLw_1070 : decode code 1070 = .ok (.land, 1) := by decide +kernel
theorem dLw_1071 : decode code 1071 = .ok (.lor, 1) := by decide +kernel
theorem dLw_1072 : decode code 1072 = .ok (.invokevirtual 166, 3) := by decide +kernel
theorem dLw_1075 : decode code 1075 = .ok (.istore 6, 2) := by decide +kernel
theorem dLw_1077 : decode code 1077 = .ok (.goto 39, 3) := by decide +kernel
theorem dLw_1080 : decode code 1080 = .ok (.aload_n 1, 1) := by decide +kernel
theorem dLw_1081 : decode code 1081 = .ok (.aload_n 0, 1) := by decide +kernel
theorem dLw_1082 : decode code 1082 = .ok (.iload 4, 2) := by decide +kernel
theorem dLw_1084 : decode code 1084 = .ok (.iconst 1, 1) := by decide +kernel
theorem dLw_1085 : decode code 1085 = .ok (.iadd, 1) := by decide +kernel
theorem dLw_1086 : decode code 1086 = .ok (.iaload, 1) := by decide +kernel
theorem dLw_1087 : decode code 1087 = .ok (.invokevirtual 167, 3) := by decide +kernel
theorem dLw_1090 : decode code 1090 = .ok (.pop, 1) := by decide +kernel
theorem dLw_1091 : decode code 1091 = .ok (.aload_n 2, 1) := by decide +kernel
theorem dLw_1092 : decode code 1092 = .ok (.aload_n 0, 1) := by decide +kernel
theorem dLw_1093 : decode code 1093 = .ok (.iload 4, 2) := by decide +kernel
theorem dLw_1095 : decode code 1095 = .ok (.iconst 1, 1) := by decide +kernel
theorem dLw_1096 : decode code 1096 = .ok (.iadd, 1) := by decide +kernel
theorem dLw_1097 : decode code 1097 = .ok (.iaload, 1) := by decide +kernel
theorem dLw_1098 : decode code 1098 = .ok (.invokevirtual 170, 3) := by decide +kernel
theorem dLw_1101 : decode code 1101 = .ok (.pop, 1) := by decide +kernel
theorem dLw_1102 : decode code 1102 = .ok (.goto 14, 3) := by decide +kernel
theorem dLw_1105 : decode code 1105 = .ok (.aload_n 1, 1) := by decide +kernel
theorem dLw_1106 : decode code 1106 = .ok (.invokevirtual 171, 3) := by decide +kernel
theorem dLw_1109 : decode code 1109 = .ok (.aload_n 2, 1) := by decide +kernel
theorem dLw_1110 : decode code 1110 = .ok (.invokevirtual 174, 3) := by decide +kernel
theorem dLw_1113 : decode code 1113 = .ok (.goto 3, 3) := by decide +kernel
theorem dLw_1116 : decode code 1116 = .ok (.iinc 4 11, 3) := by decide +kernel
theorem dLw_1119 : decode code 1119 = .ok (.goto (-1096), 3) := by decide +kernel
theorem dLw_1122 : decode code 1122 = .ok (.iconst 1, 1) := by decide +kernel
theorem dLw_1123 : decode code 1123 = .ok (.ireturn, 1) := by decide +kernel
theorem wkL_90 : Cond.constantLong RL 90 4294967295 ∈ WAL := List.mem_filter.mpr ⟨tb_13 _ (List.mem_of_getElem? (i := 130) rfl), rfl⟩
theorem hdL_feed : yL_feed.cls ≠ "java/lang/invoke/MethodHandle" ∧ yL_feed.cls ≠ "java/lang/invoke/VarHandle" ∧ (parseMethodDescriptor yL_feed.desc).map (fun d => d.parameters.length) = some 4 := by decide +kernel
theorem wsL_92 : ∀ w ∈ [Cond.methodLink RL 92 yL_feed, .static yL_feed, .initialized yL_feed.cls, .codeWith yL_feed cL_feed 6 (some .int) [(0, 11, 14, 13), (0, 11, 18, 15)]], w ∈ WAL := List.forall_mem_cons.mpr ⟨List.mem_filter.mpr ⟨tb_3 _ (List.mem_of_getElem? (i := 196) rfl), rfl⟩, List.forall_mem_cons.mpr ⟨List.mem_filter.mpr ⟨tb_3 _ (List.mem_of_getElem? (i := 197) rfl), rfl⟩, List.forall_mem_cons.mpr ⟨List.mem_filter.mpr ⟨tb_1 _ (List.mem_of_getElem? (i := 0) rfl), rfl⟩, List.forall_mem_cons.mpr ⟨List.mem_filter.mpr ⟨tb_3 _ (List.mem_of_getElem? (i := 198) rfl), rfl⟩, (fun _ h => nomatch h)⟩⟩⟩⟩
theorem hd_X16_feed : yX16_feed.cls = RX16 ∧ yX16_feed.cls ≠ "java/lang/invoke/MethodHandle" ∧ yX16_feed.cls ≠ "java/lang/invoke/VarHandle" ∧ (parseMethodDescriptor yX16_feed.desc).map (fun d => d.parameters.length) = some 2 := by decide +kernel
theorem wcL_97 : ∀ w ∈ [Cond.methodLink RL 97 yX16_feed, .instanceMethod yX16_feed, .selects RX16 yX16_feed yX16_feed, .initialized RX16, .code yX16_feed cX16_feed 5 (some .int)], w ∈ WAL := List.forall_mem_cons.mpr ⟨List.mem_filter.mpr ⟨tb_10 _ (List.mem_of_getElem? (i := 143) rfl), rfl⟩, List.forall_mem_cons.mpr ⟨List.mem_filter.mpr ⟨tb_10 _ (List.mem_of_getElem? (i := 144) rfl), rfl⟩, List.forall_mem_cons.mpr ⟨List.mem_filter.mpr ⟨tb_10 _ (List.mem_of_getElem? (i := 145) rfl), rfl⟩, List.forall_mem_cons.mpr ⟨List.mem_filter.mpr ⟨tb_1 _ (List.mem_of_getElem? (i := 14) rfl), rfl⟩, List.forall_mem_cons.mpr ⟨List.mem_filter.mpr ⟨tb_10 _ (List.mem_of_getElem? (i := 146) rfl), rfl⟩, (fun _ h => nomatch h)⟩⟩⟩⟩⟩
theorem hd_X16_thrown : yX16_thrown.cls = RX16 ∧ yX16_thrown.cls ≠ "java/lang/invoke/MethodHandle" ∧ yX16_thrown.cls ≠ "java/lang/invoke/VarHandle" ∧ (parseMethodDescriptor yX16_thrown.desc).map (fun d => d.parameters.length) = some 0 := by decide +kernel
theorem wcL_98 : ∀ w ∈ [Cond.methodLink RL 98 yX16_thrown, .instanceMethod yX16_thrown, .selects RX16 yX16_thrown yX16_thrown, .initialized RX16, .code yX16_thrown cX16_thrown 1 (some .int)], w ∈ WAL := List.forall_mem_cons.mpr ⟨List.mem_filter.mpr ⟨tb_8 _ (List.mem_of_getElem? (i := 47) rfl), rfl⟩, List.forall_mem_cons.mpr ⟨List.mem_filter.mpr ⟨tb_8 _ (List.mem_of_getElem? (i := 48) rfl), rfl⟩, List.forall_mem_cons.mpr ⟨List.mem_filter.mpr ⟨tb_8 _ (List.mem_of_getElem? (i := 49) rfl), rfl⟩, List.forall_mem_cons.mpr ⟨List.mem_filter.mpr ⟨tb_1 _ (List.mem_of_getElem? (i := 14) rfl), rfl⟩, List.forall_mem_cons.mpr ⟨List.mem_filter.mpr ⟨tb_8 _ (List.mem_of_getElem? (i := 50) rfl), rfl⟩, (fun _ h => nomatch h)⟩⟩⟩⟩⟩
theorem hdL_job : yL_job.cls ≠ "java/lang/invoke/MethodHandle" ∧ yL_job.cls ≠ "java/lang/invoke/VarHandle" ∧ (parseMethodDescriptor yL_job.desc).map (fun d => d.parameters.length) = some 2 := by decide +kernel
theorem wsL_101 : ∀ w ∈ [Cond.methodLink RL 101 yL_job, .static yL_job, .initialized yL_job.cls, .codeWith yL_job cL_job 3 (some .int) [(0, 8, 11, 21)]], w ∈ WAL := List.forall_mem_cons.mpr ⟨List.mem_filter.mpr ⟨tb_4 _ (List.mem_of_getElem? (i := 47) rfl), rfl⟩, List.forall_mem_cons.mpr ⟨List.mem_filter.mpr ⟨tb_4 _ (List.mem_of_getElem? (i := 48) rfl), rfl⟩, List.forall_mem_cons.mpr ⟨List.mem_filter.mpr ⟨tb_1 _ (List.mem_of_getElem? (i := 0) rfl), rfl⟩, List.forall_mem_cons.mpr ⟨List.mem_filter.mpr ⟨tb_4 _ (List.mem_of_getElem? (i := 49) rfl), rfl⟩, (fun _ h => nomatch h)⟩⟩⟩⟩
theorem hd_X16_job : yX16_job.cls = RX16 ∧ yX16_job.cls ≠ "java/lang/invoke/MethodHandle" ∧ yX16_job.cls ≠ "java/lang/invoke/VarHandle" ∧ (parseMethodDescriptor yX16_job.desc).map (fun d => d.parameters.length) = some 0 := by decide +kernel
theorem wcL_104 : ∀ w ∈ [Cond.methodLink RL 104 yX16_job, .instanceMethod yX16_job, .selects RX16 yX16_job yX16_job, .initialized RX16, .codeWith yX16_job cX16_job 2 (some .int) [(86, 133, 136, 948)]], w ∈ WAL := List.forall_mem_cons.mpr ⟨List.mem_filter.mpr ⟨tb_10 _ (List.mem_of_getElem? (i := 151) rfl), rfl⟩, List.forall_mem_cons.mpr ⟨List.mem_filter.mpr ⟨tb_10 _ (List.mem_of_getElem? (i := 152) rfl), rfl⟩, List.forall_mem_cons.mpr ⟨List.mem_filter.mpr ⟨tb_10 _ (List.mem_of_getElem? (i := 153) rfl), rfl⟩, List.forall_mem_cons.mpr ⟨List.mem_filter.mpr ⟨tb_1 _ (List.mem_of_getElem? (i := 14) rfl), rfl⟩, List.forall_mem_cons.mpr ⟨List.mem_filter.mpr ⟨tb_10 _ (List.mem_of_getElem? (i := 154) rfl), rfl⟩, (fun _ h => nomatch h)⟩⟩⟩⟩⟩
theorem hd_X12_fault : yX12_fault.cls = RX12 ∧ yX12_fault.cls ≠ "java/lang/invoke/MethodHandle" ∧ yX12_fault.cls ≠ "java/lang/invoke/VarHandle" ∧ (parseMethodDescriptor yX12_fault.desc).map (fun d => d.parameters.length) = some 0 := by decide +kernel
theorem wcL_105 : ∀ w ∈ [Cond.methodLink RL 105 yX12_fault, .instanceMethod yX12_fault, .selects RX12 yX12_fault yX12_fault, .initialized RX12, .code yX12_fault cX12_fault 1 (some .int)], w ∈ WAL := List.forall_mem_cons.mpr ⟨List.mem_filter.mpr ⟨tb_3 _ (List.mem_of_getElem? (i := 148) rfl), rfl⟩, List.forall_mem_cons.mpr ⟨List.mem_filter.mpr ⟨tb_3 _ (List.mem_of_getElem? (i := 149) rfl), rfl⟩, List.forall_mem_cons.mpr ⟨List.mem_filter.mpr ⟨tb_3 _ (List.mem_of_getElem? (i := 150) rfl), rfl⟩, List.forall_mem_cons.mpr ⟨List.mem_filter.mpr ⟨tb_1 _ (List.mem_of_getElem? (i := 1) rfl), rfl⟩, List.forall_mem_cons.mpr ⟨List.mem_filter.mpr ⟨tb_3 _ (List.mem_of_getElem? (i := 151) rfl), rfl⟩, (fun _ h => nomatch h)⟩⟩⟩⟩⟩
theorem hd_X16_fault : yX16_fault.cls = RX16 ∧ yX16_fault.cls ≠ "java/lang/invoke/MethodHandle" ∧ yX16_fault.cls ≠ "java/lang/invoke/VarHandle" ∧ (parseMethodDescriptor yX16_fault.desc).map (fun d => d.parameters.length) = some 0 := by decide +kernel
theorem wcL_108 : ∀ w ∈ [Cond.methodLink RL 108 yX16_fault, .instanceMethod yX16_fault, .selects RX16 yX16_fault yX16_fault, .initialized RX16, .code yX16_fault cX16_fault 1 (some .int)], w ∈ WAL := List.forall_mem_cons.mpr ⟨List.mem_filter.mpr ⟨tb_11 _ (List.mem_of_getElem? (i := 173) rfl), rfl⟩, List.forall_mem_cons.mpr ⟨List.mem_filter.mpr ⟨tb_11 _ (List.mem_of_getElem? (i := 174) rfl), rfl⟩, List.forall_mem_cons.mpr ⟨List.mem_filter.mpr ⟨tb_11 _ (List.mem_of_getElem? (i := 175) rfl), rfl⟩, List.forall_mem_cons.mpr ⟨List.mem_filter.mpr ⟨tb_1 _ (List.mem_of_getElem? (i := 14) rfl), rfl⟩, List.forall_mem_cons.mpr ⟨List.mem_filter.mpr ⟨tb_11 _ (List.mem_of_getElem? (i := 176) rfl), rfl⟩, (fun _ h => nomatch h)⟩⟩⟩⟩⟩
theorem hdL_operator : yL_operator.cls ≠ "java/lang/invoke/MethodHandle" ∧ yL_operator.cls ≠ "java/lang/invoke/VarHandle" ∧ (parseMethodDescriptor yL_operator.desc).map (fun d => d.parameters.length) = some 4 := by decide +kernel
theorem wsL_109 : ∀ w ∈ [Cond.methodLink RL 109 yL_operator, .static yL_operator, .initialized yL_operator.cls, .codeWith yL_operator cL_operator 5 (some .int) [(0, 9, 12, 27), (0, 9, 16, 13)]], w ∈ WAL := List.forall_mem_cons.mpr ⟨List.mem_filter.mpr ⟨tb_5 _ (List.mem_of_getElem? (i := 59) rfl), rfl⟩, List.forall_mem_cons.mpr ⟨List.mem_filter.mpr ⟨tb_5 _ (List.mem_of_getElem? (i := 60) rfl), rfl⟩, List.forall_mem_cons.mpr ⟨List.mem_filter.mpr ⟨tb_1 _ (List.mem_of_getElem? (i := 0) rfl), rfl⟩, List.forall_mem_cons.mpr ⟨List.mem_filter.mpr ⟨tb_5 _ (List.mem_of_getElem? (i := 61) rfl), rfl⟩, (fun _ h => nomatch h)⟩⟩⟩⟩
theorem hd_X16_operator_ : yX16_operator_.cls = RX16 ∧ yX16_operator_.cls ≠ "java/lang/invoke/MethodHandle" ∧ yX16_operator_.cls ≠ "java/lang/invoke/VarHandle" ∧ (parseMethodDescriptor yX16_operator_.desc).map (fun d => d.parameters.length) = some 2 := by decide +kernel
theorem wcL_112 : ∀ w ∈ [Cond.methodLink RL 112 yX16_operator_, .instanceMethod yX16_operator_, .selects RX16 yX16_operator_ yX16_operator_, .initialized RX16, .code yX16_operator_ cX16_operator_ 3 (some .long)], w ∈ WAL := List.forall_mem_cons.mpr ⟨List.mem_filter.mpr ⟨tb_11 _ (List.mem_of_getElem? (i := 177) rfl), rfl⟩, List.forall_mem_cons.mpr ⟨List.mem_filter.mpr ⟨tb_11 _ (List.mem_of_getElem? (i := 178) rfl), rfl⟩, List.forall_mem_cons.mpr ⟨List.mem_filter.mpr ⟨tb_11 _ (List.mem_of_getElem? (i := 179) rfl), rfl⟩, List.forall_mem_cons.mpr ⟨List.mem_filter.mpr ⟨tb_1 _ (List.mem_of_getElem? (i := 14) rfl), rfl⟩, List.forall_mem_cons.mpr ⟨List.mem_filter.mpr ⟨tb_11 _ (List.mem_of_getElem? (i := 180) rfl), rfl⟩, (fun _ h => nomatch h)⟩⟩⟩⟩⟩
theorem hdL_give : yL_give.cls ≠ "java/lang/invoke/MethodHandle" ∧ yL_give.cls ≠ "java/lang/invoke/VarHandle" ∧ (parseMethodDescriptor yL_give.desc).map (fun d => d.parameters.length) = some 8 := by decide +kernel
theorem wsL_113 : ∀ w ∈ [Cond.methodLink RL 113 yL_give, .static yL_give, .initialized yL_give.cls, .codeWith yL_give cL_give 13 (some .int) [(0, 18, 21, 27), (0, 18, 25, 21), (0, 18, 29, 13), (0, 18, 33, 15)]], w ∈ WAL := List.forall_mem_cons.mpr ⟨List.mem_filter.mpr ⟨tb_5 _ (List.mem_of_getElem? (i := 82) rfl), rfl⟩, List.forall_mem_cons.mpr ⟨List.mem_filter.mpr ⟨tb_5 _ (List.mem_of_getElem? (i := 83) rfl), rfl⟩, List.forall_mem_cons.mpr ⟨List.mem_filter.mpr ⟨tb_1 _ (List.mem_of_getElem? (i := 0) rfl), rfl⟩, List.forall_mem_cons.mpr ⟨List.mem_filter.mpr ⟨tb_5 _ (List.mem_of_getElem? (i := 84) rfl), rfl⟩, (fun _ h => nomatch h)⟩⟩⟩⟩
theorem hd_X16_give : yX16_give.cls = RX16 ∧ yX16_give.cls ≠ "java/lang/invoke/MethodHandle" ∧ yX16_give.cls ≠ "java/lang/invoke/VarHandle" ∧ (parseMethodDescriptor yX16_give.desc).map (fun d => d.parameters.length) = some 6 := by decide +kernel
theorem wcL_116 : ∀ w ∈ [Cond.methodLink RL 116 yX16_give, .instanceMethod yX16_give, .selects RX16 yX16_give yX16_give, .initialized RX16, .code yX16_give cX16_give 12 (some .int)], w ∈ WAL := List.forall_mem_cons.mpr ⟨List.mem_filter.mpr ⟨tb_11 _ (List.mem_of_getElem? (i := 182) rfl), rfl⟩, List.forall_mem_cons.mpr ⟨List.mem_filter.mpr ⟨tb_11 _ (List.mem_of_getElem? (i := 183) rfl), rfl⟩, List.forall_mem_cons.mpr ⟨List.mem_filter.mpr ⟨tb_11 _ (List.mem_of_getElem? (i := 184) rfl), rfl⟩, List.forall_mem_cons.mpr ⟨List.mem_filter.mpr ⟨tb_1 _ (List.mem_of_getElem? (i := 14) rfl), rfl⟩, List.forall_mem_cons.mpr ⟨List.mem_filter.mpr ⟨tb_11 _ (List.mem_of_getElem? (i := 185) rfl), rfl⟩, (fun _ h => nomatch h)⟩⟩⟩⟩⟩
theorem hdL_close : yL_close.cls ≠ "java/lang/invoke/MethodHandle" ∧ yL_close.cls ≠ "java/lang/invoke/VarHandle" ∧ (parseMethodDescriptor yL_close.desc).map (fun d => d.parameters.length) = some 3 := by decide +kernel
theorem wsL_117 : ∀ w ∈ [Cond.methodLink RL 117 yL_close, .static yL_close, .initialized yL_close.cls, .codeWith yL_close cL_close 4 (some .int) [(0, 16, 19, 27), (0, 16, 22, 21)]], w ∈ WAL := List.forall_mem_cons.mpr ⟨List.mem_filter.mpr ⟨tb_5 _ (List.mem_of_getElem? (i := 90) rfl), rfl⟩, List.forall_mem_cons.mpr ⟨List.mem_filter.mpr ⟨tb_5 _ (List.mem_of_getElem? (i := 91) rfl), rfl⟩, List.forall_mem_cons.mpr ⟨List.mem_filter.mpr ⟨tb_1 _ (List.mem_of_getElem? (i := 0) rfl), rfl⟩, List.forall_mem_cons.mpr ⟨List.mem_filter.mpr ⟨tb_5 _ (List.mem_of_getElem? (i := 92) rfl), rfl⟩, (fun _ h => nomatch h)⟩⟩⟩⟩
theorem hd_X16_close : yX16_close.cls = RX16 ∧ yX16_close.cls ≠ "java/lang/invoke/MethodHandle" ∧ yX16_close.cls ≠ "java/lang/invoke/VarHandle" ∧ (parseMethodDescriptor yX16_close.desc).map (fun d => d.parameters.length) = some 1 := by decide +kernel
theorem wcL_120 : ∀ w ∈ [Cond.methodLink RL 120 yX16_close, .instanceMethod yX16_close, .selects RX16 yX16_close yX16_close, .initialized RX16, .code yX16_close cX16_close 3 (some .boolean)], w ∈ WAL := List.forall_mem_cons.mpr ⟨List.mem_filter.mpr ⟨tb_11 _ (List.mem_of_getElem? (i := 191) rfl), rfl⟩, List.forall_mem_cons.mpr ⟨List.mem_filter.mpr ⟨tb_11 _ (List.mem_of_getElem? (i := 192) rfl), rfl⟩, List.forall_mem_cons.mpr ⟨List.mem_filter.mpr ⟨tb_11 _ (List.mem_of_getElem? (i := 193) rfl), rfl⟩, List.forall_mem_cons.mpr ⟨List.mem_filter.mpr ⟨tb_1 _ (List.mem_of_getElem? (i := 14) rfl), rfl⟩, List.forall_mem_cons.mpr ⟨List.mem_filter.mpr ⟨tb_11 _ (List.mem_of_getElem? (i := 194) rfl), rfl⟩, (fun _ h => nomatch h)⟩⟩⟩⟩⟩
theorem hdL_start : yL_start.cls ≠ "java/lang/invoke/MethodHandle" ∧ yL_start.cls ≠ "java/lang/invoke/VarHandle" ∧ (parseMethodDescriptor yL_start.desc).map (fun d => d.parameters.length) = some 5 := by decide +kernel
theorem wsL_121 : ∀ w ∈ [Cond.methodLink RL 121 yL_start, .static yL_start, .initialized yL_start.cls, .codeWith yL_start cL_start 7 (some .int) [(0, 12, 15, 21), (0, 12, 19, 13)]], w ∈ WAL := List.forall_mem_cons.mpr ⟨List.mem_filter.mpr ⟨tb_5 _ (List.mem_of_getElem? (i := 97) rfl), rfl⟩, List.forall_mem_cons.mpr ⟨List.mem_filter.mpr ⟨tb_5 _ (List.mem_of_getElem? (i := 98) rfl), rfl⟩, List.forall_mem_cons.mpr ⟨List.mem_filter.mpr ⟨tb_1 _ (List.mem_of_getElem? (i := 0) rfl), rfl⟩, List.forall_mem_cons.mpr ⟨List.mem_filter.mpr ⟨tb_5 _ (List.mem_of_getElem? (i := 99) rfl), rfl⟩, (fun _ h => nomatch h)⟩⟩⟩⟩
theorem hd_X16_start : yX16_start.cls = RX16 ∧ yX16_start.cls ≠ "java/lang/invoke/MethodHandle" ∧ yX16_start.cls ≠ "java/lang/invoke/VarHandle" ∧ (parseMethodDescriptor yX16_start.desc).map (fun d => d.parameters.length) = some 3 := by decide +kernel
theorem wcL_124 : ∀ w ∈ [Cond.methodLink RL 124 yX16_start, .instanceMethod yX16_start, .selects RX16 yX16_start yX16_start, .initialized RX16, .code yX16_start cX16_start 5 (some .int)], w ∈ WAL := List.forall_mem_cons.mpr ⟨List.mem_filter.mpr ⟨tb_11 _ (List.mem_of_getElem? (i := 195) rfl), rfl⟩, List.forall_mem_cons.mpr ⟨List.mem_filter.mpr ⟨tb_11 _ (List.mem_of_getElem? (i := 196) rfl), rfl⟩, List.forall_mem_cons.mpr ⟨List.mem_filter.mpr ⟨tb_11 _ (List.mem_of_getElem? (i := 197) rfl), rfl⟩, List.forall_mem_cons.mpr ⟨List.mem_filter.mpr ⟨tb_1 _ (List.mem_of_getElem? (i := 14) rfl), rfl⟩, List.forall_mem_cons.mpr ⟨List.mem_filter.mpr ⟨tb_11 _ (List.mem_of_getElem? (i := 198) rfl), rfl⟩, (fun _ h => nomatch h)⟩⟩⟩⟩⟩
theorem hdL_turn : yL_turn.cls ≠ "java/lang/invoke/MethodHandle" ∧ yL_turn.cls ≠ "java/lang/invoke/VarHandle" ∧ (parseMethodDescriptor yL_turn.desc).map (fun d => d.parameters.length) = some 3 := by decide +kernel
theorem wsL_125 : ∀ w ∈ [Cond.methodLink RL 125 yL_turn, .static yL_turn, .initialized yL_turn.cls, .codeWith yL_turn cL_turn 4 (some .int) [(0, 9, 12, 21), (0, 9, 15, 13)]], w ∈ WAL := List.forall_mem_cons.mpr ⟨List.mem_filter.mpr ⟨tb_5 _ (List.mem_of_getElem? (i := 177) rfl), rfl⟩, List.forall_mem_cons.mpr ⟨List.mem_filter.mpr ⟨tb_5 _ (List.mem_of_getElem? (i := 178) rfl), rfl⟩, List.forall_mem_cons.mpr ⟨List.mem_filter.mpr ⟨tb_1 _ (List.mem_of_getElem? (i := 0) rfl), rfl⟩, List.forall_mem_cons.mpr ⟨List.mem_filter.mpr ⟨tb_5 _ (List.mem_of_getElem? (i := 179) rfl), rfl⟩, (fun _ h => nomatch h)⟩⟩⟩⟩
theorem hd_X16_turn : yX16_turn.cls = RX16 ∧ yX16_turn.cls ≠ "java/lang/invoke/MethodHandle" ∧ yX16_turn.cls ≠ "java/lang/invoke/VarHandle" ∧ (parseMethodDescriptor yX16_turn.desc).map (fun d => d.parameters.length) = some 1 := by decide +kernel
theorem wcL_127 : ∀ w ∈ [Cond.methodLink RL 127 yX16_turn, .instanceMethod yX16_turn, .selects RX16 yX16_turn yX16_turn, .initialized RX16, .code yX16_turn cX16_turn 4 (some .int)], w ∈ WAL := List.forall_mem_cons.mpr ⟨List.mem_filter.mpr ⟨tb_11 _ (List.mem_of_getElem? (i := 224) rfl), rfl⟩, List.forall_mem_cons.mpr ⟨List.mem_filter.mpr ⟨tb_11 _ (List.mem_of_getElem? (i := 225) rfl), rfl⟩, List.forall_mem_cons.mpr ⟨List.mem_filter.mpr ⟨tb_11 _ (List.mem_of_getElem? (i := 226) rfl), rfl⟩, List.forall_mem_cons.mpr ⟨List.mem_filter.mpr ⟨tb_1 _ (List.mem_of_getElem? (i := 14) rfl), rfl⟩, List.forall_mem_cons.mpr ⟨List.mem_filter.mpr ⟨tb_11 _ (List.mem_of_getElem? (i := 227) rfl), rfl⟩, (fun _ h => nomatch h)⟩⟩⟩⟩⟩
theorem hdL_mark : yL_mark.cls ≠ "java/lang/invoke/MethodHandle" ∧ yL_mark.cls ≠ "java/lang/invoke/VarHandle" ∧ (parseMethodDescriptor yL_mark.desc).map (fun d => d.parameters.length) = some 2 := by decide +kernel
theorem wsL_128 : ∀ w ∈ [Cond.methodLink RL 128 yL_mark, .static yL_mark, .initialized yL_mark.cls, .codeWith yL_mark cL_mark 3 (some .int) [(0, 8, 11, 21)]], w ∈ WAL := List.forall_mem_cons.mpr ⟨List.mem_filter.mpr ⟨tb_7 _ (List.mem_of_getElem? (i := 87) rfl), rfl⟩, List.forall_mem_cons.mpr ⟨List.mem_filter.mpr ⟨tb_7 _ (List.mem_of_getElem? (i := 88) rfl), rfl⟩, List.forall_mem_cons.mpr ⟨List.mem_filter.mpr ⟨tb_1 _ (List.mem_of_getElem? (i := 0) rfl), rfl⟩, List.forall_mem_cons.mpr ⟨List.mem_filter.mpr ⟨tb_7 _ (List.mem_of_getElem? (i := 89) rfl), rfl⟩, (fun _ h => nomatch h)⟩⟩⟩⟩
theorem hd_X16_mark : yX16_mark.cls = RX16 ∧ yX16_mark.cls ≠ "java/lang/invoke/MethodHandle" ∧ yX16_mark.cls ≠ "java/lang/invoke/VarHandle" ∧ (parseMethodDescriptor yX16_mark.desc).map (fun d => d.parameters.length) = some 0 := by decide +kernel
theorem wcL_130 : ∀ w ∈ [Cond.methodLink RL 130 yX16_mark, .instanceMethod yX16_mark, .selects RX16 yX16_mark yX16_mark, .initialized RX16, .code yX16_mark cX16_mark 1 (some .int)], w ∈ WAL := List.forall_mem_cons.mpr ⟨List.mem_filter.mpr ⟨tb_12 _ (List.mem_of_getElem? (i := 216) rfl), rfl⟩, List.forall_mem_cons.mpr ⟨List.mem_filter.mpr ⟨tb_12 _ (List.mem_of_getElem? (i := 217) rfl), rfl⟩, List.forall_mem_cons.mpr ⟨List.mem_filter.mpr ⟨tb_12 _ (List.mem_of_getElem? (i := 218) rfl), rfl⟩, List.forall_mem_cons.mpr ⟨List.mem_filter.mpr ⟨tb_1 _ (List.mem_of_getElem? (i := 14) rfl), rfl⟩, List.forall_mem_cons.mpr ⟨List.mem_filter.mpr ⟨tb_12 _ (List.mem_of_getElem? (i := 219) rfl), rfl⟩, (fun _ h => nomatch h)⟩⟩⟩⟩⟩
theorem hdL_fail : yL_fail.cls ≠ "java/lang/invoke/MethodHandle" ∧ yL_fail.cls ≠ "java/lang/invoke/VarHandle" ∧ (parseMethodDescriptor yL_fail.desc).map (fun d => d.parameters.length) = some 2 := by decide +kernel
theorem wsL_131 : ∀ w ∈ [Cond.methodLink RL 131 yL_fail, .static yL_fail, .initialized yL_fail.cls, .codeWith yL_fail cL_fail 3 (some .int) [(0, 8, 11, 21)]], w ∈ WAL := List.forall_mem_cons.mpr ⟨List.mem_filter.mpr ⟨tb_7 _ (List.mem_of_getElem? (i := 98) rfl), rfl⟩, List.forall_mem_cons.mpr ⟨List.mem_filter.mpr ⟨tb_7 _ (List.mem_of_getElem? (i := 99) rfl), rfl⟩, List.forall_mem_cons.mpr ⟨List.mem_filter.mpr ⟨tb_1 _ (List.mem_of_getElem? (i := 0) rfl), rfl⟩, List.forall_mem_cons.mpr ⟨List.mem_filter.mpr ⟨tb_7 _ (List.mem_of_getElem? (i := 100) rfl), rfl⟩, (fun _ h => nomatch h)⟩⟩⟩⟩
theorem hd_X16_fail_ : yX16_fail_.cls = RX16 ∧ yX16_fail_.cls ≠ "java/lang/invoke/MethodHandle" ∧ yX16_fail_.cls ≠ "java/lang/invoke/VarHandle" ∧ (parseMethodDescriptor yX16_fail_.desc).map (fun d => d.parameters.length) = some 0 := by decide +kernel
theorem wcL_133 : ∀ w ∈ [Cond.methodLink RL 133 yX16_fail_, .instanceMethod yX16_fail_, .selects RX16 yX16_fail_ yX16_fail_, .initialized RX16, .code yX16_fail_ cX16_fail_ 1 (some .int)], w ∈ WAL := List.forall_mem_cons.mpr ⟨List.mem_filter.mpr ⟨tb_12 _ (List.mem_of_getElem? (i := 220) rfl), rfl⟩, List.forall_mem_cons.mpr ⟨List.mem_filter.mpr ⟨tb_12 _ (List.mem_of_getElem? (i := 221) rfl), rfl⟩, List.forall_mem_cons.mpr ⟨List.mem_filter.mpr ⟨tb_12 _ (List.mem_of_getElem? (i := 222) rfl), rfl⟩, List.forall_mem_cons.mpr ⟨List.mem_filter.mpr ⟨tb_1 _ (List.mem_of_getElem? (i := 14) rfl), rfl⟩, List.forall_mem_cons.mpr ⟨List.mem_filter.mpr ⟨tb_12 _ (List.mem_of_getElem? (i := 223) rfl), rfl⟩, (fun _ h => nomatch h)⟩⟩⟩⟩⟩
theorem hdL_rescale : yL_rescale.cls ≠ "java/lang/invoke/MethodHandle" ∧ yL_rescale.cls ≠ "java/lang/invoke/VarHandle" ∧ (parseMethodDescriptor yL_rescale.desc).map (fun d => d.parameters.length) = some 3 := by decide +kernel
theorem wsL_134 : ∀ w ∈ [Cond.methodLink RL 134 yL_rescale, .static yL_rescale, .initialized yL_rescale.cls, .codeWith yL_rescale cL_rescale 4 (some .int) [(0, 9, 12, 21), (0, 9, 15, 13)]], w ∈ WAL := List.forall_mem_cons.mpr ⟨List.mem_filter.mpr ⟨tb_7 _ (List.mem_of_getElem? (i := 124) rfl), rfl⟩, List.forall_mem_cons.mpr ⟨List.mem_filter.mpr ⟨tb_7 _ (List.mem_of_getElem? (i := 125) rfl), rfl⟩, List.forall_mem_cons.mpr ⟨List.mem_filter.mpr ⟨tb_1 _ (List.mem_of_getElem? (i := 0) rfl), rfl⟩, List.forall_mem_cons.mpr ⟨List.mem_filter.mpr ⟨tb_7 _ (List.mem_of_getElem? (i := 126) rfl), rfl⟩, (fun _ h => nomatch h)⟩⟩⟩⟩
theorem hd_X16_rescale : yX16_rescale.cls = RX16 ∧ yX16_rescale.cls ≠ "java/lang/invoke/MethodHandle" ∧ yX16_rescale.cls ≠ "java/lang/invoke/VarHandle" ∧ (parseMethodDescriptor yX16_rescale.desc).map (fun d => d.parameters.length) = some 1 := by decide +kernel
theorem wcL_136 : ∀ w ∈ [Cond.methodLink RL 136 yX16_rescale, .instanceMethod yX16_rescale, .selects RX16 yX16_rescale yX16_rescale, .initialized RX16, .code yX16_rescale cX16_rescale 2 (some .int)], w ∈ WAL := List.forall_mem_cons.mpr ⟨List.mem_filter.mpr ⟨tb_12 _ (List.mem_of_getElem? (i := 236) rfl), rfl⟩, List.forall_mem_cons.mpr ⟨List.mem_filter.mpr ⟨tb_12 _ (List.mem_of_getElem? (i := 237) rfl), rfl⟩, List.forall_mem_cons.mpr ⟨List.mem_filter.mpr ⟨tb_12 _ (List.mem_of_getElem? (i := 238) rfl), rfl⟩, List.forall_mem_cons.mpr ⟨List.mem_filter.mpr ⟨tb_1 _ (List.mem_of_getElem? (i := 14) rfl), rfl⟩, List.forall_mem_cons.mpr ⟨List.mem_filter.mpr ⟨tb_12 _ (List.mem_of_getElem? (i := 239) rfl), rfl⟩, (fun _ h => nomatch h)⟩⟩⟩⟩⟩
theorem hdL_crash : yL_crash.cls ≠ "java/lang/invoke/MethodHandle" ∧ yL_crash.cls ≠ "java/lang/invoke/VarHandle" ∧ (parseMethodDescriptor yL_crash.desc).map (fun d => d.parameters.length) = some 2 := by decide +kernel
theorem wsL_137 : ∀ w ∈ [Cond.methodLink RL 137 yL_crash, .static yL_crash, .initialized yL_crash.cls, .codeWith yL_crash cL_crash 3 (some .int) [(0, 5, 8, 21), (0, 5, 11, 13)]], w ∈ WAL := List.forall_mem_cons.mpr ⟨List.mem_filter.mpr ⟨tb_7 _ (List.mem_of_getElem? (i := 131) rfl), rfl⟩, List.forall_mem_cons.mpr ⟨List.mem_filter.mpr ⟨tb_7 _ (List.mem_of_getElem? (i := 132) rfl), rfl⟩, List.forall_mem_cons.mpr ⟨List.mem_filter.mpr ⟨tb_1 _ (List.mem_of_getElem? (i := 0) rfl), rfl⟩, List.forall_mem_cons.mpr ⟨List.mem_filter.mpr ⟨tb_7 _ (List.mem_of_getElem? (i := 133) rfl), rfl⟩, (fun _ h => nomatch h)⟩⟩⟩⟩
theorem hd_X16_crash : yX16_crash.cls = RX16 ∧ yX16_crash.cls ≠ "java/lang/invoke/MethodHandle" ∧ yX16_crash.cls ≠ "java/lang/invoke/VarHandle" ∧ (parseMethodDescriptor yX16_crash.desc).map (fun d => d.parameters.length) = some 1 := by decide +kernel
theorem wcL_140 : ∀ w ∈ [Cond.methodLink RL 140 yX16_crash, .instanceMethod yX16_crash, .selects RX16 yX16_crash yX16_crash, .initialized RX16, .code yX16_crash cX16_crash 2 none], w ∈ WAL := List.forall_mem_cons.mpr ⟨List.mem_filter.mpr ⟨tb_13 _ (List.mem_of_getElem? (i := 0) rfl), rfl⟩, List.forall_mem_cons.mpr ⟨List.mem_filter.mpr ⟨tb_13 _ (List.mem_of_getElem? (i := 1) rfl), rfl⟩, List.forall_mem_cons.mpr ⟨List.mem_filter.mpr ⟨tb_13 _ (List.mem_of_getElem? (i := 2) rfl), rfl⟩, List.forall_mem_cons.mpr ⟨List.mem_filter.mpr ⟨tb_1 _ (List.mem_of_getElem? (i := 14) rfl), rfl⟩, List.forall_mem_cons.mpr ⟨List.mem_filter.mpr ⟨tb_13 _ (List.mem_of_getElem? (i := 3) rfl), rfl⟩, (fun _ h => nomatch h)⟩⟩⟩⟩⟩
theorem hdL_reopen : yL_reopen.cls ≠ "java/lang/invoke/MethodHandle" ∧ yL_reopen.cls ≠ "java/lang/invoke/VarHandle" ∧ (parseMethodDescriptor yL_reopen.desc).map (fun d => d.parameters.length) = some 2 := by decide +kernel
theorem wsL_141 : ∀ w ∈ [Cond.methodLink RL 141 yL_reopen, .static yL_reopen, .initialized yL_reopen.cls, .codeWith yL_reopen cL_reopen 3 (some .int) [(0, 8, 11, 21)]], w ∈ WAL := List.forall_mem_cons.mpr ⟨List.mem_filter.mpr ⟨tb_7 _ (List.mem_of_getElem? (i := 138) rfl), rfl⟩, List.forall_mem_cons.mpr ⟨List.mem_filter.mpr ⟨tb_7 _ (List.mem_of_getElem? (i := 139) rfl), rfl⟩, List.forall_mem_cons.mpr ⟨List.mem_filter.mpr ⟨tb_1 _ (List.mem_of_getElem? (i := 0) rfl), rfl⟩, List.forall_mem_cons.mpr ⟨List.mem_filter.mpr ⟨tb_7 _ (List.mem_of_getElem? (i := 140) rfl), rfl⟩, (fun _ h => nomatch h)⟩⟩⟩⟩
theorem hd_X16_reopen : yX16_reopen.cls = RX16 ∧ yX16_reopen.cls ≠ "java/lang/invoke/MethodHandle" ∧ yX16_reopen.cls ≠ "java/lang/invoke/VarHandle" ∧ (parseMethodDescriptor yX16_reopen.desc).map (fun d => d.parameters.length) = some 0 := by decide +kernel
theorem wcL_143 : ∀ w ∈ [Cond.methodLink RL 143 yX16_reopen, .instanceMethod yX16_reopen, .selects RX16 yX16_reopen yX16_reopen, .initialized RX16, .code yX16_reopen cX16_reopen 1 (some .int)], w ∈ WAL := List.forall_mem_cons.mpr ⟨List.mem_filter.mpr ⟨tb_13 _ (List.mem_of_getElem? (i := 4) rfl), rfl⟩, List.forall_mem_cons.mpr ⟨List.mem_filter.mpr ⟨tb_13 _ (List.mem_of_getElem? (i := 5) rfl), rfl⟩, List.forall_mem_cons.mpr ⟨List.mem_filter.mpr ⟨tb_13 _ (List.mem_of_getElem? (i := 6) rfl), rfl⟩, List.forall_mem_cons.mpr ⟨List.mem_filter.mpr ⟨tb_1 _ (List.mem_of_getElem? (i := 14) rfl), rfl⟩, List.forall_mem_cons.mpr ⟨List.mem_filter.mpr ⟨tb_13 _ (List.mem_of_getElem? (i := 7) rfl), rfl⟩, (fun _ h => nomatch h)⟩⟩⟩⟩⟩
theorem hdL_visible : yL_visible.cls ≠ "java/lang/invoke/MethodHandle" ∧ yL_visible.cls ≠ "java/lang/invoke/VarHandle" ∧ (parseMethodDescriptor yL_visible.desc).map (fun d => d.parameters.length) = some 3 := by decide +kernel
theorem wsL_144 : ∀ w ∈ [Cond.methodLink RL 144 yL_visible, .static yL_visible, .initialized yL_visible.cls, .codeWith yL_visible cL_visible 4 (some .int) [(0, 9, 12, 27)]], w ∈ WAL := List.forall_mem_cons.mpr ⟨List.mem_filter.mpr ⟨tb_7 _ (List.mem_of_getElem? (i := 145) rfl), rfl⟩, List.forall_mem_cons.mpr ⟨List.mem_filter.mpr ⟨tb_7 _ (List.mem_of_getElem? (i := 146) rfl), rfl⟩, List.forall_mem_cons.mpr ⟨List.mem_filter.mpr ⟨tb_1 _ (List.mem_of_getElem? (i := 0) rfl), rfl⟩, List.forall_mem_cons.mpr ⟨List.mem_filter.mpr ⟨tb_7 _ (List.mem_of_getElem? (i := 147) rfl), rfl⟩, (fun _ h => nomatch h)⟩⟩⟩⟩
theorem hd_X16_visible : yX16_visible.cls = RX16 ∧ yX16_visible.cls ≠ "java/lang/invoke/MethodHandle" ∧ yX16_visible.cls ≠ "java/lang/invoke/VarHandle" ∧ (parseMethodDescriptor yX16_visible.desc).map (fun d => d.parameters.length) = some 1 := by decide +kernel
theorem wcL_146 : ∀ w ∈ [Cond.methodLink RL 146 yX16_visible, .instanceMethod yX16_visible, .selects RX16 yX16_visible yX16_visible, .initialized RX16, .code yX16_visible cX16_visible 2 (some .int)], w ∈ WAL := List.forall_mem_cons.mpr ⟨List.mem_filter.mpr ⟨tb_13 _ (List.mem_of_getElem? (i := 8) rfl), rfl⟩, List.forall_mem_cons.mpr ⟨List.mem_filter.mpr ⟨tb_13 _ (List.mem_of_getElem? (i := 9) rfl), rfl⟩, List.forall_mem_cons.mpr ⟨List.mem_filter.mpr ⟨tb_13 _ (List.mem_of_getElem? (i := 10) rfl), rfl⟩, List.forall_mem_cons.mpr ⟨List.mem_filter.mpr ⟨tb_1 _ (List.mem_of_getElem? (i := 14) rfl), rfl⟩, List.forall_mem_cons.mpr ⟨List.mem_filter.mpr ⟨tb_13 _ (List.mem_of_getElem? (i := 11) rfl), rfl⟩, (fun _ h => nomatch h)⟩⟩⟩⟩⟩
theorem hdL_row : yL_row.cls ≠ "java/lang/invoke/MethodHandle" ∧ yL_row.cls ≠ "java/lang/invoke/VarHandle" ∧ (parseMethodDescriptor yL_row.desc).map (fun d => d.parameters.length) = some 5 := by decide +kernel
theorem wsL_147 : ∀ w ∈ [Cond.methodLink RL 147 yL_row, .static yL_row, .initialized yL_row.cls, .codeWith yL_row cL_row 6 (some .int) [(0, 11, 14, 27)]], w ∈ WAL := List.forall_mem_cons.mpr ⟨List.mem_filter.mpr ⟨tb_7 _ (List.mem_of_getElem? (i := 156) rfl), rfl⟩, List.forall_mem_cons.mpr ⟨List.mem_filter.mpr ⟨tb_7 _ (List.mem_of_getElem? (i := 157) rfl), rfl⟩, List.forall_mem_cons.mpr ⟨List.mem_filter.mpr ⟨tb_1 _ (List.mem_of_getElem? (i := 0) rfl), rfl⟩, List.forall_mem_cons.mpr ⟨List.mem_filter.mpr ⟨tb_7 _ (List.mem_of_getElem? (i := 158) rfl), rfl⟩, (fun _ h => nomatch h)⟩⟩⟩⟩
theorem hd_X16_row : yX16_row.cls = RX16 ∧ yX16_row.cls ≠ "java/lang/invoke/MethodHandle" ∧ yX16_row.cls ≠ "java/lang/invoke/VarHandle" ∧ (parseMethodDescriptor yX16_row.desc).map (fun d => d.parameters.length) = some 3 := by decide +kernel
theorem wcL_150 : ∀ w ∈ [Cond.methodLink RL 150 yX16_row, .instanceMethod yX16_row, .selects RX16 yX16_row yX16_row, .initialized RX16, .code yX16_row cX16_row 5 (some .long)], w ∈ WAL := List.forall_mem_cons.mpr ⟨List.mem_filter.mpr ⟨tb_13 _ (List.mem_of_getElem? (i := 16) rfl), rfl⟩, List.forall_mem_cons.mpr ⟨List.mem_filter.mpr ⟨tb_13 _ (List.mem_of_getElem? (i := 17) rfl), rfl⟩, List.forall_mem_cons.mpr ⟨List.mem_filter.mpr ⟨tb_13 _ (List.mem_of_getElem? (i := 18) rfl), rfl⟩, List.forall_mem_cons.mpr ⟨List.mem_filter.mpr ⟨tb_1 _ (List.mem_of_getElem? (i := 14) rfl), rfl⟩, List.forall_mem_cons.mpr ⟨List.mem_filter.mpr ⟨tb_13 _ (List.mem_of_getElem? (i := 19) rfl), rfl⟩, (fun _ h => nomatch h)⟩⟩⟩⟩⟩
theorem hdL_lineage : yL_lineage.cls ≠ "java/lang/invoke/MethodHandle" ∧ yL_lineage.cls ≠ "java/lang/invoke/VarHandle" ∧ (parseMethodDescriptor yL_lineage.desc).map (fun d => d.parameters.length) = some 5 := by decide +kernel
theorem wsL_151 : ∀ w ∈ [Cond.methodLink RL 151 yL_lineage, .static yL_lineage, .initialized yL_lineage.cls, .codeWith yL_lineage cL_lineage 6 (some .int) [(0, 12, 15, 27)]], w ∈ WAL := List.forall_mem_cons.mpr ⟨List.mem_filter.mpr ⟨tb_7 _ (List.mem_of_getElem? (i := 172) rfl), rfl⟩, List.forall_mem_cons.mpr ⟨List.mem_filter.mpr ⟨tb_7 _ (List.mem_of_getElem? (i := 173) rfl), rfl⟩, List.forall_mem_cons.mpr ⟨List.mem_filter.mpr ⟨tb_1 _ (List.mem_of_getElem? (i := 0) rfl), rfl⟩, List.forall_mem_cons.mpr ⟨List.mem_filter.mpr ⟨tb_7 _ (List.mem_of_getElem? (i := 174) rfl), rfl⟩, (fun _ h => nomatch h)⟩⟩⟩⟩
theorem hd_X16_lineage : yX16_lineage.cls = RX16 ∧ yX16_lineage.cls ≠ "java/lang/invoke/MethodHandle" ∧ yX16_lineage.cls ≠ "java/lang/invoke/VarHandle" ∧ (parseMethodDescriptor yX16_lineage.desc).map (fun d => d.parameters.length) = some 3 := by decide +kernel
theorem wcL_153 : ∀ w ∈ [Cond.methodLink RL 153 yX16_lineage, .instanceMethod yX16_lineage, .selects RX16 yX16_lineage yX16_lineage, .initialized RX16, .code yX16_lineage cX16_lineage 8 (some .int)], w ∈ WAL := List.forall_mem_cons.mpr ⟨List.mem_filter.mpr ⟨tb_13 _ (List.mem_of_getElem? (i := 24) rfl), rfl⟩, List.forall_mem_cons.mpr ⟨List.mem_filter.mpr ⟨tb_13 _ (List.mem_of_getElem? (i := 25) rfl), rfl⟩, List.forall_mem_cons.mpr ⟨List.mem_filter.mpr ⟨tb_13 _ (List.mem_of_getElem? (i := 26) rfl), rfl⟩, List.forall_mem_cons.mpr ⟨List.mem_filter.mpr ⟨tb_1 _ (List.mem_of_getElem? (i := 14) rfl), rfl⟩, List.forall_mem_cons.mpr ⟨List.mem_filter.mpr ⟨tb_13 _ (List.mem_of_getElem? (i := 27) rfl), rfl⟩, (fun _ h => nomatch h)⟩⟩⟩⟩⟩
theorem hdL_onePass : yL_onePass.cls ≠ "java/lang/invoke/MethodHandle" ∧ yL_onePass.cls ≠ "java/lang/invoke/VarHandle" ∧ (parseMethodDescriptor yL_onePass.desc).map (fun d => d.parameters.length) = some 2 := by decide +kernel
theorem wsL_154 : ∀ w ∈ [Cond.methodLink RL 154 yL_onePass, .static yL_onePass, .initialized yL_onePass.cls, .codeWith yL_onePass cL_onePass 3 (some .int) [(0, 15, 18, 21)]], w ∈ WAL := List.forall_mem_cons.mpr ⟨List.mem_filter.mpr ⟨tb_7 _ (List.mem_of_getElem? (i := 193) rfl), rfl⟩, List.forall_mem_cons.mpr ⟨List.mem_filter.mpr ⟨tb_7 _ (List.mem_of_getElem? (i := 194) rfl), rfl⟩, List.forall_mem_cons.mpr ⟨List.mem_filter.mpr ⟨tb_1 _ (List.mem_of_getElem? (i := 0) rfl), rfl⟩, List.forall_mem_cons.mpr ⟨List.mem_filter.mpr ⟨tb_7 _ (List.mem_of_getElem? (i := 195) rfl), rfl⟩, (fun _ h => nomatch h)⟩⟩⟩⟩
theorem hd_X16_onePass : yX16_onePass.cls = RX16 ∧ yX16_onePass.cls ≠ "java/lang/invoke/MethodHandle" ∧ yX16_onePass.cls ≠ "java/lang/invoke/VarHandle" ∧ (parseMethodDescriptor yX16_onePass.desc).map (fun d => d.parameters.length) = some 0 := by decide +kernel
theorem wcL_156 : ∀ w ∈ [Cond.methodLink RL 156 yX16_onePass, .instanceMethod yX16_onePass, .selects RX16 yX16_onePass yX16_onePass, .initialized RX16, .code yX16_onePass cX16_onePass 1 (some .boolean)], w ∈ WAL := List.forall_mem_cons.mpr ⟨List.mem_filter.mpr ⟨tb_13 _ (List.mem_of_getElem? (i := 28) rfl), rfl⟩, List.forall_mem_cons.mpr ⟨List.mem_filter.mpr ⟨tb_13 _ (List.mem_of_getElem? (i := 29) rfl), rfl⟩, List.forall_mem_cons.mpr ⟨List.mem_filter.mpr ⟨tb_13 _ (List.mem_of_getElem? (i := 30) rfl), rfl⟩, List.forall_mem_cons.mpr ⟨List.mem_filter.mpr ⟨tb_1 _ (List.mem_of_getElem? (i := 14) rfl), rfl⟩, List.forall_mem_cons.mpr ⟨List.mem_filter.mpr ⟨tb_13 _ (List.mem_of_getElem? (i := 31) rfl), rfl⟩, (fun _ h => nomatch h)⟩⟩⟩⟩⟩
theorem hdL_task : yL_task.cls ≠ "java/lang/invoke/MethodHandle" ∧ yL_task.cls ≠ "java/lang/invoke/VarHandle" ∧ (parseMethodDescriptor yL_task.desc).map (fun d => d.parameters.length) = some 4 := by decide +kernel
theorem wsL_157 : ∀ w ∈ [Cond.methodLink RL 157 yL_task, .static yL_task, .initialized yL_task.cls, .codeWith yL_task cL_task 5 (some .int) [(0, 9, 12, 27), (0, 9, 16, 21), (0, 9, 20, 13)]], w ∈ WAL := List.forall_mem_cons.mpr ⟨List.mem_filter.mpr ⟨tb_8 _ (List.mem_of_getElem? (i := 5) rfl), rfl⟩, List.forall_mem_cons.mpr ⟨List.mem_filter.mpr ⟨tb_8 _ (List.mem_of_getElem? (i := 6) rfl), rfl⟩, List.forall_mem_cons.mpr ⟨List.mem_filter.mpr ⟨tb_1 _ (List.mem_of_getElem? (i := 0) rfl), rfl⟩, List.forall_mem_cons.mpr ⟨List.mem_filter.mpr ⟨tb_8 _ (List.mem_of_getElem? (i := 7) rfl), rfl⟩, (fun _ h => nomatch h)⟩⟩⟩⟩
theorem hd_X16_task : yX16_task.cls = RX16 ∧ yX16_task.cls ≠ "java/lang/invoke/MethodHandle" ∧ yX16_task.cls ≠ "java/lang/invoke/VarHandle" ∧ (parseMethodDescriptor yX16_task.desc).map (fun d => d.parameters.length) = some 2 := by decide +kernel
theorem wcL_159 : ∀ w ∈ [Cond.methodLink RL 159 yX16_task, .instanceMethod yX16_task, .selects RX16 yX16_task yX16_task, .initialized RX16, .code yX16_task cX16_task 5 (some .long)], w ∈ WAL := List.forall_mem_cons.mpr ⟨List.mem_filter.mpr ⟨tb_13 _ (List.mem_of_getElem? (i := 108) rfl), rfl⟩, List.forall_mem_cons.mpr ⟨List.mem_filter.mpr ⟨tb_13 _ (List.mem_of_getElem? (i := 109) rfl), rfl⟩, List.forall_mem_cons.mpr ⟨List.mem_filter.mpr ⟨tb_13 _ (List.mem_of_getElem? (i := 110) rfl), rfl⟩, List.forall_mem_cons.mpr ⟨List.mem_filter.mpr ⟨tb_1 _ (List.mem_of_getElem? (i := 14) rfl), rfl⟩, List.forall_mem_cons.mpr ⟨List.mem_filter.mpr ⟨tb_13 _ (List.mem_of_getElem? (i := 111) rfl), rfl⟩, (fun _ h => nomatch h)⟩⟩⟩⟩⟩
theorem hdL_channel : yL_channel.cls ≠ "java/lang/invoke/MethodHandle" ∧ yL_channel.cls ≠ "java/lang/invoke/VarHandle" ∧ (parseMethodDescriptor yL_channel.desc).map (fun d => d.parameters.length) = some 4 := by decide +kernel
theorem wsL_160 : ∀ w ∈ [Cond.methodLink RL 160 yL_channel, .static yL_channel, .initialized yL_channel.cls, .codeWith yL_channel cL_channel 5 (some .int) [(0, 9, 12, 27), (0, 9, 16, 21), (0, 9, 20, 13)]], w ∈ WAL := List.forall_mem_cons.mpr ⟨List.mem_filter.mpr ⟨tb_8 _ (List.mem_of_getElem? (i := 20) rfl), rfl⟩, List.forall_mem_cons.mpr ⟨List.mem_filter.mpr ⟨tb_8 _ (List.mem_of_getElem? (i := 21) rfl), rfl⟩, List.forall_mem_cons.mpr ⟨List.mem_filter.mpr ⟨tb_1 _ (List.mem_of_getElem? (i := 0) rfl), rfl⟩, List.forall_mem_cons.mpr ⟨List.mem_filter.mpr ⟨tb_8 _ (List.mem_of_getElem? (i := 22) rfl), rfl⟩, (fun _ h => nomatch h)⟩⟩⟩⟩
theorem hd_X16_channel_ : yX16_channel_.cls = RX16 ∧ yX16_channel_.cls ≠ "java/lang/invoke/MethodHandle" ∧ yX16_channel_.cls ≠ "java/lang/invoke/VarHandle" ∧ (parseMethodDescriptor yX16_channel_.desc).map (fun d => d.parameters.length) = some 2 := by decide +kernel
theorem wcL_162 : ∀ w ∈ [Cond.methodLink RL 162 yX16_channel_, .instanceMethod yX16_channel_, .selects RX16 yX16_channel_ yX16_channel_, .initialized RX16, .code yX16_channel_ cX16_channel_ 3 (some .long)], w ∈ WAL := List.forall_mem_cons.mpr ⟨List.mem_filter.mpr ⟨tb_13 _ (List.mem_of_getElem? (i := 112) rfl), rfl⟩, List.forall_mem_cons.mpr ⟨List.mem_filter.mpr ⟨tb_13 _ (List.mem_of_getElem? (i := 113) rfl), rfl⟩, List.forall_mem_cons.mpr ⟨List.mem_filter.mpr ⟨tb_13 _ (List.mem_of_getElem? (i := 114) rfl), rfl⟩, List.forall_mem_cons.mpr ⟨List.mem_filter.mpr ⟨tb_1 _ (List.mem_of_getElem? (i := 14) rfl), rfl⟩, List.forall_mem_cons.mpr ⟨List.mem_filter.mpr ⟨tb_13 _ (List.mem_of_getElem? (i := 115) rfl), rfl⟩, (fun _ h => nomatch h)⟩⟩⟩⟩⟩
theorem hdL_records : yL_records.cls ≠ "java/lang/invoke/MethodHandle" ∧ yL_records.cls ≠ "java/lang/invoke/VarHandle" ∧ (parseMethodDescriptor yL_records.desc).map (fun d => d.parameters.length) = some 4 := by decide +kernel
theorem wsL_163 : ∀ w ∈ [Cond.methodLink RL 163 yL_records, .static yL_records, .initialized yL_records.cls, .codeWith yL_records cL_records 6 (some .int) [(0, 11, 14, 27), (0, 11, 18, 21), (0, 11, 22, 13)]], w ∈ WAL := List.forall_mem_cons.mpr ⟨List.mem_filter.mpr ⟨tb_8 _ (List.mem_of_getElem? (i := 31) rfl), rfl⟩, List.forall_mem_cons.mpr ⟨List.mem_filter.mpr ⟨tb_8 _ (List.mem_of_getElem? (i := 32) rfl), rfl⟩, List.forall_mem_cons.mpr ⟨List.mem_filter.mpr ⟨tb_1 _ (List.mem_of_getElem? (i := 0) rfl), rfl⟩, List.forall_mem_cons.mpr ⟨List.mem_filter.mpr ⟨tb_8 _ (List.mem_of_getElem? (i := 33) rfl), rfl⟩, (fun _ h => nomatch h)⟩⟩⟩⟩
theorem hd_X16_records : yX16_records.cls = RX16 ∧ yX16_records.cls ≠ "java/lang/invoke/MethodHandle" ∧ yX16_records.cls ≠ "java/lang/invoke/VarHandle" ∧ (parseMethodDescriptor yX16_records.desc).map (fun d => d.parameters.length) = some 2 := by decide +kernel
theorem wcL_166 : ∀ w ∈ [Cond.methodLink RL 166 yX16_records, .instanceMethod yX16_records, .selects RX16 yX16_records yX16_records, .initialized RX16, .code yX16_records cX16_records 6 (some .int)], w ∈ WAL := List.forall_mem_cons.mpr ⟨List.mem_filter.mpr ⟨tb_13 _ (List.mem_of_getElem? (i := 117) rfl), rfl⟩, List.forall_mem_cons.mpr ⟨List.mem_filter.mpr ⟨tb_13 _ (List.mem_of_getElem? (i := 118) rfl), rfl⟩, List.forall_mem_cons.mpr ⟨List.mem_filter.mpr ⟨tb_13 _ (List.mem_of_getElem? (i := 119) rfl), rfl⟩, List.forall_mem_cons.mpr ⟨List.mem_filter.mpr ⟨tb_1 _ (List.mem_of_getElem? (i := 14) rfl), rfl⟩, List.forall_mem_cons.mpr ⟨List.mem_filter.mpr ⟨tb_13 _ (List.mem_of_getElem? (i := 120) rfl), rfl⟩, (fun _ h => nomatch h)⟩⟩⟩⟩⟩
theorem hd_X12_told : yX12_told.cls = RX12 ∧ yX12_told.cls ≠ "java/lang/invoke/MethodHandle" ∧ yX12_told.cls ≠ "java/lang/invoke/VarHandle" ∧ (parseMethodDescriptor yX12_told.desc).map (fun d => d.parameters.length) = some 1 := by decide +kernel
theorem wcL_167 : ∀ w ∈ [Cond.methodLink RL 167 yX12_told, .instanceMethod yX12_told, .selects RX12 yX12_told yX12_told, .initialized RX12, .code yX12_told cX12_told 2 (some .int)], w ∈ WAL := List.forall_mem_cons.mpr ⟨List.mem_filter.mpr ⟨tb_3 _ (List.mem_of_getElem? (i := 152) rfl), rfl⟩, List.forall_mem_cons.mpr ⟨List.mem_filter.mpr ⟨tb_3 _ (List.mem_of_getElem? (i := 153) rfl), rfl⟩, List.forall_mem_cons.mpr ⟨List.mem_filter.mpr ⟨tb_3 _ (List.mem_of_getElem? (i := 154) rfl), rfl⟩, List.forall_mem_cons.mpr ⟨List.mem_filter.mpr ⟨tb_1 _ (List.mem_of_getElem? (i := 1) rfl), rfl⟩, List.forall_mem_cons.mpr ⟨List.mem_filter.mpr ⟨tb_3 _ (List.mem_of_getElem? (i := 155) rfl), rfl⟩, (fun _ h => nomatch h)⟩⟩⟩⟩⟩
theorem hd_X16_told : yX16_told.cls = RX16 ∧ yX16_told.cls ≠ "java/lang/invoke/MethodHandle" ∧ yX16_told.cls ≠ "java/lang/invoke/VarHandle" ∧ (parseMethodDescriptor yX16_told.desc).map (fun d => d.parameters.length) = some 1 := by decide +kernel
theorem wcL_170 : ∀ w ∈ [Cond.methodLink RL 170 yX16_told, .instanceMethod yX16_told, .selects RX16 yX16_told yX16_told, .initialized RX16, .code yX16_told cX16_told 2 (some .int)], w ∈ WAL := List.forall_mem_cons.mpr ⟨List.mem_filter.mpr ⟨tb_13 _ (List.mem_of_getElem? (i := 121) rfl), rfl⟩, List.forall_mem_cons.mpr ⟨List.mem_filter.mpr ⟨tb_13 _ (List.mem_of_getElem? (i := 122) rfl), rfl⟩, List.forall_mem_cons.mpr ⟨List.mem_filter.mpr ⟨tb_13 _ (List.mem_of_getElem? (i := 123) rfl), rfl⟩, List.forall_mem_cons.mpr ⟨List.mem_filter.mpr ⟨tb_1 _ (List.mem_of_getElem? (i := 14) rfl), rfl⟩, List.forall_mem_cons.mpr ⟨List.mem_filter.mpr ⟨tb_13 _ (List.mem_of_getElem? (i := 124) rfl), rfl⟩, (fun _ h => nomatch h)⟩⟩⟩⟩⟩
theorem hd_X12_clear : yX12_clear.cls = RX12 ∧ yX12_clear.cls ≠ "java/lang/invoke/MethodHandle" ∧ yX12_clear.cls ≠ "java/lang/invoke/VarHandle" ∧ (parseMethodDescriptor yX12_clear.desc).map (fun d => d.parameters.length) = some 0 := by decide +kernel
theorem wcL_171 : ∀ w ∈ [Cond.methodLink RL 171 yX12_clear, .instanceMethod yX12_clear, .selects RX12 yX12_clear yX12_clear, .initialized RX12, .code yX12_clear cX12_clear 1 none], w ∈ WAL := List.forall_mem_cons.mpr ⟨List.mem_filter.mpr ⟨tb_3 _ (List.mem_of_getElem? (i := 160) rfl), rfl⟩, List.forall_mem_cons.mpr ⟨List.mem_filter.mpr ⟨tb_3 _ (List.mem_of_getElem? (i := 161) rfl), rfl⟩, List.forall_mem_cons.mpr ⟨List.mem_filter.mpr ⟨tb_3 _ (List.mem_of_getElem? (i := 162) rfl), rfl⟩, List.forall_mem_cons.mpr ⟨List.mem_filter.mpr ⟨tb_1 _ (List.mem_of_getElem? (i := 1) rfl), rfl⟩, List.forall_mem_cons.mpr ⟨List.mem_filter.mpr ⟨tb_3 _ (List.mem_of_getElem? (i := 163) rfl), rfl⟩, (fun _ h => nomatch h)⟩⟩⟩⟩⟩
theorem wcL_174 : ∀ w ∈ [Cond.methodLink RL 174 yX16_clear, .instanceMethod yX16_clear, .selects RX16 yX16_clear yX16_clear, .initialized RX16, .code yX16_clear cX16_clear 2 none], w ∈ WAL := List.forall_mem_cons.mpr ⟨List.mem_filter.mpr ⟨tb_13 _ (List.mem_of_getElem? (i := 129) rfl), rfl⟩, List.forall_mem_cons.mpr ⟨List.mem_filter.mpr ⟨tb_8 _ (List.mem_of_getElem? (i := 234) rfl), rfl⟩, List.forall_mem_cons.mpr ⟨List.mem_filter.mpr ⟨tb_8 _ (List.mem_of_getElem? (i := 235) rfl), rfl⟩, List.forall_mem_cons.mpr ⟨List.mem_filter.mpr ⟨tb_1 _ (List.mem_of_getElem? (i := 14) rfl), rfl⟩, List.forall_mem_cons.mpr ⟨List.mem_filter.mpr ⟨tb_8 _ (List.mem_of_getElem? (i := 236) rfl), rfl⟩, (fun _ h => nomatch h)⟩⟩⟩⟩⟩
