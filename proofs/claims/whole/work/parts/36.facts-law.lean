/-! what each instruction is, method by method (by program) -/

theorem q234_0 : nwB 234 0 8 7 = true := by decide +kernel
theorem q234_3 : decode (mB 234) 3 = .ok (.dup, 1) := by decide +kernel
theorem q234_4 : cfB 234 4 127 81 2 4 0 = true := by decide +kernel
theorem q234_7 : decode (mB 234) 7 = .ok (.astore_n 1, 1) := by decide +kernel
theorem q234_8 : nwB 234 8 128 8 = true := by decide +kernel
theorem q234_11 : decode (mB 234) 11 = .ok (.dup, 1) := by decide +kernel
theorem q234_12 : cfB 234 12 130 134 2 4 0 = true := by decide +kernel
theorem q234_15 : decode (mB 234) 15 = .ok (.astore_n 2, 1) := by decide +kernel
theorem q234_16 : decode (mB 234) 16 = .ok (.iconst 1, 1) := by decide +kernel
theorem q234_17 : naB 234 17 1 = true := by decide +kernel
theorem q234_19 : decode (mB 234) 19 = .ok (.astore_n 3, 1) := by decide +kernel
theorem q234_20 : decode (mB 234) 20 = .ok (.iconst 1, 1) := by decide +kernel
theorem q234_21 : naB 234 21 2 = true := by decide +kernel
theorem q234_23 : decode (mB 234) 23 = .ok (.astore 4, 2) := by decide +kernel
theorem q234_25 : decode (mB 234) 25 = .ok (.iconst 0, 1) := by decide +kernel
theorem q234_26 : decode (mB 234) 26 = .ok (.istore 5, 2) := by decide +kernel
theorem q234_28 : decode (mB 234) 28 = .ok (.iload 5, 2) := by decide +kernel
theorem q234_30 : decode (mB 234) 30 = .ok (.aload_n 0, 1) := by decide +kernel
theorem q234_31 : decode (mB 234) 31 = .ok (.arraylength, 1) := by decide +kernel
theorem q234_32 : decode (mB 234) 32 = .ok (.bipush 7, 2) := by decide +kernel
theorem q234_34 : decode (mB 234) 34 = .ok (.isub, 1) := by decide +kernel
theorem q234_35 : decode (mB 234) 35 = .ok (.if_icmp .gt 2177, 3) := by decide +kernel
theorem q234_38 : decode (mB 234) 38 = .ok (.aload_n 0, 1) := by decide +kernel
theorem q234_39 : decode (mB 234) 39 = .ok (.iload 5, 2) := by decide +kernel
theorem q234_41 : decode (mB 234) 41 = .ok (.iaload, 1) := by decide +kernel
theorem q234_42 : decode (mB 234) 42 = .ok (.bipush 63, 2) := by decide +kernel
theorem q234_44 : decode (mB 234) 44 = .ok (.iand, 1) := by decide +kernel
theorem q234_45 : decode (mB 234) 45 = .ok (.tableswitch 2161 0 37 #[167, 285, 341, 421, 434, 490, 545, 622, 700, 756, 824, 880, 964, 1022, 1090, 1158, 1226, 1239, 1295, 1351, 1407, 1463, 1531, 1587, 1638, 1682, 1726, 1782, 1795, 1839, 1852, 1910, 1966, 2034, 2047, 2060, 2104, 2148], 167) := by decide +kernel
theorem q234_212 : decode (mB 234) 212 = .ok (.aload_n 1, 1) := by decide +kernel
theorem q234_213 : decode (mB 234) 213 = .ok (.aload_n 0, 1) := by decide +kernel
theorem q234_214 : decode (mB 234) 214 = .ok (.iload 5, 2) := by decide +kernel
theorem q234_216 : decode (mB 234) 216 = .ok (.iconst 1, 1) := by decide +kernel
theorem q234_217 : decode (mB 234) 217 = .ok (.iadd, 1) := by decide +kernel
theorem q234_218 : decode (mB 234) 218 = .ok (.iaload, 1) := by decide +kernel
theorem q234_219 : decode (mB 234) 219 = .ok (.aload_n 0, 1) := by decide +kernel
theorem q234_220 : decode (mB 234) 220 = .ok (.iload 5, 2) := by decide +kernel
theorem q234_222 : decode (mB 234) 222 = .ok (.iconst 2, 1) := by decide +kernel
theorem q234_223 : decode (mB 234) 223 = .ok (.iadd, 1) := by decide +kernel
theorem q234_224 : decode (mB 234) 224 = .ok (.iaload, 1) := by decide +kernel
theorem q234_225 : decode (mB 234) 225 = .ok (.aload_n 0, 1) := by decide +kernel
theorem q234_226 : decode (mB 234) 226 = .ok (.iload 5, 2) := by decide +kernel
theorem q234_228 : decode (mB 234) 228 = .ok (.iconst 3, 1) := by decide +kernel
theorem q234_229 : decode (mB 234) 229 = .ok (.iadd, 1) := by decide +kernel
theorem q234_230 : decode (mB 234) 230 = .ok (.iaload, 1) := by decide +kernel
theorem q234_231 : decode (mB 234) 231 = .ok (.aload_n 0, 1) := by decide +kernel
theorem q234_232 : decode (mB 234) 232 = .ok (.iload 5, 2) := by decide +kernel
theorem q234_234 : decode (mB 234) 234 = .ok (.iconst 4, 1) := by decide +kernel
theorem q234_235 : decode (mB 234) 235 = .ok (.iadd, 1) := by decide +kernel
theorem q234_236 : decode (mB 234) 236 = .ok (.iaload, 1) := by decide +kernel
theorem q234_237 : decode (mB 234) 237 = .ok (.aload_n 0, 1) := by decide +kernel
theorem q234_238 : decode (mB 234) 238 = .ok (.iload 5, 2) := by decide +kernel
theorem q234_240 : decode (mB 234) 240 = .ok (.iconst 5, 1) := by decide +kernel
theorem q234_241 : decode (mB 234) 241 = .ok (.iadd, 1) := by decide +kernel
theorem q234_242 : decode (mB 234) 242 = .ok (.iaload, 1) := by decide +kernel
theorem q234_243 : decode (mB 234) 243 = .ok (.aload_n 0, 1) := by decide +kernel
theorem q234_244 : decode (mB 234) 244 = .ok (.iload 5, 2) := by decide +kernel
theorem q234_246 : decode (mB 234) 246 = .ok (.bipush 6, 2) := by decide +kernel
theorem q234_248 : decode (mB 234) 248 = .ok (.iadd, 1) := by decide +kernel
theorem q234_249 : decode (mB 234) 249 = .ok (.iaload, 1) := by decide +kernel
theorem q234_250 : decode (mB 234) 250 = .ok (.aload_n 3, 1) := by decide +kernel
theorem q234_251 : cfW 234 251 131 203 8 = true := by decide +kernel
theorem q234_254 : decode (mB 234) 254 = .ok (.istore 6, 2) := by decide +kernel
theorem q234_256 : decode (mB 234) 256 = .ok (.aload_n 2, 1) := by decide +kernel
theorem q234_257 : decode (mB 234) 257 = .ok (.aload_n 0, 1) := by decide +kernel
theorem q234_258 : decode (mB 234) 258 = .ok (.iload 5, 2) := by decide +kernel
theorem q234_260 : decode (mB 234) 260 = .ok (.iconst 1, 1) := by decide +kernel
theorem q234_261 : decode (mB 234) 261 = .ok (.iadd, 1) := by decide +kernel
theorem q234_262 : decode (mB 234) 262 = .ok (.iaload, 1) := by decide +kernel
theorem q234_263 : decode (mB 234) 263 = .ok (.aload_n 0, 1) := by decide +kernel
theorem q234_264 : decode (mB 234) 264 = .ok (.iload 5, 2) := by decide +kernel
theorem q234_266 : decode (mB 234) 266 = .ok (.iconst 2, 1) := by decide +kernel
theorem q234_267 : decode (mB 234) 267 = .ok (.iadd, 1) := by decide +kernel
theorem q234_268 : decode (mB 234) 268 = .ok (.iaload, 1) := by decide +kernel
theorem q234_269 : decode (mB 234) 269 = .ok (.aload_n 0, 1) := by decide +kernel
theorem q234_270 : decode (mB 234) 270 = .ok (.iload 5, 2) := by decide +kernel
theorem q234_272 : decode (mB 234) 272 = .ok (.iconst 3, 1) := by decide +kernel
theorem q234_273 : decode (mB 234) 273 = .ok (.iadd, 1) := by decide +kernel
theorem q234_274 : decode (mB 234) 274 = .ok (.iaload, 1) := by decide +kernel
theorem q234_275 : decode (mB 234) 275 = .ok (.aload_n 0, 1) := by decide +kernel
theorem q234_276 : decode (mB 234) 276 = .ok (.iload 5, 2) := by decide +kernel
theorem q234_278 : decode (mB 234) 278 = .ok (.iconst 4, 1) := by decide +kernel
theorem q234_279 : decode (mB 234) 279 = .ok (.iadd, 1) := by decide +kernel
theorem q234_280 : decode (mB 234) 280 = .ok (.iaload, 1) := by decide +kernel
theorem q234_281 : decode (mB 234) 281 = .ok (.aload_n 0, 1) := by decide +kernel
theorem q234_282 : decode (mB 234) 282 = .ok (.iload 5, 2) := by decide +kernel
theorem q234_284 : decode (mB 234) 284 = .ok (.iconst 5, 1) := by decide +kernel
theorem q234_285 : decode (mB 234) 285 = .ok (.iadd, 1) := by decide +kernel
theorem q234_286 : decode (mB 234) 286 = .ok (.iaload, 1) := by decide +kernel
theorem q234_287 : decode (mB 234) 287 = .ok (.aload_n 0, 1) := by decide +kernel
theorem q234_288 : decode (mB 234) 288 = .ok (.iload 5, 2) := by decide +kernel
theorem q234_290 : decode (mB 234) 290 = .ok (.bipush 6, 2) := by decide +kernel
theorem q234_292 : decode (mB 234) 292 = .ok (.iadd, 1) := by decide +kernel
theorem q234_293 : decode (mB 234) 293 = .ok (.iaload, 1) := by decide +kernel
theorem q234_294 : cfB 234 294 136 140 1 4 6 = true := by decide +kernel
theorem q234_297 : decode (mB 234) 297 = .ok (.istore 7, 2) := by decide +kernel
theorem q234_299 : decode (mB 234) 299 = .ok (.aload_n 2, 1) := by decide +kernel
theorem q234_300 : cfB 234 300 137 135 1 4 0 = true := by decide +kernel
theorem q234_303 : decode (mB 234) 303 = .ok (.iload 6, 2) := by decide +kernel
theorem q234_305 : decode (mB 234) 305 = .ok (.if_icmp .eq 5, 3) := by decide +kernel
theorem q234_308 : decode (mB 234) 308 = .ok (.iconst 0, 1) := by decide +kernel
theorem q234_309 : decode (mB 234) 309 = .ok (.ireturn, 1) := by decide +kernel
theorem q234_310 : decode (mB 234) 310 = .ok (.iload 6, 2) := by decide +kernel
theorem q234_312 : decode (mB 234) 312 = .ok (.ifCond .ne 15, 3) := by decide +kernel
theorem q234_315 : decode (mB 234) 315 = .ok (.aload_n 3, 1) := by decide +kernel
theorem q234_316 : decode (mB 234) 316 = .ok (.iconst 0, 1) := by decide +kernel
theorem q234_317 : decode (mB 234) 317 = .ok (.laload, 1) := by decide +kernel
theorem q234_318 : decode (mB 234) 318 = .ok (.iload 7, 2) := by decide +kernel
theorem q234_320 : decode (mB 234) 320 = .ok (.i2l, 1) := by decide +kernel
theorem q234_321 : decode (mB 234) 321 = .ok (.lcmp, 1) := by decide +kernel
theorem q234_322 : decode (mB 234) 322 = .ok (.ifCond .eq 5, 3) := by decide +kernel
theorem q234_325 : decode (mB 234) 325 = .ok (.iconst 0, 1) := by decide +kernel
theorem q234_326 : decode (mB 234) 326 = .ok (.ireturn, 1) := by decide +kernel
theorem q234_327 : decode (mB 234) 327 = .ok (.goto 1879, 3) := by decide +kernel
theorem q234_330 : decode (mB 234) 330 = .ok (.aload_n 1, 1) := by decide +kernel
theorem q234_331 : decode (mB 234) 331 = .ok (.aload_n 0, 1) := by decide +kernel
theorem q234_332 : decode (mB 234) 332 = .ok (.iload 5, 2) := by decide +kernel
theorem q234_334 : decode (mB 234) 334 = .ok (.iconst 1, 1) := by decide +kernel
theorem q234_335 : decode (mB 234) 335 = .ok (.iadd, 1) := by decide +kernel
theorem q234_336 : decode (mB 234) 336 = .ok (.iaload, 1) := by decide +kernel
theorem q234_337 : decode (mB 234) 337 = .ok (.aload_n 3, 1) := by decide +kernel
theorem q234_338 : cfW 234 338 140 204 3 = true := by decide +kernel
theorem q234_341 : decode (mB 234) 341 = .ok (.istore 6, 2) := by decide +kernel
theorem q234_343 : decode (mB 234) 343 = .ok (.aload_n 2, 1) := by decide +kernel
theorem q234_344 : decode (mB 234) 344 = .ok (.aload_n 0, 1) := by decide +kernel
theorem q234_345 : decode (mB 234) 345 = .ok (.iload 5, 2) := by decide +kernel
theorem q234_347 : decode (mB 234) 347 = .ok (.iconst 1, 1) := by decide +kernel
theorem q234_348 : decode (mB 234) 348 = .ok (.iadd, 1) := by decide +kernel
theorem q234_349 : decode (mB 234) 349 = .ok (.iaload, 1) := by decide +kernel
theorem q234_350 : cfB 234 350 143 141 1 4 1 = true := by decide +kernel
theorem q234_353 : decode (mB 234) 353 = .ok (.istore 7, 2) := by decide +kernel
theorem q234_355 : decode (mB 234) 355 = .ok (.aload_n 2, 1) := by decide +kernel
theorem q234_356 : cfB 234 356 137 135 1 4 0 = true := by decide +kernel
theorem q234_359 : decode (mB 234) 359 = .ok (.iload 6, 2) := by decide +kernel
theorem q234_361 : decode (mB 234) 361 = .ok (.if_icmp .eq 5, 3) := by decide +kernel
theorem q234_364 : decode (mB 234) 364 = .ok (.iconst 0, 1) := by decide +kernel
theorem q234_365 : decode (mB 234) 365 = .ok (.ireturn, 1) := by decide +kernel
theorem q234_366 : decode (mB 234) 366 = .ok (.iload 6, 2) := by decide +kernel
theorem q234_368 : decode (mB 234) 368 = .ok (.ifCond .ne 15, 3) := by decide +kernel
theorem q234_371 : decode (mB 234) 371 = .ok (.aload_n 3, 1) := by decide +kernel
theorem q234_372 : decode (mB 234) 372 = .ok (.iconst 0, 1) := by decide +kernel
theorem q234_373 : decode (mB 234) 373 = .ok (.laload, 1) := by decide +kernel
theorem q234_374 : decode (mB 234) 374 = .ok (.iload 7, 2) := by decide +kernel
theorem q234_376 : decode (mB 234) 376 = .ok (.i2l, 1) := by decide +kernel
theorem q234_377 : decode (mB 234) 377 = .ok (.lcmp, 1) := by decide +kernel
theorem q234_378 : decode (mB 234) 378 = .ok (.ifCond .eq 5, 3) := by decide +kernel
theorem q234_381 : decode (mB 234) 381 = .ok (.iconst 0, 1) := by decide +kernel
theorem q234_382 : decode (mB 234) 382 = .ok (.ireturn, 1) := by decide +kernel
theorem q234_383 : decode (mB 234) 383 = .ok (.goto 1823, 3) := by decide +kernel
theorem q234_386 : decode (mB 234) 386 = .ok (.aload_n 1, 1) := by decide +kernel
theorem q234_387 : decode (mB 234) 387 = .ok (.aload_n 0, 1) := by decide +kernel
theorem q234_388 : decode (mB 234) 388 = .ok (.iload 5, 2) := by decide +kernel
theorem q234_390 : decode (mB 234) 390 = .ok (.iconst 1, 1) := by decide +kernel
theorem q234_391 : decode (mB 234) 391 = .ok (.iadd, 1) := by decide +kernel
theorem q234_392 : decode (mB 234) 392 = .ok (.iaload, 1) := by decide +kernel
theorem q234_393 : decode (mB 234) 393 = .ok (.aload_n 0, 1) := by decide +kernel
theorem q234_394 : decode (mB 234) 394 = .ok (.iload 5, 2) := by decide +kernel
theorem q234_396 : decode (mB 234) 396 = .ok (.iconst 2, 1) := by decide +kernel
theorem q234_397 : decode (mB 234) 397 = .ok (.iadd, 1) := by decide +kernel
theorem q234_398 : decode (mB 234) 398 = .ok (.iaload, 1) := by decide +kernel
theorem q234_399 : decode (mB 234) 399 = .ok (.aload_n 0, 1) := by decide +kernel
theorem q234_400 : decode (mB 234) 400 = .ok (.iload 5, 2) := by decide +kernel
theorem q234_402 : decode (mB 234) 402 = .ok (.iconst 3, 1) := by decide +kernel
theorem q234_403 : decode (mB 234) 403 = .ok (.iadd, 1) := by decide +kernel
theorem q234_404 : decode (mB 234) 404 = .ok (.iaload, 1) := by decide +kernel
theorem q234_405 : decode (mB 234) 405 = .ok (.aload_n 3, 1) := by decide +kernel
theorem q234_406 : cfW 234 406 144 205 5 = true := by decide +kernel
theorem q234_409 : decode (mB 234) 409 = .ok (.istore 6, 2) := by decide +kernel
theorem q234_411 : decode (mB 234) 411 = .ok (.aload_n 2, 1) := by decide +kernel
theorem q234_412 : decode (mB 234) 412 = .ok (.aload_n 0, 1) := by decide +kernel
theorem q234_413 : decode (mB 234) 413 = .ok (.iload 5, 2) := by decide +kernel
theorem q234_415 : decode (mB 234) 415 = .ok (.iconst 1, 1) := by decide +kernel
theorem q234_416 : decode (mB 234) 416 = .ok (.iadd, 1) := by decide +kernel
theorem q234_417 : decode (mB 234) 417 = .ok (.iaload, 1) := by decide +kernel
theorem q234_418 : decode (mB 234) 418 = .ok (.aload_n 0, 1) := by decide +kernel
theorem q234_419 : decode (mB 234) 419 = .ok (.iload 5, 2) := by decide +kernel
theorem q234_421 : decode (mB 234) 421 = .ok (.iconst 2, 1) := by decide +kernel
theorem q234_422 : decode (mB 234) 422 = .ok (.iadd, 1) := by decide +kernel
theorem q234_423 : decode (mB 234) 423 = .ok (.iaload, 1) := by decide +kernel
theorem q234_424 : decode (mB 234) 424 = .ok (.aload_n 0, 1) := by decide +kernel
theorem q234_425 : decode (mB 234) 425 = .ok (.iload 5, 2) := by decide +kernel
theorem q234_427 : decode (mB 234) 427 = .ok (.iconst 3, 1) := by decide +kernel
theorem q234_428 : decode (mB 234) 428 = .ok (.iadd, 1) := by decide +kernel
theorem q234_429 : decode (mB 234) 429 = .ok (.iaload, 1) := by decide +kernel
theorem q234_430 : cfB 234 430 147 142 1 4 3 = true := by decide +kernel
theorem q234_433 : decode (mB 234) 433 = .ok (.istore 7, 2) := by decide +kernel
theorem q234_435 : decode (mB 234) 435 = .ok (.aload_n 2, 1) := by decide +kernel
theorem q234_436 : cfB 234 436 137 135 1 4 0 = true := by decide +kernel
theorem q234_439 : decode (mB 234) 439 = .ok (.iload 6, 2) := by decide +kernel
theorem q234_441 : decode (mB 234) 441 = .ok (.if_icmp .eq 5, 3) := by decide +kernel
theorem q234_444 : decode (mB 234) 444 = .ok (.iconst 0, 1) := by decide +kernel
theorem q234_445 : decode (mB 234) 445 = .ok (.ireturn, 1) := by decide +kernel
theorem q234_446 : decode (mB 234) 446 = .ok (.iload 6, 2) := by decide +kernel
theorem q234_448 : decode (mB 234) 448 = .ok (.ifCond .ne 15, 3) := by decide +kernel
theorem q234_451 : decode (mB 234) 451 = .ok (.aload_n 3, 1) := by decide +kernel
theorem q234_452 : decode (mB 234) 452 = .ok (.iconst 0, 1) := by decide +kernel
theorem q234_453 : decode (mB 234) 453 = .ok (.laload, 1) := by decide +kernel
theorem q234_454 : decode (mB 234) 454 = .ok (.iload 7, 2) := by decide +kernel
theorem q234_456 : decode (mB 234) 456 = .ok (.i2l, 1) := by decide +kernel
theorem q234_457 : decode (mB 234) 457 = .ok (.lcmp, 1) := by decide +kernel
theorem q234_458 : decode (mB 234) 458 = .ok (.ifCond .eq 5, 3) := by decide +kernel
theorem q234_461 : decode (mB 234) 461 = .ok (.iconst 0, 1) := by decide +kernel
theorem q234_462 : decode (mB 234) 462 = .ok (.ireturn, 1) := by decide +kernel
theorem q234_463 : decode (mB 234) 463 = .ok (.goto 1743, 3) := by decide +kernel
theorem q234_466 : decode (mB 234) 466 = .ok (.aload_n 1, 1) := by decide +kernel
theorem q234_467 : cfB 234 467 148 85 1 4 0 = true := by decide +kernel
theorem q234_470 : decode (mB 234) 470 = .ok (.aload_n 2, 1) := by decide +kernel
theorem q234_471 : cfB 234 471 151 143 1 4 0 = true := by decide +kernel
theorem q234_474 : decode (mB 234) 474 = .ok (.if_icmp .eq 1732, 3) := by decide +kernel
theorem q234_477 : decode (mB 234) 477 = .ok (.iconst 0, 1) := by decide +kernel
theorem q234_478 : decode (mB 234) 478 = .ok (.ireturn, 1) := by decide +kernel
theorem q234_479 : decode (mB 234) 479 = .ok (.aload_n 1, 1) := by decide +kernel
theorem q234_480 : decode (mB 234) 480 = .ok (.aload_n 0, 1) := by decide +kernel
theorem q234_481 : decode (mB 234) 481 = .ok (.iload 5, 2) := by decide +kernel
theorem q234_483 : decode (mB 234) 483 = .ok (.iconst 1, 1) := by decide +kernel
theorem q234_484 : decode (mB 234) 484 = .ok (.iadd, 1) := by decide +kernel
theorem q234_485 : decode (mB 234) 485 = .ok (.iaload, 1) := by decide +kernel
theorem q234_486 : decode (mB 234) 486 = .ok (.aload_n 3, 1) := by decide +kernel
theorem q234_487 : cfW 234 487 152 206 3 = true := by decide +kernel
theorem q234_490 : decode (mB 234) 490 = .ok (.istore 6, 2) := by decide +kernel
theorem q234_492 : decode (mB 234) 492 = .ok (.aload_n 2, 1) := by decide +kernel
theorem q234_493 : decode (mB 234) 493 = .ok (.aload_n 0, 1) := by decide +kernel
theorem q234_494 : decode (mB 234) 494 = .ok (.iload 5, 2) := by decide +kernel
theorem q234_496 : decode (mB 234) 496 = .ok (.iconst 1, 1) := by decide +kernel
theorem q234_497 : decode (mB 234) 497 = .ok (.iadd, 1) := by decide +kernel
theorem q234_498 : decode (mB 234) 498 = .ok (.iaload, 1) := by decide +kernel
theorem q234_499 : cfB 234 499 154 147 1 4 1 = true := by decide +kernel
theorem q234_502 : decode (mB 234) 502 = .ok (.istore 7, 2) := by decide +kernel
theorem q234_504 : decode (mB 234) 504 = .ok (.aload_n 2, 1) := by decide +kernel
theorem q234_505 : cfB 234 505 137 135 1 4 0 = true := by decide +kernel
theorem q234_508 : decode (mB 234) 508 = .ok (.iload 6, 2) := by decide +kernel
theorem q234_510 : decode (mB 234) 510 = .ok (.if_icmp .eq 5, 3) := by decide +kernel
theorem q234_513 : decode (mB 234) 513 = .ok (.iconst 0, 1) := by decide +kernel
theorem q234_514 : decode (mB 234) 514 = .ok (.ireturn, 1) := by decide +kernel
theorem q234_515 : decode (mB 234) 515 = .ok (.iload 6, 2) := by decide +kernel
theorem q234_517 : decode (mB 234) 517 = .ok (.ifCond .ne 15, 3) := by decide +kernel
theorem q234_520 : decode (mB 234) 520 = .ok (.aload_n 3, 1) := by decide +kernel
theorem q234_521 : decode (mB 234) 521 = .ok (.iconst 0, 1) := by decide +kernel
theorem q234_522 : decode (mB 234) 522 = .ok (.laload, 1) := by decide +kernel
theorem q234_523 : decode (mB 234) 523 = .ok (.iload 7, 2) := by decide +kernel
theorem q234_525 : decode (mB 234) 525 = .ok (.i2l, 1) := by decide +kernel
theorem q234_526 : decode (mB 234) 526 = .ok (.lcmp, 1) := by decide +kernel
theorem q234_527 : decode (mB 234) 527 = .ok (.ifCond .eq 5, 3) := by decide +kernel
theorem q234_530 : decode (mB 234) 530 = .ok (.iconst 0, 1) := by decide +kernel
theorem q234_531 : decode (mB 234) 531 = .ok (.ireturn, 1) := by decide +kernel
theorem q234_532 : decode (mB 234) 532 = .ok (.goto 1674, 3) := by decide +kernel
theorem q234_535 : decode (mB 234) 535 = .ok (.aload_n 1, 1) := by decide +kernel
theorem q234_536 : decode (mB 234) 536 = .ok (.aload_n 0, 1) := by decide +kernel
theorem q234_537 : decode (mB 234) 537 = .ok (.iload 5, 2) := by decide +kernel
theorem q234_539 : decode (mB 234) 539 = .ok (.iconst 1, 1) := by decide +kernel
theorem q234_540 : decode (mB 234) 540 = .ok (.iadd, 1) := by decide +kernel
theorem q234_541 : decode (mB 234) 541 = .ok (.iaload, 1) := by decide +kernel
theorem q234_542 : decode (mB 234) 542 = .ok (.aload_n 3, 1) := by decide +kernel
theorem q234_543 : cfW 234 543 155 207 3 = true := by decide +kernel
theorem q234_546 : decode (mB 234) 546 = .ok (.istore 6, 2) := by decide +kernel
theorem q234_548 : decode (mB 234) 548 = .ok (.aload_n 2, 1) := by decide +kernel
theorem q234_549 : decode (mB 234) 549 = .ok (.aload_n 0, 1) := by decide +kernel
theorem q234_550 : decode (mB 234) 550 = .ok (.iload 5, 2) := by decide +kernel
theorem q234_552 : decode (mB 234) 552 = .ok (.iconst 1, 1) := by decide +kernel
theorem q234_553 : decode (mB 234) 553 = .ok (.iadd, 1) := by decide +kernel
theorem q234_554 : decode (mB 234) 554 = .ok (.iaload, 1) := by decide +kernel
theorem q234_555 : cfB 234 555 157 149 1 4 1 = true := by decide +kernel
theorem q234_558 : decode (mB 234) 558 = .ok (.lstore 7, 2) := by decide +kernel
theorem q234_560 : decode (mB 234) 560 = .ok (.aload_n 2, 1) := by decide +kernel
theorem q234_561 : cfB 234 561 137 135 1 4 0 = true := by decide +kernel
theorem q234_564 : decode (mB 234) 564 = .ok (.iload 6, 2) := by decide +kernel
theorem q234_566 : decode (mB 234) 566 = .ok (.if_icmp .eq 5, 3) := by decide +kernel
theorem q234_569 : decode (mB 234) 569 = .ok (.iconst 0, 1) := by decide +kernel
theorem q234_570 : decode (mB 234) 570 = .ok (.ireturn, 1) := by decide +kernel
theorem q234_571 : decode (mB 234) 571 = .ok (.iload 6, 2) := by decide +kernel
theorem q234_573 : decode (mB 234) 573 = .ok (.ifCond .ne 14, 3) := by decide +kernel
theorem q234_576 : decode (mB 234) 576 = .ok (.aload_n 3, 1) := by decide +kernel
theorem q234_577 : decode (mB 234) 577 = .ok (.iconst 0, 1) := by decide +kernel
theorem q234_578 : decode (mB 234) 578 = .ok (.laload, 1) := by decide +kernel
theorem q234_579 : decode (mB 234) 579 = .ok (.lload 7, 2) := by decide +kernel
theorem q234_581 : decode (mB 234) 581 = .ok (.lcmp, 1) := by decide +kernel
theorem q234_582 : decode (mB 234) 582 = .ok (.ifCond .eq 5, 3) := by decide +kernel
theorem q234_585 : decode (mB 234) 585 = .ok (.iconst 0, 1) := by decide +kernel
theorem q234_586 : decode (mB 234) 586 = .ok (.ireturn, 1) := by decide +kernel
theorem q234_587 : decode (mB 234) 587 = .ok (.goto 1619, 3) := by decide +kernel
theorem q234_590 : decode (mB 234) 590 = .ok (.aload_n 1, 1) := by decide +kernel
theorem q234_591 : decode (mB 234) 591 = .ok (.aload_n 0, 1) := by decide +kernel
theorem q234_592 : decode (mB 234) 592 = .ok (.iload 5, 2) := by decide +kernel
theorem q234_594 : decode (mB 234) 594 = .ok (.iconst 1, 1) := by decide +kernel
theorem q234_595 : decode (mB 234) 595 = .ok (.iadd, 1) := by decide +kernel
theorem q234_596 : decode (mB 234) 596 = .ok (.iaload, 1) := by decide +kernel
theorem q234_597 : decode (mB 234) 597 = .ok (.aload 4, 2) := by decide +kernel
theorem q234_599 : cfW 234 599 158 208 3 = true := by decide +kernel
theorem q234_602 : decode (mB 234) 602 = .ok (.istore 6, 2) := by decide +kernel
theorem q234_604 : decode (mB 234) 604 = .ok (.aload_n 2, 1) := by decide +kernel
theorem q234_605 : decode (mB 234) 605 = .ok (.aload_n 0, 1) := by decide +kernel
theorem q234_606 : decode (mB 234) 606 = .ok (.iload 5, 2) := by decide +kernel
theorem q234_608 : decode (mB 234) 608 = .ok (.iconst 1, 1) := by decide +kernel
theorem q234_609 : decode (mB 234) 609 = .ok (.iadd, 1) := by decide +kernel
theorem q234_610 : decode (mB 234) 610 = .ok (.iaload, 1) := by decide +kernel
theorem q234_611 : cfB 234 611 161 150 1 4 1 = true := by decide +kernel
theorem q234_614 : decode (mB 234) 614 = .ok (.dstore 7, 2) := by decide +kernel
theorem q234_616 : decode (mB 234) 616 = .ok (.aload_n 2, 1) := by decide +kernel
theorem q234_617 : cfB 234 617 137 135 1 4 0 = true := by decide +kernel
theorem q234_620 : decode (mB 234) 620 = .ok (.iload 6, 2) := by decide +kernel
theorem q234_622 : decode (mB 234) 622 = .ok (.if_icmp .eq 5, 3) := by decide +kernel
theorem q234_625 : decode (mB 234) 625 = .ok (.iconst 0, 1) := by decide +kernel
theorem q234_626 : decode (mB 234) 626 = .ok (.ireturn, 1) := by decide +kernel
theorem q234_627 : decode (mB 234) 627 = .ok (.iload 6, 2) := by decide +kernel
theorem q234_629 : decode (mB 234) 629 = .ok (.ifCond .ne 35, 3) := by decide +kernel
theorem q234_632 : decode (mB 234) 632 = .ok (.aload 4, 2) := by decide +kernel
theorem q234_634 : decode (mB 234) 634 = .ok (.iconst 0, 1) := by decide +kernel
theorem q234_635 : decode (mB 234) 635 = .ok (.daload, 1) := by decide +kernel
theorem q234_636 : decode (mB 234) 636 = .ok (.dload 7, 2) := by decide +kernel
theorem q234_638 : decode (mB 234) 638 = .ok (.dcmp .l, 1) := by decide +kernel
theorem q234_639 : decode (mB 234) 639 = .ok (.ifCond .eq 25, 3) := by decide +kernel
theorem q234_642 : decode (mB 234) 642 = .ok (.aload 4, 2) := by decide +kernel
theorem q234_644 : decode (mB 234) 644 = .ok (.iconst 0, 1) := by decide +kernel
theorem q234_645 : decode (mB 234) 645 = .ok (.daload, 1) := by decide +kernel
theorem q234_646 : decode (mB 234) 646 = .ok (.aload 4, 2) := by decide +kernel
theorem q234_648 : decode (mB 234) 648 = .ok (.iconst 0, 1) := by decide +kernel
theorem q234_649 : decode (mB 234) 649 = .ok (.daload, 1) := by decide +kernel
theorem q234_650 : decode (mB 234) 650 = .ok (.dcmp .l, 1) := by decide +kernel
theorem q234_651 : decode (mB 234) 651 = .ok (.ifCond .eq 11, 3) := by decide +kernel
theorem q234_654 : decode (mB 234) 654 = .ok (.dload 7, 2) := by decide +kernel
theorem q234_656 : decode (mB 234) 656 = .ok (.dload 7, 2) := by decide +kernel
theorem q234_658 : decode (mB 234) 658 = .ok (.dcmp .l, 1) := by decide +kernel
theorem q234_659 : decode (mB 234) 659 = .ok (.ifCond .ne 5, 3) := by decide +kernel
theorem q234_662 : decode (mB 234) 662 = .ok (.iconst 0, 1) := by decide +kernel
theorem q234_663 : decode (mB 234) 663 = .ok (.ireturn, 1) := by decide +kernel
theorem q234_664 : decode (mB 234) 664 = .ok (.goto 1542, 3) := by decide +kernel
theorem q234_667 : decode (mB 234) 667 = .ok (.aload_n 1, 1) := by decide +kernel
theorem q234_668 : decode (mB 234) 668 = .ok (.aload_n 0, 1) := by decide +kernel
theorem q234_669 : decode (mB 234) 669 = .ok (.iload 5, 2) := by decide +kernel
theorem q234_671 : decode (mB 234) 671 = .ok (.iconst 1, 1) := by decide +kernel
theorem q234_672 : decode (mB 234) 672 = .ok (.iadd, 1) := by decide +kernel
theorem q234_673 : decode (mB 234) 673 = .ok (.iaload, 1) := by decide +kernel
theorem q234_674 : decode (mB 234) 674 = .ok (.aload 4, 2) := by decide +kernel
theorem q234_676 : cfW 234 676 162 209 3 = true := by decide +kernel
theorem q234_679 : decode (mB 234) 679 = .ok (.istore 6, 2) := by decide +kernel
theorem q234_681 : decode (mB 234) 681 = .ok (.aload_n 2, 1) := by decide +kernel
theorem q234_682 : decode (mB 234) 682 = .ok (.aload_n 0, 1) := by decide +kernel
theorem q234_683 : decode (mB 234) 683 = .ok (.iload 5, 2) := by decide +kernel
theorem q234_685 : decode (mB 234) 685 = .ok (.iconst 1, 1) := by decide +kernel
theorem q234_686 : decode (mB 234) 686 = .ok (.iadd, 1) := by decide +kernel
theorem q234_687 : decode (mB 234) 687 = .ok (.iaload, 1) := by decide +kernel
theorem q234_688 : cfB 234 688 164 151 1 4 1 = true := by decide +kernel
theorem q234_691 : decode (mB 234) 691 = .ok (.fstore 7, 2) := by decide +kernel
theorem q234_693 : decode (mB 234) 693 = .ok (.aload_n 2, 1) := by decide +kernel
theorem q234_694 : cfB 234 694 137 135 1 4 0 = true := by decide +kernel
theorem q234_697 : decode (mB 234) 697 = .ok (.iload 6, 2) := by decide +kernel
theorem q234_699 : decode (mB 234) 699 = .ok (.if_icmp .eq 5, 3) := by decide +kernel
theorem q234_702 : decode (mB 234) 702 = .ok (.iconst 0, 1) := by decide +kernel
theorem q234_703 : decode (mB 234) 703 = .ok (.ireturn, 1) := by decide +kernel
theorem q234_704 : decode (mB 234) 704 = .ok (.iload 6, 2) := by decide +kernel
theorem q234_706 : decode (mB 234) 706 = .ok (.ifCond .ne 36, 3) := by decide +kernel
theorem q234_709 : decode (mB 234) 709 = .ok (.aload 4, 2) := by decide +kernel
theorem q234_711 : decode (mB 234) 711 = .ok (.iconst 0, 1) := by decide +kernel
theorem q234_712 : decode (mB 234) 712 = .ok (.daload, 1) := by decide +kernel
theorem q234_713 : decode (mB 234) 713 = .ok (.fload 7, 2) := by decide +kernel
theorem q234_715 : decode (mB 234) 715 = .ok (.f2d, 1) := by decide +kernel
theorem q234_716 : decode (mB 234) 716 = .ok (.dcmp .l, 1) := by decide +kernel
theorem q234_717 : decode (mB 234) 717 = .ok (.ifCond .eq 25, 3) := by decide +kernel
theorem q234_720 : decode (mB 234) 720 = .ok (.aload 4, 2) := by decide +kernel
theorem q234_722 : decode (mB 234) 722 = .ok (.iconst 0, 1) := by decide +kernel
theorem q234_723 : decode (mB 234) 723 = .ok (.daload, 1) := by decide +kernel
theorem q234_724 : decode (mB 234) 724 = .ok (.aload 4, 2) := by decide +kernel
theorem q234_726 : decode (mB 234) 726 = .ok (.iconst 0, 1) := by decide +kernel
theorem q234_727 : decode (mB 234) 727 = .ok (.daload, 1) := by decide +kernel
theorem q234_728 : decode (mB 234) 728 = .ok (.dcmp .l, 1) := by decide +kernel
theorem q234_729 : decode (mB 234) 729 = .ok (.ifCond .eq 11, 3) := by decide +kernel
theorem q234_732 : decode (mB 234) 732 = .ok (.fload 7, 2) := by decide +kernel
theorem q234_734 : decode (mB 234) 734 = .ok (.fload 7, 2) := by decide +kernel
theorem q234_736 : decode (mB 234) 736 = .ok (.fcmp .l, 1) := by decide +kernel
theorem q234_737 : decode (mB 234) 737 = .ok (.ifCond .ne 5, 3) := by decide +kernel
theorem q234_740 : decode (mB 234) 740 = .ok (.iconst 0, 1) := by decide +kernel
theorem q234_741 : decode (mB 234) 741 = .ok (.ireturn, 1) := by decide +kernel
theorem q234_742 : decode (mB 234) 742 = .ok (.goto 1464, 3) := by decide +kernel
theorem q234_745 : decode (mB 234) 745 = .ok (.aload_n 1, 1) := by decide +kernel
theorem q234_746 : decode (mB 234) 746 = .ok (.aload_n 0, 1) := by decide +kernel
theorem q234_747 : decode (mB 234) 747 = .ok (.iload 5, 2) := by decide +kernel
theorem q234_749 : decode (mB 234) 749 = .ok (.iconst 1, 1) := by decide +kernel
theorem q234_750 : decode (mB 234) 750 = .ok (.iadd, 1) := by decide +kernel
theorem q234_751 : decode (mB 234) 751 = .ok (.iaload, 1) := by decide +kernel
theorem q234_752 : decode (mB 234) 752 = .ok (.aload_n 3, 1) := by decide +kernel
theorem q234_753 : cfW 234 753 165 210 3 = true := by decide +kernel
theorem q234_756 : decode (mB 234) 756 = .ok (.istore 6, 2) := by decide +kernel
theorem q234_758 : decode (mB 234) 758 = .ok (.aload_n 2, 1) := by decide +kernel
theorem q234_759 : decode (mB 234) 759 = .ok (.aload_n 0, 1) := by decide +kernel
theorem q234_760 : decode (mB 234) 760 = .ok (.iload 5, 2) := by decide +kernel
theorem q234_762 : decode (mB 234) 762 = .ok (.iconst 1, 1) := by decide +kernel
theorem q234_763 : decode (mB 234) 763 = .ok (.iadd, 1) := by decide +kernel
theorem q234_764 : decode (mB 234) 764 = .ok (.iaload, 1) := by decide +kernel
theorem q234_765 : cfB 234 765 167 154 1 4 1 = true := by decide +kernel
theorem q234_768 : decode (mB 234) 768 = .ok (.istore 7, 2) := by decide +kernel
theorem q234_770 : decode (mB 234) 770 = .ok (.aload_n 2, 1) := by decide +kernel
theorem q234_771 : cfB 234 771 137 135 1 4 0 = true := by decide +kernel
theorem q234_774 : decode (mB 234) 774 = .ok (.iload 6, 2) := by decide +kernel
theorem q234_776 : decode (mB 234) 776 = .ok (.if_icmp .eq 5, 3) := by decide +kernel
theorem q234_779 : decode (mB 234) 779 = .ok (.iconst 0, 1) := by decide +kernel
theorem q234_780 : decode (mB 234) 780 = .ok (.ireturn, 1) := by decide +kernel
theorem q234_781 : decode (mB 234) 781 = .ok (.iload 6, 2) := by decide +kernel
theorem q234_783 : decode (mB 234) 783 = .ok (.ifCond .ne 15, 3) := by decide +kernel
theorem q234_786 : decode (mB 234) 786 = .ok (.aload_n 3, 1) := by decide +kernel
theorem q234_787 : decode (mB 234) 787 = .ok (.iconst 0, 1) := by decide +kernel
theorem q234_788 : decode (mB 234) 788 = .ok (.laload, 1) := by decide +kernel
theorem q234_789 : decode (mB 234) 789 = .ok (.iload 7, 2) := by decide +kernel
theorem q234_791 : decode (mB 234) 791 = .ok (.i2l, 1) := by decide +kernel
theorem q234_792 : decode (mB 234) 792 = .ok (.lcmp, 1) := by decide +kernel
theorem q234_793 : decode (mB 234) 793 = .ok (.ifCond .eq 5, 3) := by decide +kernel
theorem q234_796 : decode (mB 234) 796 = .ok (.iconst 0, 1) := by decide +kernel
theorem q234_797 : decode (mB 234) 797 = .ok (.ireturn, 1) := by decide +kernel
theorem q234_798 : decode (mB 234) 798 = .ok (.goto 1408, 3) := by decide +kernel
theorem q234_801 : decode (mB 234) 801 = .ok (.aload_n 1, 1) := by decide +kernel
theorem q234_802 : decode (mB 234) 802 = .ok (.aload_n 0, 1) := by decide +kernel
theorem q234_803 : decode (mB 234) 803 = .ok (.iload 5, 2) := by decide +kernel
theorem q234_805 : decode (mB 234) 805 = .ok (.iconst 1, 1) := by decide +kernel
theorem q234_806 : decode (mB 234) 806 = .ok (.iadd, 1) := by decide +kernel
theorem q234_807 : decode (mB 234) 807 = .ok (.iaload, 1) := by decide +kernel
theorem q234_808 : decode (mB 234) 808 = .ok (.aload_n 0, 1) := by decide +kernel
theorem q234_809 : decode (mB 234) 809 = .ok (.iload 5, 2) := by decide +kernel
theorem q234_811 : decode (mB 234) 811 = .ok (.iconst 2, 1) := by decide +kernel
theorem q234_812 : decode (mB 234) 812 = .ok (.iadd, 1) := by decide +kernel
theorem q234_813 : decode (mB 234) 813 = .ok (.iaload, 1) := by decide +kernel
theorem q234_814 : decode (mB 234) 814 = .ok (.aload_n 3, 1) := by decide +kernel
theorem q234_815 : cfW 234 815 168 211 4 = true := by decide +kernel
theorem q234_818 : decode (mB 234) 818 = .ok (.istore 6, 2) := by decide +kernel
theorem q234_820 : decode (mB 234) 820 = .ok (.aload_n 2, 1) := by decide +kernel
theorem q234_821 : decode (mB 234) 821 = .ok (.aload_n 0, 1) := by decide +kernel
theorem q234_822 : decode (mB 234) 822 = .ok (.iload 5, 2) := by decide +kernel
theorem q234_824 : decode (mB 234) 824 = .ok (.iconst 1, 1) := by decide +kernel
theorem q234_825 : decode (mB 234) 825 = .ok (.iadd, 1) := by decide +kernel
theorem q234_826 : decode (mB 234) 826 = .ok (.iaload, 1) := by decide +kernel
theorem q234_827 : decode (mB 234) 827 = .ok (.aload_n 0, 1) := by decide +kernel
theorem q234_828 : decode (mB 234) 828 = .ok (.iload 5, 2) := by decide +kernel
theorem q234_830 : decode (mB 234) 830 = .ok (.iconst 2, 1) := by decide +kernel
theorem q234_831 : decode (mB 234) 831 = .ok (.iadd, 1) := by decide +kernel
theorem q234_832 : decode (mB 234) 832 = .ok (.iaload, 1) := by decide +kernel
theorem q234_833 : cfB 234 833 171 155 1 4 2 = true := by decide +kernel
theorem q234_836 : decode (mB 234) 836 = .ok (.istore 7, 2) := by decide +kernel
theorem q234_838 : decode (mB 234) 838 = .ok (.aload_n 2, 1) := by decide +kernel
theorem q234_839 : cfB 234 839 137 135 1 4 0 = true := by decide +kernel
theorem q234_842 : decode (mB 234) 842 = .ok (.iload 6, 2) := by decide +kernel
theorem q234_844 : decode (mB 234) 844 = .ok (.if_icmp .eq 5, 3) := by decide +kernel
theorem q234_847 : decode (mB 234) 847 = .ok (.iconst 0, 1) := by decide +kernel
theorem q234_848 : decode (mB 234) 848 = .ok (.ireturn, 1) := by decide +kernel
theorem q234_849 : decode (mB 234) 849 = .ok (.iload 6, 2) := by decide +kernel
theorem q234_851 : decode (mB 234) 851 = .ok (.ifCond .ne 15, 3) := by decide +kernel
theorem q234_854 : decode (mB 234) 854 = .ok (.aload_n 3, 1) := by decide +kernel
theorem q234_855 : decode (mB 234) 855 = .ok (.iconst 0, 1) := by decide +kernel
theorem q234_856 : decode (mB 234) 856 = .ok (.laload, 1) := by decide +kernel
theorem q234_857 : decode (mB 234) 857 = .ok (.iload 7, 2) := by decide +kernel
theorem q234_859 : decode (mB 234) 859 = .ok (.i2l, 1) := by decide +kernel
theorem q234_860 : decode (mB 234) 860 = .ok (.lcmp, 1) := by decide +kernel
theorem q234_861 : decode (mB 234) 861 = .ok (.ifCond .eq 5, 3) := by decide +kernel
theorem q234_864 : decode (mB 234) 864 = .ok (.iconst 0, 1) := by decide +kernel
theorem q234_865 : decode (mB 234) 865 = .ok (.ireturn, 1) := by decide +kernel
theorem q234_866 : decode (mB 234) 866 = .ok (.goto 1340, 3) := by decide +kernel
theorem q234_869 : decode (mB 234) 869 = .ok (.aload_n 1, 1) := by decide +kernel
theorem q234_870 : decode (mB 234) 870 = .ok (.aload_n 0, 1) := by decide +kernel
theorem q234_871 : decode (mB 234) 871 = .ok (.iload 5, 2) := by decide +kernel
theorem q234_873 : decode (mB 234) 873 = .ok (.iconst 1, 1) := by decide +kernel
theorem q234_874 : decode (mB 234) 874 = .ok (.iadd, 1) := by decide +kernel
theorem q234_875 : decode (mB 234) 875 = .ok (.iaload, 1) := by decide +kernel
theorem q234_876 : decode (mB 234) 876 = .ok (.aload_n 3, 1) := by decide +kernel
theorem q234_877 : cfW 234 877 172 212 3 = true := by decide +kernel
theorem q234_880 : decode (mB 234) 880 = .ok (.istore 6, 2) := by decide +kernel
theorem q234_882 : decode (mB 234) 882 = .ok (.aload_n 2, 1) := by decide +kernel
theorem q234_883 : decode (mB 234) 883 = .ok (.aload_n 0, 1) := by decide +kernel
theorem q234_884 : decode (mB 234) 884 = .ok (.iload 5, 2) := by decide +kernel
theorem q234_886 : decode (mB 234) 886 = .ok (.iconst 1, 1) := by decide +kernel
theorem q234_887 : decode (mB 234) 887 = .ok (.iadd, 1) := by decide +kernel
theorem q234_888 : decode (mB 234) 888 = .ok (.iaload, 1) := by decide +kernel
theorem q234_889 : cfB 234 889 174 156 1 4 1 = true := by decide +kernel
theorem q234_892 : decode (mB 234) 892 = .ok (.istore 7, 2) := by decide +kernel
theorem q234_894 : decode (mB 234) 894 = .ok (.aload_n 2, 1) := by decide +kernel
theorem q234_895 : cfB 234 895 137 135 1 4 0 = true := by decide +kernel
theorem q234_898 : decode (mB 234) 898 = .ok (.iload 6, 2) := by decide +kernel
theorem q234_900 : decode (mB 234) 900 = .ok (.if_icmp .eq 5, 3) := by decide +kernel
theorem q234_903 : decode (mB 234) 903 = .ok (.iconst 0, 1) := by decide +kernel
theorem q234_904 : decode (mB 234) 904 = .ok (.ireturn, 1) := by decide +kernel
theorem q234_905 : decode (mB 234) 905 = .ok (.iload 6, 2) := by decide +kernel
theorem q234_907 : decode (mB 234) 907 = .ok (.ifCond .ne 15, 3) := by decide +kernel
theorem q234_910 : decode (mB 234) 910 = .ok (.aload_n 3, 1) := by decide +kernel
theorem q234_911 : decode (mB 234) 911 = .ok (.iconst 0, 1) := by decide +kernel
theorem q234_912 : decode (mB 234) 912 = .ok (.laload, 1) := by decide +kernel
theorem q234_913 : decode (mB 234) 913 = .ok (.iload 7, 2) := by decide +kernel
theorem q234_915 : decode (mB 234) 915 = .ok (.i2l, 1) := by decide +kernel
theorem q234_916 : decode (mB 234) 916 = .ok (.lcmp, 1) := by decide +kernel
theorem q234_917 : decode (mB 234) 917 = .ok (.ifCond .eq 5, 3) := by decide +kernel
theorem q234_920 : decode (mB 234) 920 = .ok (.iconst 0, 1) := by decide +kernel
theorem q234_921 : decode (mB 234) 921 = .ok (.ireturn, 1) := by decide +kernel
theorem q234_922 : decode (mB 234) 922 = .ok (.goto 1284, 3) := by decide +kernel
theorem q234_925 : decode (mB 234) 925 = .ok (.aload_n 1, 1) := by decide +kernel
theorem q234_926 : decode (mB 234) 926 = .ok (.aload_n 0, 1) := by decide +kernel
theorem q234_927 : decode (mB 234) 927 = .ok (.iload 5, 2) := by decide +kernel
theorem q234_929 : decode (mB 234) 929 = .ok (.iconst 1, 1) := by decide +kernel
theorem q234_930 : decode (mB 234) 930 = .ok (.iadd, 1) := by decide +kernel
theorem q234_931 : decode (mB 234) 931 = .ok (.iaload, 1) := by decide +kernel
theorem q234_932 : decode (mB 234) 932 = .ok (.aload_n 0, 1) := by decide +kernel
theorem q234_933 : decode (mB 234) 933 = .ok (.iload 5, 2) := by decide +kernel
theorem q234_935 : decode (mB 234) 935 = .ok (.iconst 2, 1) := by decide +kernel
theorem q234_936 : decode (mB 234) 936 = .ok (.iadd, 1) := by decide +kernel
theorem q234_937 : decode (mB 234) 937 = .ok (.iaload, 1) := by decide +kernel
theorem q234_938 : decode (mB 234) 938 = .ok (.ifCond .eq 7, 3) := by decide +kernel
theorem q234_941 : decode (mB 234) 941 = .ok (.iconst 1, 1) := by decide +kernel
theorem q234_942 : decode (mB 234) 942 = .ok (.goto 4, 3) := by decide +kernel
theorem q234_945 : decode (mB 234) 945 = .ok (.iconst 0, 1) := by decide +kernel
theorem q234_946 : decode (mB 234) 946 = .ok (.aload_n 3, 1) := by decide +kernel
theorem q234_947 : cfW 234 947 175 213 4 = true := by decide +kernel
theorem q234_950 : decode (mB 234) 950 = .ok (.istore 6, 2) := by decide +kernel
theorem q234_952 : decode (mB 234) 952 = .ok (.aload_n 2, 1) := by decide +kernel
theorem q234_953 : decode (mB 234) 953 = .ok (.aload_n 0, 1) := by decide +kernel
theorem q234_954 : decode (mB 234) 954 = .ok (.iload 5, 2) := by decide +kernel
theorem q234_956 : decode (mB 234) 956 = .ok (.iconst 1, 1) := by decide +kernel
theorem q234_957 : decode (mB 234) 957 = .ok (.iadd, 1) := by decide +kernel
theorem q234_958 : decode (mB 234) 958 = .ok (.iaload, 1) := by decide +kernel
theorem q234_959 : decode (mB 234) 959 = .ok (.aload_n 0, 1) := by decide +kernel
theorem q234_960 : decode (mB 234) 960 = .ok (.iload 5, 2) := by decide +kernel
theorem q234_962 : decode (mB 234) 962 = .ok (.iconst 2, 1) := by decide +kernel
theorem q234_963 : decode (mB 234) 963 = .ok (.iadd, 1) := by decide +kernel
theorem q234_964 : decode (mB 234) 964 = .ok (.iaload, 1) := by decide +kernel
theorem q234_965 : decode (mB 234) 965 = .ok (.ifCond .eq 7, 3) := by decide +kernel
theorem q234_968 : decode (mB 234) 968 = .ok (.iconst 1, 1) := by decide +kernel
theorem q234_969 : decode (mB 234) 969 = .ok (.goto 4, 3) := by decide +kernel
theorem q234_972 : decode (mB 234) 972 = .ok (.iconst 0, 1) := by decide +kernel
theorem q234_973 : cfB 234 973 178 157 1 4 2 = true := by decide +kernel
theorem q234_976 : decode (mB 234) 976 = .ok (.istore 7, 2) := by decide +kernel
theorem q234_978 : decode (mB 234) 978 = .ok (.aload_n 2, 1) := by decide +kernel
theorem q234_979 : cfB 234 979 137 135 1 4 0 = true := by decide +kernel
theorem q234_982 : decode (mB 234) 982 = .ok (.iload 6, 2) := by decide +kernel
theorem q234_984 : decode (mB 234) 984 = .ok (.if_icmp .eq 5, 3) := by decide +kernel
theorem q234_987 : decode (mB 234) 987 = .ok (.iconst 0, 1) := by decide +kernel
theorem q234_988 : decode (mB 234) 988 = .ok (.ireturn, 1) := by decide +kernel
theorem q234_989 : decode (mB 234) 989 = .ok (.iload 6, 2) := by decide +kernel
theorem q234_991 : decode (mB 234) 991 = .ok (.ifCond .ne 15, 3) := by decide +kernel
theorem q234_994 : decode (mB 234) 994 = .ok (.aload_n 3, 1) := by decide +kernel
theorem q234_995 : decode (mB 234) 995 = .ok (.iconst 0, 1) := by decide +kernel
theorem q234_996 : decode (mB 234) 996 = .ok (.laload, 1) := by decide +kernel
theorem q234_997 : decode (mB 234) 997 = .ok (.iload 7, 2) := by decide +kernel
theorem q234_999 : decode (mB 234) 999 = .ok (.i2l, 1) := by decide +kernel
theorem q234_1000 : decode (mB 234) 1000 = .ok (.lcmp, 1) := by decide +kernel
theorem q234_1001 : decode (mB 234) 1001 = .ok (.ifCond .eq 5, 3) := by decide +kernel
theorem q234_1004 : decode (mB 234) 1004 = .ok (.iconst 0, 1) := by decide +kernel
theorem q234_1005 : decode (mB 234) 1005 = .ok (.ireturn, 1) := by decide +kernel
theorem q234_1006 : decode (mB 234) 1006 = .ok (.goto 1200, 3) := by decide +kernel
theorem q234_1009 : decode (mB 234) 1009 = .ok (.aload_n 1, 1) := by decide +kernel
theorem q234_1010 : decode (mB 234) 1010 = .ok (.aload_n 0, 1) := by decide +kernel
theorem q234_1011 : decode (mB 234) 1011 = .ok (.iload 5, 2) := by decide +kernel
theorem q234_1013 : decode (mB 234) 1013 = .ok (.iconst 1, 1) := by decide +kernel
theorem q234_1014 : decode (mB 234) 1014 = .ok (.iadd, 1) := by decide +kernel
theorem q234_1015 : decode (mB 234) 1015 = .ok (.iaload, 1) := by decide +kernel
theorem q234_1016 : decode (mB 234) 1016 = .ok (.i2c, 1) := by decide +kernel
theorem q234_1017 : decode (mB 234) 1017 = .ok (.aload_n 3, 1) := by decide +kernel
theorem q234_1018 : cfW 234 1018 179 214 3 = true := by decide +kernel
theorem q234_1021 : decode (mB 234) 1021 = .ok (.istore 6, 2) := by decide +kernel
theorem q234_1023 : decode (mB 234) 1023 = .ok (.aload_n 2, 1) := by decide +kernel
theorem q234_1024 : decode (mB 234) 1024 = .ok (.aload_n 0, 1) := by decide +kernel
theorem q234_1025 : decode (mB 234) 1025 = .ok (.iload 5, 2) := by decide +kernel
theorem q234_1027 : decode (mB 234) 1027 = .ok (.iconst 1, 1) := by decide +kernel
theorem q234_1028 : decode (mB 234) 1028 = .ok (.iadd, 1) := by decide +kernel
theorem q234_1029 : decode (mB 234) 1029 = .ok (.iaload, 1) := by decide +kernel
theorem q234_1030 : decode (mB 234) 1030 = .ok (.i2c, 1) := by decide +kernel
theorem q234_1031 : cfB 234 1031 182 159 1 4 1 = true := by decide +kernel
theorem q234_1034 : decode (mB 234) 1034 = .ok (.istore 7, 2) := by decide +kernel
theorem q234_1036 : decode (mB 234) 1036 = .ok (.aload_n 2, 1) := by decide +kernel
theorem q234_1037 : cfB 234 1037 137 135 1 4 0 = true := by decide +kernel
theorem q234_1040 : decode (mB 234) 1040 = .ok (.iload 6, 2) := by decide +kernel
theorem q234_1042 : decode (mB 234) 1042 = .ok (.if_icmp .eq 5, 3) := by decide +kernel
theorem q234_1045 : decode (mB 234) 1045 = .ok (.iconst 0, 1) := by decide +kernel
theorem q234_1046 : decode (mB 234) 1046 = .ok (.ireturn, 1) := by decide +kernel
theorem q234_1047 : decode (mB 234) 1047 = .ok (.iload 6, 2) := by decide +kernel
theorem q234_1049 : decode (mB 234) 1049 = .ok (.ifCond .ne 15, 3) := by decide +kernel
theorem q234_1052 : decode (mB 234) 1052 = .ok (.aload_n 3, 1) := by decide +kernel
theorem q234_1053 : decode (mB 234) 1053 = .ok (.iconst 0, 1) := by decide +kernel
theorem q234_1054 : decode (mB 234) 1054 = .ok (.laload, 1) := by decide +kernel
theorem q234_1055 : decode (mB 234) 1055 = .ok (.iload 7, 2) := by decide +kernel
theorem q234_1057 : decode (mB 234) 1057 = .ok (.i2l, 1) := by decide +kernel
theorem q234_1058 : decode (mB 234) 1058 = .ok (.lcmp, 1) := by decide +kernel
theorem q234_1059 : decode (mB 234) 1059 = .ok (.ifCond .eq 5, 3) := by decide +kernel
theorem q234_1062 : decode (mB 234) 1062 = .ok (.iconst 0, 1) := by decide +kernel
theorem q234_1063 : decode (mB 234) 1063 = .ok (.ireturn, 1) := by decide +kernel
theorem q234_1064 : decode (mB 234) 1064 = .ok (.goto 1142, 3) := by decide +kernel
theorem q234_1067 : decode (mB 234) 1067 = .ok (.aload_n 1, 1) := by decide +kernel
theorem q234_1068 : decode (mB 234) 1068 = .ok (.aload_n 0, 1) := by decide +kernel
theorem q234_1069 : decode (mB 234) 1069 = .ok (.iload 5, 2) := by decide +kernel
theorem q234_1071 : decode (mB 234) 1071 = .ok (.iconst 1, 1) := by decide +kernel
theorem q234_1072 : decode (mB 234) 1072 = .ok (.iadd, 1) := by decide +kernel
theorem q234_1073 : decode (mB 234) 1073 = .ok (.iaload, 1) := by decide +kernel
theorem q234_1074 : decode (mB 234) 1074 = .ok (.aload_n 0, 1) := by decide +kernel
theorem q234_1075 : decode (mB 234) 1075 = .ok (.iload 5, 2) := by decide +kernel
theorem q234_1077 : decode (mB 234) 1077 = .ok (.iconst 2, 1) := by decide +kernel
theorem q234_1078 : decode (mB 234) 1078 = .ok (.iadd, 1) := by decide +kernel
theorem q234_1079 : decode (mB 234) 1079 = .ok (.iaload, 1) := by decide +kernel
theorem q234_1080 : decode (mB 234) 1080 = .ok (.aload_n 3, 1) := by decide +kernel
theorem q234_1081 : cfW 234 1081 183 215 4 = true := by decide +kernel
theorem q234_1084 : decode (mB 234) 1084 = .ok (.istore 6, 2) := by decide +kernel
theorem q234_1086 : decode (mB 234) 1086 = .ok (.aload_n 2, 1) := by decide +kernel
theorem q234_1087 : decode (mB 234) 1087 = .ok (.aload_n 0, 1) := by decide +kernel
theorem q234_1088 : decode (mB 234) 1088 = .ok (.iload 5, 2) := by decide +kernel
theorem q234_1090 : decode (mB 234) 1090 = .ok (.iconst 1, 1) := by decide +kernel
theorem q234_1091 : decode (mB 234) 1091 = .ok (.iadd, 1) := by decide +kernel
theorem q234_1092 : decode (mB 234) 1092 = .ok (.iaload, 1) := by decide +kernel
theorem q234_1093 : decode (mB 234) 1093 = .ok (.aload_n 0, 1) := by decide +kernel
theorem q234_1094 : decode (mB 234) 1094 = .ok (.iload 5, 2) := by decide +kernel
theorem q234_1096 : decode (mB 234) 1096 = .ok (.iconst 2, 1) := by decide +kernel
theorem q234_1097 : decode (mB 234) 1097 = .ok (.iadd, 1) := by decide +kernel
theorem q234_1098 : decode (mB 234) 1098 = .ok (.iaload, 1) := by decide +kernel
theorem q234_1099 : cfB 234 1099 185 161 1 4 2 = true := by decide +kernel
theorem q234_1102 : decode (mB 234) 1102 = .ok (.istore 7, 2) := by decide +kernel
theorem q234_1104 : decode (mB 234) 1104 = .ok (.aload_n 2, 1) := by decide +kernel
theorem q234_1105 : cfB 234 1105 137 135 1 4 0 = true := by decide +kernel
theorem q234_1108 : decode (mB 234) 1108 = .ok (.iload 6, 2) := by decide +kernel
theorem q234_1110 : decode (mB 234) 1110 = .ok (.if_icmp .eq 5, 3) := by decide +kernel
theorem q234_1113 : decode (mB 234) 1113 = .ok (.iconst 0, 1) := by decide +kernel
theorem q234_1114 : decode (mB 234) 1114 = .ok (.ireturn, 1) := by decide +kernel
theorem q234_1115 : decode (mB 234) 1115 = .ok (.iload 6, 2) := by decide +kernel
theorem q234_1117 : decode (mB 234) 1117 = .ok (.ifCond .ne 15, 3) := by decide +kernel
theorem q234_1120 : decode (mB 234) 1120 = .ok (.aload_n 3, 1) := by decide +kernel
theorem q234_1121 : decode (mB 234) 1121 = .ok (.iconst 0, 1) := by decide +kernel
theorem q234_1122 : decode (mB 234) 1122 = .ok (.laload, 1) := by decide +kernel
theorem q234_1123 : decode (mB 234) 1123 = .ok (.iload 7, 2) := by decide +kernel
theorem q234_1125 : decode (mB 234) 1125 = .ok (.i2l, 1) := by decide +kernel
theorem q234_1126 : decode (mB 234) 1126 = .ok (.lcmp, 1) := by decide +kernel
theorem q234_1127 : decode (mB 234) 1127 = .ok (.ifCond .eq 5, 3) := by decide +kernel
theorem q234_1130 : decode (mB 234) 1130 = .ok (.iconst 0, 1) := by decide +kernel
theorem q234_1131 : decode (mB 234) 1131 = .ok (.ireturn, 1) := by decide +kernel
theorem q234_1132 : decode (mB 234) 1132 = .ok (.goto 1074, 3) := by decide +kernel
theorem q234_1135 : decode (mB 234) 1135 = .ok (.aload_n 1, 1) := by decide +kernel
theorem q234_1136 : decode (mB 234) 1136 = .ok (.aload_n 0, 1) := by decide +kernel
theorem q234_1137 : decode (mB 234) 1137 = .ok (.iload 5, 2) := by decide +kernel
theorem q234_1139 : decode (mB 234) 1139 = .ok (.iconst 1, 1) := by decide +kernel
theorem q234_1140 : decode (mB 234) 1140 = .ok (.iadd, 1) := by decide +kernel
theorem q234_1141 : decode (mB 234) 1141 = .ok (.iaload, 1) := by decide +kernel
theorem q234_1142 : decode (mB 234) 1142 = .ok (.aload_n 0, 1) := by decide +kernel
theorem q234_1143 : decode (mB 234) 1143 = .ok (.iload 5, 2) := by decide +kernel
theorem q234_1145 : decode (mB 234) 1145 = .ok (.iconst 2, 1) := by decide +kernel
theorem q234_1146 : decode (mB 234) 1146 = .ok (.iadd, 1) := by decide +kernel
theorem q234_1147 : decode (mB 234) 1147 = .ok (.iaload, 1) := by decide +kernel
theorem q234_1148 : decode (mB 234) 1148 = .ok (.aload_n 3, 1) := by decide +kernel
theorem q234_1149 : cfW 234 1149 186 216 4 = true := by decide +kernel
theorem q234_1152 : decode (mB 234) 1152 = .ok (.istore 6, 2) := by decide +kernel
theorem q234_1154 : decode (mB 234) 1154 = .ok (.aload_n 2, 1) := by decide +kernel
theorem q234_1155 : decode (mB 234) 1155 = .ok (.aload_n 0, 1) := by decide +kernel
theorem q234_1156 : decode (mB 234) 1156 = .ok (.iload 5, 2) := by decide +kernel
theorem q234_1158 : decode (mB 234) 1158 = .ok (.iconst 1, 1) := by decide +kernel
theorem q234_1159 : decode (mB 234) 1159 = .ok (.iadd, 1) := by decide +kernel
theorem q234_1160 : decode (mB 234) 1160 = .ok (.iaload, 1) := by decide +kernel
theorem q234_1161 : decode (mB 234) 1161 = .ok (.aload_n 0, 1) := by decide +kernel
theorem q234_1162 : decode (mB 234) 1162 = .ok (.iload 5, 2) := by decide +kernel
theorem q234_1164 : decode (mB 234) 1164 = .ok (.iconst 2, 1) := by decide +kernel
theorem q234_1165 : decode (mB 234) 1165 = .ok (.iadd, 1) := by decide +kernel
theorem q234_1166 : decode (mB 234) 1166 = .ok (.iaload, 1) := by decide +kernel
theorem q234_1167 : cfB 234 1167 188 162 1 4 2 = true := by decide +kernel
theorem q234_1170 : decode (mB 234) 1170 = .ok (.istore 7, 2) := by decide +kernel
theorem q234_1172 : decode (mB 234) 1172 = .ok (.aload_n 2, 1) := by decide +kernel
theorem q234_1173 : cfB 234 1173 137 135 1 4 0 = true := by decide +kernel
theorem q234_1176 : decode (mB 234) 1176 = .ok (.iload 6, 2) := by decide +kernel
theorem q234_1178 : decode (mB 234) 1178 = .ok (.if_icmp .eq 5, 3) := by decide +kernel
theorem q234_1181 : decode (mB 234) 1181 = .ok (.iconst 0, 1) := by decide +kernel
theorem q234_1182 : decode (mB 234) 1182 = .ok (.ireturn, 1) := by decide +kernel
theorem q234_1183 : decode (mB 234) 1183 = .ok (.iload 6, 2) := by decide +kernel
theorem q234_1185 : decode (mB 234) 1185 = .ok (.ifCond .ne 15, 3) := by decide +kernel
theorem q234_1188 : decode (mB 234) 1188 = .ok (.aload_n 3, 1) := by decide +kernel
theorem q234_1189 : decode (mB 234) 1189 = .ok (.iconst 0, 1) := by decide +kernel
theorem q234_1190 : decode (mB 234) 1190 = .ok (.laload, 1) := by decide +kernel
theorem q234_1191 : decode (mB 234) 1191 = .ok (.iload 7, 2) := by decide +kernel
theorem q234_1193 : decode (mB 234) 1193 = .ok (.i2l, 1) := by decide +kernel
theorem q234_1194 : decode (mB 234) 1194 = .ok (.lcmp, 1) := by decide +kernel
theorem q234_1195 : decode (mB 234) 1195 = .ok (.ifCond .eq 5, 3) := by decide +kernel
theorem q234_1198 : decode (mB 234) 1198 = .ok (.iconst 0, 1) := by decide +kernel
theorem q234_1199 : decode (mB 234) 1199 = .ok (.ireturn, 1) := by decide +kernel
theorem q234_1200 : decode (mB 234) 1200 = .ok (.goto 1006, 3) := by decide +kernel
theorem q234_1203 : decode (mB 234) 1203 = .ok (.aload_n 1, 1) := by decide +kernel
theorem q234_1204 : decode (mB 234) 1204 = .ok (.aload_n 0, 1) := by decide +kernel
theorem q234_1205 : decode (mB 234) 1205 = .ok (.iload 5, 2) := by decide +kernel
theorem q234_1207 : decode (mB 234) 1207 = .ok (.iconst 1, 1) := by decide +kernel
theorem q234_1208 : decode (mB 234) 1208 = .ok (.iadd, 1) := by decide +kernel
theorem q234_1209 : decode (mB 234) 1209 = .ok (.iaload, 1) := by decide +kernel
theorem q234_1210 : decode (mB 234) 1210 = .ok (.aload_n 0, 1) := by decide +kernel
theorem q234_1211 : decode (mB 234) 1211 = .ok (.iload 5, 2) := by decide +kernel
theorem q234_1213 : decode (mB 234) 1213 = .ok (.iconst 2, 1) := by decide +kernel
theorem q234_1214 : decode (mB 234) 1214 = .ok (.iadd, 1) := by decide +kernel
theorem q234_1215 : decode (mB 234) 1215 = .ok (.iaload, 1) := by decide +kernel
theorem q234_1216 : decode (mB 234) 1216 = .ok (.aload_n 3, 1) := by decide +kernel
theorem q234_1217 : cfW 234 1217 189 217 4 = true := by decide +kernel
theorem q234_1220 : decode (mB 234) 1220 = .ok (.istore 6, 2) := by decide +kernel
theorem q234_1222 : decode (mB 234) 1222 = .ok (.aload_n 2, 1) := by decide +kernel
theorem q234_1223 : decode (mB 234) 1223 = .ok (.aload_n 0, 1) := by decide +kernel
theorem q234_1224 : decode (mB 234) 1224 = .ok (.iload 5, 2) := by decide +kernel
theorem q234_1226 : decode (mB 234) 1226 = .ok (.iconst 1, 1) := by decide +kernel
theorem q234_1227 : decode (mB 234) 1227 = .ok (.iadd, 1) := by decide +kernel
theorem q234_1228 : decode (mB 234) 1228 = .ok (.iaload, 1) := by decide +kernel
theorem q234_1229 : decode (mB 234) 1229 = .ok (.aload_n 0, 1) := by decide +kernel
theorem q234_1230 : decode (mB 234) 1230 = .ok (.iload 5, 2) := by decide +kernel
theorem q234_1232 : decode (mB 234) 1232 = .ok (.iconst 2, 1) := by decide +kernel
theorem q234_1233 : decode (mB 234) 1233 = .ok (.iadd, 1) := by decide +kernel
theorem q234_1234 : decode (mB 234) 1234 = .ok (.iaload, 1) := by decide +kernel
theorem q234_1235 : cfB 234 1235 191 163 1 4 2 = true := by decide +kernel
theorem q234_1238 : decode (mB 234) 1238 = .ok (.istore 7, 2) := by decide +kernel
theorem q234_1240 : decode (mB 234) 1240 = .ok (.aload_n 2, 1) := by decide +kernel
theorem q234_1241 : cfB 234 1241 137 135 1 4 0 = true := by decide +kernel
theorem q234_1244 : decode (mB 234) 1244 = .ok (.iload 6, 2) := by decide +kernel
theorem q234_1246 : decode (mB 234) 1246 = .ok (.if_icmp .eq 5, 3) := by decide +kernel
theorem q234_1249 : decode (mB 234) 1249 = .ok (.iconst 0, 1) := by decide +kernel
theorem q234_1250 : decode (mB 234) 1250 = .ok (.ireturn, 1) := by decide +kernel
theorem q234_1251 : decode (mB 234) 1251 = .ok (.iload 6, 2) := by decide +kernel
theorem q234_1253 : decode (mB 234) 1253 = .ok (.ifCond .ne 15, 3) := by decide +kernel
theorem q234_1256 : decode (mB 234) 1256 = .ok (.aload_n 3, 1) := by decide +kernel
theorem q234_1257 : decode (mB 234) 1257 = .ok (.iconst 0, 1) := by decide +kernel
theorem q234_1258 : decode (mB 234) 1258 = .ok (.laload, 1) := by decide +kernel
theorem q234_1259 : decode (mB 234) 1259 = .ok (.iload 7, 2) := by decide +kernel
theorem q234_1261 : decode (mB 234) 1261 = .ok (.i2l, 1) := by decide +kernel
theorem q234_1262 : decode (mB 234) 1262 = .ok (.lcmp, 1) := by decide +kernel
theorem q234_1263 : decode (mB 234) 1263 = .ok (.ifCond .eq 5, 3) := by decide +kernel
theorem q234_1266 : decode (mB 234) 1266 = .ok (.iconst 0, 1) := by decide +kernel
theorem q234_1267 : decode (mB 234) 1267 = .ok (.ireturn, 1) := by decide +kernel
theorem q234_1268 : decode (mB 234) 1268 = .ok (.goto 938, 3) := by decide +kernel
theorem q234_1271 : decode (mB 234) 1271 = .ok (.aload_n 1, 1) := by decide +kernel
theorem q234_1272 : cfB 234 1272 192 98 1 4 0 = true := by decide +kernel
theorem q234_1275 : decode (mB 234) 1275 = .ok (.aload_n 2, 1) := by decide +kernel
theorem q234_1276 : cfB 234 1276 195 175 1 4 0 = true := by decide +kernel
theorem q234_1279 : decode (mB 234) 1279 = .ok (.if_icmp .eq 927, 3) := by decide +kernel
theorem q234_1282 : decode (mB 234) 1282 = .ok (.iconst 0, 1) := by decide +kernel
theorem q234_1283 : decode (mB 234) 1283 = .ok (.ireturn, 1) := by decide +kernel
theorem q234_1284 : decode (mB 234) 1284 = .ok (.aload_n 1, 1) := by decide +kernel
theorem q234_1285 : decode (mB 234) 1285 = .ok (.aload_n 0, 1) := by decide +kernel
theorem q234_1286 : decode (mB 234) 1286 = .ok (.iload 5, 2) := by decide +kernel
theorem q234_1288 : decode (mB 234) 1288 = .ok (.iconst 1, 1) := by decide +kernel
theorem q234_1289 : decode (mB 234) 1289 = .ok (.iadd, 1) := by decide +kernel
theorem q234_1290 : decode (mB 234) 1290 = .ok (.iaload, 1) := by decide +kernel
theorem q234_1291 : decode (mB 234) 1291 = .ok (.aload_n 3, 1) := by decide +kernel
theorem q234_1292 : cfW 234 1292 196 218 3 = true := by decide +kernel
theorem q234_1295 : decode (mB 234) 1295 = .ok (.istore 6, 2) := by decide +kernel
theorem q234_1297 : decode (mB 234) 1297 = .ok (.aload_n 2, 1) := by decide +kernel
theorem q234_1298 : decode (mB 234) 1298 = .ok (.aload_n 0, 1) := by decide +kernel
theorem q234_1299 : decode (mB 234) 1299 = .ok (.iload 5, 2) := by decide +kernel
theorem q234_1301 : decode (mB 234) 1301 = .ok (.iconst 1, 1) := by decide +kernel
theorem q234_1302 : decode (mB 234) 1302 = .ok (.iadd, 1) := by decide +kernel
theorem q234_1303 : decode (mB 234) 1303 = .ok (.iaload, 1) := by decide +kernel
theorem q234_1304 : cfB 234 1304 198 177 1 4 1 = true := by decide +kernel
theorem q234_1307 : decode (mB 234) 1307 = .ok (.istore 7, 2) := by decide +kernel
theorem q234_1309 : decode (mB 234) 1309 = .ok (.aload_n 2, 1) := by decide +kernel
theorem q234_1310 : cfB 234 1310 137 135 1 4 0 = true := by decide +kernel
theorem q234_1313 : decode (mB 234) 1313 = .ok (.iload 6, 2) := by decide +kernel
theorem q234_1315 : decode (mB 234) 1315 = .ok (.if_icmp .eq 5, 3) := by decide +kernel
theorem q234_1318 : decode (mB 234) 1318 = .ok (.iconst 0, 1) := by decide +kernel
theorem q234_1319 : decode (mB 234) 1319 = .ok (.ireturn, 1) := by decide +kernel
theorem q234_1320 : decode (mB 234) 1320 = .ok (.iload 6, 2) := by decide +kernel
theorem q234_1322 : decode (mB 234) 1322 = .ok (.ifCond .ne 15, 3) := by decide +kernel
theorem q234_1325 : decode (mB 234) 1325 = .ok (.aload_n 3, 1) := by decide +kernel
theorem q234_1326 : decode (mB 234) 1326 = .ok (.iconst 0, 1) := by decide +kernel
theorem q234_1327 : decode (mB 234) 1327 = .ok (.laload, 1) := by decide +kernel
theorem q234_1328 : decode (mB 234) 1328 = .ok (.iload 7, 2) := by decide +kernel
theorem q234_1330 : decode (mB 234) 1330 = .ok (.i2l, 1) := by decide +kernel
theorem q234_1331 : decode (mB 234) 1331 = .ok (.lcmp, 1) := by decide +kernel
theorem q234_1332 : decode (mB 234) 1332 = .ok (.ifCond .eq 5, 3) := by decide +kernel
theorem q234_1335 : decode (mB 234) 1335 = .ok (.iconst 0, 1) := by decide +kernel
theorem q234_1336 : decode (mB 234) 1336 = .ok (.ireturn, 1) := by decide +kernel
theorem q234_1337 : decode (mB 234) 1337 = .ok (.goto 869, 3) := by decide +kernel
theorem q234_1340 : decode (mB 234) 1340 = .ok (.aload_n 1, 1) := by decide +kernel
theorem q234_1341 : decode (mB 234) 1341 = .ok (.aload_n 0, 1) := by decide +kernel
theorem q234_1342 : decode (mB 234) 1342 = .ok (.iload 5, 2) := by decide +kernel
theorem q234_1344 : decode (mB 234) 1344 = .ok (.iconst 1, 1) := by decide +kernel
theorem q234_1345 : decode (mB 234) 1345 = .ok (.iadd, 1) := by decide +kernel
theorem q234_1346 : decode (mB 234) 1346 = .ok (.iaload, 1) := by decide +kernel
theorem q234_1347 : decode (mB 234) 1347 = .ok (.aload_n 3, 1) := by decide +kernel
theorem q234_1348 : cfW 234 1348 199 219 3 = true := by decide +kernel
theorem q234_1351 : decode (mB 234) 1351 = .ok (.istore 6, 2) := by decide +kernel
theorem q234_1353 : decode (mB 234) 1353 = .ok (.aload_n 2, 1) := by decide +kernel
theorem q234_1354 : decode (mB 234) 1354 = .ok (.aload_n 0, 1) := by decide +kernel
theorem q234_1355 : decode (mB 234) 1355 = .ok (.iload 5, 2) := by decide +kernel
theorem q234_1357 : decode (mB 234) 1357 = .ok (.iconst 1, 1) := by decide +kernel
theorem q234_1358 : decode (mB 234) 1358 = .ok (.iadd, 1) := by decide +kernel
theorem q234_1359 : decode (mB 234) 1359 = .ok (.iaload, 1) := by decide +kernel
theorem q234_1360 : cfB 234 1360 201 178 1 4 1 = true := by decide +kernel
theorem q234_1363 : decode (mB 234) 1363 = .ok (.istore 7, 2) := by decide +kernel
theorem q234_1365 : decode (mB 234) 1365 = .ok (.aload_n 2, 1) := by decide +kernel
theorem q234_1366 : cfB 234 1366 137 135 1 4 0 = true := by decide +kernel
theorem q234_1369 : decode (mB 234) 1369 = .ok (.iload 6, 2) := by decide +kernel
theorem q234_1371 : decode (mB 234) 1371 = .ok (.if_icmp .eq 5, 3) := by decide +kernel
theorem q234_1374 : decode (mB 234) 1374 = .ok (.iconst 0, 1) := by decide +kernel
theorem q234_1375 : decode (mB 234) 1375 = .ok (.ireturn, 1) := by decide +kernel
theorem q234_1376 : decode (mB 234) 1376 = .ok (.iload 6, 2) := by decide +kernel
theorem q234_1378 : decode (mB 234) 1378 = .ok (.ifCond .ne 15, 3) := by decide +kernel
theorem q234_1381 : decode (mB 234) 1381 = .ok (.aload_n 3, 1) := by decide +kernel
theorem q234_1382 : decode (mB 234) 1382 = .ok (.iconst 0, 1) := by decide +kernel
theorem q234_1383 : decode (mB 234) 1383 = .ok (.laload, 1) := by decide +kernel
theorem q234_1384 : decode (mB 234) 1384 = .ok (.iload 7, 2) := by decide +kernel
theorem q234_1386 : decode (mB 234) 1386 = .ok (.i2l, 1) := by decide +kernel
theorem q234_1387 : decode (mB 234) 1387 = .ok (.lcmp, 1) := by decide +kernel
theorem q234_1388 : decode (mB 234) 1388 = .ok (.ifCond .eq 5, 3) := by decide +kernel
theorem q234_1391 : decode (mB 234) 1391 = .ok (.iconst 0, 1) := by decide +kernel
theorem q234_1392 : decode (mB 234) 1392 = .ok (.ireturn, 1) := by decide +kernel
theorem q234_1393 : decode (mB 234) 1393 = .ok (.goto 813, 3) := by decide +kernel
theorem q234_1396 : decode (mB 234) 1396 = .ok (.aload_n 1, 1) := by decide +kernel
theorem q234_1397 : decode (mB 234) 1397 = .ok (.aload_n 0, 1) := by decide +kernel
theorem q234_1398 : decode (mB 234) 1398 = .ok (.iload 5, 2) := by decide +kernel
theorem q234_1400 : decode (mB 234) 1400 = .ok (.iconst 1, 1) := by decide +kernel
theorem q234_1401 : decode (mB 234) 1401 = .ok (.iadd, 1) := by decide +kernel
theorem q234_1402 : decode (mB 234) 1402 = .ok (.iaload, 1) := by decide +kernel
theorem q234_1403 : decode (mB 234) 1403 = .ok (.aload_n 3, 1) := by decide +kernel
theorem q234_1404 : cfW 234 1404 202 220 3 = true := by decide +kernel
theorem q234_1407 : decode (mB 234) 1407 = .ok (.istore 6, 2) := by decide +kernel
theorem q234_1409 : decode (mB 234) 1409 = .ok (.aload_n 2, 1) := by decide +kernel
theorem q234_1410 : decode (mB 234) 1410 = .ok (.aload_n 0, 1) := by decide +kernel
theorem q234_1411 : decode (mB 234) 1411 = .ok (.iload 5, 2) := by decide +kernel
theorem q234_1413 : decode (mB 234) 1413 = .ok (.iconst 1, 1) := by decide +kernel
theorem q234_1414 : decode (mB 234) 1414 = .ok (.iadd, 1) := by decide +kernel
theorem q234_1415 : decode (mB 234) 1415 = .ok (.iaload, 1) := by decide +kernel
theorem q234_1416 : cfB 234 1416 204 180 1 4 1 = true := by decide +kernel
theorem q234_1419 : decode (mB 234) 1419 = .ok (.istore 7, 2) := by decide +kernel
theorem q234_1421 : decode (mB 234) 1421 = .ok (.aload_n 2, 1) := by decide +kernel
theorem q234_1422 : cfB 234 1422 137 135 1 4 0 = true := by decide +kernel
theorem q234_1425 : decode (mB 234) 1425 = .ok (.iload 6, 2) := by decide +kernel
theorem q234_1427 : decode (mB 234) 1427 = .ok (.if_icmp .eq 5, 3) := by decide +kernel
theorem q234_1430 : decode (mB 234) 1430 = .ok (.iconst 0, 1) := by decide +kernel
theorem q234_1431 : decode (mB 234) 1431 = .ok (.ireturn, 1) := by decide +kernel
theorem q234_1432 : decode (mB 234) 1432 = .ok (.iload 6, 2) := by decide +kernel
theorem q234_1434 : decode (mB 234) 1434 = .ok (.ifCond .ne 15, 3) := by decide +kernel
theorem q234_1437 : decode (mB 234) 1437 = .ok (.aload_n 3, 1) := by decide +kernel
theorem q234_1438 : decode (mB 234) 1438 = .ok (.iconst 0, 1) := by decide +kernel
theorem q234_1439 : decode (mB 234) 1439 = .ok (.laload, 1) := by decide +kernel
theorem q234_1440 : decode (mB 234) 1440 = .ok (.iload 7, 2) := by decide +kernel
theorem q234_1442 : decode (mB 234) 1442 = .ok (.i2l, 1) := by decide +kernel
theorem q234_1443 : decode (mB 234) 1443 = .ok (.lcmp, 1) := by decide +kernel
theorem q234_1444 : decode (mB 234) 1444 = .ok (.ifCond .eq 5, 3) := by decide +kernel
theorem q234_1447 : decode (mB 234) 1447 = .ok (.iconst 0, 1) := by decide +kernel
theorem q234_1448 : decode (mB 234) 1448 = .ok (.ireturn, 1) := by decide +kernel
theorem q234_1449 : decode (mB 234) 1449 = .ok (.goto 757, 3) := by decide +kernel
theorem q234_1452 : decode (mB 234) 1452 = .ok (.aload_n 1, 1) := by decide +kernel
theorem q234_1453 : decode (mB 234) 1453 = .ok (.aload_n 0, 1) := by decide +kernel
theorem q234_1454 : decode (mB 234) 1454 = .ok (.iload 5, 2) := by decide +kernel
theorem q234_1456 : decode (mB 234) 1456 = .ok (.iconst 1, 1) := by decide +kernel
theorem q234_1457 : decode (mB 234) 1457 = .ok (.iadd, 1) := by decide +kernel
theorem q234_1458 : decode (mB 234) 1458 = .ok (.iaload, 1) := by decide +kernel
theorem q234_1459 : decode (mB 234) 1459 = .ok (.aload_n 3, 1) := by decide +kernel
theorem q234_1460 : cfW 234 1460 205 221 3 = true := by decide +kernel
theorem q234_1463 : decode (mB 234) 1463 = .ok (.istore 6, 2) := by decide +kernel
theorem q234_1465 : decode (mB 234) 1465 = .ok (.aload_n 2, 1) := by decide +kernel
theorem q234_1466 : decode (mB 234) 1466 = .ok (.aload_n 0, 1) := by decide +kernel
theorem q234_1467 : decode (mB 234) 1467 = .ok (.iload 5, 2) := by decide +kernel
theorem q234_1469 : decode (mB 234) 1469 = .ok (.iconst 1, 1) := by decide +kernel
theorem q234_1470 : decode (mB 234) 1470 = .ok (.iadd, 1) := by decide +kernel
theorem q234_1471 : decode (mB 234) 1471 = .ok (.iaload, 1) := by decide +kernel
theorem q234_1472 : cfB 234 1472 207 181 1 4 1 = true := by decide +kernel
theorem q234_1475 : decode (mB 234) 1475 = .ok (.istore 7, 2) := by decide +kernel
theorem q234_1477 : decode (mB 234) 1477 = .ok (.aload_n 2, 1) := by decide +kernel
theorem q234_1478 : cfB 234 1478 137 135 1 4 0 = true := by decide +kernel
theorem q234_1481 : decode (mB 234) 1481 = .ok (.iload 6, 2) := by decide +kernel
theorem q234_1483 : decode (mB 234) 1483 = .ok (.if_icmp .eq 5, 3) := by decide +kernel
theorem q234_1486 : decode (mB 234) 1486 = .ok (.iconst 0, 1) := by decide +kernel
theorem q234_1487 : decode (mB 234) 1487 = .ok (.ireturn, 1) := by decide +kernel
theorem q234_1488 : decode (mB 234) 1488 = .ok (.iload 6, 2) := by decide +kernel
theorem q234_1490 : decode (mB 234) 1490 = .ok (.ifCond .ne 15, 3) := by decide +kernel
theorem q234_1493 : decode (mB 234) 1493 = .ok (.aload_n 3, 1) := by decide +kernel
theorem q234_1494 : decode (mB 234) 1494 = .ok (.iconst 0, 1) := by decide +kernel
theorem q234_1495 : decode (mB 234) 1495 = .ok (.laload, 1) := by decide +kernel
theorem q234_1496 : decode (mB 234) 1496 = .ok (.iload 7, 2) := by decide +kernel
theorem q234_1498 : decode (mB 234) 1498 = .ok (.i2l, 1) := by decide +kernel
theorem q234_1499 : decode (mB 234) 1499 = .ok (.lcmp, 1) := by decide +kernel
theorem q234_1500 : decode (mB 234) 1500 = .ok (.ifCond .eq 5, 3) := by decide +kernel
theorem q234_1503 : decode (mB 234) 1503 = .ok (.iconst 0, 1) := by decide +kernel
theorem q234_1504 : decode (mB 234) 1504 = .ok (.ireturn, 1) := by decide +kernel
theorem q234_1505 : decode (mB 234) 1505 = .ok (.goto 701, 3) := by decide +kernel
theorem q234_1508 : decode (mB 234) 1508 = .ok (.aload_n 1, 1) := by decide +kernel
theorem q234_1509 : decode (mB 234) 1509 = .ok (.aload_n 0, 1) := by decide +kernel
theorem q234_1510 : decode (mB 234) 1510 = .ok (.iload 5, 2) := by decide +kernel
theorem q234_1512 : decode (mB 234) 1512 = .ok (.iconst 1, 1) := by decide +kernel
theorem q234_1513 : decode (mB 234) 1513 = .ok (.iadd, 1) := by decide +kernel
theorem q234_1514 : decode (mB 234) 1514 = .ok (.iaload, 1) := by decide +kernel
theorem q234_1515 : decode (mB 234) 1515 = .ok (.aload_n 0, 1) := by decide +kernel
theorem q234_1516 : decode (mB 234) 1516 = .ok (.iload 5, 2) := by decide +kernel
theorem q234_1518 : decode (mB 234) 1518 = .ok (.iconst 2, 1) := by decide +kernel
theorem q234_1519 : decode (mB 234) 1519 = .ok (.iadd, 1) := by decide +kernel
theorem q234_1520 : decode (mB 234) 1520 = .ok (.iaload, 1) := by decide +kernel
theorem q234_1521 : decode (mB 234) 1521 = .ok (.aload_n 3, 1) := by decide +kernel
theorem q234_1522 : cfW 234 1522 208 222 4 = true := by decide +kernel
theorem q234_1525 : decode (mB 234) 1525 = .ok (.istore 6, 2) := by decide +kernel
theorem q234_1527 : decode (mB 234) 1527 = .ok (.aload_n 2, 1) := by decide +kernel
theorem q234_1528 : decode (mB 234) 1528 = .ok (.aload_n 0, 1) := by decide +kernel
theorem q234_1529 : decode (mB 234) 1529 = .ok (.iload 5, 2) := by decide +kernel
theorem q234_1531 : decode (mB 234) 1531 = .ok (.iconst 1, 1) := by decide +kernel
theorem q234_1532 : decode (mB 234) 1532 = .ok (.iadd, 1) := by decide +kernel
theorem q234_1533 : decode (mB 234) 1533 = .ok (.iaload, 1) := by decide +kernel
theorem q234_1534 : decode (mB 234) 1534 = .ok (.aload_n 0, 1) := by decide +kernel
theorem q234_1535 : decode (mB 234) 1535 = .ok (.iload 5, 2) := by decide +kernel
theorem q234_1537 : decode (mB 234) 1537 = .ok (.iconst 2, 1) := by decide +kernel
theorem q234_1538 : decode (mB 234) 1538 = .ok (.iadd, 1) := by decide +kernel
theorem q234_1539 : decode (mB 234) 1539 = .ok (.iaload, 1) := by decide +kernel
theorem q234_1540 : cfB 234 1540 210 183 1 4 2 = true := by decide +kernel
theorem q234_1543 : decode (mB 234) 1543 = .ok (.istore 7, 2) := by decide +kernel
theorem q234_1545 : decode (mB 234) 1545 = .ok (.aload_n 2, 1) := by decide +kernel
theorem q234_1546 : cfB 234 1546 137 135 1 4 0 = true := by decide +kernel
theorem q234_1549 : decode (mB 234) 1549 = .ok (.iload 6, 2) := by decide +kernel
theorem q234_1551 : decode (mB 234) 1551 = .ok (.if_icmp .eq 5, 3) := by decide +kernel
theorem q234_1554 : decode (mB 234) 1554 = .ok (.iconst 0, 1) := by decide +kernel
theorem q234_1555 : decode (mB 234) 1555 = .ok (.ireturn, 1) := by decide +kernel
theorem q234_1556 : decode (mB 234) 1556 = .ok (.iload 6, 2) := by decide +kernel
theorem q234_1558 : decode (mB 234) 1558 = .ok (.ifCond .ne 15, 3) := by decide +kernel
theorem q234_1561 : decode (mB 234) 1561 = .ok (.aload_n 3, 1) := by decide +kernel
theorem q234_1562 : decode (mB 234) 1562 = .ok (.iconst 0, 1) := by decide +kernel
theorem q234_1563 : decode (mB 234) 1563 = .ok (.laload, 1) := by decide +kernel
theorem q234_1564 : decode (mB 234) 1564 = .ok (.iload 7, 2) := by decide +kernel
theorem q234_1566 : decode (mB 234) 1566 = .ok (.i2l, 1) := by decide +kernel
theorem q234_1567 : decode (mB 234) 1567 = .ok (.lcmp, 1) := by decide +kernel
theorem q234_1568 : decode (mB 234) 1568 = .ok (.ifCond .eq 5, 3) := by decide +kernel
theorem q234_1571 : decode (mB 234) 1571 = .ok (.iconst 0, 1) := by decide +kernel
theorem q234_1572 : decode (mB 234) 1572 = .ok (.ireturn, 1) := by decide +kernel
theorem q234_1573 : decode (mB 234) 1573 = .ok (.goto 633, 3) := by decide +kernel
theorem q234_1576 : decode (mB 234) 1576 = .ok (.aload_n 1, 1) := by decide +kernel
theorem q234_1577 : decode (mB 234) 1577 = .ok (.aload_n 0, 1) := by decide +kernel
theorem q234_1578 : decode (mB 234) 1578 = .ok (.iload 5, 2) := by decide +kernel
theorem q234_1580 : decode (mB 234) 1580 = .ok (.iconst 1, 1) := by decide +kernel
theorem q234_1581 : decode (mB 234) 1581 = .ok (.iadd, 1) := by decide +kernel
theorem q234_1582 : decode (mB 234) 1582 = .ok (.iaload, 1) := by decide +kernel
theorem q234_1583 : decode (mB 234) 1583 = .ok (.aload_n 3, 1) := by decide +kernel
theorem q234_1584 : cfW 234 1584 211 223 3 = true := by decide +kernel
theorem q234_1587 : decode (mB 234) 1587 = .ok (.istore 6, 2) := by decide +kernel
theorem q234_1589 : decode (mB 234) 1589 = .ok (.aload_n 2, 1) := by decide +kernel
theorem q234_1590 : decode (mB 234) 1590 = .ok (.aload_n 0, 1) := by decide +kernel
theorem q234_1591 : decode (mB 234) 1591 = .ok (.iload 5, 2) := by decide +kernel
theorem q234_1593 : decode (mB 234) 1593 = .ok (.iconst 1, 1) := by decide +kernel
theorem q234_1594 : decode (mB 234) 1594 = .ok (.iadd, 1) := by decide +kernel
theorem q234_1595 : decode (mB 234) 1595 = .ok (.iaload, 1) := by decide +kernel
theorem q234_1596 : cfB 234 1596 213 184 1 4 1 = true := by decide +kernel
theorem q234_1599 : decode (mB 234) 1599 = .ok (.istore 7, 2) := by decide +kernel
theorem q234_1601 : decode (mB 234) 1601 = .ok (.aload_n 2, 1) := by decide +kernel
theorem q234_1602 : cfB 234 1602 137 135 1 4 0 = true := by decide +kernel
theorem q234_1605 : decode (mB 234) 1605 = .ok (.iload 6, 2) := by decide +kernel
theorem q234_1607 : decode (mB 234) 1607 = .ok (.if_icmp .eq 5, 3) := by decide +kernel
theorem q234_1610 : decode (mB 234) 1610 = .ok (.iconst 0, 1) := by decide +kernel
theorem q234_1611 : decode (mB 234) 1611 = .ok (.ireturn, 1) := by decide +kernel
theorem q234_1612 : decode (mB 234) 1612 = .ok (.iload 6, 2) := by decide +kernel
theorem q234_1614 : decode (mB 234) 1614 = .ok (.ifCond .ne 15, 3) := by decide +kernel
theorem q234_1617 : decode (mB 234) 1617 = .ok (.aload_n 3, 1) := by decide +kernel
theorem q234_1618 : decode (mB 234) 1618 = .ok (.iconst 0, 1) := by decide +kernel
theorem q234_1619 : decode (mB 234) 1619 = .ok (.laload, 1) := by decide +kernel
theorem q234_1620 : decode (mB 234) 1620 = .ok (.iload 7, 2) := by decide +kernel
theorem q234_1622 : decode (mB 234) 1622 = .ok (.i2l, 1) := by decide +kernel
theorem q234_1623 : decode (mB 234) 1623 = .ok (.lcmp, 1) := by decide +kernel
theorem q234_1624 : decode (mB 234) 1624 = .ok (.ifCond .eq 5, 3) := by decide +kernel
theorem q234_1627 : decode (mB 234) 1627 = .ok (.iconst 0, 1) := by decide +kernel
theorem q234_1628 : decode (mB 234) 1628 = .ok (.ireturn, 1) := by decide +kernel
theorem q234_1629 : decode (mB 234) 1629 = .ok (.goto 577, 3) := by decide +kernel
theorem q234_1632 : decode (mB 234) 1632 = .ok (.aload_n 1, 1) := by decide +kernel
theorem q234_1633 : decode (mB 234) 1633 = .ok (.aload_n 3, 1) := by decide +kernel
theorem q234_1634 : cfW 234 1634 214 224 2 = true := by decide +kernel
theorem q234_1637 : decode (mB 234) 1637 = .ok (.istore 6, 2) := by decide +kernel
theorem q234_1639 : decode (mB 234) 1639 = .ok (.aload_n 2, 1) := by decide +kernel
theorem q234_1640 : cfB 234 1640 217 185 1 4 0 = true := by decide +kernel
theorem q234_1643 : decode (mB 234) 1643 = .ok (.istore 7, 2) := by decide +kernel
theorem q234_1645 : decode (mB 234) 1645 = .ok (.aload_n 2, 1) := by decide +kernel
theorem q234_1646 : cfB 234 1646 137 135 1 4 0 = true := by decide +kernel
theorem q234_1649 : decode (mB 234) 1649 = .ok (.iload 6, 2) := by decide +kernel
theorem q234_1651 : decode (mB 234) 1651 = .ok (.if_icmp .eq 5, 3) := by decide +kernel
theorem q234_1654 : decode (mB 234) 1654 = .ok (.iconst 0, 1) := by decide +kernel
theorem q234_1655 : decode (mB 234) 1655 = .ok (.ireturn, 1) := by decide +kernel
theorem q234_1656 : decode (mB 234) 1656 = .ok (.iload 6, 2) := by decide +kernel
theorem q234_1658 : decode (mB 234) 1658 = .ok (.ifCond .ne 22, 3) := by decide +kernel
theorem q234_1661 : decode (mB 234) 1661 = .ok (.aload_n 3, 1) := by decide +kernel
theorem q234_1662 : decode (mB 234) 1662 = .ok (.iconst 0, 1) := by decide +kernel
theorem q234_1663 : decode (mB 234) 1663 = .ok (.laload, 1) := by decide +kernel
theorem q234_1664 : decode (mB 234) 1664 = .ok (.iload 7, 2) := by decide +kernel
theorem q234_1666 : decode (mB 234) 1666 = .ok (.ifCond .eq 7, 3) := by decide +kernel
theorem q234_1669 : decode (mB 234) 1669 = .ok (.lconst 1, 1) := by decide +kernel
theorem q234_1670 : decode (mB 234) 1670 = .ok (.goto 4, 3) := by decide +kernel
theorem q234_1673 : decode (mB 234) 1673 = .ok (.lconst 0, 1) := by decide +kernel
theorem q234_1674 : decode (mB 234) 1674 = .ok (.lcmp, 1) := by decide +kernel
theorem q234_1675 : decode (mB 234) 1675 = .ok (.ifCond .eq 5, 3) := by decide +kernel
theorem q234_1678 : decode (mB 234) 1678 = .ok (.iconst 0, 1) := by decide +kernel
theorem q234_1679 : decode (mB 234) 1679 = .ok (.ireturn, 1) := by decide +kernel
theorem q234_1680 : decode (mB 234) 1680 = .ok (.goto 526, 3) := by decide +kernel
theorem q234_1683 : decode (mB 234) 1683 = .ok (.aload_n 1, 1) := by decide +kernel
theorem q234_1684 : decode (mB 234) 1684 = .ok (.aload_n 3, 1) := by decide +kernel
theorem q234_1685 : cfW 234 1685 218 225 2 = true := by decide +kernel
theorem q234_1688 : decode (mB 234) 1688 = .ok (.istore 6, 2) := by decide +kernel
theorem q234_1690 : decode (mB 234) 1690 = .ok (.aload_n 2, 1) := by decide +kernel
theorem q234_1691 : cfB 234 1691 220 186 1 4 0 = true := by decide +kernel
theorem q234_1694 : decode (mB 234) 1694 = .ok (.istore 7, 2) := by decide +kernel
theorem q234_1696 : decode (mB 234) 1696 = .ok (.aload_n 2, 1) := by decide +kernel
theorem q234_1697 : cfB 234 1697 137 135 1 4 0 = true := by decide +kernel
theorem q234_1700 : decode (mB 234) 1700 = .ok (.iload 6, 2) := by decide +kernel
theorem q234_1702 : decode (mB 234) 1702 = .ok (.if_icmp .eq 5, 3) := by decide +kernel
theorem q234_1705 : decode (mB 234) 1705 = .ok (.iconst 0, 1) := by decide +kernel
theorem q234_1706 : decode (mB 234) 1706 = .ok (.ireturn, 1) := by decide +kernel
theorem q234_1707 : decode (mB 234) 1707 = .ok (.iload 6, 2) := by decide +kernel
theorem q234_1709 : decode (mB 234) 1709 = .ok (.ifCond .ne 15, 3) := by decide +kernel
theorem q234_1712 : decode (mB 234) 1712 = .ok (.aload_n 3, 1) := by decide +kernel
theorem q234_1713 : decode (mB 234) 1713 = .ok (.iconst 0, 1) := by decide +kernel
theorem q234_1714 : decode (mB 234) 1714 = .ok (.laload, 1) := by decide +kernel
theorem q234_1715 : decode (mB 234) 1715 = .ok (.iload 7, 2) := by decide +kernel
theorem q234_1717 : decode (mB 234) 1717 = .ok (.i2l, 1) := by decide +kernel
theorem q234_1718 : decode (mB 234) 1718 = .ok (.lcmp, 1) := by decide +kernel
theorem q234_1719 : decode (mB 234) 1719 = .ok (.ifCond .eq 5, 3) := by decide +kernel
theorem q234_1722 : decode (mB 234) 1722 = .ok (.iconst 0, 1) := by decide +kernel
theorem q234_1723 : decode (mB 234) 1723 = .ok (.ireturn, 1) := by decide +kernel
theorem q234_1724 : decode (mB 234) 1724 = .ok (.goto 482, 3) := by decide +kernel
theorem q234_1727 : decode (mB 234) 1727 = .ok (.aload_n 1, 1) := by decide +kernel
theorem q234_1728 : decode (mB 234) 1728 = .ok (.aload_n 3, 1) := by decide +kernel
theorem q234_1729 : cfW 234 1729 221 226 2 = true := by decide +kernel
theorem q234_1732 : decode (mB 234) 1732 = .ok (.istore 6, 2) := by decide +kernel
theorem q234_1734 : decode (mB 234) 1734 = .ok (.aload_n 2, 1) := by decide +kernel
theorem q234_1735 : cfB 234 1735 223 187 1 4 0 = true := by decide +kernel
theorem q234_1738 : decode (mB 234) 1738 = .ok (.istore 7, 2) := by decide +kernel
theorem q234_1740 : decode (mB 234) 1740 = .ok (.aload_n 2, 1) := by decide +kernel
theorem q234_1741 : cfB 234 1741 137 135 1 4 0 = true := by decide +kernel
theorem q234_1744 : decode (mB 234) 1744 = .ok (.iload 6, 2) := by decide +kernel
theorem q234_1746 : decode (mB 234) 1746 = .ok (.if_icmp .eq 5, 3) := by decide +kernel
theorem q234_1749 : decode (mB 234) 1749 = .ok (.iconst 0, 1) := by decide +kernel
theorem q234_1750 : decode (mB 234) 1750 = .ok (.ireturn, 1) := by decide +kernel
theorem q234_1751 : decode (mB 234) 1751 = .ok (.iload 6, 2) := by decide +kernel
theorem q234_1753 : decode (mB 234) 1753 = .ok (.ifCond .ne 15, 3) := by decide +kernel
theorem q234_1756 : decode (mB 234) 1756 = .ok (.aload_n 3, 1) := by decide +kernel
theorem q234_1757 : decode (mB 234) 1757 = .ok (.iconst 0, 1) := by decide +kernel
theorem q234_1758 : decode (mB 234) 1758 = .ok (.laload, 1) := by decide +kernel
theorem q234_1759 : decode (mB 234) 1759 = .ok (.iload 7, 2) := by decide +kernel
theorem q234_1761 : decode (mB 234) 1761 = .ok (.i2l, 1) := by decide +kernel
theorem q234_1762 : decode (mB 234) 1762 = .ok (.lcmp, 1) := by decide +kernel
theorem q234_1763 : decode (mB 234) 1763 = .ok (.ifCond .eq 5, 3) := by decide +kernel
theorem q234_1766 : decode (mB 234) 1766 = .ok (.iconst 0, 1) := by decide +kernel
theorem q234_1767 : decode (mB 234) 1767 = .ok (.ireturn, 1) := by decide +kernel
theorem q234_1768 : decode (mB 234) 1768 = .ok (.goto 438, 3) := by decide +kernel
theorem q234_1771 : decode (mB 234) 1771 = .ok (.aload_n 1, 1) := by decide +kernel
theorem q234_1772 : decode (mB 234) 1772 = .ok (.aload_n 0, 1) := by decide +kernel
theorem q234_1773 : decode (mB 234) 1773 = .ok (.iload 5, 2) := by decide +kernel
theorem q234_1775 : decode (mB 234) 1775 = .ok (.iconst 1, 1) := by decide +kernel
theorem q234_1776 : decode (mB 234) 1776 = .ok (.iadd, 1) := by decide +kernel
theorem q234_1777 : decode (mB 234) 1777 = .ok (.iaload, 1) := by decide +kernel
theorem q234_1778 : decode (mB 234) 1778 = .ok (.aload_n 3, 1) := by decide +kernel
theorem q234_1779 : cfW 234 1779 224 227 3 = true := by decide +kernel
theorem q234_1782 : decode (mB 234) 1782 = .ok (.istore 6, 2) := by decide +kernel
theorem q234_1784 : decode (mB 234) 1784 = .ok (.aload_n 2, 1) := by decide +kernel
theorem q234_1785 : decode (mB 234) 1785 = .ok (.aload_n 0, 1) := by decide +kernel
theorem q234_1786 : decode (mB 234) 1786 = .ok (.iload 5, 2) := by decide +kernel
theorem q234_1788 : decode (mB 234) 1788 = .ok (.iconst 1, 1) := by decide +kernel
theorem q234_1789 : decode (mB 234) 1789 = .ok (.iadd, 1) := by decide +kernel
theorem q234_1790 : decode (mB 234) 1790 = .ok (.iaload, 1) := by decide +kernel
theorem q234_1791 : cfB 234 1791 226 188 1 4 1 = true := by decide +kernel
theorem q234_1794 : decode (mB 234) 1794 = .ok (.istore 7, 2) := by decide +kernel
theorem q234_1796 : decode (mB 234) 1796 = .ok (.aload_n 2, 1) := by decide +kernel
theorem q234_1797 : cfB 234 1797 137 135 1 4 0 = true := by decide +kernel
theorem q234_1800 : decode (mB 234) 1800 = .ok (.iload 6, 2) := by decide +kernel
theorem q234_1802 : decode (mB 234) 1802 = .ok (.if_icmp .eq 5, 3) := by decide +kernel
theorem q234_1805 : decode (mB 234) 1805 = .ok (.iconst 0, 1) := by decide +kernel
theorem q234_1806 : decode (mB 234) 1806 = .ok (.ireturn, 1) := by decide +kernel
theorem q234_1807 : decode (mB 234) 1807 = .ok (.iload 6, 2) := by decide +kernel
theorem q234_1809 : decode (mB 234) 1809 = .ok (.ifCond .ne 15, 3) := by decide +kernel
theorem q234_1812 : decode (mB 234) 1812 = .ok (.aload_n 3, 1) := by decide +kernel
theorem q234_1813 : decode (mB 234) 1813 = .ok (.iconst 0, 1) := by decide +kernel
theorem q234_1814 : decode (mB 234) 1814 = .ok (.laload, 1) := by decide +kernel
theorem q234_1815 : decode (mB 234) 1815 = .ok (.iload 7, 2) := by decide +kernel
theorem q234_1817 : decode (mB 234) 1817 = .ok (.i2l, 1) := by decide +kernel
theorem q234_1818 : decode (mB 234) 1818 = .ok (.lcmp, 1) := by decide +kernel
theorem q234_1819 : decode (mB 234) 1819 = .ok (.ifCond .eq 5, 3) := by decide +kernel
theorem q234_1822 : decode (mB 234) 1822 = .ok (.iconst 0, 1) := by decide +kernel
theorem q234_1823 : decode (mB 234) 1823 = .ok (.ireturn, 1) := by decide +kernel
theorem q234_1824 : decode (mB 234) 1824 = .ok (.goto 382, 3) := by decide +kernel
theorem q234_1827 : decode (mB 234) 1827 = .ok (.aload_n 1, 1) := by decide +kernel
theorem q234_1828 : cfB 234 1828 227 109 1 4 0 = true := by decide +kernel
theorem q234_1831 : decode (mB 234) 1831 = .ok (.aload_n 2, 1) := by decide +kernel
theorem q234_1832 : cfB 234 1832 230 189 1 4 0 = true := by decide +kernel
theorem q234_1835 : decode (mB 234) 1835 = .ok (.if_icmp .eq 371, 3) := by decide +kernel
theorem q234_1838 : decode (mB 234) 1838 = .ok (.iconst 0, 1) := by decide +kernel
theorem q234_1839 : decode (mB 234) 1839 = .ok (.ireturn, 1) := by decide +kernel
theorem q234_1840 : decode (mB 234) 1840 = .ok (.aload_n 1, 1) := by decide +kernel
theorem q234_1841 : decode (mB 234) 1841 = .ok (.aload_n 3, 1) := by decide +kernel
theorem q234_1842 : cfW 234 1842 231 228 2 = true := by decide +kernel
theorem q234_1845 : decode (mB 234) 1845 = .ok (.istore 6, 2) := by decide +kernel
theorem q234_1847 : decode (mB 234) 1847 = .ok (.aload_n 2, 1) := by decide +kernel
theorem q234_1848 : cfB 234 1848 233 191 1 4 0 = true := by decide +kernel
theorem q234_1851 : decode (mB 234) 1851 = .ok (.istore 7, 2) := by decide +kernel
theorem q234_1853 : decode (mB 234) 1853 = .ok (.aload_n 2, 1) := by decide +kernel
theorem q234_1854 : cfB 234 1854 137 135 1 4 0 = true := by decide +kernel
theorem q234_1857 : decode (mB 234) 1857 = .ok (.iload 6, 2) := by decide +kernel
theorem q234_1859 : decode (mB 234) 1859 = .ok (.if_icmp .eq 5, 3) := by decide +kernel
theorem q234_1862 : decode (mB 234) 1862 = .ok (.iconst 0, 1) := by decide +kernel
theorem q234_1863 : decode (mB 234) 1863 = .ok (.ireturn, 1) := by decide +kernel
theorem q234_1864 : decode (mB 234) 1864 = .ok (.iload 6, 2) := by decide +kernel
theorem q234_1866 : decode (mB 234) 1866 = .ok (.ifCond .ne 15, 3) := by decide +kernel
theorem q234_1869 : decode (mB 234) 1869 = .ok (.aload_n 3, 1) := by decide +kernel
theorem q234_1870 : decode (mB 234) 1870 = .ok (.iconst 0, 1) := by decide +kernel
theorem q234_1871 : decode (mB 234) 1871 = .ok (.laload, 1) := by decide +kernel
theorem q234_1872 : decode (mB 234) 1872 = .ok (.iload 7, 2) := by decide +kernel
theorem q234_1874 : decode (mB 234) 1874 = .ok (.i2l, 1) := by decide +kernel
theorem q234_1875 : decode (mB 234) 1875 = .ok (.lcmp, 1) := by decide +kernel
theorem q234_1876 : decode (mB 234) 1876 = .ok (.ifCond .eq 5, 3) := by decide +kernel
theorem q234_1879 : decode (mB 234) 1879 = .ok (.iconst 0, 1) := by decide +kernel
theorem q234_1880 : decode (mB 234) 1880 = .ok (.ireturn, 1) := by decide +kernel
theorem q234_1881 : decode (mB 234) 1881 = .ok (.goto 325, 3) := by decide +kernel
theorem q234_1884 : decode (mB 234) 1884 = .ok (.aload_n 1, 1) := by decide +kernel
theorem q234_1885 : cfB 234 1885 234 111 1 4 0 = true := by decide +kernel
theorem q234_1888 : decode (mB 234) 1888 = .ok (.aload_n 2, 1) := by decide +kernel
theorem q234_1889 : cfB 234 1889 237 192 1 4 0 = true := by decide +kernel
theorem q234_1892 : decode (mB 234) 1892 = .ok (.if_icmp .eq 314, 3) := by decide +kernel
theorem q234_1895 : decode (mB 234) 1895 = .ok (.iconst 0, 1) := by decide +kernel
theorem q234_1896 : decode (mB 234) 1896 = .ok (.ireturn, 1) := by decide +kernel
theorem q234_1897 : decode (mB 234) 1897 = .ok (.aload_n 1, 1) := by decide +kernel
theorem q234_1898 : decode (mB 234) 1898 = .ok (.aload_n 0, 1) := by decide +kernel
theorem q234_1899 : decode (mB 234) 1899 = .ok (.iload 5, 2) := by decide +kernel
theorem q234_1901 : decode (mB 234) 1901 = .ok (.iconst 1, 1) := by decide +kernel
theorem q234_1902 : decode (mB 234) 1902 = .ok (.iadd, 1) := by decide +kernel
theorem q234_1903 : decode (mB 234) 1903 = .ok (.iaload, 1) := by decide +kernel
theorem q234_1904 : decode (mB 234) 1904 = .ok (.i2c, 1) := by decide +kernel
theorem q234_1905 : decode (mB 234) 1905 = .ok (.aload_n 3, 1) := by decide +kernel
theorem q234_1906 : cfW 234 1906 238 229 3 = true := by decide +kernel
theorem q234_1909 : decode (mB 234) 1909 = .ok (.istore 6, 2) := by decide +kernel
theorem q234_1911 : decode (mB 234) 1911 = .ok (.aload_n 2, 1) := by decide +kernel
theorem q234_1912 : decode (mB 234) 1912 = .ok (.aload_n 0, 1) := by decide +kernel
theorem q234_1913 : decode (mB 234) 1913 = .ok (.iload 5, 2) := by decide +kernel
theorem q234_1915 : decode (mB 234) 1915 = .ok (.iconst 1, 1) := by decide +kernel
theorem q234_1916 : decode (mB 234) 1916 = .ok (.iadd, 1) := by decide +kernel
theorem q234_1917 : decode (mB 234) 1917 = .ok (.iaload, 1) := by decide +kernel
theorem q234_1918 : decode (mB 234) 1918 = .ok (.i2c, 1) := by decide +kernel
theorem q234_1919 : cfB 234 1919 240 193 1 4 1 = true := by decide +kernel
theorem q234_1922 : decode (mB 234) 1922 = .ok (.istore 7, 2) := by decide +kernel
theorem q234_1924 : decode (mB 234) 1924 = .ok (.aload_n 2, 1) := by decide +kernel
theorem q234_1925 : cfB 234 1925 137 135 1 4 0 = true := by decide +kernel
theorem q234_1928 : decode (mB 234) 1928 = .ok (.iload 6, 2) := by decide +kernel
theorem q234_1930 : decode (mB 234) 1930 = .ok (.if_icmp .eq 5, 3) := by decide +kernel
theorem q234_1933 : decode (mB 234) 1933 = .ok (.iconst 0, 1) := by decide +kernel
theorem q234_1934 : decode (mB 234) 1934 = .ok (.ireturn, 1) := by decide +kernel
theorem q234_1935 : decode (mB 234) 1935 = .ok (.iload 6, 2) := by decide +kernel
theorem q234_1937 : decode (mB 234) 1937 = .ok (.ifCond .ne 15, 3) := by decide +kernel
theorem q234_1940 : decode (mB 234) 1940 = .ok (.aload_n 3, 1) := by decide +kernel
theorem q234_1941 : decode (mB 234) 1941 = .ok (.iconst 0, 1) := by decide +kernel
theorem q234_1942 : decode (mB 234) 1942 = .ok (.laload, 1) := by decide +kernel
theorem q234_1943 : decode (mB 234) 1943 = .ok (.iload 7, 2) := by decide +kernel
theorem q234_1945 : decode (mB 234) 1945 = .ok (.i2l, 1) := by decide +kernel
theorem q234_1946 : decode (mB 234) 1946 = .ok (.lcmp, 1) := by decide +kernel
theorem q234_1947 : decode (mB 234) 1947 = .ok (.ifCond .eq 5, 3) := by decide +kernel
theorem q234_1950 : decode (mB 234) 1950 = .ok (.iconst 0, 1) := by decide +kernel
theorem q234_1951 : decode (mB 234) 1951 = .ok (.ireturn, 1) := by decide +kernel
theorem q234_1952 : decode (mB 234) 1952 = .ok (.goto 254, 3) := by decide +kernel
theorem q234_1955 : decode (mB 234) 1955 = .ok (.aload_n 1, 1) := by decide +kernel
theorem q234_1956 : decode (mB 234) 1956 = .ok (.aload_n 0, 1) := by decide +kernel
theorem q234_1957 : decode (mB 234) 1957 = .ok (.iload 5, 2) := by decide +kernel
theorem q234_1959 : decode (mB 234) 1959 = .ok (.iconst 1, 1) := by decide +kernel
theorem q234_1960 : decode (mB 234) 1960 = .ok (.iadd, 1) := by decide +kernel
theorem q234_1961 : decode (mB 234) 1961 = .ok (.iaload, 1) := by decide +kernel
theorem q234_1962 : decode (mB 234) 1962 = .ok (.aload_n 3, 1) := by decide +kernel
theorem q234_1963 : cfW 234 1963 241 230 3 = true := by decide +kernel
theorem q234_1966 : decode (mB 234) 1966 = .ok (.istore 6, 2) := by decide +kernel
theorem q234_1968 : decode (mB 234) 1968 = .ok (.aload_n 2, 1) := by decide +kernel
theorem q234_1969 : decode (mB 234) 1969 = .ok (.aload_n 0, 1) := by decide +kernel
theorem q234_1970 : decode (mB 234) 1970 = .ok (.iload 5, 2) := by decide +kernel
theorem q234_1972 : decode (mB 234) 1972 = .ok (.iconst 1, 1) := by decide +kernel
theorem q234_1973 : decode (mB 234) 1973 = .ok (.iadd, 1) := by decide +kernel
theorem q234_1974 : decode (mB 234) 1974 = .ok (.iaload, 1) := by decide +kernel
theorem q234_1975 : cfB 234 1975 243 194 1 4 1 = true := by decide +kernel
theorem q234_1978 : decode (mB 234) 1978 = .ok (.istore 7, 2) := by decide +kernel
theorem q234_1980 : decode (mB 234) 1980 = .ok (.aload_n 2, 1) := by decide +kernel
theorem q234_1981 : cfB 234 1981 137 135 1 4 0 = true := by decide +kernel
theorem q234_1984 : decode (mB 234) 1984 = .ok (.iload 6, 2) := by decide +kernel
theorem q234_1986 : decode (mB 234) 1986 = .ok (.if_icmp .eq 5, 3) := by decide +kernel
theorem q234_1989 : decode (mB 234) 1989 = .ok (.iconst 0, 1) := by decide +kernel
theorem q234_1990 : decode (mB 234) 1990 = .ok (.ireturn, 1) := by decide +kernel
theorem q234_1991 : decode (mB 234) 1991 = .ok (.iload 6, 2) := by decide +kernel
theorem q234_1993 : decode (mB 234) 1993 = .ok (.ifCond .ne 15, 3) := by decide +kernel
theorem q234_1996 : decode (mB 234) 1996 = .ok (.aload_n 3, 1) := by decide +kernel
theorem q234_1997 : decode (mB 234) 1997 = .ok (.iconst 0, 1) := by decide +kernel
theorem q234_1998 : decode (mB 234) 1998 = .ok (.laload, 1) := by decide +kernel
theorem q234_1999 : decode (mB 234) 1999 = .ok (.iload 7, 2) := by decide +kernel
theorem q234_2001 : decode (mB 234) 2001 = .ok (.i2l, 1) := by decide +kernel
theorem q234_2002 : decode (mB 234) 2002 = .ok (.lcmp, 1) := by decide +kernel
theorem q234_2003 : decode (mB 234) 2003 = .ok (.ifCond .eq 5, 3) := by decide +kernel
theorem q234_2006 : decode (mB 234) 2006 = .ok (.iconst 0, 1) := by decide +kernel
theorem q234_2007 : decode (mB 234) 2007 = .ok (.ireturn, 1) := by decide +kernel
theorem q234_2008 : decode (mB 234) 2008 = .ok (.goto 198, 3) := by decide +kernel
theorem q234_2011 : decode (mB 234) 2011 = .ok (.aload_n 1, 1) := by decide +kernel
theorem q234_2012 : decode (mB 234) 2012 = .ok (.aload_n 0, 1) := by decide +kernel
theorem q234_2013 : decode (mB 234) 2013 = .ok (.iload 5, 2) := by decide +kernel
theorem q234_2015 : decode (mB 234) 2015 = .ok (.iconst 1, 1) := by decide +kernel
theorem q234_2016 : decode (mB 234) 2016 = .ok (.iadd, 1) := by decide +kernel
theorem q234_2017 : decode (mB 234) 2017 = .ok (.iaload, 1) := by decide +kernel
theorem q234_2018 : decode (mB 234) 2018 = .ok (.aload_n 0, 1) := by decide +kernel
theorem q234_2019 : decode (mB 234) 2019 = .ok (.iload 5, 2) := by decide +kernel
theorem q234_2021 : decode (mB 234) 2021 = .ok (.iconst 2, 1) := by decide +kernel
theorem q234_2022 : decode (mB 234) 2022 = .ok (.iadd, 1) := by decide +kernel
theorem q234_2023 : decode (mB 234) 2023 = .ok (.iaload, 1) := by decide +kernel
theorem q234_2024 : decode (mB 234) 2024 = .ok (.aload_n 3, 1) := by decide +kernel
theorem q234_2025 : cfW 234 2025 244 231 4 = true := by decide +kernel
theorem q234_2028 : decode (mB 234) 2028 = .ok (.istore 6, 2) := by decide +kernel
theorem q234_2030 : decode (mB 234) 2030 = .ok (.aload_n 2, 1) := by decide +kernel
theorem q234_2031 : decode (mB 234) 2031 = .ok (.aload_n 0, 1) := by decide +kernel
theorem q234_2032 : decode (mB 234) 2032 = .ok (.iload 5, 2) := by decide +kernel
theorem q234_2034 : decode (mB 234) 2034 = .ok (.iconst 1, 1) := by decide +kernel
theorem q234_2035 : decode (mB 234) 2035 = .ok (.iadd, 1) := by decide +kernel
theorem q234_2036 : decode (mB 234) 2036 = .ok (.iaload, 1) := by decide +kernel
theorem q234_2037 : decode (mB 234) 2037 = .ok (.aload_n 0, 1) := by decide +kernel
theorem q234_2038 : decode (mB 234) 2038 = .ok (.iload 5, 2) := by decide +kernel
theorem q234_2040 : decode (mB 234) 2040 = .ok (.iconst 2, 1) := by decide +kernel
theorem q234_2041 : decode (mB 234) 2041 = .ok (.iadd, 1) := by decide +kernel
theorem q234_2042 : decode (mB 234) 2042 = .ok (.iaload, 1) := by decide +kernel
theorem q234_2043 : cfB 234 2043 246 195 1 4 2 = true := by decide +kernel
theorem q234_2046 : decode (mB 234) 2046 = .ok (.istore 7, 2) := by decide +kernel
theorem q234_2048 : decode (mB 234) 2048 = .ok (.aload_n 2, 1) := by decide +kernel
theorem q234_2049 : cfB 234 2049 137 135 1 4 0 = true := by decide +kernel
theorem q234_2052 : decode (mB 234) 2052 = .ok (.iload 6, 2) := by decide +kernel
theorem q234_2054 : decode (mB 234) 2054 = .ok (.if_icmp .eq 5, 3) := by decide +kernel
theorem q234_2057 : decode (mB 234) 2057 = .ok (.iconst 0, 1) := by decide +kernel
theorem q234_2058 : decode (mB 234) 2058 = .ok (.ireturn, 1) := by decide +kernel
theorem q234_2059 : decode (mB 234) 2059 = .ok (.iload 6, 2) := by decide +kernel
theorem q234_2061 : decode (mB 234) 2061 = .ok (.ifCond .ne 15, 3) := by decide +kernel
theorem q234_2064 : decode (mB 234) 2064 = .ok (.aload_n 3, 1) := by decide +kernel
theorem q234_2065 : decode (mB 234) 2065 = .ok (.iconst 0, 1) := by decide +kernel
theorem q234_2066 : decode (mB 234) 2066 = .ok (.laload, 1) := by decide +kernel
theorem q234_2067 : decode (mB 234) 2067 = .ok (.iload 7, 2) := by decide +kernel
theorem q234_2069 : decode (mB 234) 2069 = .ok (.i2l, 1) := by decide +kernel
theorem q234_2070 : decode (mB 234) 2070 = .ok (.lcmp, 1) := by decide +kernel
theorem q234_2071 : decode (mB 234) 2071 = .ok (.ifCond .eq 5, 3) := by decide +kernel
theorem q234_2074 : decode (mB 234) 2074 = .ok (.iconst 0, 1) := by decide +kernel
theorem q234_2075 : decode (mB 234) 2075 = .ok (.ireturn, 1) := by decide +kernel
theorem q234_2076 : decode (mB 234) 2076 = .ok (.goto 130, 3) := by decide +kernel
theorem q234_2079 : decode (mB 234) 2079 = .ok (.aload_n 1, 1) := by decide +kernel
theorem q234_2080 : cfB 234 2080 247 115 1 4 0 = true := by decide +kernel
theorem q234_2083 : decode (mB 234) 2083 = .ok (.aload_n 2, 1) := by decide +kernel
theorem q234_2084 : cfB 234 2084 250 196 1 4 0 = true := by decide +kernel
theorem q234_2087 : decode (mB 234) 2087 = .ok (.if_icmp .eq 119, 3) := by decide +kernel
theorem q234_2090 : decode (mB 234) 2090 = .ok (.iconst 0, 1) := by decide +kernel
theorem q234_2091 : decode (mB 234) 2091 = .ok (.ireturn, 1) := by decide +kernel
theorem q234_2092 : decode (mB 234) 2092 = .ok (.aload_n 1, 1) := by decide +kernel
theorem q234_2093 : cfB 234 2093 251 116 1 4 0 = true := by decide +kernel
theorem q234_2096 : decode (mB 234) 2096 = .ok (.aload_n 2, 1) := by decide +kernel
theorem q234_2097 : cfB 234 2097 254 197 1 4 0 = true := by decide +kernel
theorem q234_2100 : decode (mB 234) 2100 = .ok (.if_icmp .eq 106, 3) := by decide +kernel
theorem q234_2103 : decode (mB 234) 2103 = .ok (.iconst 0, 1) := by decide +kernel
theorem q234_2104 : decode (mB 234) 2104 = .ok (.ireturn, 1) := by decide +kernel
theorem q234_2105 : decode (mB 234) 2105 = .ok (.aload_n 1, 1) := by decide +kernel
theorem q234_2106 : decode (mB 234) 2106 = .ok (.aload_n 3, 1) := by decide +kernel
theorem q234_2107 : cfW 234 2107 255 232 2 = true := by decide +kernel
theorem q234_2110 : decode (mB 234) 2110 = .ok (.istore 6, 2) := by decide +kernel
theorem q234_2112 : decode (mB 234) 2112 = .ok (.aload_n 2, 1) := by decide +kernel
theorem q234_2113 : cfB 234 2113 257 198 1 4 0 = true := by decide +kernel
theorem q234_2116 : decode (mB 234) 2116 = .ok (.istore 7, 2) := by decide +kernel
theorem q234_2118 : decode (mB 234) 2118 = .ok (.aload_n 2, 1) := by decide +kernel
theorem q234_2119 : cfB 234 2119 137 135 1 4 0 = true := by decide +kernel
theorem q234_2122 : decode (mB 234) 2122 = .ok (.iload 6, 2) := by decide +kernel
theorem q234_2124 : decode (mB 234) 2124 = .ok (.if_icmp .eq 5, 3) := by decide +kernel
theorem q234_2127 : decode (mB 234) 2127 = .ok (.iconst 0, 1) := by decide +kernel
theorem q234_2128 : decode (mB 234) 2128 = .ok (.ireturn, 1) := by decide +kernel
theorem q234_2129 : decode (mB 234) 2129 = .ok (.iload 6, 2) := by decide +kernel
theorem q234_2131 : decode (mB 234) 2131 = .ok (.ifCond .ne 15, 3) := by decide +kernel
theorem q234_2134 : decode (mB 234) 2134 = .ok (.aload_n 3, 1) := by decide +kernel
theorem q234_2135 : decode (mB 234) 2135 = .ok (.iconst 0, 1) := by decide +kernel
theorem q234_2136 : decode (mB 234) 2136 = .ok (.laload, 1) := by decide +kernel
theorem q234_2137 : decode (mB 234) 2137 = .ok (.iload 7, 2) := by decide +kernel
theorem q234_2139 : decode (mB 234) 2139 = .ok (.i2l, 1) := by decide +kernel
theorem q234_2140 : decode (mB 234) 2140 = .ok (.lcmp, 1) := by decide +kernel
theorem q234_2141 : decode (mB 234) 2141 = .ok (.ifCond .eq 5, 3) := by decide +kernel
theorem q234_2144 : decode (mB 234) 2144 = .ok (.iconst 0, 1) := by decide +kernel
theorem q234_2145 : decode (mB 234) 2145 = .ok (.ireturn, 1) := by decide +kernel
theorem q234_2146 : decode (mB 234) 2146 = .ok (.goto 60, 3) := by decide +kernel
theorem q234_2149 : decode (mB 234) 2149 = .ok (.aload_n 1, 1) := by decide +kernel
theorem q234_2150 : decode (mB 234) 2150 = .ok (.aload_n 3, 1) := by decide +kernel
theorem q234_2151 : cfW 234 2151 258 233 2 = true := by decide +kernel
theorem q234_2154 : decode (mB 234) 2154 = .ok (.istore 6, 2) := by decide +kernel
theorem q234_2156 : decode (mB 234) 2156 = .ok (.aload_n 2, 1) := by decide +kernel
theorem q234_2157 : cfB 234 2157 260 199 1 4 0 = true := by decide +kernel
theorem q234_2160 : decode (mB 234) 2160 = .ok (.istore 7, 2) := by decide +kernel
theorem q234_2162 : decode (mB 234) 2162 = .ok (.aload_n 2, 1) := by decide +kernel
theorem q234_2163 : cfB 234 2163 137 135 1 4 0 = true := by decide +kernel
theorem q234_2166 : decode (mB 234) 2166 = .ok (.iload 6, 2) := by decide +kernel
theorem q234_2168 : decode (mB 234) 2168 = .ok (.if_icmp .eq 5, 3) := by decide +kernel
theorem q234_2171 : decode (mB 234) 2171 = .ok (.iconst 0, 1) := by decide +kernel
theorem q234_2172 : decode (mB 234) 2172 = .ok (.ireturn, 1) := by decide +kernel
theorem q234_2173 : decode (mB 234) 2173 = .ok (.iload 6, 2) := by decide +kernel
theorem q234_2175 : decode (mB 234) 2175 = .ok (.ifCond .ne 15, 3) := by decide +kernel
theorem q234_2178 : decode (mB 234) 2178 = .ok (.aload_n 3, 1) := by decide +kernel
theorem q234_2179 : decode (mB 234) 2179 = .ok (.iconst 0, 1) := by decide +kernel
theorem q234_2180 : decode (mB 234) 2180 = .ok (.laload, 1) := by decide +kernel
theorem q234_2181 : decode (mB 234) 2181 = .ok (.iload 7, 2) := by decide +kernel
theorem q234_2183 : decode (mB 234) 2183 = .ok (.i2l, 1) := by decide +kernel
theorem q234_2184 : decode (mB 234) 2184 = .ok (.lcmp, 1) := by decide +kernel
theorem q234_2185 : decode (mB 234) 2185 = .ok (.ifCond .eq 5, 3) := by decide +kernel
theorem q234_2188 : decode (mB 234) 2188 = .ok (.iconst 0, 1) := by decide +kernel
theorem q234_2189 : decode (mB 234) 2189 = .ok (.ireturn, 1) := by decide +kernel
theorem q234_2190 : decode (mB 234) 2190 = .ok (.goto 16, 3) := by decide +kernel
theorem q234_2193 : decode (mB 234) 2193 = .ok (.aload_n 1, 1) := by decide +kernel
theorem q234_2194 : cfB 234 2194 261 119 1 4 0 = true := by decide +kernel
theorem q234_2197 : decode (mB 234) 2197 = .ok (.aload_n 2, 1) := by decide +kernel
theorem q234_2198 : cfB 234 2198 264 200 1 4 0 = true := by decide +kernel
theorem q234_2201 : decode (mB 234) 2201 = .ok (.if_icmp .eq 5, 3) := by decide +kernel
theorem q234_2204 : decode (mB 234) 2204 = .ok (.iconst 0, 1) := by decide +kernel
theorem q234_2205 : decode (mB 234) 2205 = .ok (.ireturn, 1) := by decide +kernel
theorem q234_2206 : decode (mB 234) 2206 = .ok (.iinc 5 7, 3) := by decide +kernel
theorem q234_2209 : decode (mB 234) 2209 = .ok (.goto (-2181), 3) := by decide +kernel
theorem q234_2212 : decode (mB 234) 2212 = .ok (.iconst 1, 1) := by decide +kernel
theorem q234_2213 : decode (mB 234) 2213 = .ok (.ireturn, 1) := by decide +kernel
