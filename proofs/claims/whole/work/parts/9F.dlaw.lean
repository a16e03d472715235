/-! DECODED instructions of the law (own program gen_dlaw.py) -/
theorem DL_0 : decode code 0 = .ok (.new 8, 3) := by decide +kernel
theorem DL_3 : decode code 3 = .ok (.dup, 1) := by decide +kernel
theorem DL_4 : decode code 4 = .ok (.invokespecial 17, 3) := by decide +kernel
theorem DL_7 : decode code 7 = .ok (.astore_n 1, 1) := by decide +kernel
theorem DL_8 : decode code 8 = .ok (.new 18, 3) := by decide +kernel
theorem DL_11 : decode code 11 = .ok (.dup, 1) := by decide +kernel
theorem DL_12 : decode code 12 = .ok (.invokespecial 20, 3) := by decide +kernel
theorem DL_15 : decode code 15 = .ok (.astore_n 2, 1) := by decide +kernel
theorem DL_16 : decode code 16 = .ok (.iconst 1, 1) := by decide +kernel
theorem DL_17 : decode code 17 = .ok (.newarray .long, 2) := by decide +kernel
theorem DL_19 : decode code 19 = .ok (.astore_n 3, 1) := by decide +kernel
theorem DL_20 : decode code 20 = .ok (.iconst 0, 1) := by decide +kernel
theorem DL_21 : decode code 21 = .ok (.istore 4, 2) := by decide +kernel
theorem DL_23 : decode code 23 = .ok (.iload 4, 2) := by decide +kernel
theorem DL_25 : decode code 25 = .ok (.aload_n 0, 1) := by decide +kernel
theorem DL_26 : decode code 26 = .ok (.arraylength, 1) := by decide +kernel
theorem DL_27 : decode code 27 = .ok (.bipush 6, 2) := by decide +kernel
theorem DL_29 : decode code 29 = .ok (.isub, 1) := by decide +kernel
theorem DL_30 : decode code 30 = .ok (.if_icmp .gt 1389, 3) := by decide +kernel
theorem DL_33 : decode code 33 = .ok (.aload_n 0, 1) := by decide +kernel
theorem DL_34 : decode code 34 = .ok (.iload 4, 2) := by decide +kernel
theorem DL_36 : decode code 36 = .ok (.iaload, 1) := by decide +kernel
theorem DL_37 : decode code 37 = .ok (.bipush 63, 2) := by decide +kernel
theorem DL_39 : decode code 39 = .ok (.iand, 1) := by decide +kernel
theorem DL_40 : decode code 40 = .ok (.tableswitch 1373 0 35 #[160, 233, 258, 283, 320, 388, 425, 462, 487, 525, 562, 587, 612, 637, 686, 711, 736, 773, 798, 811, 848, 885, 922, 935, 972, 1021, 1071, 1136, 1161, 1186, 1211, 1260, 1309, 1322, 1335, 1348], 160) := by decide +kernel
theorem DL_200 : decode code 200 = .ok (.aload_n 1, 1) := by decide +kernel
theorem DL_201 : decode code 201 = .ok (.aload_n 0, 1) := by decide +kernel
theorem DL_202 : decode code 202 = .ok (.iload 4, 2) := by decide +kernel
theorem DL_204 : decode code 204 = .ok (.iconst 1, 1) := by decide +kernel
theorem DL_205 : decode code 205 = .ok (.iadd, 1) := by decide +kernel
theorem DL_206 : decode code 206 = .ok (.iaload, 1) := by decide +kernel
theorem DL_207 : decode code 207 = .ok (.aload_n 0, 1) := by decide +kernel
theorem DL_208 : decode code 208 = .ok (.iload 4, 2) := by decide +kernel
theorem DL_210 : decode code 210 = .ok (.iconst 2, 1) := by decide +kernel
theorem DL_211 : decode code 211 = .ok (.iadd, 1) := by decide +kernel
theorem DL_212 : decode code 212 = .ok (.iaload, 1) := by decide +kernel
theorem DL_213 : decode code 213 = .ok (.aload_n 0, 1) := by decide +kernel
theorem DL_214 : decode code 214 = .ok (.iload 4, 2) := by decide +kernel
theorem DL_216 : decode code 216 = .ok (.iconst 3, 1) := by decide +kernel
theorem DL_217 : decode code 217 = .ok (.iadd, 1) := by decide +kernel
theorem DL_218 : decode code 218 = .ok (.iaload, 1) := by decide +kernel
theorem DL_219 : decode code 219 = .ok (.aload_n 0, 1) := by decide +kernel
theorem DL_220 : decode code 220 = .ok (.iload 4, 2) := by decide +kernel
theorem DL_222 : decode code 222 = .ok (.iconst 4, 1) := by decide +kernel
theorem DL_223 : decode code 223 = .ok (.iadd, 1) := by decide +kernel
theorem DL_224 : decode code 224 = .ok (.iaload, 1) := by decide +kernel
theorem DL_225 : decode code 225 = .ok (.aload_n 0, 1) := by decide +kernel
theorem DL_226 : decode code 226 = .ok (.iload 4, 2) := by decide +kernel
theorem DL_228 : decode code 228 = .ok (.iconst 5, 1) := by decide +kernel
theorem DL_229 : decode code 229 = .ok (.iadd, 1) := by decide +kernel
theorem DL_230 : decode code 230 = .ok (.iaload, 1) := by decide +kernel
theorem DL_231 : decode code 231 = .ok (.invokevirtual 21, 3) := by decide +kernel
theorem DL_234 : decode code 234 = .ok (.aload_n 2, 1) := by decide +kernel
theorem DL_235 : decode code 235 = .ok (.aload_n 0, 1) := by decide +kernel
theorem DL_236 : decode code 236 = .ok (.iload 4, 2) := by decide +kernel
theorem DL_238 : decode code 238 = .ok (.iconst 1, 1) := by decide +kernel
theorem DL_239 : decode code 239 = .ok (.iadd, 1) := by decide +kernel
theorem DL_240 : decode code 240 = .ok (.iaload, 1) := by decide +kernel
theorem DL_241 : decode code 241 = .ok (.aload_n 0, 1) := by decide +kernel
theorem DL_242 : decode code 242 = .ok (.iload 4, 2) := by decide +kernel
theorem DL_244 : decode code 244 = .ok (.iconst 2, 1) := by decide +kernel
theorem DL_245 : decode code 245 = .ok (.iadd, 1) := by decide +kernel
theorem DL_246 : decode code 246 = .ok (.iaload, 1) := by decide +kernel
theorem DL_247 : decode code 247 = .ok (.aload_n 0, 1) := by decide +kernel
theorem DL_248 : decode code 248 = .ok (.iload 4, 2) := by decide +kernel
theorem DL_250 : decode code 250 = .ok (.iconst 3, 1) := by decide +kernel
theorem DL_251 : decode code 251 = .ok (.iadd, 1) := by decide +kernel
theorem DL_252 : decode code 252 = .ok (.iaload, 1) := by decide +kernel
theorem DL_253 : decode code 253 = .ok (.aload_n 0, 1) := by decide +kernel
theorem DL_254 : decode code 254 = .ok (.iload 4, 2) := by decide +kernel
theorem DL_256 : decode code 256 = .ok (.iconst 4, 1) := by decide +kernel
theorem DL_257 : decode code 257 = .ok (.iadd, 1) := by decide +kernel
theorem DL_258 : decode code 258 = .ok (.iaload, 1) := by decide +kernel
theorem DL_259 : decode code 259 = .ok (.aload_n 0, 1) := by decide +kernel
theorem DL_260 : decode code 260 = .ok (.iload 4, 2) := by decide +kernel
theorem DL_262 : decode code 262 = .ok (.iconst 5, 1) := by decide +kernel
theorem DL_263 : decode code 263 = .ok (.iadd, 1) := by decide +kernel
theorem DL_264 : decode code 264 = .ok (.iaload, 1) := by decide +kernel
theorem DL_265 : decode code 265 = .ok (.invokevirtual 25, 3) := by decide +kernel
theorem DL_268 : decode code 268 = .ok (.if_icmp .eq 1145, 3) := by decide +kernel
theorem DL_271 : decode code 271 = .ok (.iconst 0, 1) := by decide +kernel
theorem DL_272 : decode code 272 = .ok (.ireturn, 1) := by decide +kernel
theorem DL_273 : decode code 273 = .ok (.aload_n 1, 1) := by decide +kernel
theorem DL_274 : decode code 274 = .ok (.aload_n 0, 1) := by decide +kernel
theorem DL_275 : decode code 275 = .ok (.iload 4, 2) := by decide +kernel
theorem DL_277 : decode code 277 = .ok (.iconst 1, 1) := by decide +kernel
theorem DL_278 : decode code 278 = .ok (.iadd, 1) := by decide +kernel
theorem DL_279 : decode code 279 = .ok (.iaload, 1) := by decide +kernel
theorem DL_280 : decode code 280 = .ok (.invokevirtual 26, 3) := by decide +kernel
theorem DL_283 : decode code 283 = .ok (.aload_n 2, 1) := by decide +kernel
theorem DL_284 : decode code 284 = .ok (.aload_n 0, 1) := by decide +kernel
theorem DL_285 : decode code 285 = .ok (.iload 4, 2) := by decide +kernel
theorem DL_287 : decode code 287 = .ok (.iconst 1, 1) := by decide +kernel
theorem DL_288 : decode code 288 = .ok (.iadd, 1) := by decide +kernel
theorem DL_289 : decode code 289 = .ok (.iaload, 1) := by decide +kernel
theorem DL_290 : decode code 290 = .ok (.invokevirtual 30, 3) := by decide +kernel
theorem DL_293 : decode code 293 = .ok (.if_icmp .eq 1120, 3) := by decide +kernel
theorem DL_296 : decode code 296 = .ok (.iconst 0, 1) := by decide +kernel
theorem DL_297 : decode code 297 = .ok (.ireturn, 1) := by decide +kernel
theorem DL_298 : decode code 298 = .ok (.aload_n 1, 1) := by decide +kernel
theorem DL_299 : decode code 299 = .ok (.aload_n 0, 1) := by decide +kernel
theorem DL_300 : decode code 300 = .ok (.iload 4, 2) := by decide +kernel
theorem DL_302 : decode code 302 = .ok (.iconst 1, 1) := by decide +kernel
theorem DL_303 : decode code 303 = .ok (.iadd, 1) := by decide +kernel
theorem DL_304 : decode code 304 = .ok (.iaload, 1) := by decide +kernel
theorem DL_305 : decode code 305 = .ok (.invokevirtual 31, 3) := by decide +kernel
theorem DL_308 : decode code 308 = .ok (.aload_n 2, 1) := by decide +kernel
theorem DL_309 : decode code 309 = .ok (.aload_n 0, 1) := by decide +kernel
theorem DL_310 : decode code 310 = .ok (.iload 4, 2) := by decide +kernel
theorem DL_312 : decode code 312 = .ok (.iconst 1, 1) := by decide +kernel
theorem DL_313 : decode code 313 = .ok (.iadd, 1) := by decide +kernel
theorem DL_314 : decode code 314 = .ok (.iaload, 1) := by decide +kernel
theorem DL_315 : decode code 315 = .ok (.invokevirtual 34, 3) := by decide +kernel
theorem DL_318 : decode code 318 = .ok (.if_icmp .eq 1095, 3) := by decide +kernel
theorem DL_321 : decode code 321 = .ok (.iconst 0, 1) := by decide +kernel
theorem DL_322 : decode code 322 = .ok (.ireturn, 1) := by decide +kernel
theorem DL_323 : decode code 323 = .ok (.aload_n 1, 1) := by decide +kernel
theorem DL_324 : decode code 324 = .ok (.aload_n 0, 1) := by decide +kernel
theorem DL_325 : decode code 325 = .ok (.iload 4, 2) := by decide +kernel
theorem DL_327 : decode code 327 = .ok (.iconst 1, 1) := by decide +kernel
theorem DL_328 : decode code 328 = .ok (.iadd, 1) := by decide +kernel
theorem DL_329 : decode code 329 = .ok (.iaload, 1) := by decide +kernel
theorem DL_330 : decode code 330 = .ok (.aload_n 0, 1) := by decide +kernel
theorem DL_331 : decode code 331 = .ok (.iload 4, 2) := by decide +kernel
theorem DL_333 : decode code 333 = .ok (.iconst 2, 1) := by decide +kernel
theorem DL_334 : decode code 334 = .ok (.iadd, 1) := by decide +kernel
theorem DL_335 : decode code 335 = .ok (.iaload, 1) := by decide +kernel
theorem DL_336 : decode code 336 = .ok (.invokevirtual 35, 3) := by decide +kernel
theorem DL_339 : decode code 339 = .ok (.aload_n 2, 1) := by decide +kernel
theorem DL_340 : decode code 340 = .ok (.aload_n 0, 1) := by decide +kernel
theorem DL_341 : decode code 341 = .ok (.iload 4, 2) := by decide +kernel
theorem DL_343 : decode code 343 = .ok (.iconst 1, 1) := by decide +kernel
theorem DL_344 : decode code 344 = .ok (.iadd, 1) := by decide +kernel
theorem DL_345 : decode code 345 = .ok (.iaload, 1) := by decide +kernel
theorem DL_346 : decode code 346 = .ok (.aload_n 0, 1) := by decide +kernel
theorem DL_347 : decode code 347 = .ok (.iload 4, 2) := by decide +kernel
theorem DL_349 : decode code 349 = .ok (.iconst 2, 1) := by decide +kernel
theorem DL_350 : decode code 350 = .ok (.iadd, 1) := by decide +kernel
theorem DL_351 : decode code 351 = .ok (.iaload, 1) := by decide +kernel
theorem DL_352 : decode code 352 = .ok (.invokevirtual 38, 3) := by decide +kernel
theorem DL_355 : decode code 355 = .ok (.if_icmp .eq 1058, 3) := by decide +kernel
theorem DL_358 : decode code 358 = .ok (.iconst 0, 1) := by decide +kernel
theorem DL_359 : decode code 359 = .ok (.ireturn, 1) := by decide +kernel
theorem DL_360 : decode code 360 = .ok (.aload_n 1, 1) := by decide +kernel
theorem DL_361 : decode code 361 = .ok (.aload_n 0, 1) := by decide +kernel
theorem DL_362 : decode code 362 = .ok (.iload 4, 2) := by decide +kernel
theorem DL_364 : decode code 364 = .ok (.iconst 1, 1) := by decide +kernel
theorem DL_365 : decode code 365 = .ok (.iadd, 1) := by decide +kernel
theorem DL_366 : decode code 366 = .ok (.iaload, 1) := by decide +kernel
theorem DL_367 : decode code 367 = .ok (.aload_n 0, 1) := by decide +kernel
theorem DL_368 : decode code 368 = .ok (.iload 4, 2) := by decide +kernel
theorem DL_370 : decode code 370 = .ok (.iconst 2, 1) := by decide +kernel
theorem DL_371 : decode code 371 = .ok (.iadd, 1) := by decide +kernel
theorem DL_372 : decode code 372 = .ok (.iaload, 1) := by decide +kernel
theorem DL_373 : decode code 373 = .ok (.aload_n 3, 1) := by decide +kernel
theorem DL_374 : decode code 374 = .ok (.invokestatic 39, 3) := by decide +kernel
theorem DL_377 : decode code 377 = .ok (.istore 5, 2) := by decide +kernel
theorem DL_379 : decode code 379 = .ok (.aload_n 2, 1) := by decide +kernel
theorem DL_380 : decode code 380 = .ok (.aload_n 0, 1) := by decide +kernel
theorem DL_381 : decode code 381 = .ok (.iload 4, 2) := by decide +kernel
theorem DL_383 : decode code 383 = .ok (.iconst 1, 1) := by decide +kernel
theorem DL_384 : decode code 384 = .ok (.iadd, 1) := by decide +kernel
theorem DL_385 : decode code 385 = .ok (.iaload, 1) := by decide +kernel
theorem DL_386 : decode code 386 = .ok (.aload_n 0, 1) := by decide +kernel
theorem DL_387 : decode code 387 = .ok (.iload 4, 2) := by decide +kernel
theorem DL_389 : decode code 389 = .ok (.iconst 2, 1) := by decide +kernel
theorem DL_390 : decode code 390 = .ok (.iadd, 1) := by decide +kernel
theorem DL_391 : decode code 391 = .ok (.iaload, 1) := by decide +kernel
theorem DL_392 : decode code 392 = .ok (.invokevirtual 44, 3) := by decide +kernel
theorem DL_395 : decode code 395 = .ok (.istore 6, 2) := by decide +kernel
theorem DL_397 : decode code 397 = .ok (.aload_n 2, 1) := by decide +kernel
theorem DL_398 : decode code 398 = .ok (.invokevirtual 45, 3) := by decide +kernel
theorem DL_401 : decode code 401 = .ok (.iload 5, 2) := by decide +kernel
theorem DL_403 : decode code 403 = .ok (.if_icmp .eq 5, 3) := by decide +kernel
theorem DL_406 : decode code 406 = .ok (.iconst 0, 1) := by decide +kernel
theorem DL_407 : decode code 407 = .ok (.ireturn, 1) := by decide +kernel
theorem DL_408 : decode code 408 = .ok (.iload 5, 2) := by decide +kernel
theorem DL_410 : decode code 410 = .ok (.ifCond .ne 15, 3) := by decide +kernel
theorem DL_413 : decode code 413 = .ok (.aload_n 3, 1) := by decide +kernel
theorem DL_414 : decode code 414 = .ok (.iconst 0, 1) := by decide +kernel
theorem DL_415 : decode code 415 = .ok (.laload, 1) := by decide +kernel
theorem DL_416 : decode code 416 = .ok (.iload 6, 2) := by decide +kernel
theorem DL_418 : decode code 418 = .ok (.i2l, 1) := by decide +kernel
theorem DL_419 : decode code 419 = .ok (.lcmp, 1) := by decide +kernel
theorem DL_420 : decode code 420 = .ok (.ifCond .eq 5, 3) := by decide +kernel
theorem DL_423 : decode code 423 = .ok (.iconst 0, 1) := by decide +kernel
theorem DL_424 : decode code 424 = .ok (.ireturn, 1) := by decide +kernel
theorem DL_425 : decode code 425 = .ok (.goto 988, 3) := by decide +kernel
theorem DL_428 : decode code 428 = .ok (.aload_n 1, 1) := by decide +kernel
theorem DL_429 : decode code 429 = .ok (.aload_n 0, 1) := by decide +kernel
theorem DL_430 : decode code 430 = .ok (.iload 4, 2) := by decide +kernel
theorem DL_432 : decode code 432 = .ok (.iconst 1, 1) := by decide +kernel
theorem DL_433 : decode code 433 = .ok (.iadd, 1) := by decide +kernel
theorem DL_434 : decode code 434 = .ok (.iaload, 1) := by decide +kernel
theorem DL_435 : decode code 435 = .ok (.aload_n 0, 1) := by decide +kernel
theorem DL_436 : decode code 436 = .ok (.iload 4, 2) := by decide +kernel
theorem DL_438 : decode code 438 = .ok (.iconst 2, 1) := by decide +kernel
theorem DL_439 : decode code 439 = .ok (.iadd, 1) := by decide +kernel
theorem DL_440 : decode code 440 = .ok (.iaload, 1) := by decide +kernel
theorem DL_441 : decode code 441 = .ok (.invokevirtual 49, 3) := by decide +kernel
theorem DL_444 : decode code 444 = .ok (.aload_n 2, 1) := by decide +kernel
theorem DL_445 : decode code 445 = .ok (.aload_n 0, 1) := by decide +kernel
theorem DL_446 : decode code 446 = .ok (.iload 4, 2) := by decide +kernel
theorem DL_448 : decode code 448 = .ok (.iconst 1, 1) := by decide +kernel
theorem DL_449 : decode code 449 = .ok (.iadd, 1) := by decide +kernel
theorem DL_450 : decode code 450 = .ok (.iaload, 1) := by decide +kernel
theorem DL_451 : decode code 451 = .ok (.aload_n 0, 1) := by decide +kernel
theorem DL_452 : decode code 452 = .ok (.iload 4, 2) := by decide +kernel
theorem DL_454 : decode code 454 = .ok (.iconst 2, 1) := by decide +kernel
theorem DL_455 : decode code 455 = .ok (.iadd, 1) := by decide +kernel
theorem DL_456 : decode code 456 = .ok (.iaload, 1) := by decide +kernel
theorem DL_457 : decode code 457 = .ok (.invokevirtual 52, 3) := by decide +kernel
theorem DL_460 : decode code 460 = .ok (.if_icmp .eq 953, 3) := by decide +kernel
theorem DL_463 : decode code 463 = .ok (.iconst 0, 1) := by decide +kernel
theorem DL_464 : decode code 464 = .ok (.ireturn, 1) := by decide +kernel
theorem DL_465 : decode code 465 = .ok (.aload_n 1, 1) := by decide +kernel
theorem DL_466 : decode code 466 = .ok (.aload_n 0, 1) := by decide +kernel
theorem DL_467 : decode code 467 = .ok (.iload 4, 2) := by decide +kernel
theorem DL_469 : decode code 469 = .ok (.iconst 1, 1) := by decide +kernel
theorem DL_470 : decode code 470 = .ok (.iadd, 1) := by decide +kernel
theorem DL_471 : decode code 471 = .ok (.iaload, 1) := by decide +kernel
theorem DL_472 : decode code 472 = .ok (.aload_n 0, 1) := by decide +kernel
theorem DL_473 : decode code 473 = .ok (.iload 4, 2) := by decide +kernel
theorem DL_475 : decode code 475 = .ok (.iconst 2, 1) := by decide +kernel
theorem DL_476 : decode code 476 = .ok (.iadd, 1) := by decide +kernel
theorem DL_477 : decode code 477 = .ok (.iaload, 1) := by decide +kernel
theorem DL_478 : decode code 478 = .ok (.invokevirtual 53, 3) := by decide +kernel
theorem DL_481 : decode code 481 = .ok (.aload_n 2, 1) := by decide +kernel
theorem DL_482 : decode code 482 = .ok (.aload_n 0, 1) := by decide +kernel
theorem DL_483 : decode code 483 = .ok (.iload 4, 2) := by decide +kernel
theorem DL_485 : decode code 485 = .ok (.iconst 1, 1) := by decide +kernel
theorem DL_486 : decode code 486 = .ok (.iadd, 1) := by decide +kernel
theorem DL_487 : decode code 487 = .ok (.iaload, 1) := by decide +kernel
theorem DL_488 : decode code 488 = .ok (.aload_n 0, 1) := by decide +kernel
theorem DL_489 : decode code 489 = .ok (.iload 4, 2) := by decide +kernel
theorem DL_491 : decode code 491 = .ok (.iconst 2, 1) := by decide +kernel
theorem DL_492 : decode code 492 = .ok (.iadd, 1) := by decide +kernel
theorem DL_493 : decode code 493 = .ok (.iaload, 1) := by decide +kernel
theorem DL_494 : decode code 494 = .ok (.invokevirtual 56, 3) := by decide +kernel
theorem DL_497 : decode code 497 = .ok (.if_icmp .eq 916, 3) := by decide +kernel
theorem DL_500 : decode code 500 = .ok (.iconst 0, 1) := by decide +kernel
theorem DL_501 : decode code 501 = .ok (.ireturn, 1) := by decide +kernel
theorem DL_502 : decode code 502 = .ok (.aload_n 1, 1) := by decide +kernel
theorem DL_503 : decode code 503 = .ok (.aload_n 0, 1) := by decide +kernel
theorem DL_504 : decode code 504 = .ok (.iload 4, 2) := by decide +kernel
theorem DL_506 : decode code 506 = .ok (.iconst 1, 1) := by decide +kernel
theorem DL_507 : decode code 507 = .ok (.iadd, 1) := by decide +kernel
theorem DL_508 : decode code 508 = .ok (.iaload, 1) := by decide +kernel
theorem DL_509 : decode code 509 = .ok (.invokevirtual 57, 3) := by decide +kernel
theorem DL_512 : decode code 512 = .ok (.aload_n 2, 1) := by decide +kernel
theorem DL_513 : decode code 513 = .ok (.aload_n 0, 1) := by decide +kernel
theorem DL_514 : decode code 514 = .ok (.iload 4, 2) := by decide +kernel
theorem DL_516 : decode code 516 = .ok (.iconst 1, 1) := by decide +kernel
theorem DL_517 : decode code 517 = .ok (.iadd, 1) := by decide +kernel
theorem DL_518 : decode code 518 = .ok (.iaload, 1) := by decide +kernel
theorem DL_519 : decode code 519 = .ok (.invokevirtual 60, 3) := by decide +kernel
theorem DL_522 : decode code 522 = .ok (.if_icmp .eq 891, 3) := by decide +kernel
theorem DL_525 : decode code 525 = .ok (.iconst 0, 1) := by decide +kernel
theorem DL_526 : decode code 526 = .ok (.ireturn, 1) := by decide +kernel
theorem DL_527 : decode code 527 = .ok (.aload_n 1, 1) := by decide +kernel
theorem DL_528 : decode code 528 = .ok (.aload_n 0, 1) := by decide +kernel
theorem DL_529 : decode code 529 = .ok (.iload 4, 2) := by decide +kernel
theorem DL_531 : decode code 531 = .ok (.iconst 1, 1) := by decide +kernel
theorem DL_532 : decode code 532 = .ok (.iadd, 1) := by decide +kernel
theorem DL_533 : decode code 533 = .ok (.iaload, 1) := by decide +kernel
theorem DL_534 : decode code 534 = .ok (.aload_n 0, 1) := by decide +kernel
theorem DL_535 : decode code 535 = .ok (.iload 4, 2) := by decide +kernel
theorem DL_537 : decode code 537 = .ok (.iconst 2, 1) := by decide +kernel
theorem DL_538 : decode code 538 = .ok (.iadd, 1) := by decide +kernel
theorem DL_539 : decode code 539 = .ok (.iaload, 1) := by decide +kernel
theorem DL_540 : decode code 540 = .ok (.invokevirtual 61, 3) := by decide +kernel
theorem DL_543 : decode code 543 = .ok (.aload_n 2, 1) := by decide +kernel
theorem DL_544 : decode code 544 = .ok (.aload_n 0, 1) := by decide +kernel
theorem DL_545 : decode code 545 = .ok (.iload 4, 2) := by decide +kernel
theorem DL_547 : decode code 547 = .ok (.iconst 1, 1) := by decide +kernel
theorem DL_548 : decode code 548 = .ok (.iadd, 1) := by decide +kernel
theorem DL_549 : decode code 549 = .ok (.iaload, 1) := by decide +kernel
theorem DL_550 : decode code 550 = .ok (.aload_n 0, 1) := by decide +kernel
theorem DL_551 : decode code 551 = .ok (.iload 4, 2) := by decide +kernel
theorem DL_553 : decode code 553 = .ok (.iconst 2, 1) := by decide +kernel
theorem DL_554 : decode code 554 = .ok (.iadd, 1) := by decide +kernel
theorem DL_555 : decode code 555 = .ok (.iaload, 1) := by decide +kernel
theorem DL_556 : decode code 556 = .ok (.invokevirtual 65, 3) := by decide +kernel
theorem DL_559 : decode code 559 = .ok (.lcmp, 1) := by decide +kernel
theorem DL_560 : decode code 560 = .ok (.ifCond .eq 853, 3) := by decide +kernel
theorem DL_563 : decode code 563 = .ok (.iconst 0, 1) := by decide +kernel
theorem DL_564 : decode code 564 = .ok (.ireturn, 1) := by decide +kernel
theorem DL_565 : decode code 565 = .ok (.aload_n 1, 1) := by decide +kernel
theorem DL_566 : decode code 566 = .ok (.aload_n 0, 1) := by decide +kernel
theorem DL_567 : decode code 567 = .ok (.iload 4, 2) := by decide +kernel
theorem DL_569 : decode code 569 = .ok (.iconst 1, 1) := by decide +kernel
theorem DL_570 : decode code 570 = .ok (.iadd, 1) := by decide +kernel
theorem DL_571 : decode code 571 = .ok (.iaload, 1) := by decide +kernel
theorem DL_572 : decode code 572 = .ok (.aload_n 0, 1) := by decide +kernel
theorem DL_573 : decode code 573 = .ok (.iload 4, 2) := by decide +kernel
theorem DL_575 : decode code 575 = .ok (.iconst 2, 1) := by decide +kernel
theorem DL_576 : decode code 576 = .ok (.iadd, 1) := by decide +kernel
theorem DL_577 : decode code 577 = .ok (.iaload, 1) := by decide +kernel
theorem DL_578 : decode code 578 = .ok (.invokevirtual 66, 3) := by decide +kernel
theorem DL_581 : decode code 581 = .ok (.aload_n 2, 1) := by decide +kernel
theorem DL_582 : decode code 582 = .ok (.aload_n 0, 1) := by decide +kernel
theorem DL_583 : decode code 583 = .ok (.iload 4, 2) := by decide +kernel
theorem DL_585 : decode code 585 = .ok (.iconst 1, 1) := by decide +kernel
theorem DL_586 : decode code 586 = .ok (.iadd, 1) := by decide +kernel
theorem DL_587 : decode code 587 = .ok (.iaload, 1) := by decide +kernel
theorem DL_588 : decode code 588 = .ok (.aload_n 0, 1) := by decide +kernel
theorem DL_589 : decode code 589 = .ok (.iload 4, 2) := by decide +kernel
theorem DL_591 : decode code 591 = .ok (.iconst 2, 1) := by decide +kernel
theorem DL_592 : decode code 592 = .ok (.iadd, 1) := by decide +kernel
theorem DL_593 : decode code 593 = .ok (.iaload, 1) := by decide +kernel
theorem DL_594 : decode code 594 = .ok (.invokevirtual 70, 3) := by decide +kernel
theorem DL_597 : decode code 597 = .ok (.if_icmp .eq 816, 3) := by decide +kernel
theorem DL_600 : decode code 600 = .ok (.iconst 0, 1) := by decide +kernel
theorem DL_601 : decode code 601 = .ok (.ireturn, 1) := by decide +kernel
theorem DL_602 : decode code 602 = .ok (.aload_n 1, 1) := by decide +kernel
theorem DL_603 : decode code 603 = .ok (.aload_n 0, 1) := by decide +kernel
theorem DL_604 : decode code 604 = .ok (.iload 4, 2) := by decide +kernel
theorem DL_606 : decode code 606 = .ok (.iconst 1, 1) := by decide +kernel
theorem DL_607 : decode code 607 = .ok (.iadd, 1) := by decide +kernel
theorem DL_608 : decode code 608 = .ok (.iaload, 1) := by decide +kernel
theorem DL_609 : decode code 609 = .ok (.invokevirtual 71, 3) := by decide +kernel
theorem DL_612 : decode code 612 = .ok (.aload_n 2, 1) := by decide +kernel
theorem DL_613 : decode code 613 = .ok (.aload_n 0, 1) := by decide +kernel
theorem DL_614 : decode code 614 = .ok (.iload 4, 2) := by decide +kernel
theorem DL_616 : decode code 616 = .ok (.iconst 1, 1) := by decide +kernel
theorem DL_617 : decode code 617 = .ok (.iadd, 1) := by decide +kernel
theorem DL_618 : decode code 618 = .ok (.iaload, 1) := by decide +kernel
theorem DL_619 : decode code 619 = .ok (.invokevirtual 74, 3) := by decide +kernel
theorem DL_622 : decode code 622 = .ok (.if_icmp .eq 791, 3) := by decide +kernel
theorem DL_625 : decode code 625 = .ok (.iconst 0, 1) := by decide +kernel
theorem DL_626 : decode code 626 = .ok (.ireturn, 1) := by decide +kernel
theorem DL_627 : decode code 627 = .ok (.aload_n 1, 1) := by decide +kernel
theorem DL_628 : decode code 628 = .ok (.aload_n 0, 1) := by decide +kernel
theorem DL_629 : decode code 629 = .ok (.iload 4, 2) := by decide +kernel
theorem DL_631 : decode code 631 = .ok (.iconst 1, 1) := by decide +kernel
theorem DL_632 : decode code 632 = .ok (.iadd, 1) := by decide +kernel
theorem DL_633 : decode code 633 = .ok (.iaload, 1) := by decide +kernel
theorem DL_634 : decode code 634 = .ok (.invokevirtual 75, 3) := by decide +kernel
theorem DL_637 : decode code 637 = .ok (.aload_n 2, 1) := by decide +kernel
theorem DL_638 : decode code 638 = .ok (.aload_n 0, 1) := by decide +kernel
theorem DL_639 : decode code 639 = .ok (.iload 4, 2) := by decide +kernel
theorem DL_641 : decode code 641 = .ok (.iconst 1, 1) := by decide +kernel
theorem DL_642 : decode code 642 = .ok (.iadd, 1) := by decide +kernel
theorem DL_643 : decode code 643 = .ok (.iaload, 1) := by decide +kernel
theorem DL_644 : decode code 644 = .ok (.invokevirtual 78, 3) := by decide +kernel
theorem DL_647 : decode code 647 = .ok (.if_icmp .eq 766, 3) := by decide +kernel
theorem DL_650 : decode code 650 = .ok (.iconst 0, 1) := by decide +kernel
theorem DL_651 : decode code 651 = .ok (.ireturn, 1) := by decide +kernel
theorem DL_652 : decode code 652 = .ok (.aload_n 1, 1) := by decide +kernel
theorem DL_653 : decode code 653 = .ok (.aload_n 0, 1) := by decide +kernel
theorem DL_654 : decode code 654 = .ok (.iload 4, 2) := by decide +kernel
theorem DL_656 : decode code 656 = .ok (.iconst 1, 1) := by decide +kernel
theorem DL_657 : decode code 657 = .ok (.iadd, 1) := by decide +kernel
theorem DL_658 : decode code 658 = .ok (.iaload, 1) := by decide +kernel
theorem DL_659 : decode code 659 = .ok (.invokevirtual 79, 3) := by decide +kernel
theorem DL_662 : decode code 662 = .ok (.aload_n 2, 1) := by decide +kernel
theorem DL_663 : decode code 663 = .ok (.aload_n 0, 1) := by decide +kernel
theorem DL_664 : decode code 664 = .ok (.iload 4, 2) := by decide +kernel
theorem DL_666 : decode code 666 = .ok (.iconst 1, 1) := by decide +kernel
theorem DL_667 : decode code 667 = .ok (.iadd, 1) := by decide +kernel
theorem DL_668 : decode code 668 = .ok (.iaload, 1) := by decide +kernel
theorem DL_669 : decode code 669 = .ok (.invokevirtual 82, 3) := by decide +kernel
theorem DL_672 : decode code 672 = .ok (.if_icmp .eq 741, 3) := by decide +kernel
theorem DL_675 : decode code 675 = .ok (.iconst 0, 1) := by decide +kernel
theorem DL_676 : decode code 676 = .ok (.ireturn, 1) := by decide +kernel
theorem DL_677 : decode code 677 = .ok (.aload_n 1, 1) := by decide +kernel
theorem DL_678 : decode code 678 = .ok (.aload_n 0, 1) := by decide +kernel
theorem DL_679 : decode code 679 = .ok (.iload 4, 2) := by decide +kernel
theorem DL_681 : decode code 681 = .ok (.iconst 1, 1) := by decide +kernel
theorem DL_682 : decode code 682 = .ok (.iadd, 1) := by decide +kernel
theorem DL_683 : decode code 683 = .ok (.iaload, 1) := by decide +kernel
theorem DL_684 : decode code 684 = .ok (.aload_n 0, 1) := by decide +kernel
theorem DL_685 : decode code 685 = .ok (.iload 4, 2) := by decide +kernel
theorem DL_687 : decode code 687 = .ok (.iconst 2, 1) := by decide +kernel
theorem DL_688 : decode code 688 = .ok (.iadd, 1) := by decide +kernel
theorem DL_689 : decode code 689 = .ok (.iaload, 1) := by decide +kernel
theorem DL_690 : decode code 690 = .ok (.aload_n 0, 1) := by decide +kernel
theorem DL_691 : decode code 691 = .ok (.iload 4, 2) := by decide +kernel
theorem DL_693 : decode code 693 = .ok (.iconst 3, 1) := by decide +kernel
theorem DL_694 : decode code 694 = .ok (.iadd, 1) := by decide +kernel
theorem DL_695 : decode code 695 = .ok (.iaload, 1) := by decide +kernel
theorem DL_696 : decode code 696 = .ok (.invokevirtual 83, 3) := by decide +kernel
theorem DL_699 : decode code 699 = .ok (.aload_n 2, 1) := by decide +kernel
theorem DL_700 : decode code 700 = .ok (.aload_n 0, 1) := by decide +kernel
theorem DL_701 : decode code 701 = .ok (.iload 4, 2) := by decide +kernel
theorem DL_703 : decode code 703 = .ok (.iconst 1, 1) := by decide +kernel
theorem DL_704 : decode code 704 = .ok (.iadd, 1) := by decide +kernel
theorem DL_705 : decode code 705 = .ok (.iaload, 1) := by decide +kernel
theorem DL_706 : decode code 706 = .ok (.aload_n 0, 1) := by decide +kernel
theorem DL_707 : decode code 707 = .ok (.iload 4, 2) := by decide +kernel
theorem DL_709 : decode code 709 = .ok (.iconst 2, 1) := by decide +kernel
theorem DL_710 : decode code 710 = .ok (.iadd, 1) := by decide +kernel
theorem DL_711 : decode code 711 = .ok (.iaload, 1) := by decide +kernel
theorem DL_712 : decode code 712 = .ok (.aload_n 0, 1) := by decide +kernel
theorem DL_713 : decode code 713 = .ok (.iload 4, 2) := by decide +kernel
theorem DL_715 : decode code 715 = .ok (.iconst 3, 1) := by decide +kernel
theorem DL_716 : decode code 716 = .ok (.iadd, 1) := by decide +kernel
theorem DL_717 : decode code 717 = .ok (.iaload, 1) := by decide +kernel
theorem DL_718 : decode code 718 = .ok (.invokevirtual 87, 3) := by decide +kernel
theorem DL_721 : decode code 721 = .ok (.if_icmp .eq 692, 3) := by decide +kernel
theorem DL_724 : decode code 724 = .ok (.iconst 0, 1) := by decide +kernel
theorem DL_725 : decode code 725 = .ok (.ireturn, 1) := by decide +kernel
theorem DL_726 : decode code 726 = .ok (.aload_n 1, 1) := by decide +kernel
theorem DL_727 : decode code 727 = .ok (.aload_n 0, 1) := by decide +kernel
theorem DL_728 : decode code 728 = .ok (.iload 4, 2) := by decide +kernel
theorem DL_730 : decode code 730 = .ok (.iconst 1, 1) := by decide +kernel
theorem DL_731 : decode code 731 = .ok (.iadd, 1) := by decide +kernel
theorem DL_732 : decode code 732 = .ok (.iaload, 1) := by decide +kernel
theorem DL_733 : decode code 733 = .ok (.invokevirtual 88, 3) := by decide +kernel
theorem DL_736 : decode code 736 = .ok (.aload_n 2, 1) := by decide +kernel
theorem DL_737 : decode code 737 = .ok (.aload_n 0, 1) := by decide +kernel
theorem DL_738 : decode code 738 = .ok (.iload 4, 2) := by decide +kernel
theorem DL_740 : decode code 740 = .ok (.iconst 1, 1) := by decide +kernel
theorem DL_741 : decode code 741 = .ok (.iadd, 1) := by decide +kernel
theorem DL_742 : decode code 742 = .ok (.iaload, 1) := by decide +kernel
theorem DL_743 : decode code 743 = .ok (.invokevirtual 91, 3) := by decide +kernel
theorem DL_746 : decode code 746 = .ok (.if_icmp .eq 667, 3) := by decide +kernel
theorem DL_749 : decode code 749 = .ok (.iconst 0, 1) := by decide +kernel
theorem DL_750 : decode code 750 = .ok (.ireturn, 1) := by decide +kernel
theorem DL_751 : decode code 751 = .ok (.aload_n 1, 1) := by decide +kernel
theorem DL_752 : decode code 752 = .ok (.aload_n 0, 1) := by decide +kernel
theorem DL_753 : decode code 753 = .ok (.iload 4, 2) := by decide +kernel
theorem DL_755 : decode code 755 = .ok (.iconst 1, 1) := by decide +kernel
theorem DL_756 : decode code 756 = .ok (.iadd, 1) := by decide +kernel
theorem DL_757 : decode code 757 = .ok (.iaload, 1) := by decide +kernel
theorem DL_758 : decode code 758 = .ok (.invokevirtual 92, 3) := by decide +kernel
theorem DL_761 : decode code 761 = .ok (.aload_n 2, 1) := by decide +kernel
theorem DL_762 : decode code 762 = .ok (.aload_n 0, 1) := by decide +kernel
theorem DL_763 : decode code 763 = .ok (.iload 4, 2) := by decide +kernel
theorem DL_765 : decode code 765 = .ok (.iconst 1, 1) := by decide +kernel
theorem DL_766 : decode code 766 = .ok (.iadd, 1) := by decide +kernel
theorem DL_767 : decode code 767 = .ok (.iaload, 1) := by decide +kernel
theorem DL_768 : decode code 768 = .ok (.invokevirtual 95, 3) := by decide +kernel
theorem DL_771 : decode code 771 = .ok (.if_icmp .eq 642, 3) := by decide +kernel
theorem DL_774 : decode code 774 = .ok (.iconst 0, 1) := by decide +kernel
theorem DL_775 : decode code 775 = .ok (.ireturn, 1) := by decide +kernel
theorem DL_776 : decode code 776 = .ok (.aload_n 1, 1) := by decide +kernel
theorem DL_777 : decode code 777 = .ok (.aload_n 0, 1) := by decide +kernel
theorem DL_778 : decode code 778 = .ok (.iload 4, 2) := by decide +kernel
theorem DL_780 : decode code 780 = .ok (.iconst 1, 1) := by decide +kernel
theorem DL_781 : decode code 781 = .ok (.iadd, 1) := by decide +kernel
theorem DL_782 : decode code 782 = .ok (.iaload, 1) := by decide +kernel
theorem DL_783 : decode code 783 = .ok (.aload_n 0, 1) := by decide +kernel
theorem DL_784 : decode code 784 = .ok (.iload 4, 2) := by decide +kernel
theorem DL_786 : decode code 786 = .ok (.iconst 2, 1) := by decide +kernel
theorem DL_787 : decode code 787 = .ok (.iadd, 1) := by decide +kernel
theorem DL_788 : decode code 788 = .ok (.iaload, 1) := by decide +kernel
theorem DL_789 : decode code 789 = .ok (.invokevirtual 96, 3) := by decide +kernel
theorem DL_792 : decode code 792 = .ok (.aload_n 2, 1) := by decide +kernel
theorem DL_793 : decode code 793 = .ok (.aload_n 0, 1) := by decide +kernel
theorem DL_794 : decode code 794 = .ok (.iload 4, 2) := by decide +kernel
theorem DL_796 : decode code 796 = .ok (.iconst 1, 1) := by decide +kernel
theorem DL_797 : decode code 797 = .ok (.iadd, 1) := by decide +kernel
theorem DL_798 : decode code 798 = .ok (.iaload, 1) := by decide +kernel
theorem DL_799 : decode code 799 = .ok (.aload_n 0, 1) := by decide +kernel
theorem DL_800 : decode code 800 = .ok (.iload 4, 2) := by decide +kernel
theorem DL_802 : decode code 802 = .ok (.iconst 2, 1) := by decide +kernel
theorem DL_803 : decode code 803 = .ok (.iadd, 1) := by decide +kernel
theorem DL_804 : decode code 804 = .ok (.iaload, 1) := by decide +kernel
theorem DL_805 : decode code 805 = .ok (.invokevirtual 99, 3) := by decide +kernel
theorem DL_808 : decode code 808 = .ok (.if_icmp .eq 605, 3) := by decide +kernel
theorem DL_811 : decode code 811 = .ok (.iconst 0, 1) := by decide +kernel
theorem DL_812 : decode code 812 = .ok (.ireturn, 1) := by decide +kernel
theorem DL_813 : decode code 813 = .ok (.aload_n 1, 1) := by decide +kernel
theorem DL_814 : decode code 814 = .ok (.aload_n 0, 1) := by decide +kernel
theorem DL_815 : decode code 815 = .ok (.iload 4, 2) := by decide +kernel
theorem DL_817 : decode code 817 = .ok (.iconst 1, 1) := by decide +kernel
theorem DL_818 : decode code 818 = .ok (.iadd, 1) := by decide +kernel
theorem DL_819 : decode code 819 = .ok (.iaload, 1) := by decide +kernel
theorem DL_820 : decode code 820 = .ok (.invokevirtual 100, 3) := by decide +kernel
theorem DL_823 : decode code 823 = .ok (.aload_n 2, 1) := by decide +kernel
theorem DL_824 : decode code 824 = .ok (.aload_n 0, 1) := by decide +kernel
theorem DL_825 : decode code 825 = .ok (.iload 4, 2) := by decide +kernel
theorem DL_827 : decode code 827 = .ok (.iconst 1, 1) := by decide +kernel
theorem DL_828 : decode code 828 = .ok (.iadd, 1) := by decide +kernel
theorem DL_829 : decode code 829 = .ok (.iaload, 1) := by decide +kernel
theorem DL_830 : decode code 830 = .ok (.invokevirtual 103, 3) := by decide +kernel
theorem DL_833 : decode code 833 = .ok (.if_icmp .eq 580, 3) := by decide +kernel
theorem DL_836 : decode code 836 = .ok (.iconst 0, 1) := by decide +kernel
theorem DL_837 : decode code 837 = .ok (.ireturn, 1) := by decide +kernel
theorem DL_838 : decode code 838 = .ok (.aload_n 1, 1) := by decide +kernel
theorem DL_839 : decode code 839 = .ok (.invokevirtual 104, 3) := by decide +kernel
theorem DL_842 : decode code 842 = .ok (.aload_n 2, 1) := by decide +kernel
theorem DL_843 : decode code 843 = .ok (.invokevirtual 107, 3) := by decide +kernel
theorem DL_846 : decode code 846 = .ok (.if_icmp .eq 567, 3) := by decide +kernel
theorem DL_849 : decode code 849 = .ok (.iconst 0, 1) := by decide +kernel
theorem DL_850 : decode code 850 = .ok (.ireturn, 1) := by decide +kernel
theorem DL_851 : decode code 851 = .ok (.aload_n 1, 1) := by decide +kernel
theorem DL_852 : decode code 852 = .ok (.aload_n 0, 1) := by decide +kernel
theorem DL_853 : decode code 853 = .ok (.iload 4, 2) := by decide +kernel
theorem DL_855 : decode code 855 = .ok (.iconst 1, 1) := by decide +kernel
theorem DL_856 : decode code 856 = .ok (.iadd, 1) := by decide +kernel
theorem DL_857 : decode code 857 = .ok (.iaload, 1) := by decide +kernel
theorem DL_858 : decode code 858 = .ok (.aload_n 0, 1) := by decide +kernel
theorem DL_859 : decode code 859 = .ok (.iload 4, 2) := by decide +kernel
theorem DL_861 : decode code 861 = .ok (.iconst 2, 1) := by decide +kernel
theorem DL_862 : decode code 862 = .ok (.iadd, 1) := by decide +kernel
theorem DL_863 : decode code 863 = .ok (.iaload, 1) := by decide +kernel
theorem DL_864 : decode code 864 = .ok (.invokevirtual 108, 3) := by decide +kernel
theorem DL_867 : decode code 867 = .ok (.aload_n 2, 1) := by decide +kernel
theorem DL_868 : decode code 868 = .ok (.aload_n 0, 1) := by decide +kernel
theorem DL_869 : decode code 869 = .ok (.iload 4, 2) := by decide +kernel
theorem DL_871 : decode code 871 = .ok (.iconst 1, 1) := by decide +kernel
theorem DL_872 : decode code 872 = .ok (.iadd, 1) := by decide +kernel
theorem DL_873 : decode code 873 = .ok (.iaload, 1) := by decide +kernel
theorem DL_874 : decode code 874 = .ok (.aload_n 0, 1) := by decide +kernel
theorem DL_875 : decode code 875 = .ok (.iload 4, 2) := by decide +kernel
theorem DL_877 : decode code 877 = .ok (.iconst 2, 1) := by decide +kernel
theorem DL_878 : decode code 878 = .ok (.iadd, 1) := by decide +kernel
theorem DL_879 : decode code 879 = .ok (.iaload, 1) := by decide +kernel
theorem DL_880 : decode code 880 = .ok (.invokevirtual 111, 3) := by decide +kernel
theorem DL_883 : decode code 883 = .ok (.if_icmp .eq 530, 3) := by decide +kernel
theorem DL_886 : decode code 886 = .ok (.iconst 0, 1) := by decide +kernel
theorem DL_887 : decode code 887 = .ok (.ireturn, 1) := by decide +kernel
theorem DL_888 : decode code 888 = .ok (.aload_n 1, 1) := by decide +kernel
theorem DL_889 : decode code 889 = .ok (.aload_n 0, 1) := by decide +kernel
theorem DL_890 : decode code 890 = .ok (.iload 4, 2) := by decide +kernel
theorem DL_892 : decode code 892 = .ok (.iconst 1, 1) := by decide +kernel
theorem DL_893 : decode code 893 = .ok (.iadd, 1) := by decide +kernel
theorem DL_894 : decode code 894 = .ok (.iaload, 1) := by decide +kernel
theorem DL_895 : decode code 895 = .ok (.aload_n 0, 1) := by decide +kernel
theorem DL_896 : decode code 896 = .ok (.iload 4, 2) := by decide +kernel
theorem DL_898 : decode code 898 = .ok (.iconst 2, 1) := by decide +kernel
theorem DL_899 : decode code 899 = .ok (.iadd, 1) := by decide +kernel
theorem DL_900 : decode code 900 = .ok (.iaload, 1) := by decide +kernel
theorem DL_901 : decode code 901 = .ok (.invokevirtual 112, 3) := by decide +kernel
theorem DL_904 : decode code 904 = .ok (.aload_n 2, 1) := by decide +kernel
theorem DL_905 : decode code 905 = .ok (.aload_n 0, 1) := by decide +kernel
theorem DL_906 : decode code 906 = .ok (.iload 4, 2) := by decide +kernel
theorem DL_908 : decode code 908 = .ok (.iconst 1, 1) := by decide +kernel
theorem DL_909 : decode code 909 = .ok (.iadd, 1) := by decide +kernel
theorem DL_910 : decode code 910 = .ok (.iaload, 1) := by decide +kernel
theorem DL_911 : decode code 911 = .ok (.aload_n 0, 1) := by decide +kernel
theorem DL_912 : decode code 912 = .ok (.iload 4, 2) := by decide +kernel
theorem DL_914 : decode code 914 = .ok (.iconst 2, 1) := by decide +kernel
theorem DL_915 : decode code 915 = .ok (.iadd, 1) := by decide +kernel
theorem DL_916 : decode code 916 = .ok (.iaload, 1) := by decide +kernel
theorem DL_917 : decode code 917 = .ok (.invokevirtual 115, 3) := by decide +kernel
theorem DL_920 : decode code 920 = .ok (.if_icmp .eq 493, 3) := by decide +kernel
theorem DL_923 : decode code 923 = .ok (.iconst 0, 1) := by decide +kernel
theorem DL_924 : decode code 924 = .ok (.ireturn, 1) := by decide +kernel
theorem DL_925 : decode code 925 = .ok (.aload_n 1, 1) := by decide +kernel
theorem DL_926 : decode code 926 = .ok (.aload_n 0, 1) := by decide +kernel
theorem DL_927 : decode code 927 = .ok (.iload 4, 2) := by decide +kernel
theorem DL_929 : decode code 929 = .ok (.iconst 1, 1) := by decide +kernel
theorem DL_930 : decode code 930 = .ok (.iadd, 1) := by decide +kernel
theorem DL_931 : decode code 931 = .ok (.iaload, 1) := by decide +kernel
theorem DL_932 : decode code 932 = .ok (.aload_n 0, 1) := by decide +kernel
theorem DL_933 : decode code 933 = .ok (.iload 4, 2) := by decide +kernel
theorem DL_935 : decode code 935 = .ok (.iconst 2, 1) := by decide +kernel
theorem DL_936 : decode code 936 = .ok (.iadd, 1) := by decide +kernel
theorem DL_937 : decode code 937 = .ok (.iaload, 1) := by decide +kernel
theorem DL_938 : decode code 938 = .ok (.invokevirtual 116, 3) := by decide +kernel
theorem DL_941 : decode code 941 = .ok (.aload_n 2, 1) := by decide +kernel
theorem DL_942 : decode code 942 = .ok (.aload_n 0, 1) := by decide +kernel
theorem DL_943 : decode code 943 = .ok (.iload 4, 2) := by decide +kernel
theorem DL_945 : decode code 945 = .ok (.iconst 1, 1) := by decide +kernel
theorem DL_946 : decode code 946 = .ok (.iadd, 1) := by decide +kernel
theorem DL_947 : decode code 947 = .ok (.iaload, 1) := by decide +kernel
theorem DL_948 : decode code 948 = .ok (.aload_n 0, 1) := by decide +kernel
theorem DL_949 : decode code 949 = .ok (.iload 4, 2) := by decide +kernel
theorem DL_951 : decode code 951 = .ok (.iconst 2, 1) := by decide +kernel
theorem DL_952 : decode code 952 = .ok (.iadd, 1) := by decide +kernel
theorem DL_953 : decode code 953 = .ok (.iaload, 1) := by decide +kernel
theorem DL_954 : decode code 954 = .ok (.invokevirtual 119, 3) := by decide +kernel
theorem DL_957 : decode code 957 = .ok (.if_icmp .eq 456, 3) := by decide +kernel
theorem DL_960 : decode code 960 = .ok (.iconst 0, 1) := by decide +kernel
theorem DL_961 : decode code 961 = .ok (.ireturn, 1) := by decide +kernel
theorem DL_962 : decode code 962 = .ok (.aload_n 1, 1) := by decide +kernel
theorem DL_963 : decode code 963 = .ok (.invokevirtual 120, 3) := by decide +kernel
theorem DL_966 : decode code 966 = .ok (.aload_n 2, 1) := by decide +kernel
theorem DL_967 : decode code 967 = .ok (.invokevirtual 123, 3) := by decide +kernel
theorem DL_970 : decode code 970 = .ok (.if_icmp .eq 443, 3) := by decide +kernel
theorem DL_973 : decode code 973 = .ok (.iconst 0, 1) := by decide +kernel
theorem DL_974 : decode code 974 = .ok (.ireturn, 1) := by decide +kernel
theorem DL_975 : decode code 975 = .ok (.aload_n 1, 1) := by decide +kernel
theorem DL_976 : decode code 976 = .ok (.aload_n 0, 1) := by decide +kernel
theorem DL_977 : decode code 977 = .ok (.iload 4, 2) := by decide +kernel
theorem DL_979 : decode code 979 = .ok (.iconst 1, 1) := by decide +kernel
theorem DL_980 : decode code 980 = .ok (.iadd, 1) := by decide +kernel
theorem DL_981 : decode code 981 = .ok (.iaload, 1) := by decide +kernel
theorem DL_982 : decode code 982 = .ok (.aload_n 0, 1) := by decide +kernel
theorem DL_983 : decode code 983 = .ok (.iload 4, 2) := by decide +kernel
theorem DL_985 : decode code 985 = .ok (.iconst 2, 1) := by decide +kernel
theorem DL_986 : decode code 986 = .ok (.iadd, 1) := by decide +kernel
theorem DL_987 : decode code 987 = .ok (.iaload, 1) := by decide +kernel
theorem DL_988 : decode code 988 = .ok (.invokevirtual 124, 3) := by decide +kernel
theorem DL_991 : decode code 991 = .ok (.aload_n 2, 1) := by decide +kernel
theorem DL_992 : decode code 992 = .ok (.aload_n 0, 1) := by decide +kernel
theorem DL_993 : decode code 993 = .ok (.iload 4, 2) := by decide +kernel
theorem DL_995 : decode code 995 = .ok (.iconst 1, 1) := by decide +kernel
theorem DL_996 : decode code 996 = .ok (.iadd, 1) := by decide +kernel
theorem DL_997 : decode code 997 = .ok (.iaload, 1) := by decide +kernel
theorem DL_998 : decode code 998 = .ok (.aload_n 0, 1) := by decide +kernel
theorem DL_999 : decode code 999 = .ok (.iload 4, 2) := by decide +kernel
theorem DL_1001 : decode code 1001 = .ok (.iconst 2, 1) := by decide +kernel
theorem DL_1002 : decode code 1002 = .ok (.iadd, 1) := by decide +kernel
theorem DL_1003 : decode code 1003 = .ok (.iaload, 1) := by decide +kernel
theorem DL_1004 : decode code 1004 = .ok (.invokevirtual 127, 3) := by decide +kernel
theorem DL_1007 : decode code 1007 = .ok (.if_icmp .eq 406, 3) := by decide +kernel
theorem DL_1010 : decode code 1010 = .ok (.iconst 0, 1) := by decide +kernel
theorem DL_1011 : decode code 1011 = .ok (.ireturn, 1) := by decide +kernel
theorem DL_1012 : decode code 1012 = .ok (.aload_n 1, 1) := by decide +kernel
theorem DL_1013 : decode code 1013 = .ok (.aload_n 0, 1) := by decide +kernel
theorem DL_1014 : decode code 1014 = .ok (.iload 4, 2) := by decide +kernel
theorem DL_1016 : decode code 1016 = .ok (.iconst 1, 1) := by decide +kernel
theorem DL_1017 : decode code 1017 = .ok (.iadd, 1) := by decide +kernel
theorem DL_1018 : decode code 1018 = .ok (.iaload, 1) := by decide +kernel
theorem DL_1019 : decode code 1019 = .ok (.aload_n 0, 1) := by decide +kernel
theorem DL_1020 : decode code 1020 = .ok (.iload 4, 2) := by decide +kernel
theorem DL_1022 : decode code 1022 = .ok (.iconst 2, 1) := by decide +kernel
theorem DL_1023 : decode code 1023 = .ok (.iadd, 1) := by decide +kernel
theorem DL_1024 : decode code 1024 = .ok (.iaload, 1) := by decide +kernel
theorem DL_1025 : decode code 1025 = .ok (.aload_n 0, 1) := by decide +kernel
theorem DL_1026 : decode code 1026 = .ok (.iload 4, 2) := by decide +kernel
theorem DL_1028 : decode code 1028 = .ok (.iconst 3, 1) := by decide +kernel
theorem DL_1029 : decode code 1029 = .ok (.iadd, 1) := by decide +kernel
theorem DL_1030 : decode code 1030 = .ok (.iaload, 1) := by decide +kernel
theorem DL_1031 : decode code 1031 = .ok (.invokevirtual 128, 3) := by decide +kernel
theorem DL_1034 : decode code 1034 = .ok (.aload_n 2, 1) := by decide +kernel
theorem DL_1035 : decode code 1035 = .ok (.aload_n 0, 1) := by decide +kernel
theorem DL_1036 : decode code 1036 = .ok (.iload 4, 2) := by decide +kernel
theorem DL_1038 : decode code 1038 = .ok (.iconst 1, 1) := by decide +kernel
theorem DL_1039 : decode code 1039 = .ok (.iadd, 1) := by decide +kernel
theorem DL_1040 : decode code 1040 = .ok (.iaload, 1) := by decide +kernel
theorem DL_1041 : decode code 1041 = .ok (.aload_n 0, 1) := by decide +kernel
theorem DL_1042 : decode code 1042 = .ok (.iload 4, 2) := by decide +kernel
theorem DL_1044 : decode code 1044 = .ok (.iconst 2, 1) := by decide +kernel
theorem DL_1045 : decode code 1045 = .ok (.iadd, 1) := by decide +kernel
theorem DL_1046 : decode code 1046 = .ok (.iaload, 1) := by decide +kernel
theorem DL_1047 : decode code 1047 = .ok (.aload_n 0, 1) := by decide +kernel
theorem DL_1048 : decode code 1048 = .ok (.iload 4, 2) := by decide +kernel
theorem DL_1050 : decode code 1050 = .ok (.iconst 3, 1) := by decide +kernel
theorem DL_1051 : decode code 1051 = .ok (.iadd, 1) := by decide +kernel
theorem DL_1052 : decode code 1052 = .ok (.iaload, 1) := by decide +kernel
theorem DL_1053 : decode code 1053 = .ok (.invokevirtual 131, 3) := by decide +kernel
theorem DL_1056 : decode code 1056 = .ok (.if_icmp .eq 357, 3) := by decide +kernel
theorem DL_1059 : decode code 1059 = .ok (.iconst 0, 1) := by decide +kernel
theorem DL_1060 : decode code 1060 = .ok (.ireturn, 1) := by decide +kernel
theorem DL_1061 : decode code 1061 = .ok (.aload_n 1, 1) := by decide +kernel
theorem DL_1062 : decode code 1062 = .ok (.aload_n 0, 1) := by decide +kernel
theorem DL_1063 : decode code 1063 = .ok (.iload 4, 2) := by decide +kernel
theorem DL_1065 : decode code 1065 = .ok (.iconst 1, 1) := by decide +kernel
theorem DL_1066 : decode code 1066 = .ok (.iadd, 1) := by decide +kernel
theorem DL_1067 : decode code 1067 = .ok (.iaload, 1) := by decide +kernel
theorem DL_1068 : decode code 1068 = .ok (.aload_n 0, 1) := by decide +kernel
theorem DL_1069 : decode code 1069 = .ok (.iload 4, 2) := by decide +kernel
theorem DL_1071 : decode code 1071 = .ok (.iconst 2, 1) := by decide +kernel
theorem DL_1072 : decode code 1072 = .ok (.iadd, 1) := by decide +kernel
theorem DL_1073 : decode code 1073 = .ok (.iaload, 1) := by decide +kernel
theorem DL_1074 : decode code 1074 = .ok (.aload_n 0, 1) := by decide +kernel
theorem DL_1075 : decode code 1075 = .ok (.iload 4, 2) := by decide +kernel
theorem DL_1077 : decode code 1077 = .ok (.iconst 3, 1) := by decide +kernel
theorem DL_1078 : decode code 1078 = .ok (.iadd, 1) := by decide +kernel
theorem DL_1079 : decode code 1079 = .ok (.iaload, 1) := by decide +kernel
theorem DL_1080 : decode code 1080 = .ok (.invokevirtual 132, 3) := by decide +kernel
theorem DL_1083 : decode code 1083 = .ok (.aload_n 2, 1) := by decide +kernel
theorem DL_1084 : decode code 1084 = .ok (.aload_n 0, 1) := by decide +kernel
theorem DL_1085 : decode code 1085 = .ok (.iload 4, 2) := by decide +kernel
theorem DL_1087 : decode code 1087 = .ok (.iconst 1, 1) := by decide +kernel
theorem DL_1088 : decode code 1088 = .ok (.iadd, 1) := by decide +kernel
theorem DL_1089 : decode code 1089 = .ok (.iaload, 1) := by decide +kernel
theorem DL_1090 : decode code 1090 = .ok (.aload_n 0, 1) := by decide +kernel
theorem DL_1091 : decode code 1091 = .ok (.iload 4, 2) := by decide +kernel
theorem DL_1093 : decode code 1093 = .ok (.iconst 2, 1) := by decide +kernel
theorem DL_1094 : decode code 1094 = .ok (.iadd, 1) := by decide +kernel
theorem DL_1095 : decode code 1095 = .ok (.iaload, 1) := by decide +kernel
theorem DL_1096 : decode code 1096 = .ok (.aload_n 0, 1) := by decide +kernel
theorem DL_1097 : decode code 1097 = .ok (.iload 4, 2) := by decide +kernel
theorem DL_1099 : decode code 1099 = .ok (.iconst 3, 1) := by decide +kernel
theorem DL_1100 : decode code 1100 = .ok (.iadd, 1) := by decide +kernel
theorem DL_1101 : decode code 1101 = .ok (.iaload, 1) := by decide +kernel
theorem DL_1102 : decode code 1102 = .ok (.invokevirtual 136, 3) := by decide +kernel
theorem DL_1105 : decode code 1105 = .ok (.lcmp, 1) := by decide +kernel
theorem DL_1106 : decode code 1106 = .ok (.ifCond .eq 307, 3) := by decide +kernel
theorem DL_1109 : decode code 1109 = .ok (.iconst 0, 1) := by decide +kernel
theorem DL_1110 : decode code 1110 = .ok (.ireturn, 1) := by decide +kernel
theorem DL_1111 : decode code 1111 = .ok (.aload_n 1, 1) := by decide +kernel
theorem DL_1112 : decode code 1112 = .ok (.aload_n 0, 1) := by decide +kernel
theorem DL_1113 : decode code 1113 = .ok (.iload 4, 2) := by decide +kernel
theorem DL_1115 : decode code 1115 = .ok (.iconst 1, 1) := by decide +kernel
theorem DL_1116 : decode code 1116 = .ok (.iadd, 1) := by decide +kernel
theorem DL_1117 : decode code 1117 = .ok (.iaload, 1) := by decide +kernel
theorem DL_1118 : decode code 1118 = .ok (.aload_n 0, 1) := by decide +kernel
theorem DL_1119 : decode code 1119 = .ok (.iload 4, 2) := by decide +kernel
theorem DL_1121 : decode code 1121 = .ok (.iconst 2, 1) := by decide +kernel
theorem DL_1122 : decode code 1122 = .ok (.iadd, 1) := by decide +kernel
theorem DL_1123 : decode code 1123 = .ok (.iaload, 1) := by decide +kernel
theorem DL_1124 : decode code 1124 = .ok (.aload_n 0, 1) := by decide +kernel
theorem DL_1125 : decode code 1125 = .ok (.iload 4, 2) := by decide +kernel
theorem DL_1127 : decode code 1127 = .ok (.iconst 3, 1) := by decide +kernel
theorem DL_1128 : decode code 1128 = .ok (.iadd, 1) := by decide +kernel
theorem DL_1129 : decode code 1129 = .ok (.iaload, 1) := by decide +kernel
theorem DL_1130 : decode code 1130 = .ok (.ifCond .eq 7, 3) := by decide +kernel
theorem DL_1133 : decode code 1133 = .ok (.iconst 1, 1) := by decide +kernel
theorem DL_1134 : decode code 1134 = .ok (.goto 4, 3) := by decide +kernel
theorem DL_1137 : decode code 1137 = .ok (.iconst 0, 1) := by decide +kernel
theorem DL_1138 : decode code 1138 = .ok (.invokevirtual 137, 3) := by decide +kernel
theorem DL_1141 : decode code 1141 = .ok (.aload_n 2, 1) := by decide +kernel
theorem DL_1142 : decode code 1142 = .ok (.aload_n 0, 1) := by decide +kernel
theorem DL_1143 : decode code 1143 = .ok (.iload 4, 2) := by decide +kernel
theorem DL_1145 : decode code 1145 = .ok (.iconst 1, 1) := by decide +kernel
theorem DL_1146 : decode code 1146 = .ok (.iadd, 1) := by decide +kernel
theorem DL_1147 : decode code 1147 = .ok (.iaload, 1) := by decide +kernel
theorem DL_1148 : decode code 1148 = .ok (.aload_n 0, 1) := by decide +kernel
theorem DL_1149 : decode code 1149 = .ok (.iload 4, 2) := by decide +kernel
theorem DL_1151 : decode code 1151 = .ok (.iconst 2, 1) := by decide +kernel
theorem DL_1152 : decode code 1152 = .ok (.iadd, 1) := by decide +kernel
theorem DL_1153 : decode code 1153 = .ok (.iaload, 1) := by decide +kernel
theorem DL_1154 : decode code 1154 = .ok (.aload_n 0, 1) := by decide +kernel
theorem DL_1155 : decode code 1155 = .ok (.iload 4, 2) := by decide +kernel
theorem DL_1157 : decode code 1157 = .ok (.iconst 3, 1) := by decide +kernel
theorem DL_1158 : decode code 1158 = .ok (.iadd, 1) := by decide +kernel
theorem DL_1159 : decode code 1159 = .ok (.iaload, 1) := by decide +kernel
theorem DL_1160 : decode code 1160 = .ok (.ifCond .eq 7, 3) := by decide +kernel
theorem DL_1163 : decode code 1163 = .ok (.iconst 1, 1) := by decide +kernel
theorem DL_1164 : decode code 1164 = .ok (.goto 4, 3) := by decide +kernel
theorem DL_1167 : decode code 1167 = .ok (.iconst 0, 1) := by decide +kernel
theorem DL_1168 : decode code 1168 = .ok (.invokevirtual 141, 3) := by decide +kernel
theorem DL_1171 : decode code 1171 = .ok (.if_icmp .eq 242, 3) := by decide +kernel
theorem DL_1174 : decode code 1174 = .ok (.iconst 0, 1) := by decide +kernel
theorem DL_1175 : decode code 1175 = .ok (.ireturn, 1) := by decide +kernel
theorem DL_1176 : decode code 1176 = .ok (.aload_n 1, 1) := by decide +kernel
theorem DL_1177 : decode code 1177 = .ok (.aload_n 0, 1) := by decide +kernel
theorem DL_1178 : decode code 1178 = .ok (.iload 4, 2) := by decide +kernel
theorem DL_1180 : decode code 1180 = .ok (.iconst 1, 1) := by decide +kernel
theorem DL_1181 : decode code 1181 = .ok (.iadd, 1) := by decide +kernel
theorem DL_1182 : decode code 1182 = .ok (.iaload, 1) := by decide +kernel
theorem DL_1183 : decode code 1183 = .ok (.invokevirtual 142, 3) := by decide +kernel
theorem DL_1186 : decode code 1186 = .ok (.aload_n 2, 1) := by decide +kernel
theorem DL_1187 : decode code 1187 = .ok (.aload_n 0, 1) := by decide +kernel
theorem DL_1188 : decode code 1188 = .ok (.iload 4, 2) := by decide +kernel
theorem DL_1190 : decode code 1190 = .ok (.iconst 1, 1) := by decide +kernel
theorem DL_1191 : decode code 1191 = .ok (.iadd, 1) := by decide +kernel
theorem DL_1192 : decode code 1192 = .ok (.iaload, 1) := by decide +kernel
theorem DL_1193 : decode code 1193 = .ok (.invokevirtual 145, 3) := by decide +kernel
theorem DL_1196 : decode code 1196 = .ok (.if_icmp .eq 217, 3) := by decide +kernel
theorem DL_1199 : decode code 1199 = .ok (.iconst 0, 1) := by decide +kernel
theorem DL_1200 : decode code 1200 = .ok (.ireturn, 1) := by decide +kernel
theorem DL_1201 : decode code 1201 = .ok (.aload_n 1, 1) := by decide +kernel
theorem DL_1202 : decode code 1202 = .ok (.aload_n 0, 1) := by decide +kernel
theorem DL_1203 : decode code 1203 = .ok (.iload 4, 2) := by decide +kernel
theorem DL_1205 : decode code 1205 = .ok (.iconst 1, 1) := by decide +kernel
theorem DL_1206 : decode code 1206 = .ok (.iadd, 1) := by decide +kernel
theorem DL_1207 : decode code 1207 = .ok (.iaload, 1) := by decide +kernel
theorem DL_1208 : decode code 1208 = .ok (.invokevirtual 146, 3) := by decide +kernel
theorem DL_1211 : decode code 1211 = .ok (.aload_n 2, 1) := by decide +kernel
theorem DL_1212 : decode code 1212 = .ok (.aload_n 0, 1) := by decide +kernel
theorem DL_1213 : decode code 1213 = .ok (.iload 4, 2) := by decide +kernel
theorem DL_1215 : decode code 1215 = .ok (.iconst 1, 1) := by decide +kernel
theorem DL_1216 : decode code 1216 = .ok (.iadd, 1) := by decide +kernel
theorem DL_1217 : decode code 1217 = .ok (.iaload, 1) := by decide +kernel
theorem DL_1218 : decode code 1218 = .ok (.invokevirtual 150, 3) := by decide +kernel
theorem DL_1221 : decode code 1221 = .ok (.if_icmp .eq 192, 3) := by decide +kernel
theorem DL_1224 : decode code 1224 = .ok (.iconst 0, 1) := by decide +kernel
theorem DL_1225 : decode code 1225 = .ok (.ireturn, 1) := by decide +kernel
theorem DL_1226 : decode code 1226 = .ok (.aload_n 1, 1) := by decide +kernel
theorem DL_1227 : decode code 1227 = .ok (.aload_n 0, 1) := by decide +kernel
theorem DL_1228 : decode code 1228 = .ok (.iload 4, 2) := by decide +kernel
theorem DL_1230 : decode code 1230 = .ok (.iconst 1, 1) := by decide +kernel
theorem DL_1231 : decode code 1231 = .ok (.iadd, 1) := by decide +kernel
theorem DL_1232 : decode code 1232 = .ok (.iaload, 1) := by decide +kernel
theorem DL_1233 : decode code 1233 = .ok (.invokevirtual 151, 3) := by decide +kernel
theorem DL_1236 : decode code 1236 = .ok (.aload_n 2, 1) := by decide +kernel
theorem DL_1237 : decode code 1237 = .ok (.aload_n 0, 1) := by decide +kernel
theorem DL_1238 : decode code 1238 = .ok (.iload 4, 2) := by decide +kernel
theorem DL_1240 : decode code 1240 = .ok (.iconst 1, 1) := by decide +kernel
theorem DL_1241 : decode code 1241 = .ok (.iadd, 1) := by decide +kernel
theorem DL_1242 : decode code 1242 = .ok (.iaload, 1) := by decide +kernel
theorem DL_1243 : decode code 1243 = .ok (.invokevirtual 154, 3) := by decide +kernel
theorem DL_1246 : decode code 1246 = .ok (.if_icmp .eq 167, 3) := by decide +kernel
theorem DL_1249 : decode code 1249 = .ok (.iconst 0, 1) := by decide +kernel
theorem DL_1250 : decode code 1250 = .ok (.ireturn, 1) := by decide +kernel
theorem DL_1251 : decode code 1251 = .ok (.aload_n 1, 1) := by decide +kernel
theorem DL_1252 : decode code 1252 = .ok (.aload_n 0, 1) := by decide +kernel
theorem DL_1253 : decode code 1253 = .ok (.iload 4, 2) := by decide +kernel
theorem DL_1255 : decode code 1255 = .ok (.iconst 1, 1) := by decide +kernel
theorem DL_1256 : decode code 1256 = .ok (.iadd, 1) := by decide +kernel
theorem DL_1257 : decode code 1257 = .ok (.iaload, 1) := by decide +kernel
theorem DL_1258 : decode code 1258 = .ok (.aload_n 0, 1) := by decide +kernel
theorem DL_1259 : decode code 1259 = .ok (.iload 4, 2) := by decide +kernel
theorem DL_1261 : decode code 1261 = .ok (.iconst 2, 1) := by decide +kernel
theorem DL_1262 : decode code 1262 = .ok (.iadd, 1) := by decide +kernel
theorem DL_1263 : decode code 1263 = .ok (.iaload, 1) := by decide +kernel
theorem DL_1264 : decode code 1264 = .ok (.aload_n 0, 1) := by decide +kernel
theorem DL_1265 : decode code 1265 = .ok (.iload 4, 2) := by decide +kernel
theorem DL_1267 : decode code 1267 = .ok (.iconst 3, 1) := by decide +kernel
theorem DL_1268 : decode code 1268 = .ok (.iadd, 1) := by decide +kernel
theorem DL_1269 : decode code 1269 = .ok (.iaload, 1) := by decide +kernel
theorem DL_1270 : decode code 1270 = .ok (.invokevirtual 155, 3) := by decide +kernel
theorem DL_1273 : decode code 1273 = .ok (.aload_n 2, 1) := by decide +kernel
theorem DL_1274 : decode code 1274 = .ok (.aload_n 0, 1) := by decide +kernel
theorem DL_1275 : decode code 1275 = .ok (.iload 4, 2) := by decide +kernel
theorem DL_1277 : decode code 1277 = .ok (.iconst 1, 1) := by decide +kernel
theorem DL_1278 : decode code 1278 = .ok (.iadd, 1) := by decide +kernel
theorem DL_1279 : decode code 1279 = .ok (.iaload, 1) := by decide +kernel
theorem DL_1280 : decode code 1280 = .ok (.aload_n 0, 1) := by decide +kernel
theorem DL_1281 : decode code 1281 = .ok (.iload 4, 2) := by decide +kernel
theorem DL_1283 : decode code 1283 = .ok (.iconst 2, 1) := by decide +kernel
theorem DL_1284 : decode code 1284 = .ok (.iadd, 1) := by decide +kernel
theorem DL_1285 : decode code 1285 = .ok (.iaload, 1) := by decide +kernel
theorem DL_1286 : decode code 1286 = .ok (.aload_n 0, 1) := by decide +kernel
theorem DL_1287 : decode code 1287 = .ok (.iload 4, 2) := by decide +kernel
theorem DL_1289 : decode code 1289 = .ok (.iconst 3, 1) := by decide +kernel
theorem DL_1290 : decode code 1290 = .ok (.iadd, 1) := by decide +kernel
theorem DL_1291 : decode code 1291 = .ok (.iaload, 1) := by decide +kernel
theorem DL_1292 : decode code 1292 = .ok (.invokevirtual 158, 3) := by decide +kernel
theorem DL_1295 : decode code 1295 = .ok (.if_icmp .eq 118, 3) := by decide +kernel
theorem DL_1298 : decode code 1298 = .ok (.iconst 0, 1) := by decide +kernel
theorem DL_1299 : decode code 1299 = .ok (.ireturn, 1) := by decide +kernel
theorem DL_1300 : decode code 1300 = .ok (.aload_n 1, 1) := by decide +kernel
theorem DL_1301 : decode code 1301 = .ok (.aload_n 0, 1) := by decide +kernel
theorem DL_1302 : decode code 1302 = .ok (.iload 4, 2) := by decide +kernel
theorem DL_1304 : decode code 1304 = .ok (.iconst 1, 1) := by decide +kernel
theorem DL_1305 : decode code 1305 = .ok (.iadd, 1) := by decide +kernel
theorem DL_1306 : decode code 1306 = .ok (.iaload, 1) := by decide +kernel
theorem DL_1307 : decode code 1307 = .ok (.aload_n 0, 1) := by decide +kernel
theorem DL_1308 : decode code 1308 = .ok (.iload 4, 2) := by decide +kernel
theorem DL_1310 : decode code 1310 = .ok (.iconst 2, 1) := by decide +kernel
theorem DL_1311 : decode code 1311 = .ok (.iadd, 1) := by decide +kernel
theorem DL_1312 : decode code 1312 = .ok (.iaload, 1) := by decide +kernel
theorem DL_1313 : decode code 1313 = .ok (.aload_n 0, 1) := by decide +kernel
theorem DL_1314 : decode code 1314 = .ok (.iload 4, 2) := by decide +kernel
theorem DL_1316 : decode code 1316 = .ok (.iconst 3, 1) := by decide +kernel
theorem DL_1317 : decode code 1317 = .ok (.iadd, 1) := by decide +kernel
theorem DL_1318 : decode code 1318 = .ok (.iaload, 1) := by decide +kernel
theorem DL_1319 : decode code 1319 = .ok (.invokevirtual 159, 3) := by decide +kernel
theorem DL_1322 : decode code 1322 = .ok (.aload_n 2, 1) := by decide +kernel
theorem DL_1323 : decode code 1323 = .ok (.aload_n 0, 1) := by decide +kernel
theorem DL_1324 : decode code 1324 = .ok (.iload 4, 2) := by decide +kernel
theorem DL_1326 : decode code 1326 = .ok (.iconst 1, 1) := by decide +kernel
theorem DL_1327 : decode code 1327 = .ok (.iadd, 1) := by decide +kernel
theorem DL_1328 : decode code 1328 = .ok (.iaload, 1) := by decide +kernel
theorem DL_1329 : decode code 1329 = .ok (.aload_n 0, 1) := by decide +kernel
theorem DL_1330 : decode code 1330 = .ok (.iload 4, 2) := by decide +kernel
theorem DL_1332 : decode code 1332 = .ok (.iconst 2, 1) := by decide +kernel
theorem DL_1333 : decode code 1333 = .ok (.iadd, 1) := by decide +kernel
theorem DL_1334 : decode code 1334 = .ok (.iaload, 1) := by decide +kernel
theorem DL_1335 : decode code 1335 = .ok (.aload_n 0, 1) := by decide +kernel
theorem DL_1336 : decode code 1336 = .ok (.iload 4, 2) := by decide +kernel
theorem DL_1338 : decode code 1338 = .ok (.iconst 3, 1) := by decide +kernel
theorem DL_1339 : decode code 1339 = .ok (.iadd, 1) := by decide +kernel
theorem DL_1340 : decode code 1340 = .ok (.iaload, 1) := by decide +kernel
theorem DL_1341 : decode code 1341 = .ok (.invokevirtual 162, 3) := by decide +kernel
theorem DL_1344 : decode code 1344 = .ok (.if_icmp .eq 69, 3) := by decide +kernel
theorem DL_1347 : decode code 1347 = .ok (.iconst 0, 1) := by decide +kernel
theorem DL_1348 : decode code 1348 = .ok (.ireturn, 1) := by decide +kernel
theorem DL_1349 : decode code 1349 = .ok (.aload_n 1, 1) := by decide +kernel
theorem DL_1350 : decode code 1350 = .ok (.invokevirtual 163, 3) := by decide +kernel
theorem DL_1353 : decode code 1353 = .ok (.aload_n 2, 1) := by decide +kernel
theorem DL_1354 : decode code 1354 = .ok (.invokevirtual 166, 3) := by decide +kernel
theorem DL_1357 : decode code 1357 = .ok (.if_icmp .eq 56, 3) := by decide +kernel
theorem DL_1360 : decode code 1360 = .ok (.iconst 0, 1) := by decide +kernel
theorem DL_1361 : decode code 1361 = .ok (.ireturn, 1) := by decide +kernel
theorem DL_1362 : decode code 1362 = .ok (.aload_n 1, 1) := by decide +kernel
theorem DL_1363 : decode code 1363 = .ok (.invokevirtual 167, 3) := by decide +kernel
theorem DL_1366 : decode code 1366 = .ok (.aload_n 2, 1) := by decide +kernel
theorem DL_1367 : decode code 1367 = .ok (.invokevirtual 170, 3) := by decide +kernel
theorem DL_1370 : decode code 1370 = .ok (.if_icmp .eq 43, 3) := by decide +kernel
theorem DL_1373 : decode code 1373 = .ok (.iconst 0, 1) := by decide +kernel
theorem DL_1374 : decode code 1374 = .ok (.ireturn, 1) := by decide +kernel
theorem DL_1375 : decode code 1375 = .ok (.aload_n 1, 1) := by decide +kernel
theorem DL_1376 : decode code 1376 = .ok (.invokevirtual 171, 3) := by decide +kernel
theorem DL_1379 : decode code 1379 = .ok (.aload_n 2, 1) := by decide +kernel
theorem DL_1380 : decode code 1380 = .ok (.invokevirtual 174, 3) := by decide +kernel
theorem DL_1383 : decode code 1383 = .ok (.if_icmp .eq 30, 3) := by decide +kernel
theorem DL_1386 : decode code 1386 = .ok (.iconst 0, 1) := by decide +kernel
theorem DL_1387 : decode code 1387 = .ok (.ireturn, 1) := by decide +kernel
theorem DL_1388 : decode code 1388 = .ok (.aload_n 1, 1) := by decide +kernel
theorem DL_1389 : decode code 1389 = .ok (.aload_n 0, 1) := by decide +kernel
theorem DL_1390 : decode code 1390 = .ok (.iload 4, 2) := by decide +kernel
theorem DL_1392 : decode code 1392 = .ok (.iconst 1, 1) := by decide +kernel
theorem DL_1393 : decode code 1393 = .ok (.iadd, 1) := by decide +kernel
theorem DL_1394 : decode code 1394 = .ok (.iaload, 1) := by decide +kernel
theorem DL_1395 : decode code 1395 = .ok (.invokevirtual 175, 3) := by decide +kernel
theorem DL_1398 : decode code 1398 = .ok (.aload_n 2, 1) := by decide +kernel
theorem DL_1399 : decode code 1399 = .ok (.aload_n 0, 1) := by decide +kernel
theorem DL_1400 : decode code 1400 = .ok (.iload 4, 2) := by decide +kernel
theorem DL_1402 : decode code 1402 = .ok (.iconst 1, 1) := by decide +kernel
theorem DL_1403 : decode code 1403 = .ok (.iadd, 1) := by decide +kernel
theorem DL_1404 : decode code 1404 = .ok (.iaload, 1) := by decide +kernel
theorem DL_1405 : decode code 1405 = .ok (.invokevirtual 178, 3) := by decide +kernel
theorem DL_1408 : decode code 1408 = .ok (.if_icmp .eq 5, 3) := by decide +kernel
theorem DL_1411 : decode code 1411 = .ok (.iconst 0, 1) := by decide +kernel
theorem DL_1412 : decode code 1412 = .ok (.ireturn, 1) := by decide +kernel
theorem DL_1413 : decode code 1413 = .ok (.iinc 4 6, 3) := by decide +kernel
theorem DL_1416 : decode code 1416 = .ok (.goto (-1393), 3) := by decide +kernel
theorem DL_1419 : decode code 1419 = .ok (.iconst 1, 1) := by decide +kernel
theorem DL_1420 : decode code 1420 = .ok (.ireturn, 1) := by decide +kernel
