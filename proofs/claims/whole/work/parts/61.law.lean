theorem d_L_0 : decode code 0 = .ok (.new 7, 3) := by decide +kernel
theorem d_L_3 : decode code 3 = .ok (.dup, 1) := by decide +kernel
theorem d_L_4 : decode code 4 = .ok (.invokespecial 9, 3) := by decide +kernel
theorem d_L_7 : decode code 7 = .ok (.astore_n 1, 1) := by decide +kernel
theorem d_L_8 : decode code 8 = .ok (.new 10, 3) := by decide +kernel
theorem d_L_11 : decode code 11 = .ok (.dup, 1) := by decide +kernel
theorem d_L_12 : decode code 12 = .ok (.invokespecial 12, 3) := by decide +kernel
theorem d_L_15 : decode code 15 = .ok (.astore_n 2, 1) := by decide +kernel
theorem d_L_16 : decode code 16 = .ok (.iconst 0, 1) := by decide +kernel
theorem d_L_17 : decode code 17 = .ok (.istore_n 3, 1) := by decide +kernel
theorem d_L_18 : decode code 18 = .ok (.iload_n 3, 1) := by decide +kernel
theorem d_L_19 : decode code 19 = .ok (.aload_n 0, 1) := by decide +kernel
theorem d_L_20 : decode code 20 = .ok (.arraylength, 1) := by decide +kernel
theorem d_L_21 : decode code 21 = .ok (.bipush 6, 2) := by decide +kernel
theorem d_L_23 : decode code 23 = .ok (.isub, 1) := by decide +kernel
theorem d_L_24 : decode code 24 = .ok (.if_icmp .gt (1389), 3) := by decide +kernel
theorem d_L_27 : decode code 27 = .ok (.aload_n 0, 1) := by decide +kernel
theorem d_L_28 : decode code 28 = .ok (.iload_n 3, 1) := by decide +kernel
theorem d_L_29 : decode code 29 = .ok (.iaload, 1) := by decide +kernel
theorem d_L_30 : decode code 30 = .ok (.bipush 63, 2) := by decide +kernel
theorem d_L_32 : decode code 32 = .ok (.iand, 1) := by decide +kernel
theorem d_L_33 : decode code 33 = .ok (.tableswitch 1374 0 40 #[179, 212, 235, 258, 281, 304, 327, 360, 383, 406, 449, 462, 485, 518, 561, 594, 627, 660, 693, 716, 729, 742, 775, 798, 831, 854, 897, 910, 923, 946, 969, 992, 1036, 1079, 1122, 1145, 1198, 1241, 1304, 1337, 1360], 179) := by decide +kernel
theorem d_L_212 : decode code 212 = .ok (.aload_n 1, 1) := by decide +kernel
theorem d_L_213 : decode code 213 = .ok (.aload_n 0, 1) := by decide +kernel
theorem d_L_214 : decode code 214 = .ok (.iload_n 3, 1) := by decide +kernel
theorem d_L_215 : decode code 215 = .ok (.iconst 1, 1) := by decide +kernel
theorem d_L_216 : decode code 216 = .ok (.iadd, 1) := by decide +kernel
theorem d_L_217 : decode code 217 = .ok (.iaload, 1) := by decide +kernel
theorem d_L_218 : decode code 218 = .ok (.aload_n 0, 1) := by decide +kernel
theorem d_L_219 : decode code 219 = .ok (.iload_n 3, 1) := by decide +kernel
theorem d_L_220 : decode code 220 = .ok (.iconst 2, 1) := by decide +kernel
theorem d_L_221 : decode code 221 = .ok (.iadd, 1) := by decide +kernel
theorem d_L_222 : decode code 222 = .ok (.iaload, 1) := by decide +kernel
theorem d_L_223 : decode code 223 = .ok (.invokevirtual 13, 3) := by decide +kernel
theorem d_L_226 : decode code 226 = .ok (.aload_n 2, 1) := by decide +kernel
theorem d_L_227 : decode code 227 = .ok (.aload_n 0, 1) := by decide +kernel
theorem d_L_228 : decode code 228 = .ok (.iload_n 3, 1) := by decide +kernel
theorem d_L_229 : decode code 229 = .ok (.iconst 1, 1) := by decide +kernel
theorem d_L_230 : decode code 230 = .ok (.iadd, 1) := by decide +kernel
theorem d_L_231 : decode code 231 = .ok (.iaload, 1) := by decide +kernel
theorem d_L_232 : decode code 232 = .ok (.aload_n 0, 1) := by decide +kernel
theorem d_L_233 : decode code 233 = .ok (.iload_n 3, 1) := by decide +kernel
theorem d_L_234 : decode code 234 = .ok (.iconst 2, 1) := by decide +kernel
theorem d_L_235 : decode code 235 = .ok (.iadd, 1) := by decide +kernel
theorem d_L_236 : decode code 236 = .ok (.iaload, 1) := by decide +kernel
theorem d_L_237 : decode code 237 = .ok (.invokevirtual 17, 3) := by decide +kernel
theorem d_L_240 : decode code 240 = .ok (.if_icmp .eq (1167), 3) := by decide +kernel
theorem d_L_245 : decode code 245 = .ok (.aload_n 1, 1) := by decide +kernel
theorem d_L_246 : decode code 246 = .ok (.aload_n 0, 1) := by decide +kernel
theorem d_L_247 : decode code 247 = .ok (.iload_n 3, 1) := by decide +kernel
theorem d_L_248 : decode code 248 = .ok (.iconst 1, 1) := by decide +kernel
theorem d_L_249 : decode code 249 = .ok (.iadd, 1) := by decide +kernel
theorem d_L_250 : decode code 250 = .ok (.iaload, 1) := by decide +kernel
theorem d_L_251 : decode code 251 = .ok (.invokevirtual 18, 3) := by decide +kernel
theorem d_L_254 : decode code 254 = .ok (.aload_n 2, 1) := by decide +kernel
theorem d_L_255 : decode code 255 = .ok (.aload_n 0, 1) := by decide +kernel
theorem d_L_256 : decode code 256 = .ok (.iload_n 3, 1) := by decide +kernel
theorem d_L_257 : decode code 257 = .ok (.iconst 1, 1) := by decide +kernel
theorem d_L_258 : decode code 258 = .ok (.iadd, 1) := by decide +kernel
theorem d_L_259 : decode code 259 = .ok (.iaload, 1) := by decide +kernel
theorem d_L_260 : decode code 260 = .ok (.invokevirtual 22, 3) := by decide +kernel
theorem d_L_263 : decode code 263 = .ok (.if_icmp .eq (1144), 3) := by decide +kernel
theorem d_L_268 : decode code 268 = .ok (.aload_n 1, 1) := by decide +kernel
theorem d_L_269 : decode code 269 = .ok (.aload_n 0, 1) := by decide +kernel
theorem d_L_270 : decode code 270 = .ok (.iload_n 3, 1) := by decide +kernel
theorem d_L_271 : decode code 271 = .ok (.iconst 1, 1) := by decide +kernel
theorem d_L_272 : decode code 272 = .ok (.iadd, 1) := by decide +kernel
theorem d_L_273 : decode code 273 = .ok (.iaload, 1) := by decide +kernel
theorem d_L_274 : decode code 274 = .ok (.invokevirtual 23, 3) := by decide +kernel
theorem d_L_277 : decode code 277 = .ok (.aload_n 2, 1) := by decide +kernel
theorem d_L_278 : decode code 278 = .ok (.aload_n 0, 1) := by decide +kernel
theorem d_L_279 : decode code 279 = .ok (.iload_n 3, 1) := by decide +kernel
theorem d_L_280 : decode code 280 = .ok (.iconst 1, 1) := by decide +kernel
theorem d_L_281 : decode code 281 = .ok (.iadd, 1) := by decide +kernel
theorem d_L_282 : decode code 282 = .ok (.iaload, 1) := by decide +kernel
theorem d_L_283 : decode code 283 = .ok (.invokevirtual 26, 3) := by decide +kernel
theorem d_L_286 : decode code 286 = .ok (.if_icmp .eq (1121), 3) := by decide +kernel
theorem d_L_291 : decode code 291 = .ok (.aload_n 1, 1) := by decide +kernel
theorem d_L_292 : decode code 292 = .ok (.aload_n 0, 1) := by decide +kernel
theorem d_L_293 : decode code 293 = .ok (.iload_n 3, 1) := by decide +kernel
theorem d_L_294 : decode code 294 = .ok (.iconst 1, 1) := by decide +kernel
theorem d_L_295 : decode code 295 = .ok (.iadd, 1) := by decide +kernel
theorem d_L_296 : decode code 296 = .ok (.iaload, 1) := by decide +kernel
theorem d_L_297 : decode code 297 = .ok (.invokevirtual 27, 3) := by decide +kernel
theorem d_L_300 : decode code 300 = .ok (.aload_n 2, 1) := by decide +kernel
theorem d_L_301 : decode code 301 = .ok (.aload_n 0, 1) := by decide +kernel
theorem d_L_302 : decode code 302 = .ok (.iload_n 3, 1) := by decide +kernel
theorem d_L_303 : decode code 303 = .ok (.iconst 1, 1) := by decide +kernel
theorem d_L_304 : decode code 304 = .ok (.iadd, 1) := by decide +kernel
theorem d_L_305 : decode code 305 = .ok (.iaload, 1) := by decide +kernel
theorem d_L_306 : decode code 306 = .ok (.invokevirtual 30, 3) := by decide +kernel
theorem d_L_309 : decode code 309 = .ok (.if_icmp .eq (1098), 3) := by decide +kernel
theorem d_L_314 : decode code 314 = .ok (.aload_n 1, 1) := by decide +kernel
theorem d_L_315 : decode code 315 = .ok (.aload_n 0, 1) := by decide +kernel
theorem d_L_316 : decode code 316 = .ok (.iload_n 3, 1) := by decide +kernel
theorem d_L_317 : decode code 317 = .ok (.iconst 1, 1) := by decide +kernel
theorem d_L_318 : decode code 318 = .ok (.iadd, 1) := by decide +kernel
theorem d_L_319 : decode code 319 = .ok (.iaload, 1) := by decide +kernel
theorem d_L_320 : decode code 320 = .ok (.invokevirtual 31, 3) := by decide +kernel
theorem d_L_323 : decode code 323 = .ok (.aload_n 2, 1) := by decide +kernel
theorem d_L_324 : decode code 324 = .ok (.aload_n 0, 1) := by decide +kernel
theorem d_L_325 : decode code 325 = .ok (.iload_n 3, 1) := by decide +kernel
theorem d_L_326 : decode code 326 = .ok (.iconst 1, 1) := by decide +kernel
theorem d_L_327 : decode code 327 = .ok (.iadd, 1) := by decide +kernel
theorem d_L_328 : decode code 328 = .ok (.iaload, 1) := by decide +kernel
theorem d_L_329 : decode code 329 = .ok (.invokevirtual 34, 3) := by decide +kernel
theorem d_L_332 : decode code 332 = .ok (.if_icmp .eq (1075), 3) := by decide +kernel
theorem d_L_337 : decode code 337 = .ok (.aload_n 1, 1) := by decide +kernel
theorem d_L_338 : decode code 338 = .ok (.aload_n 0, 1) := by decide +kernel
theorem d_L_339 : decode code 339 = .ok (.iload_n 3, 1) := by decide +kernel
theorem d_L_340 : decode code 340 = .ok (.iconst 1, 1) := by decide +kernel
theorem d_L_341 : decode code 341 = .ok (.iadd, 1) := by decide +kernel
theorem d_L_342 : decode code 342 = .ok (.iaload, 1) := by decide +kernel
theorem d_L_343 : decode code 343 = .ok (.invokevirtual 35, 3) := by decide +kernel
theorem d_L_346 : decode code 346 = .ok (.aload_n 2, 1) := by decide +kernel
theorem d_L_347 : decode code 347 = .ok (.aload_n 0, 1) := by decide +kernel
theorem d_L_348 : decode code 348 = .ok (.iload_n 3, 1) := by decide +kernel
theorem d_L_349 : decode code 349 = .ok (.iconst 1, 1) := by decide +kernel
theorem d_L_350 : decode code 350 = .ok (.iadd, 1) := by decide +kernel
theorem d_L_351 : decode code 351 = .ok (.iaload, 1) := by decide +kernel
theorem d_L_352 : decode code 352 = .ok (.invokevirtual 38, 3) := by decide +kernel
theorem d_L_355 : decode code 355 = .ok (.if_icmp .eq (1052), 3) := by decide +kernel
theorem d_L_360 : decode code 360 = .ok (.aload_n 1, 1) := by decide +kernel
theorem d_L_361 : decode code 361 = .ok (.aload_n 0, 1) := by decide +kernel
theorem d_L_362 : decode code 362 = .ok (.iload_n 3, 1) := by decide +kernel
theorem d_L_363 : decode code 363 = .ok (.iconst 1, 1) := by decide +kernel
theorem d_L_364 : decode code 364 = .ok (.iadd, 1) := by decide +kernel
theorem d_L_365 : decode code 365 = .ok (.iaload, 1) := by decide +kernel
theorem d_L_366 : decode code 366 = .ok (.aload_n 0, 1) := by decide +kernel
theorem d_L_367 : decode code 367 = .ok (.iload_n 3, 1) := by decide +kernel
theorem d_L_368 : decode code 368 = .ok (.iconst 2, 1) := by decide +kernel
theorem d_L_369 : decode code 369 = .ok (.iadd, 1) := by decide +kernel
theorem d_L_370 : decode code 370 = .ok (.iaload, 1) := by decide +kernel
theorem d_L_371 : decode code 371 = .ok (.invokevirtual 39, 3) := by decide +kernel
theorem d_L_374 : decode code 374 = .ok (.aload_n 2, 1) := by decide +kernel
theorem d_L_375 : decode code 375 = .ok (.aload_n 0, 1) := by decide +kernel
theorem d_L_376 : decode code 376 = .ok (.iload_n 3, 1) := by decide +kernel
theorem d_L_377 : decode code 377 = .ok (.iconst 1, 1) := by decide +kernel
theorem d_L_378 : decode code 378 = .ok (.iadd, 1) := by decide +kernel
theorem d_L_379 : decode code 379 = .ok (.iaload, 1) := by decide +kernel
theorem d_L_380 : decode code 380 = .ok (.aload_n 0, 1) := by decide +kernel
theorem d_L_381 : decode code 381 = .ok (.iload_n 3, 1) := by decide +kernel
theorem d_L_382 : decode code 382 = .ok (.iconst 2, 1) := by decide +kernel
theorem d_L_383 : decode code 383 = .ok (.iadd, 1) := by decide +kernel
theorem d_L_384 : decode code 384 = .ok (.iaload, 1) := by decide +kernel
theorem d_L_385 : decode code 385 = .ok (.invokevirtual 42, 3) := by decide +kernel
theorem d_L_388 : decode code 388 = .ok (.if_icmp .eq (1019), 3) := by decide +kernel
theorem d_L_393 : decode code 393 = .ok (.aload_n 1, 1) := by decide +kernel
theorem d_L_394 : decode code 394 = .ok (.aload_n 0, 1) := by decide +kernel
theorem d_L_395 : decode code 395 = .ok (.iload_n 3, 1) := by decide +kernel
theorem d_L_396 : decode code 396 = .ok (.iconst 1, 1) := by decide +kernel
theorem d_L_397 : decode code 397 = .ok (.iadd, 1) := by decide +kernel
theorem d_L_398 : decode code 398 = .ok (.iaload, 1) := by decide +kernel
theorem d_L_399 : decode code 399 = .ok (.invokevirtual 43, 3) := by decide +kernel
theorem d_L_402 : decode code 402 = .ok (.aload_n 2, 1) := by decide +kernel
theorem d_L_403 : decode code 403 = .ok (.aload_n 0, 1) := by decide +kernel
theorem d_L_404 : decode code 404 = .ok (.iload_n 3, 1) := by decide +kernel
theorem d_L_405 : decode code 405 = .ok (.iconst 1, 1) := by decide +kernel
theorem d_L_406 : decode code 406 = .ok (.iadd, 1) := by decide +kernel
theorem d_L_407 : decode code 407 = .ok (.iaload, 1) := by decide +kernel
theorem d_L_408 : decode code 408 = .ok (.invokevirtual 46, 3) := by decide +kernel
theorem d_L_411 : decode code 411 = .ok (.if_icmp .eq (996), 3) := by decide +kernel
theorem d_L_416 : decode code 416 = .ok (.aload_n 1, 1) := by decide +kernel
theorem d_L_417 : decode code 417 = .ok (.aload_n 0, 1) := by decide +kernel
theorem d_L_418 : decode code 418 = .ok (.iload_n 3, 1) := by decide +kernel
theorem d_L_419 : decode code 419 = .ok (.iconst 1, 1) := by decide +kernel
theorem d_L_420 : decode code 420 = .ok (.iadd, 1) := by decide +kernel
theorem d_L_421 : decode code 421 = .ok (.iaload, 1) := by decide +kernel
theorem d_L_422 : decode code 422 = .ok (.invokevirtual 47, 3) := by decide +kernel
theorem d_L_425 : decode code 425 = .ok (.aload_n 2, 1) := by decide +kernel
theorem d_L_426 : decode code 426 = .ok (.aload_n 0, 1) := by decide +kernel
theorem d_L_427 : decode code 427 = .ok (.iload_n 3, 1) := by decide +kernel
theorem d_L_428 : decode code 428 = .ok (.iconst 1, 1) := by decide +kernel
theorem d_L_429 : decode code 429 = .ok (.iadd, 1) := by decide +kernel
theorem d_L_430 : decode code 430 = .ok (.iaload, 1) := by decide +kernel
theorem d_L_431 : decode code 431 = .ok (.invokevirtual 50, 3) := by decide +kernel
theorem d_L_434 : decode code 434 = .ok (.if_icmp .eq (973), 3) := by decide +kernel
theorem d_L_439 : decode code 439 = .ok (.aload_n 1, 1) := by decide +kernel
theorem d_L_440 : decode code 440 = .ok (.aload_n 0, 1) := by decide +kernel
theorem d_L_441 : decode code 441 = .ok (.iload_n 3, 1) := by decide +kernel
theorem d_L_442 : decode code 442 = .ok (.iconst 1, 1) := by decide +kernel
theorem d_L_443 : decode code 443 = .ok (.iadd, 1) := by decide +kernel
theorem d_L_444 : decode code 444 = .ok (.iaload, 1) := by decide +kernel
theorem d_L_445 : decode code 445 = .ok (.aload_n 0, 1) := by decide +kernel
theorem d_L_446 : decode code 446 = .ok (.iload_n 3, 1) := by decide +kernel
theorem d_L_447 : decode code 447 = .ok (.iconst 2, 1) := by decide +kernel
theorem d_L_448 : decode code 448 = .ok (.iadd, 1) := by decide +kernel
theorem d_L_449 : decode code 449 = .ok (.iaload, 1) := by decide +kernel
theorem d_L_450 : decode code 450 = .ok (.aload_n 0, 1) := by decide +kernel
theorem d_L_451 : decode code 451 = .ok (.iload_n 3, 1) := by decide +kernel
theorem d_L_452 : decode code 452 = .ok (.iconst 3, 1) := by decide +kernel
theorem d_L_453 : decode code 453 = .ok (.iadd, 1) := by decide +kernel
theorem d_L_454 : decode code 454 = .ok (.iaload, 1) := by decide +kernel
theorem d_L_455 : decode code 455 = .ok (.invokevirtual 51, 3) := by decide +kernel
theorem d_L_458 : decode code 458 = .ok (.aload_n 2, 1) := by decide +kernel
theorem d_L_459 : decode code 459 = .ok (.aload_n 0, 1) := by decide +kernel
theorem d_L_460 : decode code 460 = .ok (.iload_n 3, 1) := by decide +kernel
theorem d_L_461 : decode code 461 = .ok (.iconst 1, 1) := by decide +kernel
theorem d_L_462 : decode code 462 = .ok (.iadd, 1) := by decide +kernel
theorem d_L_463 : decode code 463 = .ok (.iaload, 1) := by decide +kernel
theorem d_L_464 : decode code 464 = .ok (.aload_n 0, 1) := by decide +kernel
theorem d_L_465 : decode code 465 = .ok (.iload_n 3, 1) := by decide +kernel
theorem d_L_466 : decode code 466 = .ok (.iconst 2, 1) := by decide +kernel
theorem d_L_467 : decode code 467 = .ok (.iadd, 1) := by decide +kernel
theorem d_L_468 : decode code 468 = .ok (.iaload, 1) := by decide +kernel
theorem d_L_469 : decode code 469 = .ok (.aload_n 0, 1) := by decide +kernel
theorem d_L_470 : decode code 470 = .ok (.iload_n 3, 1) := by decide +kernel
theorem d_L_471 : decode code 471 = .ok (.iconst 3, 1) := by decide +kernel
theorem d_L_472 : decode code 472 = .ok (.iadd, 1) := by decide +kernel
theorem d_L_473 : decode code 473 = .ok (.iaload, 1) := by decide +kernel
theorem d_L_474 : decode code 474 = .ok (.invokevirtual 55, 3) := by decide +kernel
theorem d_L_477 : decode code 477 = .ok (.if_icmp .eq (930), 3) := by decide +kernel
theorem d_L_482 : decode code 482 = .ok (.aload_n 1, 1) := by decide +kernel
theorem d_L_483 : decode code 483 = .ok (.invokevirtual 56, 3) := by decide +kernel
theorem d_L_486 : decode code 486 = .ok (.aload_n 2, 1) := by decide +kernel
theorem d_L_487 : decode code 487 = .ok (.invokevirtual 60, 3) := by decide +kernel
theorem d_L_490 : decode code 490 = .ok (.if_icmp .eq (917), 3) := by decide +kernel
theorem d_L_495 : decode code 495 = .ok (.aload_n 1, 1) := by decide +kernel
theorem d_L_496 : decode code 496 = .ok (.aload_n 0, 1) := by decide +kernel
theorem d_L_497 : decode code 497 = .ok (.iload_n 3, 1) := by decide +kernel
theorem d_L_498 : decode code 498 = .ok (.iconst 1, 1) := by decide +kernel
theorem d_L_499 : decode code 499 = .ok (.iadd, 1) := by decide +kernel
theorem d_L_500 : decode code 500 = .ok (.iaload, 1) := by decide +kernel
theorem d_L_501 : decode code 501 = .ok (.invokevirtual 61, 3) := by decide +kernel
theorem d_L_504 : decode code 504 = .ok (.aload_n 2, 1) := by decide +kernel
theorem d_L_505 : decode code 505 = .ok (.aload_n 0, 1) := by decide +kernel
theorem d_L_506 : decode code 506 = .ok (.iload_n 3, 1) := by decide +kernel
theorem d_L_507 : decode code 507 = .ok (.iconst 1, 1) := by decide +kernel
theorem d_L_508 : decode code 508 = .ok (.iadd, 1) := by decide +kernel
theorem d_L_509 : decode code 509 = .ok (.iaload, 1) := by decide +kernel
theorem d_L_510 : decode code 510 = .ok (.invokevirtual 64, 3) := by decide +kernel
theorem d_L_513 : decode code 513 = .ok (.if_icmp .eq (894), 3) := by decide +kernel
theorem d_L_518 : decode code 518 = .ok (.aload_n 1, 1) := by decide +kernel
theorem d_L_519 : decode code 519 = .ok (.aload_n 0, 1) := by decide +kernel
theorem d_L_520 : decode code 520 = .ok (.iload_n 3, 1) := by decide +kernel
theorem d_L_521 : decode code 521 = .ok (.iconst 1, 1) := by decide +kernel
theorem d_L_522 : decode code 522 = .ok (.iadd, 1) := by decide +kernel
theorem d_L_523 : decode code 523 = .ok (.iaload, 1) := by decide +kernel
theorem d_L_524 : decode code 524 = .ok (.aload_n 0, 1) := by decide +kernel
theorem d_L_525 : decode code 525 = .ok (.iload_n 3, 1) := by decide +kernel
theorem d_L_526 : decode code 526 = .ok (.iconst 2, 1) := by decide +kernel
theorem d_L_527 : decode code 527 = .ok (.iadd, 1) := by decide +kernel
theorem d_L_528 : decode code 528 = .ok (.iaload, 1) := by decide +kernel
theorem d_L_529 : decode code 529 = .ok (.invokevirtual 65, 3) := by decide +kernel
theorem d_L_532 : decode code 532 = .ok (.aload_n 2, 1) := by decide +kernel
theorem d_L_533 : decode code 533 = .ok (.aload_n 0, 1) := by decide +kernel
theorem d_L_534 : decode code 534 = .ok (.iload_n 3, 1) := by decide +kernel
theorem d_L_535 : decode code 535 = .ok (.iconst 1, 1) := by decide +kernel
theorem d_L_536 : decode code 536 = .ok (.iadd, 1) := by decide +kernel
theorem d_L_537 : decode code 537 = .ok (.iaload, 1) := by decide +kernel
theorem d_L_538 : decode code 538 = .ok (.aload_n 0, 1) := by decide +kernel
theorem d_L_539 : decode code 539 = .ok (.iload_n 3, 1) := by decide +kernel
theorem d_L_540 : decode code 540 = .ok (.iconst 2, 1) := by decide +kernel
theorem d_L_541 : decode code 541 = .ok (.iadd, 1) := by decide +kernel
theorem d_L_542 : decode code 542 = .ok (.iaload, 1) := by decide +kernel
theorem d_L_543 : decode code 543 = .ok (.invokevirtual 68, 3) := by decide +kernel
theorem d_L_546 : decode code 546 = .ok (.if_icmp .eq (861), 3) := by decide +kernel
theorem d_L_551 : decode code 551 = .ok (.aload_n 1, 1) := by decide +kernel
theorem d_L_552 : decode code 552 = .ok (.aload_n 0, 1) := by decide +kernel
theorem d_L_553 : decode code 553 = .ok (.iload_n 3, 1) := by decide +kernel
theorem d_L_554 : decode code 554 = .ok (.iconst 1, 1) := by decide +kernel
theorem d_L_555 : decode code 555 = .ok (.iadd, 1) := by decide +kernel
theorem d_L_556 : decode code 556 = .ok (.iaload, 1) := by decide +kernel
theorem d_L_557 : decode code 557 = .ok (.aload_n 0, 1) := by decide +kernel
theorem d_L_558 : decode code 558 = .ok (.iload_n 3, 1) := by decide +kernel
theorem d_L_559 : decode code 559 = .ok (.iconst 2, 1) := by decide +kernel
theorem d_L_560 : decode code 560 = .ok (.iadd, 1) := by decide +kernel
theorem d_L_561 : decode code 561 = .ok (.iaload, 1) := by decide +kernel
theorem d_L_562 : decode code 562 = .ok (.aload_n 0, 1) := by decide +kernel
theorem d_L_563 : decode code 563 = .ok (.iload_n 3, 1) := by decide +kernel
theorem d_L_564 : decode code 564 = .ok (.iconst 3, 1) := by decide +kernel
theorem d_L_565 : decode code 565 = .ok (.iadd, 1) := by decide +kernel
theorem d_L_566 : decode code 566 = .ok (.iaload, 1) := by decide +kernel
theorem d_L_567 : decode code 567 = .ok (.invokevirtual 69, 3) := by decide +kernel
theorem d_L_570 : decode code 570 = .ok (.aload_n 2, 1) := by decide +kernel
theorem d_L_571 : decode code 571 = .ok (.aload_n 0, 1) := by decide +kernel
theorem d_L_572 : decode code 572 = .ok (.iload_n 3, 1) := by decide +kernel
theorem d_L_573 : decode code 573 = .ok (.iconst 1, 1) := by decide +kernel
theorem d_L_574 : decode code 574 = .ok (.iadd, 1) := by decide +kernel
theorem d_L_575 : decode code 575 = .ok (.iaload, 1) := by decide +kernel
theorem d_L_576 : decode code 576 = .ok (.aload_n 0, 1) := by decide +kernel
theorem d_L_577 : decode code 577 = .ok (.iload_n 3, 1) := by decide +kernel
theorem d_L_578 : decode code 578 = .ok (.iconst 2, 1) := by decide +kernel
theorem d_L_579 : decode code 579 = .ok (.iadd, 1) := by decide +kernel
theorem d_L_580 : decode code 580 = .ok (.iaload, 1) := by decide +kernel
theorem d_L_581 : decode code 581 = .ok (.aload_n 0, 1) := by decide +kernel
theorem d_L_582 : decode code 582 = .ok (.iload_n 3, 1) := by decide +kernel
theorem d_L_583 : decode code 583 = .ok (.iconst 3, 1) := by decide +kernel
theorem d_L_584 : decode code 584 = .ok (.iadd, 1) := by decide +kernel
theorem d_L_585 : decode code 585 = .ok (.iaload, 1) := by decide +kernel
theorem d_L_586 : decode code 586 = .ok (.invokevirtual 72, 3) := by decide +kernel
theorem d_L_589 : decode code 589 = .ok (.if_icmp .eq (818), 3) := by decide +kernel
theorem d_L_594 : decode code 594 = .ok (.aload_n 1, 1) := by decide +kernel
theorem d_L_595 : decode code 595 = .ok (.aload_n 0, 1) := by decide +kernel
theorem d_L_596 : decode code 596 = .ok (.iload_n 3, 1) := by decide +kernel
theorem d_L_597 : decode code 597 = .ok (.iconst 1, 1) := by decide +kernel
theorem d_L_598 : decode code 598 = .ok (.iadd, 1) := by decide +kernel
theorem d_L_599 : decode code 599 = .ok (.iaload, 1) := by decide +kernel
theorem d_L_600 : decode code 600 = .ok (.aload_n 0, 1) := by decide +kernel
theorem d_L_601 : decode code 601 = .ok (.iload_n 3, 1) := by decide +kernel
theorem d_L_602 : decode code 602 = .ok (.iconst 2, 1) := by decide +kernel
theorem d_L_603 : decode code 603 = .ok (.iadd, 1) := by decide +kernel
theorem d_L_604 : decode code 604 = .ok (.iaload, 1) := by decide +kernel
theorem d_L_605 : decode code 605 = .ok (.invokevirtual 73, 3) := by decide +kernel
theorem d_L_608 : decode code 608 = .ok (.aload_n 2, 1) := by decide +kernel
theorem d_L_609 : decode code 609 = .ok (.aload_n 0, 1) := by decide +kernel
theorem d_L_610 : decode code 610 = .ok (.iload_n 3, 1) := by decide +kernel
theorem d_L_611 : decode code 611 = .ok (.iconst 1, 1) := by decide +kernel
theorem d_L_612 : decode code 612 = .ok (.iadd, 1) := by decide +kernel
theorem d_L_613 : decode code 613 = .ok (.iaload, 1) := by decide +kernel
theorem d_L_614 : decode code 614 = .ok (.aload_n 0, 1) := by decide +kernel
theorem d_L_615 : decode code 615 = .ok (.iload_n 3, 1) := by decide +kernel
theorem d_L_616 : decode code 616 = .ok (.iconst 2, 1) := by decide +kernel
theorem d_L_617 : decode code 617 = .ok (.iadd, 1) := by decide +kernel
theorem d_L_618 : decode code 618 = .ok (.iaload, 1) := by decide +kernel
theorem d_L_619 : decode code 619 = .ok (.invokevirtual 76, 3) := by decide +kernel
theorem d_L_622 : decode code 622 = .ok (.if_icmp .eq (785), 3) := by decide +kernel
theorem d_L_627 : decode code 627 = .ok (.aload_n 1, 1) := by decide +kernel
theorem d_L_628 : decode code 628 = .ok (.aload_n 0, 1) := by decide +kernel
theorem d_L_629 : decode code 629 = .ok (.iload_n 3, 1) := by decide +kernel
theorem d_L_630 : decode code 630 = .ok (.iconst 1, 1) := by decide +kernel
theorem d_L_631 : decode code 631 = .ok (.iadd, 1) := by decide +kernel
theorem d_L_632 : decode code 632 = .ok (.iaload, 1) := by decide +kernel
theorem d_L_633 : decode code 633 = .ok (.aload_n 0, 1) := by decide +kernel
theorem d_L_634 : decode code 634 = .ok (.iload_n 3, 1) := by decide +kernel
theorem d_L_635 : decode code 635 = .ok (.iconst 2, 1) := by decide +kernel
theorem d_L_636 : decode code 636 = .ok (.iadd, 1) := by decide +kernel
theorem d_L_637 : decode code 637 = .ok (.iaload, 1) := by decide +kernel
theorem d_L_638 : decode code 638 = .ok (.invokevirtual 77, 3) := by decide +kernel
theorem d_L_641 : decode code 641 = .ok (.aload_n 2, 1) := by decide +kernel
theorem d_L_642 : decode code 642 = .ok (.aload_n 0, 1) := by decide +kernel
theorem d_L_643 : decode code 643 = .ok (.iload_n 3, 1) := by decide +kernel
theorem d_L_644 : decode code 644 = .ok (.iconst 1, 1) := by decide +kernel
theorem d_L_645 : decode code 645 = .ok (.iadd, 1) := by decide +kernel
theorem d_L_646 : decode code 646 = .ok (.iaload, 1) := by decide +kernel
theorem d_L_647 : decode code 647 = .ok (.aload_n 0, 1) := by decide +kernel
theorem d_L_648 : decode code 648 = .ok (.iload_n 3, 1) := by decide +kernel
theorem d_L_649 : decode code 649 = .ok (.iconst 2, 1) := by decide +kernel
theorem d_L_650 : decode code 650 = .ok (.iadd, 1) := by decide +kernel
theorem d_L_651 : decode code 651 = .ok (.iaload, 1) := by decide +kernel
theorem d_L_652 : decode code 652 = .ok (.invokevirtual 80, 3) := by decide +kernel
theorem d_L_655 : decode code 655 = .ok (.if_icmp .eq (752), 3) := by decide +kernel
theorem d_L_660 : decode code 660 = .ok (.aload_n 1, 1) := by decide +kernel
theorem d_L_661 : decode code 661 = .ok (.aload_n 0, 1) := by decide +kernel
theorem d_L_662 : decode code 662 = .ok (.iload_n 3, 1) := by decide +kernel
theorem d_L_663 : decode code 663 = .ok (.iconst 1, 1) := by decide +kernel
theorem d_L_664 : decode code 664 = .ok (.iadd, 1) := by decide +kernel
theorem d_L_665 : decode code 665 = .ok (.iaload, 1) := by decide +kernel
theorem d_L_666 : decode code 666 = .ok (.aload_n 0, 1) := by decide +kernel
theorem d_L_667 : decode code 667 = .ok (.iload_n 3, 1) := by decide +kernel
theorem d_L_668 : decode code 668 = .ok (.iconst 2, 1) := by decide +kernel
theorem d_L_669 : decode code 669 = .ok (.iadd, 1) := by decide +kernel
theorem d_L_670 : decode code 670 = .ok (.iaload, 1) := by decide +kernel
theorem d_L_671 : decode code 671 = .ok (.invokevirtual 81, 3) := by decide +kernel
theorem d_L_674 : decode code 674 = .ok (.aload_n 2, 1) := by decide +kernel
theorem d_L_675 : decode code 675 = .ok (.aload_n 0, 1) := by decide +kernel
theorem d_L_676 : decode code 676 = .ok (.iload_n 3, 1) := by decide +kernel
theorem d_L_677 : decode code 677 = .ok (.iconst 1, 1) := by decide +kernel
theorem d_L_678 : decode code 678 = .ok (.iadd, 1) := by decide +kernel
theorem d_L_679 : decode code 679 = .ok (.iaload, 1) := by decide +kernel
theorem d_L_680 : decode code 680 = .ok (.aload_n 0, 1) := by decide +kernel
theorem d_L_681 : decode code 681 = .ok (.iload_n 3, 1) := by decide +kernel
theorem d_L_682 : decode code 682 = .ok (.iconst 2, 1) := by decide +kernel
theorem d_L_683 : decode code 683 = .ok (.iadd, 1) := by decide +kernel
theorem d_L_684 : decode code 684 = .ok (.iaload, 1) := by decide +kernel
theorem d_L_685 : decode code 685 = .ok (.invokevirtual 84, 3) := by decide +kernel
theorem d_L_688 : decode code 688 = .ok (.if_icmp .eq (719), 3) := by decide +kernel
theorem d_L_693 : decode code 693 = .ok (.aload_n 1, 1) := by decide +kernel
theorem d_L_694 : decode code 694 = .ok (.aload_n 0, 1) := by decide +kernel
theorem d_L_695 : decode code 695 = .ok (.iload_n 3, 1) := by decide +kernel
theorem d_L_696 : decode code 696 = .ok (.iconst 1, 1) := by decide +kernel
theorem d_L_697 : decode code 697 = .ok (.iadd, 1) := by decide +kernel
theorem d_L_698 : decode code 698 = .ok (.iaload, 1) := by decide +kernel
theorem d_L_699 : decode code 699 = .ok (.aload_n 0, 1) := by decide +kernel
theorem d_L_700 : decode code 700 = .ok (.iload_n 3, 1) := by decide +kernel
theorem d_L_701 : decode code 701 = .ok (.iconst 2, 1) := by decide +kernel
theorem d_L_702 : decode code 702 = .ok (.iadd, 1) := by decide +kernel
theorem d_L_703 : decode code 703 = .ok (.iaload, 1) := by decide +kernel
theorem d_L_704 : decode code 704 = .ok (.invokevirtual 85, 3) := by decide +kernel
theorem d_L_707 : decode code 707 = .ok (.aload_n 2, 1) := by decide +kernel
theorem d_L_708 : decode code 708 = .ok (.aload_n 0, 1) := by decide +kernel
theorem d_L_709 : decode code 709 = .ok (.iload_n 3, 1) := by decide +kernel
theorem d_L_710 : decode code 710 = .ok (.iconst 1, 1) := by decide +kernel
theorem d_L_711 : decode code 711 = .ok (.iadd, 1) := by decide +kernel
theorem d_L_712 : decode code 712 = .ok (.iaload, 1) := by decide +kernel
theorem d_L_713 : decode code 713 = .ok (.aload_n 0, 1) := by decide +kernel
theorem d_L_714 : decode code 714 = .ok (.iload_n 3, 1) := by decide +kernel
theorem d_L_715 : decode code 715 = .ok (.iconst 2, 1) := by decide +kernel
theorem d_L_716 : decode code 716 = .ok (.iadd, 1) := by decide +kernel
theorem d_L_717 : decode code 717 = .ok (.iaload, 1) := by decide +kernel
theorem d_L_718 : decode code 718 = .ok (.invokevirtual 88, 3) := by decide +kernel
theorem d_L_721 : decode code 721 = .ok (.if_icmp .eq (686), 3) := by decide +kernel
theorem d_L_726 : decode code 726 = .ok (.aload_n 1, 1) := by decide +kernel
theorem d_L_727 : decode code 727 = .ok (.aload_n 0, 1) := by decide +kernel
theorem d_L_728 : decode code 728 = .ok (.iload_n 3, 1) := by decide +kernel
theorem d_L_729 : decode code 729 = .ok (.iconst 1, 1) := by decide +kernel
theorem d_L_730 : decode code 730 = .ok (.iadd, 1) := by decide +kernel
theorem d_L_731 : decode code 731 = .ok (.iaload, 1) := by decide +kernel
theorem d_L_732 : decode code 732 = .ok (.invokevirtual 89, 3) := by decide +kernel
theorem d_L_735 : decode code 735 = .ok (.aload_n 2, 1) := by decide +kernel
theorem d_L_736 : decode code 736 = .ok (.aload_n 0, 1) := by decide +kernel
theorem d_L_737 : decode code 737 = .ok (.iload_n 3, 1) := by decide +kernel
theorem d_L_738 : decode code 738 = .ok (.iconst 1, 1) := by decide +kernel
theorem d_L_739 : decode code 739 = .ok (.iadd, 1) := by decide +kernel
theorem d_L_740 : decode code 740 = .ok (.iaload, 1) := by decide +kernel
theorem d_L_741 : decode code 741 = .ok (.invokevirtual 92, 3) := by decide +kernel
theorem d_L_744 : decode code 744 = .ok (.if_icmp .eq (663), 3) := by decide +kernel
theorem d_L_749 : decode code 749 = .ok (.aload_n 1, 1) := by decide +kernel
theorem d_L_750 : decode code 750 = .ok (.invokevirtual 93, 3) := by decide +kernel
theorem d_L_753 : decode code 753 = .ok (.aload_n 2, 1) := by decide +kernel
theorem d_L_754 : decode code 754 = .ok (.invokevirtual 96, 3) := by decide +kernel
theorem d_L_757 : decode code 757 = .ok (.if_icmp .eq (650), 3) := by decide +kernel
theorem d_L_762 : decode code 762 = .ok (.aload_n 1, 1) := by decide +kernel
theorem d_L_763 : decode code 763 = .ok (.invokevirtual 97, 3) := by decide +kernel
theorem d_L_766 : decode code 766 = .ok (.aload_n 2, 1) := by decide +kernel
theorem d_L_767 : decode code 767 = .ok (.invokevirtual 100, 3) := by decide +kernel
theorem d_L_770 : decode code 770 = .ok (.if_icmp .eq (637), 3) := by decide +kernel
theorem d_L_775 : decode code 775 = .ok (.aload_n 1, 1) := by decide +kernel
theorem d_L_776 : decode code 776 = .ok (.aload_n 0, 1) := by decide +kernel
theorem d_L_777 : decode code 777 = .ok (.iload_n 3, 1) := by decide +kernel
theorem d_L_778 : decode code 778 = .ok (.iconst 1, 1) := by decide +kernel
theorem d_L_779 : decode code 779 = .ok (.iadd, 1) := by decide +kernel
theorem d_L_780 : decode code 780 = .ok (.iaload, 1) := by decide +kernel
theorem d_L_781 : decode code 781 = .ok (.aload_n 0, 1) := by decide +kernel
theorem d_L_782 : decode code 782 = .ok (.iload_n 3, 1) := by decide +kernel
theorem d_L_783 : decode code 783 = .ok (.iconst 2, 1) := by decide +kernel
theorem d_L_784 : decode code 784 = .ok (.iadd, 1) := by decide +kernel
theorem d_L_785 : decode code 785 = .ok (.iaload, 1) := by decide +kernel
theorem d_L_786 : decode code 786 = .ok (.invokevirtual 101, 3) := by decide +kernel
theorem d_L_789 : decode code 789 = .ok (.aload_n 2, 1) := by decide +kernel
theorem d_L_790 : decode code 790 = .ok (.aload_n 0, 1) := by decide +kernel
theorem d_L_791 : decode code 791 = .ok (.iload_n 3, 1) := by decide +kernel
theorem d_L_792 : decode code 792 = .ok (.iconst 1, 1) := by decide +kernel
theorem d_L_793 : decode code 793 = .ok (.iadd, 1) := by decide +kernel
theorem d_L_794 : decode code 794 = .ok (.iaload, 1) := by decide +kernel
theorem d_L_795 : decode code 795 = .ok (.aload_n 0, 1) := by decide +kernel
theorem d_L_796 : decode code 796 = .ok (.iload_n 3, 1) := by decide +kernel
theorem d_L_797 : decode code 797 = .ok (.iconst 2, 1) := by decide +kernel
theorem d_L_798 : decode code 798 = .ok (.iadd, 1) := by decide +kernel
theorem d_L_799 : decode code 799 = .ok (.iaload, 1) := by decide +kernel
theorem d_L_800 : decode code 800 = .ok (.invokevirtual 104, 3) := by decide +kernel
theorem d_L_803 : decode code 803 = .ok (.if_icmp .eq (604), 3) := by decide +kernel
theorem d_L_808 : decode code 808 = .ok (.aload_n 1, 1) := by decide +kernel
theorem d_L_809 : decode code 809 = .ok (.aload_n 0, 1) := by decide +kernel
theorem d_L_810 : decode code 810 = .ok (.iload_n 3, 1) := by decide +kernel
theorem d_L_811 : decode code 811 = .ok (.iconst 1, 1) := by decide +kernel
theorem d_L_812 : decode code 812 = .ok (.iadd, 1) := by decide +kernel
theorem d_L_813 : decode code 813 = .ok (.iaload, 1) := by decide +kernel
theorem d_L_814 : decode code 814 = .ok (.invokevirtual 105, 3) := by decide +kernel
theorem d_L_817 : decode code 817 = .ok (.aload_n 2, 1) := by decide +kernel
theorem d_L_818 : decode code 818 = .ok (.aload_n 0, 1) := by decide +kernel
theorem d_L_819 : decode code 819 = .ok (.iload_n 3, 1) := by decide +kernel
theorem d_L_820 : decode code 820 = .ok (.iconst 1, 1) := by decide +kernel
theorem d_L_821 : decode code 821 = .ok (.iadd, 1) := by decide +kernel
theorem d_L_822 : decode code 822 = .ok (.iaload, 1) := by decide +kernel
theorem d_L_823 : decode code 823 = .ok (.invokevirtual 108, 3) := by decide +kernel
theorem d_L_826 : decode code 826 = .ok (.if_icmp .eq (581), 3) := by decide +kernel
theorem d_L_831 : decode code 831 = .ok (.aload_n 1, 1) := by decide +kernel
theorem d_L_832 : decode code 832 = .ok (.aload_n 0, 1) := by decide +kernel
theorem d_L_833 : decode code 833 = .ok (.iload_n 3, 1) := by decide +kernel
theorem d_L_834 : decode code 834 = .ok (.iconst 1, 1) := by decide +kernel
theorem d_L_835 : decode code 835 = .ok (.iadd, 1) := by decide +kernel
theorem d_L_836 : decode code 836 = .ok (.iaload, 1) := by decide +kernel
theorem d_L_837 : decode code 837 = .ok (.aload_n 0, 1) := by decide +kernel
theorem d_L_838 : decode code 838 = .ok (.iload_n 3, 1) := by decide +kernel
theorem d_L_839 : decode code 839 = .ok (.iconst 2, 1) := by decide +kernel
theorem d_L_840 : decode code 840 = .ok (.iadd, 1) := by decide +kernel
theorem d_L_841 : decode code 841 = .ok (.iaload, 1) := by decide +kernel
theorem d_L_842 : decode code 842 = .ok (.invokevirtual 109, 3) := by decide +kernel
theorem d_L_845 : decode code 845 = .ok (.aload_n 2, 1) := by decide +kernel
theorem d_L_846 : decode code 846 = .ok (.aload_n 0, 1) := by decide +kernel
theorem d_L_847 : decode code 847 = .ok (.iload_n 3, 1) := by decide +kernel
theorem d_L_848 : decode code 848 = .ok (.iconst 1, 1) := by decide +kernel
theorem d_L_849 : decode code 849 = .ok (.iadd, 1) := by decide +kernel
theorem d_L_850 : decode code 850 = .ok (.iaload, 1) := by decide +kernel
theorem d_L_851 : decode code 851 = .ok (.aload_n 0, 1) := by decide +kernel
theorem d_L_852 : decode code 852 = .ok (.iload_n 3, 1) := by decide +kernel
theorem d_L_853 : decode code 853 = .ok (.iconst 2, 1) := by decide +kernel
theorem d_L_854 : decode code 854 = .ok (.iadd, 1) := by decide +kernel
theorem d_L_855 : decode code 855 = .ok (.iaload, 1) := by decide +kernel
theorem d_L_856 : decode code 856 = .ok (.invokevirtual 112, 3) := by decide +kernel
theorem d_L_859 : decode code 859 = .ok (.if_icmp .eq (548), 3) := by decide +kernel
theorem d_L_864 : decode code 864 = .ok (.aload_n 1, 1) := by decide +kernel
theorem d_L_865 : decode code 865 = .ok (.aload_n 0, 1) := by decide +kernel
theorem d_L_866 : decode code 866 = .ok (.iload_n 3, 1) := by decide +kernel
theorem d_L_867 : decode code 867 = .ok (.iconst 1, 1) := by decide +kernel
theorem d_L_868 : decode code 868 = .ok (.iadd, 1) := by decide +kernel
theorem d_L_869 : decode code 869 = .ok (.iaload, 1) := by decide +kernel
theorem d_L_870 : decode code 870 = .ok (.invokevirtual 113, 3) := by decide +kernel
theorem d_L_873 : decode code 873 = .ok (.aload_n 2, 1) := by decide +kernel
theorem d_L_874 : decode code 874 = .ok (.aload_n 0, 1) := by decide +kernel
theorem d_L_875 : decode code 875 = .ok (.iload_n 3, 1) := by decide +kernel
theorem d_L_876 : decode code 876 = .ok (.iconst 1, 1) := by decide +kernel
theorem d_L_877 : decode code 877 = .ok (.iadd, 1) := by decide +kernel
theorem d_L_878 : decode code 878 = .ok (.iaload, 1) := by decide +kernel
theorem d_L_879 : decode code 879 = .ok (.invokevirtual 116, 3) := by decide +kernel
theorem d_L_882 : decode code 882 = .ok (.if_icmp .eq (525), 3) := by decide +kernel
theorem d_L_887 : decode code 887 = .ok (.aload_n 1, 1) := by decide +kernel
theorem d_L_888 : decode code 888 = .ok (.aload_n 0, 1) := by decide +kernel
theorem d_L_889 : decode code 889 = .ok (.iload_n 3, 1) := by decide +kernel
theorem d_L_890 : decode code 890 = .ok (.iconst 1, 1) := by decide +kernel
theorem d_L_891 : decode code 891 = .ok (.iadd, 1) := by decide +kernel
theorem d_L_892 : decode code 892 = .ok (.iaload, 1) := by decide +kernel
theorem d_L_893 : decode code 893 = .ok (.aload_n 0, 1) := by decide +kernel
theorem d_L_894 : decode code 894 = .ok (.iload_n 3, 1) := by decide +kernel
theorem d_L_895 : decode code 895 = .ok (.iconst 2, 1) := by decide +kernel
theorem d_L_896 : decode code 896 = .ok (.iadd, 1) := by decide +kernel
theorem d_L_897 : decode code 897 = .ok (.iaload, 1) := by decide +kernel
theorem d_L_898 : decode code 898 = .ok (.aload_n 0, 1) := by decide +kernel
theorem d_L_899 : decode code 899 = .ok (.iload_n 3, 1) := by decide +kernel
theorem d_L_900 : decode code 900 = .ok (.iconst 3, 1) := by decide +kernel
theorem d_L_901 : decode code 901 = .ok (.iadd, 1) := by decide +kernel
theorem d_L_902 : decode code 902 = .ok (.iaload, 1) := by decide +kernel
theorem d_L_903 : decode code 903 = .ok (.invokevirtual 117, 3) := by decide +kernel
theorem d_L_906 : decode code 906 = .ok (.aload_n 2, 1) := by decide +kernel
theorem d_L_907 : decode code 907 = .ok (.aload_n 0, 1) := by decide +kernel
theorem d_L_908 : decode code 908 = .ok (.iload_n 3, 1) := by decide +kernel
theorem d_L_909 : decode code 909 = .ok (.iconst 1, 1) := by decide +kernel
theorem d_L_910 : decode code 910 = .ok (.iadd, 1) := by decide +kernel
theorem d_L_911 : decode code 911 = .ok (.iaload, 1) := by decide +kernel
theorem d_L_912 : decode code 912 = .ok (.aload_n 0, 1) := by decide +kernel
theorem d_L_913 : decode code 913 = .ok (.iload_n 3, 1) := by decide +kernel
theorem d_L_914 : decode code 914 = .ok (.iconst 2, 1) := by decide +kernel
theorem d_L_915 : decode code 915 = .ok (.iadd, 1) := by decide +kernel
theorem d_L_916 : decode code 916 = .ok (.iaload, 1) := by decide +kernel
theorem d_L_917 : decode code 917 = .ok (.aload_n 0, 1) := by decide +kernel
theorem d_L_918 : decode code 918 = .ok (.iload_n 3, 1) := by decide +kernel
theorem d_L_919 : decode code 919 = .ok (.iconst 3, 1) := by decide +kernel
theorem d_L_920 : decode code 920 = .ok (.iadd, 1) := by decide +kernel
theorem d_L_921 : decode code 921 = .ok (.iaload, 1) := by decide +kernel
theorem d_L_922 : decode code 922 = .ok (.invokevirtual 120, 3) := by decide +kernel
theorem d_L_925 : decode code 925 = .ok (.if_icmp .eq (482), 3) := by decide +kernel
theorem d_L_930 : decode code 930 = .ok (.aload_n 1, 1) := by decide +kernel
theorem d_L_931 : decode code 931 = .ok (.invokevirtual 121, 3) := by decide +kernel
theorem d_L_934 : decode code 934 = .ok (.aload_n 2, 1) := by decide +kernel
theorem d_L_935 : decode code 935 = .ok (.invokevirtual 124, 3) := by decide +kernel
theorem d_L_938 : decode code 938 = .ok (.if_icmp .eq (469), 3) := by decide +kernel
theorem d_L_943 : decode code 943 = .ok (.aload_n 1, 1) := by decide +kernel
theorem d_L_944 : decode code 944 = .ok (.invokevirtual 125, 3) := by decide +kernel
theorem d_L_947 : decode code 947 = .ok (.aload_n 2, 1) := by decide +kernel
theorem d_L_948 : decode code 948 = .ok (.invokevirtual 128, 3) := by decide +kernel
theorem d_L_951 : decode code 951 = .ok (.if_icmp .eq (456), 3) := by decide +kernel
theorem d_L_956 : decode code 956 = .ok (.aload_n 1, 1) := by decide +kernel
theorem d_L_957 : decode code 957 = .ok (.aload_n 0, 1) := by decide +kernel
theorem d_L_958 : decode code 958 = .ok (.iload_n 3, 1) := by decide +kernel
theorem d_L_959 : decode code 959 = .ok (.iconst 1, 1) := by decide +kernel
theorem d_L_960 : decode code 960 = .ok (.iadd, 1) := by decide +kernel
theorem d_L_961 : decode code 961 = .ok (.iaload, 1) := by decide +kernel
theorem d_L_962 : decode code 962 = .ok (.invokevirtual 129, 3) := by decide +kernel
theorem d_L_965 : decode code 965 = .ok (.aload_n 2, 1) := by decide +kernel
theorem d_L_966 : decode code 966 = .ok (.aload_n 0, 1) := by decide +kernel
theorem d_L_967 : decode code 967 = .ok (.iload_n 3, 1) := by decide +kernel
theorem d_L_968 : decode code 968 = .ok (.iconst 1, 1) := by decide +kernel
theorem d_L_969 : decode code 969 = .ok (.iadd, 1) := by decide +kernel
theorem d_L_970 : decode code 970 = .ok (.iaload, 1) := by decide +kernel
theorem d_L_971 : decode code 971 = .ok (.invokevirtual 132, 3) := by decide +kernel
theorem d_L_974 : decode code 974 = .ok (.if_icmp .eq (433), 3) := by decide +kernel
theorem d_L_979 : decode code 979 = .ok (.aload_n 1, 1) := by decide +kernel
theorem d_L_980 : decode code 980 = .ok (.aload_n 0, 1) := by decide +kernel
theorem d_L_981 : decode code 981 = .ok (.iload_n 3, 1) := by decide +kernel
theorem d_L_982 : decode code 982 = .ok (.iconst 1, 1) := by decide +kernel
theorem d_L_983 : decode code 983 = .ok (.iadd, 1) := by decide +kernel
theorem d_L_984 : decode code 984 = .ok (.iaload, 1) := by decide +kernel
theorem d_L_985 : decode code 985 = .ok (.invokevirtual 133, 3) := by decide +kernel
theorem d_L_988 : decode code 988 = .ok (.aload_n 2, 1) := by decide +kernel
theorem d_L_989 : decode code 989 = .ok (.aload_n 0, 1) := by decide +kernel
theorem d_L_990 : decode code 990 = .ok (.iload_n 3, 1) := by decide +kernel
theorem d_L_991 : decode code 991 = .ok (.iconst 1, 1) := by decide +kernel
theorem d_L_992 : decode code 992 = .ok (.iadd, 1) := by decide +kernel
theorem d_L_993 : decode code 993 = .ok (.iaload, 1) := by decide +kernel
theorem d_L_994 : decode code 994 = .ok (.invokevirtual 136, 3) := by decide +kernel
theorem d_L_997 : decode code 997 = .ok (.if_icmp .eq (410), 3) := by decide +kernel
theorem d_L_1002 : decode code 1002 = .ok (.aload_n 1, 1) := by decide +kernel
theorem d_L_1003 : decode code 1003 = .ok (.aload_n 0, 1) := by decide +kernel
theorem d_L_1004 : decode code 1004 = .ok (.iload_n 3, 1) := by decide +kernel
theorem d_L_1005 : decode code 1005 = .ok (.iconst 1, 1) := by decide +kernel
theorem d_L_1006 : decode code 1006 = .ok (.iadd, 1) := by decide +kernel
theorem d_L_1007 : decode code 1007 = .ok (.iaload, 1) := by decide +kernel
theorem d_L_1008 : decode code 1008 = .ok (.invokevirtual 137, 3) := by decide +kernel
theorem d_L_1011 : decode code 1011 = .ok (.aload_n 2, 1) := by decide +kernel
theorem d_L_1012 : decode code 1012 = .ok (.aload_n 0, 1) := by decide +kernel
theorem d_L_1013 : decode code 1013 = .ok (.iload_n 3, 1) := by decide +kernel
theorem d_L_1014 : decode code 1014 = .ok (.iconst 1, 1) := by decide +kernel
theorem d_L_1015 : decode code 1015 = .ok (.iadd, 1) := by decide +kernel
theorem d_L_1016 : decode code 1016 = .ok (.iaload, 1) := by decide +kernel
theorem d_L_1017 : decode code 1017 = .ok (.invokevirtual 140, 3) := by decide +kernel
theorem d_L_1020 : decode code 1020 = .ok (.if_icmp .eq (387), 3) := by decide +kernel
theorem d_L_1025 : decode code 1025 = .ok (.aload_n 1, 1) := by decide +kernel
theorem d_L_1026 : decode code 1026 = .ok (.aload_n 0, 1) := by decide +kernel
theorem d_L_1027 : decode code 1027 = .ok (.iload_n 3, 1) := by decide +kernel
theorem d_L_1028 : decode code 1028 = .ok (.iconst 1, 1) := by decide +kernel
theorem d_L_1029 : decode code 1029 = .ok (.iadd, 1) := by decide +kernel
theorem d_L_1030 : decode code 1030 = .ok (.iaload, 1) := by decide +kernel
theorem d_L_1031 : decode code 1031 = .ok (.aload_n 0, 1) := by decide +kernel
theorem d_L_1032 : decode code 1032 = .ok (.iload_n 3, 1) := by decide +kernel
theorem d_L_1033 : decode code 1033 = .ok (.iconst 2, 1) := by decide +kernel
theorem d_L_1034 : decode code 1034 = .ok (.iadd, 1) := by decide +kernel
theorem d_L_1035 : decode code 1035 = .ok (.iaload, 1) := by decide +kernel
theorem d_L_1036 : decode code 1036 = .ok (.aload_n 0, 1) := by decide +kernel
theorem d_L_1037 : decode code 1037 = .ok (.iload_n 3, 1) := by decide +kernel
theorem d_L_1038 : decode code 1038 = .ok (.iconst 3, 1) := by decide +kernel
theorem d_L_1039 : decode code 1039 = .ok (.iadd, 1) := by decide +kernel
theorem d_L_1040 : decode code 1040 = .ok (.iaload, 1) := by decide +kernel
theorem d_L_1041 : decode code 1041 = .ok (.invokevirtual 141, 3) := by decide +kernel
theorem d_L_1044 : decode code 1044 = .ok (.aload_n 2, 1) := by decide +kernel
theorem d_L_1045 : decode code 1045 = .ok (.aload_n 0, 1) := by decide +kernel
theorem d_L_1046 : decode code 1046 = .ok (.iload_n 3, 1) := by decide +kernel
theorem d_L_1047 : decode code 1047 = .ok (.iconst 1, 1) := by decide +kernel
theorem d_L_1048 : decode code 1048 = .ok (.iadd, 1) := by decide +kernel
theorem d_L_1049 : decode code 1049 = .ok (.iaload, 1) := by decide +kernel
theorem d_L_1050 : decode code 1050 = .ok (.aload_n 0, 1) := by decide +kernel
theorem d_L_1051 : decode code 1051 = .ok (.iload_n 3, 1) := by decide +kernel
theorem d_L_1052 : decode code 1052 = .ok (.iconst 2, 1) := by decide +kernel
theorem d_L_1053 : decode code 1053 = .ok (.iadd, 1) := by decide +kernel
theorem d_L_1054 : decode code 1054 = .ok (.iaload, 1) := by decide +kernel
theorem d_L_1055 : decode code 1055 = .ok (.aload_n 0, 1) := by decide +kernel
theorem d_L_1056 : decode code 1056 = .ok (.iload_n 3, 1) := by decide +kernel
theorem d_L_1057 : decode code 1057 = .ok (.iconst 3, 1) := by decide +kernel
theorem d_L_1058 : decode code 1058 = .ok (.iadd, 1) := by decide +kernel
theorem d_L_1059 : decode code 1059 = .ok (.iaload, 1) := by decide +kernel
theorem d_L_1060 : decode code 1060 = .ok (.invokevirtual 145, 3) := by decide +kernel
theorem d_L_1063 : decode code 1063 = .ok (.lcmp, 1) := by decide +kernel
theorem d_L_1064 : decode code 1064 = .ok (.ifCond .eq (343), 3) := by decide +kernel
theorem d_L_1069 : decode code 1069 = .ok (.aload_n 1, 1) := by decide +kernel
theorem d_L_1070 : decode code 1070 = .ok (.aload_n 0, 1) := by decide +kernel
theorem d_L_1071 : decode code 1071 = .ok (.iload_n 3, 1) := by decide +kernel
theorem d_L_1072 : decode code 1072 = .ok (.iconst 1, 1) := by decide +kernel
theorem d_L_1073 : decode code 1073 = .ok (.iadd, 1) := by decide +kernel
theorem d_L_1074 : decode code 1074 = .ok (.iaload, 1) := by decide +kernel
theorem d_L_1075 : decode code 1075 = .ok (.aload_n 0, 1) := by decide +kernel
theorem d_L_1076 : decode code 1076 = .ok (.iload_n 3, 1) := by decide +kernel
theorem d_L_1077 : decode code 1077 = .ok (.iconst 2, 1) := by decide +kernel
theorem d_L_1078 : decode code 1078 = .ok (.iadd, 1) := by decide +kernel
theorem d_L_1079 : decode code 1079 = .ok (.iaload, 1) := by decide +kernel
theorem d_L_1080 : decode code 1080 = .ok (.aload_n 0, 1) := by decide +kernel
theorem d_L_1081 : decode code 1081 = .ok (.iload_n 3, 1) := by decide +kernel
theorem d_L_1082 : decode code 1082 = .ok (.iconst 3, 1) := by decide +kernel
theorem d_L_1083 : decode code 1083 = .ok (.iadd, 1) := by decide +kernel
theorem d_L_1084 : decode code 1084 = .ok (.iaload, 1) := by decide +kernel
theorem d_L_1085 : decode code 1085 = .ok (.invokevirtual 146, 3) := by decide +kernel
theorem d_L_1088 : decode code 1088 = .ok (.aload_n 2, 1) := by decide +kernel
theorem d_L_1089 : decode code 1089 = .ok (.aload_n 0, 1) := by decide +kernel
theorem d_L_1090 : decode code 1090 = .ok (.iload_n 3, 1) := by decide +kernel
theorem d_L_1091 : decode code 1091 = .ok (.iconst 1, 1) := by decide +kernel
theorem d_L_1092 : decode code 1092 = .ok (.iadd, 1) := by decide +kernel
theorem d_L_1093 : decode code 1093 = .ok (.iaload, 1) := by decide +kernel
theorem d_L_1094 : decode code 1094 = .ok (.aload_n 0, 1) := by decide +kernel
theorem d_L_1095 : decode code 1095 = .ok (.iload_n 3, 1) := by decide +kernel
theorem d_L_1096 : decode code 1096 = .ok (.iconst 2, 1) := by decide +kernel
theorem d_L_1097 : decode code 1097 = .ok (.iadd, 1) := by decide +kernel
theorem d_L_1098 : decode code 1098 = .ok (.iaload, 1) := by decide +kernel
theorem d_L_1099 : decode code 1099 = .ok (.aload_n 0, 1) := by decide +kernel
theorem d_L_1100 : decode code 1100 = .ok (.iload_n 3, 1) := by decide +kernel
theorem d_L_1101 : decode code 1101 = .ok (.iconst 3, 1) := by decide +kernel
theorem d_L_1102 : decode code 1102 = .ok (.iadd, 1) := by decide +kernel
theorem d_L_1103 : decode code 1103 = .ok (.iaload, 1) := by decide +kernel
theorem d_L_1104 : decode code 1104 = .ok (.invokevirtual 149, 3) := by decide +kernel
theorem d_L_1107 : decode code 1107 = .ok (.if_icmp .eq (300), 3) := by decide +kernel
theorem d_L_1112 : decode code 1112 = .ok (.aload_n 1, 1) := by decide +kernel
theorem d_L_1113 : decode code 1113 = .ok (.aload_n 0, 1) := by decide +kernel
theorem d_L_1114 : decode code 1114 = .ok (.iload_n 3, 1) := by decide +kernel
theorem d_L_1115 : decode code 1115 = .ok (.iconst 1, 1) := by decide +kernel
theorem d_L_1116 : decode code 1116 = .ok (.iadd, 1) := by decide +kernel
theorem d_L_1117 : decode code 1117 = .ok (.iaload, 1) := by decide +kernel
theorem d_L_1118 : decode code 1118 = .ok (.aload_n 0, 1) := by decide +kernel
theorem d_L_1119 : decode code 1119 = .ok (.iload_n 3, 1) := by decide +kernel
theorem d_L_1120 : decode code 1120 = .ok (.iconst 2, 1) := by decide +kernel
theorem d_L_1121 : decode code 1121 = .ok (.iadd, 1) := by decide +kernel
theorem d_L_1122 : decode code 1122 = .ok (.iaload, 1) := by decide +kernel
theorem d_L_1123 : decode code 1123 = .ok (.aload_n 0, 1) := by decide +kernel
theorem d_L_1124 : decode code 1124 = .ok (.iload_n 3, 1) := by decide +kernel
theorem d_L_1125 : decode code 1125 = .ok (.iconst 3, 1) := by decide +kernel
theorem d_L_1126 : decode code 1126 = .ok (.iadd, 1) := by decide +kernel
theorem d_L_1127 : decode code 1127 = .ok (.iaload, 1) := by decide +kernel
theorem d_L_1128 : decode code 1128 = .ok (.invokevirtual 150, 3) := by decide +kernel
theorem d_L_1131 : decode code 1131 = .ok (.aload_n 2, 1) := by decide +kernel
theorem d_L_1132 : decode code 1132 = .ok (.aload_n 0, 1) := by decide +kernel
theorem d_L_1133 : decode code 1133 = .ok (.iload_n 3, 1) := by decide +kernel
theorem d_L_1134 : decode code 1134 = .ok (.iconst 1, 1) := by decide +kernel
theorem d_L_1135 : decode code 1135 = .ok (.iadd, 1) := by decide +kernel
theorem d_L_1136 : decode code 1136 = .ok (.iaload, 1) := by decide +kernel
theorem d_L_1137 : decode code 1137 = .ok (.aload_n 0, 1) := by decide +kernel
theorem d_L_1138 : decode code 1138 = .ok (.iload_n 3, 1) := by decide +kernel
theorem d_L_1139 : decode code 1139 = .ok (.iconst 2, 1) := by decide +kernel
theorem d_L_1140 : decode code 1140 = .ok (.iadd, 1) := by decide +kernel
theorem d_L_1141 : decode code 1141 = .ok (.iaload, 1) := by decide +kernel
theorem d_L_1142 : decode code 1142 = .ok (.aload_n 0, 1) := by decide +kernel
theorem d_L_1143 : decode code 1143 = .ok (.iload_n 3, 1) := by decide +kernel
theorem d_L_1144 : decode code 1144 = .ok (.iconst 3, 1) := by decide +kernel
theorem d_L_1145 : decode code 1145 = .ok (.iadd, 1) := by decide +kernel
theorem d_L_1146 : decode code 1146 = .ok (.iaload, 1) := by decide +kernel
theorem d_L_1147 : decode code 1147 = .ok (.invokevirtual 153, 3) := by decide +kernel
theorem d_L_1150 : decode code 1150 = .ok (.if_icmp .eq (257), 3) := by decide +kernel
theorem d_L_1155 : decode code 1155 = .ok (.aload_n 1, 1) := by decide +kernel
theorem d_L_1156 : decode code 1156 = .ok (.aload_n 0, 1) := by decide +kernel
theorem d_L_1157 : decode code 1157 = .ok (.iload_n 3, 1) := by decide +kernel
theorem d_L_1158 : decode code 1158 = .ok (.iconst 1, 1) := by decide +kernel
theorem d_L_1159 : decode code 1159 = .ok (.iadd, 1) := by decide +kernel
theorem d_L_1160 : decode code 1160 = .ok (.iaload, 1) := by decide +kernel
theorem d_L_1161 : decode code 1161 = .ok (.invokevirtual 154, 3) := by decide +kernel
theorem d_L_1164 : decode code 1164 = .ok (.aload_n 2, 1) := by decide +kernel
theorem d_L_1165 : decode code 1165 = .ok (.aload_n 0, 1) := by decide +kernel
theorem d_L_1166 : decode code 1166 = .ok (.iload_n 3, 1) := by decide +kernel
theorem d_L_1167 : decode code 1167 = .ok (.iconst 1, 1) := by decide +kernel
theorem d_L_1168 : decode code 1168 = .ok (.iadd, 1) := by decide +kernel
theorem d_L_1169 : decode code 1169 = .ok (.iaload, 1) := by decide +kernel
theorem d_L_1170 : decode code 1170 = .ok (.invokevirtual 157, 3) := by decide +kernel
theorem d_L_1173 : decode code 1173 = .ok (.if_icmp .eq (234), 3) := by decide +kernel
theorem d_L_1178 : decode code 1178 = .ok (.aload_n 1, 1) := by decide +kernel
theorem d_L_1179 : decode code 1179 = .ok (.aload_n 0, 1) := by decide +kernel
theorem d_L_1180 : decode code 1180 = .ok (.iload_n 3, 1) := by decide +kernel
theorem d_L_1181 : decode code 1181 = .ok (.iconst 1, 1) := by decide +kernel
theorem d_L_1182 : decode code 1182 = .ok (.iadd, 1) := by decide +kernel
theorem d_L_1183 : decode code 1183 = .ok (.iaload, 1) := by decide +kernel
theorem d_L_1184 : decode code 1184 = .ok (.aload_n 0, 1) := by decide +kernel
theorem d_L_1185 : decode code 1185 = .ok (.iload_n 3, 1) := by decide +kernel
theorem d_L_1186 : decode code 1186 = .ok (.iconst 2, 1) := by decide +kernel
theorem d_L_1187 : decode code 1187 = .ok (.iadd, 1) := by decide +kernel
theorem d_L_1188 : decode code 1188 = .ok (.iaload, 1) := by decide +kernel
theorem d_L_1189 : decode code 1189 = .ok (.aload_n 0, 1) := by decide +kernel
theorem d_L_1190 : decode code 1190 = .ok (.iload_n 3, 1) := by decide +kernel
theorem d_L_1191 : decode code 1191 = .ok (.iconst 3, 1) := by decide +kernel
theorem d_L_1192 : decode code 1192 = .ok (.iadd, 1) := by decide +kernel
theorem d_L_1193 : decode code 1193 = .ok (.iaload, 1) := by decide +kernel
theorem d_L_1194 : decode code 1194 = .ok (.aload_n 0, 1) := by decide +kernel
theorem d_L_1195 : decode code 1195 = .ok (.iload_n 3, 1) := by decide +kernel
theorem d_L_1196 : decode code 1196 = .ok (.iconst 4, 1) := by decide +kernel
theorem d_L_1197 : decode code 1197 = .ok (.iadd, 1) := by decide +kernel
theorem d_L_1198 : decode code 1198 = .ok (.iaload, 1) := by decide +kernel
theorem d_L_1199 : decode code 1199 = .ok (.invokevirtual 158, 3) := by decide +kernel
theorem d_L_1202 : decode code 1202 = .ok (.aload_n 2, 1) := by decide +kernel
theorem d_L_1203 : decode code 1203 = .ok (.aload_n 0, 1) := by decide +kernel
theorem d_L_1204 : decode code 1204 = .ok (.iload_n 3, 1) := by decide +kernel
theorem d_L_1205 : decode code 1205 = .ok (.iconst 1, 1) := by decide +kernel
theorem d_L_1206 : decode code 1206 = .ok (.iadd, 1) := by decide +kernel
theorem d_L_1207 : decode code 1207 = .ok (.iaload, 1) := by decide +kernel
theorem d_L_1208 : decode code 1208 = .ok (.aload_n 0, 1) := by decide +kernel
theorem d_L_1209 : decode code 1209 = .ok (.iload_n 3, 1) := by decide +kernel
theorem d_L_1210 : decode code 1210 = .ok (.iconst 2, 1) := by decide +kernel
theorem d_L_1211 : decode code 1211 = .ok (.iadd, 1) := by decide +kernel
theorem d_L_1212 : decode code 1212 = .ok (.iaload, 1) := by decide +kernel
theorem d_L_1213 : decode code 1213 = .ok (.aload_n 0, 1) := by decide +kernel
theorem d_L_1214 : decode code 1214 = .ok (.iload_n 3, 1) := by decide +kernel
theorem d_L_1215 : decode code 1215 = .ok (.iconst 3, 1) := by decide +kernel
theorem d_L_1216 : decode code 1216 = .ok (.iadd, 1) := by decide +kernel
theorem d_L_1217 : decode code 1217 = .ok (.iaload, 1) := by decide +kernel
theorem d_L_1218 : decode code 1218 = .ok (.aload_n 0, 1) := by decide +kernel
theorem d_L_1219 : decode code 1219 = .ok (.iload_n 3, 1) := by decide +kernel
theorem d_L_1220 : decode code 1220 = .ok (.iconst 4, 1) := by decide +kernel
theorem d_L_1221 : decode code 1221 = .ok (.iadd, 1) := by decide +kernel
theorem d_L_1222 : decode code 1222 = .ok (.iaload, 1) := by decide +kernel
theorem d_L_1223 : decode code 1223 = .ok (.invokevirtual 162, 3) := by decide +kernel
theorem d_L_1226 : decode code 1226 = .ok (.if_icmp .eq (181), 3) := by decide +kernel
theorem d_L_1231 : decode code 1231 = .ok (.aload_n 1, 1) := by decide +kernel
theorem d_L_1232 : decode code 1232 = .ok (.aload_n 0, 1) := by decide +kernel
theorem d_L_1233 : decode code 1233 = .ok (.iload_n 3, 1) := by decide +kernel
theorem d_L_1234 : decode code 1234 = .ok (.iconst 1, 1) := by decide +kernel
theorem d_L_1235 : decode code 1235 = .ok (.iadd, 1) := by decide +kernel
theorem d_L_1236 : decode code 1236 = .ok (.iaload, 1) := by decide +kernel
theorem d_L_1237 : decode code 1237 = .ok (.aload_n 0, 1) := by decide +kernel
theorem d_L_1238 : decode code 1238 = .ok (.iload_n 3, 1) := by decide +kernel
theorem d_L_1239 : decode code 1239 = .ok (.iconst 2, 1) := by decide +kernel
theorem d_L_1240 : decode code 1240 = .ok (.iadd, 1) := by decide +kernel
theorem d_L_1241 : decode code 1241 = .ok (.iaload, 1) := by decide +kernel
theorem d_L_1242 : decode code 1242 = .ok (.aload_n 0, 1) := by decide +kernel
theorem d_L_1243 : decode code 1243 = .ok (.iload_n 3, 1) := by decide +kernel
theorem d_L_1244 : decode code 1244 = .ok (.iconst 3, 1) := by decide +kernel
theorem d_L_1245 : decode code 1245 = .ok (.iadd, 1) := by decide +kernel
theorem d_L_1246 : decode code 1246 = .ok (.iaload, 1) := by decide +kernel
theorem d_L_1247 : decode code 1247 = .ok (.invokevirtual 163, 3) := by decide +kernel
theorem d_L_1250 : decode code 1250 = .ok (.aload_n 2, 1) := by decide +kernel
theorem d_L_1251 : decode code 1251 = .ok (.aload_n 0, 1) := by decide +kernel
theorem d_L_1252 : decode code 1252 = .ok (.iload_n 3, 1) := by decide +kernel
theorem d_L_1253 : decode code 1253 = .ok (.iconst 1, 1) := by decide +kernel
theorem d_L_1254 : decode code 1254 = .ok (.iadd, 1) := by decide +kernel
theorem d_L_1255 : decode code 1255 = .ok (.iaload, 1) := by decide +kernel
theorem d_L_1256 : decode code 1256 = .ok (.aload_n 0, 1) := by decide +kernel
theorem d_L_1257 : decode code 1257 = .ok (.iload_n 3, 1) := by decide +kernel
theorem d_L_1258 : decode code 1258 = .ok (.iconst 2, 1) := by decide +kernel
theorem d_L_1259 : decode code 1259 = .ok (.iadd, 1) := by decide +kernel
theorem d_L_1260 : decode code 1260 = .ok (.iaload, 1) := by decide +kernel
theorem d_L_1261 : decode code 1261 = .ok (.aload_n 0, 1) := by decide +kernel
theorem d_L_1262 : decode code 1262 = .ok (.iload_n 3, 1) := by decide +kernel
theorem d_L_1263 : decode code 1263 = .ok (.iconst 3, 1) := by decide +kernel
theorem d_L_1264 : decode code 1264 = .ok (.iadd, 1) := by decide +kernel
theorem d_L_1265 : decode code 1265 = .ok (.iaload, 1) := by decide +kernel
theorem d_L_1266 : decode code 1266 = .ok (.invokevirtual 166, 3) := by decide +kernel
theorem d_L_1269 : decode code 1269 = .ok (.if_icmp .eq (138), 3) := by decide +kernel
theorem d_L_1274 : decode code 1274 = .ok (.aload_n 1, 1) := by decide +kernel
theorem d_L_1275 : decode code 1275 = .ok (.aload_n 0, 1) := by decide +kernel
theorem d_L_1276 : decode code 1276 = .ok (.iload_n 3, 1) := by decide +kernel
theorem d_L_1277 : decode code 1277 = .ok (.iconst 1, 1) := by decide +kernel
theorem d_L_1278 : decode code 1278 = .ok (.iadd, 1) := by decide +kernel
theorem d_L_1279 : decode code 1279 = .ok (.iaload, 1) := by decide +kernel
theorem d_L_1280 : decode code 1280 = .ok (.aload_n 0, 1) := by decide +kernel
theorem d_L_1281 : decode code 1281 = .ok (.iload_n 3, 1) := by decide +kernel
theorem d_L_1282 : decode code 1282 = .ok (.iconst 2, 1) := by decide +kernel
theorem d_L_1283 : decode code 1283 = .ok (.iadd, 1) := by decide +kernel
theorem d_L_1284 : decode code 1284 = .ok (.iaload, 1) := by decide +kernel
theorem d_L_1285 : decode code 1285 = .ok (.aload_n 0, 1) := by decide +kernel
theorem d_L_1286 : decode code 1286 = .ok (.iload_n 3, 1) := by decide +kernel
theorem d_L_1287 : decode code 1287 = .ok (.iconst 3, 1) := by decide +kernel
theorem d_L_1288 : decode code 1288 = .ok (.iadd, 1) := by decide +kernel
theorem d_L_1289 : decode code 1289 = .ok (.iaload, 1) := by decide +kernel
theorem d_L_1290 : decode code 1290 = .ok (.aload_n 0, 1) := by decide +kernel
theorem d_L_1291 : decode code 1291 = .ok (.iload_n 3, 1) := by decide +kernel
theorem d_L_1292 : decode code 1292 = .ok (.iconst 4, 1) := by decide +kernel
theorem d_L_1293 : decode code 1293 = .ok (.iadd, 1) := by decide +kernel
theorem d_L_1294 : decode code 1294 = .ok (.iaload, 1) := by decide +kernel
theorem d_L_1295 : decode code 1295 = .ok (.aload_n 0, 1) := by decide +kernel
theorem d_L_1296 : decode code 1296 = .ok (.iload_n 3, 1) := by decide +kernel
theorem d_L_1297 : decode code 1297 = .ok (.iconst 5, 1) := by decide +kernel
theorem d_L_1298 : decode code 1298 = .ok (.iadd, 1) := by decide +kernel
theorem d_L_1299 : decode code 1299 = .ok (.iaload, 1) := by decide +kernel
theorem d_L_1300 : decode code 1300 = .ok (.invokevirtual 167, 3) := by decide +kernel
theorem d_L_1303 : decode code 1303 = .ok (.aload_n 2, 1) := by decide +kernel
theorem d_L_1304 : decode code 1304 = .ok (.aload_n 0, 1) := by decide +kernel
theorem d_L_1305 : decode code 1305 = .ok (.iload_n 3, 1) := by decide +kernel
theorem d_L_1306 : decode code 1306 = .ok (.iconst 1, 1) := by decide +kernel
theorem d_L_1307 : decode code 1307 = .ok (.iadd, 1) := by decide +kernel
theorem d_L_1308 : decode code 1308 = .ok (.iaload, 1) := by decide +kernel
theorem d_L_1309 : decode code 1309 = .ok (.aload_n 0, 1) := by decide +kernel
theorem d_L_1310 : decode code 1310 = .ok (.iload_n 3, 1) := by decide +kernel
theorem d_L_1311 : decode code 1311 = .ok (.iconst 2, 1) := by decide +kernel
theorem d_L_1312 : decode code 1312 = .ok (.iadd, 1) := by decide +kernel
theorem d_L_1313 : decode code 1313 = .ok (.iaload, 1) := by decide +kernel
theorem d_L_1314 : decode code 1314 = .ok (.aload_n 0, 1) := by decide +kernel
theorem d_L_1315 : decode code 1315 = .ok (.iload_n 3, 1) := by decide +kernel
theorem d_L_1316 : decode code 1316 = .ok (.iconst 3, 1) := by decide +kernel
theorem d_L_1317 : decode code 1317 = .ok (.iadd, 1) := by decide +kernel
theorem d_L_1318 : decode code 1318 = .ok (.iaload, 1) := by decide +kernel
theorem d_L_1319 : decode code 1319 = .ok (.aload_n 0, 1) := by decide +kernel
theorem d_L_1320 : decode code 1320 = .ok (.iload_n 3, 1) := by decide +kernel
theorem d_L_1321 : decode code 1321 = .ok (.iconst 4, 1) := by decide +kernel
theorem d_L_1322 : decode code 1322 = .ok (.iadd, 1) := by decide +kernel
theorem d_L_1323 : decode code 1323 = .ok (.iaload, 1) := by decide +kernel
theorem d_L_1324 : decode code 1324 = .ok (.aload_n 0, 1) := by decide +kernel
theorem d_L_1325 : decode code 1325 = .ok (.iload_n 3, 1) := by decide +kernel
theorem d_L_1326 : decode code 1326 = .ok (.iconst 5, 1) := by decide +kernel
theorem d_L_1327 : decode code 1327 = .ok (.iadd, 1) := by decide +kernel
theorem d_L_1328 : decode code 1328 = .ok (.iaload, 1) := by decide +kernel
theorem d_L_1329 : decode code 1329 = .ok (.invokevirtual 171, 3) := by decide +kernel
theorem d_L_1332 : decode code 1332 = .ok (.if_icmp .eq (75), 3) := by decide +kernel
theorem d_L_1337 : decode code 1337 = .ok (.aload_n 1, 1) := by decide +kernel
theorem d_L_1338 : decode code 1338 = .ok (.aload_n 0, 1) := by decide +kernel
theorem d_L_1339 : decode code 1339 = .ok (.iload_n 3, 1) := by decide +kernel
theorem d_L_1340 : decode code 1340 = .ok (.iconst 1, 1) := by decide +kernel
theorem d_L_1341 : decode code 1341 = .ok (.iadd, 1) := by decide +kernel
theorem d_L_1342 : decode code 1342 = .ok (.iaload, 1) := by decide +kernel
theorem d_L_1343 : decode code 1343 = .ok (.aload_n 0, 1) := by decide +kernel
theorem d_L_1344 : decode code 1344 = .ok (.iload_n 3, 1) := by decide +kernel
theorem d_L_1345 : decode code 1345 = .ok (.iconst 2, 1) := by decide +kernel
theorem d_L_1346 : decode code 1346 = .ok (.iadd, 1) := by decide +kernel
theorem d_L_1347 : decode code 1347 = .ok (.iaload, 1) := by decide +kernel
theorem d_L_1348 : decode code 1348 = .ok (.invokevirtual 172, 3) := by decide +kernel
theorem d_L_1351 : decode code 1351 = .ok (.aload_n 2, 1) := by decide +kernel
theorem d_L_1352 : decode code 1352 = .ok (.aload_n 0, 1) := by decide +kernel
theorem d_L_1353 : decode code 1353 = .ok (.iload_n 3, 1) := by decide +kernel
theorem d_L_1354 : decode code 1354 = .ok (.iconst 1, 1) := by decide +kernel
theorem d_L_1355 : decode code 1355 = .ok (.iadd, 1) := by decide +kernel
theorem d_L_1356 : decode code 1356 = .ok (.iaload, 1) := by decide +kernel
theorem d_L_1357 : decode code 1357 = .ok (.aload_n 0, 1) := by decide +kernel
theorem d_L_1358 : decode code 1358 = .ok (.iload_n 3, 1) := by decide +kernel
theorem d_L_1359 : decode code 1359 = .ok (.iconst 2, 1) := by decide +kernel
theorem d_L_1360 : decode code 1360 = .ok (.iadd, 1) := by decide +kernel
theorem d_L_1361 : decode code 1361 = .ok (.iaload, 1) := by decide +kernel
theorem d_L_1362 : decode code 1362 = .ok (.invokevirtual 175, 3) := by decide +kernel
theorem d_L_1365 : decode code 1365 = .ok (.if_icmp .eq (42), 3) := by decide +kernel
theorem d_L_1370 : decode code 1370 = .ok (.aload_n 1, 1) := by decide +kernel
theorem d_L_1371 : decode code 1371 = .ok (.aload_n 0, 1) := by decide +kernel
theorem d_L_1372 : decode code 1372 = .ok (.iload_n 3, 1) := by decide +kernel
theorem d_L_1373 : decode code 1373 = .ok (.iconst 1, 1) := by decide +kernel
theorem d_L_1374 : decode code 1374 = .ok (.iadd, 1) := by decide +kernel
theorem d_L_1375 : decode code 1375 = .ok (.iaload, 1) := by decide +kernel
theorem d_L_1376 : decode code 1376 = .ok (.invokevirtual 176, 3) := by decide +kernel
theorem d_L_1379 : decode code 1379 = .ok (.aload_n 2, 1) := by decide +kernel
theorem d_L_1380 : decode code 1380 = .ok (.aload_n 0, 1) := by decide +kernel
theorem d_L_1381 : decode code 1381 = .ok (.iload_n 3, 1) := by decide +kernel
theorem d_L_1382 : decode code 1382 = .ok (.iconst 1, 1) := by decide +kernel
theorem d_L_1383 : decode code 1383 = .ok (.iadd, 1) := by decide +kernel
theorem d_L_1384 : decode code 1384 = .ok (.iaload, 1) := by decide +kernel
theorem d_L_1385 : decode code 1385 = .ok (.invokevirtual 179, 3) := by decide +kernel
theorem d_L_1388 : decode code 1388 = .ok (.if_icmp .eq (19), 3) := by decide +kernel
theorem d_L_1393 : decode code 1393 = .ok (.aload_n 1, 1) := by decide +kernel
theorem d_L_1394 : decode code 1394 = .ok (.invokevirtual 180, 3) := by decide +kernel
theorem d_L_1397 : decode code 1397 = .ok (.aload_n 2, 1) := by decide +kernel
theorem d_L_1398 : decode code 1398 = .ok (.invokevirtual 184, 3) := by decide +kernel
theorem d_L_1401 : decode code 1401 = .ok (.lcmp, 1) := by decide +kernel
theorem d_L_1402 : decode code 1402 = .ok (.ifCond .eq (5), 3) := by decide +kernel
theorem d_L_1407 : decode code 1407 = .ok (.iinc 3 6, 3) := by decide +kernel
theorem d_L_1410 : decode code 1410 = .ok (.goto (-1392), 3) := by decide +kernel
theorem d_L_1413 : decode code 1413 = .ok (.iconst 1, 1) := by decide +kernel
theorem d_L_1414 : decode code 1414 = .ok (.ireturn, 1) := by decide +kernel
theorem l_cmp0 {y : Int64} : lg_cmp y y = 0 := by simp [lg_cmp]
set_option maxHeartbeats 4000000 in
theorem law_0 {Y : LXt} {b L : Nat} {xs : Nat → Int32} {gX gR : GX} {MX MR : Mem} {i3 : Int32} {K : Mem → Mem → Prop} (C : ZLc Y b L xs gX gR) (h1 : vp_in (i3 + 1) L) (h2 : vp_in (i3 + 2) L) (hw : wp_X_type (xs (tn (i3 + 1))) (xs (tn (i3 + 2))) MX (fun r1 MX2 => wp_R_type (xs (tn (i3 + 1))) (xs (tn (i3 + 2))) MR (fun r2 MR2 => r1 = r2 ∧ K MX2 MR2))) (kk : ∀ MX2 MR2, K MX2 MR2 → ZL Y b gX gR MX2 MR2 1407 [(0, .ref b), (1, .ref (ax gX 0)), (2, .ref (ax gR 0)), (3, .int i3)] []) : ZL Y b gX gR MX MR 212 [(0, .ref b), (1, .ref (ax gX 0)), (2, .ref (ax gR 0)), (3, .int i3)] [] := by
  refine l_aload_n C d_L_212 rfl 1 rfl ?_
  refine l_aload_n C d_L_213 rfl 0 rfl ?_
  refine l_iload_n C d_L_214 rfl 3 rfl ?_
  refine l_iconst (v := 1) C d_L_215 (by decide) ?_
  refine l_iadd C d_L_216 ?_
  refine l_sld C h1 d_L_217 ?_
  refine l_aload_n C d_L_218 rfl 0 rfl ?_
  refine l_iload_n C d_L_219 rfl 3 rfl ?_
  refine l_iconst (v := 2) C d_L_220 (by decide) ?_
  refine l_iadd C d_L_221 ?_
  refine l_sld C h2 d_L_222 ?_
  refine l_callXi C (As := [.int (xs (tn (i3 + 1))), .int (xs (tn (i3 + 2)))]) (rest := []) m_X_type tw_247 rfl rfl rfl (c_X_type _ hw) rfl rfl rfl d_L_223 (fun r1 MX2 hw => ?_)
  refine l_aload_n C d_L_226 rfl 2 rfl ?_
  refine l_aload_n C d_L_227 rfl 0 rfl ?_
  refine l_iload_n C d_L_228 rfl 3 rfl ?_
  refine l_iconst (v := 1) C d_L_229 (by decide) ?_
  refine l_iadd C d_L_230 ?_
  refine l_sld C h1 d_L_231 ?_
  refine l_aload_n C d_L_232 rfl 0 rfl ?_
  refine l_iload_n C d_L_233 rfl 3 rfl ?_
  refine l_iconst (v := 2) C d_L_234 (by decide) ?_
  refine l_iadd C d_L_235 ?_
  refine l_sld C h2 d_L_236 ?_
  refine l_callRi C (As := [.int (xs (tn (i3 + 1))), .int (xs (tn (i3 + 2)))]) (rest := [.int r1]) m_R_type tw_818 rfl rfl rfl (c_R_type _ hw) rfl rfl rfl d_L_237 (fun r2 MR2 hw => ?_)
  obtain ⟨he, hw⟩ := hw
  refine l_ic_eq C 1407 d_L_240 (by decide) he ?_
  exact kk _ _ hw
set_option maxHeartbeats 4000000 in
theorem law_1 {Y : LXt} {b L : Nat} {xs : Nat → Int32} {gX gR : GX} {MX MR : Mem} {i3 : Int32} {K : Mem → Mem → Prop} (C : ZLc Y b L xs gX gR) (h1 : vp_in (i3 + 1) L) (hw : wp_X_wipe (xs (tn (i3 + 1))) MX (fun r1 MX2 => wp_R_wipe (xs (tn (i3 + 1))) MR (fun r2 MR2 => r1 = r2 ∧ K MX2 MR2))) (kk : ∀ MX2 MR2, K MX2 MR2 → ZL Y b gX gR MX2 MR2 1407 [(0, .ref b), (1, .ref (ax gX 0)), (2, .ref (ax gR 0)), (3, .int i3)] []) : ZL Y b gX gR MX MR 245 [(0, .ref b), (1, .ref (ax gX 0)), (2, .ref (ax gR 0)), (3, .int i3)] [] := by
  refine l_aload_n C d_L_245 rfl 1 rfl ?_
  refine l_aload_n C d_L_246 rfl 0 rfl ?_
  refine l_iload_n C d_L_247 rfl 3 rfl ?_
  refine l_iconst (v := 1) C d_L_248 (by decide) ?_
  refine l_iadd C d_L_249 ?_
  refine l_sld C h1 d_L_250 ?_
  refine l_callXi C (As := [.int (xs (tn (i3 + 1)))]) (rest := []) m_X_wipe tw_297 rfl rfl rfl (c_X_wipe _ hw) rfl rfl rfl d_L_251 (fun r1 MX2 hw => ?_)
  refine l_aload_n C d_L_254 rfl 2 rfl ?_
  refine l_aload_n C d_L_255 rfl 0 rfl ?_
  refine l_iload_n C d_L_256 rfl 3 rfl ?_
  refine l_iconst (v := 1) C d_L_257 (by decide) ?_
  refine l_iadd C d_L_258 ?_
  refine l_sld C h1 d_L_259 ?_
  refine l_callRi C (As := [.int (xs (tn (i3 + 1)))]) (rest := [.int r1]) m_R_wipe tw_826 rfl rfl rfl (c_R_wipe _ hw) rfl rfl rfl d_L_260 (fun r2 MR2 hw => ?_)
  obtain ⟨he, hw⟩ := hw
  refine l_ic_eq C 1407 d_L_263 (by decide) he ?_
  exact kk _ _ hw
set_option maxHeartbeats 4000000 in
theorem law_2 {Y : LXt} {b L : Nat} {xs : Nat → Int32} {gX gR : GX} {MX MR : Mem} {i3 : Int32} {K : Mem → Mem → Prop} (C : ZLc Y b L xs gX gR) (h1 : vp_in (i3 + 1) L) (hw : wp_X_undo (xs (tn (i3 + 1))) MX (fun r1 MX2 => wp_R_undo (xs (tn (i3 + 1))) MR (fun r2 MR2 => r1 = r2 ∧ K MX2 MR2))) (kk : ∀ MX2 MR2, K MX2 MR2 → ZL Y b gX gR MX2 MR2 1407 [(0, .ref b), (1, .ref (ax gX 0)), (2, .ref (ax gR 0)), (3, .int i3)] []) : ZL Y b gX gR MX MR 268 [(0, .ref b), (1, .ref (ax gX 0)), (2, .ref (ax gR 0)), (3, .int i3)] [] := by
  refine l_aload_n C d_L_268 rfl 1 rfl ?_
  refine l_aload_n C d_L_269 rfl 0 rfl ?_
  refine l_iload_n C d_L_270 rfl 3 rfl ?_
  refine l_iconst (v := 1) C d_L_271 (by decide) ?_
  refine l_iadd C d_L_272 ?_
  refine l_sld C h1 d_L_273 ?_
  refine l_callXi C (As := [.int (xs (tn (i3 + 1)))]) (rest := []) m_X_undo tw_301 rfl rfl rfl (c_X_undo _ hw) rfl rfl rfl d_L_274 (fun r1 MX2 hw => ?_)
  refine l_aload_n C d_L_277 rfl 2 rfl ?_
  refine l_aload_n C d_L_278 rfl 0 rfl ?_
  refine l_iload_n C d_L_279 rfl 3 rfl ?_
  refine l_iconst (v := 1) C d_L_280 (by decide) ?_
  refine l_iadd C d_L_281 ?_
  refine l_sld C h1 d_L_282 ?_
  refine l_callRi C (As := [.int (xs (tn (i3 + 1)))]) (rest := [.int r1]) m_R_undo tw_830 rfl rfl rfl (c_R_undo _ hw) rfl rfl rfl d_L_283 (fun r2 MR2 hw => ?_)
  obtain ⟨he, hw⟩ := hw
  refine l_ic_eq C 1407 d_L_286 (by decide) he ?_
  exact kk _ _ hw
set_option maxHeartbeats 4000000 in
theorem law_3 {Y : LXt} {b L : Nat} {xs : Nat → Int32} {gX gR : GX} {MX MR : Mem} {i3 : Int32} {K : Mem → Mem → Prop} (C : ZLc Y b L xs gX gR) (h1 : vp_in (i3 + 1) L) (hw : wp_X_fault (xs (tn (i3 + 1))) MX (fun r1 => wp_R_fault (xs (tn (i3 + 1))) MR (fun r2 MR2 => r1 = r2 ∧ K MX MR2))) (kk : ∀ MX2 MR2, K MX2 MR2 → ZL Y b gX gR MX2 MR2 1407 [(0, .ref b), (1, .ref (ax gX 0)), (2, .ref (ax gR 0)), (3, .int i3)] []) : ZL Y b gX gR MX MR 291 [(0, .ref b), (1, .ref (ax gX 0)), (2, .ref (ax gR 0)), (3, .int i3)] [] := by
  refine l_aload_n C d_L_291 rfl 1 rfl ?_
  refine l_aload_n C d_L_292 rfl 0 rfl ?_
  refine l_iload_n C d_L_293 rfl 3 rfl ?_
  refine l_iconst (v := 1) C d_L_294 (by decide) ?_
  refine l_iadd C d_L_295 ?_
  refine l_sld C h1 d_L_296 ?_
  refine l_callXi C (As := [.int (xs (tn (i3 + 1)))]) (rest := []) m_X_fault tw_305 rfl rfl rfl (c_X_fault _ hw) rfl rfl rfl d_L_297 (fun r1 M2 hq => ?_)
  obtain ⟨rfl, hw⟩ := hq
  refine l_aload_n C d_L_300 rfl 2 rfl ?_
  refine l_aload_n C d_L_301 rfl 0 rfl ?_
  refine l_iload_n C d_L_302 rfl 3 rfl ?_
  refine l_iconst (v := 1) C d_L_303 (by decide) ?_
  refine l_iadd C d_L_304 ?_
  refine l_sld C h1 d_L_305 ?_
  refine l_callRi C (As := [.int (xs (tn (i3 + 1)))]) (rest := [.int r1]) m_R_fault tw_834 rfl rfl rfl (c_R_fault _ hw) rfl rfl rfl d_L_306 (fun r2 MR2 hw => ?_)
  obtain ⟨he, hw⟩ := hw
  refine l_ic_eq C 1407 d_L_309 (by decide) he ?_
  exact kk _ _ hw
set_option maxHeartbeats 4000000 in
theorem law_4 {Y : LXt} {b L : Nat} {xs : Nat → Int32} {gX gR : GX} {MX MR : Mem} {i3 : Int32} {K : Mem → Mem → Prop} (C : ZLc Y b L xs gX gR) (h1 : vp_in (i3 + 1) L) (hw : wp_X_land (xs (tn (i3 + 1))) MX (fun r1 => wp_R_land (xs (tn (i3 + 1))) MR (fun r2 MR2 => r1 = r2 ∧ K MX MR2))) (kk : ∀ MX2 MR2, K MX2 MR2 → ZL Y b gX gR MX2 MR2 1407 [(0, .ref b), (1, .ref (ax gX 0)), (2, .ref (ax gR 0)), (3, .int i3)] []) : ZL Y b gX gR MX MR 314 [(0, .ref b), (1, .ref (ax gX 0)), (2, .ref (ax gR 0)), (3, .int i3)] [] := by
  refine l_aload_n C d_L_314 rfl 1 rfl ?_
  refine l_aload_n C d_L_315 rfl 0 rfl ?_
  refine l_iload_n C d_L_316 rfl 3 rfl ?_
  refine l_iconst (v := 1) C d_L_317 (by decide) ?_
  refine l_iadd C d_L_318 ?_
  refine l_sld C h1 d_L_319 ?_
  refine l_callXi C (As := [.int (xs (tn (i3 + 1)))]) (rest := []) m_X_land tw_310 rfl rfl rfl (c_X_land _ hw) rfl rfl rfl d_L_320 (fun r1 M2 hq => ?_)
  obtain ⟨rfl, hw⟩ := hq
  refine l_aload_n C d_L_323 rfl 2 rfl ?_
  refine l_aload_n C d_L_324 rfl 0 rfl ?_
  refine l_iload_n C d_L_325 rfl 3 rfl ?_
  refine l_iconst (v := 1) C d_L_326 (by decide) ?_
  refine l_iadd C d_L_327 ?_
  refine l_sld C h1 d_L_328 ?_
  refine l_callRi C (As := [.int (xs (tn (i3 + 1)))]) (rest := [.int r1]) m_R_land tw_877 rfl rfl rfl (c_R_land _ hw) rfl rfl rfl d_L_329 (fun r2 MR2 hw => ?_)
  obtain ⟨he, hw⟩ := hw
  refine l_ic_eq C 1407 d_L_332 (by decide) he ?_
  exact kk _ _ hw
set_option maxHeartbeats 4000000 in
theorem law_5 {Y : LXt} {b L : Nat} {xs : Nat → Int32} {gX gR : GX} {MX MR : Mem} {i3 : Int32} {K : Mem → Mem → Prop} (C : ZLc Y b L xs gX gR) (h1 : vp_in (i3 + 1) L) (hw : wp_X_fall (xs (tn (i3 + 1))) MX (fun r1 => wp_R_fall (xs (tn (i3 + 1))) MR (fun r2 MR2 => r1 = r2 ∧ K MX MR2))) (kk : ∀ MX2 MR2, K MX2 MR2 → ZL Y b gX gR MX2 MR2 1407 [(0, .ref b), (1, .ref (ax gX 0)), (2, .ref (ax gR 0)), (3, .int i3)] []) : ZL Y b gX gR MX MR 337 [(0, .ref b), (1, .ref (ax gX 0)), (2, .ref (ax gR 0)), (3, .int i3)] [] := by
  refine l_aload_n C d_L_337 rfl 1 rfl ?_
  refine l_aload_n C d_L_338 rfl 0 rfl ?_
  refine l_iload_n C d_L_339 rfl 3 rfl ?_
  refine l_iconst (v := 1) C d_L_340 (by decide) ?_
  refine l_iadd C d_L_341 ?_
  refine l_sld C h1 d_L_342 ?_
  refine l_callXi C (As := [.int (xs (tn (i3 + 1)))]) (rest := []) m_X_fall tw_314 rfl rfl rfl (c_X_fall _ hw) rfl rfl rfl d_L_343 (fun r1 M2 hq => ?_)
  obtain ⟨rfl, hw⟩ := hq
  refine l_aload_n C d_L_346 rfl 2 rfl ?_
  refine l_aload_n C d_L_347 rfl 0 rfl ?_
  refine l_iload_n C d_L_348 rfl 3 rfl ?_
  refine l_iconst (v := 1) C d_L_349 (by decide) ?_
  refine l_iadd C d_L_350 ?_
  refine l_sld C h1 d_L_351 ?_
  refine l_callRi C (As := [.int (xs (tn (i3 + 1)))]) (rest := [.int r1]) m_R_fall tw_885 rfl rfl rfl (c_R_fall _ hw) rfl rfl rfl d_L_352 (fun r2 MR2 hw => ?_)
  obtain ⟨he, hw⟩ := hw
  refine l_ic_eq C 1407 d_L_355 (by decide) he ?_
  exact kk _ _ hw
set_option maxHeartbeats 4000000 in
theorem law_6 {Y : LXt} {b L : Nat} {xs : Nat → Int32} {gX gR : GX} {MX MR : Mem} {i3 : Int32} {K : Mem → Mem → Prop} (C : ZLc Y b L xs gX gR) (h1 : vp_in (i3 + 1) L) (h2 : vp_in (i3 + 2) L) (hw : wp_X_plough (xs (tn (i3 + 1))) (xs (tn (i3 + 2))) MX (fun r1 => wp_R_plough (xs (tn (i3 + 1))) (xs (tn (i3 + 2))) MR (fun r2 MR2 => r1 = r2 ∧ K MX MR2))) (kk : ∀ MX2 MR2, K MX2 MR2 → ZL Y b gX gR MX2 MR2 1407 [(0, .ref b), (1, .ref (ax gX 0)), (2, .ref (ax gR 0)), (3, .int i3)] []) : ZL Y b gX gR MX MR 360 [(0, .ref b), (1, .ref (ax gX 0)), (2, .ref (ax gR 0)), (3, .int i3)] [] := by
  refine l_aload_n C d_L_360 rfl 1 rfl ?_
  refine l_aload_n C d_L_361 rfl 0 rfl ?_
  refine l_iload_n C d_L_362 rfl 3 rfl ?_
  refine l_iconst (v := 1) C d_L_363 (by decide) ?_
  refine l_iadd C d_L_364 ?_
  refine l_sld C h1 d_L_365 ?_
  refine l_aload_n C d_L_366 rfl 0 rfl ?_
  refine l_iload_n C d_L_367 rfl 3 rfl ?_
  refine l_iconst (v := 2) C d_L_368 (by decide) ?_
  refine l_iadd C d_L_369 ?_
  refine l_sld C h2 d_L_370 ?_
  refine l_callXi C (As := [.int (xs (tn (i3 + 1))), .int (xs (tn (i3 + 2)))]) (rest := []) m_X_plough tw_318 rfl rfl rfl (c_X_plough _ hw) rfl rfl rfl d_L_371 (fun r1 M2 hq => ?_)
  obtain ⟨rfl, hw⟩ := hq
  refine l_aload_n C d_L_374 rfl 2 rfl ?_
  refine l_aload_n C d_L_375 rfl 0 rfl ?_
  refine l_iload_n C d_L_376 rfl 3 rfl ?_
  refine l_iconst (v := 1) C d_L_377 (by decide) ?_
  refine l_iadd C d_L_378 ?_
  refine l_sld C h1 d_L_379 ?_
  refine l_aload_n C d_L_380 rfl 0 rfl ?_
  refine l_iload_n C d_L_381 rfl 3 rfl ?_
  refine l_iconst (v := 2) C d_L_382 (by decide) ?_
  refine l_iadd C d_L_383 ?_
  refine l_sld C h2 d_L_384 ?_
  refine l_callRi C (As := [.int (xs (tn (i3 + 1))), .int (xs (tn (i3 + 2)))]) (rest := [.int r1]) m_R_plough tw_893 rfl rfl rfl (c_R_plough _ hw) rfl rfl rfl d_L_385 (fun r2 MR2 hw => ?_)
  obtain ⟨he, hw⟩ := hw
  refine l_ic_eq C 1407 d_L_388 (by decide) he ?_
  exact kk _ _ hw
set_option maxHeartbeats 4000000 in
theorem law_7 {Y : LXt} {b L : Nat} {xs : Nat → Int32} {gX gR : GX} {MX MR : Mem} {i3 : Int32} {K : Mem → Mem → Prop} (C : ZLc Y b L xs gX gR) (h1 : vp_in (i3 + 1) L) (hw : wp_X_bus (xs (tn (i3 + 1))) MX (fun r1 => wp_R_bus (xs (tn (i3 + 1))) MR (fun r2 MR2 => r1 = r2 ∧ K MX MR2))) (kk : ∀ MX2 MR2, K MX2 MR2 → ZL Y b gX gR MX2 MR2 1407 [(0, .ref b), (1, .ref (ax gX 0)), (2, .ref (ax gR 0)), (3, .int i3)] []) : ZL Y b gX gR MX MR 393 [(0, .ref b), (1, .ref (ax gX 0)), (2, .ref (ax gR 0)), (3, .int i3)] [] := by
  refine l_aload_n C d_L_393 rfl 1 rfl ?_
  refine l_aload_n C d_L_394 rfl 0 rfl ?_
  refine l_iload_n C d_L_395 rfl 3 rfl ?_
  refine l_iconst (v := 1) C d_L_396 (by decide) ?_
  refine l_iadd C d_L_397 ?_
  refine l_sld C h1 d_L_398 ?_
  refine l_callXi C (As := [.int (xs (tn (i3 + 1)))]) (rest := []) m_X_bus tw_322 rfl rfl rfl (c_X_bus _ hw) rfl rfl rfl d_L_399 (fun r1 M2 hq => ?_)
  obtain ⟨rfl, hw⟩ := hq
  refine l_aload_n C d_L_402 rfl 2 rfl ?_
  refine l_aload_n C d_L_403 rfl 0 rfl ?_
  refine l_iload_n C d_L_404 rfl 3 rfl ?_
  refine l_iconst (v := 1) C d_L_405 (by decide) ?_
  refine l_iadd C d_L_406 ?_
  refine l_sld C h1 d_L_407 ?_
  refine l_callRi C (As := [.int (xs (tn (i3 + 1)))]) (rest := [.int r1]) m_R_bus tw_901 rfl rfl rfl (c_R_bus _ hw) rfl rfl rfl d_L_408 (fun r2 MR2 hw => ?_)
  obtain ⟨he, hw⟩ := hw
  refine l_ic_eq C 1407 d_L_411 (by decide) he ?_
  exact kk _ _ hw
set_option maxHeartbeats 4000000 in
theorem law_8 {Y : LXt} {b L : Nat} {xs : Nat → Int32} {gX gR : GX} {MX MR : Mem} {i3 : Int32} {K : Mem → Mem → Prop} (C : ZLc Y b L xs gX gR) (h1 : vp_in (i3 + 1) L) (hw : wp_X_wind (xs (tn (i3 + 1))) MX (fun r1 MX2 => wp_R_wind (xs (tn (i3 + 1))) MR (fun r2 MR2 => r1 = r2 ∧ K MX2 MR2))) (kk : ∀ MX2 MR2, K MX2 MR2 → ZL Y b gX gR MX2 MR2 1407 [(0, .ref b), (1, .ref (ax gX 0)), (2, .ref (ax gR 0)), (3, .int i3)] []) : ZL Y b gX gR MX MR 416 [(0, .ref b), (1, .ref (ax gX 0)), (2, .ref (ax gR 0)), (3, .int i3)] [] := by
  refine l_aload_n C d_L_416 rfl 1 rfl ?_
  refine l_aload_n C d_L_417 rfl 0 rfl ?_
  refine l_iload_n C d_L_418 rfl 3 rfl ?_
  refine l_iconst (v := 1) C d_L_419 (by decide) ?_
  refine l_iadd C d_L_420 ?_
  refine l_sld C h1 d_L_421 ?_
  refine l_callXi C (As := [.int (xs (tn (i3 + 1)))]) (rest := []) m_X_wind tw_326 rfl rfl rfl (c_X_wind _ hw) rfl rfl rfl d_L_422 (fun r1 MX2 hw => ?_)
  refine l_aload_n C d_L_425 rfl 2 rfl ?_
  refine l_aload_n C d_L_426 rfl 0 rfl ?_
  refine l_iload_n C d_L_427 rfl 3 rfl ?_
  refine l_iconst (v := 1) C d_L_428 (by decide) ?_
  refine l_iadd C d_L_429 ?_
  refine l_sld C h1 d_L_430 ?_
  refine l_callRi C (As := [.int (xs (tn (i3 + 1)))]) (rest := [.int r1]) m_R_wind tw_909 rfl rfl rfl (c_R_wind _ hw) rfl rfl rfl d_L_431 (fun r2 MR2 hw => ?_)
  obtain ⟨he, hw⟩ := hw
  refine l_ic_eq C 1407 d_L_434 (by decide) he ?_
  exact kk _ _ hw
set_option maxHeartbeats 4000000 in
theorem law_9 {Y : LXt} {b L : Nat} {xs : Nat → Int32} {gX gR : GX} {MX MR : Mem} {i3 : Int32} {K : Mem → Mem → Prop} (C : ZLc Y b L xs gX gR) (h1 : vp_in (i3 + 1) L) (h2 : vp_in (i3 + 2) L) (h3 : vp_in (i3 + 3) L) (hw : wp_X_event (xs (tn (i3 + 1))) (xs (tn (i3 + 2))) (xs (tn (i3 + 3))) MX (fun r1 MX2 => wp_R_event (xs (tn (i3 + 1))) (xs (tn (i3 + 2))) (xs (tn (i3 + 3))) MR (fun r2 MR2 => r1 = r2 ∧ K MX2 MR2))) (kk : ∀ MX2 MR2, K MX2 MR2 → ZL Y b gX gR MX2 MR2 1407 [(0, .ref b), (1, .ref (ax gX 0)), (2, .ref (ax gR 0)), (3, .int i3)] []) : ZL Y b gX gR MX MR 439 [(0, .ref b), (1, .ref (ax gX 0)), (2, .ref (ax gR 0)), (3, .int i3)] [] := by
  refine l_aload_n C d_L_439 rfl 1 rfl ?_
  refine l_aload_n C d_L_440 rfl 0 rfl ?_
  refine l_iload_n C d_L_441 rfl 3 rfl ?_
  refine l_iconst (v := 1) C d_L_442 (by decide) ?_
  refine l_iadd C d_L_443 ?_
  refine l_sld C h1 d_L_444 ?_
  refine l_aload_n C d_L_445 rfl 0 rfl ?_
  refine l_iload_n C d_L_446 rfl 3 rfl ?_
  refine l_iconst (v := 2) C d_L_447 (by decide) ?_
  refine l_iadd C d_L_448 ?_
  refine l_sld C h2 d_L_449 ?_
  refine l_aload_n C d_L_450 rfl 0 rfl ?_
  refine l_iload_n C d_L_451 rfl 3 rfl ?_
  refine l_iconst (v := 3) C d_L_452 (by decide) ?_
  refine l_iadd C d_L_453 ?_
  refine l_sld C h3 d_L_454 ?_
  refine l_callXi C (As := [.int (xs (tn (i3 + 1))), .int (xs (tn (i3 + 2))), .int (xs (tn (i3 + 3)))]) (rest := []) m_X_event tw_330 rfl rfl rfl (c_X_event _ hw) rfl rfl rfl d_L_455 (fun r1 MX2 hw => ?_)
  refine l_aload_n C d_L_458 rfl 2 rfl ?_
  refine l_aload_n C d_L_459 rfl 0 rfl ?_
  refine l_iload_n C d_L_460 rfl 3 rfl ?_
  refine l_iconst (v := 1) C d_L_461 (by decide) ?_
  refine l_iadd C d_L_462 ?_
  refine l_sld C h1 d_L_463 ?_
  refine l_aload_n C d_L_464 rfl 0 rfl ?_
  refine l_iload_n C d_L_465 rfl 3 rfl ?_
  refine l_iconst (v := 2) C d_L_466 (by decide) ?_
  refine l_iadd C d_L_467 ?_
  refine l_sld C h2 d_L_468 ?_
  refine l_aload_n C d_L_469 rfl 0 rfl ?_
  refine l_iload_n C d_L_470 rfl 3 rfl ?_
  refine l_iconst (v := 3) C d_L_471 (by decide) ?_
  refine l_iadd C d_L_472 ?_
  refine l_sld C h3 d_L_473 ?_
  refine l_callRi C (As := [.int (xs (tn (i3 + 1))), .int (xs (tn (i3 + 2))), .int (xs (tn (i3 + 3)))]) (rest := [.int r1]) m_R_event tw_914 rfl rfl rfl (c_R_event _ hw) rfl rfl rfl d_L_474 (fun r2 MR2 hw => ?_)
  obtain ⟨he, hw⟩ := hw
  refine l_ic_eq C 1407 d_L_477 (by decide) he ?_
  exact kk _ _ hw
set_option maxHeartbeats 4000000 in
theorem law_10 {Y : LXt} {b L : Nat} {xs : Nat → Int32} {gX gR : GX} {MX MR : Mem} {i3 : Int32} {K : Mem → Mem → Prop} (C : ZLc Y b L xs gX gR)  (hw : wp_X_back MX (fun r1 MX2 => wp_R_back MR (fun r2 MR2 => r1 = r2 ∧ K MX2 MR2))) (kk : ∀ MX2 MR2, K MX2 MR2 → ZL Y b gX gR MX2 MR2 1407 [(0, .ref b), (1, .ref (ax gX 0)), (2, .ref (ax gR 0)), (3, .int i3)] []) : ZL Y b gX gR MX MR 482 [(0, .ref b), (1, .ref (ax gX 0)), (2, .ref (ax gR 0)), (3, .int i3)] [] := by
  refine l_aload_n C d_L_482 rfl 1 rfl ?_
  refine l_callXi C (As := []) (rest := []) m_X_back tw_341 rfl rfl rfl (c_X_back _ hw) rfl rfl rfl d_L_483 (fun r1 MX2 hw => ?_)
  refine l_aload_n C d_L_486 rfl 2 rfl ?_
  refine l_callRi C (As := []) (rest := [.int r1]) m_R_back tw_918 rfl rfl rfl (c_R_back _ hw) rfl rfl rfl d_L_487 (fun r2 MR2 hw => ?_)
  obtain ⟨he, hw⟩ := hw
  refine l_ic_eq C 1407 d_L_490 (by decide) he ?_
  exact kk _ _ hw
set_option maxHeartbeats 4000000 in
theorem law_11 {Y : LXt} {b L : Nat} {xs : Nat → Int32} {gX gR : GX} {MX MR : Mem} {i3 : Int32} {K : Mem → Mem → Prop} (C : ZLc Y b L xs gX gR) (h1 : vp_in (i3 + 1) L) (hw : wp_X_read (xs (tn (i3 + 1))) MX (fun r1 MX2 => wp_R_read (xs (tn (i3 + 1))) MR (fun r2 MR2 => r1 = r2 ∧ K MX2 MR2))) (kk : ∀ MX2 MR2, K MX2 MR2 → ZL Y b gX gR MX2 MR2 1407 [(0, .ref b), (1, .ref (ax gX 0)), (2, .ref (ax gR 0)), (3, .int i3)] []) : ZL Y b gX gR MX MR 495 [(0, .ref b), (1, .ref (ax gX 0)), (2, .ref (ax gR 0)), (3, .int i3)] [] := by
  refine l_aload_n C d_L_495 rfl 1 rfl ?_
  refine l_aload_n C d_L_496 rfl 0 rfl ?_
  refine l_iload_n C d_L_497 rfl 3 rfl ?_
  refine l_iconst (v := 1) C d_L_498 (by decide) ?_
  refine l_iadd C d_L_499 ?_
  refine l_sld C h1 d_L_500 ?_
  refine l_callXi C (As := [.int (xs (tn (i3 + 1)))]) (rest := []) m_X_read tw_345 rfl rfl rfl (c_X_read _ hw) rfl rfl rfl d_L_501 (fun r1 MX2 hw => ?_)
  refine l_aload_n C d_L_504 rfl 2 rfl ?_
  refine l_aload_n C d_L_505 rfl 0 rfl ?_
  refine l_iload_n C d_L_506 rfl 3 rfl ?_
  refine l_iconst (v := 1) C d_L_507 (by decide) ?_
  refine l_iadd C d_L_508 ?_
  refine l_sld C h1 d_L_509 ?_
  refine l_callRi C (As := [.int (xs (tn (i3 + 1)))]) (rest := [.int r1]) m_R_read tw_922 rfl rfl rfl (c_R_read _ hw) rfl rfl rfl d_L_510 (fun r2 MR2 hw => ?_)
  obtain ⟨he, hw⟩ := hw
  refine l_ic_eq C 1407 d_L_513 (by decide) he ?_
  exact kk _ _ hw
set_option maxHeartbeats 4000000 in
theorem law_12 {Y : LXt} {b L : Nat} {xs : Nat → Int32} {gX gR : GX} {MX MR : Mem} {i3 : Int32} {K : Mem → Mem → Prop} (C : ZLc Y b L xs gX gR) (h1 : vp_in (i3 + 1) L) (h2 : vp_in (i3 + 2) L) (hw : wp_X_deep (xs (tn (i3 + 1))) (xs (tn (i3 + 2))) MX (fun r1 MX2 => wp_R_deep (xs (tn (i3 + 1))) (xs (tn (i3 + 2))) MR (fun r2 MR2 => r1 = r2 ∧ K MX2 MR2))) (kk : ∀ MX2 MR2, K MX2 MR2 → ZL Y b gX gR MX2 MR2 1407 [(0, .ref b), (1, .ref (ax gX 0)), (2, .ref (ax gR 0)), (3, .int i3)] []) : ZL Y b gX gR MX MR 518 [(0, .ref b), (1, .ref (ax gX 0)), (2, .ref (ax gR 0)), (3, .int i3)] [] := by
  refine l_aload_n C d_L_518 rfl 1 rfl ?_
  refine l_aload_n C d_L_519 rfl 0 rfl ?_
  refine l_iload_n C d_L_520 rfl 3 rfl ?_
  refine l_iconst (v := 1) C d_L_521 (by decide) ?_
  refine l_iadd C d_L_522 ?_
  refine l_sld C h1 d_L_523 ?_
  refine l_aload_n C d_L_524 rfl 0 rfl ?_
  refine l_iload_n C d_L_525 rfl 3 rfl ?_
  refine l_iconst (v := 2) C d_L_526 (by decide) ?_
  refine l_iadd C d_L_527 ?_
  refine l_sld C h2 d_L_528 ?_
  refine l_callXi C (As := [.int (xs (tn (i3 + 1))), .int (xs (tn (i3 + 2)))]) (rest := []) m_X_deep tw_354 rfl rfl rfl (c_X_deep _ hw) rfl rfl rfl d_L_529 (fun r1 MX2 hw => ?_)
  refine l_aload_n C d_L_532 rfl 2 rfl ?_
  refine l_aload_n C d_L_533 rfl 0 rfl ?_
  refine l_iload_n C d_L_534 rfl 3 rfl ?_
  refine l_iconst (v := 1) C d_L_535 (by decide) ?_
  refine l_iadd C d_L_536 ?_
  refine l_sld C h1 d_L_537 ?_
  refine l_aload_n C d_L_538 rfl 0 rfl ?_
  refine l_iload_n C d_L_539 rfl 3 rfl ?_
  refine l_iconst (v := 2) C d_L_540 (by decide) ?_
  refine l_iadd C d_L_541 ?_
  refine l_sld C h2 d_L_542 ?_
  refine l_callRi C (As := [.int (xs (tn (i3 + 1))), .int (xs (tn (i3 + 2)))]) (rest := [.int r1]) m_R_deep tw_927 rfl rfl rfl (c_R_deep _ hw) rfl rfl rfl d_L_543 (fun r2 MR2 hw => ?_)
  obtain ⟨he, hw⟩ := hw
  refine l_ic_eq C 1407 d_L_546 (by decide) he ?_
  exact kk _ _ hw
set_option maxHeartbeats 4000000 in
theorem law_13 {Y : LXt} {b L : Nat} {xs : Nat → Int32} {gX gR : GX} {MX MR : Mem} {i3 : Int32} {K : Mem → Mem → Prop} (C : ZLc Y b L xs gX gR) (h1 : vp_in (i3 + 1) L) (h2 : vp_in (i3 + 2) L) (h3 : vp_in (i3 + 3) L) (hw : wp_X_at (xs (tn (i3 + 1))) (xs (tn (i3 + 2))) (xs (tn (i3 + 3))) MX (fun r1 MX2 => wp_R_at (xs (tn (i3 + 1))) (xs (tn (i3 + 2))) (xs (tn (i3 + 3))) MR (fun r2 MR2 => r1 = r2 ∧ K MX2 MR2))) (kk : ∀ MX2 MR2, K MX2 MR2 → ZL Y b gX gR MX2 MR2 1407 [(0, .ref b), (1, .ref (ax gX 0)), (2, .ref (ax gR 0)), (3, .int i3)] []) : ZL Y b gX gR MX MR 551 [(0, .ref b), (1, .ref (ax gX 0)), (2, .ref (ax gR 0)), (3, .int i3)] [] := by
  refine l_aload_n C d_L_551 rfl 1 rfl ?_
  refine l_aload_n C d_L_552 rfl 0 rfl ?_
  refine l_iload_n C d_L_553 rfl 3 rfl ?_
  refine l_iconst (v := 1) C d_L_554 (by decide) ?_
  refine l_iadd C d_L_555 ?_
  refine l_sld C h1 d_L_556 ?_
  refine l_aload_n C d_L_557 rfl 0 rfl ?_
  refine l_iload_n C d_L_558 rfl 3 rfl ?_
  refine l_iconst (v := 2) C d_L_559 (by decide) ?_
  refine l_iadd C d_L_560 ?_
  refine l_sld C h2 d_L_561 ?_
  refine l_aload_n C d_L_562 rfl 0 rfl ?_
  refine l_iload_n C d_L_563 rfl 3 rfl ?_
  refine l_iconst (v := 3) C d_L_564 (by decide) ?_
  refine l_iadd C d_L_565 ?_
  refine l_sld C h3 d_L_566 ?_
  refine l_callXi C (As := [.int (xs (tn (i3 + 1))), .int (xs (tn (i3 + 2))), .int (xs (tn (i3 + 3)))]) (rest := []) m_X_at tw_404 rfl rfl rfl (c_X_at _ hw) rfl rfl rfl d_L_567 (fun r1 MX2 hw => ?_)
  refine l_aload_n C d_L_570 rfl 2 rfl ?_
  refine l_aload_n C d_L_571 rfl 0 rfl ?_
  refine l_iload_n C d_L_572 rfl 3 rfl ?_
  refine l_iconst (v := 1) C d_L_573 (by decide) ?_
  refine l_iadd C d_L_574 ?_
  refine l_sld C h1 d_L_575 ?_
  refine l_aload_n C d_L_576 rfl 0 rfl ?_
  refine l_iload_n C d_L_577 rfl 3 rfl ?_
  refine l_iconst (v := 2) C d_L_578 (by decide) ?_
  refine l_iadd C d_L_579 ?_
  refine l_sld C h2 d_L_580 ?_
  refine l_aload_n C d_L_581 rfl 0 rfl ?_
  refine l_iload_n C d_L_582 rfl 3 rfl ?_
  refine l_iconst (v := 3) C d_L_583 (by decide) ?_
  refine l_iadd C d_L_584 ?_
  refine l_sld C h3 d_L_585 ?_
  refine l_callRi C (As := [.int (xs (tn (i3 + 1))), .int (xs (tn (i3 + 2))), .int (xs (tn (i3 + 3)))]) (rest := [.int r1]) m_R_at tw_969 rfl rfl rfl (c_R_at _ hw) rfl rfl rfl d_L_586 (fun r2 MR2 hw => ?_)
  obtain ⟨he, hw⟩ := hw
  refine l_ic_eq C 1407 d_L_589 (by decide) he ?_
  exact kk _ _ hw
set_option maxHeartbeats 4000000 in
theorem law_14 {Y : LXt} {b L : Nat} {xs : Nat → Int32} {gX gR : GX} {MX MR : Mem} {i3 : Int32} {K : Mem → Mem → Prop} (C : ZLc Y b L xs gX gR) (h1 : vp_in (i3 + 1) L) (h2 : vp_in (i3 + 2) L) (hw : wp_X_rides (xs (tn (i3 + 1))) (xs (tn (i3 + 2))) MX (fun r1 MX2 => wp_R_rides (xs (tn (i3 + 1))) (xs (tn (i3 + 2))) MR (fun r2 MR2 => r1 = r2 ∧ K MX2 MR2))) (kk : ∀ MX2 MR2, K MX2 MR2 → ZL Y b gX gR MX2 MR2 1407 [(0, .ref b), (1, .ref (ax gX 0)), (2, .ref (ax gR 0)), (3, .int i3)] []) : ZL Y b gX gR MX MR 594 [(0, .ref b), (1, .ref (ax gX 0)), (2, .ref (ax gR 0)), (3, .int i3)] [] := by
  refine l_aload_n C d_L_594 rfl 1 rfl ?_
  refine l_aload_n C d_L_595 rfl 0 rfl ?_
  refine l_iload_n C d_L_596 rfl 3 rfl ?_
  refine l_iconst (v := 1) C d_L_597 (by decide) ?_
  refine l_iadd C d_L_598 ?_
  refine l_sld C h1 d_L_599 ?_
  refine l_aload_n C d_L_600 rfl 0 rfl ?_
  refine l_iload_n C d_L_601 rfl 3 rfl ?_
  refine l_iconst (v := 2) C d_L_602 (by decide) ?_
  refine l_iadd C d_L_603 ?_
  refine l_sld C h2 d_L_604 ?_
  refine l_callXi C (As := [.int (xs (tn (i3 + 1))), .int (xs (tn (i3 + 2)))]) (rest := []) m_X_rides tw_408 rfl rfl rfl (c_X_rides _ hw) rfl rfl rfl d_L_605 (fun r1 MX2 hw => ?_)
  refine l_aload_n C d_L_608 rfl 2 rfl ?_
  refine l_aload_n C d_L_609 rfl 0 rfl ?_
  refine l_iload_n C d_L_610 rfl 3 rfl ?_
  refine l_iconst (v := 1) C d_L_611 (by decide) ?_
  refine l_iadd C d_L_612 ?_
  refine l_sld C h1 d_L_613 ?_
  refine l_aload_n C d_L_614 rfl 0 rfl ?_
  refine l_iload_n C d_L_615 rfl 3 rfl ?_
  refine l_iconst (v := 2) C d_L_616 (by decide) ?_
  refine l_iadd C d_L_617 ?_
  refine l_sld C h2 d_L_618 ?_
  refine l_callRi C (As := [.int (xs (tn (i3 + 1))), .int (xs (tn (i3 + 2)))]) (rest := [.int r1]) m_R_rides tw_977 rfl rfl rfl (c_R_rides _ hw) rfl rfl rfl d_L_619 (fun r2 MR2 hw => ?_)
  obtain ⟨he, hw⟩ := hw
  refine l_ic_eq C 1407 d_L_622 (by decide) he ?_
  exact kk _ _ hw
set_option maxHeartbeats 4000000 in
theorem law_15 {Y : LXt} {b L : Nat} {xs : Nat → Int32} {gX gR : GX} {MX MR : Mem} {i3 : Int32} {K : Mem → Mem → Prop} (C : ZLc Y b L xs gX gR) (h1 : vp_in (i3 + 1) L) (h2 : vp_in (i3 + 2) L) (hw : wp_X_snow (xs (tn (i3 + 1))) (xs (tn (i3 + 2))) MX (fun r1 MX2 => wp_R_snow (xs (tn (i3 + 1))) (xs (tn (i3 + 2))) MR (fun r2 MR2 => r1 = r2 ∧ K MX2 MR2))) (kk : ∀ MX2 MR2, K MX2 MR2 → ZL Y b gX gR MX2 MR2 1407 [(0, .ref b), (1, .ref (ax gX 0)), (2, .ref (ax gR 0)), (3, .int i3)] []) : ZL Y b gX gR MX MR 627 [(0, .ref b), (1, .ref (ax gX 0)), (2, .ref (ax gR 0)), (3, .int i3)] [] := by
  refine l_aload_n C d_L_627 rfl 1 rfl ?_
  refine l_aload_n C d_L_628 rfl 0 rfl ?_
  refine l_iload_n C d_L_629 rfl 3 rfl ?_
  refine l_iconst (v := 1) C d_L_630 (by decide) ?_
  refine l_iadd C d_L_631 ?_
  refine l_sld C h1 d_L_632 ?_
  refine l_aload_n C d_L_633 rfl 0 rfl ?_
  refine l_iload_n C d_L_634 rfl 3 rfl ?_
  refine l_iconst (v := 2) C d_L_635 (by decide) ?_
  refine l_iadd C d_L_636 ?_
  refine l_sld C h2 d_L_637 ?_
  refine l_callXi C (As := [.int (xs (tn (i3 + 1))), .int (xs (tn (i3 + 2)))]) (rest := []) m_X_snow tw_420 rfl rfl rfl (c_X_snow _ hw) rfl rfl rfl d_L_638 (fun r1 MX2 hw => ?_)
  refine l_aload_n C d_L_641 rfl 2 rfl ?_
  refine l_aload_n C d_L_642 rfl 0 rfl ?_
  refine l_iload_n C d_L_643 rfl 3 rfl ?_
  refine l_iconst (v := 1) C d_L_644 (by decide) ?_
  refine l_iadd C d_L_645 ?_
  refine l_sld C h1 d_L_646 ?_
  refine l_aload_n C d_L_647 rfl 0 rfl ?_
  refine l_iload_n C d_L_648 rfl 3 rfl ?_
  refine l_iconst (v := 2) C d_L_649 (by decide) ?_
  refine l_iadd C d_L_650 ?_
  refine l_sld C h2 d_L_651 ?_
  refine l_callRi C (As := [.int (xs (tn (i3 + 1))), .int (xs (tn (i3 + 2)))]) (rest := [.int r1]) m_R_snow tw_981 rfl rfl rfl (c_R_snow _ hw) rfl rfl rfl d_L_652 (fun r2 MR2 hw => ?_)
  obtain ⟨he, hw⟩ := hw
  refine l_ic_eq C 1407 d_L_655 (by decide) he ?_
  exact kk _ _ hw
set_option maxHeartbeats 4000000 in
theorem law_16 {Y : LXt} {b L : Nat} {xs : Nat → Int32} {gX gR : GX} {MX MR : Mem} {i3 : Int32} {K : Mem → Mem → Prop} (C : ZLc Y b L xs gX gR) (h1 : vp_in (i3 + 1) L) (h2 : vp_in (i3 + 2) L) (hw : wp_X_over (xs (tn (i3 + 1))) (xs (tn (i3 + 2))) MX (fun r1 MX2 => wp_R_over (xs (tn (i3 + 1))) (xs (tn (i3 + 2))) MR (fun r2 MR2 => r1 = r2 ∧ K MX2 MR2))) (kk : ∀ MX2 MR2, K MX2 MR2 → ZL Y b gX gR MX2 MR2 1407 [(0, .ref b), (1, .ref (ax gX 0)), (2, .ref (ax gR 0)), (3, .int i3)] []) : ZL Y b gX gR MX MR 660 [(0, .ref b), (1, .ref (ax gX 0)), (2, .ref (ax gR 0)), (3, .int i3)] [] := by
  refine l_aload_n C d_L_660 rfl 1 rfl ?_
  refine l_aload_n C d_L_661 rfl 0 rfl ?_
  refine l_iload_n C d_L_662 rfl 3 rfl ?_
  refine l_iconst (v := 1) C d_L_663 (by decide) ?_
  refine l_iadd C d_L_664 ?_
  refine l_sld C h1 d_L_665 ?_
  refine l_aload_n C d_L_666 rfl 0 rfl ?_
  refine l_iload_n C d_L_667 rfl 3 rfl ?_
  refine l_iconst (v := 2) C d_L_668 (by decide) ?_
  refine l_iadd C d_L_669 ?_
  refine l_sld C h2 d_L_670 ?_
  refine l_callXi C (As := [.int (xs (tn (i3 + 1))), .int (xs (tn (i3 + 2)))]) (rest := []) m_X_over tw_432 rfl rfl rfl (c_X_over _ hw) rfl rfl rfl d_L_671 (fun r1 MX2 hw => ?_)
  refine l_aload_n C d_L_674 rfl 2 rfl ?_
  refine l_aload_n C d_L_675 rfl 0 rfl ?_
  refine l_iload_n C d_L_676 rfl 3 rfl ?_
  refine l_iconst (v := 1) C d_L_677 (by decide) ?_
  refine l_iadd C d_L_678 ?_
  refine l_sld C h1 d_L_679 ?_
  refine l_aload_n C d_L_680 rfl 0 rfl ?_
  refine l_iload_n C d_L_681 rfl 3 rfl ?_
  refine l_iconst (v := 2) C d_L_682 (by decide) ?_
  refine l_iadd C d_L_683 ?_
  refine l_sld C h2 d_L_684 ?_
  refine l_callRi C (As := [.int (xs (tn (i3 + 1))), .int (xs (tn (i3 + 2)))]) (rest := [.int r1]) m_R_over tw_992 rfl rfl rfl (c_R_over _ hw) rfl rfl rfl d_L_685 (fun r2 MR2 hw => ?_)
  obtain ⟨he, hw⟩ := hw
  refine l_ic_eq C 1407 d_L_688 (by decide) he ?_
  exact kk _ _ hw
set_option maxHeartbeats 4000000 in
theorem law_17 {Y : LXt} {b L : Nat} {xs : Nat → Int32} {gX gR : GX} {MX MR : Mem} {i3 : Int32} {K : Mem → Mem → Prop} (C : ZLc Y b L xs gX gR) (h1 : vp_in (i3 + 1) L) (h2 : vp_in (i3 + 2) L) (hw : wp_X_cleared (xs (tn (i3 + 1))) (xs (tn (i3 + 2))) MX (fun r1 MX2 => wp_R_cleared (xs (tn (i3 + 1))) (xs (tn (i3 + 2))) MR (fun r2 MR2 => r1 = r2 ∧ K MX2 MR2))) (kk : ∀ MX2 MR2, K MX2 MR2 → ZL Y b gX gR MX2 MR2 1407 [(0, .ref b), (1, .ref (ax gX 0)), (2, .ref (ax gR 0)), (3, .int i3)] []) : ZL Y b gX gR MX MR 693 [(0, .ref b), (1, .ref (ax gX 0)), (2, .ref (ax gR 0)), (3, .int i3)] [] := by
  refine l_aload_n C d_L_693 rfl 1 rfl ?_
  refine l_aload_n C d_L_694 rfl 0 rfl ?_
  refine l_iload_n C d_L_695 rfl 3 rfl ?_
  refine l_iconst (v := 1) C d_L_696 (by decide) ?_
  refine l_iadd C d_L_697 ?_
  refine l_sld C h1 d_L_698 ?_
  refine l_aload_n C d_L_699 rfl 0 rfl ?_
  refine l_iload_n C d_L_700 rfl 3 rfl ?_
  refine l_iconst (v := 2) C d_L_701 (by decide) ?_
  refine l_iadd C d_L_702 ?_
  refine l_sld C h2 d_L_703 ?_
  refine l_callXi C (As := [.int (xs (tn (i3 + 1))), .int (xs (tn (i3 + 2)))]) (rest := []) m_X_cleared tw_436 rfl rfl rfl (c_X_cleared _ hw) rfl rfl rfl d_L_704 (fun r1 MX2 hw => ?_)
  refine l_aload_n C d_L_707 rfl 2 rfl ?_
  refine l_aload_n C d_L_708 rfl 0 rfl ?_
  refine l_iload_n C d_L_709 rfl 3 rfl ?_
  refine l_iconst (v := 1) C d_L_710 (by decide) ?_
  refine l_iadd C d_L_711 ?_
  refine l_sld C h1 d_L_712 ?_
  refine l_aload_n C d_L_713 rfl 0 rfl ?_
  refine l_iload_n C d_L_714 rfl 3 rfl ?_
  refine l_iconst (v := 2) C d_L_715 (by decide) ?_
  refine l_iadd C d_L_716 ?_
  refine l_sld C h2 d_L_717 ?_
  refine l_callRi C (As := [.int (xs (tn (i3 + 1))), .int (xs (tn (i3 + 2)))]) (rest := [.int r1]) m_R_cleared tw_1000 rfl rfl rfl (c_R_cleared _ hw) rfl rfl rfl d_L_718 (fun r2 MR2 hw => ?_)
  obtain ⟨he, hw⟩ := hw
  refine l_ic_eq C 1407 d_L_721 (by decide) he ?_
  exact kk _ _ hw
set_option maxHeartbeats 4000000 in
theorem law_18 {Y : LXt} {b L : Nat} {xs : Nat → Int32} {gX gR : GX} {MX MR : Mem} {i3 : Int32} {K : Mem → Mem → Prop} (C : ZLc Y b L xs gX gR) (h1 : vp_in (i3 + 1) L) (hw : wp_X_deepest (xs (tn (i3 + 1))) MX (fun r1 MX2 => wp_R_deepest (xs (tn (i3 + 1))) MR (fun r2 MR2 => r1 = r2 ∧ K MX2 MR2))) (kk : ∀ MX2 MR2, K MX2 MR2 → ZL Y b gX gR MX2 MR2 1407 [(0, .ref b), (1, .ref (ax gX 0)), (2, .ref (ax gR 0)), (3, .int i3)] []) : ZL Y b gX gR MX MR 726 [(0, .ref b), (1, .ref (ax gX 0)), (2, .ref (ax gR 0)), (3, .int i3)] [] := by
  refine l_aload_n C d_L_726 rfl 1 rfl ?_
  refine l_aload_n C d_L_727 rfl 0 rfl ?_
  refine l_iload_n C d_L_728 rfl 3 rfl ?_
  refine l_iconst (v := 1) C d_L_729 (by decide) ?_
  refine l_iadd C d_L_730 ?_
  refine l_sld C h1 d_L_731 ?_
  refine l_callXi C (As := [.int (xs (tn (i3 + 1)))]) (rest := []) m_X_deepest tw_440 rfl rfl rfl (c_X_deepest _ hw) rfl rfl rfl d_L_732 (fun r1 MX2 hw => ?_)
  refine l_aload_n C d_L_735 rfl 2 rfl ?_
  refine l_aload_n C d_L_736 rfl 0 rfl ?_
  refine l_iload_n C d_L_737 rfl 3 rfl ?_
  refine l_iconst (v := 1) C d_L_738 (by decide) ?_
  refine l_iadd C d_L_739 ?_
  refine l_sld C h1 d_L_740 ?_
  refine l_callRi C (As := [.int (xs (tn (i3 + 1)))]) (rest := [.int r1]) m_R_deepest tw_1008 rfl rfl rfl (c_R_deepest _ hw) rfl rfl rfl d_L_741 (fun r2 MR2 hw => ?_)
  obtain ⟨he, hw⟩ := hw
  refine l_ic_eq C 1407 d_L_744 (by decide) he ?_
  exact kk _ _ hw
set_option maxHeartbeats 4000000 in
theorem law_19 {Y : LXt} {b L : Nat} {xs : Nat → Int32} {gX gR : GX} {MX MR : Mem} {i3 : Int32} {K : Mem → Mem → Prop} (C : ZLc Y b L xs gX gR)  (hw : wp_X_shut MX (fun r1 MX2 => wp_R_shut MR (fun r2 MR2 => r1 = r2 ∧ K MX2 MR2))) (kk : ∀ MX2 MR2, K MX2 MR2 → ZL Y b gX gR MX2 MR2 1407 [(0, .ref b), (1, .ref (ax gX 0)), (2, .ref (ax gR 0)), (3, .int i3)] []) : ZL Y b gX gR MX MR 749 [(0, .ref b), (1, .ref (ax gX 0)), (2, .ref (ax gR 0)), (3, .int i3)] [] := by
  refine l_aload_n C d_L_749 rfl 1 rfl ?_
  refine l_callXi C (As := []) (rest := []) m_X_shut tw_448 rfl rfl rfl (c_X_shut _ hw) rfl rfl rfl d_L_750 (fun r1 MX2 hw => ?_)
  refine l_aload_n C d_L_753 rfl 2 rfl ?_
  refine l_callRi C (As := []) (rest := [.int r1]) m_R_shut tw_1016 rfl rfl rfl (c_R_shut _ hw) rfl rfl rfl d_L_754 (fun r2 MR2 hw => ?_)
  obtain ⟨he, hw⟩ := hw
  refine l_ic_eq C 1407 d_L_757 (by decide) he ?_
  exact kk _ _ hw
set_option maxHeartbeats 4000000 in
theorem law_20 {Y : LXt} {b L : Nat} {xs : Nat → Int32} {gX gR : GX} {MX MR : Mem} {i3 : Int32} {K : Mem → Mem → Prop} (C : ZLc Y b L xs gX gR)  (hw : wp_X_best MX (fun r1 MX2 => wp_R_best MR (fun r2 MR2 => r1 = r2 ∧ K MX2 MR2))) (kk : ∀ MX2 MR2, K MX2 MR2 → ZL Y b gX gR MX2 MR2 1407 [(0, .ref b), (1, .ref (ax gX 0)), (2, .ref (ax gR 0)), (3, .int i3)] []) : ZL Y b gX gR MX MR 762 [(0, .ref b), (1, .ref (ax gX 0)), (2, .ref (ax gR 0)), (3, .int i3)] [] := by
  refine l_aload_n C d_L_762 rfl 1 rfl ?_
  refine l_callXi C (As := []) (rest := []) m_X_best tw_452 rfl rfl rfl (c_X_best _ hw) rfl rfl rfl d_L_763 (fun r1 MX2 hw => ?_)
  refine l_aload_n C d_L_766 rfl 2 rfl ?_
  refine l_callRi C (As := []) (rest := [.int r1]) m_R_best tw_1024 rfl rfl rfl (c_R_best _ hw) rfl rfl rfl d_L_767 (fun r2 MR2 hw => ?_)
  obtain ⟨he, hw⟩ := hw
  refine l_ic_eq C 1407 d_L_770 (by decide) he ?_
  exact kk _ _ hw
set_option maxHeartbeats 4000000 in
theorem law_21 {Y : LXt} {b L : Nat} {xs : Nat → Int32} {gX gR : GX} {MX MR : Mem} {i3 : Int32} {K : Mem → Mem → Prop} (C : ZLc Y b L xs gX gR) (h1 : vp_in (i3 + 1) L) (h2 : vp_in (i3 + 2) L) (hw : wp_X_begin (xs (tn (i3 + 1))) (xs (tn (i3 + 2))) MX (fun r1 MX2 => wp_R_begin (xs (tn (i3 + 1))) (xs (tn (i3 + 2))) MR (fun r2 MR2 => r1 = r2 ∧ K MX2 MR2))) (kk : ∀ MX2 MR2, K MX2 MR2 → ZL Y b gX gR MX2 MR2 1407 [(0, .ref b), (1, .ref (ax gX 0)), (2, .ref (ax gR 0)), (3, .int i3)] []) : ZL Y b gX gR MX MR 775 [(0, .ref b), (1, .ref (ax gX 0)), (2, .ref (ax gR 0)), (3, .int i3)] [] := by
  refine l_aload_n C d_L_775 rfl 1 rfl ?_
  refine l_aload_n C d_L_776 rfl 0 rfl ?_
  refine l_iload_n C d_L_777 rfl 3 rfl ?_
  refine l_iconst (v := 1) C d_L_778 (by decide) ?_
  refine l_iadd C d_L_779 ?_
  refine l_sld C h1 d_L_780 ?_
  refine l_aload_n C d_L_781 rfl 0 rfl ?_
  refine l_iload_n C d_L_782 rfl 3 rfl ?_
  refine l_iconst (v := 2) C d_L_783 (by decide) ?_
  refine l_iadd C d_L_784 ?_
  refine l_sld C h2 d_L_785 ?_
  refine l_callXi C (As := [.int (xs (tn (i3 + 1))), .int (xs (tn (i3 + 2)))]) (rest := []) m_X_begin tw_456 rfl rfl rfl (c_X_begin _ hw) rfl rfl rfl d_L_786 (fun r1 MX2 hw => ?_)
  refine l_aload_n C d_L_789 rfl 2 rfl ?_
  refine l_aload_n C d_L_790 rfl 0 rfl ?_
  refine l_iload_n C d_L_791 rfl 3 rfl ?_
  refine l_iconst (v := 1) C d_L_792 (by decide) ?_
  refine l_iadd C d_L_793 ?_
  refine l_sld C h1 d_L_794 ?_
  refine l_aload_n C d_L_795 rfl 0 rfl ?_
  refine l_iload_n C d_L_796 rfl 3 rfl ?_
  refine l_iconst (v := 2) C d_L_797 (by decide) ?_
  refine l_iadd C d_L_798 ?_
  refine l_sld C h2 d_L_799 ?_
  refine l_callRi C (As := [.int (xs (tn (i3 + 1))), .int (xs (tn (i3 + 2)))]) (rest := [.int r1]) m_R_begin tw_1035 rfl rfl rfl (c_R_begin _ hw) rfl rfl rfl d_L_800 (fun r2 MR2 hw => ?_)
  obtain ⟨he, hw⟩ := hw
  refine l_ic_eq C 1407 d_L_803 (by decide) he ?_
  exact kk _ _ hw
set_option maxHeartbeats 4000000 in
theorem law_22 {Y : LXt} {b L : Nat} {xs : Nat → Int32} {gX gR : GX} {MX MR : Mem} {i3 : Int32} {K : Mem → Mem → Prop} (C : ZLc Y b L xs gX gR) (h1 : vp_in (i3 + 1) L) (hw : wp_X_hedge (xs (tn (i3 + 1))) MX (fun r1 MX2 => wp_R_hedge (xs (tn (i3 + 1))) MR (fun r2 MR2 => r1 = r2 ∧ K MX2 MR2))) (kk : ∀ MX2 MR2, K MX2 MR2 → ZL Y b gX gR MX2 MR2 1407 [(0, .ref b), (1, .ref (ax gX 0)), (2, .ref (ax gR 0)), (3, .int i3)] []) : ZL Y b gX gR MX MR 808 [(0, .ref b), (1, .ref (ax gX 0)), (2, .ref (ax gR 0)), (3, .int i3)] [] := by
  refine l_aload_n C d_L_808 rfl 1 rfl ?_
  refine l_aload_n C d_L_809 rfl 0 rfl ?_
  refine l_iload_n C d_L_810 rfl 3 rfl ?_
  refine l_iconst (v := 1) C d_L_811 (by decide) ?_
  refine l_iadd C d_L_812 ?_
  refine l_sld C h1 d_L_813 ?_
  refine l_callXi C (As := [.int (xs (tn (i3 + 1)))]) (rest := []) m_X_hedge tw_465 rfl rfl rfl (c_X_hedge _ hw) rfl rfl rfl d_L_814 (fun r1 MX2 hw => ?_)
  refine l_aload_n C d_L_817 rfl 2 rfl ?_
  refine l_aload_n C d_L_818 rfl 0 rfl ?_
  refine l_iload_n C d_L_819 rfl 3 rfl ?_
  refine l_iconst (v := 1) C d_L_820 (by decide) ?_
  refine l_iadd C d_L_821 ?_
  refine l_sld C h1 d_L_822 ?_
  refine l_callRi C (As := [.int (xs (tn (i3 + 1)))]) (rest := [.int r1]) m_R_hedge tw_1047 rfl rfl rfl (c_R_hedge _ hw) rfl rfl rfl d_L_823 (fun r2 MR2 hw => ?_)
  obtain ⟨he, hw⟩ := hw
  refine l_ic_eq C 1407 d_L_826 (by decide) he ?_
  exact kk _ _ hw
set_option maxHeartbeats 4000000 in
theorem law_23 {Y : LXt} {b L : Nat} {xs : Nat → Int32} {gX gR : GX} {MX MR : Mem} {i3 : Int32} {K : Mem → Mem → Prop} (C : ZLc Y b L xs gX gR) (h1 : vp_in (i3 + 1) L) (h2 : vp_in (i3 + 2) L) (hw : wp_X_start (xs (tn (i3 + 1))) (xs (tn (i3 + 2))) MX (fun r1 MX2 => wp_R_start (xs (tn (i3 + 1))) (xs (tn (i3 + 2))) MR (fun r2 MR2 => r1 = r2 ∧ K MX2 MR2))) (kk : ∀ MX2 MR2, K MX2 MR2 → ZL Y b gX gR MX2 MR2 1407 [(0, .ref b), (1, .ref (ax gX 0)), (2, .ref (ax gR 0)), (3, .int i3)] []) : ZL Y b gX gR MX MR 831 [(0, .ref b), (1, .ref (ax gX 0)), (2, .ref (ax gR 0)), (3, .int i3)] [] := by
  refine l_aload_n C d_L_831 rfl 1 rfl ?_
  refine l_aload_n C d_L_832 rfl 0 rfl ?_
  refine l_iload_n C d_L_833 rfl 3 rfl ?_
  refine l_iconst (v := 1) C d_L_834 (by decide) ?_
  refine l_iadd C d_L_835 ?_
  refine l_sld C h1 d_L_836 ?_
  refine l_aload_n C d_L_837 rfl 0 rfl ?_
  refine l_iload_n C d_L_838 rfl 3 rfl ?_
  refine l_iconst (v := 2) C d_L_839 (by decide) ?_
  refine l_iadd C d_L_840 ?_
  refine l_sld C h2 d_L_841 ?_
  refine l_callXi C (As := [.int (xs (tn (i3 + 1))), .int (xs (tn (i3 + 2)))]) (rest := []) m_X_start tw_473 rfl rfl rfl (c_X_start _ hw) rfl rfl rfl d_L_842 (fun r1 MX2 hw => ?_)
  refine l_aload_n C d_L_845 rfl 2 rfl ?_
  refine l_aload_n C d_L_846 rfl 0 rfl ?_
  refine l_iload_n C d_L_847 rfl 3 rfl ?_
  refine l_iconst (v := 1) C d_L_848 (by decide) ?_
  refine l_iadd C d_L_849 ?_
  refine l_sld C h1 d_L_850 ?_
  refine l_aload_n C d_L_851 rfl 0 rfl ?_
  refine l_iload_n C d_L_852 rfl 3 rfl ?_
  refine l_iconst (v := 2) C d_L_853 (by decide) ?_
  refine l_iadd C d_L_854 ?_
  refine l_sld C h2 d_L_855 ?_
  refine l_callRi C (As := [.int (xs (tn (i3 + 1))), .int (xs (tn (i3 + 2)))]) (rest := [.int r1]) m_R_start tw_1056 rfl rfl rfl (c_R_start _ hw) rfl rfl rfl d_L_856 (fun r2 MR2 hw => ?_)
  obtain ⟨he, hw⟩ := hw
  refine l_ic_eq C 1407 d_L_859 (by decide) he ?_
  exact kk _ _ hw
set_option maxHeartbeats 4000000 in
theorem law_24 {Y : LXt} {b L : Nat} {xs : Nat → Int32} {gX gR : GX} {MX MR : Mem} {i3 : Int32} {K : Mem → Mem → Prop} (C : ZLc Y b L xs gX gR) (h1 : vp_in (i3 + 1) L) (hw : wp_X_spare (xs (tn (i3 + 1))) MX (fun r1 MX2 => wp_R_spare (xs (tn (i3 + 1))) MR (fun r2 MR2 => r1 = r2 ∧ K MX2 MR2))) (kk : ∀ MX2 MR2, K MX2 MR2 → ZL Y b gX gR MX2 MR2 1407 [(0, .ref b), (1, .ref (ax gX 0)), (2, .ref (ax gR 0)), (3, .int i3)] []) : ZL Y b gX gR MX MR 864 [(0, .ref b), (1, .ref (ax gX 0)), (2, .ref (ax gR 0)), (3, .int i3)] [] := by
  refine l_aload_n C d_L_864 rfl 1 rfl ?_
  refine l_aload_n C d_L_865 rfl 0 rfl ?_
  refine l_iload_n C d_L_866 rfl 3 rfl ?_
  refine l_iconst (v := 1) C d_L_867 (by decide) ?_
  refine l_iadd C d_L_868 ?_
  refine l_sld C h1 d_L_869 ?_
  refine l_callXi C (As := [.int (xs (tn (i3 + 1)))]) (rest := []) m_X_spare tw_477 rfl rfl rfl (c_X_spare _ hw) rfl rfl rfl d_L_870 (fun r1 MX2 hw => ?_)
  refine l_aload_n C d_L_873 rfl 2 rfl ?_
  refine l_aload_n C d_L_874 rfl 0 rfl ?_
  refine l_iload_n C d_L_875 rfl 3 rfl ?_
  refine l_iconst (v := 1) C d_L_876 (by decide) ?_
  refine l_iadd C d_L_877 ?_
  refine l_sld C h1 d_L_878 ?_
  refine l_callRi C (As := [.int (xs (tn (i3 + 1)))]) (rest := [.int r1]) m_R_spare tw_1064 rfl rfl rfl (c_R_spare _ hw) rfl rfl rfl d_L_879 (fun r2 MR2 hw => ?_)
  obtain ⟨he, hw⟩ := hw
  refine l_ic_eq C 1407 d_L_882 (by decide) he ?_
  exact kk _ _ hw
set_option maxHeartbeats 4000000 in
theorem law_25 {Y : LXt} {b L : Nat} {xs : Nat → Int32} {gX gR : GX} {MX MR : Mem} {i3 : Int32} {K : Mem → Mem → Prop} (C : ZLc Y b L xs gX gR) (h1 : vp_in (i3 + 1) L) (h2 : vp_in (i3 + 2) L) (h3 : vp_in (i3 + 3) L) (hw : wp_X_seen (xs (tn (i3 + 1))) (xs (tn (i3 + 2))) (xs (tn (i3 + 3))) MX (fun r1 MX2 => wp_R_seen (xs (tn (i3 + 1))) (xs (tn (i3 + 2))) (xs (tn (i3 + 3))) MR (fun r2 MR2 => r1 = r2 ∧ K MX2 MR2))) (kk : ∀ MX2 MR2, K MX2 MR2 → ZL Y b gX gR MX2 MR2 1407 [(0, .ref b), (1, .ref (ax gX 0)), (2, .ref (ax gR 0)), (3, .int i3)] []) : ZL Y b gX gR MX MR 887 [(0, .ref b), (1, .ref (ax gX 0)), (2, .ref (ax gR 0)), (3, .int i3)] [] := by
  refine l_aload_n C d_L_887 rfl 1 rfl ?_
  refine l_aload_n C d_L_888 rfl 0 rfl ?_
  refine l_iload_n C d_L_889 rfl 3 rfl ?_
  refine l_iconst (v := 1) C d_L_890 (by decide) ?_
  refine l_iadd C d_L_891 ?_
  refine l_sld C h1 d_L_892 ?_
  refine l_aload_n C d_L_893 rfl 0 rfl ?_
  refine l_iload_n C d_L_894 rfl 3 rfl ?_
  refine l_iconst (v := 2) C d_L_895 (by decide) ?_
  refine l_iadd C d_L_896 ?_
  refine l_sld C h2 d_L_897 ?_
  refine l_aload_n C d_L_898 rfl 0 rfl ?_
  refine l_iload_n C d_L_899 rfl 3 rfl ?_
  refine l_iconst (v := 3) C d_L_900 (by decide) ?_
  refine l_iadd C d_L_901 ?_
  refine l_sld C h3 d_L_902 ?_
  refine l_callXi C (As := [.int (xs (tn (i3 + 1))), .int (xs (tn (i3 + 2))), .int (xs (tn (i3 + 3)))]) (rest := []) m_X_seen tw_499 rfl rfl rfl (c_X_seen _ hw) rfl rfl rfl d_L_903 (fun r1 MX2 hw => ?_)
  refine l_aload_n C d_L_906 rfl 2 rfl ?_
  refine l_aload_n C d_L_907 rfl 0 rfl ?_
  refine l_iload_n C d_L_908 rfl 3 rfl ?_
  refine l_iconst (v := 1) C d_L_909 (by decide) ?_
  refine l_iadd C d_L_910 ?_
  refine l_sld C h1 d_L_911 ?_
  refine l_aload_n C d_L_912 rfl 0 rfl ?_
  refine l_iload_n C d_L_913 rfl 3 rfl ?_
  refine l_iconst (v := 2) C d_L_914 (by decide) ?_
  refine l_iadd C d_L_915 ?_
  refine l_sld C h2 d_L_916 ?_
  refine l_aload_n C d_L_917 rfl 0 rfl ?_
  refine l_iload_n C d_L_918 rfl 3 rfl ?_
  refine l_iconst (v := 3) C d_L_919 (by decide) ?_
  refine l_iadd C d_L_920 ?_
  refine l_sld C h3 d_L_921 ?_
  refine l_callRi C (As := [.int (xs (tn (i3 + 1))), .int (xs (tn (i3 + 2))), .int (xs (tn (i3 + 3)))]) (rest := [.int r1]) m_R_seen tw_1077 rfl rfl rfl (c_R_seen _ hw) rfl rfl rfl d_L_922 (fun r2 MR2 hw => ?_)
  obtain ⟨he, hw⟩ := hw
  refine l_ic_eq C 1407 d_L_925 (by decide) he ?_
  exact kk _ _ hw
set_option maxHeartbeats 4000000 in
theorem law_26 {Y : LXt} {b L : Nat} {xs : Nat → Int32} {gX gR : GX} {MX MR : Mem} {i3 : Int32} {K : Mem → Mem → Prop} (C : ZLc Y b L xs gX gR)  (hw : wp_X_forget MX (fun r1 MX2 => wp_R_forget MR (fun r2 MR2 => r1 = r2 ∧ K MX2 MR2))) (kk : ∀ MX2 MR2, K MX2 MR2 → ZL Y b gX gR MX2 MR2 1407 [(0, .ref b), (1, .ref (ax gX 0)), (2, .ref (ax gR 0)), (3, .int i3)] []) : ZL Y b gX gR MX MR 930 [(0, .ref b), (1, .ref (ax gX 0)), (2, .ref (ax gR 0)), (3, .int i3)] [] := by
  refine l_aload_n C d_L_930 rfl 1 rfl ?_
  refine l_callXi C (As := []) (rest := []) m_X_forget tw_507 rfl rfl rfl (c_X_forget _ hw) rfl rfl rfl d_L_931 (fun r1 MX2 hw => ?_)
  refine l_aload_n C d_L_934 rfl 2 rfl ?_
  refine l_callRi C (As := []) (rest := [.int r1]) m_R_forget tw_1082 rfl rfl rfl (c_R_forget _ hw) rfl rfl rfl d_L_935 (fun r2 MR2 hw => ?_)
  obtain ⟨he, hw⟩ := hw
  refine l_ic_eq C 1407 d_L_938 (by decide) he ?_
  exact kk _ _ hw
set_option maxHeartbeats 4000000 in
theorem law_27 {Y : LXt} {b L : Nat} {xs : Nat → Int32} {gX gR : GX} {MX MR : Mem} {i3 : Int32} {K : Mem → Mem → Prop} (C : ZLc Y b L xs gX gR)  (hw : wp_X_never MX (fun r1 MX2 => wp_R_never MR (fun r2 MR2 => r1 = r2 ∧ K MX2 MR2))) (kk : ∀ MX2 MR2, K MX2 MR2 → ZL Y b gX gR MX2 MR2 1407 [(0, .ref b), (1, .ref (ax gX 0)), (2, .ref (ax gR 0)), (3, .int i3)] []) : ZL Y b gX gR MX MR 943 [(0, .ref b), (1, .ref (ax gX 0)), (2, .ref (ax gR 0)), (3, .int i3)] [] := by
  refine l_aload_n C d_L_943 rfl 1 rfl ?_
  refine l_callXi C (As := []) (rest := []) m_X_never tw_511 rfl rfl rfl (c_X_never _ hw) rfl rfl rfl d_L_944 (fun r1 MX2 hw => ?_)
  refine l_aload_n C d_L_947 rfl 2 rfl ?_
  refine l_callRi C (As := []) (rest := [.int r1]) m_R_never tw_1086 rfl rfl rfl (c_R_never _ hw) rfl rfl rfl d_L_948 (fun r2 MR2 hw => ?_)
  obtain ⟨he, hw⟩ := hw
  refine l_ic_eq C 1407 d_L_951 (by decide) he ?_
  exact kk _ _ hw
set_option maxHeartbeats 4000000 in
theorem law_28 {Y : LXt} {b L : Nat} {xs : Nat → Int32} {gX gR : GX} {MX MR : Mem} {i3 : Int32} {K : Mem → Mem → Prop} (C : ZLc Y b L xs gX gR) (h1 : vp_in (i3 + 1) L) (hw : wp_X_strengths (xs (tn (i3 + 1))) MX (fun r1 MX2 => wp_R_strengths (xs (tn (i3 + 1))) MR (fun r2 MR2 => r1 = r2 ∧ K MX2 MR2))) (kk : ∀ MX2 MR2, K MX2 MR2 → ZL Y b gX gR MX2 MR2 1407 [(0, .ref b), (1, .ref (ax gX 0)), (2, .ref (ax gR 0)), (3, .int i3)] []) : ZL Y b gX gR MX MR 956 [(0, .ref b), (1, .ref (ax gX 0)), (2, .ref (ax gR 0)), (3, .int i3)] [] := by
  refine l_aload_n C d_L_956 rfl 1 rfl ?_
  refine l_aload_n C d_L_957 rfl 0 rfl ?_
  refine l_iload_n C d_L_958 rfl 3 rfl ?_
  refine l_iconst (v := 1) C d_L_959 (by decide) ?_
  refine l_iadd C d_L_960 ?_
  refine l_sld C h1 d_L_961 ?_
  refine l_callXi C (As := [.int (xs (tn (i3 + 1)))]) (rest := []) m_X_strengths tw_519 rfl rfl rfl (c_X_strengths _ hw) rfl rfl rfl d_L_962 (fun r1 MX2 hw => ?_)
  refine l_aload_n C d_L_965 rfl 2 rfl ?_
  refine l_aload_n C d_L_966 rfl 0 rfl ?_
  refine l_iload_n C d_L_967 rfl 3 rfl ?_
  refine l_iconst (v := 1) C d_L_968 (by decide) ?_
  refine l_iadd C d_L_969 ?_
  refine l_sld C h1 d_L_970 ?_
  refine l_callRi C (As := [.int (xs (tn (i3 + 1)))]) (rest := [.int r1]) m_R_strengths tw_1098 rfl rfl rfl (c_R_strengths _ hw) rfl rfl rfl d_L_971 (fun r2 MR2 hw => ?_)
  obtain ⟨he, hw⟩ := hw
  refine l_ic_eq C 1407 d_L_974 (by decide) he ?_
  exact kk _ _ hw
set_option maxHeartbeats 4000000 in
theorem law_29 {Y : LXt} {b L : Nat} {xs : Nat → Int32} {gX gR : GX} {MX MR : Mem} {i3 : Int32} {K : Mem → Mem → Prop} (C : ZLc Y b L xs gX gR) (h1 : vp_in (i3 + 1) L) (hw : wp_X_lie (xs (tn (i3 + 1))) MX (fun r1 MX2 => wp_R_lie (xs (tn (i3 + 1))) MR (fun r2 MR2 => r1 = r2 ∧ K MX2 MR2))) (kk : ∀ MX2 MR2, K MX2 MR2 → ZL Y b gX gR MX2 MR2 1407 [(0, .ref b), (1, .ref (ax gX 0)), (2, .ref (ax gR 0)), (3, .int i3)] []) : ZL Y b gX gR MX MR 979 [(0, .ref b), (1, .ref (ax gX 0)), (2, .ref (ax gR 0)), (3, .int i3)] [] := by
  refine l_aload_n C d_L_979 rfl 1 rfl ?_
  refine l_aload_n C d_L_980 rfl 0 rfl ?_
  refine l_iload_n C d_L_981 rfl 3 rfl ?_
  refine l_iconst (v := 1) C d_L_982 (by decide) ?_
  refine l_iadd C d_L_983 ?_
  refine l_sld C h1 d_L_984 ?_
  refine l_callXi C (As := [.int (xs (tn (i3 + 1)))]) (rest := []) m_X_lie tw_527 rfl rfl rfl (c_X_lie _ hw) rfl rfl rfl d_L_985 (fun r1 MX2 hw => ?_)
  refine l_aload_n C d_L_988 rfl 2 rfl ?_
  refine l_aload_n C d_L_989 rfl 0 rfl ?_
  refine l_iload_n C d_L_990 rfl 3 rfl ?_
  refine l_iconst (v := 1) C d_L_991 (by decide) ?_
  refine l_iadd C d_L_992 ?_
  refine l_sld C h1 d_L_993 ?_
  refine l_callRi C (As := [.int (xs (tn (i3 + 1)))]) (rest := [.int r1]) m_R_lie tw_1106 rfl rfl rfl (c_R_lie _ hw) rfl rfl rfl d_L_994 (fun r2 MR2 hw => ?_)
  obtain ⟨he, hw⟩ := hw
  refine l_ic_eq C 1407 d_L_997 (by decide) he ?_
  exact kk _ _ hw
set_option maxHeartbeats 4000000 in
theorem law_30 {Y : LXt} {b L : Nat} {xs : Nat → Int32} {gX gR : GX} {MX MR : Mem} {i3 : Int32} {K : Mem → Mem → Prop} (C : ZLc Y b L xs gX gR) (h1 : vp_in (i3 + 1) L) (hw : wp_X_ask (xs (tn (i3 + 1))) MX (fun r1 MX2 => wp_R_ask (xs (tn (i3 + 1))) MR (fun r2 MR2 => r1 = r2 ∧ K MX2 MR2))) (kk : ∀ MX2 MR2, K MX2 MR2 → ZL Y b gX gR MX2 MR2 1407 [(0, .ref b), (1, .ref (ax gX 0)), (2, .ref (ax gR 0)), (3, .int i3)] []) : ZL Y b gX gR MX MR 1002 [(0, .ref b), (1, .ref (ax gX 0)), (2, .ref (ax gR 0)), (3, .int i3)] [] := by
  refine l_aload_n C d_L_1002 rfl 1 rfl ?_
  refine l_aload_n C d_L_1003 rfl 0 rfl ?_
  refine l_iload_n C d_L_1004 rfl 3 rfl ?_
  refine l_iconst (v := 1) C d_L_1005 (by decide) ?_
  refine l_iadd C d_L_1006 ?_
  refine l_sld C h1 d_L_1007 ?_
  refine l_callXi C (As := [.int (xs (tn (i3 + 1)))]) (rest := []) m_X_ask tw_531 rfl rfl rfl (c_X_ask _ hw) rfl rfl rfl d_L_1008 (fun r1 MX2 hw => ?_)
  refine l_aload_n C d_L_1011 rfl 2 rfl ?_
  refine l_aload_n C d_L_1012 rfl 0 rfl ?_
  refine l_iload_n C d_L_1013 rfl 3 rfl ?_
  refine l_iconst (v := 1) C d_L_1014 (by decide) ?_
  refine l_iadd C d_L_1015 ?_
  refine l_sld C h1 d_L_1016 ?_
  refine l_callRi C (As := [.int (xs (tn (i3 + 1)))]) (rest := [.int r1]) m_R_ask tw_1114 rfl rfl rfl (c_R_ask _ hw) rfl rfl rfl d_L_1017 (fun r2 MR2 hw => ?_)
  obtain ⟨he, hw⟩ := hw
  refine l_ic_eq C 1407 d_L_1020 (by decide) he ?_
  exact kk _ _ hw
set_option maxHeartbeats 4000000 in
theorem law_31 {Y : LXt} {b L : Nat} {xs : Nat → Int32} {gX gR : GX} {MX MR : Mem} {i3 : Int32} {K : Mem → Mem → Prop} (C : ZLc Y b L xs gX gR) (h1 : vp_in (i3 + 1) L) (h2 : vp_in (i3 + 2) L) (h3 : vp_in (i3 + 3) L) (hw : wp_X_chance (xs (tn (i3 + 1))) (xs (tn (i3 + 2))) (xs (tn (i3 + 3))) MX (fun r1 MX2 => wp_R_chance (xs (tn (i3 + 1))) (xs (tn (i3 + 2))) (xs (tn (i3 + 3))) MR (fun r2 MR2 => r1 = r2 ∧ K MX2 MR2))) (kk : ∀ MX2 MR2, K MX2 MR2 → ZL Y b gX gR MX2 MR2 1407 [(0, .ref b), (1, .ref (ax gX 0)), (2, .ref (ax gR 0)), (3, .int i3)] []) : ZL Y b gX gR MX MR 1025 [(0, .ref b), (1, .ref (ax gX 0)), (2, .ref (ax gR 0)), (3, .int i3)] [] := by
  refine l_aload_n C d_L_1025 rfl 1 rfl ?_
  refine l_aload_n C d_L_1026 rfl 0 rfl ?_
  refine l_iload_n C d_L_1027 rfl 3 rfl ?_
  refine l_iconst (v := 1) C d_L_1028 (by decide) ?_
  refine l_iadd C d_L_1029 ?_
  refine l_sld C h1 d_L_1030 ?_
  refine l_aload_n C d_L_1031 rfl 0 rfl ?_
  refine l_iload_n C d_L_1032 rfl 3 rfl ?_
  refine l_iconst (v := 2) C d_L_1033 (by decide) ?_
  refine l_iadd C d_L_1034 ?_
  refine l_sld C h2 d_L_1035 ?_
  refine l_aload_n C d_L_1036 rfl 0 rfl ?_
  refine l_iload_n C d_L_1037 rfl 3 rfl ?_
  refine l_iconst (v := 3) C d_L_1038 (by decide) ?_
  refine l_iadd C d_L_1039 ?_
  refine l_sld C h3 d_L_1040 ?_
  refine l_callXl C (As := [.int (xs (tn (i3 + 1))), .int (xs (tn (i3 + 2))), .int (xs (tn (i3 + 3)))]) (rest := []) m_X_chance tw_547 rfl rfl rfl (c_X_chance _ hw) rfl rfl rfl d_L_1041 (fun r1 MX2 hw => ?_)
  refine l_aload_n C d_L_1044 rfl 2 rfl ?_
  refine l_aload_n C d_L_1045 rfl 0 rfl ?_
  refine l_iload_n C d_L_1046 rfl 3 rfl ?_
  refine l_iconst (v := 1) C d_L_1047 (by decide) ?_
  refine l_iadd C d_L_1048 ?_
  refine l_sld C h1 d_L_1049 ?_
  refine l_aload_n C d_L_1050 rfl 0 rfl ?_
  refine l_iload_n C d_L_1051 rfl 3 rfl ?_
  refine l_iconst (v := 2) C d_L_1052 (by decide) ?_
  refine l_iadd C d_L_1053 ?_
  refine l_sld C h2 d_L_1054 ?_
  refine l_aload_n C d_L_1055 rfl 0 rfl ?_
  refine l_iload_n C d_L_1056 rfl 3 rfl ?_
  refine l_iconst (v := 3) C d_L_1057 (by decide) ?_
  refine l_iadd C d_L_1058 ?_
  refine l_sld C h3 d_L_1059 ?_
  refine l_callRl C (As := [.int (xs (tn (i3 + 1))), .int (xs (tn (i3 + 2))), .int (xs (tn (i3 + 3)))]) (rest := [.long r1]) m_R_chance tw_1130 rfl rfl rfl (c_R_chance _ hw) rfl rfl rfl d_L_1060 (fun r2 MR2 hw => ?_)
  refine l_lcmp C d_L_1063 ?_
  obtain ⟨he, hw⟩ := hw
  refine l_if_eq C 1407 d_L_1064 (by decide) (by rw [he]; exact l_cmp0) ?_
  exact kk _ _ hw
set_option maxHeartbeats 4000000 in
theorem law_32 {Y : LXt} {b L : Nat} {xs : Nat → Int32} {gX gR : GX} {MX MR : Mem} {i3 : Int32} {K : Mem → Mem → Prop} (C : ZLc Y b L xs gX gR) (h1 : vp_in (i3 + 1) L) (h2 : vp_in (i3 + 2) L) (h3 : vp_in (i3 + 3) L) (hw : wp_X_winters (xs (tn (i3 + 1))) (xs (tn (i3 + 2))) (xs (tn (i3 + 3))) MX (fun r1 MX2 => wp_R_winters (xs (tn (i3 + 1))) (xs (tn (i3 + 2))) (xs (tn (i3 + 3))) MR (fun r2 MR2 => r1 = r2 ∧ K MX2 MR2))) (kk : ∀ MX2 MR2, K MX2 MR2 → ZL Y b gX gR MX2 MR2 1407 [(0, .ref b), (1, .ref (ax gX 0)), (2, .ref (ax gR 0)), (3, .int i3)] []) : ZL Y b gX gR MX MR 1069 [(0, .ref b), (1, .ref (ax gX 0)), (2, .ref (ax gR 0)), (3, .int i3)] [] := by
  refine l_aload_n C d_L_1069 rfl 1 rfl ?_
  refine l_aload_n C d_L_1070 rfl 0 rfl ?_
  refine l_iload_n C d_L_1071 rfl 3 rfl ?_
  refine l_iconst (v := 1) C d_L_1072 (by decide) ?_
  refine l_iadd C d_L_1073 ?_
  refine l_sld C h1 d_L_1074 ?_
  refine l_aload_n C d_L_1075 rfl 0 rfl ?_
  refine l_iload_n C d_L_1076 rfl 3 rfl ?_
  refine l_iconst (v := 2) C d_L_1077 (by decide) ?_
  refine l_iadd C d_L_1078 ?_
  refine l_sld C h2 d_L_1079 ?_
  refine l_aload_n C d_L_1080 rfl 0 rfl ?_
  refine l_iload_n C d_L_1081 rfl 3 rfl ?_
  refine l_iconst (v := 3) C d_L_1082 (by decide) ?_
  refine l_iadd C d_L_1083 ?_
  refine l_sld C h3 d_L_1084 ?_
  refine l_callXi C (As := [.int (xs (tn (i3 + 1))), .int (xs (tn (i3 + 2))), .int (xs (tn (i3 + 3)))]) (rest := []) m_X_winters tw_561 rfl rfl rfl (c_X_winters _ hw) rfl rfl rfl d_L_1085 (fun r1 MX2 hw => ?_)
  refine l_aload_n C d_L_1088 rfl 2 rfl ?_
  refine l_aload_n C d_L_1089 rfl 0 rfl ?_
  refine l_iload_n C d_L_1090 rfl 3 rfl ?_
  refine l_iconst (v := 1) C d_L_1091 (by decide) ?_
  refine l_iadd C d_L_1092 ?_
  refine l_sld C h1 d_L_1093 ?_
  refine l_aload_n C d_L_1094 rfl 0 rfl ?_
  refine l_iload_n C d_L_1095 rfl 3 rfl ?_
  refine l_iconst (v := 2) C d_L_1096 (by decide) ?_
  refine l_iadd C d_L_1097 ?_
  refine l_sld C h2 d_L_1098 ?_
  refine l_aload_n C d_L_1099 rfl 0 rfl ?_
  refine l_iload_n C d_L_1100 rfl 3 rfl ?_
  refine l_iconst (v := 3) C d_L_1101 (by decide) ?_
  refine l_iadd C d_L_1102 ?_
  refine l_sld C h3 d_L_1103 ?_
  refine l_callRi C (As := [.int (xs (tn (i3 + 1))), .int (xs (tn (i3 + 2))), .int (xs (tn (i3 + 3)))]) (rest := [.int r1]) m_R_winters tw_1146 rfl rfl rfl (c_R_winters _ hw) rfl rfl rfl d_L_1104 (fun r2 MR2 hw => ?_)
  obtain ⟨he, hw⟩ := hw
  refine l_ic_eq C 1407 d_L_1107 (by decide) he ?_
  exact kk _ _ hw
set_option maxHeartbeats 4000000 in
theorem law_33 {Y : LXt} {b L : Nat} {xs : Nat → Int32} {gX gR : GX} {MX MR : Mem} {i3 : Int32} {K : Mem → Mem → Prop} (C : ZLc Y b L xs gX gR) (h1 : vp_in (i3 + 1) L) (h2 : vp_in (i3 + 2) L) (h3 : vp_in (i3 + 3) L) (hw : wp_X_sheet (xs (tn (i3 + 1))) (xs (tn (i3 + 2))) (xs (tn (i3 + 3))) MX (fun r1 MX2 => wp_R_sheet (xs (tn (i3 + 1))) (xs (tn (i3 + 2))) (xs (tn (i3 + 3))) MR (fun r2 MR2 => r1 = r2 ∧ K MX2 MR2))) (kk : ∀ MX2 MR2, K MX2 MR2 → ZL Y b gX gR MX2 MR2 1407 [(0, .ref b), (1, .ref (ax gX 0)), (2, .ref (ax gR 0)), (3, .int i3)] []) : ZL Y b gX gR MX MR 1112 [(0, .ref b), (1, .ref (ax gX 0)), (2, .ref (ax gR 0)), (3, .int i3)] [] := by
  refine l_aload_n C d_L_1112 rfl 1 rfl ?_
  refine l_aload_n C d_L_1113 rfl 0 rfl ?_
  refine l_iload_n C d_L_1114 rfl 3 rfl ?_
  refine l_iconst (v := 1) C d_L_1115 (by decide) ?_
  refine l_iadd C d_L_1116 ?_
  refine l_sld C h1 d_L_1117 ?_
  refine l_aload_n C d_L_1118 rfl 0 rfl ?_
  refine l_iload_n C d_L_1119 rfl 3 rfl ?_
  refine l_iconst (v := 2) C d_L_1120 (by decide) ?_
  refine l_iadd C d_L_1121 ?_
  refine l_sld C h2 d_L_1122 ?_
  refine l_aload_n C d_L_1123 rfl 0 rfl ?_
  refine l_iload_n C d_L_1124 rfl 3 rfl ?_
  refine l_iconst (v := 3) C d_L_1125 (by decide) ?_
  refine l_iadd C d_L_1126 ?_
  refine l_sld C h3 d_L_1127 ?_
  refine l_callXi C (As := [.int (xs (tn (i3 + 1))), .int (xs (tn (i3 + 2))), .int (xs (tn (i3 + 3)))]) (rest := []) m_X_sheet tw_570 rfl rfl rfl (c_X_sheet _ hw) rfl rfl rfl d_L_1128 (fun r1 MX2 hw => ?_)
  refine l_aload_n C d_L_1131 rfl 2 rfl ?_
  refine l_aload_n C d_L_1132 rfl 0 rfl ?_
  refine l_iload_n C d_L_1133 rfl 3 rfl ?_
  refine l_iconst (v := 1) C d_L_1134 (by decide) ?_
  refine l_iadd C d_L_1135 ?_
  refine l_sld C h1 d_L_1136 ?_
  refine l_aload_n C d_L_1137 rfl 0 rfl ?_
  refine l_iload_n C d_L_1138 rfl 3 rfl ?_
  refine l_iconst (v := 2) C d_L_1139 (by decide) ?_
  refine l_iadd C d_L_1140 ?_
  refine l_sld C h2 d_L_1141 ?_
  refine l_aload_n C d_L_1142 rfl 0 rfl ?_
  refine l_iload_n C d_L_1143 rfl 3 rfl ?_
  refine l_iconst (v := 3) C d_L_1144 (by decide) ?_
  refine l_iadd C d_L_1145 ?_
  refine l_sld C h3 d_L_1146 ?_
  refine l_callRi C (As := [.int (xs (tn (i3 + 1))), .int (xs (tn (i3 + 2))), .int (xs (tn (i3 + 3)))]) (rest := [.int r1]) m_R_sheet tw_778 rfl rfl rfl (c_R_sheet _ hw) rfl rfl rfl d_L_1147 (fun r2 MR2 hw => ?_)
  obtain ⟨he, hw⟩ := hw
  refine l_ic_eq C 1407 d_L_1150 (by decide) he ?_
  exact kk _ _ hw
set_option maxHeartbeats 4000000 in
theorem law_34 {Y : LXt} {b L : Nat} {xs : Nat → Int32} {gX gR : GX} {MX MR : Mem} {i3 : Int32} {K : Mem → Mem → Prop} (C : ZLc Y b L xs gX gR) (h1 : vp_in (i3 + 1) L) (hw : wp_X_lose (xs (tn (i3 + 1))) MX (fun r1 MX2 => wp_R_lose (xs (tn (i3 + 1))) MR (fun r2 MR2 => r1 = r2 ∧ K MX2 MR2))) (kk : ∀ MX2 MR2, K MX2 MR2 → ZL Y b gX gR MX2 MR2 1407 [(0, .ref b), (1, .ref (ax gX 0)), (2, .ref (ax gR 0)), (3, .int i3)] []) : ZL Y b gX gR MX MR 1155 [(0, .ref b), (1, .ref (ax gX 0)), (2, .ref (ax gR 0)), (3, .int i3)] [] := by
  refine l_aload_n C d_L_1155 rfl 1 rfl ?_
  refine l_aload_n C d_L_1156 rfl 0 rfl ?_
  refine l_iload_n C d_L_1157 rfl 3 rfl ?_
  refine l_iconst (v := 1) C d_L_1158 (by decide) ?_
  refine l_iadd C d_L_1159 ?_
  refine l_sld C h1 d_L_1160 ?_
  refine l_callXi C (As := [.int (xs (tn (i3 + 1)))]) (rest := []) m_X_lose tw_579 rfl rfl rfl (c_X_lose _ hw) rfl rfl rfl d_L_1161 (fun r1 MX2 hw => ?_)
  refine l_aload_n C d_L_1164 rfl 2 rfl ?_
  refine l_aload_n C d_L_1165 rfl 0 rfl ?_
  refine l_iload_n C d_L_1166 rfl 3 rfl ?_
  refine l_iconst (v := 1) C d_L_1167 (by decide) ?_
  refine l_iadd C d_L_1168 ?_
  refine l_sld C h1 d_L_1169 ?_
  refine l_callRi C (As := [.int (xs (tn (i3 + 1)))]) (rest := [.int r1]) m_R_lose tw_794 rfl rfl rfl (c_R_lose _ hw) rfl rfl rfl d_L_1170 (fun r2 MR2 hw => ?_)
  obtain ⟨he, hw⟩ := hw
  refine l_ic_eq C 1407 d_L_1173 (by decide) he ?_
  exact kk _ _ hw
set_option maxHeartbeats 4000000 in
theorem law_35 {Y : LXt} {b L : Nat} {xs : Nat → Int32} {gX gR : GX} {MX MR : Mem} {i3 : Int32} {K : Mem → Mem → Prop} (C : ZLc Y b L xs gX gR) (h1 : vp_in (i3 + 1) L) (h2 : vp_in (i3 + 2) L) (h3 : vp_in (i3 + 3) L) (h4 : vp_in (i3 + 4) L) (hw : wp_X_lay (xs (tn (i3 + 1))) (xs (tn (i3 + 2))) (xs (tn (i3 + 3))) (xs (tn (i3 + 4))) MX (fun r1 MX2 => wp_R_lay (xs (tn (i3 + 1))) (xs (tn (i3 + 2))) (xs (tn (i3 + 3))) (xs (tn (i3 + 4))) MR (fun r2 MR2 => r1 = r2 ∧ K MX2 MR2))) (kk : ∀ MX2 MR2, K MX2 MR2 → ZL Y b gX gR MX2 MR2 1407 [(0, .ref b), (1, .ref (ax gX 0)), (2, .ref (ax gR 0)), (3, .int i3)] []) : ZL Y b gX gR MX MR 1178 [(0, .ref b), (1, .ref (ax gX 0)), (2, .ref (ax gR 0)), (3, .int i3)] [] := by
  refine l_aload_n C d_L_1178 rfl 1 rfl ?_
  refine l_aload_n C d_L_1179 rfl 0 rfl ?_
  refine l_iload_n C d_L_1180 rfl 3 rfl ?_
  refine l_iconst (v := 1) C d_L_1181 (by decide) ?_
  refine l_iadd C d_L_1182 ?_
  refine l_sld C h1 d_L_1183 ?_
  refine l_aload_n C d_L_1184 rfl 0 rfl ?_
  refine l_iload_n C d_L_1185 rfl 3 rfl ?_
  refine l_iconst (v := 2) C d_L_1186 (by decide) ?_
  refine l_iadd C d_L_1187 ?_
  refine l_sld C h2 d_L_1188 ?_
  refine l_aload_n C d_L_1189 rfl 0 rfl ?_
  refine l_iload_n C d_L_1190 rfl 3 rfl ?_
  refine l_iconst (v := 3) C d_L_1191 (by decide) ?_
  refine l_iadd C d_L_1192 ?_
  refine l_sld C h3 d_L_1193 ?_
  refine l_aload_n C d_L_1194 rfl 0 rfl ?_
  refine l_iload_n C d_L_1195 rfl 3 rfl ?_
  refine l_iconst (v := 4) C d_L_1196 (by decide) ?_
  refine l_iadd C d_L_1197 ?_
  refine l_sld C h4 d_L_1198 ?_
  refine l_callXi C (As := [.int (xs (tn (i3 + 1))), .int (xs (tn (i3 + 2))), .int (xs (tn (i3 + 3))), .int (xs (tn (i3 + 4)))]) (rest := []) m_X_lay tw_583 rfl rfl rfl (c_X_lay _ hw) rfl rfl rfl d_L_1199 (fun r1 MX2 hw => ?_)
  refine l_aload_n C d_L_1202 rfl 2 rfl ?_
  refine l_aload_n C d_L_1203 rfl 0 rfl ?_
  refine l_iload_n C d_L_1204 rfl 3 rfl ?_
  refine l_iconst (v := 1) C d_L_1205 (by decide) ?_
  refine l_iadd C d_L_1206 ?_
  refine l_sld C h1 d_L_1207 ?_
  refine l_aload_n C d_L_1208 rfl 0 rfl ?_
  refine l_iload_n C d_L_1209 rfl 3 rfl ?_
  refine l_iconst (v := 2) C d_L_1210 (by decide) ?_
  refine l_iadd C d_L_1211 ?_
  refine l_sld C h2 d_L_1212 ?_
  refine l_aload_n C d_L_1213 rfl 0 rfl ?_
  refine l_iload_n C d_L_1214 rfl 3 rfl ?_
  refine l_iconst (v := 3) C d_L_1215 (by decide) ?_
  refine l_iadd C d_L_1216 ?_
  refine l_sld C h3 d_L_1217 ?_
  refine l_aload_n C d_L_1218 rfl 0 rfl ?_
  refine l_iload_n C d_L_1219 rfl 3 rfl ?_
  refine l_iconst (v := 4) C d_L_1220 (by decide) ?_
  refine l_iadd C d_L_1221 ?_
  refine l_sld C h4 d_L_1222 ?_
  refine l_callRi C (As := [.int (xs (tn (i3 + 1))), .int (xs (tn (i3 + 2))), .int (xs (tn (i3 + 3))), .int (xs (tn (i3 + 4)))]) (rest := [.int r1]) m_R_lay tw_798 rfl rfl rfl (c_R_lay _ hw) rfl rfl rfl d_L_1223 (fun r2 MR2 hw => ?_)
  obtain ⟨he, hw⟩ := hw
  refine l_ic_eq C 1407 d_L_1226 (by decide) he ?_
  exact kk _ _ hw
set_option maxHeartbeats 4000000 in
theorem law_36 {Y : LXt} {b L : Nat} {xs : Nat → Int32} {gX gR : GX} {MX MR : Mem} {i3 : Int32} {K : Mem → Mem → Prop} (C : ZLc Y b L xs gX gR) (h1 : vp_in (i3 + 1) L) (h2 : vp_in (i3 + 2) L) (h3 : vp_in (i3 + 3) L) (hw : wp_X_get (xs (tn (i3 + 1))) (xs (tn (i3 + 2))) (xs (tn (i3 + 3))) MX (fun r1 MX2 => wp_R_get (xs (tn (i3 + 1))) (xs (tn (i3 + 2))) (xs (tn (i3 + 3))) MR (fun r2 MR2 => r1 = r2 ∧ K MX2 MR2))) (kk : ∀ MX2 MR2, K MX2 MR2 → ZL Y b gX gR MX2 MR2 1407 [(0, .ref b), (1, .ref (ax gX 0)), (2, .ref (ax gR 0)), (3, .int i3)] []) : ZL Y b gX gR MX MR 1231 [(0, .ref b), (1, .ref (ax gX 0)), (2, .ref (ax gR 0)), (3, .int i3)] [] := by
  refine l_aload_n C d_L_1231 rfl 1 rfl ?_
  refine l_aload_n C d_L_1232 rfl 0 rfl ?_
  refine l_iload_n C d_L_1233 rfl 3 rfl ?_
  refine l_iconst (v := 1) C d_L_1234 (by decide) ?_
  refine l_iadd C d_L_1235 ?_
  refine l_sld C h1 d_L_1236 ?_
  refine l_aload_n C d_L_1237 rfl 0 rfl ?_
  refine l_iload_n C d_L_1238 rfl 3 rfl ?_
  refine l_iconst (v := 2) C d_L_1239 (by decide) ?_
  refine l_iadd C d_L_1240 ?_
  refine l_sld C h2 d_L_1241 ?_
  refine l_aload_n C d_L_1242 rfl 0 rfl ?_
  refine l_iload_n C d_L_1243 rfl 3 rfl ?_
  refine l_iconst (v := 3) C d_L_1244 (by decide) ?_
  refine l_iadd C d_L_1245 ?_
  refine l_sld C h3 d_L_1246 ?_
  refine l_callXi C (As := [.int (xs (tn (i3 + 1))), .int (xs (tn (i3 + 2))), .int (xs (tn (i3 + 3)))]) (rest := []) m_X_get tw_594 rfl rfl rfl (c_X_get _ hw) rfl rfl rfl d_L_1247 (fun r1 MX2 hw => ?_)
  refine l_aload_n C d_L_1250 rfl 2 rfl ?_
  refine l_aload_n C d_L_1251 rfl 0 rfl ?_
  refine l_iload_n C d_L_1252 rfl 3 rfl ?_
  refine l_iconst (v := 1) C d_L_1253 (by decide) ?_
  refine l_iadd C d_L_1254 ?_
  refine l_sld C h1 d_L_1255 ?_
  refine l_aload_n C d_L_1256 rfl 0 rfl ?_
  refine l_iload_n C d_L_1257 rfl 3 rfl ?_
  refine l_iconst (v := 2) C d_L_1258 (by decide) ?_
  refine l_iadd C d_L_1259 ?_
  refine l_sld C h2 d_L_1260 ?_
  refine l_aload_n C d_L_1261 rfl 0 rfl ?_
  refine l_iload_n C d_L_1262 rfl 3 rfl ?_
  refine l_iconst (v := 3) C d_L_1263 (by decide) ?_
  refine l_iadd C d_L_1264 ?_
  refine l_sld C h3 d_L_1265 ?_
  refine l_callRi C (As := [.int (xs (tn (i3 + 1))), .int (xs (tn (i3 + 2))), .int (xs (tn (i3 + 3)))]) (rest := [.int r1]) m_R_get tw_809 rfl rfl rfl (c_R_get _ hw) rfl rfl rfl d_L_1266 (fun r2 MR2 hw => ?_)
  obtain ⟨he, hw⟩ := hw
  refine l_ic_eq C 1407 d_L_1269 (by decide) he ?_
  exact kk _ _ hw
set_option maxHeartbeats 4000000 in
theorem law_37 {Y : LXt} {b L : Nat} {xs : Nat → Int32} {gX gR : GX} {MX MR : Mem} {i3 : Int32} {K : Mem → Mem → Prop} (C : ZLc Y b L xs gX gR) (h1 : vp_in (i3 + 1) L) (h2 : vp_in (i3 + 2) L) (h3 : vp_in (i3 + 3) L) (h4 : vp_in (i3 + 4) L) (h5 : vp_in (i3 + 5) L) (hw : wp_X_copy (xs (tn (i3 + 1))) (xs (tn (i3 + 2))) (xs (tn (i3 + 3))) (xs (tn (i3 + 4))) (xs (tn (i3 + 5))) MX (fun r1 MX2 => wp_R_copy (xs (tn (i3 + 1))) (xs (tn (i3 + 2))) (xs (tn (i3 + 3))) (xs (tn (i3 + 4))) (xs (tn (i3 + 5))) MR (fun r2 MR2 => r1 = r2 ∧ K MX2 MR2))) (kk : ∀ MX2 MR2, K MX2 MR2 → ZL Y b gX gR MX2 MR2 1407 [(0, .ref b), (1, .ref (ax gX 0)), (2, .ref (ax gR 0)), (3, .int i3)] []) : ZL Y b gX gR MX MR 1274 [(0, .ref b), (1, .ref (ax gX 0)), (2, .ref (ax gR 0)), (3, .int i3)] [] := by
  refine l_aload_n C d_L_1274 rfl 1 rfl ?_
  refine l_aload_n C d_L_1275 rfl 0 rfl ?_
  refine l_iload_n C d_L_1276 rfl 3 rfl ?_
  refine l_iconst (v := 1) C d_L_1277 (by decide) ?_
  refine l_iadd C d_L_1278 ?_
  refine l_sld C h1 d_L_1279 ?_
  refine l_aload_n C d_L_1280 rfl 0 rfl ?_
  refine l_iload_n C d_L_1281 rfl 3 rfl ?_
  refine l_iconst (v := 2) C d_L_1282 (by decide) ?_
  refine l_iadd C d_L_1283 ?_
  refine l_sld C h2 d_L_1284 ?_
  refine l_aload_n C d_L_1285 rfl 0 rfl ?_
  refine l_iload_n C d_L_1286 rfl 3 rfl ?_
  refine l_iconst (v := 3) C d_L_1287 (by decide) ?_
  refine l_iadd C d_L_1288 ?_
  refine l_sld C h3 d_L_1289 ?_
  refine l_aload_n C d_L_1290 rfl 0 rfl ?_
  refine l_iload_n C d_L_1291 rfl 3 rfl ?_
  refine l_iconst (v := 4) C d_L_1292 (by decide) ?_
  refine l_iadd C d_L_1293 ?_
  refine l_sld C h4 d_L_1294 ?_
  refine l_aload_n C d_L_1295 rfl 0 rfl ?_
  refine l_iload_n C d_L_1296 rfl 3 rfl ?_
  refine l_iconst (v := 5) C d_L_1297 (by decide) ?_
  refine l_iadd C d_L_1298 ?_
  refine l_sld C h5 d_L_1299 ?_
  refine l_callXi C (As := [.int (xs (tn (i3 + 1))), .int (xs (tn (i3 + 2))), .int (xs (tn (i3 + 3))), .int (xs (tn (i3 + 4))), .int (xs (tn (i3 + 5)))]) (rest := []) m_X_copy tw_599 rfl rfl rfl (c_X_copy _ hw) rfl rfl rfl d_L_1300 (fun r1 MX2 hw => ?_)
  refine l_aload_n C d_L_1303 rfl 2 rfl ?_
  refine l_aload_n C d_L_1304 rfl 0 rfl ?_
  refine l_iload_n C d_L_1305 rfl 3 rfl ?_
  refine l_iconst (v := 1) C d_L_1306 (by decide) ?_
  refine l_iadd C d_L_1307 ?_
  refine l_sld C h1 d_L_1308 ?_
  refine l_aload_n C d_L_1309 rfl 0 rfl ?_
  refine l_iload_n C d_L_1310 rfl 3 rfl ?_
  refine l_iconst (v := 2) C d_L_1311 (by decide) ?_
  refine l_iadd C d_L_1312 ?_
  refine l_sld C h2 d_L_1313 ?_
  refine l_aload_n C d_L_1314 rfl 0 rfl ?_
  refine l_iload_n C d_L_1315 rfl 3 rfl ?_
  refine l_iconst (v := 3) C d_L_1316 (by decide) ?_
  refine l_iadd C d_L_1317 ?_
  refine l_sld C h3 d_L_1318 ?_
  refine l_aload_n C d_L_1319 rfl 0 rfl ?_
  refine l_iload_n C d_L_1320 rfl 3 rfl ?_
  refine l_iconst (v := 4) C d_L_1321 (by decide) ?_
  refine l_iadd C d_L_1322 ?_
  refine l_sld C h4 d_L_1323 ?_
  refine l_aload_n C d_L_1324 rfl 0 rfl ?_
  refine l_iload_n C d_L_1325 rfl 3 rfl ?_
  refine l_iconst (v := 5) C d_L_1326 (by decide) ?_
  refine l_iadd C d_L_1327 ?_
  refine l_sld C h5 d_L_1328 ?_
  refine l_callRi C (As := [.int (xs (tn (i3 + 1))), .int (xs (tn (i3 + 2))), .int (xs (tn (i3 + 3))), .int (xs (tn (i3 + 4))), .int (xs (tn (i3 + 5)))]) (rest := [.int r1]) m_R_copy tw_814 rfl rfl rfl (c_R_copy _ hw) rfl rfl rfl d_L_1329 (fun r2 MR2 hw => ?_)
  obtain ⟨he, hw⟩ := hw
  refine l_ic_eq C 1407 d_L_1332 (by decide) he ?_
  exact kk _ _ hw
set_option maxHeartbeats 4000000 in
theorem law_38 {Y : LXt} {b L : Nat} {xs : Nat → Int32} {gX gR : GX} {MX MR : Mem} {i3 : Int32} {K : Mem → Mem → Prop} (C : ZLc Y b L xs gX gR) (h1 : vp_in (i3 + 1) L) (h2 : vp_in (i3 + 2) L) (hw : wp_X_write (xs (tn (i3 + 1))) (xs (tn (i3 + 2))) MX (fun r1 MX2 => wp_R_write (xs (tn (i3 + 1))) (xs (tn (i3 + 2))) MR (fun r2 MR2 => r1 = r2 ∧ K MX2 MR2))) (kk : ∀ MX2 MR2, K MX2 MR2 → ZL Y b gX gR MX2 MR2 1407 [(0, .ref b), (1, .ref (ax gX 0)), (2, .ref (ax gR 0)), (3, .int i3)] []) : ZL Y b gX gR MX MR 1337 [(0, .ref b), (1, .ref (ax gX 0)), (2, .ref (ax gR 0)), (3, .int i3)] [] := by
  refine l_aload_n C d_L_1337 rfl 1 rfl ?_
  refine l_aload_n C d_L_1338 rfl 0 rfl ?_
  refine l_iload_n C d_L_1339 rfl 3 rfl ?_
  refine l_iconst (v := 1) C d_L_1340 (by decide) ?_
  refine l_iadd C d_L_1341 ?_
  refine l_sld C h1 d_L_1342 ?_
  refine l_aload_n C d_L_1343 rfl 0 rfl ?_
  refine l_iload_n C d_L_1344 rfl 3 rfl ?_
  refine l_iconst (v := 2) C d_L_1345 (by decide) ?_
  refine l_iadd C d_L_1346 ?_
  refine l_sld C h2 d_L_1347 ?_
  refine l_callXi C (As := [.int (xs (tn (i3 + 1))), .int (xs (tn (i3 + 2)))]) (rest := []) m_X_write tw_607 rfl rfl rfl (c_X_write _ hw) rfl rfl rfl d_L_1348 (fun r1 MX2 hw => ?_)
  refine l_aload_n C d_L_1351 rfl 2 rfl ?_
  refine l_aload_n C d_L_1352 rfl 0 rfl ?_
  refine l_iload_n C d_L_1353 rfl 3 rfl ?_
  refine l_iconst (v := 1) C d_L_1354 (by decide) ?_
  refine l_iadd C d_L_1355 ?_
  refine l_sld C h1 d_L_1356 ?_
  refine l_aload_n C d_L_1357 rfl 0 rfl ?_
  refine l_iload_n C d_L_1358 rfl 3 rfl ?_
  refine l_iconst (v := 2) C d_L_1359 (by decide) ?_
  refine l_iadd C d_L_1360 ?_
  refine l_sld C h2 d_L_1361 ?_
  refine l_callRi C (As := [.int (xs (tn (i3 + 1))), .int (xs (tn (i3 + 2)))]) (rest := [.int r1]) m_R_write tw_1160 rfl rfl rfl (c_R_write _ hw) rfl rfl rfl d_L_1362 (fun r2 MR2 hw => ?_)
  obtain ⟨he, hw⟩ := hw
  refine l_ic_eq C 1407 d_L_1365 (by decide) he ?_
  exact kk _ _ hw
set_option maxHeartbeats 4000000 in
theorem law_39 {Y : LXt} {b L : Nat} {xs : Nat → Int32} {gX gR : GX} {MX MR : Mem} {i3 : Int32} {K : Mem → Mem → Prop} (C : ZLc Y b L xs gX gR) (h1 : vp_in (i3 + 1) L) (hw : wp_X_count (xs (tn (i3 + 1))) MX (fun r1 MX2 => wp_R_count (xs (tn (i3 + 1))) MR (fun r2 MR2 => r1 = r2 ∧ K MX2 MR2))) (kk : ∀ MX2 MR2, K MX2 MR2 → ZL Y b gX gR MX2 MR2 1407 [(0, .ref b), (1, .ref (ax gX 0)), (2, .ref (ax gR 0)), (3, .int i3)] []) : ZL Y b gX gR MX MR 1370 [(0, .ref b), (1, .ref (ax gX 0)), (2, .ref (ax gR 0)), (3, .int i3)] [] := by
  refine l_aload_n C d_L_1370 rfl 1 rfl ?_
  refine l_aload_n C d_L_1371 rfl 0 rfl ?_
  refine l_iload_n C d_L_1372 rfl 3 rfl ?_
  refine l_iconst (v := 1) C d_L_1373 (by decide) ?_
  refine l_iadd C d_L_1374 ?_
  refine l_sld C h1 d_L_1375 ?_
  refine l_callXi C (As := [.int (xs (tn (i3 + 1)))]) (rest := []) m_X_count tw_614 rfl rfl rfl (c_X_count _ hw) rfl rfl rfl d_L_1376 (fun r1 MX2 hw => ?_)
  refine l_aload_n C d_L_1379 rfl 2 rfl ?_
  refine l_aload_n C d_L_1380 rfl 0 rfl ?_
  refine l_iload_n C d_L_1381 rfl 3 rfl ?_
  refine l_iconst (v := 1) C d_L_1382 (by decide) ?_
  refine l_iadd C d_L_1383 ?_
  refine l_sld C h1 d_L_1384 ?_
  refine l_callRi C (As := [.int (xs (tn (i3 + 1)))]) (rest := [.int r1]) m_R_count tw_1164 rfl rfl rfl (c_R_count _ hw) rfl rfl rfl d_L_1385 (fun r2 MR2 hw => ?_)
  obtain ⟨he, hw⟩ := hw
  refine l_ic_eq C 1407 d_L_1388 (by decide) he ?_
  exact kk _ _ hw
set_option maxHeartbeats 4000000 in
theorem law_40 {Y : LXt} {b L : Nat} {xs : Nat → Int32} {gX gR : GX} {MX MR : Mem} {i3 : Int32} {K : Mem → Mem → Prop} (C : ZLc Y b L xs gX gR)  (hw : wp_X_digest MX (fun r1 MX2 => wp_R_digest MR (fun r2 MR2 => r1 = r2 ∧ K MX2 MR2))) (kk : ∀ MX2 MR2, K MX2 MR2 → ZL Y b gX gR MX2 MR2 1407 [(0, .ref b), (1, .ref (ax gX 0)), (2, .ref (ax gR 0)), (3, .int i3)] []) : ZL Y b gX gR MX MR 1393 [(0, .ref b), (1, .ref (ax gX 0)), (2, .ref (ax gR 0)), (3, .int i3)] [] := by
  refine l_aload_n C d_L_1393 rfl 1 rfl ?_
  refine l_callXl C (As := []) (rest := []) m_X_digest tw_622 rfl rfl rfl (c_X_digest _ hw) rfl rfl rfl d_L_1394 (fun r1 MX2 hw => ?_)
  refine l_aload_n C d_L_1397 rfl 2 rfl ?_
  refine l_callRl C (As := []) (rest := [.long r1]) m_R_digest tw_1168 rfl rfl rfl (c_R_digest _ hw) rfl rfl rfl d_L_1398 (fun r2 MR2 hw => ?_)
  refine l_lcmp C d_L_1401 ?_
  obtain ⟨he, hw⟩ := hw
  refine l_if_eq C 1407 d_L_1402 (by decide) (by rw [he]; exact l_cmp0) ?_
  exact kk _ _ hw
set_option maxHeartbeats 4000000 in
set_option maxRecDepth 100000 in
/-- THE LAW'S LOOP, over any invariant K of the two memories that every call keeps -/
theorem law_loop {Y : LXt} {b L : Nat} {xs : Nat → Int32} {gX gR : GX} {K : Mem → Mem → Prop} (C : ZLc Y b L xs gX gR) (hL : L ≤ 3072)
    (hc_0 : ∀ (MX MR : Mem) (a1 a2 : Int32), K MX MR → wp_X_type a1 a2 MX (fun r1 MX2 => wp_R_type a1 a2 MR (fun r2 MR2 => r1 = r2 ∧ K MX2 MR2)))
    (hc_1 : ∀ (MX MR : Mem) (a1 : Int32), K MX MR → wp_X_wipe a1 MX (fun r1 MX2 => wp_R_wipe a1 MR (fun r2 MR2 => r1 = r2 ∧ K MX2 MR2)))
    (hc_2 : ∀ (MX MR : Mem) (a1 : Int32), K MX MR → wp_X_undo a1 MX (fun r1 MX2 => wp_R_undo a1 MR (fun r2 MR2 => r1 = r2 ∧ K MX2 MR2)))
    (hc_3 : ∀ (MX MR : Mem) (a1 : Int32), K MX MR → wp_X_fault a1 MX (fun r1 => wp_R_fault a1 MR (fun r2 MR2 => r1 = r2 ∧ K MX MR2)))
    (hc_4 : ∀ (MX MR : Mem) (a1 : Int32), K MX MR → wp_X_land a1 MX (fun r1 => wp_R_land a1 MR (fun r2 MR2 => r1 = r2 ∧ K MX MR2)))
    (hc_5 : ∀ (MX MR : Mem) (a1 : Int32), K MX MR → wp_X_fall a1 MX (fun r1 => wp_R_fall a1 MR (fun r2 MR2 => r1 = r2 ∧ K MX MR2)))
    (hc_6 : ∀ (MX MR : Mem) (a1 a2 : Int32), K MX MR → wp_X_plough a1 a2 MX (fun r1 => wp_R_plough a1 a2 MR (fun r2 MR2 => r1 = r2 ∧ K MX MR2)))
    (hc_7 : ∀ (MX MR : Mem) (a1 : Int32), K MX MR → wp_X_bus a1 MX (fun r1 => wp_R_bus a1 MR (fun r2 MR2 => r1 = r2 ∧ K MX MR2)))
    (hc_8 : ∀ (MX MR : Mem) (a1 : Int32), K MX MR → wp_X_wind a1 MX (fun r1 MX2 => wp_R_wind a1 MR (fun r2 MR2 => r1 = r2 ∧ K MX2 MR2)))
    (hc_9 : ∀ (MX MR : Mem) (a1 a2 a3 : Int32), K MX MR → wp_X_event a1 a2 a3 MX (fun r1 MX2 => wp_R_event a1 a2 a3 MR (fun r2 MR2 => r1 = r2 ∧ K MX2 MR2)))
    (hc_10 : ∀ (MX MR : Mem), K MX MR → wp_X_back MX (fun r1 MX2 => wp_R_back MR (fun r2 MR2 => r1 = r2 ∧ K MX2 MR2)))
    (hc_11 : ∀ (MX MR : Mem) (a1 : Int32), K MX MR → wp_X_read a1 MX (fun r1 MX2 => wp_R_read a1 MR (fun r2 MR2 => r1 = r2 ∧ K MX2 MR2)))
    (hc_12 : ∀ (MX MR : Mem) (a1 a2 : Int32), K MX MR → wp_X_deep a1 a2 MX (fun r1 MX2 => wp_R_deep a1 a2 MR (fun r2 MR2 => r1 = r2 ∧ K MX2 MR2)))
    (hc_13 : ∀ (MX MR : Mem) (a1 a2 a3 : Int32), K MX MR → wp_X_at a1 a2 a3 MX (fun r1 MX2 => wp_R_at a1 a2 a3 MR (fun r2 MR2 => r1 = r2 ∧ K MX2 MR2)))
    (hc_14 : ∀ (MX MR : Mem) (a1 a2 : Int32), K MX MR → wp_X_rides a1 a2 MX (fun r1 MX2 => wp_R_rides a1 a2 MR (fun r2 MR2 => r1 = r2 ∧ K MX2 MR2)))
    (hc_15 : ∀ (MX MR : Mem) (a1 a2 : Int32), K MX MR → wp_X_snow a1 a2 MX (fun r1 MX2 => wp_R_snow a1 a2 MR (fun r2 MR2 => r1 = r2 ∧ K MX2 MR2)))
    (hc_16 : ∀ (MX MR : Mem) (a1 a2 : Int32), K MX MR → wp_X_over a1 a2 MX (fun r1 MX2 => wp_R_over a1 a2 MR (fun r2 MR2 => r1 = r2 ∧ K MX2 MR2)))
    (hc_17 : ∀ (MX MR : Mem) (a1 a2 : Int32), K MX MR → wp_X_cleared a1 a2 MX (fun r1 MX2 => wp_R_cleared a1 a2 MR (fun r2 MR2 => r1 = r2 ∧ K MX2 MR2)))
    (hc_18 : ∀ (MX MR : Mem) (a1 : Int32), K MX MR → wp_X_deepest a1 MX (fun r1 MX2 => wp_R_deepest a1 MR (fun r2 MR2 => r1 = r2 ∧ K MX2 MR2)))
    (hc_19 : ∀ (MX MR : Mem), K MX MR → wp_X_shut MX (fun r1 MX2 => wp_R_shut MR (fun r2 MR2 => r1 = r2 ∧ K MX2 MR2)))
    (hc_20 : ∀ (MX MR : Mem), K MX MR → wp_X_best MX (fun r1 MX2 => wp_R_best MR (fun r2 MR2 => r1 = r2 ∧ K MX2 MR2)))
    (hc_21 : ∀ (MX MR : Mem) (a1 a2 : Int32), K MX MR → wp_X_begin a1 a2 MX (fun r1 MX2 => wp_R_begin a1 a2 MR (fun r2 MR2 => r1 = r2 ∧ K MX2 MR2)))
    (hc_22 : ∀ (MX MR : Mem) (a1 : Int32), K MX MR → wp_X_hedge a1 MX (fun r1 MX2 => wp_R_hedge a1 MR (fun r2 MR2 => r1 = r2 ∧ K MX2 MR2)))
    (hc_23 : ∀ (MX MR : Mem) (a1 a2 : Int32), K MX MR → wp_X_start a1 a2 MX (fun r1 MX2 => wp_R_start a1 a2 MR (fun r2 MR2 => r1 = r2 ∧ K MX2 MR2)))
    (hc_24 : ∀ (MX MR : Mem) (a1 : Int32), K MX MR → wp_X_spare a1 MX (fun r1 MX2 => wp_R_spare a1 MR (fun r2 MR2 => r1 = r2 ∧ K MX2 MR2)))
    (hc_25 : ∀ (MX MR : Mem) (a1 a2 a3 : Int32), K MX MR → wp_X_seen a1 a2 a3 MX (fun r1 MX2 => wp_R_seen a1 a2 a3 MR (fun r2 MR2 => r1 = r2 ∧ K MX2 MR2)))
    (hc_26 : ∀ (MX MR : Mem), K MX MR → wp_X_forget MX (fun r1 MX2 => wp_R_forget MR (fun r2 MR2 => r1 = r2 ∧ K MX2 MR2)))
    (hc_27 : ∀ (MX MR : Mem), K MX MR → wp_X_never MX (fun r1 MX2 => wp_R_never MR (fun r2 MR2 => r1 = r2 ∧ K MX2 MR2)))
    (hc_28 : ∀ (MX MR : Mem) (a1 : Int32), K MX MR → wp_X_strengths a1 MX (fun r1 MX2 => wp_R_strengths a1 MR (fun r2 MR2 => r1 = r2 ∧ K MX2 MR2)))
    (hc_29 : ∀ (MX MR : Mem) (a1 : Int32), K MX MR → wp_X_lie a1 MX (fun r1 MX2 => wp_R_lie a1 MR (fun r2 MR2 => r1 = r2 ∧ K MX2 MR2)))
    (hc_30 : ∀ (MX MR : Mem) (a1 : Int32), K MX MR → wp_X_ask a1 MX (fun r1 MX2 => wp_R_ask a1 MR (fun r2 MR2 => r1 = r2 ∧ K MX2 MR2)))
    (hc_31 : ∀ (MX MR : Mem) (a1 a2 a3 : Int32), K MX MR → wp_X_chance a1 a2 a3 MX (fun r1 MX2 => wp_R_chance a1 a2 a3 MR (fun r2 MR2 => r1 = r2 ∧ K MX2 MR2)))
    (hc_32 : ∀ (MX MR : Mem) (a1 a2 a3 : Int32), K MX MR → wp_X_winters a1 a2 a3 MX (fun r1 MX2 => wp_R_winters a1 a2 a3 MR (fun r2 MR2 => r1 = r2 ∧ K MX2 MR2)))
    (hc_33 : ∀ (MX MR : Mem) (a1 a2 a3 : Int32), K MX MR → wp_X_sheet a1 a2 a3 MX (fun r1 MX2 => wp_R_sheet a1 a2 a3 MR (fun r2 MR2 => r1 = r2 ∧ K MX2 MR2)))
    (hc_34 : ∀ (MX MR : Mem) (a1 : Int32), K MX MR → wp_X_lose a1 MX (fun r1 MX2 => wp_R_lose a1 MR (fun r2 MR2 => r1 = r2 ∧ K MX2 MR2)))
    (hc_35 : ∀ (MX MR : Mem) (a1 a2 a3 a4 : Int32), K MX MR → wp_X_lay a1 a2 a3 a4 MX (fun r1 MX2 => wp_R_lay a1 a2 a3 a4 MR (fun r2 MR2 => r1 = r2 ∧ K MX2 MR2)))
    (hc_36 : ∀ (MX MR : Mem) (a1 a2 a3 : Int32), K MX MR → wp_X_get a1 a2 a3 MX (fun r1 MX2 => wp_R_get a1 a2 a3 MR (fun r2 MR2 => r1 = r2 ∧ K MX2 MR2)))
    (hc_37 : ∀ (MX MR : Mem) (a1 a2 a3 a4 a5 : Int32), K MX MR → wp_X_copy a1 a2 a3 a4 a5 MX (fun r1 MX2 => wp_R_copy a1 a2 a3 a4 a5 MR (fun r2 MR2 => r1 = r2 ∧ K MX2 MR2)))
    (hc_38 : ∀ (MX MR : Mem) (a1 a2 : Int32), K MX MR → wp_X_write a1 a2 MX (fun r1 MX2 => wp_R_write a1 a2 MR (fun r2 MR2 => r1 = r2 ∧ K MX2 MR2)))
    (hc_39 : ∀ (MX MR : Mem) (a1 : Int32), K MX MR → wp_X_count a1 MX (fun r1 MX2 => wp_R_count a1 MR (fun r2 MR2 => r1 = r2 ∧ K MX2 MR2)))
    (hc_40 : ∀ (MX MR : Mem), K MX MR → wp_X_digest MX (fun r1 MX2 => wp_R_digest MR (fun r2 MR2 => r1 = r2 ∧ K MX2 MR2))) :
    ∀ (n i : Nat) (MX MR : Mem), i ≤ L + 6 → L + 7 ≤ i + n → K MX MR → ZL Y b gX gR MX MR 18 [(0, .ref b), (1, .ref (ax gX 0)), (2, .ref (ax gR 0)), (3, .int (nI i))] [] := by
  intro n
  induction n with
  | zero => intro i MX MR h1 h2; exact absurd h2 (by omega)
  | succ n ih =>
    intro i MX MR hi hn hK0
    refine l_iload_n C d_L_18 rfl 3 rfl ?_
    refine l_aload_n C d_L_19 rfl 0 rfl ?_
    refine l_slen C d_L_20 ?_
    refine l_bipush (v := 6) C d_L_21 (by decide) ?_
    refine l_isub C d_L_23 ?_
    refine l_ic_gt C 1413 d_L_24 (by decide) (fun _ => ?_) (fun h => ?_)
    · refine l_iconst (v := 1) C d_L_1413 (by decide) ?_
      exact l_ret C d_L_1414
    · have hlt : i + 6 ≤ L := by
        rw [Int32.lt_iff_toInt_lt, show (6 : Int32) = nI 6 from rfl, pk_sub_toInt (by omega) (by omega), nI_toInt (by omega)] at h
        omega
      have hin : ∀ k, k < 6 → vp_in (nI i + nI k) L := fun k hk => by rw [nI_add]; exact vp_in_nI (by omega) (by omega)
      have h0 : vp_in (nI i) L := vp_in_nI (by omega) (by omega)
      refine l_aload_n C d_L_27 rfl 0 rfl ?_
      refine l_iload_n C d_L_28 rfl 3 rfl ?_
      refine l_sld C h0 d_L_29 ?_
      refine l_bipush (v := 63) C d_L_30 (by decide) ?_
      refine l_iand C d_L_32 ?_
      have kk : ∀ MX2 MR2, K MX2 MR2 → ZL Y b gX gR MX2 MR2 1407 [(0, .ref b), (1, .ref (ax gX 0)), (2, .ref (ax gR 0)), (3, .int (nI i))] [] := by
        intro MX2 MR2 hK2
        refine l_iinc (v := nI (i + 6)) (lv' := [(3, .int (nI (i + 6))), (0, .ref b), (1, .ref (ax gX 0)), (2, .ref (ax gR 0))]) C d_L_1407 3 rfl (by rw [show Int32.ofInt 6 = nI 6 from rfl, nI_add]) rfl rfl ?_
        refine l_goto C 18 d_L_1410 (by decide) ?_
        refine l_sub [1, 2, 3, 0] rfl ?_
        exact ih (i + 6) MX2 MR2 (by omega) (by omega) hK2
      refine l_table C [212, 245, 268, 291, 314, 337, 360, 393, 416, 439, 482, 495, 518, 551, 594, 627, 660, 693, 726, 749, 762, 775, 808, 831, 864, 887, 930, 943, 956, 979, 1002, 1025, 1069, 1112, 1155, 1178, 1231, 1274, 1337, 1370, 1393] 1407 d_L_33 (by decide) (by decide) (by decide) (by decide) (fun k t hk hx => ?_) (kk _ _ hK0)
      rcases k with _ | _ | _ | _ | _ | _ | _ | _ | _ | _ | _ | _ | _ | _ | _ | _ | _ | _ | _ | _ | _ | _ | _ | _ | _ | _ | _ | _ | _ | _ | _ | _ | _ | _ | _ | _ | _ | _ | _ | _ | _ | k
      · cases hk
        exact law_0 C (hin 1 (by decide)) (hin 2 (by decide)) (hc_0 MX MR _ _ hK0) kk
      · cases hk
        exact law_1 C (hin 1 (by decide)) (hc_1 MX MR _ hK0) kk
      · cases hk
        exact law_2 C (hin 1 (by decide)) (hc_2 MX MR _ hK0) kk
      · cases hk
        exact law_3 C (hin 1 (by decide)) (hc_3 MX MR _ hK0) kk
      · cases hk
        exact law_4 C (hin 1 (by decide)) (hc_4 MX MR _ hK0) kk
      · cases hk
        exact law_5 C (hin 1 (by decide)) (hc_5 MX MR _ hK0) kk
      · cases hk
        exact law_6 C (hin 1 (by decide)) (hin 2 (by decide)) (hc_6 MX MR _ _ hK0) kk
      · cases hk
        exact law_7 C (hin 1 (by decide)) (hc_7 MX MR _ hK0) kk
      · cases hk
        exact law_8 C (hin 1 (by decide)) (hc_8 MX MR _ hK0) kk
      · cases hk
        exact law_9 C (hin 1 (by decide)) (hin 2 (by decide)) (hin 3 (by decide)) (hc_9 MX MR _ _ _ hK0) kk
      · cases hk
        exact law_10 C (hc_10 MX MR  hK0) kk
      · cases hk
        exact law_11 C (hin 1 (by decide)) (hc_11 MX MR _ hK0) kk
      · cases hk
        exact law_12 C (hin 1 (by decide)) (hin 2 (by decide)) (hc_12 MX MR _ _ hK0) kk
      · cases hk
        exact law_13 C (hin 1 (by decide)) (hin 2 (by decide)) (hin 3 (by decide)) (hc_13 MX MR _ _ _ hK0) kk
      · cases hk
        exact law_14 C (hin 1 (by decide)) (hin 2 (by decide)) (hc_14 MX MR _ _ hK0) kk
      · cases hk
        exact law_15 C (hin 1 (by decide)) (hin 2 (by decide)) (hc_15 MX MR _ _ hK0) kk
      · cases hk
        exact law_16 C (hin 1 (by decide)) (hin 2 (by decide)) (hc_16 MX MR _ _ hK0) kk
      · cases hk
        exact law_17 C (hin 1 (by decide)) (hin 2 (by decide)) (hc_17 MX MR _ _ hK0) kk
      · cases hk
        exact law_18 C (hin 1 (by decide)) (hc_18 MX MR _ hK0) kk
      · cases hk
        exact law_19 C (hc_19 MX MR  hK0) kk
      · cases hk
        exact law_20 C (hc_20 MX MR  hK0) kk
      · cases hk
        exact law_21 C (hin 1 (by decide)) (hin 2 (by decide)) (hc_21 MX MR _ _ hK0) kk
      · cases hk
        exact law_22 C (hin 1 (by decide)) (hc_22 MX MR _ hK0) kk
      · cases hk
        exact law_23 C (hin 1 (by decide)) (hin 2 (by decide)) (hc_23 MX MR _ _ hK0) kk
      · cases hk
        exact law_24 C (hin 1 (by decide)) (hc_24 MX MR _ hK0) kk
      · cases hk
        exact law_25 C (hin 1 (by decide)) (hin 2 (by decide)) (hin 3 (by decide)) (hc_25 MX MR _ _ _ hK0) kk
      · cases hk
        exact law_26 C (hc_26 MX MR  hK0) kk
      · cases hk
        exact law_27 C (hc_27 MX MR  hK0) kk
      · cases hk
        exact law_28 C (hin 1 (by decide)) (hc_28 MX MR _ hK0) kk
      · cases hk
        exact law_29 C (hin 1 (by decide)) (hc_29 MX MR _ hK0) kk
      · cases hk
        exact law_30 C (hin 1 (by decide)) (hc_30 MX MR _ hK0) kk
      · cases hk
        exact law_31 C (hin 1 (by decide)) (hin 2 (by decide)) (hin 3 (by decide)) (hc_31 MX MR _ _ _ hK0) kk
      · cases hk
        exact law_32 C (hin 1 (by decide)) (hin 2 (by decide)) (hin 3 (by decide)) (hc_32 MX MR _ _ _ hK0) kk
      · cases hk
        exact law_33 C (hin 1 (by decide)) (hin 2 (by decide)) (hin 3 (by decide)) (hc_33 MX MR _ _ _ hK0) kk
      · cases hk
        exact law_34 C (hin 1 (by decide)) (hc_34 MX MR _ hK0) kk
      · cases hk
        exact law_35 C (hin 1 (by decide)) (hin 2 (by decide)) (hin 3 (by decide)) (hin 4 (by decide)) (hc_35 MX MR _ _ _ _ hK0) kk
      · cases hk
        exact law_36 C (hin 1 (by decide)) (hin 2 (by decide)) (hin 3 (by decide)) (hc_36 MX MR _ _ _ hK0) kk
      · cases hk
        exact law_37 C (hin 1 (by decide)) (hin 2 (by decide)) (hin 3 (by decide)) (hin 4 (by decide)) (hin 5 (by decide)) (hc_37 MX MR _ _ _ _ _ hK0) kk
      · cases hk
        exact law_38 C (hin 1 (by decide)) (hin 2 (by decide)) (hc_38 MX MR _ _ hK0) kk
      · cases hk
        exact law_39 C (hin 1 (by decide)) (hc_39 MX MR _ hK0) kk
      · cases hk
        exact law_40 C (hc_40 MX MR  hK0) kk
      · simp at hk
