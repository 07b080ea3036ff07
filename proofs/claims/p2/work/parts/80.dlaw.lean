theorem dW_0 : decode code 0 = .ok (.new 8, 3) := by decide +kernel
theorem dW_3 : decode code 3 = .ok (.dup, 1) := by decide +kernel
theorem dW_4 : decode code 4 = .ok (.invokespecial 167, 3) := by decide +kernel
theorem dW_7 : decode code 7 = .ok (.astore_n 1, 1) := by decide +kernel
theorem dW_8 : decode code 8 = .ok (.new 168, 3) := by decide +kernel
theorem dW_11 : decode code 11 = .ok (.dup, 1) := by decide +kernel
theorem dW_12 : decode code 12 = .ok (.invokespecial 170, 3) := by decide +kernel
theorem dW_15 : decode code 15 = .ok (.astore_n 2, 1) := by decide +kernel
theorem dW_16 : decode code 16 = .ok (.new 14, 3) := by decide +kernel
theorem dW_19 : decode code 19 = .ok (.dup, 1) := by decide +kernel
theorem dW_20 : decode code 20 = .ok (.invokespecial 171, 3) := by decide +kernel
theorem dW_23 : decode code 23 = .ok (.astore_n 3, 1) := by decide +kernel
theorem dW_24 : decode code 24 = .ok (.iconst 0, 1) := by decide +kernel
theorem dW_25 : decode code 25 = .ok (.istore 4, 2) := by decide +kernel
theorem dW_27 : decode code 27 = .ok (.iload 4, 2) := by decide +kernel
theorem dW_29 : decode code 29 = .ok (.aload_n 0, 1) := by decide +kernel
theorem dW_30 : decode code 30 = .ok (.arraylength, 1) := by decide +kernel
theorem dW_31 : decode code 31 = .ok (.iconst 5, 1) := by decide +kernel
theorem dW_32 : decode code 32 = .ok (.isub, 1) := by decide +kernel
theorem dW_33 : decode code 33 = .ok (.if_icmp .gt 2329, 3) := by decide +kernel
theorem dW_36 : decode code 36 = .ok (.aload_n 0, 1) := by decide +kernel
theorem dW_37 : decode code 37 = .ok (.iload 4, 2) := by decide +kernel
theorem dW_39 : decode code 39 = .ok (.iaload, 1) := by decide +kernel
theorem dW_40 : decode code 40 = .ok (.bipush 63, 2) := by decide +kernel
theorem dW_42 : decode code 42 = .ok (.iand, 1) := by decide +kernel
theorem dW_43 : decode code 43 = .ok (.tableswitch 2313 0 49 #[213, 322, 402, 454, 506, 570, 626, 682, 710, 766, 806, 819, 887, 927, 1007, 1075, 1103, 1131, 1172, 1213, 1229, 1245, 1297, 1325, 1377, 1405, 1461, 1489, 1529, 1569, 1597, 1625, 1653, 1705, 1757, 1797, 1825, 1853, 1909, 1949, 1989, 2029, 2070, 2126, 2154, 2206, 2246, 2274, 2287, 2300], 213) := by decide +kernel
theorem dW_256 : decode code 256 = .ok (.aload_n 1, 1) := by decide +kernel
theorem dW_257 : decode code 257 = .ok (.aload_n 0, 1) := by decide +kernel
theorem dW_258 : decode code 258 = .ok (.iload 4, 2) := by decide +kernel
theorem dW_260 : decode code 260 = .ok (.iconst 1, 1) := by decide +kernel
theorem dW_261 : decode code 261 = .ok (.iadd, 1) := by decide +kernel
theorem dW_262 : decode code 262 = .ok (.iaload, 1) := by decide +kernel
theorem dW_263 : decode code 263 = .ok (.aload_n 0, 1) := by decide +kernel
theorem dW_264 : decode code 264 = .ok (.iload 4, 2) := by decide +kernel
theorem dW_266 : decode code 266 = .ok (.iconst 2, 1) := by decide +kernel
theorem dW_267 : decode code 267 = .ok (.iadd, 1) := by decide +kernel
theorem dW_268 : decode code 268 = .ok (.iaload, 1) := by decide +kernel
theorem dW_269 : decode code 269 = .ok (.ifCond .eq 7, 3) := by decide +kernel
theorem dW_272 : decode code 272 = .ok (.iconst 1, 1) := by decide +kernel
theorem dW_273 : decode code 273 = .ok (.goto 4, 3) := by decide +kernel
theorem dW_276 : decode code 276 = .ok (.iconst 0, 1) := by decide +kernel
theorem dW_277 : decode code 277 = .ok (.aload_n 0, 1) := by decide +kernel
theorem dW_278 : decode code 278 = .ok (.iload 4, 2) := by decide +kernel
theorem dW_280 : decode code 280 = .ok (.iconst 3, 1) := by decide +kernel
theorem dW_281 : decode code 281 = .ok (.iadd, 1) := by decide +kernel
theorem dW_282 : decode code 282 = .ok (.iaload, 1) := by decide +kernel
theorem dW_283 : decode code 283 = .ok (.aload_n 0, 1) := by decide +kernel
theorem dW_284 : decode code 284 = .ok (.iload 4, 2) := by decide +kernel
theorem dW_286 : decode code 286 = .ok (.iconst 4, 1) := by decide +kernel
theorem dW_287 : decode code 287 = .ok (.iadd, 1) := by decide +kernel
theorem dW_288 : decode code 288 = .ok (.iaload, 1) := by decide +kernel
theorem dW_289 : decode code 289 = .ok (.aload_n 3, 1) := by decide +kernel
theorem dW_290 : decode code 290 = .ok (.invokestatic 172, 3) := by decide +kernel
theorem dW_293 : decode code 293 = .ok (.istore 5, 2) := by decide +kernel
theorem dW_295 : decode code 295 = .ok (.aload_n 2, 1) := by decide +kernel
theorem dW_296 : decode code 296 = .ok (.aload_n 0, 1) := by decide +kernel
theorem dW_297 : decode code 297 = .ok (.iload 4, 2) := by decide +kernel
theorem dW_299 : decode code 299 = .ok (.iconst 1, 1) := by decide +kernel
theorem dW_300 : decode code 300 = .ok (.iadd, 1) := by decide +kernel
theorem dW_301 : decode code 301 = .ok (.iaload, 1) := by decide +kernel
theorem dW_302 : decode code 302 = .ok (.aload_n 0, 1) := by decide +kernel
theorem dW_303 : decode code 303 = .ok (.iload 4, 2) := by decide +kernel
theorem dW_305 : decode code 305 = .ok (.iconst 2, 1) := by decide +kernel
theorem dW_306 : decode code 306 = .ok (.iadd, 1) := by decide +kernel
theorem dW_307 : decode code 307 = .ok (.iaload, 1) := by decide +kernel
theorem dW_308 : decode code 308 = .ok (.ifCond .eq 7, 3) := by decide +kernel
theorem dW_311 : decode code 311 = .ok (.iconst 1, 1) := by decide +kernel
theorem dW_312 : decode code 312 = .ok (.goto 4, 3) := by decide +kernel
theorem dW_315 : decode code 315 = .ok (.iconst 0, 1) := by decide +kernel
theorem dW_316 : decode code 316 = .ok (.aload_n 0, 1) := by decide +kernel
theorem dW_317 : decode code 317 = .ok (.iload 4, 2) := by decide +kernel
theorem dW_319 : decode code 319 = .ok (.iconst 3, 1) := by decide +kernel
theorem dW_320 : decode code 320 = .ok (.iadd, 1) := by decide +kernel
theorem dW_321 : decode code 321 = .ok (.iaload, 1) := by decide +kernel
theorem dW_322 : decode code 322 = .ok (.aload_n 0, 1) := by decide +kernel
theorem dW_323 : decode code 323 = .ok (.iload 4, 2) := by decide +kernel
theorem dW_325 : decode code 325 = .ok (.iconst 4, 1) := by decide +kernel
theorem dW_326 : decode code 326 = .ok (.iadd, 1) := by decide +kernel
theorem dW_327 : decode code 327 = .ok (.iaload, 1) := by decide +kernel
theorem dW_328 : decode code 328 = .ok (.invokevirtual 177, 3) := by decide +kernel
theorem dW_331 : decode code 331 = .ok (.istore 6, 2) := by decide +kernel
theorem dW_333 : decode code 333 = .ok (.aload_n 2, 1) := by decide +kernel
theorem dW_334 : decode code 334 = .ok (.invokevirtual 178, 3) := by decide +kernel
theorem dW_337 : decode code 337 = .ok (.iload 5, 2) := by decide +kernel
theorem dW_339 : decode code 339 = .ok (.if_icmp .eq 5, 3) := by decide +kernel
theorem dW_342 : decode code 342 = .ok (.iconst 0, 1) := by decide +kernel
theorem dW_343 : decode code 343 = .ok (.ireturn, 1) := by decide +kernel
theorem dW_344 : decode code 344 = .ok (.iload 5, 2) := by decide +kernel
theorem dW_346 : decode code 346 = .ok (.ifCond .ne 16, 3) := by decide +kernel
theorem dW_349 : decode code 349 = .ok (.aload_n 3, 1) := by decide +kernel
theorem dW_350 : decode code 350 = .ok (.getfield 13, 3) := by decide +kernel
theorem dW_353 : decode code 353 = .ok (.iload 6, 2) := by decide +kernel
theorem dW_355 : decode code 355 = .ok (.i2l, 1) := by decide +kernel
theorem dW_356 : decode code 356 = .ok (.lcmp, 1) := by decide +kernel
theorem dW_357 : decode code 357 = .ok (.ifCond .eq 5, 3) := by decide +kernel
theorem dW_360 : decode code 360 = .ok (.iconst 0, 1) := by decide +kernel
theorem dW_361 : decode code 361 = .ok (.ireturn, 1) := by decide +kernel
theorem dW_362 : decode code 362 = .ok (.goto 1994, 3) := by decide +kernel
theorem dW_365 : decode code 365 = .ok (.aload_n 1, 1) := by decide +kernel
theorem dW_366 : decode code 366 = .ok (.aload_n 0, 1) := by decide +kernel
theorem dW_367 : decode code 367 = .ok (.iload 4, 2) := by decide +kernel
theorem dW_369 : decode code 369 = .ok (.iconst 1, 1) := by decide +kernel
theorem dW_370 : decode code 370 = .ok (.iadd, 1) := by decide +kernel
theorem dW_371 : decode code 371 = .ok (.iaload, 1) := by decide +kernel
theorem dW_372 : decode code 372 = .ok (.aload_n 0, 1) := by decide +kernel
theorem dW_373 : decode code 373 = .ok (.iload 4, 2) := by decide +kernel
theorem dW_375 : decode code 375 = .ok (.iconst 2, 1) := by decide +kernel
theorem dW_376 : decode code 376 = .ok (.iadd, 1) := by decide +kernel
theorem dW_377 : decode code 377 = .ok (.iaload, 1) := by decide +kernel
theorem dW_378 : decode code 378 = .ok (.ifCond .eq 7, 3) := by decide +kernel
theorem dW_381 : decode code 381 = .ok (.iconst 1, 1) := by decide +kernel
theorem dW_382 : decode code 382 = .ok (.goto 4, 3) := by decide +kernel
theorem dW_385 : decode code 385 = .ok (.iconst 0, 1) := by decide +kernel
theorem dW_386 : decode code 386 = .ok (.aload_n 0, 1) := by decide +kernel
theorem dW_387 : decode code 387 = .ok (.iload 4, 2) := by decide +kernel
theorem dW_389 : decode code 389 = .ok (.iconst 3, 1) := by decide +kernel
theorem dW_390 : decode code 390 = .ok (.iadd, 1) := by decide +kernel
theorem dW_391 : decode code 391 = .ok (.iaload, 1) := by decide +kernel
theorem dW_392 : decode code 392 = .ok (.aload_n 0, 1) := by decide +kernel
theorem dW_393 : decode code 393 = .ok (.iload 4, 2) := by decide +kernel
theorem dW_395 : decode code 395 = .ok (.iconst 4, 1) := by decide +kernel
theorem dW_396 : decode code 396 = .ok (.iadd, 1) := by decide +kernel
theorem dW_397 : decode code 397 = .ok (.iaload, 1) := by decide +kernel
theorem dW_398 : decode code 398 = .ok (.aload_n 3, 1) := by decide +kernel
theorem dW_399 : decode code 399 = .ok (.invokestatic 181, 3) := by decide +kernel
theorem dW_402 : decode code 402 = .ok (.istore 5, 2) := by decide +kernel
theorem dW_404 : decode code 404 = .ok (.aload_n 2, 1) := by decide +kernel
theorem dW_405 : decode code 405 = .ok (.aload_n 0, 1) := by decide +kernel
theorem dW_406 : decode code 406 = .ok (.iload 4, 2) := by decide +kernel
theorem dW_408 : decode code 408 = .ok (.iconst 1, 1) := by decide +kernel
theorem dW_409 : decode code 409 = .ok (.iadd, 1) := by decide +kernel
theorem dW_410 : decode code 410 = .ok (.iaload, 1) := by decide +kernel
theorem dW_411 : decode code 411 = .ok (.aload_n 0, 1) := by decide +kernel
theorem dW_412 : decode code 412 = .ok (.iload 4, 2) := by decide +kernel
theorem dW_414 : decode code 414 = .ok (.iconst 2, 1) := by decide +kernel
theorem dW_415 : decode code 415 = .ok (.iadd, 1) := by decide +kernel
theorem dW_416 : decode code 416 = .ok (.iaload, 1) := by decide +kernel
theorem dW_417 : decode code 417 = .ok (.ifCond .eq 7, 3) := by decide +kernel
theorem dW_420 : decode code 420 = .ok (.iconst 1, 1) := by decide +kernel
theorem dW_421 : decode code 421 = .ok (.goto 4, 3) := by decide +kernel
theorem dW_424 : decode code 424 = .ok (.iconst 0, 1) := by decide +kernel
theorem dW_425 : decode code 425 = .ok (.aload_n 0, 1) := by decide +kernel
theorem dW_426 : decode code 426 = .ok (.iload 4, 2) := by decide +kernel
theorem dW_428 : decode code 428 = .ok (.iconst 3, 1) := by decide +kernel
theorem dW_429 : decode code 429 = .ok (.iadd, 1) := by decide +kernel
theorem dW_430 : decode code 430 = .ok (.iaload, 1) := by decide +kernel
theorem dW_431 : decode code 431 = .ok (.aload_n 0, 1) := by decide +kernel
theorem dW_432 : decode code 432 = .ok (.iload 4, 2) := by decide +kernel
theorem dW_434 : decode code 434 = .ok (.iconst 4, 1) := by decide +kernel
theorem dW_435 : decode code 435 = .ok (.iadd, 1) := by decide +kernel
theorem dW_436 : decode code 436 = .ok (.iaload, 1) := by decide +kernel
theorem dW_437 : decode code 437 = .ok (.invokevirtual 183, 3) := by decide +kernel
theorem dW_440 : decode code 440 = .ok (.istore 6, 2) := by decide +kernel
theorem dW_442 : decode code 442 = .ok (.goto 1914, 3) := by decide +kernel
theorem dW_445 : decode code 445 = .ok (.aload_n 1, 1) := by decide +kernel
theorem dW_446 : decode code 446 = .ok (.aload_n 0, 1) := by decide +kernel
theorem dW_447 : decode code 447 = .ok (.iload 4, 2) := by decide +kernel
theorem dW_449 : decode code 449 = .ok (.iconst 1, 1) := by decide +kernel
theorem dW_450 : decode code 450 = .ok (.iadd, 1) := by decide +kernel
theorem dW_451 : decode code 451 = .ok (.iaload, 1) := by decide +kernel
theorem dW_452 : decode code 452 = .ok (.aload_n 0, 1) := by decide +kernel
theorem dW_453 : decode code 453 = .ok (.iload 4, 2) := by decide +kernel
theorem dW_455 : decode code 455 = .ok (.iconst 2, 1) := by decide +kernel
theorem dW_456 : decode code 456 = .ok (.iadd, 1) := by decide +kernel
theorem dW_457 : decode code 457 = .ok (.iaload, 1) := by decide +kernel
theorem dW_458 : decode code 458 = .ok (.aload_n 0, 1) := by decide +kernel
theorem dW_459 : decode code 459 = .ok (.iload 4, 2) := by decide +kernel
theorem dW_461 : decode code 461 = .ok (.iconst 3, 1) := by decide +kernel
theorem dW_462 : decode code 462 = .ok (.iadd, 1) := by decide +kernel
theorem dW_463 : decode code 463 = .ok (.iaload, 1) := by decide +kernel
theorem dW_464 : decode code 464 = .ok (.aload_n 3, 1) := by decide +kernel
theorem dW_465 : decode code 465 = .ok (.invokestatic 184, 3) := by decide +kernel
theorem dW_468 : decode code 468 = .ok (.istore 5, 2) := by decide +kernel
theorem dW_470 : decode code 470 = .ok (.aload_n 2, 1) := by decide +kernel
theorem dW_471 : decode code 471 = .ok (.aload_n 0, 1) := by decide +kernel
theorem dW_472 : decode code 472 = .ok (.iload 4, 2) := by decide +kernel
theorem dW_474 : decode code 474 = .ok (.iconst 1, 1) := by decide +kernel
theorem dW_475 : decode code 475 = .ok (.iadd, 1) := by decide +kernel
theorem dW_476 : decode code 476 = .ok (.iaload, 1) := by decide +kernel
theorem dW_477 : decode code 477 = .ok (.aload_n 0, 1) := by decide +kernel
theorem dW_478 : decode code 478 = .ok (.iload 4, 2) := by decide +kernel
theorem dW_480 : decode code 480 = .ok (.iconst 2, 1) := by decide +kernel
theorem dW_481 : decode code 481 = .ok (.iadd, 1) := by decide +kernel
theorem dW_482 : decode code 482 = .ok (.iaload, 1) := by decide +kernel
theorem dW_483 : decode code 483 = .ok (.aload_n 0, 1) := by decide +kernel
theorem dW_484 : decode code 484 = .ok (.iload 4, 2) := by decide +kernel
theorem dW_486 : decode code 486 = .ok (.iconst 3, 1) := by decide +kernel
theorem dW_487 : decode code 487 = .ok (.iadd, 1) := by decide +kernel
theorem dW_488 : decode code 488 = .ok (.iaload, 1) := by decide +kernel
theorem dW_489 : decode code 489 = .ok (.invokevirtual 187, 3) := by decide +kernel
theorem dW_492 : decode code 492 = .ok (.istore 6, 2) := by decide +kernel
theorem dW_494 : decode code 494 = .ok (.goto 1862, 3) := by decide +kernel
theorem dW_497 : decode code 497 = .ok (.aload_n 1, 1) := by decide +kernel
theorem dW_498 : decode code 498 = .ok (.aload_n 0, 1) := by decide +kernel
theorem dW_499 : decode code 499 = .ok (.iload 4, 2) := by decide +kernel
theorem dW_501 : decode code 501 = .ok (.iconst 1, 1) := by decide +kernel
theorem dW_502 : decode code 502 = .ok (.iadd, 1) := by decide +kernel
theorem dW_503 : decode code 503 = .ok (.iaload, 1) := by decide +kernel
theorem dW_504 : decode code 504 = .ok (.aload_n 0, 1) := by decide +kernel
theorem dW_505 : decode code 505 = .ok (.iload 4, 2) := by decide +kernel
theorem dW_507 : decode code 507 = .ok (.iconst 2, 1) := by decide +kernel
theorem dW_508 : decode code 508 = .ok (.iadd, 1) := by decide +kernel
theorem dW_509 : decode code 509 = .ok (.iaload, 1) := by decide +kernel
theorem dW_510 : decode code 510 = .ok (.aload_n 0, 1) := by decide +kernel
theorem dW_511 : decode code 511 = .ok (.iload 4, 2) := by decide +kernel
theorem dW_513 : decode code 513 = .ok (.iconst 3, 1) := by decide +kernel
theorem dW_514 : decode code 514 = .ok (.iadd, 1) := by decide +kernel
theorem dW_515 : decode code 515 = .ok (.iaload, 1) := by decide +kernel
theorem dW_516 : decode code 516 = .ok (.aload_n 3, 1) := by decide +kernel
theorem dW_517 : decode code 517 = .ok (.invokestatic 188, 3) := by decide +kernel
theorem dW_520 : decode code 520 = .ok (.istore 5, 2) := by decide +kernel
theorem dW_522 : decode code 522 = .ok (.aload_n 2, 1) := by decide +kernel
theorem dW_523 : decode code 523 = .ok (.aload_n 0, 1) := by decide +kernel
theorem dW_524 : decode code 524 = .ok (.iload 4, 2) := by decide +kernel
theorem dW_526 : decode code 526 = .ok (.iconst 1, 1) := by decide +kernel
theorem dW_527 : decode code 527 = .ok (.iadd, 1) := by decide +kernel
theorem dW_528 : decode code 528 = .ok (.iaload, 1) := by decide +kernel
theorem dW_529 : decode code 529 = .ok (.aload_n 0, 1) := by decide +kernel
theorem dW_530 : decode code 530 = .ok (.iload 4, 2) := by decide +kernel
theorem dW_532 : decode code 532 = .ok (.iconst 2, 1) := by decide +kernel
theorem dW_533 : decode code 533 = .ok (.iadd, 1) := by decide +kernel
theorem dW_534 : decode code 534 = .ok (.iaload, 1) := by decide +kernel
theorem dW_535 : decode code 535 = .ok (.aload_n 0, 1) := by decide +kernel
theorem dW_536 : decode code 536 = .ok (.iload 4, 2) := by decide +kernel
theorem dW_538 : decode code 538 = .ok (.iconst 3, 1) := by decide +kernel
theorem dW_539 : decode code 539 = .ok (.iadd, 1) := by decide +kernel
theorem dW_540 : decode code 540 = .ok (.iaload, 1) := by decide +kernel
theorem dW_541 : decode code 541 = .ok (.invokevirtual 190, 3) := by decide +kernel
theorem dW_544 : decode code 544 = .ok (.istore 6, 2) := by decide +kernel
theorem dW_546 : decode code 546 = .ok (.goto 1810, 3) := by decide +kernel
theorem dW_549 : decode code 549 = .ok (.aload_n 1, 1) := by decide +kernel
theorem dW_550 : decode code 550 = .ok (.aload_n 0, 1) := by decide +kernel
theorem dW_551 : decode code 551 = .ok (.iload 4, 2) := by decide +kernel
theorem dW_553 : decode code 553 = .ok (.iconst 1, 1) := by decide +kernel
theorem dW_554 : decode code 554 = .ok (.iadd, 1) := by decide +kernel
theorem dW_555 : decode code 555 = .ok (.iaload, 1) := by decide +kernel
theorem dW_556 : decode code 556 = .ok (.aload_n 0, 1) := by decide +kernel
theorem dW_557 : decode code 557 = .ok (.iload 4, 2) := by decide +kernel
theorem dW_559 : decode code 559 = .ok (.iconst 2, 1) := by decide +kernel
theorem dW_560 : decode code 560 = .ok (.iadd, 1) := by decide +kernel
theorem dW_561 : decode code 561 = .ok (.iaload, 1) := by decide +kernel
theorem dW_562 : decode code 562 = .ok (.aload_n 0, 1) := by decide +kernel
theorem dW_563 : decode code 563 = .ok (.iload 4, 2) := by decide +kernel
theorem dW_565 : decode code 565 = .ok (.iconst 3, 1) := by decide +kernel
theorem dW_566 : decode code 566 = .ok (.iadd, 1) := by decide +kernel
theorem dW_567 : decode code 567 = .ok (.iaload, 1) := by decide +kernel
theorem dW_568 : decode code 568 = .ok (.aload_n 0, 1) := by decide +kernel
theorem dW_569 : decode code 569 = .ok (.iload 4, 2) := by decide +kernel
theorem dW_571 : decode code 571 = .ok (.iconst 4, 1) := by decide +kernel
theorem dW_572 : decode code 572 = .ok (.iadd, 1) := by decide +kernel
theorem dW_573 : decode code 573 = .ok (.iaload, 1) := by decide +kernel
theorem dW_574 : decode code 574 = .ok (.aload_n 3, 1) := by decide +kernel
theorem dW_575 : decode code 575 = .ok (.invokestatic 191, 3) := by decide +kernel
theorem dW_578 : decode code 578 = .ok (.istore 5, 2) := by decide +kernel
theorem dW_580 : decode code 580 = .ok (.aload_n 2, 1) := by decide +kernel
theorem dW_581 : decode code 581 = .ok (.aload_n 0, 1) := by decide +kernel
theorem dW_582 : decode code 582 = .ok (.iload 4, 2) := by decide +kernel
theorem dW_584 : decode code 584 = .ok (.iconst 1, 1) := by decide +kernel
theorem dW_585 : decode code 585 = .ok (.iadd, 1) := by decide +kernel
theorem dW_586 : decode code 586 = .ok (.iaload, 1) := by decide +kernel
theorem dW_587 : decode code 587 = .ok (.aload_n 0, 1) := by decide +kernel
theorem dW_588 : decode code 588 = .ok (.iload 4, 2) := by decide +kernel
theorem dW_590 : decode code 590 = .ok (.iconst 2, 1) := by decide +kernel
theorem dW_591 : decode code 591 = .ok (.iadd, 1) := by decide +kernel
theorem dW_592 : decode code 592 = .ok (.iaload, 1) := by decide +kernel
theorem dW_593 : decode code 593 = .ok (.aload_n 0, 1) := by decide +kernel
theorem dW_594 : decode code 594 = .ok (.iload 4, 2) := by decide +kernel
theorem dW_596 : decode code 596 = .ok (.iconst 3, 1) := by decide +kernel
theorem dW_597 : decode code 597 = .ok (.iadd, 1) := by decide +kernel
theorem dW_598 : decode code 598 = .ok (.iaload, 1) := by decide +kernel
theorem dW_599 : decode code 599 = .ok (.aload_n 0, 1) := by decide +kernel
theorem dW_600 : decode code 600 = .ok (.iload 4, 2) := by decide +kernel
theorem dW_602 : decode code 602 = .ok (.iconst 4, 1) := by decide +kernel
theorem dW_603 : decode code 603 = .ok (.iadd, 1) := by decide +kernel
theorem dW_604 : decode code 604 = .ok (.iaload, 1) := by decide +kernel
theorem dW_605 : decode code 605 = .ok (.invokevirtual 194, 3) := by decide +kernel
theorem dW_608 : decode code 608 = .ok (.istore 6, 2) := by decide +kernel
theorem dW_610 : decode code 610 = .ok (.goto 1746, 3) := by decide +kernel
theorem dW_613 : decode code 613 = .ok (.aload_n 1, 1) := by decide +kernel
theorem dW_614 : decode code 614 = .ok (.aload_n 0, 1) := by decide +kernel
theorem dW_615 : decode code 615 = .ok (.iload 4, 2) := by decide +kernel
theorem dW_617 : decode code 617 = .ok (.iconst 1, 1) := by decide +kernel
theorem dW_618 : decode code 618 = .ok (.iadd, 1) := by decide +kernel
theorem dW_619 : decode code 619 = .ok (.iaload, 1) := by decide +kernel
theorem dW_620 : decode code 620 = .ok (.aload_n 0, 1) := by decide +kernel
theorem dW_621 : decode code 621 = .ok (.iload 4, 2) := by decide +kernel
theorem dW_623 : decode code 623 = .ok (.iconst 2, 1) := by decide +kernel
theorem dW_624 : decode code 624 = .ok (.iadd, 1) := by decide +kernel
theorem dW_625 : decode code 625 = .ok (.iaload, 1) := by decide +kernel
theorem dW_626 : decode code 626 = .ok (.ifCond .eq 7, 3) := by decide +kernel
theorem dW_629 : decode code 629 = .ok (.iconst 1, 1) := by decide +kernel
theorem dW_630 : decode code 630 = .ok (.goto 4, 3) := by decide +kernel
theorem dW_633 : decode code 633 = .ok (.iconst 0, 1) := by decide +kernel
theorem dW_634 : decode code 634 = .ok (.aload_n 3, 1) := by decide +kernel
theorem dW_635 : decode code 635 = .ok (.invokestatic 195, 3) := by decide +kernel
theorem dW_638 : decode code 638 = .ok (.istore 5, 2) := by decide +kernel
theorem dW_640 : decode code 640 = .ok (.aload_n 2, 1) := by decide +kernel
theorem dW_641 : decode code 641 = .ok (.aload_n 0, 1) := by decide +kernel
theorem dW_642 : decode code 642 = .ok (.iload 4, 2) := by decide +kernel
theorem dW_644 : decode code 644 = .ok (.iconst 1, 1) := by decide +kernel
