theorem dW_0 : decode code 0 = .ok (.new 8, 3) := by decide +kernel
theorem dW_3 : decode code 3 = .ok (.dup, 1) := by decide +kernel
theorem dW_4 : decode code 4 = .ok (.invokespecial 167, 3) := by decide +kernel
theorem dW_7 : decode code 7 = .ok (.astore_n 1, 1) := by decide +kernel
theorem dW_8 : decode code 8 = .ok (.new 168, 3) := by decide +kernel
theorem dW_11 : decode code 11 = .ok (.dup, 1) := by decide +kernel
theorem dW_12 : decode code 12 = .ok (.invokespecial 170, 3) := by decide +kernel
theorem dW_15 : decode code 15 = .ok (.astore_n 2, 1) := by decide +kernel
theorem dW_16 : decode code 16 = .ok (.new 14, 3) := by decide +kernel
theorem dW_19 : decode code 19 = .ok (.dup, 1) := by decide +kernel
theorem dW_20 : decode code 20 = .ok (.invokespecial 171, 3) := by decide +kernel
theorem dW_23 : decode code 23 = .ok (.astore_n 3, 1) := by decide +kernel
theorem dW_24 : decode code 24 = .ok (.iconst 0, 1) := by decide +kernel
theorem dW_25 : decode code 25 = .ok (.istore 4, 2) := by decide +kernel
theorem dW_27 : decode code 27 = .ok (.iload 4, 2) := by decide +kernel
theorem dW_29 : decode code 29 = .ok (.aload_n 0, 1) := by decide +kernel
theorem dW_30 : decode code 30 = .ok (.arraylength, 1) := by decide +kernel
theorem dW_31 : decode code 31 = .ok (.iconst 5, 1) := by decide +kernel
theorem dW_32 : decode code 32 = .ok (.isub, 1) := by decide +kernel
theorem dW_33 : decode code 33 = .ok (.if_icmp .gt 2300, 3) := by decide +kernel
theorem dW_36 : decode code 36 = .ok (.aload_n 0, 1) := by decide +kernel
theorem dW_37 : decode code 37 = .ok (.iload 4, 2) := by decide +kernel
theorem dW_39 : decode code 39 = .ok (.iaload, 1) := by decide +kernel
theorem dW_40 : decode code 40 = .ok (.bipush 63, 2) := by decide +kernel
theorem dW_42 : decode code 42 = .ok (.iand, 1) := by decide +kernel
theorem dW_43 : decode code 43 = .ok (.tableswitch 2284 0 49 #[213, 293, 373, 425, 477, 541, 597, 653, 681, 737, 777, 790, 858, 898, 978, 1046, 1074, 1102, 1143, 1184, 1200, 1216, 1268, 1296, 1348, 1376, 1432, 1460, 1500, 1540, 1568, 1596, 1624, 1676, 1728, 1768, 1796, 1824, 1880, 1920, 1960, 2000, 2041, 2097, 2125, 2177, 2217, 2245, 2258, 2271], 213) := by decide +kernel
theorem dW_256 : decode code 256 = .ok (.aload_n 1, 1) := by decide +kernel
theorem dW_257 : decode code 257 = .ok (.aload_n 0, 1) := by decide +kernel
theorem dW_258 : decode code 258 = .ok (.iload 4, 2) := by decide +kernel
theorem dW_260 : decode code 260 = .ok (.iconst 1, 1) := by decide +kernel
theorem dW_261 : decode code 261 = .ok (.iadd, 1) := by decide +kernel
theorem dW_262 : decode code 262 = .ok (.iaload, 1) := by decide +kernel
theorem dW_263 : decode code 263 = .ok (.aload_n 0, 1) := by decide +kernel
theorem dW_264 : decode code 264 = .ok (.iload 4, 2) := by decide +kernel
theorem dW_266 : decode code 266 = .ok (.iconst 2, 1) := by decide +kernel
theorem dW_267 : decode code 267 = .ok (.iadd, 1) := by decide +kernel
theorem dW_268 : decode code 268 = .ok (.iaload, 1) := by decide +kernel
theorem dW_269 : decode code 269 = .ok (.ifCond .eq 7, 3) := by decide +kernel
theorem dW_272 : decode code 272 = .ok (.iconst 1, 1) := by decide +kernel
theorem dW_273 : decode code 273 = .ok (.goto 4, 3) := by decide +kernel
theorem dW_276 : decode code 276 = .ok (.iconst 0, 1) := by decide +kernel
theorem dW_277 : decode code 277 = .ok (.aload_n 0, 1) := by decide +kernel
theorem dW_278 : decode code 278 = .ok (.iload 4, 2) := by decide +kernel
theorem dW_280 : decode code 280 = .ok (.iconst 3, 1) := by decide +kernel
theorem dW_281 : decode code 281 = .ok (.iadd, 1) := by decide +kernel
theorem dW_282 : decode code 282 = .ok (.iaload, 1) := by decide +kernel
theorem dW_283 : decode code 283 = .ok (.aload_n 0, 1) := by decide +kernel
theorem dW_284 : decode code 284 = .ok (.iload 4, 2) := by decide +kernel
theorem dW_286 : decode code 286 = .ok (.iconst 4, 1) := by decide +kernel
theorem dW_287 : decode code 287 = .ok (.iadd, 1) := by decide +kernel
theorem dW_288 : decode code 288 = .ok (.iaload, 1) := by decide +kernel
theorem dW_289 : decode code 289 = .ok (.aload_n 3, 1) := by decide +kernel
theorem dW_290 : decode code 290 = .ok (.invokestatic 172, 3) := by decide +kernel
theorem dW_293 : decode code 293 = .ok (.istore 5, 2) := by decide +kernel
theorem dW_295 : decode code 295 = .ok (.aload_n 2, 1) := by decide +kernel
theorem dW_296 : decode code 296 = .ok (.aload_n 0, 1) := by decide +kernel
theorem dW_297 : decode code 297 = .ok (.iload 4, 2) := by decide +kernel
theorem dW_299 : decode code 299 = .ok (.iconst 1, 1) := by decide +kernel
theorem dW_300 : decode code 300 = .ok (.iadd, 1) := by decide +kernel
theorem dW_301 : decode code 301 = .ok (.iaload, 1) := by decide +kernel
theorem dW_302 : decode code 302 = .ok (.aload_n 0, 1) := by decide +kernel
theorem dW_303 : decode code 303 = .ok (.iload 4, 2) := by decide +kernel
theorem dW_305 : decode code 305 = .ok (.iconst 2, 1) := by decide +kernel
theorem dW_306 : decode code 306 = .ok (.iadd, 1) := by decide +kernel
theorem dW_307 : decode code 307 = .ok (.iaload, 1) := by decide +kernel
theorem dW_308 : decode code 308 = .ok (.ifCond .eq 7, 3) := by decide +kernel
theorem dW_311 : decode code 311 = .ok (.iconst 1, 1) := by decide +kernel
theorem dW_312 : decode code 312 = .ok (.goto 4, 3) := by decide +kernel
theorem dW_315 : decode code 315 = .ok (.iconst 0, 1) := by decide +kernel
theorem dW_316 : decode code 316 = .ok (.aload_n 0, 1) := by decide +kernel
theorem dW_317 : decode code 317 = .ok (.iload 4, 2) := by decide +kernel
theorem dW_319 : decode code 319 = .ok (.iconst 3, 1) := by decide +kernel
theorem dW_320 : decode code 320 = .ok (.iadd, 1) := by decide +kernel
theorem dW_321 : decode code 321 = .ok (.iaload, 1) := by decide +kernel
theorem dW_322 : decode code 322 = .ok (.aload_n 0, 1) := by decide +kernel
theorem dW_323 : decode code 323 = .ok (.iload 4, 2) := by decide +kernel
theorem dW_325 : decode code 325 = .ok (.iconst 4, 1) := by decide +kernel
theorem dW_326 : decode code 326 = .ok (.iadd, 1) := by decide +kernel
theorem dW_327 : decode code 327 = .ok (.iaload, 1) := by decide +kernel
theorem dW_328 : decode code 328 = .ok (.invokevirtual 177, 3) := by decide +kernel
theorem dW_331 : decode code 331 = .ok (.istore 6, 2) := by decide +kernel
theorem dW_333 : decode code 333 = .ok (.goto 1994, 3) := by decide +kernel
theorem dW_336 : decode code 336 = .ok (.aload_n 1, 1) := by decide +kernel
theorem dW_337 : decode code 337 = .ok (.aload_n 0, 1) := by decide +kernel
theorem dW_338 : decode code 338 = .ok (.iload 4, 2) := by decide +kernel
theorem dW_340 : decode code 340 = .ok (.iconst 1, 1) := by decide +kernel
theorem dW_341 : decode code 341 = .ok (.iadd, 1) := by decide +kernel
theorem dW_342 : decode code 342 = .ok (.iaload, 1) := by decide +kernel
theorem dW_343 : decode code 343 = .ok (.aload_n 0, 1) := by decide +kernel
theorem dW_344 : decode code 344 = .ok (.iload 4, 2) := by decide +kernel
theorem dW_346 : decode code 346 = .ok (.iconst 2, 1) := by decide +kernel
theorem dW_347 : decode code 347 = .ok (.iadd, 1) := by decide +kernel
theorem dW_348 : decode code 348 = .ok (.iaload, 1) := by decide +kernel
theorem dW_349 : decode code 349 = .ok (.ifCond .eq 7, 3) := by decide +kernel
theorem dW_352 : decode code 352 = .ok (.iconst 1, 1) := by decide +kernel
theorem dW_353 : decode code 353 = .ok (.goto 4, 3) := by decide +kernel
theorem dW_356 : decode code 356 = .ok (.iconst 0, 1) := by decide +kernel
theorem dW_357 : decode code 357 = .ok (.aload_n 0, 1) := by decide +kernel
theorem dW_358 : decode code 358 = .ok (.iload 4, 2) := by decide +kernel
theorem dW_360 : decode code 360 = .ok (.iconst 3, 1) := by decide +kernel
theorem dW_361 : decode code 361 = .ok (.iadd, 1) := by decide +kernel
theorem dW_362 : decode code 362 = .ok (.iaload, 1) := by decide +kernel
theorem dW_363 : decode code 363 = .ok (.aload_n 0, 1) := by decide +kernel
theorem dW_364 : decode code 364 = .ok (.iload 4, 2) := by decide +kernel
theorem dW_366 : decode code 366 = .ok (.iconst 4, 1) := by decide +kernel
theorem dW_367 : decode code 367 = .ok (.iadd, 1) := by decide +kernel
theorem dW_368 : decode code 368 = .ok (.iaload, 1) := by decide +kernel
theorem dW_369 : decode code 369 = .ok (.aload_n 3, 1) := by decide +kernel
theorem dW_370 : decode code 370 = .ok (.invokestatic 178, 3) := by decide +kernel
theorem dW_373 : decode code 373 = .ok (.istore 5, 2) := by decide +kernel
theorem dW_375 : decode code 375 = .ok (.aload_n 2, 1) := by decide +kernel
theorem dW_376 : decode code 376 = .ok (.aload_n 0, 1) := by decide +kernel
theorem dW_377 : decode code 377 = .ok (.iload 4, 2) := by decide +kernel
theorem dW_379 : decode code 379 = .ok (.iconst 1, 1) := by decide +kernel
theorem dW_380 : decode code 380 = .ok (.iadd, 1) := by decide +kernel
theorem dW_381 : decode code 381 = .ok (.iaload, 1) := by decide +kernel
theorem dW_382 : decode code 382 = .ok (.aload_n 0, 1) := by decide +kernel
theorem dW_383 : decode code 383 = .ok (.iload 4, 2) := by decide +kernel
theorem dW_385 : decode code 385 = .ok (.iconst 2, 1) := by decide +kernel
theorem dW_386 : decode code 386 = .ok (.iadd, 1) := by decide +kernel
theorem dW_387 : decode code 387 = .ok (.iaload, 1) := by decide +kernel
theorem dW_388 : decode code 388 = .ok (.ifCond .eq 7, 3) := by decide +kernel
theorem dW_391 : decode code 391 = .ok (.iconst 1, 1) := by decide +kernel
theorem dW_392 : decode code 392 = .ok (.goto 4, 3) := by decide +kernel
theorem dW_395 : decode code 395 = .ok (.iconst 0, 1) := by decide +kernel
theorem dW_396 : decode code 396 = .ok (.aload_n 0, 1) := by decide +kernel
theorem dW_397 : decode code 397 = .ok (.iload 4, 2) := by decide +kernel
theorem dW_399 : decode code 399 = .ok (.iconst 3, 1) := by decide +kernel
theorem dW_400 : decode code 400 = .ok (.iadd, 1) := by decide +kernel
theorem dW_401 : decode code 401 = .ok (.iaload, 1) := by decide +kernel
theorem dW_402 : decode code 402 = .ok (.aload_n 0, 1) := by decide +kernel
theorem dW_403 : decode code 403 = .ok (.iload 4, 2) := by decide +kernel
theorem dW_405 : decode code 405 = .ok (.iconst 4, 1) := by decide +kernel
theorem dW_406 : decode code 406 = .ok (.iadd, 1) := by decide +kernel
theorem dW_407 : decode code 407 = .ok (.iaload, 1) := by decide +kernel
theorem dW_408 : decode code 408 = .ok (.invokevirtual 180, 3) := by decide +kernel
theorem dW_411 : decode code 411 = .ok (.istore 6, 2) := by decide +kernel
theorem dW_413 : decode code 413 = .ok (.goto 1914, 3) := by decide +kernel
theorem dW_416 : decode code 416 = .ok (.aload_n 1, 1) := by decide +kernel
theorem dW_417 : decode code 417 = .ok (.aload_n 0, 1) := by decide +kernel
theorem dW_418 : decode code 418 = .ok (.iload 4, 2) := by decide +kernel
theorem dW_420 : decode code 420 = .ok (.iconst 1, 1) := by decide +kernel
theorem dW_421 : decode code 421 = .ok (.iadd, 1) := by decide +kernel
theorem dW_422 : decode code 422 = .ok (.iaload, 1) := by decide +kernel
theorem dW_423 : decode code 423 = .ok (.aload_n 0, 1) := by decide +kernel
theorem dW_424 : decode code 424 = .ok (.iload 4, 2) := by decide +kernel
theorem dW_426 : decode code 426 = .ok (.iconst 2, 1) := by decide +kernel
theorem dW_427 : decode code 427 = .ok (.iadd, 1) := by decide +kernel
theorem dW_428 : decode code 428 = .ok (.iaload, 1) := by decide +kernel
theorem dW_429 : decode code 429 = .ok (.aload_n 0, 1) := by decide +kernel
theorem dW_430 : decode code 430 = .ok (.iload 4, 2) := by decide +kernel
theorem dW_432 : decode code 432 = .ok (.iconst 3, 1) := by decide +kernel
theorem dW_433 : decode code 433 = .ok (.iadd, 1) := by decide +kernel
theorem dW_434 : decode code 434 = .ok (.iaload, 1) := by decide +kernel
theorem dW_435 : decode code 435 = .ok (.aload_n 3, 1) := by decide +kernel
theorem dW_436 : decode code 436 = .ok (.invokestatic 181, 3) := by decide +kernel
theorem dW_439 : decode code 439 = .ok (.istore 5, 2) := by decide +kernel
theorem dW_441 : decode code 441 = .ok (.aload_n 2, 1) := by decide +kernel
theorem dW_442 : decode code 442 = .ok (.aload_n 0, 1) := by decide +kernel
theorem dW_443 : decode code 443 = .ok (.iload 4, 2) := by decide +kernel
theorem dW_445 : decode code 445 = .ok (.iconst 1, 1) := by decide +kernel
theorem dW_446 : decode code 446 = .ok (.iadd, 1) := by decide +kernel
theorem dW_447 : decode code 447 = .ok (.iaload, 1) := by decide +kernel
theorem dW_448 : decode code 448 = .ok (.aload_n 0, 1) := by decide +kernel
theorem dW_449 : decode code 449 = .ok (.iload 4, 2) := by decide +kernel
theorem dW_451 : decode code 451 = .ok (.iconst 2, 1) := by decide +kernel
theorem dW_452 : decode code 452 = .ok (.iadd, 1) := by decide +kernel
theorem dW_453 : decode code 453 = .ok (.iaload, 1) := by decide +kernel
theorem dW_454 : decode code 454 = .ok (.aload_n 0, 1) := by decide +kernel
theorem dW_455 : decode code 455 = .ok (.iload 4, 2) := by decide +kernel
theorem dW_457 : decode code 457 = .ok (.iconst 3, 1) := by decide +kernel
theorem dW_458 : decode code 458 = .ok (.iadd, 1) := by decide +kernel
theorem dW_459 : decode code 459 = .ok (.iaload, 1) := by decide +kernel
theorem dW_460 : decode code 460 = .ok (.invokevirtual 184, 3) := by decide +kernel
theorem dW_463 : decode code 463 = .ok (.istore 6, 2) := by decide +kernel
theorem dW_465 : decode code 465 = .ok (.goto 1862, 3) := by decide +kernel
theorem dW_468 : decode code 468 = .ok (.aload_n 1, 1) := by decide +kernel
theorem dW_469 : decode code 469 = .ok (.aload_n 0, 1) := by decide +kernel
theorem dW_470 : decode code 470 = .ok (.iload 4, 2) := by decide +kernel
theorem dW_472 : decode code 472 = .ok (.iconst 1, 1) := by decide +kernel
theorem dW_473 : decode code 473 = .ok (.iadd, 1) := by decide +kernel
theorem dW_474 : decode code 474 = .ok (.iaload, 1) := by decide +kernel
theorem dW_475 : decode code 475 = .ok (.aload_n 0, 1) := by decide +kernel
theorem dW_476 : decode code 476 = .ok (.iload 4, 2) := by decide +kernel
theorem dW_478 : decode code 478 = .ok (.iconst 2, 1) := by decide +kernel
theorem dW_479 : decode code 479 = .ok (.iadd, 1) := by decide +kernel
theorem dW_480 : decode code 480 = .ok (.iaload, 1) := by decide +kernel
theorem dW_481 : decode code 481 = .ok (.aload_n 0, 1) := by decide +kernel
theorem dW_482 : decode code 482 = .ok (.iload 4, 2) := by decide +kernel
theorem dW_484 : decode code 484 = .ok (.iconst 3, 1) := by decide +kernel
theorem dW_485 : decode code 485 = .ok (.iadd, 1) := by decide +kernel
theorem dW_486 : decode code 486 = .ok (.iaload, 1) := by decide +kernel
theorem dW_487 : decode code 487 = .ok (.aload_n 3, 1) := by decide +kernel
theorem dW_488 : decode code 488 = .ok (.invokestatic 185, 3) := by decide +kernel
theorem dW_491 : decode code 491 = .ok (.istore 5, 2) := by decide +kernel
theorem dW_493 : decode code 493 = .ok (.aload_n 2, 1) := by decide +kernel
theorem dW_494 : decode code 494 = .ok (.aload_n 0, 1) := by decide +kernel
theorem dW_495 : decode code 495 = .ok (.iload 4, 2) := by decide +kernel
theorem dW_497 : decode code 497 = .ok (.iconst 1, 1) := by decide +kernel
theorem dW_498 : decode code 498 = .ok (.iadd, 1) := by decide +kernel
theorem dW_499 : decode code 499 = .ok (.iaload, 1) := by decide +kernel
theorem dW_500 : decode code 500 = .ok (.aload_n 0, 1) := by decide +kernel
theorem dW_501 : decode code 501 = .ok (.iload 4, 2) := by decide +kernel
theorem dW_503 : decode code 503 = .ok (.iconst 2, 1) := by decide +kernel
theorem dW_504 : decode code 504 = .ok (.iadd, 1) := by decide +kernel
theorem dW_505 : decode code 505 = .ok (.iaload, 1) := by decide +kernel
theorem dW_506 : decode code 506 = .ok (.aload_n 0, 1) := by decide +kernel
theorem dW_507 : decode code 507 = .ok (.iload 4, 2) := by decide +kernel
theorem dW_509 : decode code 509 = .ok (.iconst 3, 1) := by decide +kernel
theorem dW_510 : decode code 510 = .ok (.iadd, 1) := by decide +kernel
theorem dW_511 : decode code 511 = .ok (.iaload, 1) := by decide +kernel
theorem dW_512 : decode code 512 = .ok (.invokevirtual 187, 3) := by decide +kernel
theorem dW_515 : decode code 515 = .ok (.istore 6, 2) := by decide +kernel
theorem dW_517 : decode code 517 = .ok (.goto 1810, 3) := by decide +kernel
theorem dW_520 : decode code 520 = .ok (.aload_n 1, 1) := by decide +kernel
theorem dW_521 : decode code 521 = .ok (.aload_n 0, 1) := by decide +kernel
theorem dW_522 : decode code 522 = .ok (.iload 4, 2) := by decide +kernel
theorem dW_524 : decode code 524 = .ok (.iconst 1, 1) := by decide +kernel
theorem dW_525 : decode code 525 = .ok (.iadd, 1) := by decide +kernel
theorem dW_526 : decode code 526 = .ok (.iaload, 1) := by decide +kernel
theorem dW_527 : decode code 527 = .ok (.aload_n 0, 1) := by decide +kernel
theorem dW_528 : decode code 528 = .ok (.iload 4, 2) := by decide +kernel
theorem dW_530 : decode code 530 = .ok (.iconst 2, 1) := by decide +kernel
theorem dW_531 : decode code 531 = .ok (.iadd, 1) := by decide +kernel
theorem dW_532 : decode code 532 = .ok (.iaload, 1) := by decide +kernel
theorem dW_533 : decode code 533 = .ok (.aload_n 0, 1) := by decide +kernel
theorem dW_534 : decode code 534 = .ok (.iload 4, 2) := by decide +kernel
theorem dW_536 : decode code 536 = .ok (.iconst 3, 1) := by decide +kernel
theorem dW_537 : decode code 537 = .ok (.iadd, 1) := by decide +kernel
theorem dW_538 : decode code 538 = .ok (.iaload, 1) := by decide +kernel
theorem dW_539 : decode code 539 = .ok (.aload_n 0, 1) := by decide +kernel
theorem dW_540 : decode code 540 = .ok (.iload 4, 2) := by decide +kernel
theorem dW_542 : decode code 542 = .ok (.iconst 4, 1) := by decide +kernel
theorem dW_543 : decode code 543 = .ok (.iadd, 1) := by decide +kernel
theorem dW_544 : decode code 544 = .ok (.iaload, 1) := by decide +kernel
theorem dW_545 : decode code 545 = .ok (.aload_n 3, 1) := by decide +kernel
theorem dW_546 : decode code 546 = .ok (.invokestatic 188, 3) := by decide +kernel
theorem dW_549 : decode code 549 = .ok (.istore 5, 2) := by decide +kernel
theorem dW_551 : decode code 551 = .ok (.aload_n 2, 1) := by decide +kernel
theorem dW_552 : decode code 552 = .ok (.aload_n 0, 1) := by decide +kernel
theorem dW_553 : decode code 553 = .ok (.iload 4, 2) := by decide +kernel
theorem dW_555 : decode code 555 = .ok (.iconst 1, 1) := by decide +kernel
theorem dW_556 : decode code 556 = .ok (.iadd, 1) := by decide +kernel
theorem dW_557 : decode code 557 = .ok (.iaload, 1) := by decide +kernel
theorem dW_558 : decode code 558 = .ok (.aload_n 0, 1) := by decide +kernel
theorem dW_559 : decode code 559 = .ok (.iload 4, 2) := by decide +kernel
theorem dW_561 : decode code 561 = .ok (.iconst 2, 1) := by decide +kernel
theorem dW_562 : decode code 562 = .ok (.iadd, 1) := by decide +kernel
theorem dW_563 : decode code 563 = .ok (.iaload, 1) := by decide +kernel
theorem dW_564 : decode code 564 = .ok (.aload_n 0, 1) := by decide +kernel
theorem dW_565 : decode code 565 = .ok (.iload 4, 2) := by decide +kernel
theorem dW_567 : decode code 567 = .ok (.iconst 3, 1) := by decide +kernel
theorem dW_568 : decode code 568 = .ok (.iadd, 1) := by decide +kernel
theorem dW_569 : decode code 569 = .ok (.iaload, 1) := by decide +kernel
theorem dW_570 : decode code 570 = .ok (.aload_n 0, 1) := by decide +kernel
theorem dW_571 : decode code 571 = .ok (.iload 4, 2) := by decide +kernel
theorem dW_573 : decode code 573 = .ok (.iconst 4, 1) := by decide +kernel
theorem dW_574 : decode code 574 = .ok (.iadd, 1) := by decide +kernel
theorem dW_575 : decode code 575 = .ok (.iaload, 1) := by decide +kernel
theorem dW_576 : decode code 576 = .ok (.invokevirtual 191, 3) := by decide +kernel
theorem dW_579 : decode code 579 = .ok (.istore 6, 2) := by decide +kernel
theorem dW_581 : decode code 581 = .ok (.goto 1746, 3) := by decide +kernel
theorem dW_584 : decode code 584 = .ok (.aload_n 1, 1) := by decide +kernel
theorem dW_585 : decode code 585 = .ok (.aload_n 0, 1) := by decide +kernel
theorem dW_586 : decode code 586 = .ok (.iload 4, 2) := by decide +kernel
theorem dW_588 : decode code 588 = .ok (.iconst 1, 1) := by decide +kernel
theorem dW_589 : decode code 589 = .ok (.iadd, 1) := by decide +kernel
theorem dW_590 : decode code 590 = .ok (.iaload, 1) := by decide +kernel
theorem dW_591 : decode code 591 = .ok (.aload_n 0, 1) := by decide +kernel
theorem dW_592 : decode code 592 = .ok (.iload 4, 2) := by decide +kernel
theorem dW_594 : decode code 594 = .ok (.iconst 2, 1) := by decide +kernel
theorem dW_595 : decode code 595 = .ok (.iadd, 1) := by decide +kernel
theorem dW_596 : decode code 596 = .ok (.iaload, 1) := by decide +kernel
theorem dW_597 : decode code 597 = .ok (.ifCond .eq 7, 3) := by decide +kernel
theorem dW_600 : decode code 600 = .ok (.iconst 1, 1) := by decide +kernel
theorem dW_601 : decode code 601 = .ok (.goto 4, 3) := by decide +kernel
theorem dW_604 : decode code 604 = .ok (.iconst 0, 1) := by decide +kernel
theorem dW_605 : decode code 605 = .ok (.aload_n 3, 1) := by decide +kernel
theorem dW_606 : decode code 606 = .ok (.invokestatic 192, 3) := by decide +kernel
theorem dW_609 : decode code 609 = .ok (.istore 5, 2) := by decide +kernel
theorem dW_611 : decode code 611 = .ok (.aload_n 2, 1) := by decide +kernel
theorem dW_612 : decode code 612 = .ok (.aload_n 0, 1) := by decide +kernel
theorem dW_613 : decode code 613 = .ok (.iload 4, 2) := by decide +kernel
theorem dW_615 : decode code 615 = .ok (.iconst 1, 1) := by decide +kernel
theorem dW_616 : decode code 616 = .ok (.iadd, 1) := by decide +kernel
theorem dW_617 : decode code 617 = .ok (.iaload, 1) := by decide +kernel
theorem dW_618 : decode code 618 = .ok (.aload_n 0, 1) := by decide +kernel
theorem dW_619 : decode code 619 = .ok (.iload 4, 2) := by decide +kernel
theorem dW_621 : decode code 621 = .ok (.iconst 2, 1) := by decide +kernel
theorem dW_622 : decode code 622 = .ok (.iadd, 1) := by decide +kernel
theorem dW_623 : decode code 623 = .ok (.iaload, 1) := by decide +kernel
theorem dW_624 : decode code 624 = .ok (.ifCond .eq 7, 3) := by decide +kernel
theorem dW_627 : decode code 627 = .ok (.iconst 1, 1) := by decide +kernel
theorem dW_628 : decode code 628 = .ok (.goto 4, 3) := by decide +kernel
theorem dW_631 : decode code 631 = .ok (.iconst 0, 1) := by decide +kernel
theorem dW_632 : decode code 632 = .ok (.invokevirtual 195, 3) := by decide +kernel
theorem dW_635 : decode code 635 = .ok (.istore 6, 2) := by decide +kernel
theorem dW_637 : decode code 637 = .ok (.goto 1690, 3) := by decide +kernel
theorem dW_640 : decode code 640 = .ok (.aload_n 1, 1) := by decide +kernel
theorem dW_641 : decode code 641 = .ok (.aload_n 0, 1) := by decide +kernel
