theorem dW_0 : decode code 0 = .ok (.new 8, 3) := dec_187 (bt_0 (i := 0) rfl) (bt_0 (i := 1) rfl) (bt_0 (i := 2) rfl) rfl
theorem dW_3 : decode code 3 = .ok (.dup, 1) := dec_89 (bt_0 (i := 3) rfl)
theorem dW_4 : decode code 4 = .ok (.invokespecial 167, 3) := dec_183 (bt_0 (i := 4) rfl) (bt_0 (i := 5) rfl) (bt_0 (i := 6) rfl) rfl
theorem dW_7 : decode code 7 = .ok (.astore_n 1, 1) := dec_76 (bt_0 (i := 7) rfl)
theorem dW_8 : decode code 8 = .ok (.new 168, 3) := dec_187 (bt_0 (i := 8) rfl) (bt_0 (i := 9) rfl) (bt_0 (i := 10) rfl) rfl
theorem dW_11 : decode code 11 = .ok (.dup, 1) := dec_89 (bt_0 (i := 11) rfl)
theorem dW_12 : decode code 12 = .ok (.invokespecial 170, 3) := dec_183 (bt_0 (i := 12) rfl) (bt_0 (i := 13) rfl) (bt_0 (i := 14) rfl) rfl
theorem dW_15 : decode code 15 = .ok (.astore_n 2, 1) := dec_77 (bt_0 (i := 15) rfl)
theorem dW_16 : decode code 16 = .ok (.new 14, 3) := dec_187 (bt_0 (i := 16) rfl) (bt_0 (i := 17) rfl) (bt_0 (i := 18) rfl) rfl
theorem dW_19 : decode code 19 = .ok (.dup, 1) := dec_89 (bt_0 (i := 19) rfl)
theorem dW_20 : decode code 20 = .ok (.invokespecial 171, 3) := dec_183 (bt_0 (i := 20) rfl) (bt_0 (i := 21) rfl) (bt_0 (i := 22) rfl) rfl
theorem dW_23 : decode code 23 = .ok (.astore_n 3, 1) := dec_78 (bt_0 (i := 23) rfl)
theorem dW_24 : decode code 24 = .ok (.iconst 0, 1) := dec_3 (bt_0 (i := 24) rfl)
theorem dW_25 : decode code 25 = .ok (.istore 4, 2) := dec_54 (bt_0 (i := 25) rfl) (bt_0 (i := 26) rfl) rfl
theorem dW_27 : decode code 27 = .ok (.iload 4, 2) := dec_21 (bt_0 (i := 27) rfl) (bt_0 (i := 28) rfl) rfl
theorem dW_29 : decode code 29 = .ok (.aload_n 0, 1) := dec_42 (bt_0 (i := 29) rfl)
theorem dW_30 : decode code 30 = .ok (.arraylength, 1) := dec_190 (bt_0 (i := 30) rfl)
theorem dW_31 : decode code 31 = .ok (.iconst 5, 1) := dec_8 (bt_0 (i := 31) rfl)
theorem dW_32 : decode code 32 = .ok (.isub, 1) := dec_100 (bt_0 (i := 32) rfl)
theorem dW_33 : decode code 33 = .ok (.if_icmp .gt 2329, 3) := dec_163 (bt_0 (i := 33) rfl) (bt_0 (i := 34) rfl) (bt_0 (i := 35) rfl) (by decide +kernel)
theorem dW_36 : decode code 36 = .ok (.aload_n 0, 1) := dec_42 (bt_0 (i := 36) rfl)
theorem dW_37 : decode code 37 = .ok (.iload 4, 2) := dec_21 (bt_0 (i := 37) rfl) (bt_0 (i := 38) rfl) rfl
theorem dW_39 : decode code 39 = .ok (.iaload, 1) := dec_46 (bt_0 (i := 39) rfl)
theorem dW_40 : decode code 40 = .ok (.bipush 63, 2) := dec_16 (bt_0 (i := 40) rfl) (bt_0 (i := 41) rfl) (by decide +kernel)
theorem dW_42 : decode code 42 = .ok (.iand, 1) := dec_126 (bt_0 (i := 42) rfl)
theorem dW_43 : decode code 43 = .ok (.tableswitch 2313 0 49 #[213, 293, 373, 425, 477, 541, 597, 653, 681, 737, 777, 790, 858, 898, 978, 1046, 1074, 1102, 1143, 1184, 1200, 1216, 1268, 1325, 1377, 1405, 1461, 1489, 1529, 1569, 1597, 1625, 1653, 1705, 1757, 1797, 1825, 1853, 1909, 1949, 1989, 2029, 2070, 2126, 2154, 2206, 2246, 2274, 2287, 2300], 213) := by decide +kernel
theorem dW_256 : decode code 256 = .ok (.aload_n 1, 1) := dec_43 (bt_4 (i := 0) rfl)
theorem dW_257 : decode code 257 = .ok (.aload_n 0, 1) := dec_42 (bt_4 (i := 1) rfl)
theorem dW_258 : decode code 258 = .ok (.iload 4, 2) := dec_21 (bt_4 (i := 2) rfl) (bt_4 (i := 3) rfl) rfl
theorem dW_260 : decode code 260 = .ok (.iconst 1, 1) := dec_4 (bt_4 (i := 4) rfl)
theorem dW_261 : decode code 261 = .ok (.iadd, 1) := dec_96 (bt_4 (i := 5) rfl)
theorem dW_262 : decode code 262 = .ok (.iaload, 1) := dec_46 (bt_4 (i := 6) rfl)
theorem dW_263 : decode code 263 = .ok (.aload_n 0, 1) := dec_42 (bt_4 (i := 7) rfl)
theorem dW_264 : decode code 264 = .ok (.iload 4, 2) := dec_21 (bt_4 (i := 8) rfl) (bt_4 (i := 9) rfl) rfl
theorem dW_266 : decode code 266 = .ok (.iconst 2, 1) := dec_5 (bt_4 (i := 10) rfl)
theorem dW_267 : decode code 267 = .ok (.iadd, 1) := dec_96 (bt_4 (i := 11) rfl)
theorem dW_268 : decode code 268 = .ok (.iaload, 1) := dec_46 (bt_4 (i := 12) rfl)
theorem dW_269 : decode code 269 = .ok (.ifCond .eq 7, 3) := dec_153 (bt_4 (i := 13) rfl) (bt_4 (i := 14) rfl) (bt_4 (i := 15) rfl) (by decide +kernel)
theorem dW_272 : decode code 272 = .ok (.iconst 1, 1) := dec_4 (bt_4 (i := 16) rfl)
theorem dW_273 : decode code 273 = .ok (.goto 4, 3) := dec_167 (bt_4 (i := 17) rfl) (bt_4 (i := 18) rfl) (bt_4 (i := 19) rfl) (by decide +kernel)
theorem dW_276 : decode code 276 = .ok (.iconst 0, 1) := dec_3 (bt_4 (i := 20) rfl)
theorem dW_277 : decode code 277 = .ok (.aload_n 0, 1) := dec_42 (bt_4 (i := 21) rfl)
theorem dW_278 : decode code 278 = .ok (.iload 4, 2) := dec_21 (bt_4 (i := 22) rfl) (bt_4 (i := 23) rfl) rfl
theorem dW_280 : decode code 280 = .ok (.iconst 3, 1) := dec_6 (bt_4 (i := 24) rfl)
theorem dW_281 : decode code 281 = .ok (.iadd, 1) := dec_96 (bt_4 (i := 25) rfl)
theorem dW_282 : decode code 282 = .ok (.iaload, 1) := dec_46 (bt_4 (i := 26) rfl)
theorem dW_283 : decode code 283 = .ok (.aload_n 0, 1) := dec_42 (bt_4 (i := 27) rfl)
theorem dW_284 : decode code 284 = .ok (.iload 4, 2) := dec_21 (bt_4 (i := 28) rfl) (bt_4 (i := 29) rfl) rfl
theorem dW_286 : decode code 286 = .ok (.iconst 4, 1) := dec_7 (bt_4 (i := 30) rfl)
theorem dW_287 : decode code 287 = .ok (.iadd, 1) := dec_96 (bt_4 (i := 31) rfl)
theorem dW_288 : decode code 288 = .ok (.iaload, 1) := dec_46 (bt_4 (i := 32) rfl)
theorem dW_289 : decode code 289 = .ok (.aload_n 3, 1) := dec_45 (bt_4 (i := 33) rfl)
theorem dW_290 : decode code 290 = .ok (.invokestatic 172, 3) := dec_184 (bt_4 (i := 34) rfl) (bt_4 (i := 35) rfl) (bt_4 (i := 36) rfl) rfl
theorem dW_293 : decode code 293 = .ok (.istore 5, 2) := dec_54 (bt_4 (i := 37) rfl) (bt_4 (i := 38) rfl) rfl
theorem dW_295 : decode code 295 = .ok (.aload_n 2, 1) := dec_44 (bt_4 (i := 39) rfl)
theorem dW_296 : decode code 296 = .ok (.aload_n 0, 1) := dec_42 (bt_4 (i := 40) rfl)
theorem dW_297 : decode code 297 = .ok (.iload 4, 2) := dec_21 (bt_4 (i := 41) rfl) (bt_4 (i := 42) rfl) rfl
theorem dW_299 : decode code 299 = .ok (.iconst 1, 1) := dec_4 (bt_4 (i := 43) rfl)
theorem dW_300 : decode code 300 = .ok (.iadd, 1) := dec_96 (bt_4 (i := 44) rfl)
theorem dW_301 : decode code 301 = .ok (.iaload, 1) := dec_46 (bt_4 (i := 45) rfl)
theorem dW_302 : decode code 302 = .ok (.aload_n 0, 1) := dec_42 (bt_4 (i := 46) rfl)
theorem dW_303 : decode code 303 = .ok (.iload 4, 2) := dec_21 (bt_4 (i := 47) rfl) (bt_4 (i := 48) rfl) rfl
theorem dW_305 : decode code 305 = .ok (.iconst 2, 1) := dec_5 (bt_4 (i := 49) rfl)
theorem dW_306 : decode code 306 = .ok (.iadd, 1) := dec_96 (bt_4 (i := 50) rfl)
theorem dW_307 : decode code 307 = .ok (.iaload, 1) := dec_46 (bt_4 (i := 51) rfl)
theorem dW_308 : decode code 308 = .ok (.ifCond .eq 7, 3) := dec_153 (bt_4 (i := 52) rfl) (bt_4 (i := 53) rfl) (bt_4 (i := 54) rfl) (by decide +kernel)
theorem dW_311 : decode code 311 = .ok (.iconst 1, 1) := dec_4 (bt_4 (i := 55) rfl)
theorem dW_312 : decode code 312 = .ok (.goto 4, 3) := dec_167 (bt_4 (i := 56) rfl) (bt_4 (i := 57) rfl) (bt_4 (i := 58) rfl) (by decide +kernel)
theorem dW_315 : decode code 315 = .ok (.iconst 0, 1) := dec_3 (bt_4 (i := 59) rfl)
theorem dW_316 : decode code 316 = .ok (.aload_n 0, 1) := dec_42 (bt_4 (i := 60) rfl)
theorem dW_317 : decode code 317 = .ok (.iload 4, 2) := dec_21 (bt_4 (i := 61) rfl) (bt_4 (i := 62) rfl) rfl
theorem dW_319 : decode code 319 = .ok (.iconst 3, 1) := dec_6 (bt_4 (i := 63) rfl)
theorem dW_320 : decode code 320 = .ok (.iadd, 1) := dec_96 (bt_5 (i := 0) rfl)
theorem dW_321 : decode code 321 = .ok (.iaload, 1) := dec_46 (bt_5 (i := 1) rfl)
theorem dW_322 : decode code 322 = .ok (.aload_n 0, 1) := dec_42 (bt_5 (i := 2) rfl)
theorem dW_323 : decode code 323 = .ok (.iload 4, 2) := dec_21 (bt_5 (i := 3) rfl) (bt_5 (i := 4) rfl) rfl
theorem dW_325 : decode code 325 = .ok (.iconst 4, 1) := dec_7 (bt_5 (i := 5) rfl)
theorem dW_326 : decode code 326 = .ok (.iadd, 1) := dec_96 (bt_5 (i := 6) rfl)
theorem dW_327 : decode code 327 = .ok (.iaload, 1) := dec_46 (bt_5 (i := 7) rfl)
theorem dW_328 : decode code 328 = .ok (.invokevirtual 177, 3) := dec_182 (bt_5 (i := 8) rfl) (bt_5 (i := 9) rfl) (bt_5 (i := 10) rfl) rfl
theorem dW_331 : decode code 331 = .ok (.istore 6, 2) := dec_54 (bt_5 (i := 11) rfl) (bt_5 (i := 12) rfl) rfl
theorem dW_333 : decode code 333 = .ok (.goto 2023, 3) := dec_167 (bt_5 (i := 13) rfl) (bt_5 (i := 14) rfl) (bt_5 (i := 15) rfl) (by decide +kernel)
theorem dW_336 : decode code 336 = .ok (.aload_n 1, 1) := dec_43 (bt_5 (i := 16) rfl)
theorem dW_337 : decode code 337 = .ok (.aload_n 0, 1) := dec_42 (bt_5 (i := 17) rfl)
theorem dW_338 : decode code 338 = .ok (.iload 4, 2) := dec_21 (bt_5 (i := 18) rfl) (bt_5 (i := 19) rfl) rfl
theorem dW_340 : decode code 340 = .ok (.iconst 1, 1) := dec_4 (bt_5 (i := 20) rfl)
theorem dW_341 : decode code 341 = .ok (.iadd, 1) := dec_96 (bt_5 (i := 21) rfl)
theorem dW_342 : decode code 342 = .ok (.iaload, 1) := dec_46 (bt_5 (i := 22) rfl)
theorem dW_343 : decode code 343 = .ok (.aload_n 0, 1) := dec_42 (bt_5 (i := 23) rfl)
theorem dW_344 : decode code 344 = .ok (.iload 4, 2) := dec_21 (bt_5 (i := 24) rfl) (bt_5 (i := 25) rfl) rfl
theorem dW_346 : decode code 346 = .ok (.iconst 2, 1) := dec_5 (bt_5 (i := 26) rfl)
theorem dW_347 : decode code 347 = .ok (.iadd, 1) := dec_96 (bt_5 (i := 27) rfl)
theorem dW_348 : decode code 348 = .ok (.iaload, 1) := dec_46 (bt_5 (i := 28) rfl)
theorem dW_349 : decode code 349 = .ok (.ifCond .eq 7, 3) := dec_153 (bt_5 (i := 29) rfl) (bt_5 (i := 30) rfl) (bt_5 (i := 31) rfl) (by decide +kernel)
theorem dW_352 : decode code 352 = .ok (.iconst 1, 1) := dec_4 (bt_5 (i := 32) rfl)
theorem dW_353 : decode code 353 = .ok (.goto 4, 3) := dec_167 (bt_5 (i := 33) rfl) (bt_5 (i := 34) rfl) (bt_5 (i := 35) rfl) (by decide +kernel)
theorem dW_356 : decode code 356 = .ok (.iconst 0, 1) := dec_3 (bt_5 (i := 36) rfl)
theorem dW_357 : decode code 357 = .ok (.aload_n 0, 1) := dec_42 (bt_5 (i := 37) rfl)
theorem dW_358 : decode code 358 = .ok (.iload 4, 2) := dec_21 (bt_5 (i := 38) rfl) (bt_5 (i := 39) rfl) rfl
theorem dW_360 : decode code 360 = .ok (.iconst 3, 1) := dec_6 (bt_5 (i := 40) rfl)
theorem dW_361 : decode code 361 = .ok (.iadd, 1) := dec_96 (bt_5 (i := 41) rfl)
theorem dW_362 : decode code 362 = .ok (.iaload, 1) := dec_46 (bt_5 (i := 42) rfl)
theorem dW_363 : decode code 363 = .ok (.aload_n 0, 1) := dec_42 (bt_5 (i := 43) rfl)
theorem dW_364 : decode code 364 = .ok (.iload 4, 2) := dec_21 (bt_5 (i := 44) rfl) (bt_5 (i := 45) rfl) rfl
theorem dW_366 : decode code 366 = .ok (.iconst 4, 1) := dec_7 (bt_5 (i := 46) rfl)
theorem dW_367 : decode code 367 = .ok (.iadd, 1) := dec_96 (bt_5 (i := 47) rfl)
theorem dW_368 : decode code 368 = .ok (.iaload, 1) := dec_46 (bt_5 (i := 48) rfl)
theorem dW_369 : decode code 369 = .ok (.aload_n 3, 1) := dec_45 (bt_5 (i := 49) rfl)
theorem dW_370 : decode code 370 = .ok (.invokestatic 178, 3) := dec_184 (bt_5 (i := 50) rfl) (bt_5 (i := 51) rfl) (bt_5 (i := 52) rfl) rfl
theorem dW_373 : decode code 373 = .ok (.istore 5, 2) := dec_54 (bt_5 (i := 53) rfl) (bt_5 (i := 54) rfl) rfl
theorem dW_375 : decode code 375 = .ok (.aload_n 2, 1) := dec_44 (bt_5 (i := 55) rfl)
theorem dW_376 : decode code 376 = .ok (.aload_n 0, 1) := dec_42 (bt_5 (i := 56) rfl)
theorem dW_377 : decode code 377 = .ok (.iload 4, 2) := dec_21 (bt_5 (i := 57) rfl) (bt_5 (i := 58) rfl) rfl
theorem dW_379 : decode code 379 = .ok (.iconst 1, 1) := dec_4 (bt_5 (i := 59) rfl)
theorem dW_380 : decode code 380 = .ok (.iadd, 1) := dec_96 (bt_5 (i := 60) rfl)
theorem dW_381 : decode code 381 = .ok (.iaload, 1) := dec_46 (bt_5 (i := 61) rfl)
theorem dW_382 : decode code 382 = .ok (.aload_n 0, 1) := dec_42 (bt_5 (i := 62) rfl)
theorem dW_383 : decode code 383 = .ok (.iload 4, 2) := dec_21 (bt_5 (i := 63) rfl) (bt_6 (i := 0) rfl) rfl
theorem dW_385 : decode code 385 = .ok (.iconst 2, 1) := dec_5 (bt_6 (i := 1) rfl)
theorem dW_386 : decode code 386 = .ok (.iadd, 1) := dec_96 (bt_6 (i := 2) rfl)
theorem dW_387 : decode code 387 = .ok (.iaload, 1) := dec_46 (bt_6 (i := 3) rfl)
theorem dW_388 : decode code 388 = .ok (.ifCond .eq 7, 3) := dec_153 (bt_6 (i := 4) rfl) (bt_6 (i := 5) rfl) (bt_6 (i := 6) rfl) (by decide +kernel)
theorem dW_391 : decode code 391 = .ok (.iconst 1, 1) := dec_4 (bt_6 (i := 7) rfl)
theorem dW_392 : decode code 392 = .ok (.goto 4, 3) := dec_167 (bt_6 (i := 8) rfl) (bt_6 (i := 9) rfl) (bt_6 (i := 10) rfl) (by decide +kernel)
theorem dW_395 : decode code 395 = .ok (.iconst 0, 1) := dec_3 (bt_6 (i := 11) rfl)
theorem dW_396 : decode code 396 = .ok (.aload_n 0, 1) := dec_42 (bt_6 (i := 12) rfl)
theorem dW_397 : decode code 397 = .ok (.iload 4, 2) := dec_21 (bt_6 (i := 13) rfl) (bt_6 (i := 14) rfl) rfl
theorem dW_399 : decode code 399 = .ok (.iconst 3, 1) := dec_6 (bt_6 (i := 15) rfl)
theorem dW_400 : decode code 400 = .ok (.iadd, 1) := dec_96 (bt_6 (i := 16) rfl)
theorem dW_401 : decode code 401 = .ok (.iaload, 1) := dec_46 (bt_6 (i := 17) rfl)
theorem dW_402 : decode code 402 = .ok (.aload_n 0, 1) := dec_42 (bt_6 (i := 18) rfl)
theorem dW_403 : decode code 403 = .ok (.iload 4, 2) := dec_21 (bt_6 (i := 19) rfl) (bt_6 (i := 20) rfl) rfl
theorem dW_405 : decode code 405 = .ok (.iconst 4, 1) := dec_7 (bt_6 (i := 21) rfl)
theorem dW_406 : decode code 406 = .ok (.iadd, 1) := dec_96 (bt_6 (i := 22) rfl)
theorem dW_407 : decode code 407 = .ok (.iaload, 1) := dec_46 (bt_6 (i := 23) rfl)
theorem dW_408 : decode code 408 = .ok (.invokevirtual 180, 3) := dec_182 (bt_6 (i := 24) rfl) (bt_6 (i := 25) rfl) (bt_6 (i := 26) rfl) rfl
theorem dW_411 : decode code 411 = .ok (.istore 6, 2) := dec_54 (bt_6 (i := 27) rfl) (bt_6 (i := 28) rfl) rfl
theorem dW_413 : decode code 413 = .ok (.goto 1943, 3) := dec_167 (bt_6 (i := 29) rfl) (bt_6 (i := 30) rfl) (bt_6 (i := 31) rfl) (by decide +kernel)
theorem dW_416 : decode code 416 = .ok (.aload_n 1, 1) := dec_43 (bt_6 (i := 32) rfl)
theorem dW_417 : decode code 417 = .ok (.aload_n 0, 1) := dec_42 (bt_6 (i := 33) rfl)
theorem dW_418 : decode code 418 = .ok (.iload 4, 2) := dec_21 (bt_6 (i := 34) rfl) (bt_6 (i := 35) rfl) rfl
theorem dW_420 : decode code 420 = .ok (.iconst 1, 1) := dec_4 (bt_6 (i := 36) rfl)
theorem dW_421 : decode code 421 = .ok (.iadd, 1) := dec_96 (bt_6 (i := 37) rfl)
theorem dW_422 : decode code 422 = .ok (.iaload, 1) := dec_46 (bt_6 (i := 38) rfl)
theorem dW_423 : decode code 423 = .ok (.aload_n 0, 1) := dec_42 (bt_6 (i := 39) rfl)
theorem dW_424 : decode code 424 = .ok (.iload 4, 2) := dec_21 (bt_6 (i := 40) rfl) (bt_6 (i := 41) rfl) rfl
theorem dW_426 : decode code 426 = .ok (.iconst 2, 1) := dec_5 (bt_6 (i := 42) rfl)
theorem dW_427 : decode code 427 = .ok (.iadd, 1) := dec_96 (bt_6 (i := 43) rfl)
theorem dW_428 : decode code 428 = .ok (.iaload, 1) := dec_46 (bt_6 (i := 44) rfl)
theorem dW_429 : decode code 429 = .ok (.aload_n 0, 1) := dec_42 (bt_6 (i := 45) rfl)
theorem dW_430 : decode code 430 = .ok (.iload 4, 2) := dec_21 (bt_6 (i := 46) rfl) (bt_6 (i := 47) rfl) rfl
theorem dW_432 : decode code 432 = .ok (.iconst 3, 1) := dec_6 (bt_6 (i := 48) rfl)
theorem dW_433 : decode code 433 = .ok (.iadd, 1) := dec_96 (bt_6 (i := 49) rfl)
theorem dW_434 : decode code 434 = .ok (.iaload, 1) := dec_46 (bt_6 (i := 50) rfl)
theorem dW_435 : decode code 435 = .ok (.aload_n 3, 1) := dec_45 (bt_6 (i := 51) rfl)
theorem dW_436 : decode code 436 = .ok (.invokestatic 181, 3) := dec_184 (bt_6 (i := 52) rfl) (bt_6 (i := 53) rfl) (bt_6 (i := 54) rfl) rfl
theorem dW_439 : decode code 439 = .ok (.istore 5, 2) := dec_54 (bt_6 (i := 55) rfl) (bt_6 (i := 56) rfl) rfl
theorem dW_441 : decode code 441 = .ok (.aload_n 2, 1) := dec_44 (bt_6 (i := 57) rfl)
theorem dW_442 : decode code 442 = .ok (.aload_n 0, 1) := dec_42 (bt_6 (i := 58) rfl)
theorem dW_443 : decode code 443 = .ok (.iload 4, 2) := dec_21 (bt_6 (i := 59) rfl) (bt_6 (i := 60) rfl) rfl
theorem dW_445 : decode code 445 = .ok (.iconst 1, 1) := dec_4 (bt_6 (i := 61) rfl)
theorem dW_446 : decode code 446 = .ok (.iadd, 1) := dec_96 (bt_6 (i := 62) rfl)
theorem dW_447 : decode code 447 = .ok (.iaload, 1) := dec_46 (bt_6 (i := 63) rfl)
theorem dW_448 : decode code 448 = .ok (.aload_n 0, 1) := dec_42 (bt_7 (i := 0) rfl)
theorem dW_449 : decode code 449 = .ok (.iload 4, 2) := dec_21 (bt_7 (i := 1) rfl) (bt_7 (i := 2) rfl) rfl
theorem dW_451 : decode code 451 = .ok (.iconst 2, 1) := dec_5 (bt_7 (i := 3) rfl)
theorem dW_452 : decode code 452 = .ok (.iadd, 1) := dec_96 (bt_7 (i := 4) rfl)
theorem dW_453 : decode code 453 = .ok (.iaload, 1) := dec_46 (bt_7 (i := 5) rfl)
theorem dW_454 : decode code 454 = .ok (.aload_n 0, 1) := dec_42 (bt_7 (i := 6) rfl)
theorem dW_455 : decode code 455 = .ok (.iload 4, 2) := dec_21 (bt_7 (i := 7) rfl) (bt_7 (i := 8) rfl) rfl
theorem dW_457 : decode code 457 = .ok (.iconst 3, 1) := dec_6 (bt_7 (i := 9) rfl)
theorem dW_458 : decode code 458 = .ok (.iadd, 1) := dec_96 (bt_7 (i := 10) rfl)
theorem dW_459 : decode code 459 = .ok (.iaload, 1) := dec_46 (bt_7 (i := 11) rfl)
theorem dW_460 : decode code 460 = .ok (.invokevirtual 184, 3) := dec_182 (bt_7 (i := 12) rfl) (bt_7 (i := 13) rfl) (bt_7 (i := 14) rfl) rfl
theorem dW_463 : decode code 463 = .ok (.istore 6, 2) := dec_54 (bt_7 (i := 15) rfl) (bt_7 (i := 16) rfl) rfl
theorem dW_465 : decode code 465 = .ok (.goto 1891, 3) := dec_167 (bt_7 (i := 17) rfl) (bt_7 (i := 18) rfl) (bt_7 (i := 19) rfl) (by decide +kernel)
theorem dW_468 : decode code 468 = .ok (.aload_n 1, 1) := dec_43 (bt_7 (i := 20) rfl)
theorem dW_469 : decode code 469 = .ok (.aload_n 0, 1) := dec_42 (bt_7 (i := 21) rfl)
theorem dW_470 : decode code 470 = .ok (.iload 4, 2) := dec_21 (bt_7 (i := 22) rfl) (bt_7 (i := 23) rfl) rfl
theorem dW_472 : decode code 472 = .ok (.iconst 1, 1) := dec_4 (bt_7 (i := 24) rfl)
theorem dW_473 : decode code 473 = .ok (.iadd, 1) := dec_96 (bt_7 (i := 25) rfl)
theorem dW_474 : decode code 474 = .ok (.iaload, 1) := dec_46 (bt_7 (i := 26) rfl)
theorem dW_475 : decode code 475 = .ok (.aload_n 0, 1) := dec_42 (bt_7 (i := 27) rfl)
theorem dW_476 : decode code 476 = .ok (.iload 4, 2) := dec_21 (bt_7 (i := 28) rfl) (bt_7 (i := 29) rfl) rfl
theorem dW_478 : decode code 478 = .ok (.iconst 2, 1) := dec_5 (bt_7 (i := 30) rfl)
theorem dW_479 : decode code 479 = .ok (.iadd, 1) := dec_96 (bt_7 (i := 31) rfl)
theorem dW_480 : decode code 480 = .ok (.iaload, 1) := dec_46 (bt_7 (i := 32) rfl)
theorem dW_481 : decode code 481 = .ok (.aload_n 0, 1) := dec_42 (bt_7 (i := 33) rfl)
theorem dW_482 : decode code 482 = .ok (.iload 4, 2) := dec_21 (bt_7 (i := 34) rfl) (bt_7 (i := 35) rfl) rfl
theorem dW_484 : decode code 484 = .ok (.iconst 3, 1) := dec_6 (bt_7 (i := 36) rfl)
theorem dW_485 : decode code 485 = .ok (.iadd, 1) := dec_96 (bt_7 (i := 37) rfl)
theorem dW_486 : decode code 486 = .ok (.iaload, 1) := dec_46 (bt_7 (i := 38) rfl)
theorem dW_487 : decode code 487 = .ok (.aload_n 3, 1) := dec_45 (bt_7 (i := 39) rfl)
theorem dW_488 : decode code 488 = .ok (.invokestatic 185, 3) := dec_184 (bt_7 (i := 40) rfl) (bt_7 (i := 41) rfl) (bt_7 (i := 42) rfl) rfl
theorem dW_491 : decode code 491 = .ok (.istore 5, 2) := dec_54 (bt_7 (i := 43) rfl) (bt_7 (i := 44) rfl) rfl
theorem dW_493 : decode code 493 = .ok (.aload_n 2, 1) := dec_44 (bt_7 (i := 45) rfl)
theorem dW_494 : decode code 494 = .ok (.aload_n 0, 1) := dec_42 (bt_7 (i := 46) rfl)
theorem dW_495 : decode code 495 = .ok (.iload 4, 2) := dec_21 (bt_7 (i := 47) rfl) (bt_7 (i := 48) rfl) rfl
theorem dW_497 : decode code 497 = .ok (.iconst 1, 1) := dec_4 (bt_7 (i := 49) rfl)
theorem dW_498 : decode code 498 = .ok (.iadd, 1) := dec_96 (bt_7 (i := 50) rfl)
theorem dW_499 : decode code 499 = .ok (.iaload, 1) := dec_46 (bt_7 (i := 51) rfl)
theorem dW_500 : decode code 500 = .ok (.aload_n 0, 1) := dec_42 (bt_7 (i := 52) rfl)
theorem dW_501 : decode code 501 = .ok (.iload 4, 2) := dec_21 (bt_7 (i := 53) rfl) (bt_7 (i := 54) rfl) rfl
theorem dW_503 : decode code 503 = .ok (.iconst 2, 1) := dec_5 (bt_7 (i := 55) rfl)
theorem dW_504 : decode code 504 = .ok (.iadd, 1) := dec_96 (bt_7 (i := 56) rfl)
theorem dW_505 : decode code 505 = .ok (.iaload, 1) := dec_46 (bt_7 (i := 57) rfl)
theorem dW_506 : decode code 506 = .ok (.aload_n 0, 1) := dec_42 (bt_7 (i := 58) rfl)
theorem dW_507 : decode code 507 = .ok (.iload 4, 2) := dec_21 (bt_7 (i := 59) rfl) (bt_7 (i := 60) rfl) rfl
theorem dW_509 : decode code 509 = .ok (.iconst 3, 1) := dec_6 (bt_7 (i := 61) rfl)
theorem dW_510 : decode code 510 = .ok (.iadd, 1) := dec_96 (bt_7 (i := 62) rfl)
theorem dW_511 : decode code 511 = .ok (.iaload, 1) := dec_46 (bt_7 (i := 63) rfl)
theorem dW_512 : decode code 512 = .ok (.invokevirtual 187, 3) := dec_182 (bt_8 (i := 0) rfl) (bt_8 (i := 1) rfl) (bt_8 (i := 2) rfl) rfl
theorem dW_515 : decode code 515 = .ok (.istore 6, 2) := dec_54 (bt_8 (i := 3) rfl) (bt_8 (i := 4) rfl) rfl
theorem dW_517 : decode code 517 = .ok (.goto 1839, 3) := dec_167 (bt_8 (i := 5) rfl) (bt_8 (i := 6) rfl) (bt_8 (i := 7) rfl) (by decide +kernel)
theorem dW_520 : decode code 520 = .ok (.aload_n 1, 1) := dec_43 (bt_8 (i := 8) rfl)
theorem dW_521 : decode code 521 = .ok (.aload_n 0, 1) := dec_42 (bt_8 (i := 9) rfl)
theorem dW_522 : decode code 522 = .ok (.iload 4, 2) := dec_21 (bt_8 (i := 10) rfl) (bt_8 (i := 11) rfl) rfl
theorem dW_524 : decode code 524 = .ok (.iconst 1, 1) := dec_4 (bt_8 (i := 12) rfl)
theorem dW_525 : decode code 525 = .ok (.iadd, 1) := dec_96 (bt_8 (i := 13) rfl)
theorem dW_526 : decode code 526 = .ok (.iaload, 1) := dec_46 (bt_8 (i := 14) rfl)
theorem dW_527 : decode code 527 = .ok (.aload_n 0, 1) := dec_42 (bt_8 (i := 15) rfl)
theorem dW_528 : decode code 528 = .ok (.iload 4, 2) := dec_21 (bt_8 (i := 16) rfl) (bt_8 (i := 17) rfl) rfl
theorem dW_530 : decode code 530 = .ok (.iconst 2, 1) := dec_5 (bt_8 (i := 18) rfl)
theorem dW_531 : decode code 531 = .ok (.iadd, 1) := dec_96 (bt_8 (i := 19) rfl)
theorem dW_532 : decode code 532 = .ok (.iaload, 1) := dec_46 (bt_8 (i := 20) rfl)
theorem dW_533 : decode code 533 = .ok (.aload_n 0, 1) := dec_42 (bt_8 (i := 21) rfl)
theorem dW_534 : decode code 534 = .ok (.iload 4, 2) := dec_21 (bt_8 (i := 22) rfl) (bt_8 (i := 23) rfl) rfl
theorem dW_536 : decode code 536 = .ok (.iconst 3, 1) := dec_6 (bt_8 (i := 24) rfl)
theorem dW_537 : decode code 537 = .ok (.iadd, 1) := dec_96 (bt_8 (i := 25) rfl)
theorem dW_538 : decode code 538 = .ok (.iaload, 1) := dec_46 (bt_8 (i := 26) rfl)
theorem dW_539 : decode code 539 = .ok (.aload_n 0, 1) := dec_42 (bt_8 (i := 27) rfl)
theorem dW_540 : decode code 540 = .ok (.iload 4, 2) := dec_21 (bt_8 (i := 28) rfl) (bt_8 (i := 29) rfl) rfl
theorem dW_542 : decode code 542 = .ok (.iconst 4, 1) := dec_7 (bt_8 (i := 30) rfl)
theorem dW_543 : decode code 543 = .ok (.iadd, 1) := dec_96 (bt_8 (i := 31) rfl)
theorem dW_544 : decode code 544 = .ok (.iaload, 1) := dec_46 (bt_8 (i := 32) rfl)
theorem dW_545 : decode code 545 = .ok (.aload_n 3, 1) := dec_45 (bt_8 (i := 33) rfl)
theorem dW_546 : decode code 546 = .ok (.invokestatic 188, 3) := dec_184 (bt_8 (i := 34) rfl) (bt_8 (i := 35) rfl) (bt_8 (i := 36) rfl) rfl
theorem dW_549 : decode code 549 = .ok (.istore 5, 2) := dec_54 (bt_8 (i := 37) rfl) (bt_8 (i := 38) rfl) rfl
theorem dW_551 : decode code 551 = .ok (.aload_n 2, 1) := dec_44 (bt_8 (i := 39) rfl)
theorem dW_552 : decode code 552 = .ok (.aload_n 0, 1) := dec_42 (bt_8 (i := 40) rfl)
theorem dW_553 : decode code 553 = .ok (.iload 4, 2) := dec_21 (bt_8 (i := 41) rfl) (bt_8 (i := 42) rfl) rfl
theorem dW_555 : decode code 555 = .ok (.iconst 1, 1) := dec_4 (bt_8 (i := 43) rfl)
theorem dW_556 : decode code 556 = .ok (.iadd, 1) := dec_96 (bt_8 (i := 44) rfl)
theorem dW_557 : decode code 557 = .ok (.iaload, 1) := dec_46 (bt_8 (i := 45) rfl)
theorem dW_558 : decode code 558 = .ok (.aload_n 0, 1) := dec_42 (bt_8 (i := 46) rfl)
theorem dW_559 : decode code 559 = .ok (.iload 4, 2) := dec_21 (bt_8 (i := 47) rfl) (bt_8 (i := 48) rfl) rfl
theorem dW_561 : decode code 561 = .ok (.iconst 2, 1) := dec_5 (bt_8 (i := 49) rfl)
theorem dW_562 : decode code 562 = .ok (.iadd, 1) := dec_96 (bt_8 (i := 50) rfl)
theorem dW_563 : decode code 563 = .ok (.iaload, 1) := dec_46 (bt_8 (i := 51) rfl)
theorem dW_564 : decode code 564 = .ok (.aload_n 0, 1) := dec_42 (bt_8 (i := 52) rfl)
theorem dW_565 : decode code 565 = .ok (.iload 4, 2) := dec_21 (bt_8 (i := 53) rfl) (bt_8 (i := 54) rfl) rfl
theorem dW_567 : decode code 567 = .ok (.iconst 3, 1) := dec_6 (bt_8 (i := 55) rfl)
theorem dW_568 : decode code 568 = .ok (.iadd, 1) := dec_96 (bt_8 (i := 56) rfl)
theorem dW_569 : decode code 569 = .ok (.iaload, 1) := dec_46 (bt_8 (i := 57) rfl)
theorem dW_570 : decode code 570 = .ok (.aload_n 0, 1) := dec_42 (bt_8 (i := 58) rfl)
theorem dW_571 : decode code 571 = .ok (.iload 4, 2) := dec_21 (bt_8 (i := 59) rfl) (bt_8 (i := 60) rfl) rfl
theorem dW_573 : decode code 573 = .ok (.iconst 4, 1) := dec_7 (bt_8 (i := 61) rfl)
theorem dW_574 : decode code 574 = .ok (.iadd, 1) := dec_96 (bt_8 (i := 62) rfl)
theorem dW_575 : decode code 575 = .ok (.iaload, 1) := dec_46 (bt_8 (i := 63) rfl)
theorem dW_576 : decode code 576 = .ok (.invokevirtual 191, 3) := dec_182 (bt_9 (i := 0) rfl) (bt_9 (i := 1) rfl) (bt_9 (i := 2) rfl) rfl
theorem dW_579 : decode code 579 = .ok (.istore 6, 2) := dec_54 (bt_9 (i := 3) rfl) (bt_9 (i := 4) rfl) rfl
theorem dW_581 : decode code 581 = .ok (.goto 1775, 3) := dec_167 (bt_9 (i := 5) rfl) (bt_9 (i := 6) rfl) (bt_9 (i := 7) rfl) (by decide +kernel)
theorem dW_584 : decode code 584 = .ok (.aload_n 1, 1) := dec_43 (bt_9 (i := 8) rfl)
theorem dW_585 : decode code 585 = .ok (.aload_n 0, 1) := dec_42 (bt_9 (i := 9) rfl)
theorem dW_586 : decode code 586 = .ok (.iload 4, 2) := dec_21 (bt_9 (i := 10) rfl) (bt_9 (i := 11) rfl) rfl
theorem dW_588 : decode code 588 = .ok (.iconst 1, 1) := dec_4 (bt_9 (i := 12) rfl)
theorem dW_589 : decode code 589 = .ok (.iadd, 1) := dec_96 (bt_9 (i := 13) rfl)
theorem dW_590 : decode code 590 = .ok (.iaload, 1) := dec_46 (bt_9 (i := 14) rfl)
theorem dW_591 : decode code 591 = .ok (.aload_n 0, 1) := dec_42 (bt_9 (i := 15) rfl)
theorem dW_592 : decode code 592 = .ok (.iload 4, 2) := dec_21 (bt_9 (i := 16) rfl) (bt_9 (i := 17) rfl) rfl
theorem dW_594 : decode code 594 = .ok (.iconst 2, 1) := dec_5 (bt_9 (i := 18) rfl)
theorem dW_595 : decode code 595 = .ok (.iadd, 1) := dec_96 (bt_9 (i := 19) rfl)
theorem dW_596 : decode code 596 = .ok (.iaload, 1) := dec_46 (bt_9 (i := 20) rfl)
theorem dW_597 : decode code 597 = .ok (.ifCond .eq 7, 3) := dec_153 (bt_9 (i := 21) rfl) (bt_9 (i := 22) rfl) (bt_9 (i := 23) rfl) (by decide +kernel)
theorem dW_600 : decode code 600 = .ok (.iconst 1, 1) := dec_4 (bt_9 (i := 24) rfl)
theorem dW_601 : decode code 601 = .ok (.goto 4, 3) := dec_167 (bt_9 (i := 25) rfl) (bt_9 (i := 26) rfl) (bt_9 (i := 27) rfl) (by decide +kernel)
theorem dW_604 : decode code 604 = .ok (.iconst 0, 1) := dec_3 (bt_9 (i := 28) rfl)
theorem dW_605 : decode code 605 = .ok (.aload_n 3, 1) := dec_45 (bt_9 (i := 29) rfl)
theorem dW_606 : decode code 606 = .ok (.invokestatic 192, 3) := dec_184 (bt_9 (i := 30) rfl) (bt_9 (i := 31) rfl) (bt_9 (i := 32) rfl) rfl
theorem dW_609 : decode code 609 = .ok (.istore 5, 2) := dec_54 (bt_9 (i := 33) rfl) (bt_9 (i := 34) rfl) rfl
theorem dW_611 : decode code 611 = .ok (.aload_n 2, 1) := dec_44 (bt_9 (i := 35) rfl)
theorem dW_612 : decode code 612 = .ok (.aload_n 0, 1) := dec_42 (bt_9 (i := 36) rfl)
theorem dW_613 : decode code 613 = .ok (.iload 4, 2) := dec_21 (bt_9 (i := 37) rfl) (bt_9 (i := 38) rfl) rfl
theorem dW_615 : decode code 615 = .ok (.iconst 1, 1) := dec_4 (bt_9 (i := 39) rfl)
theorem dW_616 : decode code 616 = .ok (.iadd, 1) := dec_96 (bt_9 (i := 40) rfl)
theorem dW_617 : decode code 617 = .ok (.iaload, 1) := dec_46 (bt_9 (i := 41) rfl)
theorem dW_618 : decode code 618 = .ok (.aload_n 0, 1) := dec_42 (bt_9 (i := 42) rfl)
theorem dW_619 : decode code 619 = .ok (.iload 4, 2) := dec_21 (bt_9 (i := 43) rfl) (bt_9 (i := 44) rfl) rfl
theorem dW_621 : decode code 621 = .ok (.iconst 2, 1) := dec_5 (bt_9 (i := 45) rfl)
theorem dW_622 : decode code 622 = .ok (.iadd, 1) := dec_96 (bt_9 (i := 46) rfl)
theorem dW_623 : decode code 623 = .ok (.iaload, 1) := dec_46 (bt_9 (i := 47) rfl)
theorem dW_624 : decode code 624 = .ok (.ifCond .eq 7, 3) := dec_153 (bt_9 (i := 48) rfl) (bt_9 (i := 49) rfl) (bt_9 (i := 50) rfl) (by decide +kernel)
theorem dW_627 : decode code 627 = .ok (.iconst 1, 1) := dec_4 (bt_9 (i := 51) rfl)
theorem dW_628 : decode code 628 = .ok (.goto 4, 3) := dec_167 (bt_9 (i := 52) rfl) (bt_9 (i := 53) rfl) (bt_9 (i := 54) rfl) (by decide +kernel)
theorem dW_631 : decode code 631 = .ok (.iconst 0, 1) := dec_3 (bt_9 (i := 55) rfl)
theorem dW_632 : decode code 632 = .ok (.invokevirtual 195, 3) := dec_182 (bt_9 (i := 56) rfl) (bt_9 (i := 57) rfl) (bt_9 (i := 58) rfl) rfl
theorem dW_635 : decode code 635 = .ok (.istore 6, 2) := dec_54 (bt_9 (i := 59) rfl) (bt_9 (i := 60) rfl) rfl
theorem dW_637 : decode code 637 = .ok (.goto 1719, 3) := dec_167 (bt_9 (i := 61) rfl) (bt_9 (i := 62) rfl) (bt_9 (i := 63) rfl) (by decide +kernel)
theorem dW_640 : decode code 640 = .ok (.aload_n 1, 1) := dec_43 (bt_10 (i := 0) rfl)
theorem dW_641 : decode code 641 = .ok (.aload_n 0, 1) := dec_42 (bt_10 (i := 1) rfl)
theorem dW_642 : decode code 642 = .ok (.iload 4, 2) := dec_21 (bt_10 (i := 2) rfl) (bt_10 (i := 3) rfl) rfl
theorem dW_644 : decode code 644 = .ok (.iconst 1, 1) := dec_4 (bt_10 (i := 4) rfl)
theorem dW_645 : decode code 645 = .ok (.iadd, 1) := dec_96 (bt_10 (i := 5) rfl)
theorem dW_646 : decode code 646 = .ok (.iaload, 1) := dec_46 (bt_10 (i := 6) rfl)
theorem dW_647 : decode code 647 = .ok (.aload_n 0, 1) := dec_42 (bt_10 (i := 7) rfl)
theorem dW_648 : decode code 648 = .ok (.iload 4, 2) := dec_21 (bt_10 (i := 8) rfl) (bt_10 (i := 9) rfl) rfl
theorem dW_650 : decode code 650 = .ok (.iconst 2, 1) := dec_5 (bt_10 (i := 10) rfl)
theorem dW_651 : decode code 651 = .ok (.iadd, 1) := dec_96 (bt_10 (i := 11) rfl)
theorem dW_652 : decode code 652 = .ok (.iaload, 1) := dec_46 (bt_10 (i := 12) rfl)
theorem dW_653 : decode code 653 = .ok (.ifCond .eq 7, 3) := dec_153 (bt_10 (i := 13) rfl) (bt_10 (i := 14) rfl) (bt_10 (i := 15) rfl) (by decide +kernel)
theorem dW_656 : decode code 656 = .ok (.iconst 1, 1) := dec_4 (bt_10 (i := 16) rfl)
theorem dW_657 : decode code 657 = .ok (.goto 4, 3) := dec_167 (bt_10 (i := 17) rfl) (bt_10 (i := 18) rfl) (bt_10 (i := 19) rfl) (by decide +kernel)
theorem dW_660 : decode code 660 = .ok (.iconst 0, 1) := dec_3 (bt_10 (i := 20) rfl)
theorem dW_661 : decode code 661 = .ok (.aload_n 3, 1) := dec_45 (bt_10 (i := 21) rfl)
theorem dW_662 : decode code 662 = .ok (.invokestatic 196, 3) := dec_184 (bt_10 (i := 22) rfl) (bt_10 (i := 23) rfl) (bt_10 (i := 24) rfl) rfl
theorem dW_665 : decode code 665 = .ok (.istore 5, 2) := dec_54 (bt_10 (i := 25) rfl) (bt_10 (i := 26) rfl) rfl
theorem dW_667 : decode code 667 = .ok (.aload_n 2, 1) := dec_44 (bt_10 (i := 27) rfl)
theorem dW_668 : decode code 668 = .ok (.aload_n 0, 1) := dec_42 (bt_10 (i := 28) rfl)
theorem dW_669 : decode code 669 = .ok (.iload 4, 2) := dec_21 (bt_10 (i := 29) rfl) (bt_10 (i := 30) rfl) rfl
theorem dW_671 : decode code 671 = .ok (.iconst 1, 1) := dec_4 (bt_10 (i := 31) rfl)
theorem dW_672 : decode code 672 = .ok (.iadd, 1) := dec_96 (bt_10 (i := 32) rfl)
theorem dW_673 : decode code 673 = .ok (.iaload, 1) := dec_46 (bt_10 (i := 33) rfl)
theorem dW_674 : decode code 674 = .ok (.aload_n 0, 1) := dec_42 (bt_10 (i := 34) rfl)
theorem dW_675 : decode code 675 = .ok (.iload 4, 2) := dec_21 (bt_10 (i := 35) rfl) (bt_10 (i := 36) rfl) rfl
theorem dW_677 : decode code 677 = .ok (.iconst 2, 1) := dec_5 (bt_10 (i := 37) rfl)
theorem dW_678 : decode code 678 = .ok (.iadd, 1) := dec_96 (bt_10 (i := 38) rfl)
theorem dW_679 : decode code 679 = .ok (.iaload, 1) := dec_46 (bt_10 (i := 39) rfl)
theorem dW_680 : decode code 680 = .ok (.ifCond .eq 7, 3) := dec_153 (bt_10 (i := 40) rfl) (bt_10 (i := 41) rfl) (bt_10 (i := 42) rfl) (by decide +kernel)
theorem dW_683 : decode code 683 = .ok (.iconst 1, 1) := dec_4 (bt_10 (i := 43) rfl)
theorem dW_684 : decode code 684 = .ok (.goto 4, 3) := dec_167 (bt_10 (i := 44) rfl) (bt_10 (i := 45) rfl) (bt_10 (i := 46) rfl) (by decide +kernel)
theorem dW_687 : decode code 687 = .ok (.iconst 0, 1) := dec_3 (bt_10 (i := 47) rfl)
theorem dW_688 : decode code 688 = .ok (.invokevirtual 198, 3) := dec_182 (bt_10 (i := 48) rfl) (bt_10 (i := 49) rfl) (bt_10 (i := 50) rfl) rfl
theorem dW_691 : decode code 691 = .ok (.istore 6, 2) := dec_54 (bt_10 (i := 51) rfl) (bt_10 (i := 52) rfl) rfl
theorem dW_693 : decode code 693 = .ok (.goto 1663, 3) := dec_167 (bt_10 (i := 53) rfl) (bt_10 (i := 54) rfl) (bt_10 (i := 55) rfl) (by decide +kernel)
theorem dW_696 : decode code 696 = .ok (.aload_n 1, 1) := dec_43 (bt_10 (i := 56) rfl)
theorem dW_697 : decode code 697 = .ok (.aload_n 0, 1) := dec_42 (bt_10 (i := 57) rfl)
theorem dW_698 : decode code 698 = .ok (.iload 4, 2) := dec_21 (bt_10 (i := 58) rfl) (bt_10 (i := 59) rfl) rfl
theorem dW_700 : decode code 700 = .ok (.iconst 1, 1) := dec_4 (bt_10 (i := 60) rfl)
theorem dW_701 : decode code 701 = .ok (.iadd, 1) := dec_96 (bt_10 (i := 61) rfl)
theorem dW_702 : decode code 702 = .ok (.iaload, 1) := dec_46 (bt_10 (i := 62) rfl)
theorem dW_703 : decode code 703 = .ok (.aload_n 3, 1) := dec_45 (bt_10 (i := 63) rfl)
theorem dW_704 : decode code 704 = .ok (.invokestatic 199, 3) := dec_184 (bt_11 (i := 0) rfl) (bt_11 (i := 1) rfl) (bt_11 (i := 2) rfl) rfl
theorem dW_707 : decode code 707 = .ok (.istore 5, 2) := dec_54 (bt_11 (i := 3) rfl) (bt_11 (i := 4) rfl) rfl
theorem dW_709 : decode code 709 = .ok (.aload_n 2, 1) := dec_44 (bt_11 (i := 5) rfl)
theorem dW_710 : decode code 710 = .ok (.aload_n 0, 1) := dec_42 (bt_11 (i := 6) rfl)
theorem dW_711 : decode code 711 = .ok (.iload 4, 2) := dec_21 (bt_11 (i := 7) rfl) (bt_11 (i := 8) rfl) rfl
theorem dW_713 : decode code 713 = .ok (.iconst 1, 1) := dec_4 (bt_11 (i := 9) rfl)
theorem dW_714 : decode code 714 = .ok (.iadd, 1) := dec_96 (bt_11 (i := 10) rfl)
theorem dW_715 : decode code 715 = .ok (.iaload, 1) := dec_46 (bt_11 (i := 11) rfl)
theorem dW_716 : decode code 716 = .ok (.invokevirtual 202, 3) := dec_182 (bt_11 (i := 12) rfl) (bt_11 (i := 13) rfl) (bt_11 (i := 14) rfl) rfl
theorem dW_719 : decode code 719 = .ok (.istore 6, 2) := dec_54 (bt_11 (i := 15) rfl) (bt_11 (i := 16) rfl) rfl
theorem dW_721 : decode code 721 = .ok (.goto 1635, 3) := dec_167 (bt_11 (i := 17) rfl) (bt_11 (i := 18) rfl) (bt_11 (i := 19) rfl) (by decide +kernel)
theorem dW_724 : decode code 724 = .ok (.aload_n 1, 1) := dec_43 (bt_11 (i := 20) rfl)
theorem dW_725 : decode code 725 = .ok (.aload_n 0, 1) := dec_42 (bt_11 (i := 21) rfl)
theorem dW_726 : decode code 726 = .ok (.iload 4, 2) := dec_21 (bt_11 (i := 22) rfl) (bt_11 (i := 23) rfl) rfl
theorem dW_728 : decode code 728 = .ok (.iconst 1, 1) := dec_4 (bt_11 (i := 24) rfl)
theorem dW_729 : decode code 729 = .ok (.iadd, 1) := dec_96 (bt_11 (i := 25) rfl)
theorem dW_730 : decode code 730 = .ok (.iaload, 1) := dec_46 (bt_11 (i := 26) rfl)
theorem dW_731 : decode code 731 = .ok (.aload_n 0, 1) := dec_42 (bt_11 (i := 27) rfl)
theorem dW_732 : decode code 732 = .ok (.iload 4, 2) := dec_21 (bt_11 (i := 28) rfl) (bt_11 (i := 29) rfl) rfl
theorem dW_734 : decode code 734 = .ok (.iconst 2, 1) := dec_5 (bt_11 (i := 30) rfl)
theorem dW_735 : decode code 735 = .ok (.iadd, 1) := dec_96 (bt_11 (i := 31) rfl)
theorem dW_736 : decode code 736 = .ok (.iaload, 1) := dec_46 (bt_11 (i := 32) rfl)
theorem dW_737 : decode code 737 = .ok (.ifCond .eq 7, 3) := dec_153 (bt_11 (i := 33) rfl) (bt_11 (i := 34) rfl) (bt_11 (i := 35) rfl) (by decide +kernel)
theorem dW_740 : decode code 740 = .ok (.iconst 1, 1) := dec_4 (bt_11 (i := 36) rfl)
theorem dW_741 : decode code 741 = .ok (.goto 4, 3) := dec_167 (bt_11 (i := 37) rfl) (bt_11 (i := 38) rfl) (bt_11 (i := 39) rfl) (by decide +kernel)
theorem dW_744 : decode code 744 = .ok (.iconst 0, 1) := dec_3 (bt_11 (i := 40) rfl)
theorem dW_745 : decode code 745 = .ok (.aload_n 3, 1) := dec_45 (bt_11 (i := 41) rfl)
theorem dW_746 : decode code 746 = .ok (.invokestatic 203, 3) := dec_184 (bt_11 (i := 42) rfl) (bt_11 (i := 43) rfl) (bt_11 (i := 44) rfl) rfl
theorem dW_749 : decode code 749 = .ok (.istore 5, 2) := dec_54 (bt_11 (i := 45) rfl) (bt_11 (i := 46) rfl) rfl
theorem dW_751 : decode code 751 = .ok (.aload_n 2, 1) := dec_44 (bt_11 (i := 47) rfl)
theorem dW_752 : decode code 752 = .ok (.aload_n 0, 1) := dec_42 (bt_11 (i := 48) rfl)
theorem dW_753 : decode code 753 = .ok (.iload 4, 2) := dec_21 (bt_11 (i := 49) rfl) (bt_11 (i := 50) rfl) rfl
theorem dW_755 : decode code 755 = .ok (.iconst 1, 1) := dec_4 (bt_11 (i := 51) rfl)
theorem dW_756 : decode code 756 = .ok (.iadd, 1) := dec_96 (bt_11 (i := 52) rfl)
theorem dW_757 : decode code 757 = .ok (.iaload, 1) := dec_46 (bt_11 (i := 53) rfl)
theorem dW_758 : decode code 758 = .ok (.aload_n 0, 1) := dec_42 (bt_11 (i := 54) rfl)
theorem dW_759 : decode code 759 = .ok (.iload 4, 2) := dec_21 (bt_11 (i := 55) rfl) (bt_11 (i := 56) rfl) rfl
theorem dW_761 : decode code 761 = .ok (.iconst 2, 1) := dec_5 (bt_11 (i := 57) rfl)
theorem dW_762 : decode code 762 = .ok (.iadd, 1) := dec_96 (bt_11 (i := 58) rfl)
theorem dW_763 : decode code 763 = .ok (.iaload, 1) := dec_46 (bt_11 (i := 59) rfl)
theorem dW_764 : decode code 764 = .ok (.ifCond .eq 7, 3) := dec_153 (bt_11 (i := 60) rfl) (bt_11 (i := 61) rfl) (bt_11 (i := 62) rfl) (by decide +kernel)
theorem dW_767 : decode code 767 = .ok (.iconst 1, 1) := dec_4 (bt_11 (i := 63) rfl)
theorem dW_768 : decode code 768 = .ok (.goto 4, 3) := dec_167 (bt_12 (i := 0) rfl) (bt_12 (i := 1) rfl) (bt_12 (i := 2) rfl) (by decide +kernel)
theorem dW_771 : decode code 771 = .ok (.iconst 0, 1) := dec_3 (bt_12 (i := 3) rfl)
theorem dW_772 : decode code 772 = .ok (.invokevirtual 205, 3) := dec_182 (bt_12 (i := 4) rfl) (bt_12 (i := 5) rfl) (bt_12 (i := 6) rfl) rfl
theorem dW_775 : decode code 775 = .ok (.istore 6, 2) := dec_54 (bt_12 (i := 7) rfl) (bt_12 (i := 8) rfl) rfl
theorem dW_777 : decode code 777 = .ok (.goto 1579, 3) := dec_167 (bt_12 (i := 9) rfl) (bt_12 (i := 10) rfl) (bt_12 (i := 11) rfl) (by decide +kernel)
theorem dW_780 : decode code 780 = .ok (.aload_n 1, 1) := dec_43 (bt_12 (i := 12) rfl)
theorem dW_781 : decode code 781 = .ok (.aload_n 0, 1) := dec_42 (bt_12 (i := 13) rfl)
theorem dW_782 : decode code 782 = .ok (.iload 4, 2) := dec_21 (bt_12 (i := 14) rfl) (bt_12 (i := 15) rfl) rfl
theorem dW_784 : decode code 784 = .ok (.iconst 1, 1) := dec_4 (bt_12 (i := 16) rfl)
theorem dW_785 : decode code 785 = .ok (.iadd, 1) := dec_96 (bt_12 (i := 17) rfl)
theorem dW_786 : decode code 786 = .ok (.iaload, 1) := dec_46 (bt_12 (i := 18) rfl)
theorem dW_787 : decode code 787 = .ok (.aload_n 0, 1) := dec_42 (bt_12 (i := 19) rfl)
theorem dW_788 : decode code 788 = .ok (.iload 4, 2) := dec_21 (bt_12 (i := 20) rfl) (bt_12 (i := 21) rfl) rfl
theorem dW_790 : decode code 790 = .ok (.iconst 2, 1) := dec_5 (bt_12 (i := 22) rfl)
theorem dW_791 : decode code 791 = .ok (.iadd, 1) := dec_96 (bt_12 (i := 23) rfl)
theorem dW_792 : decode code 792 = .ok (.iaload, 1) := dec_46 (bt_12 (i := 24) rfl)
theorem dW_793 : decode code 793 = .ok (.aload_n 3, 1) := dec_45 (bt_12 (i := 25) rfl)
theorem dW_794 : decode code 794 = .ok (.invokestatic 206, 3) := dec_184 (bt_12 (i := 26) rfl) (bt_12 (i := 27) rfl) (bt_12 (i := 28) rfl) rfl
theorem dW_797 : decode code 797 = .ok (.istore 5, 2) := dec_54 (bt_12 (i := 29) rfl) (bt_12 (i := 30) rfl) rfl
theorem dW_799 : decode code 799 = .ok (.aload_n 2, 1) := dec_44 (bt_12 (i := 31) rfl)
theorem dW_800 : decode code 800 = .ok (.aload_n 0, 1) := dec_42 (bt_12 (i := 32) rfl)
theorem dW_801 : decode code 801 = .ok (.iload 4, 2) := dec_21 (bt_12 (i := 33) rfl) (bt_12 (i := 34) rfl) rfl
theorem dW_803 : decode code 803 = .ok (.iconst 1, 1) := dec_4 (bt_12 (i := 35) rfl)
theorem dW_804 : decode code 804 = .ok (.iadd, 1) := dec_96 (bt_12 (i := 36) rfl)
theorem dW_805 : decode code 805 = .ok (.iaload, 1) := dec_46 (bt_12 (i := 37) rfl)
theorem dW_806 : decode code 806 = .ok (.aload_n 0, 1) := dec_42 (bt_12 (i := 38) rfl)
theorem dW_807 : decode code 807 = .ok (.iload 4, 2) := dec_21 (bt_12 (i := 39) rfl) (bt_12 (i := 40) rfl) rfl
theorem dW_809 : decode code 809 = .ok (.iconst 2, 1) := dec_5 (bt_12 (i := 41) rfl)
theorem dW_810 : decode code 810 = .ok (.iadd, 1) := dec_96 (bt_12 (i := 42) rfl)
theorem dW_811 : decode code 811 = .ok (.iaload, 1) := dec_46 (bt_12 (i := 43) rfl)
theorem dW_812 : decode code 812 = .ok (.invokevirtual 209, 3) := dec_182 (bt_12 (i := 44) rfl) (bt_12 (i := 45) rfl) (bt_12 (i := 46) rfl) rfl
theorem dW_815 : decode code 815 = .ok (.istore 6, 2) := dec_54 (bt_12 (i := 47) rfl) (bt_12 (i := 48) rfl) rfl
theorem dW_817 : decode code 817 = .ok (.goto 1539, 3) := dec_167 (bt_12 (i := 49) rfl) (bt_12 (i := 50) rfl) (bt_12 (i := 51) rfl) (by decide +kernel)
theorem dW_820 : decode code 820 = .ok (.aload_n 1, 1) := dec_43 (bt_12 (i := 52) rfl)
theorem dW_821 : decode code 821 = .ok (.invokevirtual 210, 3) := dec_182 (bt_12 (i := 53) rfl) (bt_12 (i := 54) rfl) (bt_12 (i := 55) rfl) rfl
theorem dW_824 : decode code 824 = .ok (.pop, 1) := dec_87 (bt_12 (i := 56) rfl)
theorem dW_825 : decode code 825 = .ok (.aload_n 2, 1) := dec_44 (bt_12 (i := 57) rfl)
theorem dW_826 : decode code 826 = .ok (.invokevirtual 213, 3) := dec_182 (bt_12 (i := 58) rfl) (bt_12 (i := 59) rfl) (bt_12 (i := 60) rfl) rfl
theorem dW_829 : decode code 829 = .ok (.pop, 1) := dec_87 (bt_12 (i := 61) rfl)
theorem dW_830 : decode code 830 = .ok (.goto 1526, 3) := dec_167 (bt_12 (i := 62) rfl) (bt_12 (i := 63) rfl) (bt_13 (i := 0) rfl) (by decide +kernel)
theorem dW_833 : decode code 833 = .ok (.aload_n 1, 1) := dec_43 (bt_13 (i := 1) rfl)
theorem dW_834 : decode code 834 = .ok (.aload_n 0, 1) := dec_42 (bt_13 (i := 2) rfl)
theorem dW_835 : decode code 835 = .ok (.iload 4, 2) := dec_21 (bt_13 (i := 3) rfl) (bt_13 (i := 4) rfl) rfl
theorem dW_837 : decode code 837 = .ok (.iconst 1, 1) := dec_4 (bt_13 (i := 5) rfl)
theorem dW_838 : decode code 838 = .ok (.iadd, 1) := dec_96 (bt_13 (i := 6) rfl)
theorem dW_839 : decode code 839 = .ok (.iaload, 1) := dec_46 (bt_13 (i := 7) rfl)
theorem dW_840 : decode code 840 = .ok (.aload_n 0, 1) := dec_42 (bt_13 (i := 8) rfl)
theorem dW_841 : decode code 841 = .ok (.iload 4, 2) := dec_21 (bt_13 (i := 9) rfl) (bt_13 (i := 10) rfl) rfl
theorem dW_843 : decode code 843 = .ok (.iconst 2, 1) := dec_5 (bt_13 (i := 11) rfl)
theorem dW_844 : decode code 844 = .ok (.iadd, 1) := dec_96 (bt_13 (i := 12) rfl)
theorem dW_845 : decode code 845 = .ok (.iaload, 1) := dec_46 (bt_13 (i := 13) rfl)
theorem dW_846 : decode code 846 = .ok (.aload_n 0, 1) := dec_42 (bt_13 (i := 14) rfl)
theorem dW_847 : decode code 847 = .ok (.iload 4, 2) := dec_21 (bt_13 (i := 15) rfl) (bt_13 (i := 16) rfl) rfl
theorem dW_849 : decode code 849 = .ok (.iconst 3, 1) := dec_6 (bt_13 (i := 17) rfl)
theorem dW_850 : decode code 850 = .ok (.iadd, 1) := dec_96 (bt_13 (i := 18) rfl)
theorem dW_851 : decode code 851 = .ok (.iaload, 1) := dec_46 (bt_13 (i := 19) rfl)
theorem dW_852 : decode code 852 = .ok (.ifCond .eq 7, 3) := dec_153 (bt_13 (i := 20) rfl) (bt_13 (i := 21) rfl) (bt_13 (i := 22) rfl) (by decide +kernel)
theorem dW_855 : decode code 855 = .ok (.iconst 1, 1) := dec_4 (bt_13 (i := 23) rfl)
theorem dW_856 : decode code 856 = .ok (.goto 4, 3) := dec_167 (bt_13 (i := 24) rfl) (bt_13 (i := 25) rfl) (bt_13 (i := 26) rfl) (by decide +kernel)
theorem dW_859 : decode code 859 = .ok (.iconst 0, 1) := dec_3 (bt_13 (i := 27) rfl)
theorem dW_860 : decode code 860 = .ok (.aload_n 3, 1) := dec_45 (bt_13 (i := 28) rfl)
theorem dW_861 : decode code 861 = .ok (.invokestatic 214, 3) := dec_184 (bt_13 (i := 29) rfl) (bt_13 (i := 30) rfl) (bt_13 (i := 31) rfl) rfl
theorem dW_864 : decode code 864 = .ok (.istore 5, 2) := dec_54 (bt_13 (i := 32) rfl) (bt_13 (i := 33) rfl) rfl
theorem dW_866 : decode code 866 = .ok (.aload_n 2, 1) := dec_44 (bt_13 (i := 34) rfl)
theorem dW_867 : decode code 867 = .ok (.aload_n 0, 1) := dec_42 (bt_13 (i := 35) rfl)
theorem dW_868 : decode code 868 = .ok (.iload 4, 2) := dec_21 (bt_13 (i := 36) rfl) (bt_13 (i := 37) rfl) rfl
theorem dW_870 : decode code 870 = .ok (.iconst 1, 1) := dec_4 (bt_13 (i := 38) rfl)
theorem dW_871 : decode code 871 = .ok (.iadd, 1) := dec_96 (bt_13 (i := 39) rfl)
theorem dW_872 : decode code 872 = .ok (.iaload, 1) := dec_46 (bt_13 (i := 40) rfl)
theorem dW_873 : decode code 873 = .ok (.aload_n 0, 1) := dec_42 (bt_13 (i := 41) rfl)
theorem dW_874 : decode code 874 = .ok (.iload 4, 2) := dec_21 (bt_13 (i := 42) rfl) (bt_13 (i := 43) rfl) rfl
theorem dW_876 : decode code 876 = .ok (.iconst 2, 1) := dec_5 (bt_13 (i := 44) rfl)
theorem dW_877 : decode code 877 = .ok (.iadd, 1) := dec_96 (bt_13 (i := 45) rfl)
theorem dW_878 : decode code 878 = .ok (.iaload, 1) := dec_46 (bt_13 (i := 46) rfl)
theorem dW_879 : decode code 879 = .ok (.aload_n 0, 1) := dec_42 (bt_13 (i := 47) rfl)
theorem dW_880 : decode code 880 = .ok (.iload 4, 2) := dec_21 (bt_13 (i := 48) rfl) (bt_13 (i := 49) rfl) rfl
theorem dW_882 : decode code 882 = .ok (.iconst 3, 1) := dec_6 (bt_13 (i := 50) rfl)
theorem dW_883 : decode code 883 = .ok (.iadd, 1) := dec_96 (bt_13 (i := 51) rfl)
theorem dW_884 : decode code 884 = .ok (.iaload, 1) := dec_46 (bt_13 (i := 52) rfl)
theorem dW_885 : decode code 885 = .ok (.ifCond .eq 7, 3) := dec_153 (bt_13 (i := 53) rfl) (bt_13 (i := 54) rfl) (bt_13 (i := 55) rfl) (by decide +kernel)
theorem dW_888 : decode code 888 = .ok (.iconst 1, 1) := dec_4 (bt_13 (i := 56) rfl)
theorem dW_889 : decode code 889 = .ok (.goto 4, 3) := dec_167 (bt_13 (i := 57) rfl) (bt_13 (i := 58) rfl) (bt_13 (i := 59) rfl) (by decide +kernel)
theorem dW_892 : decode code 892 = .ok (.iconst 0, 1) := dec_3 (bt_13 (i := 60) rfl)
theorem dW_893 : decode code 893 = .ok (.invokevirtual 217, 3) := dec_182 (bt_13 (i := 61) rfl) (bt_13 (i := 62) rfl) (bt_13 (i := 63) rfl) rfl
theorem dW_896 : decode code 896 = .ok (.istore 6, 2) := dec_54 (bt_14 (i := 0) rfl) (bt_14 (i := 1) rfl) rfl
theorem dW_898 : decode code 898 = .ok (.goto 1458, 3) := dec_167 (bt_14 (i := 2) rfl) (bt_14 (i := 3) rfl) (bt_14 (i := 4) rfl) (by decide +kernel)
theorem dW_901 : decode code 901 = .ok (.aload_n 1, 1) := dec_43 (bt_14 (i := 5) rfl)
theorem dW_902 : decode code 902 = .ok (.aload_n 0, 1) := dec_42 (bt_14 (i := 6) rfl)
theorem dW_903 : decode code 903 = .ok (.iload 4, 2) := dec_21 (bt_14 (i := 7) rfl) (bt_14 (i := 8) rfl) rfl
theorem dW_905 : decode code 905 = .ok (.iconst 1, 1) := dec_4 (bt_14 (i := 9) rfl)
theorem dW_906 : decode code 906 = .ok (.iadd, 1) := dec_96 (bt_14 (i := 10) rfl)
theorem dW_907 : decode code 907 = .ok (.iaload, 1) := dec_46 (bt_14 (i := 11) rfl)
theorem dW_908 : decode code 908 = .ok (.aload_n 0, 1) := dec_42 (bt_14 (i := 12) rfl)
theorem dW_909 : decode code 909 = .ok (.iload 4, 2) := dec_21 (bt_14 (i := 13) rfl) (bt_14 (i := 14) rfl) rfl
theorem dW_911 : decode code 911 = .ok (.iconst 2, 1) := dec_5 (bt_14 (i := 15) rfl)
theorem dW_912 : decode code 912 = .ok (.iadd, 1) := dec_96 (bt_14 (i := 16) rfl)
theorem dW_913 : decode code 913 = .ok (.iaload, 1) := dec_46 (bt_14 (i := 17) rfl)
theorem dW_914 : decode code 914 = .ok (.aload_n 3, 1) := dec_45 (bt_14 (i := 18) rfl)
theorem dW_915 : decode code 915 = .ok (.invokestatic 218, 3) := dec_184 (bt_14 (i := 19) rfl) (bt_14 (i := 20) rfl) (bt_14 (i := 21) rfl) rfl
theorem dW_918 : decode code 918 = .ok (.istore 5, 2) := dec_54 (bt_14 (i := 22) rfl) (bt_14 (i := 23) rfl) rfl
theorem dW_920 : decode code 920 = .ok (.aload_n 2, 1) := dec_44 (bt_14 (i := 24) rfl)
theorem dW_921 : decode code 921 = .ok (.aload_n 0, 1) := dec_42 (bt_14 (i := 25) rfl)
theorem dW_922 : decode code 922 = .ok (.iload 4, 2) := dec_21 (bt_14 (i := 26) rfl) (bt_14 (i := 27) rfl) rfl
theorem dW_924 : decode code 924 = .ok (.iconst 1, 1) := dec_4 (bt_14 (i := 28) rfl)
theorem dW_925 : decode code 925 = .ok (.iadd, 1) := dec_96 (bt_14 (i := 29) rfl)
theorem dW_926 : decode code 926 = .ok (.iaload, 1) := dec_46 (bt_14 (i := 30) rfl)
theorem dW_927 : decode code 927 = .ok (.aload_n 0, 1) := dec_42 (bt_14 (i := 31) rfl)
theorem dW_928 : decode code 928 = .ok (.iload 4, 2) := dec_21 (bt_14 (i := 32) rfl) (bt_14 (i := 33) rfl) rfl
theorem dW_930 : decode code 930 = .ok (.iconst 2, 1) := dec_5 (bt_14 (i := 34) rfl)
theorem dW_931 : decode code 931 = .ok (.iadd, 1) := dec_96 (bt_14 (i := 35) rfl)
theorem dW_932 : decode code 932 = .ok (.iaload, 1) := dec_46 (bt_14 (i := 36) rfl)
theorem dW_933 : decode code 933 = .ok (.invokevirtual 220, 3) := dec_182 (bt_14 (i := 37) rfl) (bt_14 (i := 38) rfl) (bt_14 (i := 39) rfl) rfl
theorem dW_936 : decode code 936 = .ok (.istore 6, 2) := dec_54 (bt_14 (i := 40) rfl) (bt_14 (i := 41) rfl) rfl
theorem dW_938 : decode code 938 = .ok (.goto 1418, 3) := dec_167 (bt_14 (i := 42) rfl) (bt_14 (i := 43) rfl) (bt_14 (i := 44) rfl) (by decide +kernel)
theorem dW_941 : decode code 941 = .ok (.aload_n 1, 1) := dec_43 (bt_14 (i := 45) rfl)
theorem dW_942 : decode code 942 = .ok (.aload_n 0, 1) := dec_42 (bt_14 (i := 46) rfl)
theorem dW_943 : decode code 943 = .ok (.iload 4, 2) := dec_21 (bt_14 (i := 47) rfl) (bt_14 (i := 48) rfl) rfl
theorem dW_945 : decode code 945 = .ok (.iconst 1, 1) := dec_4 (bt_14 (i := 49) rfl)
theorem dW_946 : decode code 946 = .ok (.iadd, 1) := dec_96 (bt_14 (i := 50) rfl)
theorem dW_947 : decode code 947 = .ok (.iaload, 1) := dec_46 (bt_14 (i := 51) rfl)
theorem dW_948 : decode code 948 = .ok (.aload_n 0, 1) := dec_42 (bt_14 (i := 52) rfl)
theorem dW_949 : decode code 949 = .ok (.iload 4, 2) := dec_21 (bt_14 (i := 53) rfl) (bt_14 (i := 54) rfl) rfl
theorem dW_951 : decode code 951 = .ok (.iconst 2, 1) := dec_5 (bt_14 (i := 55) rfl)
theorem dW_952 : decode code 952 = .ok (.iadd, 1) := dec_96 (bt_14 (i := 56) rfl)
theorem dW_953 : decode code 953 = .ok (.iaload, 1) := dec_46 (bt_14 (i := 57) rfl)
theorem dW_954 : decode code 954 = .ok (.ifCond .eq 7, 3) := dec_153 (bt_14 (i := 58) rfl) (bt_14 (i := 59) rfl) (bt_14 (i := 60) rfl) (by decide +kernel)
theorem dW_957 : decode code 957 = .ok (.iconst 1, 1) := dec_4 (bt_14 (i := 61) rfl)
theorem dW_958 : decode code 958 = .ok (.goto 4, 3) := dec_167 (bt_14 (i := 62) rfl) (bt_14 (i := 63) rfl) (bt_15 (i := 0) rfl) (by decide +kernel)
theorem dW_961 : decode code 961 = .ok (.iconst 0, 1) := dec_3 (bt_15 (i := 1) rfl)
theorem dW_962 : decode code 962 = .ok (.aload_n 0, 1) := dec_42 (bt_15 (i := 2) rfl)
theorem dW_963 : decode code 963 = .ok (.iload 4, 2) := dec_21 (bt_15 (i := 3) rfl) (bt_15 (i := 4) rfl) rfl
theorem dW_965 : decode code 965 = .ok (.iconst 3, 1) := dec_6 (bt_15 (i := 5) rfl)
theorem dW_966 : decode code 966 = .ok (.iadd, 1) := dec_96 (bt_15 (i := 6) rfl)
theorem dW_967 : decode code 967 = .ok (.iaload, 1) := dec_46 (bt_15 (i := 7) rfl)
theorem dW_968 : decode code 968 = .ok (.aload_n 0, 1) := dec_42 (bt_15 (i := 8) rfl)
theorem dW_969 : decode code 969 = .ok (.iload 4, 2) := dec_21 (bt_15 (i := 9) rfl) (bt_15 (i := 10) rfl) rfl
theorem dW_971 : decode code 971 = .ok (.iconst 4, 1) := dec_7 (bt_15 (i := 11) rfl)
theorem dW_972 : decode code 972 = .ok (.iadd, 1) := dec_96 (bt_15 (i := 12) rfl)
theorem dW_973 : decode code 973 = .ok (.iaload, 1) := dec_46 (bt_15 (i := 13) rfl)
theorem dW_974 : decode code 974 = .ok (.aload_n 3, 1) := dec_45 (bt_15 (i := 14) rfl)
theorem dW_975 : decode code 975 = .ok (.invokestatic 221, 3) := dec_184 (bt_15 (i := 15) rfl) (bt_15 (i := 16) rfl) (bt_15 (i := 17) rfl) rfl
theorem dW_978 : decode code 978 = .ok (.istore 5, 2) := dec_54 (bt_15 (i := 18) rfl) (bt_15 (i := 19) rfl) rfl
theorem dW_980 : decode code 980 = .ok (.aload_n 2, 1) := dec_44 (bt_15 (i := 20) rfl)
theorem dW_981 : decode code 981 = .ok (.aload_n 0, 1) := dec_42 (bt_15 (i := 21) rfl)
theorem dW_982 : decode code 982 = .ok (.iload 4, 2) := dec_21 (bt_15 (i := 22) rfl) (bt_15 (i := 23) rfl) rfl
theorem dW_984 : decode code 984 = .ok (.iconst 1, 1) := dec_4 (bt_15 (i := 24) rfl)
theorem dW_985 : decode code 985 = .ok (.iadd, 1) := dec_96 (bt_15 (i := 25) rfl)
theorem dW_986 : decode code 986 = .ok (.iaload, 1) := dec_46 (bt_15 (i := 26) rfl)
theorem dW_987 : decode code 987 = .ok (.aload_n 0, 1) := dec_42 (bt_15 (i := 27) rfl)
theorem dW_988 : decode code 988 = .ok (.iload 4, 2) := dec_21 (bt_15 (i := 28) rfl) (bt_15 (i := 29) rfl) rfl
theorem dW_990 : decode code 990 = .ok (.iconst 2, 1) := dec_5 (bt_15 (i := 30) rfl)
theorem dW_991 : decode code 991 = .ok (.iadd, 1) := dec_96 (bt_15 (i := 31) rfl)
theorem dW_992 : decode code 992 = .ok (.iaload, 1) := dec_46 (bt_15 (i := 32) rfl)
theorem dW_993 : decode code 993 = .ok (.ifCond .eq 7, 3) := dec_153 (bt_15 (i := 33) rfl) (bt_15 (i := 34) rfl) (bt_15 (i := 35) rfl) (by decide +kernel)
theorem dW_996 : decode code 996 = .ok (.iconst 1, 1) := dec_4 (bt_15 (i := 36) rfl)
theorem dW_997 : decode code 997 = .ok (.goto 4, 3) := dec_167 (bt_15 (i := 37) rfl) (bt_15 (i := 38) rfl) (bt_15 (i := 39) rfl) (by decide +kernel)
theorem dW_1000 : decode code 1000 = .ok (.iconst 0, 1) := dec_3 (bt_15 (i := 40) rfl)
theorem dW_1001 : decode code 1001 = .ok (.aload_n 0, 1) := dec_42 (bt_15 (i := 41) rfl)
theorem dW_1002 : decode code 1002 = .ok (.iload 4, 2) := dec_21 (bt_15 (i := 42) rfl) (bt_15 (i := 43) rfl) rfl
theorem dW_1004 : decode code 1004 = .ok (.iconst 3, 1) := dec_6 (bt_15 (i := 44) rfl)
theorem dW_1005 : decode code 1005 = .ok (.iadd, 1) := dec_96 (bt_15 (i := 45) rfl)
theorem dW_1006 : decode code 1006 = .ok (.iaload, 1) := dec_46 (bt_15 (i := 46) rfl)
theorem dW_1007 : decode code 1007 = .ok (.aload_n 0, 1) := dec_42 (bt_15 (i := 47) rfl)
theorem dW_1008 : decode code 1008 = .ok (.iload 4, 2) := dec_21 (bt_15 (i := 48) rfl) (bt_15 (i := 49) rfl) rfl
theorem dW_1010 : decode code 1010 = .ok (.iconst 4, 1) := dec_7 (bt_15 (i := 50) rfl)
theorem dW_1011 : decode code 1011 = .ok (.iadd, 1) := dec_96 (bt_15 (i := 51) rfl)
theorem dW_1012 : decode code 1012 = .ok (.iaload, 1) := dec_46 (bt_15 (i := 52) rfl)
theorem dW_1013 : decode code 1013 = .ok (.invokevirtual 223, 3) := dec_182 (bt_15 (i := 53) rfl) (bt_15 (i := 54) rfl) (bt_15 (i := 55) rfl) rfl
theorem dW_1016 : decode code 1016 = .ok (.istore 6, 2) := dec_54 (bt_15 (i := 56) rfl) (bt_15 (i := 57) rfl) rfl
theorem dW_1018 : decode code 1018 = .ok (.goto 1338, 3) := dec_167 (bt_15 (i := 58) rfl) (bt_15 (i := 59) rfl) (bt_15 (i := 60) rfl) (by decide +kernel)
theorem dW_1021 : decode code 1021 = .ok (.aload_n 1, 1) := dec_43 (bt_15 (i := 61) rfl)
theorem dW_1022 : decode code 1022 = .ok (.aload_n 0, 1) := dec_42 (bt_15 (i := 62) rfl)
theorem dW_1023 : decode code 1023 = .ok (.iload 4, 2) := dec_21 (bt_15 (i := 63) rfl) (bt_16 (i := 0) rfl) rfl
theorem dW_1025 : decode code 1025 = .ok (.iconst 1, 1) := dec_4 (bt_16 (i := 1) rfl)
theorem dW_1026 : decode code 1026 = .ok (.iadd, 1) := dec_96 (bt_16 (i := 2) rfl)
theorem dW_1027 : decode code 1027 = .ok (.iaload, 1) := dec_46 (bt_16 (i := 3) rfl)
theorem dW_1028 : decode code 1028 = .ok (.aload_n 0, 1) := dec_42 (bt_16 (i := 4) rfl)
theorem dW_1029 : decode code 1029 = .ok (.iload 4, 2) := dec_21 (bt_16 (i := 5) rfl) (bt_16 (i := 6) rfl) rfl
theorem dW_1031 : decode code 1031 = .ok (.iconst 2, 1) := dec_5 (bt_16 (i := 7) rfl)
theorem dW_1032 : decode code 1032 = .ok (.iadd, 1) := dec_96 (bt_16 (i := 8) rfl)
theorem dW_1033 : decode code 1033 = .ok (.iaload, 1) := dec_46 (bt_16 (i := 9) rfl)
theorem dW_1034 : decode code 1034 = .ok (.ifCond .eq 7, 3) := dec_153 (bt_16 (i := 10) rfl) (bt_16 (i := 11) rfl) (bt_16 (i := 12) rfl) (by decide +kernel)
theorem dW_1037 : decode code 1037 = .ok (.iconst 1, 1) := dec_4 (bt_16 (i := 13) rfl)
theorem dW_1038 : decode code 1038 = .ok (.goto 4, 3) := dec_167 (bt_16 (i := 14) rfl) (bt_16 (i := 15) rfl) (bt_16 (i := 16) rfl) (by decide +kernel)
theorem dW_1041 : decode code 1041 = .ok (.iconst 0, 1) := dec_3 (bt_16 (i := 17) rfl)
theorem dW_1042 : decode code 1042 = .ok (.aload_n 0, 1) := dec_42 (bt_16 (i := 18) rfl)
theorem dW_1043 : decode code 1043 = .ok (.iload 4, 2) := dec_21 (bt_16 (i := 19) rfl) (bt_16 (i := 20) rfl) rfl
theorem dW_1045 : decode code 1045 = .ok (.iconst 3, 1) := dec_6 (bt_16 (i := 21) rfl)
theorem dW_1046 : decode code 1046 = .ok (.iadd, 1) := dec_96 (bt_16 (i := 22) rfl)
theorem dW_1047 : decode code 1047 = .ok (.iaload, 1) := dec_46 (bt_16 (i := 23) rfl)
theorem dW_1048 : decode code 1048 = .ok (.aload_n 3, 1) := dec_45 (bt_16 (i := 24) rfl)
theorem dW_1049 : decode code 1049 = .ok (.invokestatic 224, 3) := dec_184 (bt_16 (i := 25) rfl) (bt_16 (i := 26) rfl) (bt_16 (i := 27) rfl) rfl
theorem dW_1052 : decode code 1052 = .ok (.istore 5, 2) := dec_54 (bt_16 (i := 28) rfl) (bt_16 (i := 29) rfl) rfl
theorem dW_1054 : decode code 1054 = .ok (.aload_n 2, 1) := dec_44 (bt_16 (i := 30) rfl)
theorem dW_1055 : decode code 1055 = .ok (.aload_n 0, 1) := dec_42 (bt_16 (i := 31) rfl)
theorem dW_1056 : decode code 1056 = .ok (.iload 4, 2) := dec_21 (bt_16 (i := 32) rfl) (bt_16 (i := 33) rfl) rfl
theorem dW_1058 : decode code 1058 = .ok (.iconst 1, 1) := dec_4 (bt_16 (i := 34) rfl)
theorem dW_1059 : decode code 1059 = .ok (.iadd, 1) := dec_96 (bt_16 (i := 35) rfl)
theorem dW_1060 : decode code 1060 = .ok (.iaload, 1) := dec_46 (bt_16 (i := 36) rfl)
theorem dW_1061 : decode code 1061 = .ok (.aload_n 0, 1) := dec_42 (bt_16 (i := 37) rfl)
theorem dW_1062 : decode code 1062 = .ok (.iload 4, 2) := dec_21 (bt_16 (i := 38) rfl) (bt_16 (i := 39) rfl) rfl
theorem dW_1064 : decode code 1064 = .ok (.iconst 2, 1) := dec_5 (bt_16 (i := 40) rfl)
theorem dW_1065 : decode code 1065 = .ok (.iadd, 1) := dec_96 (bt_16 (i := 41) rfl)
theorem dW_1066 : decode code 1066 = .ok (.iaload, 1) := dec_46 (bt_16 (i := 42) rfl)
theorem dW_1067 : decode code 1067 = .ok (.ifCond .eq 7, 3) := dec_153 (bt_16 (i := 43) rfl) (bt_16 (i := 44) rfl) (bt_16 (i := 45) rfl) (by decide +kernel)
theorem dW_1070 : decode code 1070 = .ok (.iconst 1, 1) := dec_4 (bt_16 (i := 46) rfl)
theorem dW_1071 : decode code 1071 = .ok (.goto 4, 3) := dec_167 (bt_16 (i := 47) rfl) (bt_16 (i := 48) rfl) (bt_16 (i := 49) rfl) (by decide +kernel)
theorem dW_1074 : decode code 1074 = .ok (.iconst 0, 1) := dec_3 (bt_16 (i := 50) rfl)
theorem dW_1075 : decode code 1075 = .ok (.aload_n 0, 1) := dec_42 (bt_16 (i := 51) rfl)
theorem dW_1076 : decode code 1076 = .ok (.iload 4, 2) := dec_21 (bt_16 (i := 52) rfl) (bt_16 (i := 53) rfl) rfl
theorem dW_1078 : decode code 1078 = .ok (.iconst 3, 1) := dec_6 (bt_16 (i := 54) rfl)
theorem dW_1079 : decode code 1079 = .ok (.iadd, 1) := dec_96 (bt_16 (i := 55) rfl)
theorem dW_1080 : decode code 1080 = .ok (.iaload, 1) := dec_46 (bt_16 (i := 56) rfl)
theorem dW_1081 : decode code 1081 = .ok (.invokevirtual 227, 3) := dec_182 (bt_16 (i := 57) rfl) (bt_16 (i := 58) rfl) (bt_16 (i := 59) rfl) rfl
theorem dW_1084 : decode code 1084 = .ok (.istore 6, 2) := dec_54 (bt_16 (i := 60) rfl) (bt_16 (i := 61) rfl) rfl
theorem dW_1086 : decode code 1086 = .ok (.goto 1270, 3) := dec_167 (bt_16 (i := 62) rfl) (bt_16 (i := 63) rfl) (bt_17 (i := 0) rfl) (by decide +kernel)
theorem dW_1089 : decode code 1089 = .ok (.aload_n 1, 1) := dec_43 (bt_17 (i := 1) rfl)
theorem dW_1090 : decode code 1090 = .ok (.aload_n 0, 1) := dec_42 (bt_17 (i := 2) rfl)
theorem dW_1091 : decode code 1091 = .ok (.iload 4, 2) := dec_21 (bt_17 (i := 3) rfl) (bt_17 (i := 4) rfl) rfl
theorem dW_1093 : decode code 1093 = .ok (.iconst 1, 1) := dec_4 (bt_17 (i := 5) rfl)
theorem dW_1094 : decode code 1094 = .ok (.iadd, 1) := dec_96 (bt_17 (i := 6) rfl)
theorem dW_1095 : decode code 1095 = .ok (.iaload, 1) := dec_46 (bt_17 (i := 7) rfl)
theorem dW_1096 : decode code 1096 = .ok (.aload_n 3, 1) := dec_45 (bt_17 (i := 8) rfl)
theorem dW_1097 : decode code 1097 = .ok (.invokestatic 228, 3) := dec_184 (bt_17 (i := 9) rfl) (bt_17 (i := 10) rfl) (bt_17 (i := 11) rfl) rfl
theorem dW_1100 : decode code 1100 = .ok (.istore 5, 2) := dec_54 (bt_17 (i := 12) rfl) (bt_17 (i := 13) rfl) rfl
theorem dW_1102 : decode code 1102 = .ok (.aload_n 2, 1) := dec_44 (bt_17 (i := 14) rfl)
theorem dW_1103 : decode code 1103 = .ok (.aload_n 0, 1) := dec_42 (bt_17 (i := 15) rfl)
theorem dW_1104 : decode code 1104 = .ok (.iload 4, 2) := dec_21 (bt_17 (i := 16) rfl) (bt_17 (i := 17) rfl) rfl
theorem dW_1106 : decode code 1106 = .ok (.iconst 1, 1) := dec_4 (bt_17 (i := 18) rfl)
theorem dW_1107 : decode code 1107 = .ok (.iadd, 1) := dec_96 (bt_17 (i := 19) rfl)
theorem dW_1108 : decode code 1108 = .ok (.iaload, 1) := dec_46 (bt_17 (i := 20) rfl)
theorem dW_1109 : decode code 1109 = .ok (.invokevirtual 230, 3) := dec_182 (bt_17 (i := 21) rfl) (bt_17 (i := 22) rfl) (bt_17 (i := 23) rfl) rfl
theorem dW_1112 : decode code 1112 = .ok (.istore 6, 2) := dec_54 (bt_17 (i := 24) rfl) (bt_17 (i := 25) rfl) rfl
theorem dW_1114 : decode code 1114 = .ok (.goto 1242, 3) := dec_167 (bt_17 (i := 26) rfl) (bt_17 (i := 27) rfl) (bt_17 (i := 28) rfl) (by decide +kernel)
theorem dW_1117 : decode code 1117 = .ok (.aload_n 1, 1) := dec_43 (bt_17 (i := 29) rfl)
theorem dW_1118 : decode code 1118 = .ok (.aload_n 0, 1) := dec_42 (bt_17 (i := 30) rfl)
theorem dW_1119 : decode code 1119 = .ok (.iload 4, 2) := dec_21 (bt_17 (i := 31) rfl) (bt_17 (i := 32) rfl) rfl
theorem dW_1121 : decode code 1121 = .ok (.iconst 1, 1) := dec_4 (bt_17 (i := 33) rfl)
theorem dW_1122 : decode code 1122 = .ok (.iadd, 1) := dec_96 (bt_17 (i := 34) rfl)
theorem dW_1123 : decode code 1123 = .ok (.iaload, 1) := dec_46 (bt_17 (i := 35) rfl)
theorem dW_1124 : decode code 1124 = .ok (.aload_n 3, 1) := dec_45 (bt_17 (i := 36) rfl)
theorem dW_1125 : decode code 1125 = .ok (.invokestatic 231, 3) := dec_184 (bt_17 (i := 37) rfl) (bt_17 (i := 38) rfl) (bt_17 (i := 39) rfl) rfl
theorem dW_1128 : decode code 1128 = .ok (.istore 5, 2) := dec_54 (bt_17 (i := 40) rfl) (bt_17 (i := 41) rfl) rfl
theorem dW_1130 : decode code 1130 = .ok (.aload_n 2, 1) := dec_44 (bt_17 (i := 42) rfl)
theorem dW_1131 : decode code 1131 = .ok (.aload_n 0, 1) := dec_42 (bt_17 (i := 43) rfl)
theorem dW_1132 : decode code 1132 = .ok (.iload 4, 2) := dec_21 (bt_17 (i := 44) rfl) (bt_17 (i := 45) rfl) rfl
theorem dW_1134 : decode code 1134 = .ok (.iconst 1, 1) := dec_4 (bt_17 (i := 46) rfl)
theorem dW_1135 : decode code 1135 = .ok (.iadd, 1) := dec_96 (bt_17 (i := 47) rfl)
theorem dW_1136 : decode code 1136 = .ok (.iaload, 1) := dec_46 (bt_17 (i := 48) rfl)
theorem dW_1137 : decode code 1137 = .ok (.invokevirtual 233, 3) := dec_182 (bt_17 (i := 49) rfl) (bt_17 (i := 50) rfl) (bt_17 (i := 51) rfl) rfl
theorem dW_1140 : decode code 1140 = .ok (.istore 6, 2) := dec_54 (bt_17 (i := 52) rfl) (bt_17 (i := 53) rfl) rfl
theorem dW_1142 : decode code 1142 = .ok (.goto 1214, 3) := dec_167 (bt_17 (i := 54) rfl) (bt_17 (i := 55) rfl) (bt_17 (i := 56) rfl) (by decide +kernel)
theorem dW_1145 : decode code 1145 = .ok (.aload_n 1, 1) := dec_43 (bt_17 (i := 57) rfl)
theorem dW_1146 : decode code 1146 = .ok (.aload_n 0, 1) := dec_42 (bt_17 (i := 58) rfl)
theorem dW_1147 : decode code 1147 = .ok (.iload 4, 2) := dec_21 (bt_17 (i := 59) rfl) (bt_17 (i := 60) rfl) rfl
theorem dW_1149 : decode code 1149 = .ok (.iconst 1, 1) := dec_4 (bt_17 (i := 61) rfl)
theorem dW_1150 : decode code 1150 = .ok (.iadd, 1) := dec_96 (bt_17 (i := 62) rfl)
theorem dW_1151 : decode code 1151 = .ok (.iaload, 1) := dec_46 (bt_17 (i := 63) rfl)
theorem dW_1152 : decode code 1152 = .ok (.ifCond .eq 7, 3) := dec_153 (bt_18 (i := 0) rfl) (bt_18 (i := 1) rfl) (bt_18 (i := 2) rfl) (by decide +kernel)
theorem dW_1155 : decode code 1155 = .ok (.iconst 1, 1) := dec_4 (bt_18 (i := 3) rfl)
theorem dW_1156 : decode code 1156 = .ok (.goto 4, 3) := dec_167 (bt_18 (i := 4) rfl) (bt_18 (i := 5) rfl) (bt_18 (i := 6) rfl) (by decide +kernel)
theorem dW_1159 : decode code 1159 = .ok (.iconst 0, 1) := dec_3 (bt_18 (i := 7) rfl)
theorem dW_1160 : decode code 1160 = .ok (.invokevirtual 234, 3) := dec_182 (bt_18 (i := 8) rfl) (bt_18 (i := 9) rfl) (bt_18 (i := 10) rfl) rfl
theorem dW_1163 : decode code 1163 = .ok (.pop, 1) := dec_87 (bt_18 (i := 11) rfl)
theorem dW_1164 : decode code 1164 = .ok (.aload_n 2, 1) := dec_44 (bt_18 (i := 12) rfl)
theorem dW_1165 : decode code 1165 = .ok (.aload_n 0, 1) := dec_42 (bt_18 (i := 13) rfl)
theorem dW_1166 : decode code 1166 = .ok (.iload 4, 2) := dec_21 (bt_18 (i := 14) rfl) (bt_18 (i := 15) rfl) rfl
theorem dW_1168 : decode code 1168 = .ok (.iconst 1, 1) := dec_4 (bt_18 (i := 16) rfl)
theorem dW_1169 : decode code 1169 = .ok (.iadd, 1) := dec_96 (bt_18 (i := 17) rfl)
theorem dW_1170 : decode code 1170 = .ok (.iaload, 1) := dec_46 (bt_18 (i := 18) rfl)
theorem dW_1171 : decode code 1171 = .ok (.ifCond .eq 7, 3) := dec_153 (bt_18 (i := 19) rfl) (bt_18 (i := 20) rfl) (bt_18 (i := 21) rfl) (by decide +kernel)
theorem dW_1174 : decode code 1174 = .ok (.iconst 1, 1) := dec_4 (bt_18 (i := 22) rfl)
theorem dW_1175 : decode code 1175 = .ok (.goto 4, 3) := dec_167 (bt_18 (i := 23) rfl) (bt_18 (i := 24) rfl) (bt_18 (i := 25) rfl) (by decide +kernel)
theorem dW_1178 : decode code 1178 = .ok (.iconst 0, 1) := dec_3 (bt_18 (i := 26) rfl)
theorem dW_1179 : decode code 1179 = .ok (.invokevirtual 238, 3) := dec_182 (bt_18 (i := 27) rfl) (bt_18 (i := 28) rfl) (bt_18 (i := 29) rfl) rfl
theorem dW_1182 : decode code 1182 = .ok (.pop, 1) := dec_87 (bt_18 (i := 30) rfl)
theorem dW_1183 : decode code 1183 = .ok (.goto 1173, 3) := dec_167 (bt_18 (i := 31) rfl) (bt_18 (i := 32) rfl) (bt_18 (i := 33) rfl) (by decide +kernel)
theorem dW_1186 : decode code 1186 = .ok (.aload_n 1, 1) := dec_43 (bt_18 (i := 34) rfl)
theorem dW_1187 : decode code 1187 = .ok (.aload_n 0, 1) := dec_42 (bt_18 (i := 35) rfl)
theorem dW_1188 : decode code 1188 = .ok (.iload 4, 2) := dec_21 (bt_18 (i := 36) rfl) (bt_18 (i := 37) rfl) rfl
theorem dW_1190 : decode code 1190 = .ok (.iconst 1, 1) := dec_4 (bt_18 (i := 38) rfl)
theorem dW_1191 : decode code 1191 = .ok (.iadd, 1) := dec_96 (bt_18 (i := 39) rfl)
theorem dW_1192 : decode code 1192 = .ok (.iaload, 1) := dec_46 (bt_18 (i := 40) rfl)
theorem dW_1193 : decode code 1193 = .ok (.ifCond .eq 7, 3) := dec_153 (bt_18 (i := 41) rfl) (bt_18 (i := 42) rfl) (bt_18 (i := 43) rfl) (by decide +kernel)
theorem dW_1196 : decode code 1196 = .ok (.iconst 1, 1) := dec_4 (bt_18 (i := 44) rfl)
theorem dW_1197 : decode code 1197 = .ok (.goto 4, 3) := dec_167 (bt_18 (i := 45) rfl) (bt_18 (i := 46) rfl) (bt_18 (i := 47) rfl) (by decide +kernel)
theorem dW_1200 : decode code 1200 = .ok (.iconst 0, 1) := dec_3 (bt_18 (i := 48) rfl)
theorem dW_1201 : decode code 1201 = .ok (.invokevirtual 239, 3) := dec_182 (bt_18 (i := 49) rfl) (bt_18 (i := 50) rfl) (bt_18 (i := 51) rfl) rfl
theorem dW_1204 : decode code 1204 = .ok (.pop, 1) := dec_87 (bt_18 (i := 52) rfl)
theorem dW_1205 : decode code 1205 = .ok (.aload_n 2, 1) := dec_44 (bt_18 (i := 53) rfl)
theorem dW_1206 : decode code 1206 = .ok (.aload_n 0, 1) := dec_42 (bt_18 (i := 54) rfl)
theorem dW_1207 : decode code 1207 = .ok (.iload 4, 2) := dec_21 (bt_18 (i := 55) rfl) (bt_18 (i := 56) rfl) rfl
theorem dW_1209 : decode code 1209 = .ok (.iconst 1, 1) := dec_4 (bt_18 (i := 57) rfl)
theorem dW_1210 : decode code 1210 = .ok (.iadd, 1) := dec_96 (bt_18 (i := 58) rfl)
theorem dW_1211 : decode code 1211 = .ok (.iaload, 1) := dec_46 (bt_18 (i := 59) rfl)
theorem dW_1212 : decode code 1212 = .ok (.ifCond .eq 7, 3) := dec_153 (bt_18 (i := 60) rfl) (bt_18 (i := 61) rfl) (bt_18 (i := 62) rfl) (by decide +kernel)
theorem dW_1215 : decode code 1215 = .ok (.iconst 1, 1) := dec_4 (bt_18 (i := 63) rfl)
theorem dW_1216 : decode code 1216 = .ok (.goto 4, 3) := dec_167 (bt_19 (i := 0) rfl) (bt_19 (i := 1) rfl) (bt_19 (i := 2) rfl) (by decide +kernel)
theorem dW_1219 : decode code 1219 = .ok (.iconst 0, 1) := dec_3 (bt_19 (i := 3) rfl)
theorem dW_1220 : decode code 1220 = .ok (.invokevirtual 242, 3) := dec_182 (bt_19 (i := 4) rfl) (bt_19 (i := 5) rfl) (bt_19 (i := 6) rfl) rfl
theorem dW_1223 : decode code 1223 = .ok (.pop, 1) := dec_87 (bt_19 (i := 7) rfl)
theorem dW_1224 : decode code 1224 = .ok (.goto 1132, 3) := dec_167 (bt_19 (i := 8) rfl) (bt_19 (i := 9) rfl) (bt_19 (i := 10) rfl) (by decide +kernel)
theorem dW_1227 : decode code 1227 = .ok (.aload_n 1, 1) := dec_43 (bt_19 (i := 11) rfl)
theorem dW_1228 : decode code 1228 = .ok (.aload_n 3, 1) := dec_45 (bt_19 (i := 12) rfl)
theorem dW_1229 : decode code 1229 = .ok (.invokestatic 243, 3) := dec_184 (bt_19 (i := 13) rfl) (bt_19 (i := 14) rfl) (bt_19 (i := 15) rfl) rfl
theorem dW_1232 : decode code 1232 = .ok (.istore 5, 2) := dec_54 (bt_19 (i := 16) rfl) (bt_19 (i := 17) rfl) rfl
theorem dW_1234 : decode code 1234 = .ok (.aload_n 2, 1) := dec_44 (bt_19 (i := 18) rfl)
theorem dW_1235 : decode code 1235 = .ok (.invokevirtual 246, 3) := dec_182 (bt_19 (i := 19) rfl) (bt_19 (i := 20) rfl) (bt_19 (i := 21) rfl) rfl
theorem dW_1238 : decode code 1238 = .ok (.istore 6, 2) := dec_54 (bt_19 (i := 22) rfl) (bt_19 (i := 23) rfl) rfl
theorem dW_1240 : decode code 1240 = .ok (.goto 1116, 3) := dec_167 (bt_19 (i := 24) rfl) (bt_19 (i := 25) rfl) (bt_19 (i := 26) rfl) (by decide +kernel)
theorem dW_1243 : decode code 1243 = .ok (.aload_n 1, 1) := dec_43 (bt_19 (i := 27) rfl)
theorem dW_1244 : decode code 1244 = .ok (.aload_n 3, 1) := dec_45 (bt_19 (i := 28) rfl)
theorem dW_1245 : decode code 1245 = .ok (.invokestatic 247, 3) := dec_184 (bt_19 (i := 29) rfl) (bt_19 (i := 30) rfl) (bt_19 (i := 31) rfl) rfl
theorem dW_1248 : decode code 1248 = .ok (.istore 5, 2) := dec_54 (bt_19 (i := 32) rfl) (bt_19 (i := 33) rfl) rfl
theorem dW_1250 : decode code 1250 = .ok (.aload_n 2, 1) := dec_44 (bt_19 (i := 34) rfl)
theorem dW_1251 : decode code 1251 = .ok (.invokevirtual 249, 3) := dec_182 (bt_19 (i := 35) rfl) (bt_19 (i := 36) rfl) (bt_19 (i := 37) rfl) rfl
theorem dW_1254 : decode code 1254 = .ok (.istore 6, 2) := dec_54 (bt_19 (i := 38) rfl) (bt_19 (i := 39) rfl) rfl
theorem dW_1256 : decode code 1256 = .ok (.goto 1100, 3) := dec_167 (bt_19 (i := 40) rfl) (bt_19 (i := 41) rfl) (bt_19 (i := 42) rfl) (by decide +kernel)
theorem dW_1259 : decode code 1259 = .ok (.aload_n 1, 1) := dec_43 (bt_19 (i := 43) rfl)
theorem dW_1260 : decode code 1260 = .ok (.aload_n 0, 1) := dec_42 (bt_19 (i := 44) rfl)
theorem dW_1261 : decode code 1261 = .ok (.iload 4, 2) := dec_21 (bt_19 (i := 45) rfl) (bt_19 (i := 46) rfl) rfl
theorem dW_1263 : decode code 1263 = .ok (.iconst 1, 1) := dec_4 (bt_19 (i := 47) rfl)
theorem dW_1264 : decode code 1264 = .ok (.iadd, 1) := dec_96 (bt_19 (i := 48) rfl)
theorem dW_1265 : decode code 1265 = .ok (.iaload, 1) := dec_46 (bt_19 (i := 49) rfl)
theorem dW_1266 : decode code 1266 = .ok (.aload_n 0, 1) := dec_42 (bt_19 (i := 50) rfl)
theorem dW_1267 : decode code 1267 = .ok (.iload 4, 2) := dec_21 (bt_19 (i := 51) rfl) (bt_19 (i := 52) rfl) rfl
theorem dW_1269 : decode code 1269 = .ok (.iconst 2, 1) := dec_5 (bt_19 (i := 53) rfl)
theorem dW_1270 : decode code 1270 = .ok (.iadd, 1) := dec_96 (bt_19 (i := 54) rfl)
theorem dW_1271 : decode code 1271 = .ok (.iaload, 1) := dec_46 (bt_19 (i := 55) rfl)
theorem dW_1272 : decode code 1272 = .ok (.aload_n 0, 1) := dec_42 (bt_19 (i := 56) rfl)
theorem dW_1273 : decode code 1273 = .ok (.iload 4, 2) := dec_21 (bt_19 (i := 57) rfl) (bt_19 (i := 58) rfl) rfl
theorem dW_1275 : decode code 1275 = .ok (.iconst 3, 1) := dec_6 (bt_19 (i := 59) rfl)
theorem dW_1276 : decode code 1276 = .ok (.iadd, 1) := dec_96 (bt_19 (i := 60) rfl)
theorem dW_1277 : decode code 1277 = .ok (.iaload, 1) := dec_46 (bt_19 (i := 61) rfl)
theorem dW_1278 : decode code 1278 = .ok (.aload_n 3, 1) := dec_45 (bt_19 (i := 62) rfl)
theorem dW_1279 : decode code 1279 = .ok (.invokestatic 250, 3) := dec_184 (bt_19 (i := 63) rfl) (bt_20 (i := 0) rfl) (bt_20 (i := 1) rfl) rfl
theorem dW_1282 : decode code 1282 = .ok (.istore 5, 2) := dec_54 (bt_20 (i := 2) rfl) (bt_20 (i := 3) rfl) rfl
theorem dW_1284 : decode code 1284 = .ok (.aload_n 2, 1) := dec_44 (bt_20 (i := 4) rfl)
theorem dW_1285 : decode code 1285 = .ok (.aload_n 0, 1) := dec_42 (bt_20 (i := 5) rfl)
theorem dW_1286 : decode code 1286 = .ok (.iload 4, 2) := dec_21 (bt_20 (i := 6) rfl) (bt_20 (i := 7) rfl) rfl
theorem dW_1288 : decode code 1288 = .ok (.iconst 1, 1) := dec_4 (bt_20 (i := 8) rfl)
theorem dW_1289 : decode code 1289 = .ok (.iadd, 1) := dec_96 (bt_20 (i := 9) rfl)
theorem dW_1290 : decode code 1290 = .ok (.iaload, 1) := dec_46 (bt_20 (i := 10) rfl)
theorem dW_1291 : decode code 1291 = .ok (.aload_n 0, 1) := dec_42 (bt_20 (i := 11) rfl)
theorem dW_1292 : decode code 1292 = .ok (.iload 4, 2) := dec_21 (bt_20 (i := 12) rfl) (bt_20 (i := 13) rfl) rfl
theorem dW_1294 : decode code 1294 = .ok (.iconst 2, 1) := dec_5 (bt_20 (i := 14) rfl)
theorem dW_1295 : decode code 1295 = .ok (.iadd, 1) := dec_96 (bt_20 (i := 15) rfl)
theorem dW_1296 : decode code 1296 = .ok (.iaload, 1) := dec_46 (bt_20 (i := 16) rfl)
theorem dW_1297 : decode code 1297 = .ok (.aload_n 0, 1) := dec_42 (bt_20 (i := 17) rfl)
theorem dW_1298 : decode code 1298 = .ok (.iload 4, 2) := dec_21 (bt_20 (i := 18) rfl) (bt_20 (i := 19) rfl) rfl
theorem dW_1300 : decode code 1300 = .ok (.iconst 3, 1) := dec_6 (bt_20 (i := 20) rfl)
theorem dW_1301 : decode code 1301 = .ok (.iadd, 1) := dec_96 (bt_20 (i := 21) rfl)
theorem dW_1302 : decode code 1302 = .ok (.iaload, 1) := dec_46 (bt_20 (i := 22) rfl)
theorem dW_1303 : decode code 1303 = .ok (.invokevirtual 252, 3) := dec_182 (bt_20 (i := 23) rfl) (bt_20 (i := 24) rfl) (bt_20 (i := 25) rfl) rfl
theorem dW_1306 : decode code 1306 = .ok (.istore 6, 2) := dec_54 (bt_20 (i := 26) rfl) (bt_20 (i := 27) rfl) rfl
theorem dW_1308 : decode code 1308 = .ok (.goto 1048, 3) := dec_167 (bt_20 (i := 28) rfl) (bt_20 (i := 29) rfl) (bt_20 (i := 30) rfl) (by decide +kernel)
theorem dW_1311 : decode code 1311 = .ok (.aload_n 1, 1) := dec_43 (bt_20 (i := 31) rfl)
theorem dW_1312 : decode code 1312 = .ok (.aload_n 0, 1) := dec_42 (bt_20 (i := 32) rfl)
theorem dW_1313 : decode code 1313 = .ok (.iload 4, 2) := dec_21 (bt_20 (i := 33) rfl) (bt_20 (i := 34) rfl) rfl
theorem dW_1315 : decode code 1315 = .ok (.iconst 1, 1) := dec_4 (bt_20 (i := 35) rfl)
theorem dW_1316 : decode code 1316 = .ok (.iadd, 1) := dec_96 (bt_20 (i := 36) rfl)
theorem dW_1317 : decode code 1317 = .ok (.iaload, 1) := dec_46 (bt_20 (i := 37) rfl)
theorem dW_1318 : decode code 1318 = .ok (.aload_n 3, 1) := dec_45 (bt_20 (i := 38) rfl)
theorem dW_1319 : decode code 1319 = .ok (.invokestatic 253, 3) := dec_184 (bt_20 (i := 39) rfl) (bt_20 (i := 40) rfl) (bt_20 (i := 41) rfl) rfl
theorem dW_1322 : decode code 1322 = .ok (.istore 5, 2) := dec_54 (bt_20 (i := 42) rfl) (bt_20 (i := 43) rfl) rfl
theorem dW_1324 : decode code 1324 = .ok (.aload_n 2, 1) := dec_44 (bt_20 (i := 44) rfl)
theorem dW_1325 : decode code 1325 = .ok (.aload_n 0, 1) := dec_42 (bt_20 (i := 45) rfl)
theorem dW_1326 : decode code 1326 = .ok (.iload 4, 2) := dec_21 (bt_20 (i := 46) rfl) (bt_20 (i := 47) rfl) rfl
theorem dW_1328 : decode code 1328 = .ok (.iconst 1, 1) := dec_4 (bt_20 (i := 48) rfl)
theorem dW_1329 : decode code 1329 = .ok (.iadd, 1) := dec_96 (bt_20 (i := 49) rfl)
theorem dW_1330 : decode code 1330 = .ok (.iaload, 1) := dec_46 (bt_20 (i := 50) rfl)
theorem dW_1331 : decode code 1331 = .ok (.invokevirtual 255, 3) := dec_182 (bt_20 (i := 51) rfl) (bt_20 (i := 52) rfl) (bt_20 (i := 53) rfl) rfl
theorem dW_1334 : decode code 1334 = .ok (.istore 6, 2) := dec_54 (bt_20 (i := 54) rfl) (bt_20 (i := 55) rfl) rfl
theorem dW_1336 : decode code 1336 = .ok (.aload_n 2, 1) := dec_44 (bt_20 (i := 56) rfl)
theorem dW_1337 : decode code 1337 = .ok (.invokevirtual 256, 3) := dec_182 (bt_20 (i := 57) rfl) (bt_20 (i := 58) rfl) (bt_20 (i := 59) rfl) rfl
theorem dW_1340 : decode code 1340 = .ok (.iload 5, 2) := dec_21 (bt_20 (i := 60) rfl) (bt_20 (i := 61) rfl) rfl
theorem dW_1342 : decode code 1342 = .ok (.if_icmp .eq 5, 3) := dec_159 (bt_20 (i := 62) rfl) (bt_20 (i := 63) rfl) (bt_21 (i := 0) rfl) (by decide +kernel)
theorem dW_1345 : decode code 1345 = .ok (.iconst 0, 1) := dec_3 (bt_21 (i := 1) rfl)
theorem dW_1346 : decode code 1346 = .ok (.ireturn, 1) := dec_172 (bt_21 (i := 2) rfl)
theorem dW_1347 : decode code 1347 = .ok (.iload 5, 2) := dec_21 (bt_21 (i := 3) rfl) (bt_21 (i := 4) rfl) rfl
theorem dW_1349 : decode code 1349 = .ok (.ifCond .ne 16, 3) := dec_154 (bt_21 (i := 5) rfl) (bt_21 (i := 6) rfl) (bt_21 (i := 7) rfl) (by decide +kernel)
theorem dW_1352 : decode code 1352 = .ok (.aload_n 3, 1) := dec_45 (bt_21 (i := 8) rfl)
theorem dW_1353 : decode code 1353 = .ok (.getfield 13, 3) := dec_180 (bt_21 (i := 9) rfl) (bt_21 (i := 10) rfl) (bt_21 (i := 11) rfl) rfl
theorem dW_1356 : decode code 1356 = .ok (.iload 6, 2) := dec_21 (bt_21 (i := 12) rfl) (bt_21 (i := 13) rfl) rfl
theorem dW_1358 : decode code 1358 = .ok (.i2l, 1) := dec_133 (bt_21 (i := 14) rfl)
theorem dW_1359 : decode code 1359 = .ok (.lcmp, 1) := dec_148 (bt_21 (i := 15) rfl)
theorem dW_1360 : decode code 1360 = .ok (.ifCond .eq 5, 3) := dec_153 (bt_21 (i := 16) rfl) (bt_21 (i := 17) rfl) (bt_21 (i := 18) rfl) (by decide +kernel)
theorem dW_1363 : decode code 1363 = .ok (.iconst 0, 1) := dec_3 (bt_21 (i := 19) rfl)
theorem dW_1364 : decode code 1364 = .ok (.ireturn, 1) := dec_172 (bt_21 (i := 20) rfl)
theorem dW_1365 : decode code 1365 = .ok (.goto 991, 3) := dec_167 (bt_21 (i := 21) rfl) (bt_21 (i := 22) rfl) (bt_21 (i := 23) rfl) (by decide +kernel)
theorem dW_1368 : decode code 1368 = .ok (.aload_n 1, 1) := dec_43 (bt_21 (i := 24) rfl)
theorem dW_1369 : decode code 1369 = .ok (.aload_n 0, 1) := dec_42 (bt_21 (i := 25) rfl)
theorem dW_1370 : decode code 1370 = .ok (.iload 4, 2) := dec_21 (bt_21 (i := 26) rfl) (bt_21 (i := 27) rfl) rfl
theorem dW_1372 : decode code 1372 = .ok (.iconst 1, 1) := dec_4 (bt_21 (i := 28) rfl)
theorem dW_1373 : decode code 1373 = .ok (.iadd, 1) := dec_96 (bt_21 (i := 29) rfl)
theorem dW_1374 : decode code 1374 = .ok (.iaload, 1) := dec_46 (bt_21 (i := 30) rfl)
theorem dW_1375 : decode code 1375 = .ok (.aload_n 0, 1) := dec_42 (bt_21 (i := 31) rfl)
theorem dW_1376 : decode code 1376 = .ok (.iload 4, 2) := dec_21 (bt_21 (i := 32) rfl) (bt_21 (i := 33) rfl) rfl
theorem dW_1378 : decode code 1378 = .ok (.iconst 2, 1) := dec_5 (bt_21 (i := 34) rfl)
theorem dW_1379 : decode code 1379 = .ok (.iadd, 1) := dec_96 (bt_21 (i := 35) rfl)
theorem dW_1380 : decode code 1380 = .ok (.iaload, 1) := dec_46 (bt_21 (i := 36) rfl)
theorem dW_1381 : decode code 1381 = .ok (.aload_n 0, 1) := dec_42 (bt_21 (i := 37) rfl)
theorem dW_1382 : decode code 1382 = .ok (.iload 4, 2) := dec_21 (bt_21 (i := 38) rfl) (bt_21 (i := 39) rfl) rfl
theorem dW_1384 : decode code 1384 = .ok (.iconst 3, 1) := dec_6 (bt_21 (i := 40) rfl)
theorem dW_1385 : decode code 1385 = .ok (.iadd, 1) := dec_96 (bt_21 (i := 41) rfl)
theorem dW_1386 : decode code 1386 = .ok (.iaload, 1) := dec_46 (bt_21 (i := 42) rfl)
theorem dW_1387 : decode code 1387 = .ok (.aload_n 3, 1) := dec_45 (bt_21 (i := 43) rfl)
theorem dW_1388 : decode code 1388 = .ok (.invokestatic 259, 3) := dec_184 (bt_21 (i := 44) rfl) (bt_21 (i := 45) rfl) (bt_21 (i := 46) rfl) rfl
theorem dW_1391 : decode code 1391 = .ok (.istore 5, 2) := dec_54 (bt_21 (i := 47) rfl) (bt_21 (i := 48) rfl) rfl
theorem dW_1393 : decode code 1393 = .ok (.aload_n 2, 1) := dec_44 (bt_21 (i := 49) rfl)
theorem dW_1394 : decode code 1394 = .ok (.aload_n 0, 1) := dec_42 (bt_21 (i := 50) rfl)
theorem dW_1395 : decode code 1395 = .ok (.iload 4, 2) := dec_21 (bt_21 (i := 51) rfl) (bt_21 (i := 52) rfl) rfl
theorem dW_1397 : decode code 1397 = .ok (.iconst 1, 1) := dec_4 (bt_21 (i := 53) rfl)
theorem dW_1398 : decode code 1398 = .ok (.iadd, 1) := dec_96 (bt_21 (i := 54) rfl)
theorem dW_1399 : decode code 1399 = .ok (.iaload, 1) := dec_46 (bt_21 (i := 55) rfl)
theorem dW_1400 : decode code 1400 = .ok (.aload_n 0, 1) := dec_42 (bt_21 (i := 56) rfl)
theorem dW_1401 : decode code 1401 = .ok (.iload 4, 2) := dec_21 (bt_21 (i := 57) rfl) (bt_21 (i := 58) rfl) rfl
theorem dW_1403 : decode code 1403 = .ok (.iconst 2, 1) := dec_5 (bt_21 (i := 59) rfl)
theorem dW_1404 : decode code 1404 = .ok (.iadd, 1) := dec_96 (bt_21 (i := 60) rfl)
theorem dW_1405 : decode code 1405 = .ok (.iaload, 1) := dec_46 (bt_21 (i := 61) rfl)
theorem dW_1406 : decode code 1406 = .ok (.aload_n 0, 1) := dec_42 (bt_21 (i := 62) rfl)
theorem dW_1407 : decode code 1407 = .ok (.iload 4, 2) := dec_21 (bt_21 (i := 63) rfl) (bt_22 (i := 0) rfl) rfl
theorem dW_1409 : decode code 1409 = .ok (.iconst 3, 1) := dec_6 (bt_22 (i := 1) rfl)
theorem dW_1410 : decode code 1410 = .ok (.iadd, 1) := dec_96 (bt_22 (i := 2) rfl)
theorem dW_1411 : decode code 1411 = .ok (.iaload, 1) := dec_46 (bt_22 (i := 3) rfl)
theorem dW_1412 : decode code 1412 = .ok (.invokevirtual 261, 3) := dec_182 (bt_22 (i := 4) rfl) (bt_22 (i := 5) rfl) (bt_22 (i := 6) rfl) rfl
theorem dW_1415 : decode code 1415 = .ok (.istore 6, 2) := dec_54 (bt_22 (i := 7) rfl) (bt_22 (i := 8) rfl) rfl
theorem dW_1417 : decode code 1417 = .ok (.goto 939, 3) := dec_167 (bt_22 (i := 9) rfl) (bt_22 (i := 10) rfl) (bt_22 (i := 11) rfl) (by decide +kernel)
theorem dW_1420 : decode code 1420 = .ok (.aload_n 1, 1) := dec_43 (bt_22 (i := 12) rfl)
theorem dW_1421 : decode code 1421 = .ok (.aload_n 0, 1) := dec_42 (bt_22 (i := 13) rfl)
theorem dW_1422 : decode code 1422 = .ok (.iload 4, 2) := dec_21 (bt_22 (i := 14) rfl) (bt_22 (i := 15) rfl) rfl
theorem dW_1424 : decode code 1424 = .ok (.iconst 1, 1) := dec_4 (bt_22 (i := 16) rfl)
theorem dW_1425 : decode code 1425 = .ok (.iadd, 1) := dec_96 (bt_22 (i := 17) rfl)
theorem dW_1426 : decode code 1426 = .ok (.iaload, 1) := dec_46 (bt_22 (i := 18) rfl)
theorem dW_1427 : decode code 1427 = .ok (.aload_n 3, 1) := dec_45 (bt_22 (i := 19) rfl)
theorem dW_1428 : decode code 1428 = .ok (.invokestatic 262, 3) := dec_184 (bt_22 (i := 20) rfl) (bt_22 (i := 21) rfl) (bt_22 (i := 22) rfl) rfl
theorem dW_1431 : decode code 1431 = .ok (.istore 5, 2) := dec_54 (bt_22 (i := 23) rfl) (bt_22 (i := 24) rfl) rfl
theorem dW_1433 : decode code 1433 = .ok (.aload_n 2, 1) := dec_44 (bt_22 (i := 25) rfl)
theorem dW_1434 : decode code 1434 = .ok (.aload_n 0, 1) := dec_42 (bt_22 (i := 26) rfl)
theorem dW_1435 : decode code 1435 = .ok (.iload 4, 2) := dec_21 (bt_22 (i := 27) rfl) (bt_22 (i := 28) rfl) rfl
theorem dW_1437 : decode code 1437 = .ok (.iconst 1, 1) := dec_4 (bt_22 (i := 29) rfl)
theorem dW_1438 : decode code 1438 = .ok (.iadd, 1) := dec_96 (bt_22 (i := 30) rfl)
theorem dW_1439 : decode code 1439 = .ok (.iaload, 1) := dec_46 (bt_22 (i := 31) rfl)
theorem dW_1440 : decode code 1440 = .ok (.invokevirtual 264, 3) := dec_182 (bt_22 (i := 32) rfl) (bt_22 (i := 33) rfl) (bt_22 (i := 34) rfl) rfl
theorem dW_1443 : decode code 1443 = .ok (.istore 6, 2) := dec_54 (bt_22 (i := 35) rfl) (bt_22 (i := 36) rfl) rfl
theorem dW_1445 : decode code 1445 = .ok (.goto 911, 3) := dec_167 (bt_22 (i := 37) rfl) (bt_22 (i := 38) rfl) (bt_22 (i := 39) rfl) (by decide +kernel)
theorem dW_1448 : decode code 1448 = .ok (.aload_n 1, 1) := dec_43 (bt_22 (i := 40) rfl)
theorem dW_1449 : decode code 1449 = .ok (.aload_n 0, 1) := dec_42 (bt_22 (i := 41) rfl)
theorem dW_1450 : decode code 1450 = .ok (.iload 4, 2) := dec_21 (bt_22 (i := 42) rfl) (bt_22 (i := 43) rfl) rfl
theorem dW_1452 : decode code 1452 = .ok (.iconst 1, 1) := dec_4 (bt_22 (i := 44) rfl)
theorem dW_1453 : decode code 1453 = .ok (.iadd, 1) := dec_96 (bt_22 (i := 45) rfl)
theorem dW_1454 : decode code 1454 = .ok (.iaload, 1) := dec_46 (bt_22 (i := 46) rfl)
theorem dW_1455 : decode code 1455 = .ok (.aload_n 0, 1) := dec_42 (bt_22 (i := 47) rfl)
theorem dW_1456 : decode code 1456 = .ok (.iload 4, 2) := dec_21 (bt_22 (i := 48) rfl) (bt_22 (i := 49) rfl) rfl
theorem dW_1458 : decode code 1458 = .ok (.iconst 2, 1) := dec_5 (bt_22 (i := 50) rfl)
theorem dW_1459 : decode code 1459 = .ok (.iadd, 1) := dec_96 (bt_22 (i := 51) rfl)
theorem dW_1460 : decode code 1460 = .ok (.iaload, 1) := dec_46 (bt_22 (i := 52) rfl)
theorem dW_1461 : decode code 1461 = .ok (.ifCond .eq 7, 3) := dec_153 (bt_22 (i := 53) rfl) (bt_22 (i := 54) rfl) (bt_22 (i := 55) rfl) (by decide +kernel)
theorem dW_1464 : decode code 1464 = .ok (.iconst 1, 1) := dec_4 (bt_22 (i := 56) rfl)
theorem dW_1465 : decode code 1465 = .ok (.goto 4, 3) := dec_167 (bt_22 (i := 57) rfl) (bt_22 (i := 58) rfl) (bt_22 (i := 59) rfl) (by decide +kernel)
theorem dW_1468 : decode code 1468 = .ok (.iconst 0, 1) := dec_3 (bt_22 (i := 60) rfl)
theorem dW_1469 : decode code 1469 = .ok (.aload_n 3, 1) := dec_45 (bt_22 (i := 61) rfl)
theorem dW_1470 : decode code 1470 = .ok (.invokestatic 265, 3) := dec_184 (bt_22 (i := 62) rfl) (bt_22 (i := 63) rfl) (bt_23 (i := 0) rfl) rfl
theorem dW_1473 : decode code 1473 = .ok (.istore 5, 2) := dec_54 (bt_23 (i := 1) rfl) (bt_23 (i := 2) rfl) rfl
theorem dW_1475 : decode code 1475 = .ok (.aload_n 2, 1) := dec_44 (bt_23 (i := 3) rfl)
theorem dW_1476 : decode code 1476 = .ok (.aload_n 0, 1) := dec_42 (bt_23 (i := 4) rfl)
theorem dW_1477 : decode code 1477 = .ok (.iload 4, 2) := dec_21 (bt_23 (i := 5) rfl) (bt_23 (i := 6) rfl) rfl
theorem dW_1479 : decode code 1479 = .ok (.iconst 1, 1) := dec_4 (bt_23 (i := 7) rfl)
theorem dW_1480 : decode code 1480 = .ok (.iadd, 1) := dec_96 (bt_23 (i := 8) rfl)
theorem dW_1481 : decode code 1481 = .ok (.iaload, 1) := dec_46 (bt_23 (i := 9) rfl)
theorem dW_1482 : decode code 1482 = .ok (.aload_n 0, 1) := dec_42 (bt_23 (i := 10) rfl)
theorem dW_1483 : decode code 1483 = .ok (.iload 4, 2) := dec_21 (bt_23 (i := 11) rfl) (bt_23 (i := 12) rfl) rfl
theorem dW_1485 : decode code 1485 = .ok (.iconst 2, 1) := dec_5 (bt_23 (i := 13) rfl)
theorem dW_1486 : decode code 1486 = .ok (.iadd, 1) := dec_96 (bt_23 (i := 14) rfl)
theorem dW_1487 : decode code 1487 = .ok (.iaload, 1) := dec_46 (bt_23 (i := 15) rfl)
theorem dW_1488 : decode code 1488 = .ok (.ifCond .eq 7, 3) := dec_153 (bt_23 (i := 16) rfl) (bt_23 (i := 17) rfl) (bt_23 (i := 18) rfl) (by decide +kernel)
theorem dW_1491 : decode code 1491 = .ok (.iconst 1, 1) := dec_4 (bt_23 (i := 19) rfl)
theorem dW_1492 : decode code 1492 = .ok (.goto 4, 3) := dec_167 (bt_23 (i := 20) rfl) (bt_23 (i := 21) rfl) (bt_23 (i := 22) rfl) (by decide +kernel)
theorem dW_1495 : decode code 1495 = .ok (.iconst 0, 1) := dec_3 (bt_23 (i := 23) rfl)
theorem dW_1496 : decode code 1496 = .ok (.invokevirtual 267, 3) := dec_182 (bt_23 (i := 24) rfl) (bt_23 (i := 25) rfl) (bt_23 (i := 26) rfl) rfl
theorem dW_1499 : decode code 1499 = .ok (.istore 6, 2) := dec_54 (bt_23 (i := 27) rfl) (bt_23 (i := 28) rfl) rfl
theorem dW_1501 : decode code 1501 = .ok (.goto 855, 3) := dec_167 (bt_23 (i := 29) rfl) (bt_23 (i := 30) rfl) (bt_23 (i := 31) rfl) (by decide +kernel)
theorem dW_1504 : decode code 1504 = .ok (.aload_n 1, 1) := dec_43 (bt_23 (i := 32) rfl)
theorem dW_1505 : decode code 1505 = .ok (.aload_n 0, 1) := dec_42 (bt_23 (i := 33) rfl)
theorem dW_1506 : decode code 1506 = .ok (.iload 4, 2) := dec_21 (bt_23 (i := 34) rfl) (bt_23 (i := 35) rfl) rfl
theorem dW_1508 : decode code 1508 = .ok (.iconst 1, 1) := dec_4 (bt_23 (i := 36) rfl)
theorem dW_1509 : decode code 1509 = .ok (.iadd, 1) := dec_96 (bt_23 (i := 37) rfl)
theorem dW_1510 : decode code 1510 = .ok (.iaload, 1) := dec_46 (bt_23 (i := 38) rfl)
theorem dW_1511 : decode code 1511 = .ok (.aload_n 3, 1) := dec_45 (bt_23 (i := 39) rfl)
theorem dW_1512 : decode code 1512 = .ok (.invokestatic 268, 3) := dec_184 (bt_23 (i := 40) rfl) (bt_23 (i := 41) rfl) (bt_23 (i := 42) rfl) rfl
theorem dW_1515 : decode code 1515 = .ok (.istore 5, 2) := dec_54 (bt_23 (i := 43) rfl) (bt_23 (i := 44) rfl) rfl
theorem dW_1517 : decode code 1517 = .ok (.aload_n 2, 1) := dec_44 (bt_23 (i := 45) rfl)
theorem dW_1518 : decode code 1518 = .ok (.aload_n 0, 1) := dec_42 (bt_23 (i := 46) rfl)
theorem dW_1519 : decode code 1519 = .ok (.iload 4, 2) := dec_21 (bt_23 (i := 47) rfl) (bt_23 (i := 48) rfl) rfl
theorem dW_1521 : decode code 1521 = .ok (.iconst 1, 1) := dec_4 (bt_23 (i := 49) rfl)
theorem dW_1522 : decode code 1522 = .ok (.iadd, 1) := dec_96 (bt_23 (i := 50) rfl)
theorem dW_1523 : decode code 1523 = .ok (.iaload, 1) := dec_46 (bt_23 (i := 51) rfl)
theorem dW_1524 : decode code 1524 = .ok (.invokevirtual 270, 3) := dec_182 (bt_23 (i := 52) rfl) (bt_23 (i := 53) rfl) (bt_23 (i := 54) rfl) rfl
theorem dW_1527 : decode code 1527 = .ok (.istore 6, 2) := dec_54 (bt_23 (i := 55) rfl) (bt_23 (i := 56) rfl) rfl
theorem dW_1529 : decode code 1529 = .ok (.goto 827, 3) := dec_167 (bt_23 (i := 57) rfl) (bt_23 (i := 58) rfl) (bt_23 (i := 59) rfl) (by decide +kernel)
theorem dW_1532 : decode code 1532 = .ok (.aload_n 1, 1) := dec_43 (bt_23 (i := 60) rfl)
theorem dW_1533 : decode code 1533 = .ok (.aload_n 0, 1) := dec_42 (bt_23 (i := 61) rfl)
theorem dW_1534 : decode code 1534 = .ok (.iload 4, 2) := dec_21 (bt_23 (i := 62) rfl) (bt_23 (i := 63) rfl) rfl
theorem dW_1536 : decode code 1536 = .ok (.iconst 1, 1) := dec_4 (bt_24 (i := 0) rfl)
theorem dW_1537 : decode code 1537 = .ok (.iadd, 1) := dec_96 (bt_24 (i := 1) rfl)
theorem dW_1538 : decode code 1538 = .ok (.iaload, 1) := dec_46 (bt_24 (i := 2) rfl)
theorem dW_1539 : decode code 1539 = .ok (.aload_n 0, 1) := dec_42 (bt_24 (i := 3) rfl)
theorem dW_1540 : decode code 1540 = .ok (.iload 4, 2) := dec_21 (bt_24 (i := 4) rfl) (bt_24 (i := 5) rfl) rfl
theorem dW_1542 : decode code 1542 = .ok (.iconst 2, 1) := dec_5 (bt_24 (i := 6) rfl)
theorem dW_1543 : decode code 1543 = .ok (.iadd, 1) := dec_96 (bt_24 (i := 7) rfl)
theorem dW_1544 : decode code 1544 = .ok (.iaload, 1) := dec_46 (bt_24 (i := 8) rfl)
theorem dW_1545 : decode code 1545 = .ok (.aload_n 3, 1) := dec_45 (bt_24 (i := 9) rfl)
theorem dW_1546 : decode code 1546 = .ok (.invokestatic 271, 3) := dec_184 (bt_24 (i := 10) rfl) (bt_24 (i := 11) rfl) (bt_24 (i := 12) rfl) rfl
theorem dW_1549 : decode code 1549 = .ok (.istore 5, 2) := dec_54 (bt_24 (i := 13) rfl) (bt_24 (i := 14) rfl) rfl
theorem dW_1551 : decode code 1551 = .ok (.aload_n 2, 1) := dec_44 (bt_24 (i := 15) rfl)
theorem dW_1552 : decode code 1552 = .ok (.aload_n 0, 1) := dec_42 (bt_24 (i := 16) rfl)
theorem dW_1553 : decode code 1553 = .ok (.iload 4, 2) := dec_21 (bt_24 (i := 17) rfl) (bt_24 (i := 18) rfl) rfl
theorem dW_1555 : decode code 1555 = .ok (.iconst 1, 1) := dec_4 (bt_24 (i := 19) rfl)
theorem dW_1556 : decode code 1556 = .ok (.iadd, 1) := dec_96 (bt_24 (i := 20) rfl)
theorem dW_1557 : decode code 1557 = .ok (.iaload, 1) := dec_46 (bt_24 (i := 21) rfl)
theorem dW_1558 : decode code 1558 = .ok (.aload_n 0, 1) := dec_42 (bt_24 (i := 22) rfl)
theorem dW_1559 : decode code 1559 = .ok (.iload 4, 2) := dec_21 (bt_24 (i := 23) rfl) (bt_24 (i := 24) rfl) rfl
theorem dW_1561 : decode code 1561 = .ok (.iconst 2, 1) := dec_5 (bt_24 (i := 25) rfl)
theorem dW_1562 : decode code 1562 = .ok (.iadd, 1) := dec_96 (bt_24 (i := 26) rfl)
theorem dW_1563 : decode code 1563 = .ok (.iaload, 1) := dec_46 (bt_24 (i := 27) rfl)
theorem dW_1564 : decode code 1564 = .ok (.invokevirtual 273, 3) := dec_182 (bt_24 (i := 28) rfl) (bt_24 (i := 29) rfl) (bt_24 (i := 30) rfl) rfl
theorem dW_1567 : decode code 1567 = .ok (.istore 6, 2) := dec_54 (bt_24 (i := 31) rfl) (bt_24 (i := 32) rfl) rfl
theorem dW_1569 : decode code 1569 = .ok (.goto 787, 3) := dec_167 (bt_24 (i := 33) rfl) (bt_24 (i := 34) rfl) (bt_24 (i := 35) rfl) (by decide +kernel)
theorem dW_1572 : decode code 1572 = .ok (.aload_n 1, 1) := dec_43 (bt_24 (i := 36) rfl)
theorem dW_1573 : decode code 1573 = .ok (.aload_n 0, 1) := dec_42 (bt_24 (i := 37) rfl)
theorem dW_1574 : decode code 1574 = .ok (.iload 4, 2) := dec_21 (bt_24 (i := 38) rfl) (bt_24 (i := 39) rfl) rfl
theorem dW_1576 : decode code 1576 = .ok (.iconst 1, 1) := dec_4 (bt_24 (i := 40) rfl)
theorem dW_1577 : decode code 1577 = .ok (.iadd, 1) := dec_96 (bt_24 (i := 41) rfl)
theorem dW_1578 : decode code 1578 = .ok (.iaload, 1) := dec_46 (bt_24 (i := 42) rfl)
theorem dW_1579 : decode code 1579 = .ok (.aload_n 0, 1) := dec_42 (bt_24 (i := 43) rfl)
theorem dW_1580 : decode code 1580 = .ok (.iload 4, 2) := dec_21 (bt_24 (i := 44) rfl) (bt_24 (i := 45) rfl) rfl
theorem dW_1582 : decode code 1582 = .ok (.iconst 2, 1) := dec_5 (bt_24 (i := 46) rfl)
theorem dW_1583 : decode code 1583 = .ok (.iadd, 1) := dec_96 (bt_24 (i := 47) rfl)
theorem dW_1584 : decode code 1584 = .ok (.iaload, 1) := dec_46 (bt_24 (i := 48) rfl)
theorem dW_1585 : decode code 1585 = .ok (.aload_n 3, 1) := dec_45 (bt_24 (i := 49) rfl)
theorem dW_1586 : decode code 1586 = .ok (.invokestatic 274, 3) := dec_184 (bt_24 (i := 50) rfl) (bt_24 (i := 51) rfl) (bt_24 (i := 52) rfl) rfl
theorem dW_1589 : decode code 1589 = .ok (.istore 5, 2) := dec_54 (bt_24 (i := 53) rfl) (bt_24 (i := 54) rfl) rfl
theorem dW_1591 : decode code 1591 = .ok (.aload_n 2, 1) := dec_44 (bt_24 (i := 55) rfl)
theorem dW_1592 : decode code 1592 = .ok (.aload_n 0, 1) := dec_42 (bt_24 (i := 56) rfl)
theorem dW_1593 : decode code 1593 = .ok (.iload 4, 2) := dec_21 (bt_24 (i := 57) rfl) (bt_24 (i := 58) rfl) rfl
theorem dW_1595 : decode code 1595 = .ok (.iconst 1, 1) := dec_4 (bt_24 (i := 59) rfl)
theorem dW_1596 : decode code 1596 = .ok (.iadd, 1) := dec_96 (bt_24 (i := 60) rfl)
theorem dW_1597 : decode code 1597 = .ok (.iaload, 1) := dec_46 (bt_24 (i := 61) rfl)
theorem dW_1598 : decode code 1598 = .ok (.aload_n 0, 1) := dec_42 (bt_24 (i := 62) rfl)
theorem dW_1599 : decode code 1599 = .ok (.iload 4, 2) := dec_21 (bt_24 (i := 63) rfl) (bt_25 (i := 0) rfl) rfl
theorem dW_1601 : decode code 1601 = .ok (.iconst 2, 1) := dec_5 (bt_25 (i := 1) rfl)
theorem dW_1602 : decode code 1602 = .ok (.iadd, 1) := dec_96 (bt_25 (i := 2) rfl)
theorem dW_1603 : decode code 1603 = .ok (.iaload, 1) := dec_46 (bt_25 (i := 3) rfl)
theorem dW_1604 : decode code 1604 = .ok (.invokevirtual 276, 3) := dec_182 (bt_25 (i := 4) rfl) (bt_25 (i := 5) rfl) (bt_25 (i := 6) rfl) rfl
theorem dW_1607 : decode code 1607 = .ok (.istore 6, 2) := dec_54 (bt_25 (i := 7) rfl) (bt_25 (i := 8) rfl) rfl
theorem dW_1609 : decode code 1609 = .ok (.goto 747, 3) := dec_167 (bt_25 (i := 9) rfl) (bt_25 (i := 10) rfl) (bt_25 (i := 11) rfl) (by decide +kernel)
theorem dW_1612 : decode code 1612 = .ok (.aload_n 1, 1) := dec_43 (bt_25 (i := 12) rfl)
theorem dW_1613 : decode code 1613 = .ok (.aload_n 0, 1) := dec_42 (bt_25 (i := 13) rfl)
theorem dW_1614 : decode code 1614 = .ok (.iload 4, 2) := dec_21 (bt_25 (i := 14) rfl) (bt_25 (i := 15) rfl) rfl
theorem dW_1616 : decode code 1616 = .ok (.iconst 1, 1) := dec_4 (bt_25 (i := 16) rfl)
theorem dW_1617 : decode code 1617 = .ok (.iadd, 1) := dec_96 (bt_25 (i := 17) rfl)
theorem dW_1618 : decode code 1618 = .ok (.iaload, 1) := dec_46 (bt_25 (i := 18) rfl)
theorem dW_1619 : decode code 1619 = .ok (.aload_n 3, 1) := dec_45 (bt_25 (i := 19) rfl)
theorem dW_1620 : decode code 1620 = .ok (.invokestatic 277, 3) := dec_184 (bt_25 (i := 20) rfl) (bt_25 (i := 21) rfl) (bt_25 (i := 22) rfl) rfl
theorem dW_1623 : decode code 1623 = .ok (.istore 5, 2) := dec_54 (bt_25 (i := 23) rfl) (bt_25 (i := 24) rfl) rfl
theorem dW_1625 : decode code 1625 = .ok (.aload_n 2, 1) := dec_44 (bt_25 (i := 25) rfl)
theorem dW_1626 : decode code 1626 = .ok (.aload_n 0, 1) := dec_42 (bt_25 (i := 26) rfl)
theorem dW_1627 : decode code 1627 = .ok (.iload 4, 2) := dec_21 (bt_25 (i := 27) rfl) (bt_25 (i := 28) rfl) rfl
theorem dW_1629 : decode code 1629 = .ok (.iconst 1, 1) := dec_4 (bt_25 (i := 29) rfl)
theorem dW_1630 : decode code 1630 = .ok (.iadd, 1) := dec_96 (bt_25 (i := 30) rfl)
theorem dW_1631 : decode code 1631 = .ok (.iaload, 1) := dec_46 (bt_25 (i := 31) rfl)
theorem dW_1632 : decode code 1632 = .ok (.invokevirtual 279, 3) := dec_182 (bt_25 (i := 32) rfl) (bt_25 (i := 33) rfl) (bt_25 (i := 34) rfl) rfl
theorem dW_1635 : decode code 1635 = .ok (.istore 6, 2) := dec_54 (bt_25 (i := 35) rfl) (bt_25 (i := 36) rfl) rfl
theorem dW_1637 : decode code 1637 = .ok (.goto 719, 3) := dec_167 (bt_25 (i := 37) rfl) (bt_25 (i := 38) rfl) (bt_25 (i := 39) rfl) (by decide +kernel)
theorem dW_1640 : decode code 1640 = .ok (.aload_n 1, 1) := dec_43 (bt_25 (i := 40) rfl)
theorem dW_1641 : decode code 1641 = .ok (.aload_n 0, 1) := dec_42 (bt_25 (i := 41) rfl)
theorem dW_1642 : decode code 1642 = .ok (.iload 4, 2) := dec_21 (bt_25 (i := 42) rfl) (bt_25 (i := 43) rfl) rfl
theorem dW_1644 : decode code 1644 = .ok (.iconst 1, 1) := dec_4 (bt_25 (i := 44) rfl)
theorem dW_1645 : decode code 1645 = .ok (.iadd, 1) := dec_96 (bt_25 (i := 45) rfl)
theorem dW_1646 : decode code 1646 = .ok (.iaload, 1) := dec_46 (bt_25 (i := 46) rfl)
theorem dW_1647 : decode code 1647 = .ok (.aload_n 3, 1) := dec_45 (bt_25 (i := 47) rfl)
theorem dW_1648 : decode code 1648 = .ok (.invokestatic 280, 3) := dec_184 (bt_25 (i := 48) rfl) (bt_25 (i := 49) rfl) (bt_25 (i := 50) rfl) rfl
theorem dW_1651 : decode code 1651 = .ok (.istore 5, 2) := dec_54 (bt_25 (i := 51) rfl) (bt_25 (i := 52) rfl) rfl
theorem dW_1653 : decode code 1653 = .ok (.aload_n 2, 1) := dec_44 (bt_25 (i := 53) rfl)
theorem dW_1654 : decode code 1654 = .ok (.aload_n 0, 1) := dec_42 (bt_25 (i := 54) rfl)
theorem dW_1655 : decode code 1655 = .ok (.iload 4, 2) := dec_21 (bt_25 (i := 55) rfl) (bt_25 (i := 56) rfl) rfl
theorem dW_1657 : decode code 1657 = .ok (.iconst 1, 1) := dec_4 (bt_25 (i := 57) rfl)
theorem dW_1658 : decode code 1658 = .ok (.iadd, 1) := dec_96 (bt_25 (i := 58) rfl)
theorem dW_1659 : decode code 1659 = .ok (.iaload, 1) := dec_46 (bt_25 (i := 59) rfl)
theorem dW_1660 : decode code 1660 = .ok (.invokevirtual 282, 3) := dec_182 (bt_25 (i := 60) rfl) (bt_25 (i := 61) rfl) (bt_25 (i := 62) rfl) rfl
theorem dW_1663 : decode code 1663 = .ok (.istore 6, 2) := dec_54 (bt_25 (i := 63) rfl) (bt_26 (i := 0) rfl) rfl
theorem dW_1665 : decode code 1665 = .ok (.goto 691, 3) := dec_167 (bt_26 (i := 1) rfl) (bt_26 (i := 2) rfl) (bt_26 (i := 3) rfl) (by decide +kernel)
theorem dW_1668 : decode code 1668 = .ok (.aload_n 1, 1) := dec_43 (bt_26 (i := 4) rfl)
theorem dW_1669 : decode code 1669 = .ok (.aload_n 0, 1) := dec_42 (bt_26 (i := 5) rfl)
theorem dW_1670 : decode code 1670 = .ok (.iload 4, 2) := dec_21 (bt_26 (i := 6) rfl) (bt_26 (i := 7) rfl) rfl
theorem dW_1672 : decode code 1672 = .ok (.iconst 1, 1) := dec_4 (bt_26 (i := 8) rfl)
theorem dW_1673 : decode code 1673 = .ok (.iadd, 1) := dec_96 (bt_26 (i := 9) rfl)
theorem dW_1674 : decode code 1674 = .ok (.iaload, 1) := dec_46 (bt_26 (i := 10) rfl)
theorem dW_1675 : decode code 1675 = .ok (.aload_n 3, 1) := dec_45 (bt_26 (i := 11) rfl)
theorem dW_1676 : decode code 1676 = .ok (.invokestatic 283, 3) := dec_184 (bt_26 (i := 12) rfl) (bt_26 (i := 13) rfl) (bt_26 (i := 14) rfl) rfl
theorem dW_1679 : decode code 1679 = .ok (.istore 5, 2) := dec_54 (bt_26 (i := 15) rfl) (bt_26 (i := 16) rfl) rfl
theorem dW_1681 : decode code 1681 = .ok (.aload_n 2, 1) := dec_44 (bt_26 (i := 17) rfl)
theorem dW_1682 : decode code 1682 = .ok (.aload_n 0, 1) := dec_42 (bt_26 (i := 18) rfl)
theorem dW_1683 : decode code 1683 = .ok (.iload 4, 2) := dec_21 (bt_26 (i := 19) rfl) (bt_26 (i := 20) rfl) rfl
theorem dW_1685 : decode code 1685 = .ok (.iconst 1, 1) := dec_4 (bt_26 (i := 21) rfl)
theorem dW_1686 : decode code 1686 = .ok (.iadd, 1) := dec_96 (bt_26 (i := 22) rfl)
theorem dW_1687 : decode code 1687 = .ok (.iaload, 1) := dec_46 (bt_26 (i := 23) rfl)
theorem dW_1688 : decode code 1688 = .ok (.invokevirtual 285, 3) := dec_182 (bt_26 (i := 24) rfl) (bt_26 (i := 25) rfl) (bt_26 (i := 26) rfl) rfl
theorem dW_1691 : decode code 1691 = .ok (.istore 6, 2) := dec_54 (bt_26 (i := 27) rfl) (bt_26 (i := 28) rfl) rfl
theorem dW_1693 : decode code 1693 = .ok (.goto 663, 3) := dec_167 (bt_26 (i := 29) rfl) (bt_26 (i := 30) rfl) (bt_26 (i := 31) rfl) (by decide +kernel)
theorem dW_1696 : decode code 1696 = .ok (.aload_n 1, 1) := dec_43 (bt_26 (i := 32) rfl)
theorem dW_1697 : decode code 1697 = .ok (.aload_n 0, 1) := dec_42 (bt_26 (i := 33) rfl)
theorem dW_1698 : decode code 1698 = .ok (.iload 4, 2) := dec_21 (bt_26 (i := 34) rfl) (bt_26 (i := 35) rfl) rfl
theorem dW_1700 : decode code 1700 = .ok (.iconst 1, 1) := dec_4 (bt_26 (i := 36) rfl)
theorem dW_1701 : decode code 1701 = .ok (.iadd, 1) := dec_96 (bt_26 (i := 37) rfl)
theorem dW_1702 : decode code 1702 = .ok (.iaload, 1) := dec_46 (bt_26 (i := 38) rfl)
theorem dW_1703 : decode code 1703 = .ok (.aload_n 0, 1) := dec_42 (bt_26 (i := 39) rfl)
theorem dW_1704 : decode code 1704 = .ok (.iload 4, 2) := dec_21 (bt_26 (i := 40) rfl) (bt_26 (i := 41) rfl) rfl
theorem dW_1706 : decode code 1706 = .ok (.iconst 2, 1) := dec_5 (bt_26 (i := 42) rfl)
theorem dW_1707 : decode code 1707 = .ok (.iadd, 1) := dec_96 (bt_26 (i := 43) rfl)
theorem dW_1708 : decode code 1708 = .ok (.iaload, 1) := dec_46 (bt_26 (i := 44) rfl)
theorem dW_1709 : decode code 1709 = .ok (.aload_n 0, 1) := dec_42 (bt_26 (i := 45) rfl)
theorem dW_1710 : decode code 1710 = .ok (.iload 4, 2) := dec_21 (bt_26 (i := 46) rfl) (bt_26 (i := 47) rfl) rfl
theorem dW_1712 : decode code 1712 = .ok (.iconst 3, 1) := dec_6 (bt_26 (i := 48) rfl)
theorem dW_1713 : decode code 1713 = .ok (.iadd, 1) := dec_96 (bt_26 (i := 49) rfl)
theorem dW_1714 : decode code 1714 = .ok (.iaload, 1) := dec_46 (bt_26 (i := 50) rfl)
theorem dW_1715 : decode code 1715 = .ok (.aload_n 3, 1) := dec_45 (bt_26 (i := 51) rfl)
theorem dW_1716 : decode code 1716 = .ok (.invokestatic 286, 3) := dec_184 (bt_26 (i := 52) rfl) (bt_26 (i := 53) rfl) (bt_26 (i := 54) rfl) rfl
theorem dW_1719 : decode code 1719 = .ok (.istore 5, 2) := dec_54 (bt_26 (i := 55) rfl) (bt_26 (i := 56) rfl) rfl
theorem dW_1721 : decode code 1721 = .ok (.aload_n 2, 1) := dec_44 (bt_26 (i := 57) rfl)
theorem dW_1722 : decode code 1722 = .ok (.aload_n 0, 1) := dec_42 (bt_26 (i := 58) rfl)
theorem dW_1723 : decode code 1723 = .ok (.iload 4, 2) := dec_21 (bt_26 (i := 59) rfl) (bt_26 (i := 60) rfl) rfl
theorem dW_1725 : decode code 1725 = .ok (.iconst 1, 1) := dec_4 (bt_26 (i := 61) rfl)
theorem dW_1726 : decode code 1726 = .ok (.iadd, 1) := dec_96 (bt_26 (i := 62) rfl)
theorem dW_1727 : decode code 1727 = .ok (.iaload, 1) := dec_46 (bt_26 (i := 63) rfl)
theorem dW_1728 : decode code 1728 = .ok (.aload_n 0, 1) := dec_42 (bt_27 (i := 0) rfl)
theorem dW_1729 : decode code 1729 = .ok (.iload 4, 2) := dec_21 (bt_27 (i := 1) rfl) (bt_27 (i := 2) rfl) rfl
theorem dW_1731 : decode code 1731 = .ok (.iconst 2, 1) := dec_5 (bt_27 (i := 3) rfl)
theorem dW_1732 : decode code 1732 = .ok (.iadd, 1) := dec_96 (bt_27 (i := 4) rfl)
theorem dW_1733 : decode code 1733 = .ok (.iaload, 1) := dec_46 (bt_27 (i := 5) rfl)
theorem dW_1734 : decode code 1734 = .ok (.aload_n 0, 1) := dec_42 (bt_27 (i := 6) rfl)
theorem dW_1735 : decode code 1735 = .ok (.iload 4, 2) := dec_21 (bt_27 (i := 7) rfl) (bt_27 (i := 8) rfl) rfl
theorem dW_1737 : decode code 1737 = .ok (.iconst 3, 1) := dec_6 (bt_27 (i := 9) rfl)
theorem dW_1738 : decode code 1738 = .ok (.iadd, 1) := dec_96 (bt_27 (i := 10) rfl)
theorem dW_1739 : decode code 1739 = .ok (.iaload, 1) := dec_46 (bt_27 (i := 11) rfl)
theorem dW_1740 : decode code 1740 = .ok (.invokevirtual 288, 3) := dec_182 (bt_27 (i := 12) rfl) (bt_27 (i := 13) rfl) (bt_27 (i := 14) rfl) rfl
theorem dW_1743 : decode code 1743 = .ok (.istore 6, 2) := dec_54 (bt_27 (i := 15) rfl) (bt_27 (i := 16) rfl) rfl
theorem dW_1745 : decode code 1745 = .ok (.goto 611, 3) := dec_167 (bt_27 (i := 17) rfl) (bt_27 (i := 18) rfl) (bt_27 (i := 19) rfl) (by decide +kernel)
theorem dW_1748 : decode code 1748 = .ok (.aload_n 1, 1) := dec_43 (bt_27 (i := 20) rfl)
theorem dW_1749 : decode code 1749 = .ok (.aload_n 0, 1) := dec_42 (bt_27 (i := 21) rfl)
theorem dW_1750 : decode code 1750 = .ok (.iload 4, 2) := dec_21 (bt_27 (i := 22) rfl) (bt_27 (i := 23) rfl) rfl
theorem dW_1752 : decode code 1752 = .ok (.iconst 1, 1) := dec_4 (bt_27 (i := 24) rfl)
theorem dW_1753 : decode code 1753 = .ok (.iadd, 1) := dec_96 (bt_27 (i := 25) rfl)
theorem dW_1754 : decode code 1754 = .ok (.iaload, 1) := dec_46 (bt_27 (i := 26) rfl)
theorem dW_1755 : decode code 1755 = .ok (.aload_n 0, 1) := dec_42 (bt_27 (i := 27) rfl)
theorem dW_1756 : decode code 1756 = .ok (.iload 4, 2) := dec_21 (bt_27 (i := 28) rfl) (bt_27 (i := 29) rfl) rfl
theorem dW_1758 : decode code 1758 = .ok (.iconst 2, 1) := dec_5 (bt_27 (i := 30) rfl)
theorem dW_1759 : decode code 1759 = .ok (.iadd, 1) := dec_96 (bt_27 (i := 31) rfl)
theorem dW_1760 : decode code 1760 = .ok (.iaload, 1) := dec_46 (bt_27 (i := 32) rfl)
theorem dW_1761 : decode code 1761 = .ok (.aload_n 0, 1) := dec_42 (bt_27 (i := 33) rfl)
theorem dW_1762 : decode code 1762 = .ok (.iload 4, 2) := dec_21 (bt_27 (i := 34) rfl) (bt_27 (i := 35) rfl) rfl
theorem dW_1764 : decode code 1764 = .ok (.iconst 3, 1) := dec_6 (bt_27 (i := 36) rfl)
theorem dW_1765 : decode code 1765 = .ok (.iadd, 1) := dec_96 (bt_27 (i := 37) rfl)
theorem dW_1766 : decode code 1766 = .ok (.iaload, 1) := dec_46 (bt_27 (i := 38) rfl)
theorem dW_1767 : decode code 1767 = .ok (.aload_n 3, 1) := dec_45 (bt_27 (i := 39) rfl)
theorem dW_1768 : decode code 1768 = .ok (.invokestatic 289, 3) := dec_184 (bt_27 (i := 40) rfl) (bt_27 (i := 41) rfl) (bt_27 (i := 42) rfl) rfl
theorem dW_1771 : decode code 1771 = .ok (.istore 5, 2) := dec_54 (bt_27 (i := 43) rfl) (bt_27 (i := 44) rfl) rfl
theorem dW_1773 : decode code 1773 = .ok (.aload_n 2, 1) := dec_44 (bt_27 (i := 45) rfl)
theorem dW_1774 : decode code 1774 = .ok (.aload_n 0, 1) := dec_42 (bt_27 (i := 46) rfl)
theorem dW_1775 : decode code 1775 = .ok (.iload 4, 2) := dec_21 (bt_27 (i := 47) rfl) (bt_27 (i := 48) rfl) rfl
theorem dW_1777 : decode code 1777 = .ok (.iconst 1, 1) := dec_4 (bt_27 (i := 49) rfl)
theorem dW_1778 : decode code 1778 = .ok (.iadd, 1) := dec_96 (bt_27 (i := 50) rfl)
theorem dW_1779 : decode code 1779 = .ok (.iaload, 1) := dec_46 (bt_27 (i := 51) rfl)
theorem dW_1780 : decode code 1780 = .ok (.aload_n 0, 1) := dec_42 (bt_27 (i := 52) rfl)
theorem dW_1781 : decode code 1781 = .ok (.iload 4, 2) := dec_21 (bt_27 (i := 53) rfl) (bt_27 (i := 54) rfl) rfl
theorem dW_1783 : decode code 1783 = .ok (.iconst 2, 1) := dec_5 (bt_27 (i := 55) rfl)
theorem dW_1784 : decode code 1784 = .ok (.iadd, 1) := dec_96 (bt_27 (i := 56) rfl)
theorem dW_1785 : decode code 1785 = .ok (.iaload, 1) := dec_46 (bt_27 (i := 57) rfl)
theorem dW_1786 : decode code 1786 = .ok (.aload_n 0, 1) := dec_42 (bt_27 (i := 58) rfl)
theorem dW_1787 : decode code 1787 = .ok (.iload 4, 2) := dec_21 (bt_27 (i := 59) rfl) (bt_27 (i := 60) rfl) rfl
theorem dW_1789 : decode code 1789 = .ok (.iconst 3, 1) := dec_6 (bt_27 (i := 61) rfl)
theorem dW_1790 : decode code 1790 = .ok (.iadd, 1) := dec_96 (bt_27 (i := 62) rfl)
theorem dW_1791 : decode code 1791 = .ok (.iaload, 1) := dec_46 (bt_27 (i := 63) rfl)
theorem dW_1792 : decode code 1792 = .ok (.invokevirtual 291, 3) := dec_182 (bt_28 (i := 0) rfl) (bt_28 (i := 1) rfl) (bt_28 (i := 2) rfl) rfl
theorem dW_1795 : decode code 1795 = .ok (.istore 6, 2) := dec_54 (bt_28 (i := 3) rfl) (bt_28 (i := 4) rfl) rfl
theorem dW_1797 : decode code 1797 = .ok (.goto 559, 3) := dec_167 (bt_28 (i := 5) rfl) (bt_28 (i := 6) rfl) (bt_28 (i := 7) rfl) (by decide +kernel)
theorem dW_1800 : decode code 1800 = .ok (.aload_n 1, 1) := dec_43 (bt_28 (i := 8) rfl)
theorem dW_1801 : decode code 1801 = .ok (.aload_n 0, 1) := dec_42 (bt_28 (i := 9) rfl)
theorem dW_1802 : decode code 1802 = .ok (.iload 4, 2) := dec_21 (bt_28 (i := 10) rfl) (bt_28 (i := 11) rfl) rfl
theorem dW_1804 : decode code 1804 = .ok (.iconst 1, 1) := dec_4 (bt_28 (i := 12) rfl)
theorem dW_1805 : decode code 1805 = .ok (.iadd, 1) := dec_96 (bt_28 (i := 13) rfl)
theorem dW_1806 : decode code 1806 = .ok (.iaload, 1) := dec_46 (bt_28 (i := 14) rfl)
theorem dW_1807 : decode code 1807 = .ok (.aload_n 0, 1) := dec_42 (bt_28 (i := 15) rfl)
theorem dW_1808 : decode code 1808 = .ok (.iload 4, 2) := dec_21 (bt_28 (i := 16) rfl) (bt_28 (i := 17) rfl) rfl
theorem dW_1810 : decode code 1810 = .ok (.iconst 2, 1) := dec_5 (bt_28 (i := 18) rfl)
theorem dW_1811 : decode code 1811 = .ok (.iadd, 1) := dec_96 (bt_28 (i := 19) rfl)
theorem dW_1812 : decode code 1812 = .ok (.iaload, 1) := dec_46 (bt_28 (i := 20) rfl)
theorem dW_1813 : decode code 1813 = .ok (.aload_n 3, 1) := dec_45 (bt_28 (i := 21) rfl)
theorem dW_1814 : decode code 1814 = .ok (.invokestatic 292, 3) := dec_184 (bt_28 (i := 22) rfl) (bt_28 (i := 23) rfl) (bt_28 (i := 24) rfl) rfl
theorem dW_1817 : decode code 1817 = .ok (.istore 5, 2) := dec_54 (bt_28 (i := 25) rfl) (bt_28 (i := 26) rfl) rfl
theorem dW_1819 : decode code 1819 = .ok (.aload_n 2, 1) := dec_44 (bt_28 (i := 27) rfl)
theorem dW_1820 : decode code 1820 = .ok (.aload_n 0, 1) := dec_42 (bt_28 (i := 28) rfl)
theorem dW_1821 : decode code 1821 = .ok (.iload 4, 2) := dec_21 (bt_28 (i := 29) rfl) (bt_28 (i := 30) rfl) rfl
theorem dW_1823 : decode code 1823 = .ok (.iconst 1, 1) := dec_4 (bt_28 (i := 31) rfl)
theorem dW_1824 : decode code 1824 = .ok (.iadd, 1) := dec_96 (bt_28 (i := 32) rfl)
theorem dW_1825 : decode code 1825 = .ok (.iaload, 1) := dec_46 (bt_28 (i := 33) rfl)
theorem dW_1826 : decode code 1826 = .ok (.aload_n 0, 1) := dec_42 (bt_28 (i := 34) rfl)
theorem dW_1827 : decode code 1827 = .ok (.iload 4, 2) := dec_21 (bt_28 (i := 35) rfl) (bt_28 (i := 36) rfl) rfl
theorem dW_1829 : decode code 1829 = .ok (.iconst 2, 1) := dec_5 (bt_28 (i := 37) rfl)
theorem dW_1830 : decode code 1830 = .ok (.iadd, 1) := dec_96 (bt_28 (i := 38) rfl)
theorem dW_1831 : decode code 1831 = .ok (.iaload, 1) := dec_46 (bt_28 (i := 39) rfl)
theorem dW_1832 : decode code 1832 = .ok (.invokevirtual 294, 3) := dec_182 (bt_28 (i := 40) rfl) (bt_28 (i := 41) rfl) (bt_28 (i := 42) rfl) rfl
theorem dW_1835 : decode code 1835 = .ok (.istore 6, 2) := dec_54 (bt_28 (i := 43) rfl) (bt_28 (i := 44) rfl) rfl
theorem dW_1837 : decode code 1837 = .ok (.goto 519, 3) := dec_167 (bt_28 (i := 45) rfl) (bt_28 (i := 46) rfl) (bt_28 (i := 47) rfl) (by decide +kernel)
theorem dW_1840 : decode code 1840 = .ok (.aload_n 1, 1) := dec_43 (bt_28 (i := 48) rfl)
theorem dW_1841 : decode code 1841 = .ok (.aload_n 0, 1) := dec_42 (bt_28 (i := 49) rfl)
theorem dW_1842 : decode code 1842 = .ok (.iload 4, 2) := dec_21 (bt_28 (i := 50) rfl) (bt_28 (i := 51) rfl) rfl
theorem dW_1844 : decode code 1844 = .ok (.iconst 1, 1) := dec_4 (bt_28 (i := 52) rfl)
theorem dW_1845 : decode code 1845 = .ok (.iadd, 1) := dec_96 (bt_28 (i := 53) rfl)
theorem dW_1846 : decode code 1846 = .ok (.iaload, 1) := dec_46 (bt_28 (i := 54) rfl)
theorem dW_1847 : decode code 1847 = .ok (.aload_n 3, 1) := dec_45 (bt_28 (i := 55) rfl)
theorem dW_1848 : decode code 1848 = .ok (.invokestatic 295, 3) := dec_184 (bt_28 (i := 56) rfl) (bt_28 (i := 57) rfl) (bt_28 (i := 58) rfl) rfl
theorem dW_1851 : decode code 1851 = .ok (.istore 5, 2) := dec_54 (bt_28 (i := 59) rfl) (bt_28 (i := 60) rfl) rfl
theorem dW_1853 : decode code 1853 = .ok (.aload_n 2, 1) := dec_44 (bt_28 (i := 61) rfl)
theorem dW_1854 : decode code 1854 = .ok (.aload_n 0, 1) := dec_42 (bt_28 (i := 62) rfl)
theorem dW_1855 : decode code 1855 = .ok (.iload 4, 2) := dec_21 (bt_28 (i := 63) rfl) (bt_29 (i := 0) rfl) rfl
theorem dW_1857 : decode code 1857 = .ok (.iconst 1, 1) := dec_4 (bt_29 (i := 1) rfl)
theorem dW_1858 : decode code 1858 = .ok (.iadd, 1) := dec_96 (bt_29 (i := 2) rfl)
theorem dW_1859 : decode code 1859 = .ok (.iaload, 1) := dec_46 (bt_29 (i := 3) rfl)
theorem dW_1860 : decode code 1860 = .ok (.invokevirtual 297, 3) := dec_182 (bt_29 (i := 4) rfl) (bt_29 (i := 5) rfl) (bt_29 (i := 6) rfl) rfl
theorem dW_1863 : decode code 1863 = .ok (.istore 6, 2) := dec_54 (bt_29 (i := 7) rfl) (bt_29 (i := 8) rfl) rfl
theorem dW_1865 : decode code 1865 = .ok (.goto 491, 3) := dec_167 (bt_29 (i := 9) rfl) (bt_29 (i := 10) rfl) (bt_29 (i := 11) rfl) (by decide +kernel)
theorem dW_1868 : decode code 1868 = .ok (.aload_n 1, 1) := dec_43 (bt_29 (i := 12) rfl)
theorem dW_1869 : decode code 1869 = .ok (.aload_n 0, 1) := dec_42 (bt_29 (i := 13) rfl)
theorem dW_1870 : decode code 1870 = .ok (.iload 4, 2) := dec_21 (bt_29 (i := 14) rfl) (bt_29 (i := 15) rfl) rfl
theorem dW_1872 : decode code 1872 = .ok (.iconst 1, 1) := dec_4 (bt_29 (i := 16) rfl)
theorem dW_1873 : decode code 1873 = .ok (.iadd, 1) := dec_96 (bt_29 (i := 17) rfl)
theorem dW_1874 : decode code 1874 = .ok (.iaload, 1) := dec_46 (bt_29 (i := 18) rfl)
theorem dW_1875 : decode code 1875 = .ok (.aload_n 3, 1) := dec_45 (bt_29 (i := 19) rfl)
theorem dW_1876 : decode code 1876 = .ok (.invokestatic 298, 3) := dec_184 (bt_29 (i := 20) rfl) (bt_29 (i := 21) rfl) (bt_29 (i := 22) rfl) rfl
theorem dW_1879 : decode code 1879 = .ok (.istore 5, 2) := dec_54 (bt_29 (i := 23) rfl) (bt_29 (i := 24) rfl) rfl
theorem dW_1881 : decode code 1881 = .ok (.aload_n 2, 1) := dec_44 (bt_29 (i := 25) rfl)
theorem dW_1882 : decode code 1882 = .ok (.aload_n 0, 1) := dec_42 (bt_29 (i := 26) rfl)
theorem dW_1883 : decode code 1883 = .ok (.iload 4, 2) := dec_21 (bt_29 (i := 27) rfl) (bt_29 (i := 28) rfl) rfl
theorem dW_1885 : decode code 1885 = .ok (.iconst 1, 1) := dec_4 (bt_29 (i := 29) rfl)
theorem dW_1886 : decode code 1886 = .ok (.iadd, 1) := dec_96 (bt_29 (i := 30) rfl)
theorem dW_1887 : decode code 1887 = .ok (.iaload, 1) := dec_46 (bt_29 (i := 31) rfl)
theorem dW_1888 : decode code 1888 = .ok (.invokevirtual 300, 3) := dec_182 (bt_29 (i := 32) rfl) (bt_29 (i := 33) rfl) (bt_29 (i := 34) rfl) rfl
theorem dW_1891 : decode code 1891 = .ok (.istore 6, 2) := dec_54 (bt_29 (i := 35) rfl) (bt_29 (i := 36) rfl) rfl
theorem dW_1893 : decode code 1893 = .ok (.goto 463, 3) := dec_167 (bt_29 (i := 37) rfl) (bt_29 (i := 38) rfl) (bt_29 (i := 39) rfl) (by decide +kernel)
theorem dW_1896 : decode code 1896 = .ok (.aload_n 1, 1) := dec_43 (bt_29 (i := 40) rfl)
theorem dW_1897 : decode code 1897 = .ok (.aload_n 0, 1) := dec_42 (bt_29 (i := 41) rfl)
theorem dW_1898 : decode code 1898 = .ok (.iload 4, 2) := dec_21 (bt_29 (i := 42) rfl) (bt_29 (i := 43) rfl) rfl
theorem dW_1900 : decode code 1900 = .ok (.iconst 1, 1) := dec_4 (bt_29 (i := 44) rfl)
theorem dW_1901 : decode code 1901 = .ok (.iadd, 1) := dec_96 (bt_29 (i := 45) rfl)
theorem dW_1902 : decode code 1902 = .ok (.iaload, 1) := dec_46 (bt_29 (i := 46) rfl)
theorem dW_1903 : decode code 1903 = .ok (.aload_n 0, 1) := dec_42 (bt_29 (i := 47) rfl)
theorem dW_1904 : decode code 1904 = .ok (.iload 4, 2) := dec_21 (bt_29 (i := 48) rfl) (bt_29 (i := 49) rfl) rfl
theorem dW_1906 : decode code 1906 = .ok (.iconst 2, 1) := dec_5 (bt_29 (i := 50) rfl)
theorem dW_1907 : decode code 1907 = .ok (.iadd, 1) := dec_96 (bt_29 (i := 51) rfl)
theorem dW_1908 : decode code 1908 = .ok (.iaload, 1) := dec_46 (bt_29 (i := 52) rfl)
theorem dW_1909 : decode code 1909 = .ok (.ifCond .eq 7, 3) := dec_153 (bt_29 (i := 53) rfl) (bt_29 (i := 54) rfl) (bt_29 (i := 55) rfl) (by decide +kernel)
theorem dW_1912 : decode code 1912 = .ok (.iconst 1, 1) := dec_4 (bt_29 (i := 56) rfl)
theorem dW_1913 : decode code 1913 = .ok (.goto 4, 3) := dec_167 (bt_29 (i := 57) rfl) (bt_29 (i := 58) rfl) (bt_29 (i := 59) rfl) (by decide +kernel)
theorem dW_1916 : decode code 1916 = .ok (.iconst 0, 1) := dec_3 (bt_29 (i := 60) rfl)
theorem dW_1917 : decode code 1917 = .ok (.aload_n 3, 1) := dec_45 (bt_29 (i := 61) rfl)
theorem dW_1918 : decode code 1918 = .ok (.invokestatic 301, 3) := dec_184 (bt_29 (i := 62) rfl) (bt_29 (i := 63) rfl) (bt_30 (i := 0) rfl) rfl
theorem dW_1921 : decode code 1921 = .ok (.istore 5, 2) := dec_54 (bt_30 (i := 1) rfl) (bt_30 (i := 2) rfl) rfl
theorem dW_1923 : decode code 1923 = .ok (.aload_n 2, 1) := dec_44 (bt_30 (i := 3) rfl)
theorem dW_1924 : decode code 1924 = .ok (.aload_n 0, 1) := dec_42 (bt_30 (i := 4) rfl)
theorem dW_1925 : decode code 1925 = .ok (.iload 4, 2) := dec_21 (bt_30 (i := 5) rfl) (bt_30 (i := 6) rfl) rfl
theorem dW_1927 : decode code 1927 = .ok (.iconst 1, 1) := dec_4 (bt_30 (i := 7) rfl)
theorem dW_1928 : decode code 1928 = .ok (.iadd, 1) := dec_96 (bt_30 (i := 8) rfl)
theorem dW_1929 : decode code 1929 = .ok (.iaload, 1) := dec_46 (bt_30 (i := 9) rfl)
theorem dW_1930 : decode code 1930 = .ok (.aload_n 0, 1) := dec_42 (bt_30 (i := 10) rfl)
theorem dW_1931 : decode code 1931 = .ok (.iload 4, 2) := dec_21 (bt_30 (i := 11) rfl) (bt_30 (i := 12) rfl) rfl
theorem dW_1933 : decode code 1933 = .ok (.iconst 2, 1) := dec_5 (bt_30 (i := 13) rfl)
theorem dW_1934 : decode code 1934 = .ok (.iadd, 1) := dec_96 (bt_30 (i := 14) rfl)
theorem dW_1935 : decode code 1935 = .ok (.iaload, 1) := dec_46 (bt_30 (i := 15) rfl)
theorem dW_1936 : decode code 1936 = .ok (.ifCond .eq 7, 3) := dec_153 (bt_30 (i := 16) rfl) (bt_30 (i := 17) rfl) (bt_30 (i := 18) rfl) (by decide +kernel)
theorem dW_1939 : decode code 1939 = .ok (.iconst 1, 1) := dec_4 (bt_30 (i := 19) rfl)
theorem dW_1940 : decode code 1940 = .ok (.goto 4, 3) := dec_167 (bt_30 (i := 20) rfl) (bt_30 (i := 21) rfl) (bt_30 (i := 22) rfl) (by decide +kernel)
theorem dW_1943 : decode code 1943 = .ok (.iconst 0, 1) := dec_3 (bt_30 (i := 23) rfl)
theorem dW_1944 : decode code 1944 = .ok (.invokevirtual 303, 3) := dec_182 (bt_30 (i := 24) rfl) (bt_30 (i := 25) rfl) (bt_30 (i := 26) rfl) rfl
theorem dW_1947 : decode code 1947 = .ok (.istore 6, 2) := dec_54 (bt_30 (i := 27) rfl) (bt_30 (i := 28) rfl) rfl
theorem dW_1949 : decode code 1949 = .ok (.goto 407, 3) := dec_167 (bt_30 (i := 29) rfl) (bt_30 (i := 30) rfl) (bt_30 (i := 31) rfl) (by decide +kernel)
theorem dW_1952 : decode code 1952 = .ok (.aload_n 1, 1) := dec_43 (bt_30 (i := 32) rfl)
theorem dW_1953 : decode code 1953 = .ok (.aload_n 0, 1) := dec_42 (bt_30 (i := 33) rfl)
theorem dW_1954 : decode code 1954 = .ok (.iload 4, 2) := dec_21 (bt_30 (i := 34) rfl) (bt_30 (i := 35) rfl) rfl
theorem dW_1956 : decode code 1956 = .ok (.iconst 1, 1) := dec_4 (bt_30 (i := 36) rfl)
theorem dW_1957 : decode code 1957 = .ok (.iadd, 1) := dec_96 (bt_30 (i := 37) rfl)
theorem dW_1958 : decode code 1958 = .ok (.iaload, 1) := dec_46 (bt_30 (i := 38) rfl)
theorem dW_1959 : decode code 1959 = .ok (.aload_n 0, 1) := dec_42 (bt_30 (i := 39) rfl)
theorem dW_1960 : decode code 1960 = .ok (.iload 4, 2) := dec_21 (bt_30 (i := 40) rfl) (bt_30 (i := 41) rfl) rfl
theorem dW_1962 : decode code 1962 = .ok (.iconst 2, 1) := dec_5 (bt_30 (i := 42) rfl)
theorem dW_1963 : decode code 1963 = .ok (.iadd, 1) := dec_96 (bt_30 (i := 43) rfl)
theorem dW_1964 : decode code 1964 = .ok (.iaload, 1) := dec_46 (bt_30 (i := 44) rfl)
theorem dW_1965 : decode code 1965 = .ok (.aload_n 3, 1) := dec_45 (bt_30 (i := 45) rfl)
theorem dW_1966 : decode code 1966 = .ok (.invokestatic 304, 3) := dec_184 (bt_30 (i := 46) rfl) (bt_30 (i := 47) rfl) (bt_30 (i := 48) rfl) rfl
theorem dW_1969 : decode code 1969 = .ok (.istore 5, 2) := dec_54 (bt_30 (i := 49) rfl) (bt_30 (i := 50) rfl) rfl
theorem dW_1971 : decode code 1971 = .ok (.aload_n 2, 1) := dec_44 (bt_30 (i := 51) rfl)
theorem dW_1972 : decode code 1972 = .ok (.aload_n 0, 1) := dec_42 (bt_30 (i := 52) rfl)
theorem dW_1973 : decode code 1973 = .ok (.iload 4, 2) := dec_21 (bt_30 (i := 53) rfl) (bt_30 (i := 54) rfl) rfl
theorem dW_1975 : decode code 1975 = .ok (.iconst 1, 1) := dec_4 (bt_30 (i := 55) rfl)
theorem dW_1976 : decode code 1976 = .ok (.iadd, 1) := dec_96 (bt_30 (i := 56) rfl)
theorem dW_1977 : decode code 1977 = .ok (.iaload, 1) := dec_46 (bt_30 (i := 57) rfl)
theorem dW_1978 : decode code 1978 = .ok (.aload_n 0, 1) := dec_42 (bt_30 (i := 58) rfl)
theorem dW_1979 : decode code 1979 = .ok (.iload 4, 2) := dec_21 (bt_30 (i := 59) rfl) (bt_30 (i := 60) rfl) rfl
theorem dW_1981 : decode code 1981 = .ok (.iconst 2, 1) := dec_5 (bt_30 (i := 61) rfl)
theorem dW_1982 : decode code 1982 = .ok (.iadd, 1) := dec_96 (bt_30 (i := 62) rfl)
theorem dW_1983 : decode code 1983 = .ok (.iaload, 1) := dec_46 (bt_30 (i := 63) rfl)
theorem dW_1984 : decode code 1984 = .ok (.invokevirtual 306, 3) := dec_182 (bt_31 (i := 0) rfl) (bt_31 (i := 1) rfl) (bt_31 (i := 2) rfl) rfl
theorem dW_1987 : decode code 1987 = .ok (.istore 6, 2) := dec_54 (bt_31 (i := 3) rfl) (bt_31 (i := 4) rfl) rfl
theorem dW_1989 : decode code 1989 = .ok (.goto 367, 3) := dec_167 (bt_31 (i := 5) rfl) (bt_31 (i := 6) rfl) (bt_31 (i := 7) rfl) (by decide +kernel)
theorem dW_1992 : decode code 1992 = .ok (.aload_n 1, 1) := dec_43 (bt_31 (i := 8) rfl)
theorem dW_1993 : decode code 1993 = .ok (.aload_n 0, 1) := dec_42 (bt_31 (i := 9) rfl)
theorem dW_1994 : decode code 1994 = .ok (.iload 4, 2) := dec_21 (bt_31 (i := 10) rfl) (bt_31 (i := 11) rfl) rfl
theorem dW_1996 : decode code 1996 = .ok (.iconst 1, 1) := dec_4 (bt_31 (i := 12) rfl)
theorem dW_1997 : decode code 1997 = .ok (.iadd, 1) := dec_96 (bt_31 (i := 13) rfl)
theorem dW_1998 : decode code 1998 = .ok (.iaload, 1) := dec_46 (bt_31 (i := 14) rfl)
theorem dW_1999 : decode code 1999 = .ok (.aload_n 0, 1) := dec_42 (bt_31 (i := 15) rfl)
theorem dW_2000 : decode code 2000 = .ok (.iload 4, 2) := dec_21 (bt_31 (i := 16) rfl) (bt_31 (i := 17) rfl) rfl
theorem dW_2002 : decode code 2002 = .ok (.iconst 2, 1) := dec_5 (bt_31 (i := 18) rfl)
theorem dW_2003 : decode code 2003 = .ok (.iadd, 1) := dec_96 (bt_31 (i := 19) rfl)
theorem dW_2004 : decode code 2004 = .ok (.iaload, 1) := dec_46 (bt_31 (i := 20) rfl)
theorem dW_2005 : decode code 2005 = .ok (.aload_n 3, 1) := dec_45 (bt_31 (i := 21) rfl)
theorem dW_2006 : decode code 2006 = .ok (.invokestatic 307, 3) := dec_184 (bt_31 (i := 22) rfl) (bt_31 (i := 23) rfl) (bt_31 (i := 24) rfl) rfl
theorem dW_2009 : decode code 2009 = .ok (.istore 5, 2) := dec_54 (bt_31 (i := 25) rfl) (bt_31 (i := 26) rfl) rfl
theorem dW_2011 : decode code 2011 = .ok (.aload_n 2, 1) := dec_44 (bt_31 (i := 27) rfl)
theorem dW_2012 : decode code 2012 = .ok (.aload_n 0, 1) := dec_42 (bt_31 (i := 28) rfl)
theorem dW_2013 : decode code 2013 = .ok (.iload 4, 2) := dec_21 (bt_31 (i := 29) rfl) (bt_31 (i := 30) rfl) rfl
theorem dW_2015 : decode code 2015 = .ok (.iconst 1, 1) := dec_4 (bt_31 (i := 31) rfl)
theorem dW_2016 : decode code 2016 = .ok (.iadd, 1) := dec_96 (bt_31 (i := 32) rfl)
theorem dW_2017 : decode code 2017 = .ok (.iaload, 1) := dec_46 (bt_31 (i := 33) rfl)
theorem dW_2018 : decode code 2018 = .ok (.aload_n 0, 1) := dec_42 (bt_31 (i := 34) rfl)
theorem dW_2019 : decode code 2019 = .ok (.iload 4, 2) := dec_21 (bt_31 (i := 35) rfl) (bt_31 (i := 36) rfl) rfl
theorem dW_2021 : decode code 2021 = .ok (.iconst 2, 1) := dec_5 (bt_31 (i := 37) rfl)
theorem dW_2022 : decode code 2022 = .ok (.iadd, 1) := dec_96 (bt_31 (i := 38) rfl)
theorem dW_2023 : decode code 2023 = .ok (.iaload, 1) := dec_46 (bt_31 (i := 39) rfl)
theorem dW_2024 : decode code 2024 = .ok (.invokevirtual 309, 3) := dec_182 (bt_31 (i := 40) rfl) (bt_31 (i := 41) rfl) (bt_31 (i := 42) rfl) rfl
theorem dW_2027 : decode code 2027 = .ok (.istore 6, 2) := dec_54 (bt_31 (i := 43) rfl) (bt_31 (i := 44) rfl) rfl
theorem dW_2029 : decode code 2029 = .ok (.goto 327, 3) := dec_167 (bt_31 (i := 45) rfl) (bt_31 (i := 46) rfl) (bt_31 (i := 47) rfl) (by decide +kernel)
theorem dW_2032 : decode code 2032 = .ok (.aload_n 1, 1) := dec_43 (bt_31 (i := 48) rfl)
theorem dW_2033 : decode code 2033 = .ok (.aload_n 0, 1) := dec_42 (bt_31 (i := 49) rfl)
theorem dW_2034 : decode code 2034 = .ok (.iload 4, 2) := dec_21 (bt_31 (i := 50) rfl) (bt_31 (i := 51) rfl) rfl
theorem dW_2036 : decode code 2036 = .ok (.iconst 1, 1) := dec_4 (bt_31 (i := 52) rfl)
theorem dW_2037 : decode code 2037 = .ok (.iadd, 1) := dec_96 (bt_31 (i := 53) rfl)
theorem dW_2038 : decode code 2038 = .ok (.iaload, 1) := dec_46 (bt_31 (i := 54) rfl)
theorem dW_2039 : decode code 2039 = .ok (.aload_n 0, 1) := dec_42 (bt_31 (i := 55) rfl)
theorem dW_2040 : decode code 2040 = .ok (.iload 4, 2) := dec_21 (bt_31 (i := 56) rfl) (bt_31 (i := 57) rfl) rfl
theorem dW_2042 : decode code 2042 = .ok (.iconst 2, 1) := dec_5 (bt_31 (i := 58) rfl)
theorem dW_2043 : decode code 2043 = .ok (.iadd, 1) := dec_96 (bt_31 (i := 59) rfl)
theorem dW_2044 : decode code 2044 = .ok (.iaload, 1) := dec_46 (bt_31 (i := 60) rfl)
theorem dW_2045 : decode code 2045 = .ok (.aload_n 3, 1) := dec_45 (bt_31 (i := 61) rfl)
theorem dW_2046 : decode code 2046 = .ok (.invokestatic 310, 3) := dec_184 (bt_31 (i := 62) rfl) (bt_31 (i := 63) rfl) (bt_32 (i := 0) rfl) rfl
theorem dW_2049 : decode code 2049 = .ok (.istore 5, 2) := dec_54 (bt_32 (i := 1) rfl) (bt_32 (i := 2) rfl) rfl
theorem dW_2051 : decode code 2051 = .ok (.aload_n 2, 1) := dec_44 (bt_32 (i := 3) rfl)
theorem dW_2052 : decode code 2052 = .ok (.aload_n 0, 1) := dec_42 (bt_32 (i := 4) rfl)
theorem dW_2053 : decode code 2053 = .ok (.iload 4, 2) := dec_21 (bt_32 (i := 5) rfl) (bt_32 (i := 6) rfl) rfl
theorem dW_2055 : decode code 2055 = .ok (.iconst 1, 1) := dec_4 (bt_32 (i := 7) rfl)
theorem dW_2056 : decode code 2056 = .ok (.iadd, 1) := dec_96 (bt_32 (i := 8) rfl)
theorem dW_2057 : decode code 2057 = .ok (.iaload, 1) := dec_46 (bt_32 (i := 9) rfl)
theorem dW_2058 : decode code 2058 = .ok (.aload_n 0, 1) := dec_42 (bt_32 (i := 10) rfl)
theorem dW_2059 : decode code 2059 = .ok (.iload 4, 2) := dec_21 (bt_32 (i := 11) rfl) (bt_32 (i := 12) rfl) rfl
theorem dW_2061 : decode code 2061 = .ok (.iconst 2, 1) := dec_5 (bt_32 (i := 13) rfl)
theorem dW_2062 : decode code 2062 = .ok (.iadd, 1) := dec_96 (bt_32 (i := 14) rfl)
theorem dW_2063 : decode code 2063 = .ok (.iaload, 1) := dec_46 (bt_32 (i := 15) rfl)
theorem dW_2064 : decode code 2064 = .ok (.invokevirtual 312, 3) := dec_182 (bt_32 (i := 16) rfl) (bt_32 (i := 17) rfl) (bt_32 (i := 18) rfl) rfl
theorem dW_2067 : decode code 2067 = .ok (.istore 6, 2) := dec_54 (bt_32 (i := 19) rfl) (bt_32 (i := 20) rfl) rfl
theorem dW_2069 : decode code 2069 = .ok (.goto 287, 3) := dec_167 (bt_32 (i := 21) rfl) (bt_32 (i := 22) rfl) (bt_32 (i := 23) rfl) (by decide +kernel)
theorem dW_2072 : decode code 2072 = .ok (.aload_n 1, 1) := dec_43 (bt_32 (i := 24) rfl)
theorem dW_2073 : decode code 2073 = .ok (.aload_n 0, 1) := dec_42 (bt_32 (i := 25) rfl)
theorem dW_2074 : decode code 2074 = .ok (.iload 4, 2) := dec_21 (bt_32 (i := 26) rfl) (bt_32 (i := 27) rfl) rfl
theorem dW_2076 : decode code 2076 = .ok (.iconst 1, 1) := dec_4 (bt_32 (i := 28) rfl)
theorem dW_2077 : decode code 2077 = .ok (.iadd, 1) := dec_96 (bt_32 (i := 29) rfl)
theorem dW_2078 : decode code 2078 = .ok (.iaload, 1) := dec_46 (bt_32 (i := 30) rfl)
theorem dW_2079 : decode code 2079 = .ok (.ifCond .eq 7, 3) := dec_153 (bt_32 (i := 31) rfl) (bt_32 (i := 32) rfl) (bt_32 (i := 33) rfl) (by decide +kernel)
theorem dW_2082 : decode code 2082 = .ok (.iconst 1, 1) := dec_4 (bt_32 (i := 34) rfl)
theorem dW_2083 : decode code 2083 = .ok (.goto 4, 3) := dec_167 (bt_32 (i := 35) rfl) (bt_32 (i := 36) rfl) (bt_32 (i := 37) rfl) (by decide +kernel)
theorem dW_2086 : decode code 2086 = .ok (.iconst 0, 1) := dec_3 (bt_32 (i := 38) rfl)
theorem dW_2087 : decode code 2087 = .ok (.invokevirtual 313, 3) := dec_182 (bt_32 (i := 39) rfl) (bt_32 (i := 40) rfl) (bt_32 (i := 41) rfl) rfl
theorem dW_2090 : decode code 2090 = .ok (.pop, 1) := dec_87 (bt_32 (i := 42) rfl)
theorem dW_2091 : decode code 2091 = .ok (.aload_n 2, 1) := dec_44 (bt_32 (i := 43) rfl)
theorem dW_2092 : decode code 2092 = .ok (.aload_n 0, 1) := dec_42 (bt_32 (i := 44) rfl)
theorem dW_2093 : decode code 2093 = .ok (.iload 4, 2) := dec_21 (bt_32 (i := 45) rfl) (bt_32 (i := 46) rfl) rfl
theorem dW_2095 : decode code 2095 = .ok (.iconst 1, 1) := dec_4 (bt_32 (i := 47) rfl)
theorem dW_2096 : decode code 2096 = .ok (.iadd, 1) := dec_96 (bt_32 (i := 48) rfl)
theorem dW_2097 : decode code 2097 = .ok (.iaload, 1) := dec_46 (bt_32 (i := 49) rfl)
theorem dW_2098 : decode code 2098 = .ok (.ifCond .eq 7, 3) := dec_153 (bt_32 (i := 50) rfl) (bt_32 (i := 51) rfl) (bt_32 (i := 52) rfl) (by decide +kernel)
theorem dW_2101 : decode code 2101 = .ok (.iconst 1, 1) := dec_4 (bt_32 (i := 53) rfl)
theorem dW_2102 : decode code 2102 = .ok (.goto 4, 3) := dec_167 (bt_32 (i := 54) rfl) (bt_32 (i := 55) rfl) (bt_32 (i := 56) rfl) (by decide +kernel)
theorem dW_2105 : decode code 2105 = .ok (.iconst 0, 1) := dec_3 (bt_32 (i := 57) rfl)
theorem dW_2106 : decode code 2106 = .ok (.invokevirtual 317, 3) := dec_182 (bt_32 (i := 58) rfl) (bt_32 (i := 59) rfl) (bt_32 (i := 60) rfl) rfl
theorem dW_2109 : decode code 2109 = .ok (.pop, 1) := dec_87 (bt_32 (i := 61) rfl)
theorem dW_2110 : decode code 2110 = .ok (.goto 246, 3) := dec_167 (bt_32 (i := 62) rfl) (bt_32 (i := 63) rfl) (bt_33 (i := 0) rfl) (by decide +kernel)
theorem dW_2113 : decode code 2113 = .ok (.aload_n 1, 1) := dec_43 (bt_33 (i := 1) rfl)
theorem dW_2114 : decode code 2114 = .ok (.aload_n 0, 1) := dec_42 (bt_33 (i := 2) rfl)
theorem dW_2115 : decode code 2115 = .ok (.iload 4, 2) := dec_21 (bt_33 (i := 3) rfl) (bt_33 (i := 4) rfl) rfl
theorem dW_2117 : decode code 2117 = .ok (.iconst 1, 1) := dec_4 (bt_33 (i := 5) rfl)
theorem dW_2118 : decode code 2118 = .ok (.iadd, 1) := dec_96 (bt_33 (i := 6) rfl)
theorem dW_2119 : decode code 2119 = .ok (.iaload, 1) := dec_46 (bt_33 (i := 7) rfl)
theorem dW_2120 : decode code 2120 = .ok (.aload_n 0, 1) := dec_42 (bt_33 (i := 8) rfl)
theorem dW_2121 : decode code 2121 = .ok (.iload 4, 2) := dec_21 (bt_33 (i := 9) rfl) (bt_33 (i := 10) rfl) rfl
theorem dW_2123 : decode code 2123 = .ok (.iconst 2, 1) := dec_5 (bt_33 (i := 11) rfl)
theorem dW_2124 : decode code 2124 = .ok (.iadd, 1) := dec_96 (bt_33 (i := 12) rfl)
theorem dW_2125 : decode code 2125 = .ok (.iaload, 1) := dec_46 (bt_33 (i := 13) rfl)
theorem dW_2126 : decode code 2126 = .ok (.ifCond .eq 7, 3) := dec_153 (bt_33 (i := 14) rfl) (bt_33 (i := 15) rfl) (bt_33 (i := 16) rfl) (by decide +kernel)
theorem dW_2129 : decode code 2129 = .ok (.iconst 1, 1) := dec_4 (bt_33 (i := 17) rfl)
theorem dW_2130 : decode code 2130 = .ok (.goto 4, 3) := dec_167 (bt_33 (i := 18) rfl) (bt_33 (i := 19) rfl) (bt_33 (i := 20) rfl) (by decide +kernel)
theorem dW_2133 : decode code 2133 = .ok (.iconst 0, 1) := dec_3 (bt_33 (i := 21) rfl)
theorem dW_2134 : decode code 2134 = .ok (.aload_n 3, 1) := dec_45 (bt_33 (i := 22) rfl)
theorem dW_2135 : decode code 2135 = .ok (.invokestatic 318, 3) := dec_184 (bt_33 (i := 23) rfl) (bt_33 (i := 24) rfl) (bt_33 (i := 25) rfl) rfl
theorem dW_2138 : decode code 2138 = .ok (.istore 5, 2) := dec_54 (bt_33 (i := 26) rfl) (bt_33 (i := 27) rfl) rfl
theorem dW_2140 : decode code 2140 = .ok (.aload_n 2, 1) := dec_44 (bt_33 (i := 28) rfl)
theorem dW_2141 : decode code 2141 = .ok (.aload_n 0, 1) := dec_42 (bt_33 (i := 29) rfl)
theorem dW_2142 : decode code 2142 = .ok (.iload 4, 2) := dec_21 (bt_33 (i := 30) rfl) (bt_33 (i := 31) rfl) rfl
theorem dW_2144 : decode code 2144 = .ok (.iconst 1, 1) := dec_4 (bt_33 (i := 32) rfl)
theorem dW_2145 : decode code 2145 = .ok (.iadd, 1) := dec_96 (bt_33 (i := 33) rfl)
theorem dW_2146 : decode code 2146 = .ok (.iaload, 1) := dec_46 (bt_33 (i := 34) rfl)
theorem dW_2147 : decode code 2147 = .ok (.aload_n 0, 1) := dec_42 (bt_33 (i := 35) rfl)
theorem dW_2148 : decode code 2148 = .ok (.iload 4, 2) := dec_21 (bt_33 (i := 36) rfl) (bt_33 (i := 37) rfl) rfl
theorem dW_2150 : decode code 2150 = .ok (.iconst 2, 1) := dec_5 (bt_33 (i := 38) rfl)
theorem dW_2151 : decode code 2151 = .ok (.iadd, 1) := dec_96 (bt_33 (i := 39) rfl)
theorem dW_2152 : decode code 2152 = .ok (.iaload, 1) := dec_46 (bt_33 (i := 40) rfl)
theorem dW_2153 : decode code 2153 = .ok (.ifCond .eq 7, 3) := dec_153 (bt_33 (i := 41) rfl) (bt_33 (i := 42) rfl) (bt_33 (i := 43) rfl) (by decide +kernel)
theorem dW_2156 : decode code 2156 = .ok (.iconst 1, 1) := dec_4 (bt_33 (i := 44) rfl)
theorem dW_2157 : decode code 2157 = .ok (.goto 4, 3) := dec_167 (bt_33 (i := 45) rfl) (bt_33 (i := 46) rfl) (bt_33 (i := 47) rfl) (by decide +kernel)
theorem dW_2160 : decode code 2160 = .ok (.iconst 0, 1) := dec_3 (bt_33 (i := 48) rfl)
theorem dW_2161 : decode code 2161 = .ok (.invokevirtual 320, 3) := dec_182 (bt_33 (i := 49) rfl) (bt_33 (i := 50) rfl) (bt_33 (i := 51) rfl) rfl
theorem dW_2164 : decode code 2164 = .ok (.astore 6, 2) := dec_58 (bt_33 (i := 52) rfl) (bt_33 (i := 53) rfl) rfl
theorem dW_2166 : decode code 2166 = .ok (.goto 190, 3) := dec_167 (bt_33 (i := 54) rfl) (bt_33 (i := 55) rfl) (bt_33 (i := 56) rfl) (by decide +kernel)
theorem dW_2169 : decode code 2169 = .ok (.aload_n 1, 1) := dec_43 (bt_33 (i := 57) rfl)
theorem dW_2170 : decode code 2170 = .ok (.aload_n 0, 1) := dec_42 (bt_33 (i := 58) rfl)
theorem dW_2171 : decode code 2171 = .ok (.iload 4, 2) := dec_21 (bt_33 (i := 59) rfl) (bt_33 (i := 60) rfl) rfl
theorem dW_2173 : decode code 2173 = .ok (.iconst 1, 1) := dec_4 (bt_33 (i := 61) rfl)
theorem dW_2174 : decode code 2174 = .ok (.iadd, 1) := dec_96 (bt_33 (i := 62) rfl)
theorem dW_2175 : decode code 2175 = .ok (.iaload, 1) := dec_46 (bt_33 (i := 63) rfl)
theorem dW_2176 : decode code 2176 = .ok (.aload_n 3, 1) := dec_45 (bt_34 (i := 0) rfl)
theorem dW_2177 : decode code 2177 = .ok (.invokestatic 321, 3) := dec_184 (bt_34 (i := 1) rfl) (bt_34 (i := 2) rfl) (bt_34 (i := 3) rfl) rfl
theorem dW_2180 : decode code 2180 = .ok (.istore 5, 2) := dec_54 (bt_34 (i := 4) rfl) (bt_34 (i := 5) rfl) rfl
theorem dW_2182 : decode code 2182 = .ok (.aload_n 2, 1) := dec_44 (bt_34 (i := 6) rfl)
theorem dW_2183 : decode code 2183 = .ok (.aload_n 0, 1) := dec_42 (bt_34 (i := 7) rfl)
theorem dW_2184 : decode code 2184 = .ok (.iload 4, 2) := dec_21 (bt_34 (i := 8) rfl) (bt_34 (i := 9) rfl) rfl
theorem dW_2186 : decode code 2186 = .ok (.iconst 1, 1) := dec_4 (bt_34 (i := 10) rfl)
theorem dW_2187 : decode code 2187 = .ok (.iadd, 1) := dec_96 (bt_34 (i := 11) rfl)
theorem dW_2188 : decode code 2188 = .ok (.iaload, 1) := dec_46 (bt_34 (i := 12) rfl)
theorem dW_2189 : decode code 2189 = .ok (.invokevirtual 323, 3) := dec_182 (bt_34 (i := 13) rfl) (bt_34 (i := 14) rfl) (bt_34 (i := 15) rfl) rfl
theorem dW_2192 : decode code 2192 = .ok (.istore 6, 2) := dec_54 (bt_34 (i := 16) rfl) (bt_34 (i := 17) rfl) rfl
theorem dW_2194 : decode code 2194 = .ok (.goto 162, 3) := dec_167 (bt_34 (i := 18) rfl) (bt_34 (i := 19) rfl) (bt_34 (i := 20) rfl) (by decide +kernel)
theorem dW_2197 : decode code 2197 = .ok (.aload_n 1, 1) := dec_43 (bt_34 (i := 21) rfl)
theorem dW_2198 : decode code 2198 = .ok (.aload_n 0, 1) := dec_42 (bt_34 (i := 22) rfl)
theorem dW_2199 : decode code 2199 = .ok (.iload 4, 2) := dec_21 (bt_34 (i := 23) rfl) (bt_34 (i := 24) rfl) rfl
theorem dW_2201 : decode code 2201 = .ok (.iconst 1, 1) := dec_4 (bt_34 (i := 25) rfl)
theorem dW_2202 : decode code 2202 = .ok (.iadd, 1) := dec_96 (bt_34 (i := 26) rfl)
theorem dW_2203 : decode code 2203 = .ok (.iaload, 1) := dec_46 (bt_34 (i := 27) rfl)
theorem dW_2204 : decode code 2204 = .ok (.aload_n 0, 1) := dec_42 (bt_34 (i := 28) rfl)
theorem dW_2205 : decode code 2205 = .ok (.iload 4, 2) := dec_21 (bt_34 (i := 29) rfl) (bt_34 (i := 30) rfl) rfl
theorem dW_2207 : decode code 2207 = .ok (.iconst 2, 1) := dec_5 (bt_34 (i := 31) rfl)
theorem dW_2208 : decode code 2208 = .ok (.iadd, 1) := dec_96 (bt_34 (i := 32) rfl)
theorem dW_2209 : decode code 2209 = .ok (.iaload, 1) := dec_46 (bt_34 (i := 33) rfl)
theorem dW_2210 : decode code 2210 = .ok (.aload_n 0, 1) := dec_42 (bt_34 (i := 34) rfl)
theorem dW_2211 : decode code 2211 = .ok (.iload 4, 2) := dec_21 (bt_34 (i := 35) rfl) (bt_34 (i := 36) rfl) rfl
theorem dW_2213 : decode code 2213 = .ok (.iconst 3, 1) := dec_6 (bt_34 (i := 37) rfl)
theorem dW_2214 : decode code 2214 = .ok (.iadd, 1) := dec_96 (bt_34 (i := 38) rfl)
theorem dW_2215 : decode code 2215 = .ok (.iaload, 1) := dec_46 (bt_34 (i := 39) rfl)
theorem dW_2216 : decode code 2216 = .ok (.aload_n 3, 1) := dec_45 (bt_34 (i := 40) rfl)
theorem dW_2217 : decode code 2217 = .ok (.invokestatic 324, 3) := dec_184 (bt_34 (i := 41) rfl) (bt_34 (i := 42) rfl) (bt_34 (i := 43) rfl) rfl
theorem dW_2220 : decode code 2220 = .ok (.istore 5, 2) := dec_54 (bt_34 (i := 44) rfl) (bt_34 (i := 45) rfl) rfl
theorem dW_2222 : decode code 2222 = .ok (.aload_n 2, 1) := dec_44 (bt_34 (i := 46) rfl)
theorem dW_2223 : decode code 2223 = .ok (.aload_n 0, 1) := dec_42 (bt_34 (i := 47) rfl)
theorem dW_2224 : decode code 2224 = .ok (.iload 4, 2) := dec_21 (bt_34 (i := 48) rfl) (bt_34 (i := 49) rfl) rfl
theorem dW_2226 : decode code 2226 = .ok (.iconst 1, 1) := dec_4 (bt_34 (i := 50) rfl)
theorem dW_2227 : decode code 2227 = .ok (.iadd, 1) := dec_96 (bt_34 (i := 51) rfl)
theorem dW_2228 : decode code 2228 = .ok (.iaload, 1) := dec_46 (bt_34 (i := 52) rfl)
theorem dW_2229 : decode code 2229 = .ok (.aload_n 0, 1) := dec_42 (bt_34 (i := 53) rfl)
theorem dW_2230 : decode code 2230 = .ok (.iload 4, 2) := dec_21 (bt_34 (i := 54) rfl) (bt_34 (i := 55) rfl) rfl
theorem dW_2232 : decode code 2232 = .ok (.iconst 2, 1) := dec_5 (bt_34 (i := 56) rfl)
theorem dW_2233 : decode code 2233 = .ok (.iadd, 1) := dec_96 (bt_34 (i := 57) rfl)
theorem dW_2234 : decode code 2234 = .ok (.iaload, 1) := dec_46 (bt_34 (i := 58) rfl)
theorem dW_2235 : decode code 2235 = .ok (.aload_n 0, 1) := dec_42 (bt_34 (i := 59) rfl)
theorem dW_2236 : decode code 2236 = .ok (.iload 4, 2) := dec_21 (bt_34 (i := 60) rfl) (bt_34 (i := 61) rfl) rfl
theorem dW_2238 : decode code 2238 = .ok (.iconst 3, 1) := dec_6 (bt_34 (i := 62) rfl)
theorem dW_2239 : decode code 2239 = .ok (.iadd, 1) := dec_96 (bt_34 (i := 63) rfl)
theorem dW_2240 : decode code 2240 = .ok (.iaload, 1) := dec_46 (bt_35 (i := 0) rfl)
theorem dW_2241 : decode code 2241 = .ok (.invokevirtual 326, 3) := dec_182 (bt_35 (i := 1) rfl) (bt_35 (i := 2) rfl) (bt_35 (i := 3) rfl) rfl
theorem dW_2244 : decode code 2244 = .ok (.istore 6, 2) := dec_54 (bt_35 (i := 4) rfl) (bt_35 (i := 5) rfl) rfl
theorem dW_2246 : decode code 2246 = .ok (.goto 110, 3) := dec_167 (bt_35 (i := 6) rfl) (bt_35 (i := 7) rfl) (bt_35 (i := 8) rfl) (by decide +kernel)
theorem dW_2249 : decode code 2249 = .ok (.aload_n 1, 1) := dec_43 (bt_35 (i := 9) rfl)
theorem dW_2250 : decode code 2250 = .ok (.aload_n 0, 1) := dec_42 (bt_35 (i := 10) rfl)
theorem dW_2251 : decode code 2251 = .ok (.iload 4, 2) := dec_21 (bt_35 (i := 11) rfl) (bt_35 (i := 12) rfl) rfl
theorem dW_2253 : decode code 2253 = .ok (.iconst 1, 1) := dec_4 (bt_35 (i := 13) rfl)
theorem dW_2254 : decode code 2254 = .ok (.iadd, 1) := dec_96 (bt_35 (i := 14) rfl)
theorem dW_2255 : decode code 2255 = .ok (.iaload, 1) := dec_46 (bt_35 (i := 15) rfl)
theorem dW_2256 : decode code 2256 = .ok (.aload_n 0, 1) := dec_42 (bt_35 (i := 16) rfl)
theorem dW_2257 : decode code 2257 = .ok (.iload 4, 2) := dec_21 (bt_35 (i := 17) rfl) (bt_35 (i := 18) rfl) rfl
theorem dW_2259 : decode code 2259 = .ok (.iconst 2, 1) := dec_5 (bt_35 (i := 19) rfl)
theorem dW_2260 : decode code 2260 = .ok (.iadd, 1) := dec_96 (bt_35 (i := 20) rfl)
theorem dW_2261 : decode code 2261 = .ok (.iaload, 1) := dec_46 (bt_35 (i := 21) rfl)
theorem dW_2262 : decode code 2262 = .ok (.aload_n 3, 1) := dec_45 (bt_35 (i := 22) rfl)
theorem dW_2263 : decode code 2263 = .ok (.invokestatic 327, 3) := dec_184 (bt_35 (i := 23) rfl) (bt_35 (i := 24) rfl) (bt_35 (i := 25) rfl) rfl
theorem dW_2266 : decode code 2266 = .ok (.istore 5, 2) := dec_54 (bt_35 (i := 26) rfl) (bt_35 (i := 27) rfl) rfl
theorem dW_2268 : decode code 2268 = .ok (.aload_n 2, 1) := dec_44 (bt_35 (i := 28) rfl)
theorem dW_2269 : decode code 2269 = .ok (.aload_n 0, 1) := dec_42 (bt_35 (i := 29) rfl)
theorem dW_2270 : decode code 2270 = .ok (.iload 4, 2) := dec_21 (bt_35 (i := 30) rfl) (bt_35 (i := 31) rfl) rfl
theorem dW_2272 : decode code 2272 = .ok (.iconst 1, 1) := dec_4 (bt_35 (i := 32) rfl)
theorem dW_2273 : decode code 2273 = .ok (.iadd, 1) := dec_96 (bt_35 (i := 33) rfl)
theorem dW_2274 : decode code 2274 = .ok (.iaload, 1) := dec_46 (bt_35 (i := 34) rfl)
theorem dW_2275 : decode code 2275 = .ok (.aload_n 0, 1) := dec_42 (bt_35 (i := 35) rfl)
theorem dW_2276 : decode code 2276 = .ok (.iload 4, 2) := dec_21 (bt_35 (i := 36) rfl) (bt_35 (i := 37) rfl) rfl
theorem dW_2278 : decode code 2278 = .ok (.iconst 2, 1) := dec_5 (bt_35 (i := 38) rfl)
theorem dW_2279 : decode code 2279 = .ok (.iadd, 1) := dec_96 (bt_35 (i := 39) rfl)
theorem dW_2280 : decode code 2280 = .ok (.iaload, 1) := dec_46 (bt_35 (i := 40) rfl)
theorem dW_2281 : decode code 2281 = .ok (.invokevirtual 329, 3) := dec_182 (bt_35 (i := 41) rfl) (bt_35 (i := 42) rfl) (bt_35 (i := 43) rfl) rfl
theorem dW_2284 : decode code 2284 = .ok (.istore 6, 2) := dec_54 (bt_35 (i := 44) rfl) (bt_35 (i := 45) rfl) rfl
theorem dW_2286 : decode code 2286 = .ok (.goto 70, 3) := dec_167 (bt_35 (i := 46) rfl) (bt_35 (i := 47) rfl) (bt_35 (i := 48) rfl) (by decide +kernel)
theorem dW_2289 : decode code 2289 = .ok (.aload_n 1, 1) := dec_43 (bt_35 (i := 49) rfl)
theorem dW_2290 : decode code 2290 = .ok (.aload_n 0, 1) := dec_42 (bt_35 (i := 50) rfl)
theorem dW_2291 : decode code 2291 = .ok (.iload 4, 2) := dec_21 (bt_35 (i := 51) rfl) (bt_35 (i := 52) rfl) rfl
theorem dW_2293 : decode code 2293 = .ok (.iconst 1, 1) := dec_4 (bt_35 (i := 53) rfl)
theorem dW_2294 : decode code 2294 = .ok (.iadd, 1) := dec_96 (bt_35 (i := 54) rfl)
theorem dW_2295 : decode code 2295 = .ok (.iaload, 1) := dec_46 (bt_35 (i := 55) rfl)
theorem dW_2296 : decode code 2296 = .ok (.aload_n 3, 1) := dec_45 (bt_35 (i := 56) rfl)
theorem dW_2297 : decode code 2297 = .ok (.invokestatic 330, 3) := dec_184 (bt_35 (i := 57) rfl) (bt_35 (i := 58) rfl) (bt_35 (i := 59) rfl) rfl
theorem dW_2300 : decode code 2300 = .ok (.istore 5, 2) := dec_54 (bt_35 (i := 60) rfl) (bt_35 (i := 61) rfl) rfl
theorem dW_2302 : decode code 2302 = .ok (.aload_n 2, 1) := dec_44 (bt_35 (i := 62) rfl)
theorem dW_2303 : decode code 2303 = .ok (.aload_n 0, 1) := dec_42 (bt_35 (i := 63) rfl)
theorem dW_2304 : decode code 2304 = .ok (.iload 4, 2) := dec_21 (bt_36 (i := 0) rfl) (bt_36 (i := 1) rfl) rfl
theorem dW_2306 : decode code 2306 = .ok (.iconst 1, 1) := dec_4 (bt_36 (i := 2) rfl)
theorem dW_2307 : decode code 2307 = .ok (.iadd, 1) := dec_96 (bt_36 (i := 3) rfl)
theorem dW_2308 : decode code 2308 = .ok (.iaload, 1) := dec_46 (bt_36 (i := 4) rfl)
theorem dW_2309 : decode code 2309 = .ok (.invokevirtual 332, 3) := dec_182 (bt_36 (i := 5) rfl) (bt_36 (i := 6) rfl) (bt_36 (i := 7) rfl) rfl
theorem dW_2312 : decode code 2312 = .ok (.istore 6, 2) := dec_54 (bt_36 (i := 8) rfl) (bt_36 (i := 9) rfl) rfl
theorem dW_2314 : decode code 2314 = .ok (.goto 42, 3) := dec_167 (bt_36 (i := 10) rfl) (bt_36 (i := 11) rfl) (bt_36 (i := 12) rfl) (by decide +kernel)
theorem dW_2317 : decode code 2317 = .ok (.aload_n 1, 1) := dec_43 (bt_36 (i := 13) rfl)
theorem dW_2318 : decode code 2318 = .ok (.invokevirtual 333, 3) := dec_182 (bt_36 (i := 14) rfl) (bt_36 (i := 15) rfl) (bt_36 (i := 16) rfl) rfl
theorem dW_2321 : decode code 2321 = .ok (.pop, 1) := dec_87 (bt_36 (i := 17) rfl)
theorem dW_2322 : decode code 2322 = .ok (.aload_n 2, 1) := dec_44 (bt_36 (i := 18) rfl)
theorem dW_2323 : decode code 2323 = .ok (.invokevirtual 336, 3) := dec_182 (bt_36 (i := 19) rfl) (bt_36 (i := 20) rfl) (bt_36 (i := 21) rfl) rfl
theorem dW_2326 : decode code 2326 = .ok (.pop, 1) := dec_87 (bt_36 (i := 22) rfl)
theorem dW_2327 : decode code 2327 = .ok (.goto 29, 3) := dec_167 (bt_36 (i := 23) rfl) (bt_36 (i := 24) rfl) (bt_36 (i := 25) rfl) (by decide +kernel)
theorem dW_2330 : decode code 2330 = .ok (.aload_n 1, 1) := dec_43 (bt_36 (i := 26) rfl)
theorem dW_2331 : decode code 2331 = .ok (.invokevirtual 337, 3) := dec_182 (bt_36 (i := 27) rfl) (bt_36 (i := 28) rfl) (bt_36 (i := 29) rfl) rfl
theorem dW_2334 : decode code 2334 = .ok (.pop, 1) := dec_87 (bt_36 (i := 30) rfl)
theorem dW_2335 : decode code 2335 = .ok (.aload_n 2, 1) := dec_44 (bt_36 (i := 31) rfl)
theorem dW_2336 : decode code 2336 = .ok (.invokevirtual 341, 3) := dec_182 (bt_36 (i := 32) rfl) (bt_36 (i := 33) rfl) (bt_36 (i := 34) rfl) rfl
theorem dW_2339 : decode code 2339 = .ok (.pop, 1) := dec_87 (bt_36 (i := 35) rfl)
theorem dW_2340 : decode code 2340 = .ok (.goto 16, 3) := dec_167 (bt_36 (i := 36) rfl) (bt_36 (i := 37) rfl) (bt_36 (i := 38) rfl) (by decide +kernel)
theorem dW_2343 : decode code 2343 = .ok (.aload_n 1, 1) := dec_43 (bt_36 (i := 39) rfl)
theorem dW_2344 : decode code 2344 = .ok (.invokevirtual 342, 3) := dec_182 (bt_36 (i := 40) rfl) (bt_36 (i := 41) rfl) (bt_36 (i := 42) rfl) rfl
theorem dW_2347 : decode code 2347 = .ok (.pop2, 1) := dec_88 (bt_36 (i := 43) rfl)
theorem dW_2348 : decode code 2348 = .ok (.aload_n 2, 1) := dec_44 (bt_36 (i := 44) rfl)
theorem dW_2349 : decode code 2349 = .ok (.invokevirtual 346, 3) := dec_182 (bt_36 (i := 45) rfl) (bt_36 (i := 46) rfl) (bt_36 (i := 47) rfl) rfl
theorem dW_2352 : decode code 2352 = .ok (.pop2, 1) := dec_88 (bt_36 (i := 48) rfl)
theorem dW_2353 : decode code 2353 = .ok (.goto 3, 3) := dec_167 (bt_36 (i := 49) rfl) (bt_36 (i := 50) rfl) (bt_36 (i := 51) rfl) (by decide +kernel)
theorem dW_2356 : decode code 2356 = .ok (.iinc 4 5, 3) := by decide +kernel
theorem dW_2359 : decode code 2359 = .ok (.goto (-2332), 3) := dec_167 (bt_36 (i := 55) rfl) (bt_36 (i := 56) rfl) (bt_36 (i := 57) rfl) (by decide +kernel)
theorem dW_2362 : decode code 2362 = .ok (.iconst 1, 1) := dec_4 (bt_36 (i := 58) rfl)
theorem dW_2363 : decode code 2363 = .ok (.ireturn, 1) := dec_172 (bt_36 (i := 59) rfl)
