theorem dL_isCell_0 : decode cL_isCell 0 = .ok (.iload_n 0, 1) := by decide +kernel
theorem dL_isCell_1 : decode cL_isCell 1 = .ok (.ifCond .lt 23, 3) := by decide +kernel
theorem dL_isCell_4 : decode cL_isCell 4 = .ok (.iload_n 0, 1) := by decide +kernel
theorem dL_isCell_5 : decode cL_isCell 5 = .ok (.bipush 6, 2) := by decide +kernel
theorem dL_isCell_7 : decode cL_isCell 7 = .ok (.if_icmp .ge 17, 3) := by decide +kernel
theorem dL_isCell_10 : decode cL_isCell 10 = .ok (.iload_n 1, 1) := by decide +kernel
theorem dL_isCell_11 : decode cL_isCell 11 = .ok (.ifCond .lt 13, 3) := by decide +kernel
theorem dL_isCell_14 : decode cL_isCell 14 = .ok (.iload_n 1, 1) := by decide +kernel
theorem dL_isCell_15 : decode cL_isCell 15 = .ok (.bipush 8, 2) := by decide +kernel
theorem dL_isCell_17 : decode cL_isCell 17 = .ok (.if_icmp .ge 7, 3) := by decide +kernel
theorem dL_isCell_20 : decode cL_isCell 20 = .ok (.iconst 1, 1) := by decide +kernel
theorem dL_isCell_21 : decode cL_isCell 21 = .ok (.goto 4, 3) := by decide +kernel
theorem dL_isCell_24 : decode cL_isCell 24 = .ok (.iconst 0, 1) := by decide +kernel
theorem dL_isCell_25 : decode cL_isCell 25 = .ok (.ireturn, 1) := by decide +kernel
theorem dL_made_0 : decode cL_made 0 = .ok (.bipush 8, 2) := by decide +kernel
theorem dL_made_2 : decode cL_made 2 = .ok (.iload_n 3, 1) := by decide +kernel
theorem dL_made_3 : decode cL_made 3 = .ok (.aload_n 0, 1) := by decide +kernel
theorem dL_made_4 : decode cL_made 4 = .ok (.iload_n 2, 1) := by decide +kernel
theorem dL_made_5 : decode cL_made 5 = .ok (.iconst 1, 1) := by decide +kernel
theorem dL_made_6 : decode cL_made 6 = .ok (.iadd, 1) := by decide +kernel
theorem dL_made_7 : decode cL_made 7 = .ok (.iaload, 1) := by decide +kernel
theorem dL_made_8 : decode cL_made 8 = .ok (.iadd, 1) := by decide +kernel
theorem dL_made_9 : decode cL_made 9 = .ok (.imul, 1) := by decide +kernel
theorem dL_made_10 : decode cL_made 10 = .ok (.iload 4, 2) := by decide +kernel
theorem dL_made_12 : decode cL_made 12 = .ok (.iadd, 1) := by decide +kernel
theorem dL_made_13 : decode cL_made 13 = .ok (.aload_n 0, 1) := by decide +kernel
theorem dL_made_14 : decode cL_made 14 = .ok (.iload_n 2, 1) := by decide +kernel
theorem dL_made_15 : decode cL_made 15 = .ok (.iconst 2, 1) := by decide +kernel
theorem dL_made_16 : decode cL_made 16 = .ok (.iadd, 1) := by decide +kernel
theorem dL_made_17 : decode cL_made 17 = .ok (.iaload, 1) := by decide +kernel
theorem dL_made_18 : decode cL_made 18 = .ok (.iadd, 1) := by decide +kernel
theorem dL_made_19 : decode cL_made 19 = .ok (.istore 5, 2) := by decide +kernel
theorem dL_made_21 : decode cL_made 21 = .ok (.aload_n 0, 1) := by decide +kernel
theorem dL_made_22 : decode cL_made 22 = .ok (.iload_n 2, 1) := by decide +kernel
theorem dL_made_23 : decode cL_made 23 = .ok (.iaload, 1) := by decide +kernel
theorem dL_made_24 : decode cL_made 24 = .ok (.bipush 115, 2) := by decide +kernel
theorem dL_made_26 : decode cL_made 26 = .ok (.if_icmp .ne 11, 3) := by decide +kernel
theorem dL_made_29 : decode cL_made 29 = .ok (.aload_n 0, 1) := by decide +kernel
theorem dL_made_30 : decode cL_made 30 = .ok (.iload_n 2, 1) := by decide +kernel
theorem dL_made_31 : decode cL_made 31 = .ok (.iconst 3, 1) := by decide +kernel
theorem dL_made_32 : decode cL_made 32 = .ok (.iadd, 1) := by decide +kernel
theorem dL_made_33 : decode cL_made 33 = .ok (.iaload, 1) := by decide +kernel
theorem dL_made_34 : decode cL_made 34 = .ok (.goto 33, 3) := by decide +kernel
theorem dL_made_37 : decode cL_made 37 = .ok (.aload_n 0, 1) := by decide +kernel
theorem dL_made_38 : decode cL_made 38 = .ok (.iload_n 2, 1) := by decide +kernel
theorem dL_made_39 : decode cL_made 39 = .ok (.iaload, 1) := by decide +kernel
theorem dL_made_40 : decode cL_made 40 = .ok (.bipush 97, 2) := by decide +kernel
theorem dL_made_42 : decode cL_made 42 = .ok (.if_icmp .ne 16, 3) := by decide +kernel
theorem dL_made_45 : decode cL_made 45 = .ok (.aload_n 1, 1) := by decide +kernel
theorem dL_made_46 : decode cL_made 46 = .ok (.iload 5, 2) := by decide +kernel
theorem dL_made_48 : decode cL_made 48 = .ok (.iaload, 1) := by decide +kernel
theorem dL_made_49 : decode cL_made 49 = .ok (.aload_n 0, 1) := by decide +kernel
theorem dL_made_50 : decode cL_made 50 = .ok (.iload_n 2, 1) := by decide +kernel
theorem dL_made_51 : decode cL_made 51 = .ok (.iconst 3, 1) := by decide +kernel
theorem dL_made_52 : decode cL_made 52 = .ok (.iadd, 1) := by decide +kernel
theorem dL_made_53 : decode cL_made 53 = .ok (.iaload, 1) := by decide +kernel
theorem dL_made_54 : decode cL_made 54 = .ok (.iadd, 1) := by decide +kernel
theorem dL_made_55 : decode cL_made 55 = .ok (.goto 12, 3) := by decide +kernel
theorem dL_made_58 : decode cL_made 58 = .ok (.aload_n 1, 1) := by decide +kernel
theorem dL_made_59 : decode cL_made 59 = .ok (.bipush 8, 2) := by decide +kernel
theorem dL_made_61 : decode cL_made 61 = .ok (.iload_n 3, 1) := by decide +kernel
theorem dL_made_62 : decode cL_made 62 = .ok (.imul, 1) := by decide +kernel
theorem dL_made_63 : decode cL_made 63 = .ok (.iload 4, 2) := by decide +kernel
theorem dL_made_65 : decode cL_made 65 = .ok (.iadd, 1) := by decide +kernel
theorem dL_made_66 : decode cL_made 66 = .ok (.iaload, 1) := by decide +kernel
theorem dL_made_67 : decode cL_made 67 = .ok (.ireturn, 1) := by decide +kernel
theorem dL_isDone_328 : decode cL_isDone 328 = .ok (.goto 5, 3) := by decide +kernel
theorem dL_isDone_331 : decode cL_isDone 331 = .ok (.iload 9, 2) := by decide +kernel
theorem dL_isDone_333 : decode cL_isDone 333 = .ok (.iastore, 1) := by decide +kernel
theorem dL_isDone_334 : decode cL_isDone 334 = .ok (.iload 10, 2) := by decide +kernel
theorem dL_isDone_336 : decode cL_isDone 336 = .ok (.ifCond .eq 14, 3) := by decide +kernel
theorem dL_isDone_339 : decode cL_isDone 339 = .ok (.aload_n 0, 1) := by decide +kernel
theorem dL_isDone_340 : decode cL_isDone 340 = .ok (.iload 7, 2) := by decide +kernel
theorem dL_isDone_342 : decode cL_isDone 342 = .ok (.invokestatic 181, 3) := by decide +kernel
theorem dL_isDone_345 : decode cL_isDone 345 = .ok (.iload 9, 2) := by decide +kernel
theorem dL_isDone_347 : decode cL_isDone 347 = .ok (.if_icmp .ne 7, 3) := by decide +kernel
theorem dL_isDone_350 : decode cL_isDone 350 = .ok (.iconst 1, 1) := by decide +kernel
theorem dL_isDone_351 : decode cL_isDone 351 = .ok (.goto 4, 3) := by decide +kernel
theorem dL_isDone_354 : decode cL_isDone 354 = .ok (.iconst 0, 1) := by decide +kernel
theorem dL_isDone_355 : decode cL_isDone 355 = .ok (.ireturn, 1) := by decide +kernel
theorem dL_isDone_356 : decode cL_isDone 356 = .ok (.aload_n 0, 1) := by decide +kernel
theorem dL_isDone_357 : decode cL_isDone 357 = .ok (.aload_n 1, 1) := by decide +kernel
theorem dL_isDone_358 : decode cL_isDone 358 = .ok (.iload 7, 2) := by decide +kernel
theorem dL_isDone_360 : decode cL_isDone 360 = .ok (.aload_n 3, 1) := by decide +kernel
theorem dL_isDone_361 : decode cL_isDone 361 = .ok (.iload 4, 2) := by decide +kernel
theorem dL_isDone_363 : decode cL_isDone 363 = .ok (.bipush 6, 2) := by decide +kernel
theorem dL_isDone_365 : decode cL_isDone 365 = .ok (.iadd, 1) := by decide +kernel
theorem dL_isDone_366 : decode cL_isDone 366 = .ok (.bipush 10, 2) := by decide +kernel
theorem dL_isDone_368 : decode cL_isDone 368 = .ok (.invokestatic 162, 3) := by decide +kernel
theorem dL_isDone_371 : decode cL_isDone 371 = .ok (.aload_n 3, 1) := by decide +kernel
theorem dL_isDone_372 : decode cL_isDone 372 = .ok (.iload 4, 2) := by decide +kernel
theorem dL_isDone_374 : decode cL_isDone 374 = .ok (.iconst 4, 1) := by decide +kernel
theorem dL_isDone_375 : decode cL_isDone 375 = .ok (.iadd, 1) := by decide +kernel
theorem dL_isDone_376 : decode cL_isDone 376 = .ok (.iconst 3, 1) := by decide +kernel
theorem dL_isDone_377 : decode cL_isDone 377 = .ok (.invokestatic 162, 3) := by decide +kernel
theorem dL_isDone_380 : decode cL_isDone 380 = .ok (.aload_n 3, 1) := by decide +kernel
theorem dL_isDone_381 : decode cL_isDone 381 = .ok (.iload 4, 2) := by decide +kernel
theorem dL_isDone_383 : decode cL_isDone 383 = .ok (.iconst 5, 1) := by decide +kernel
theorem dL_isDone_384 : decode cL_isDone 384 = .ok (.iadd, 1) := by decide +kernel
theorem dL_isDone_385 : decode cL_isDone 385 = .ok (.iconst 3, 1) := by decide +kernel
theorem dL_isDone_386 : decode cL_isDone 386 = .ok (.invokestatic 162, 3) := by decide +kernel
theorem dL_isDone_389 : decode cL_isDone 389 = .ok (.iload 5, 2) := by decide +kernel
theorem dL_isDone_391 : decode cL_isDone 391 = .ok (.iload 6, 2) := by decide +kernel
theorem dL_isDone_393 : decode cL_isDone 393 = .ok (.invokestatic 184, 3) := by decide +kernel
theorem dL_isDone_396 : decode cL_isDone 396 = .ok (.ireturn, 1) := by decide +kernel
theorem dL_isDone_397 : decode cL_isDone 397 = .ok (.aload_n 1, 1) := by decide +kernel
theorem dL_isDone_398 : decode cL_isDone 398 = .ok (.bipush 51, 2) := by decide +kernel
theorem dL_isDone_400 : decode cL_isDone 400 = .ok (.iaload, 1) := by decide +kernel
theorem dL_isDone_401 : decode cL_isDone 401 = .ok (.ifCond .ne 20, 3) := by decide +kernel
theorem dL_isDone_404 : decode cL_isDone 404 = .ok (.aload_n 0, 1) := by decide +kernel
theorem dL_isDone_405 : decode cL_isDone 405 = .ok (.iconst 0, 1) := by decide +kernel
theorem dL_isDone_406 : decode cL_isDone 406 = .ok (.iconst 0, 1) := by decide +kernel
theorem dL_isDone_407 : decode cL_isDone 407 = .ok (.invokestatic 188, 3) := by decide +kernel
theorem dL_isDone_410 : decode cL_isDone 410 = .ok (.ldc 17, 2) := by decide +kernel
theorem dL_isDone_412 : decode cL_isDone 412 = .ok (.if_icmp .ne 7, 3) := by decide +kernel
theorem dL_isDone_415 : decode cL_isDone 415 = .ok (.iconst 1, 1) := by decide +kernel
theorem dL_isDone_416 : decode cL_isDone 416 = .ok (.goto 4, 3) := by decide +kernel
theorem dL_isDone_419 : decode cL_isDone 419 = .ok (.iconst 0, 1) := by decide +kernel
theorem dL_isDone_420 : decode cL_isDone 420 = .ok (.ireturn, 1) := by decide +kernel
theorem dL_isDone_421 : decode cL_isDone 421 = .ok (.sipush 425, 3) := by decide +kernel
theorem dL_isDone_424 : decode cL_isDone 424 = .ok (.bipush 6, 2) := by decide +kernel
theorem dL_isDone_426 : decode cL_isDone 426 = .ok (.aload_n 3, 1) := by decide +kernel
theorem dL_isDone_427 : decode cL_isDone 427 = .ok (.iload 4, 2) := by decide +kernel
theorem dL_isDone_429 : decode cL_isDone 429 = .ok (.iconst 1, 1) := by decide +kernel
theorem dL_isDone_430 : decode cL_isDone 430 = .ok (.iadd, 1) := by decide +kernel
theorem dL_isDone_431 : decode cL_isDone 431 = .ok (.aload_n 1, 1) := by decide +kernel
theorem dL_isDone_432 : decode cL_isDone 432 = .ok (.bipush 51, 2) := by decide +kernel
theorem dL_isDone_434 : decode cL_isDone 434 = .ok (.iaload, 1) := by decide +kernel
theorem dL_isDone_435 : decode cL_isDone 435 = .ok (.invokestatic 162, 3) := by decide +kernel
theorem dL_isDone_438 : decode cL_isDone 438 = .ok (.imul, 1) := by decide +kernel
theorem dL_isDone_439 : decode cL_isDone 439 = .ok (.iadd, 1) := by decide +kernel
theorem dL_isDone_440 : decode cL_isDone 440 = .ok (.istore 9, 2) := by decide +kernel
theorem dL_isDone_442 : decode cL_isDone 442 = .ok (.aload_n 1, 1) := by decide +kernel
theorem dL_isDone_443 : decode cL_isDone 443 = .ok (.iload 9, 2) := by decide +kernel
theorem dL_isDone_445 : decode cL_isDone 445 = .ok (.iaload, 1) := by decide +kernel
theorem dL_isDone_446 : decode cL_isDone 446 = .ok (.istore 10, 2) := by decide +kernel
theorem dL_isDone_448 : decode cL_isDone 448 = .ok (.aload_n 1, 1) := by decide +kernel
theorem dL_isDone_449 : decode cL_isDone 449 = .ok (.iload 9, 2) := by decide +kernel
theorem dL_isDone_451 : decode cL_isDone 451 = .ok (.aload_n 3, 1) := by decide +kernel
theorem dL_isDone_452 : decode cL_isDone 452 = .ok (.iload 4, 2) := by decide +kernel
theorem dL_isDone_454 : decode cL_isDone 454 = .ok (.iconst 2, 1) := by decide +kernel
theorem dL_isDone_455 : decode cL_isDone 455 = .ok (.iadd, 1) := by decide +kernel
theorem dL_isDone_456 : decode cL_isDone 456 = .ok (.bipush 10, 2) := by decide +kernel
theorem dL_isDone_458 : decode cL_isDone 458 = .ok (.invokestatic 162, 3) := by decide +kernel
theorem dL_isDone_461 : decode cL_isDone 461 = .ok (.iastore, 1) := by decide +kernel
theorem dL_isDone_462 : decode cL_isDone 462 = .ok (.aload_n 0, 1) := by decide +kernel
theorem dL_isDone_463 : decode cL_isDone 463 = .ok (.iload 9, 2) := by decide +kernel
theorem dL_isDone_465 : decode cL_isDone 465 = .ok (.sipush 425, 3) := by decide +kernel
theorem dL_isDone_468 : decode cL_isDone 468 = .ok (.isub, 1) := by decide +kernel
theorem dL_isDone_469 : decode cL_isDone 469 = .ok (.bipush 6, 2) := by decide +kernel
theorem dL_isDone_471 : decode cL_isDone 471 = .ok (.idiv, 1) := by decide +kernel
theorem dL_isDone_472 : decode cL_isDone 472 = .ok (.aload_n 1, 1) := by decide +kernel
theorem dL_isDone_473 : decode cL_isDone 473 = .ok (.iload 9, 2) := by decide +kernel
theorem dL_isDone_475 : decode cL_isDone 475 = .ok (.iaload, 1) := by decide +kernel
theorem dL_isDone_476 : decode cL_isDone 476 = .ok (.invokestatic 188, 3) := by decide +kernel
theorem dL_isDone_479 : decode cL_isDone 479 = .ok (.iload 10, 2) := by decide +kernel
theorem dL_isDone_481 : decode cL_isDone 481 = .ok (.if_icmp .ne 7, 3) := by decide +kernel
theorem dL_isDone_484 : decode cL_isDone 484 = .ok (.iconst 1, 1) := by decide +kernel
theorem dL_isDone_485 : decode cL_isDone 485 = .ok (.goto 4, 3) := by decide +kernel
theorem dL_isDone_488 : decode cL_isDone 488 = .ok (.iconst 0, 1) := by decide +kernel
theorem dL_isDone_489 : decode cL_isDone 489 = .ok (.ireturn, 1) := by decide +kernel
theorem dL_isDone_490 : decode cL_isDone 490 = .ok (.aload_n 0, 1) := by decide +kernel
theorem dL_isDone_491 : decode cL_isDone 491 = .ok (.aload_n 1, 1) := by decide +kernel
theorem dL_isDone_492 : decode cL_isDone 492 = .ok (.aload_n 2, 1) := by decide +kernel
theorem dL_isDone_493 : decode cL_isDone 493 = .ok (.invokestatic 190, 3) := by decide +kernel
theorem dL_isDone_496 : decode cL_isDone 496 = .ok (.ireturn, 1) := by decide +kernel
theorem dL_isDone_497 : decode cL_isDone 497 = .ok (.aload_n 0, 1) := by decide +kernel
theorem dL_isDone_498 : decode cL_isDone 498 = .ok (.aload_n 1, 1) := by decide +kernel
theorem dL_isDone_499 : decode cL_isDone 499 = .ok (.aload_n 2, 1) := by decide +kernel
theorem dL_isDone_500 : decode cL_isDone 500 = .ok (.iload 7, 2) := by decide +kernel
theorem dL_isDone_502 : decode cL_isDone 502 = .ok (.iload 5, 2) := by decide +kernel
theorem dL_isDone_504 : decode cL_isDone 504 = .ok (.iload 6, 2) := by decide +kernel
theorem dL_isDone_506 : decode cL_isDone 506 = .ok (.invokestatic 194, 3) := by decide +kernel
theorem dL_isDone_509 : decode cL_isDone 509 = .ok (.ireturn, 1) := by decide +kernel
set_option maxRecDepth 20000 in
theorem ggL_begun_X7_init : GoodIn wsL_begun wsX7_init := goodIn_r _ [6, 7, 8, 9, 10, 11, 12, 13, 14, 15, 16, 17, 18, 19, 20, 21, 22, 23, 24, 25, 26, 27, 28, 29, 30, 31, 32, 33, 34, 35, 36, 37, 38, 39, 40, 41, 42, 43, 44, 45, 46, 47, 48, 49, 50, 51, 52, 53, 54, 55, 56, 57, 58, 59, 60, 61, 62, 63, 64, 65, 66, 67, 68, 69, 70, 71, 72, 73, 74, 75, 76, 77, 78, 79, 80, 81, 82, 83, 84, 85, 86, 87, 519, 506, 507, 508, 509, 510, 511, 512, 513, 514, 515, 516, 517, 518, 520, 521, 522, 523, 524, 525, 526, 527, 528, 529, 530, 531, 532, 533] (by decide +kernel) (by decide +kernel)
set_option maxRecDepth 20000 in
theorem gL_begun_X7_init : GoodIn wsL_begun (wsX7_init) := ggL_begun_X7_init
set_option maxRecDepth 20000 in
theorem ggL_begun_L_in : GoodIn wsL_begun wsL_in := goodIn_ca (goodIn_ca (goodIn_r _ [91, 92, 93, 94, 90, 95, 96, 97] (by decide +kernel) (by decide +kernel)) (goodIn_sub (fun _ h => List.mem_cons_of_mem _ (List.mem_append_left _ (List.mem_append_left _ (List.mem_append_left _ (List.mem_append_right _ h))))) (by decide +kernel))) (goodIn_sub (fun _ h => List.mem_cons_of_mem _ (List.mem_append_left _ (List.mem_append_left _ (List.mem_append_left _ (List.mem_append_left _ (List.mem_append_right _ h)))))) (by decide +kernel))
set_option maxRecDepth 20000 in
theorem gL_begun_L_in : GoodIn wsL_begun (va_wsS RL 162 yL_in wsL_in) := goodIn_app (goodIn_of _ (by decide +kernel)) ggL_begun_L_in
set_option maxRecDepth 20000 in
theorem ggL_begun_L_addMacro : GoodIn wsL_begun wsL_addMacro := goodIn_ca (goodIn_r _ [100, 101, 102, 103, 104, 105, 3, 106, 107, 108, 18, 109, 110, 111, 112, 113, 114, 17, 115, 116, 117, 118, 119, 120, 8, 9, 121, 122, 16, 123, 124, 125, 41, 42, 43, 44, 45, 46, 47, 48, 49, 50, 51, 52, 53, 54, 126, 127, 128, 129, 130, 131, 132, 133, 134, 135, 136, 137, 138, 139, 140, 141, 142, 143, 144, 145, 146, 147, 148, 149, 150, 151, 152, 153, 154, 155, 156, 157, 158, 159, 160, 161, 162, 163, 164, 165, 166, 167, 168, 169, 170, 171, 172, 173, 174, 175, 176, 177, 506, 507, 508, 509, 510, 511, 512, 513, 514, 515, 516, 517, 518, 534, 535, 536, 520, 521, 522] (by decide +kernel) (by decide +kernel)) (goodIn_sub (fun _ h => List.mem_cons_of_mem _ (List.mem_append_left _ (List.mem_append_left _ (List.mem_append_right _ h)))) (by decide +kernel))
set_option maxRecDepth 20000 in
theorem gL_begun_L_addMacro : GoodIn wsL_begun (va_wsS RL 199 yL_addMacro wsL_addMacro) := goodIn_app (goodIn_of _ (by decide +kernel)) ggL_begun_L_addMacro
set_option maxRecDepth 20000 in
theorem ggL_begun_L_isRange : GoodIn wsL_begun wsL_isRange := goodIn_ca (goodIn_ca (goodIn_ca (goodIn_ca (goodIn_r _ [180, 181, 182, 183, 184, 90, 185, 186, 187, 188, 189, 190, 101, 102, 191, 192, 193, 3, 194, 195, 196, 107, 108, 197, 198, 199, 200, 201, 202, 203, 204, 205, 206, 207, 208, 209, 18, 210, 112, 113, 114, 17, 115, 116, 211, 212, 213, 214, 215, 216, 217, 218, 219, 220, 221, 222, 223, 224, 225, 226, 44, 227, 228, 229, 230, 231, 232, 233, 234, 235, 236, 237, 238, 111, 239, 124, 240, 241, 242, 243, 244, 8, 9, 245, 246, 247, 248, 249, 250, 251, 252, 253, 127, 128, 129, 130, 131, 132, 133, 134, 135, 136, 137, 138, 139, 140, 141, 142, 143, 43, 144, 145, 146, 147, 148, 149, 150, 151, 152, 153, 154, 155, 156, 157, 158, 159, 160, 161, 162, 163, 164, 165, 166, 167, 168, 169, 170, 171, 172, 173, 174, 175, 176, 177, 537, 538, 539, 540, 506, 507, 508, 509, 510, 511, 512, 513, 514, 515, 516, 517, 518, 520, 521, 522, 534, 535, 536] (by decide +kernel) (by decide +kernel)) (goodIn_sub (fun _ h => List.mem_cons_of_mem _ (List.mem_append_left _ (List.mem_append_left _ (List.mem_append_left _ (List.mem_append_left _ (List.mem_append_right _ h)))))) (by decide +kernel))) (goodIn_sub (fun _ h => List.mem_cons_of_mem _ (List.mem_append_left _ (List.mem_append_right _ h))) (by decide +kernel))) (goodIn_sub (fun _ h => List.mem_cons_of_mem _ (List.mem_append_left _ (List.mem_append_left _ (List.mem_append_right _ h)))) (by decide +kernel))) (goodIn_sub (fun _ h => List.mem_cons_of_mem _ (List.mem_append_right _ h)) (by decide +kernel))
set_option maxRecDepth 20000 in
theorem gL_begun_L_isRange : GoodIn wsL_begun (va_wsS RL 177 yL_isRange wsL_isRange) := goodIn_app (goodIn_of _ (by decide +kernel)) ggL_begun_L_isRange
set_option maxRecDepth 20000 in
theorem ggL_begun_L_isRecorded : GoodIn wsL_begun wsL_isRecorded := goodIn_ca (goodIn_ca (goodIn_ca (goodIn_r _ [256, 182, 257, 258, 90, 259, 189, 101, 102, 260, 261, 262, 3, 263, 107, 108, 34, 264, 265, 200, 201, 202, 203, 204, 205, 206, 207, 208, 209, 18, 210, 112, 113, 114, 17, 115, 116, 211, 212, 213, 214, 215, 216, 217, 218, 219, 220, 221, 222, 223, 224, 225, 226, 44, 227, 228, 229, 230, 231, 232, 266, 267, 268, 111, 269, 123, 240, 270, 271, 272, 273, 274, 275, 276, 277, 130, 131, 183, 184, 185, 506, 507, 508, 509, 510, 511, 512, 513, 514, 515, 516, 517, 518, 520, 521, 522, 534, 535, 536] (by decide +kernel) (by decide +kernel)) (goodIn_sub (fun _ h => List.mem_cons_of_mem _ (List.mem_append_left _ (List.mem_append_left _ (List.mem_append_left _ (List.mem_append_left _ (List.mem_append_right _ h)))))) (by decide +kernel))) (goodIn_sub (fun _ h => List.mem_cons_of_mem _ (List.mem_append_left _ (List.mem_append_left _ (List.mem_append_right _ h)))) (by decide +kernel))) (goodIn_sub (fun _ h => List.mem_cons_of_mem _ (List.mem_append_right _ h)) (by decide +kernel))
set_option maxRecDepth 20000 in
theorem gL_begun_L_isRecorded : GoodIn wsL_begun (va_wsS RL 169 yL_isRecorded wsL_isRecorded) := goodIn_app (goodIn_of _ (by decide +kernel)) ggL_begun_L_isRecorded
set_option maxRecDepth 20000 in
theorem ggL_begun_L_isSet : GoodIn wsL_begun wsL_isSet := goodIn_ca (goodIn_ca (goodIn_ca (goodIn_ca (goodIn_r _ [280, 182, 281, 282, 90, 283, 284, 285, 286, 189, 101, 102, 287, 288, 289, 3, 290, 107, 108, 34, 227, 228, 229, 204, 205, 230, 231, 232, 291, 292, 293, 294, 295, 296, 297, 264, 265, 298, 299, 300, 301, 8, 9, 302, 303, 304, 305, 206, 207, 208, 209, 18, 210, 112, 113, 114, 17, 115, 116, 211, 212, 213, 214, 215, 216, 217, 218, 219, 220, 221, 222, 223, 224, 225, 226, 44, 306, 307, 308, 111, 309, 123, 240, 253, 127, 128, 129, 130, 131, 132, 133, 134, 135, 136, 137, 138, 139, 140, 141, 142, 143, 43, 144, 145, 146, 147, 148, 149, 150, 151, 152, 153, 154, 155, 156, 157, 158, 159, 160, 161, 162, 163, 164, 165, 166, 167, 168, 169, 170, 171, 172, 173, 174, 175, 176, 177, 310, 311, 312, 313, 23, 314, 315, 316, 317, 22, 318, 319, 320, 321, 322, 323, 59, 324, 60, 61, 62, 325, 326, 327, 328, 329, 330, 331, 332, 333, 32, 334, 335, 336, 337, 338, 339, 340, 13, 33, 341, 342, 343, 12, 344, 39, 345, 346, 347, 348, 349, 350, 351, 352, 353, 354, 355, 356, 357, 358, 359, 360, 361, 362, 363, 364, 365, 366, 367, 368, 369, 370, 371, 372, 373, 374, 375, 376, 377, 378, 379, 380, 381, 19, 382, 383, 384, 385, 199, 386, 245, 247, 246, 248, 387, 388, 389, 390, 391, 392, 393, 394, 14, 395, 396, 397, 398, 399, 266, 267, 268, 269, 400, 401, 402, 403, 404, 405, 406, 407, 408, 409, 124, 410, 411, 412, 413, 414, 415, 416, 417, 418, 419, 420, 421, 422, 27, 423, 424, 425, 26, 426, 427, 67, 428, 429, 430, 431, 183, 184, 185, 432, 433, 434, 435, 436, 437, 438, 439, 440, 441, 442, 443, 444, 445, 446, 447, 448, 449, 450, 451, 452, 453, 454, 455, 456, 457, 458, 459, 460, 461, 190, 462, 463, 464, 465, 195, 196, 466, 467, 468, 469, 470, 471, 472, 506, 507, 508, 509, 510, 511, 512, 513, 514, 515, 516, 517, 518, 541, 542, 543, 544, 520, 521, 522, 534, 535, 536, 523, 524, 525, 526, 527, 519, 545, 546, 547, 537, 538, 539, 540, 528, 529] (by decide +kernel) (by decide +kernel)) (goodIn_sub (fun _ h => List.mem_cons_of_mem _ (List.mem_append_left _ (List.mem_append_left _ (List.mem_append_left _ (List.mem_append_left _ (List.mem_append_right _ h)))))) (by decide +kernel))) (goodIn_sub (fun _ h => List.mem_cons_of_mem _ (List.mem_append_left _ (List.mem_append_left _ (List.mem_append_right _ h)))) (by decide +kernel))) (goodIn_sub (fun _ h => List.mem_cons_of_mem _ (List.mem_append_right _ h)) (by decide +kernel))) (goodIn_sub (fun _ h => List.mem_cons_of_mem _ (List.mem_append_left _ (List.mem_append_right _ h))) (by decide +kernel))
set_option maxRecDepth 20000 in
theorem gL_begun_L_isSet : GoodIn wsL_begun (va_wsS RL 165 yL_isSet wsL_isSet) := goodIn_app (goodIn_of _ (by decide +kernel)) ggL_begun_L_isSet
set_option maxRecDepth 20000 in
theorem ggL_begun_L_isStopped : GoodIn wsL_begun wsL_isStopped := goodIn_ca (goodIn_ca (goodIn_r _ [475, 102, 183, 184, 90, 185, 476, 477, 478, 101, 479, 480, 481, 3, 482, 107, 108, 34, 206, 207, 208, 209, 18, 210, 112, 113, 114, 17, 115, 116, 211, 212, 213, 214, 215, 216, 217, 218, 219, 220, 221, 222, 223, 224, 225, 226, 44, 266, 267, 268, 111, 269, 123, 240, 506, 507, 508, 509, 510, 511, 512, 513, 514, 515, 516, 517, 518, 520, 521, 522, 534, 535, 536] (by decide +kernel) (by decide +kernel)) (goodIn_sub (fun _ h => List.mem_cons_of_mem _ (List.mem_append_left _ (List.mem_append_left _ (List.mem_append_left _ (List.mem_append_left _ (List.mem_append_right _ h)))))) (by decide +kernel))) (goodIn_sub (fun _ h => List.mem_cons_of_mem _ (List.mem_append_left _ (List.mem_append_left _ (List.mem_append_right _ h)))) (by decide +kernel))
set_option maxRecDepth 20000 in
theorem gL_begun_L_isStopped : GoodIn wsL_begun (va_wsS RL 173 yL_isStopped wsL_isStopped) := goodIn_app (goodIn_of _ (by decide +kernel)) ggL_begun_L_isStopped
set_option maxRecDepth 20000 in
theorem ggL_begun_L_isRule : GoodIn wsL_begun wsL_isRule := goodIn_ca (goodIn_ca (goodIn_ca (goodIn_ca (goodIn_r _ [485, 181, 182, 486, 487, 90, 488, 189, 190, 101, 102, 489, 490, 491, 3, 492, 195, 196, 107, 108, 19, 493, 494, 495, 197, 198, 199, 227, 228, 229, 204, 205, 230, 231, 232, 200, 201, 202, 203, 206, 207, 208, 209, 18, 210, 112, 113, 114, 17, 115, 116, 211, 212, 213, 214, 215, 216, 217, 218, 219, 220, 221, 222, 223, 224, 225, 226, 44, 233, 234, 235, 496, 497, 498, 241, 242, 243, 244, 8, 9, 245, 246, 247, 248, 499, 500, 501, 502, 503, 504, 505, 126, 127, 128, 129, 130, 131, 132, 133, 134, 135, 136, 137, 138, 139, 140, 141, 142, 143, 43, 144, 145, 146, 147, 148, 149, 150, 151, 152, 153, 154, 155, 156, 157, 158, 159, 160, 161, 162, 163, 164, 165, 166, 167, 168, 169, 170, 171, 172, 173, 174, 175, 176, 177, 506, 507, 508, 509, 510, 511, 512, 513, 514, 515, 516, 517, 518, 545, 546, 547, 537, 538, 539, 540, 520, 521, 522] (by decide +kernel) (by decide +kernel)) (goodIn_sub (fun _ h => List.mem_cons_of_mem _ (List.mem_append_left _ (List.mem_append_left _ (List.mem_append_left _ (List.mem_append_left _ (List.mem_append_right _ h)))))) (by decide +kernel))) (goodIn_sub (fun _ h => List.mem_cons_of_mem _ (List.mem_append_left _ (List.mem_append_right _ h))) (by decide +kernel))) (goodIn_sub (fun _ h => List.mem_cons_of_mem _ (List.mem_append_left _ (List.mem_append_left _ (List.mem_append_right _ h)))) (by decide +kernel))) (goodIn_sub (fun _ h => List.mem_cons_of_mem _ (List.mem_append_right _ h)) (by decide +kernel))
set_option maxRecDepth 20000 in
theorem gL_begun_L_isRule : GoodIn wsL_begun (va_wsS RL 184 yL_isRule wsL_isRule) := goodIn_app (goodIn_of _ (by decide +kernel)) ggL_begun_L_isRule
theorem dL_begun_0 : decode cL_begun 0 = .ok (.new 10, 3) := by decide +kernel
theorem dL_begun_3 : decode cL_begun 3 = .ok (.dup, 1) := by decide +kernel
theorem dL_begun_4 : decode cL_begun 4 = .ok (.invokespecial 198, 3) := by decide +kernel
theorem dL_begun_7 : decode cL_begun 7 = .ok (.astore_n 3, 1) := by decide +kernel
theorem dL_begun_8 : decode cL_begun 8 = .ok (.iconst 1, 1) := by decide +kernel
theorem dL_begun_9 : decode cL_begun 9 = .ok (.istore 4, 2) := by decide +kernel
theorem dL_begun_11 : decode cL_begun 11 = .ok (.iconst 1, 1) := by decide +kernel
theorem dL_begun_12 : decode cL_begun 12 = .ok (.aload_n 0, 1) := by decide +kernel
theorem dL_begun_13 : decode cL_begun 13 = .ok (.iconst 0, 1) := by decide +kernel
theorem dL_begun_14 : decode cL_begun 14 = .ok (.iconst 4, 1) := by decide +kernel
theorem dL_begun_15 : decode cL_begun 15 = .ok (.invokestatic 162, 3) := by decide +kernel
theorem dL_begun_18 : decode cL_begun 18 = .ok (.iadd, 1) := by decide +kernel
theorem dL_begun_19 : decode cL_begun 19 = .ok (.istore 5, 2) := by decide +kernel
theorem dL_begun_21 : decode cL_begun 21 = .ok (.iload 5, 2) := by decide +kernel
theorem dL_begun_23 : decode cL_begun 23 = .ok (.ifCond .le 243, 3) := by decide +kernel
theorem dL_begun_26 : decode cL_begun 26 = .ok (.aload_n 1, 1) := by decide +kernel
theorem dL_begun_27 : decode cL_begun 27 = .ok (.bipush 50, 2) := by decide +kernel
theorem dL_begun_29 : decode cL_begun 29 = .ok (.dup2, 1) := by decide +kernel
theorem dL_begun_30 : decode cL_begun 30 = .ok (.iaload, 1) := by decide +kernel
theorem dL_begun_31 : decode cL_begun 31 = .ok (.iconst 1, 1) := by decide +kernel
theorem dL_begun_32 : decode cL_begun 32 = .ok (.iadd, 1) := by decide +kernel
theorem dL_begun_33 : decode cL_begun 33 = .ok (.iastore, 1) := by decide +kernel
theorem dL_begun_34 : decode cL_begun 34 = .ok (.iload 4, 2) := by decide +kernel
theorem dL_begun_36 : decode cL_begun 36 = .ok (.aload_n 3, 1) := by decide +kernel
theorem dL_begun_37 : decode cL_begun 37 = .ok (.invokestatic 199, 3) := by decide +kernel
theorem dL_begun_40 : decode cL_begun 40 = .ok (.aload_n 1, 1) := by decide +kernel
theorem dL_begun_41 : decode cL_begun 41 = .ok (.bipush 50, 2) := by decide +kernel
theorem dL_begun_43 : decode cL_begun 43 = .ok (.iaload, 1) := by decide +kernel
theorem dL_begun_44 : decode cL_begun 44 = .ok (.iconst 1, 1) := by decide +kernel
theorem dL_begun_45 : decode cL_begun 45 = .ok (.isub, 1) := by decide +kernel
theorem dL_begun_46 : decode cL_begun 46 = .ok (.if_icmp .ne 82, 3) := by decide +kernel
theorem dL_begun_49 : decode cL_begun 49 = .ok (.aload_n 3, 1) := by decide +kernel
theorem dL_begun_50 : decode cL_begun 50 = .ok (.aload_n 1, 1) := by decide +kernel
theorem dL_begun_51 : decode cL_begun 51 = .ok (.aload_n 1, 1) := by decide +kernel
theorem dL_begun_52 : decode cL_begun 52 = .ok (.bipush 50, 2) := by decide +kernel
theorem dL_begun_54 : decode cL_begun 54 = .ok (.iaload, 1) := by decide +kernel
theorem dL_begun_55 : decode cL_begun 55 = .ok (.iconst 1, 1) := by decide +kernel
theorem dL_begun_56 : decode cL_begun 56 = .ok (.isub, 1) := by decide +kernel
theorem dL_begun_57 : decode cL_begun 57 = .ok (.iconst 0, 1) := by decide +kernel
theorem dL_begun_58 : decode cL_begun 58 = .ok (.iconst 0, 1) := by decide +kernel
theorem dL_begun_59 : decode cL_begun 59 = .ok (.iconst 1, 1) := by decide +kernel
theorem dL_begun_60 : decode cL_begun 60 = .ok (.aload_n 0, 1) := by decide +kernel
theorem dL_begun_61 : decode cL_begun 61 = .ok (.iconst 2, 1) := by decide +kernel
theorem dL_begun_62 : decode cL_begun 62 = .ok (.iload 5, 2) := by decide +kernel
theorem dL_begun_64 : decode cL_begun 64 = .ok (.imul, 1) := by decide +kernel
theorem dL_begun_65 : decode cL_begun 65 = .ok (.iconst 5, 1) := by decide +kernel
theorem dL_begun_66 : decode cL_begun 66 = .ok (.invokestatic 162, 3) := by decide +kernel
theorem dL_begun_69 : decode cL_begun 69 = .ok (.iadd, 1) := by decide +kernel
theorem dL_begun_70 : decode cL_begun 70 = .ok (.iconst 2, 1) := by decide +kernel
theorem dL_begun_71 : decode cL_begun 71 = .ok (.aload_n 0, 1) := by decide +kernel
theorem dL_begun_72 : decode cL_begun 72 = .ok (.iconst 2, 1) := by decide +kernel
theorem dL_begun_73 : decode cL_begun 73 = .ok (.iload 5, 2) := by decide +kernel
theorem dL_begun_75 : decode cL_begun 75 = .ok (.imul, 1) := by decide +kernel
theorem dL_begun_76 : decode cL_begun 76 = .ok (.iconst 1, 1) := by decide +kernel
theorem dL_begun_77 : decode cL_begun 77 = .ok (.iadd, 1) := by decide +kernel
theorem dL_begun_78 : decode cL_begun 78 = .ok (.bipush 6, 2) := by decide +kernel
theorem dL_begun_80 : decode cL_begun 80 = .ok (.invokestatic 162, 3) := by decide +kernel
theorem dL_begun_83 : decode cL_begun 83 = .ok (.iadd, 1) := by decide +kernel
theorem dL_begun_84 : decode cL_begun 84 = .ok (.invokestatic 177, 3) := by decide +kernel
theorem dL_begun_87 : decode cL_begun 87 = .ok (.ifCond .eq 41, 3) := by decide +kernel
theorem dL_begun_90 : decode cL_begun 90 = .ok (.aload_n 3, 1) := by decide +kernel
theorem dL_begun_91 : decode cL_begun 91 = .ok (.aload_n 1, 1) := by decide +kernel
theorem dL_begun_92 : decode cL_begun 92 = .ok (.aload_n 1, 1) := by decide +kernel
theorem dL_begun_93 : decode cL_begun 93 = .ok (.bipush 50, 2) := by decide +kernel
theorem dL_begun_95 : decode cL_begun 95 = .ok (.iaload, 1) := by decide +kernel
theorem dL_begun_96 : decode cL_begun 96 = .ok (.iconst 1, 1) := by decide +kernel
theorem dL_begun_97 : decode cL_begun 97 = .ok (.isub, 1) := by decide +kernel
theorem dL_begun_98 : decode cL_begun 98 = .ok (.aload_n 0, 1) := by decide +kernel
theorem dL_begun_99 : decode cL_begun 99 = .ok (.bipush 10, 2) := by decide +kernel
theorem dL_begun_101 : decode cL_begun 101 = .ok (.iload 5, 2) := by decide +kernel
theorem dL_begun_103 : decode cL_begun 103 = .ok (.iadd, 1) := by decide +kernel
theorem dL_begun_104 : decode cL_begun 104 = .ok (.iconst 3, 1) := by decide +kernel
theorem dL_begun_105 : decode cL_begun 105 = .ok (.invokestatic 162, 3) := by decide +kernel
theorem dL_begun_108 : decode cL_begun 108 = .ok (.aload_n 0, 1) := by decide +kernel
theorem dL_begun_109 : decode cL_begun 109 = .ok (.bipush 14, 2) := by decide +kernel
theorem dL_begun_111 : decode cL_begun 111 = .ok (.iload 5, 2) := by decide +kernel
theorem dL_begun_113 : decode cL_begun 113 = .ok (.iadd, 1) := by decide +kernel
theorem dL_begun_114 : decode cL_begun 114 = .ok (.iconst 3, 1) := by decide +kernel
theorem dL_begun_115 : decode cL_begun 115 = .ok (.invokestatic 162, 3) := by decide +kernel
theorem dL_begun_118 : decode cL_begun 118 = .ok (.invokestatic 169, 3) := by decide +kernel
theorem dL_begun_121 : decode cL_begun 121 = .ok (.ifCond .eq 7, 3) := by decide +kernel
theorem dL_begun_124 : decode cL_begun 124 = .ok (.iconst 1, 1) := by decide +kernel
theorem dL_begun_125 : decode cL_begun 125 = .ok (.goto 4, 3) := by decide +kernel
theorem dL_begun_128 : decode cL_begun 128 = .ok (.iconst 0, 1) := by decide +kernel
theorem dL_begun_129 : decode cL_begun 129 = .ok (.iand, 1) := by decide +kernel
theorem dL_begun_130 : decode cL_begun 130 = .ok (.istore 4, 2) := by decide +kernel
theorem dL_begun_132 : decode cL_begun 132 = .ok (.iconst 0, 1) := by decide +kernel
theorem dL_begun_133 : decode cL_begun 133 = .ok (.istore 6, 2) := by decide +kernel
theorem dL_begun_135 : decode cL_begun 135 = .ok (.iload 6, 2) := by decide +kernel
theorem dL_begun_137 : decode cL_begun 137 = .ok (.iconst 3, 1) := by decide +kernel
theorem dL_begun_138 : decode cL_begun 138 = .ok (.if_icmp .ge 112, 3) := by decide +kernel
theorem dL_begun_141 : decode cL_begun 141 = .ok (.aload_n 0, 1) := by decide +kernel
theorem dL_begun_142 : decode cL_begun 142 = .ok (.bipush 20, 2) := by decide +kernel
theorem dL_begun_144 : decode cL_begun 144 = .ok (.bipush 9, 2) := by decide +kernel
theorem dL_begun_146 : decode cL_begun 146 = .ok (.iload 5, 2) := by decide +kernel
theorem dL_begun_148 : decode cL_begun 148 = .ok (.imul, 1) := by decide +kernel
theorem dL_begun_149 : decode cL_begun 149 = .ok (.iadd, 1) := by decide +kernel
theorem dL_begun_150 : decode cL_begun 150 = .ok (.iload 6, 2) := by decide +kernel
theorem dL_begun_152 : decode cL_begun 152 = .ok (.iadd, 1) := by decide +kernel
theorem dL_begun_153 : decode cL_begun 153 = .ok (.iconst 4, 1) := by decide +kernel
theorem dL_begun_154 : decode cL_begun 154 = .ok (.invokestatic 162, 3) := by decide +kernel
theorem dL_begun_157 : decode cL_begun 157 = .ok (.istore 7, 2) := by decide +kernel
theorem dL_begun_159 : decode cL_begun 159 = .ok (.iload 4, 2) := by decide +kernel
theorem dL_begun_161 : decode cL_begun 161 = .ok (.aload_n 3, 1) := by decide +kernel
theorem dL_begun_162 : decode cL_begun 162 = .ok (.aload_n 1, 1) := by decide +kernel
theorem dL_begun_163 : decode cL_begun 163 = .ok (.aload_n 2, 1) := by decide +kernel
theorem dL_begun_164 : decode cL_begun 164 = .ok (.iload 7, 2) := by decide +kernel
theorem dL_begun_166 : decode cL_begun 166 = .ok (.ifCond .ne 8, 3) := by decide +kernel
theorem dL_begun_169 : decode cL_begun 169 = .ok (.bipush 115, 2) := by decide +kernel
theorem dL_begun_171 : decode cL_begun 171 = .ok (.goto 16, 3) := by decide +kernel
theorem dL_begun_174 : decode cL_begun 174 = .ok (.iload 7, 2) := by decide +kernel
theorem dL_begun_176 : decode cL_begun 176 = .ok (.iconst 1, 1) := by decide +kernel
theorem dL_begun_177 : decode cL_begun 177 = .ok (.if_icmp .ne 8, 3) := by decide +kernel
theorem dL_begun_180 : decode cL_begun 180 = .ok (.bipush 99, 2) := by decide +kernel
theorem dL_begun_182 : decode cL_begun 182 = .ok (.goto 5, 3) := by decide +kernel
theorem dL_begun_185 : decode cL_begun 185 = .ok (.bipush 97, 2) := by decide +kernel
theorem dL_begun_187 : decode cL_begun 187 = .ok (.aload_n 0, 1) := by decide +kernel
theorem dL_begun_188 : decode cL_begun 188 = .ok (.bipush 23, 2) := by decide +kernel
theorem dL_begun_190 : decode cL_begun 190 = .ok (.bipush 9, 2) := by decide +kernel
theorem dL_begun_192 : decode cL_begun 192 = .ok (.iload 5, 2) := by decide +kernel
theorem dL_begun_194 : decode cL_begun 194 = .ok (.imul, 1) := by decide +kernel
theorem dL_begun_195 : decode cL_begun 195 = .ok (.iadd, 1) := by decide +kernel
theorem dL_begun_196 : decode cL_begun 196 = .ok (.iload 6, 2) := by decide +kernel
theorem dL_begun_198 : decode cL_begun 198 = .ok (.iadd, 1) := by decide +kernel
theorem dL_begun_199 : decode cL_begun 199 = .ok (.iconst 3, 1) := by decide +kernel
theorem dL_begun_200 : decode cL_begun 200 = .ok (.invokestatic 162, 3) := by decide +kernel
theorem dL_begun_203 : decode cL_begun 203 = .ok (.aload_n 0, 1) := by decide +kernel
theorem dL_begun_204 : decode cL_begun 204 = .ok (.bipush 26, 2) := by decide +kernel
theorem dL_begun_206 : decode cL_begun 206 = .ok (.bipush 9, 2) := by decide +kernel
theorem dL_begun_208 : decode cL_begun 208 = .ok (.iload 5, 2) := by decide +kernel
theorem dL_begun_210 : decode cL_begun 210 = .ok (.imul, 1) := by decide +kernel
theorem dL_begun_211 : decode cL_begun 211 = .ok (.iadd, 1) := by decide +kernel
theorem dL_begun_212 : decode cL_begun 212 = .ok (.iload 6, 2) := by decide +kernel
theorem dL_begun_214 : decode cL_begun 214 = .ok (.iadd, 1) := by decide +kernel
theorem dL_begun_215 : decode cL_begun 215 = .ok (.iconst 3, 1) := by decide +kernel
theorem dL_begun_216 : decode cL_begun 216 = .ok (.invokestatic 162, 3) := by decide +kernel
theorem dL_begun_219 : decode cL_begun 219 = .ok (.aload_n 0, 1) := by decide +kernel
theorem dL_begun_220 : decode cL_begun 220 = .ok (.bipush 20, 2) := by decide +kernel
theorem dL_begun_222 : decode cL_begun 222 = .ok (.bipush 9, 2) := by decide +kernel
theorem dL_begun_224 : decode cL_begun 224 = .ok (.iload 5, 2) := by decide +kernel
theorem dL_begun_226 : decode cL_begun 226 = .ok (.imul, 1) := by decide +kernel
theorem dL_begun_227 : decode cL_begun 227 = .ok (.iadd, 1) := by decide +kernel
theorem dL_begun_228 : decode cL_begun 228 = .ok (.iload 6, 2) := by decide +kernel
theorem dL_begun_230 : decode cL_begun 230 = .ok (.iadd, 1) := by decide +kernel
theorem dL_begun_231 : decode cL_begun 231 = .ok (.bipush 7, 2) := by decide +kernel
theorem dL_begun_233 : decode cL_begun 233 = .ok (.invokestatic 162, 3) := by decide +kernel
theorem dL_begun_236 : decode cL_begun 236 = .ok (.iconst 3, 1) := by decide +kernel
theorem dL_begun_237 : decode cL_begun 237 = .ok (.isub, 1) := by decide +kernel
theorem dL_begun_238 : decode cL_begun 238 = .ok (.invokestatic 165, 3) := by decide +kernel
theorem dL_begun_241 : decode cL_begun 241 = .ok (.iand, 1) := by decide +kernel
theorem dL_begun_242 : decode cL_begun 242 = .ok (.istore 4, 2) := by decide +kernel
theorem dL_begun_244 : decode cL_begun 244 = .ok (.iinc 6 1, 3) := by decide +kernel
theorem dL_begun_247 : decode cL_begun 247 = .ok (.goto (-112), 3) := by decide +kernel
theorem dL_begun_250 : decode cL_begun 250 = .ok (.iload 4, 2) := by decide +kernel
theorem dL_begun_252 : decode cL_begun 252 = .ok (.aload_n 3, 1) := by decide +kernel
theorem dL_begun_253 : decode cL_begun 253 = .ok (.aload_n 1, 1) := by decide +kernel
theorem dL_begun_254 : decode cL_begun 254 = .ok (.invokestatic 173, 3) := by decide +kernel
theorem dL_begun_257 : decode cL_begun 257 = .ok (.iand, 1) := by decide +kernel
theorem dL_begun_258 : decode cL_begun 258 = .ok (.istore 4, 2) := by decide +kernel
theorem dL_begun_260 : decode cL_begun 260 = .ok (.iinc 5 (-1), 3) := by decide +kernel
theorem dL_begun_263 : decode cL_begun 263 = .ok (.goto (-242), 3) := by decide +kernel
theorem dL_begun_266 : decode cL_begun 266 = .ok (.iconst 1, 1) := by decide +kernel
theorem dL_begun_267 : decode cL_begun 267 = .ok (.aload_n 0, 1) := by decide +kernel
theorem dL_begun_268 : decode cL_begun 268 = .ok (.iconst 1, 1) := by decide +kernel
theorem dL_begun_269 : decode cL_begun 269 = .ok (.iconst 3, 1) := by decide +kernel
theorem dL_begun_270 : decode cL_begun 270 = .ok (.invokestatic 162, 3) := by decide +kernel
theorem dL_begun_273 : decode cL_begun 273 = .ok (.iadd, 1) := by decide +kernel
theorem dL_begun_274 : decode cL_begun 274 = .ok (.istore 5, 2) := by decide +kernel
theorem dL_begun_276 : decode cL_begun 276 = .ok (.iload 5, 2) := by decide +kernel
theorem dL_begun_278 : decode cL_begun 278 = .ok (.ifCond .le 67, 3) := by decide +kernel
theorem dL_begun_281 : decode cL_begun 281 = .ok (.iload 4, 2) := by decide +kernel
theorem dL_begun_283 : decode cL_begun 283 = .ok (.aload_n 3, 1) := by decide +kernel
theorem dL_begun_284 : decode cL_begun 284 = .ok (.aload_n 1, 1) := by decide +kernel
theorem dL_begun_285 : decode cL_begun 285 = .ok (.aload_n 0, 1) := by decide +kernel
theorem dL_begun_286 : decode cL_begun 286 = .ok (.bipush 60, 2) := by decide +kernel
theorem dL_begun_288 : decode cL_begun 288 = .ok (.iload 5, 2) := by decide +kernel
theorem dL_begun_290 : decode cL_begun 290 = .ok (.iadd, 1) := by decide +kernel
theorem dL_begun_291 : decode cL_begun 291 = .ok (.aload_n 1, 1) := by decide +kernel
theorem dL_begun_292 : decode cL_begun 292 = .ok (.bipush 50, 2) := by decide +kernel
theorem dL_begun_294 : decode cL_begun 294 = .ok (.iaload, 1) := by decide +kernel
theorem dL_begun_295 : decode cL_begun 295 = .ok (.invokestatic 162, 3) := by decide +kernel
theorem dL_begun_298 : decode cL_begun 298 = .ok (.aload_n 0, 1) := by decide +kernel
theorem dL_begun_299 : decode cL_begun 299 = .ok (.bipush 64, 2) := by decide +kernel
theorem dL_begun_301 : decode cL_begun 301 = .ok (.iload 5, 2) := by decide +kernel
theorem dL_begun_303 : decode cL_begun 303 = .ok (.iadd, 1) := by decide +kernel
theorem dL_begun_304 : decode cL_begun 304 = .ok (.bipush 10, 2) := by decide +kernel
theorem dL_begun_306 : decode cL_begun 306 = .ok (.invokestatic 162, 3) := by decide +kernel
theorem dL_begun_309 : decode cL_begun 309 = .ok (.iconst 0, 1) := by decide +kernel
theorem dL_begun_310 : decode cL_begun 310 = .ok (.iconst 0, 1) := by decide +kernel
theorem dL_begun_311 : decode cL_begun 311 = .ok (.aload_n 0, 1) := by decide +kernel
theorem dL_begun_312 : decode cL_begun 312 = .ok (.bipush 68, 2) := by decide +kernel
theorem dL_begun_314 : decode cL_begun 314 = .ok (.iload 5, 2) := by decide +kernel
theorem dL_begun_316 : decode cL_begun 316 = .ok (.iadd, 1) := by decide +kernel
theorem dL_begun_317 : decode cL_begun 317 = .ok (.bipush 6, 2) := by decide +kernel
theorem dL_begun_319 : decode cL_begun 319 = .ok (.invokestatic 162, 3) := by decide +kernel
theorem dL_begun_322 : decode cL_begun 322 = .ok (.aload_n 0, 1) := by decide +kernel
theorem dL_begun_323 : decode cL_begun 323 = .ok (.bipush 72, 2) := by decide +kernel
theorem dL_begun_325 : decode cL_begun 325 = .ok (.iload 5, 2) := by decide +kernel
theorem dL_begun_327 : decode cL_begun 327 = .ok (.iadd, 1) := by decide +kernel
theorem dL_begun_328 : decode cL_begun 328 = .ok (.bipush 8, 2) := by decide +kernel
theorem dL_begun_330 : decode cL_begun 330 = .ok (.invokestatic 162, 3) := by decide +kernel
theorem dL_begun_333 : decode cL_begun 333 = .ok (.invokestatic 184, 3) := by decide +kernel
theorem dL_begun_336 : decode cL_begun 336 = .ok (.iand, 1) := by decide +kernel
theorem dL_begun_337 : decode cL_begun 337 = .ok (.istore 4, 2) := by decide +kernel
theorem dL_begun_339 : decode cL_begun 339 = .ok (.iinc 5 (-1), 3) := by decide +kernel
theorem dL_begun_342 : decode cL_begun 342 = .ok (.goto (-66), 3) := by decide +kernel
theorem dL_begun_345 : decode cL_begun 345 = .ok (.iload 4, 2) := by decide +kernel
theorem dL_begun_347 : decode cL_begun 347 = .ok (.ifCond .eq 7, 3) := by decide +kernel
theorem dL_begun_350 : decode cL_begun 350 = .ok (.aload_n 3, 1) := by decide +kernel
theorem dL_begun_351 : decode cL_begun 351 = .ok (.goto 4, 3) := by decide +kernel
theorem dL_begun_354 : decode cL_begun 354 = .ok (.aconst_null, 1) := by decide +kernel
theorem dL_begun_355 : decode cL_begun 355 = .ok (.areturn, 1) := by decide +kernel
set_option maxRecDepth 20000 in
theorem ggL_areCells_L_rule_ : GoodIn wsL_areCells wsL_rule_ := goodIn_ca (goodIn_r _ [6, 7, 8, 5, 9] (by decide +kernel) (by decide +kernel)) (goodIn_sub (fun _ h => List.mem_cons_of_mem _ (List.mem_append_left _ (List.mem_append_left _ (List.mem_append_left _ (List.mem_append_right _ h))))) (by decide +kernel))
set_option maxRecDepth 20000 in
theorem gL_areCells_L_rule_ : GoodIn wsL_areCells (va_wsS RL 118 yL_rule_ wsL_rule_) := goodIn_app (goodIn_of _ (by decide +kernel)) ggL_areCells_L_rule_
set_option maxRecDepth 20000 in
theorem ggL_areCells_L_isGranted : GoodIn wsL_areCells wsL_isGranted := goodIn_ca (goodIn_r _ [12, 13, 14, 5, 15, 7, 8, 9] (by decide +kernel) (by decide +kernel)) (goodIn_sub (fun _ h => List.mem_cons_of_mem _ (List.mem_append_left _ (List.mem_append_left _ (List.mem_append_left _ (List.mem_append_right _ h))))) (by decide +kernel))
set_option maxRecDepth 20000 in
theorem gL_areCells_L_isGranted : GoodIn wsL_areCells (va_wsS RL 107 yL_isGranted wsL_isGranted) := goodIn_app (goodIn_of _ (by decide +kernel)) ggL_areCells_L_isGranted
set_option maxRecDepth 20000 in
theorem ggL_areCells_L_cell_ : GoodIn wsL_areCells wsL_cell_ := goodIn_ca (goodIn_ca (goodIn_r _ [18, 19, 20, 21, 22, 23, 24, 25, 26, 27, 28, 29, 30, 31, 32, 33, 34, 35, 36, 37, 38, 39, 40, 41, 42, 43, 44, 45, 46, 47, 154, 155, 156, 157, 158, 159, 160, 161, 162, 163, 164, 165, 166, 167] (by decide +kernel) (by decide +kernel)) (goodIn_sub (fun _ h => List.mem_cons_of_mem _ (List.mem_append_left _ (List.mem_append_left _ (List.mem_append_right _ h)))) (by decide +kernel))) (goodIn_sub (fun _ h => List.mem_cons_of_mem _ (List.mem_append_left _ (List.mem_append_left _ (List.mem_append_left _ (List.mem_append_right _ h))))) (by decide +kernel))
set_option maxRecDepth 20000 in
theorem gL_areCells_L_cell_ : GoodIn wsL_areCells (va_wsS RL 201 yL_cell_ wsL_cell_) := goodIn_app (goodIn_of _ (by decide +kernel)) ggL_areCells_L_cell_
set_option maxRecDepth 20000 in
theorem ggL_areCells_L_cellByAudit : GoodIn wsL_areCells wsL_cellByAudit := goodIn_ca (goodIn_ca (goodIn_r _ [50, 19, 20, 51, 52, 53, 24, 54, 55, 27, 28, 29, 30, 31, 32, 33, 34, 35, 36, 37, 56, 57, 58, 59, 60, 61, 62, 63, 154, 155, 156, 157, 158, 159, 160, 161, 162, 163, 164, 165, 166, 168, 169, 170, 171, 172] (by decide +kernel) (by decide +kernel)) (goodIn_sub (fun _ h => List.mem_cons_of_mem _ (List.mem_append_left _ (List.mem_append_left _ (List.mem_append_right _ h)))) (by decide +kernel))) (goodIn_sub (fun _ h => List.mem_cons_of_mem _ (List.mem_append_left _ (List.mem_append_left _ (List.mem_append_left _ (List.mem_append_right _ h))))) (by decide +kernel))
set_option maxRecDepth 20000 in
theorem gL_areCells_L_cellByAudit : GoodIn wsL_areCells (va_wsS RL 203 yL_cellByAudit wsL_cellByAudit) := goodIn_app (goodIn_of _ (by decide +kernel)) ggL_areCells_L_cellByAudit
set_option maxRecDepth 20000 in
theorem ggL_areCells_L_granted : GoodIn wsL_areCells wsL_granted := goodIn_ca (goodIn_r _ [66, 19, 20, 67, 68, 69, 24, 70, 71, 72, 27, 28, 29, 30, 31, 32, 33, 34, 73, 74, 75, 76, 77, 78, 79, 80, 81, 82, 83, 84, 85, 86, 87, 88, 89, 90, 91, 92, 93, 94, 95, 96, 97, 98, 99, 100, 101, 102, 103, 104, 105, 106, 107, 108, 109, 110, 111, 112, 113, 154, 155, 156, 157, 158, 159, 160, 161, 162, 163, 164, 165, 166, 173, 174, 175, 176, 177, 178, 179, 180, 181, 182] (by decide +kernel) (by decide +kernel)) (goodIn_sub (fun _ h => List.mem_cons_of_mem _ (List.mem_append_left _ (List.mem_append_left _ (List.mem_append_right _ h)))) (by decide +kernel))
set_option maxRecDepth 20000 in
theorem gL_areCells_L_granted : GoodIn wsL_areCells (va_wsS RL 205 yL_granted wsL_granted) := goodIn_app (goodIn_of _ (by decide +kernel)) ggL_areCells_L_granted
set_option maxRecDepth 20000 in
theorem ggL_areCells_L_rule : GoodIn wsL_areCells wsL_rule := goodIn_ca (goodIn_ca (goodIn_r _ [116, 19, 117, 20, 1, 118, 119, 120, 24, 121, 122, 123, 27, 28, 29, 30, 31, 32, 33, 34, 124, 125, 126, 127, 128, 129, 73, 74, 75, 76, 77, 78, 79, 80, 81, 82, 83, 84, 85, 86, 87, 88, 89, 90, 91, 92, 93, 94, 95, 130, 106, 107, 108, 109, 110, 111, 112, 113, 154, 155, 156, 157, 158, 159, 160, 161, 162, 163, 164, 165, 166, 183, 184, 185, 173, 174, 175, 179, 180, 181, 182] (by decide +kernel) (by decide +kernel)) (goodIn_sub (fun _ h => List.mem_cons_of_mem _ (List.mem_append_left _ (List.mem_append_right _ h))) (by decide +kernel))) (goodIn_sub (fun _ h => List.mem_cons_of_mem _ (List.mem_append_left _ (List.mem_append_left _ (List.mem_append_right _ h)))) (by decide +kernel))
set_option maxRecDepth 20000 in
theorem gL_areCells_L_rule : GoodIn wsL_areCells (va_wsS RL 207 yL_rule wsL_rule) := goodIn_app (goodIn_of _ (by decide +kernel)) ggL_areCells_L_rule
set_option maxRecDepth 20000 in
theorem ggL_areCells_X7_skipped : GoodIn wsL_areCells wsX7_skipped := goodIn_r _ [134, 135, 154, 155, 156, 157, 158, 159, 160, 161, 162, 163, 164, 165, 166] (by decide +kernel) (by decide +kernel)
set_option maxRecDepth 20000 in
theorem gL_areCells_X7_skipped : GoodIn wsL_areCells (wsV RL 209 RX7 yX7_skipped wsX7_skipped) := goodIn_app (goodIn_of _ (by decide +kernel)) ggL_areCells_X7_skipped
set_option maxRecDepth 20000 in
theorem ggL_areCells_X7_entries : GoodIn wsL_areCells wsX7_entries := goodIn_r _ [139, 55, 140, 141, 142, 59, 143, 61, 154, 155, 156, 157, 158, 159, 160, 161, 162, 163, 164, 165, 166, 168, 169, 170, 171, 172] (by decide +kernel) (by decide +kernel)
set_option maxRecDepth 20000 in
theorem gL_areCells_X7_entries : GoodIn wsL_areCells (wsV RL 212 RX7 yX7_entries wsX7_entries) := goodIn_app (goodIn_of _ (by decide +kernel)) ggL_areCells_X7_entries
set_option maxRecDepth 20000 in
theorem ggL_areCells_L_meanValue : GoodIn wsL_areCells wsL_meanValue := goodIn_ca (goodIn_ca (goodIn_r _ [146, 147, 2, 148, 149, 150, 24, 151, 152, 153, 26, 38, 39, 40, 41, 42, 43, 44, 45, 46, 47, 154, 155, 156, 157, 158, 159, 160, 161, 162, 163, 164, 165, 166, 167] (by decide +kernel) (by decide +kernel)) (goodIn_sub (fun _ h => List.mem_cons_of_mem _ (List.mem_append_right _ h)) (by decide +kernel))) (goodIn_sub (fun _ h => List.mem_cons_of_mem _ (List.mem_append_left _ (List.mem_append_left _ (List.mem_append_left _ (List.mem_append_right _ h))))) (by decide +kernel))
set_option maxRecDepth 20000 in
theorem gL_areCells_L_meanValue : GoodIn wsL_areCells (va_wsS RL 215 yL_meanValue wsL_meanValue) := goodIn_app (goodIn_of _ (by decide +kernel)) ggL_areCells_L_meanValue
theorem dL_areCells_0 : decode cL_areCells 0 = .ok (.iconst 0, 1) := by decide +kernel
theorem dL_areCells_1 : decode cL_areCells 1 = .ok (.istore_n 2, 1) := by decide +kernel
theorem dL_areCells_2 : decode cL_areCells 2 = .ok (.iconst 0, 1) := by decide +kernel
theorem dL_areCells_3 : decode cL_areCells 3 = .ok (.istore_n 3, 1) := by decide +kernel
theorem dL_areCells_4 : decode cL_areCells 4 = .ok (.iconst 0, 1) := by decide +kernel
theorem dL_areCells_5 : decode cL_areCells 5 = .ok (.istore 4, 2) := by decide +kernel
theorem dL_areCells_7 : decode cL_areCells 7 = .ok (.iload 4, 2) := by decide +kernel
theorem dL_areCells_9 : decode cL_areCells 9 = .ok (.bipush 48, 2) := by decide +kernel
theorem dL_areCells_11 : decode cL_areCells 11 = .ok (.if_icmp .ge 189, 3) := by decide +kernel
theorem dL_areCells_14 : decode cL_areCells 14 = .ok (.aload_n 1, 1) := by decide +kernel
theorem dL_areCells_15 : decode cL_areCells 15 = .ok (.iload 4, 2) := by decide +kernel
theorem dL_areCells_17 : decode cL_areCells 17 = .ok (.bipush 8, 2) := by decide +kernel
theorem dL_areCells_19 : decode cL_areCells 19 = .ok (.idiv, 1) := by decide +kernel
theorem dL_areCells_20 : decode cL_areCells 20 = .ok (.iload 4, 2) := by decide +kernel
theorem dL_areCells_22 : decode cL_areCells 22 = .ok (.bipush 8, 2) := by decide +kernel
theorem dL_areCells_24 : decode cL_areCells 24 = .ok (.irem, 1) := by decide +kernel
theorem dL_areCells_25 : decode cL_areCells 25 = .ok (.invokestatic 118, 3) := by decide +kernel
theorem dL_areCells_28 : decode cL_areCells 28 = .ok (.istore 5, 2) := by decide +kernel
theorem dL_areCells_30 : decode cL_areCells 30 = .ok (.iconst 0, 1) := by decide +kernel
theorem dL_areCells_31 : decode cL_areCells 31 = .ok (.istore 6, 2) := by decide +kernel
theorem dL_areCells_33 : decode cL_areCells 33 = .ok (.iconst 0, 1) := by decide +kernel
theorem dL_areCells_34 : decode cL_areCells 34 = .ok (.istore 7, 2) := by decide +kernel
theorem dL_areCells_36 : decode cL_areCells 36 = .ok (.iload 7, 2) := by decide +kernel
theorem dL_areCells_38 : decode cL_areCells 38 = .ok (.aload_n 1, 1) := by decide +kernel
theorem dL_areCells_39 : decode cL_areCells 39 = .ok (.bipush 50, 2) := by decide +kernel
theorem dL_areCells_41 : decode cL_areCells 41 = .ok (.iaload, 1) := by decide +kernel
theorem dL_areCells_42 : decode cL_areCells 42 = .ok (.if_icmp .ge 38, 3) := by decide +kernel
theorem dL_areCells_45 : decode cL_areCells 45 = .ok (.iload 6, 2) := by decide +kernel
theorem dL_areCells_47 : decode cL_areCells 47 = .ok (.aload_n 1, 1) := by decide +kernel
theorem dL_areCells_48 : decode cL_areCells 48 = .ok (.iload 7, 2) := by decide +kernel
theorem dL_areCells_50 : decode cL_areCells 50 = .ok (.iload 4, 2) := by decide +kernel
theorem dL_areCells_52 : decode cL_areCells 52 = .ok (.bipush 8, 2) := by decide +kernel
theorem dL_areCells_54 : decode cL_areCells 54 = .ok (.idiv, 1) := by decide +kernel
theorem dL_areCells_55 : decode cL_areCells 55 = .ok (.iload 4, 2) := by decide +kernel
theorem dL_areCells_57 : decode cL_areCells 57 = .ok (.bipush 8, 2) := by decide +kernel
theorem dL_areCells_59 : decode cL_areCells 59 = .ok (.irem, 1) := by decide +kernel
theorem dL_areCells_60 : decode cL_areCells 60 = .ok (.invokestatic 107, 3) := by decide +kernel
theorem dL_areCells_63 : decode cL_areCells 63 = .ok (.ifCond .eq 7, 3) := by decide +kernel
theorem dL_areCells_66 : decode cL_areCells 66 = .ok (.iconst 1, 1) := by decide +kernel
theorem dL_areCells_67 : decode cL_areCells 67 = .ok (.goto 4, 3) := by decide +kernel
theorem dL_areCells_70 : decode cL_areCells 70 = .ok (.iconst 0, 1) := by decide +kernel
theorem dL_areCells_71 : decode cL_areCells 71 = .ok (.iadd, 1) := by decide +kernel
theorem dL_areCells_72 : decode cL_areCells 72 = .ok (.istore 6, 2) := by decide +kernel
theorem dL_areCells_74 : decode cL_areCells 74 = .ok (.iinc 7 1, 3) := by decide +kernel
theorem dL_areCells_77 : decode cL_areCells 77 = .ok (.goto (-41), 3) := by decide +kernel
theorem dL_areCells_80 : decode cL_areCells 80 = .ok (.iload_n 2, 1) := by decide +kernel
theorem dL_areCells_81 : decode cL_areCells 81 = .ok (.aload_n 1, 1) := by decide +kernel
theorem dL_areCells_82 : decode cL_areCells 82 = .ok (.iload 4, 2) := by decide +kernel
theorem dL_areCells_84 : decode cL_areCells 84 = .ok (.iaload, 1) := by decide +kernel
theorem dL_areCells_85 : decode cL_areCells 85 = .ok (.iadd, 1) := by decide +kernel
theorem dL_areCells_86 : decode cL_areCells 86 = .ok (.istore_n 2, 1) := by decide +kernel
theorem dL_areCells_87 : decode cL_areCells 87 = .ok (.iload_n 3, 1) := by decide +kernel
theorem dL_areCells_88 : decode cL_areCells 88 = .ok (.aload_n 1, 1) := by decide +kernel
theorem dL_areCells_89 : decode cL_areCells 89 = .ok (.iload 4, 2) := by decide +kernel
theorem dL_areCells_91 : decode cL_areCells 91 = .ok (.iaload, 1) := by decide +kernel
theorem dL_areCells_92 : decode cL_areCells 92 = .ok (.ifCond .ne 7, 3) := by decide +kernel
theorem dL_areCells_95 : decode cL_areCells 95 = .ok (.iconst 0, 1) := by decide +kernel
theorem dL_areCells_96 : decode cL_areCells 96 = .ok (.goto 4, 3) := by decide +kernel
theorem dL_areCells_99 : decode cL_areCells 99 = .ok (.iconst 1, 1) := by decide +kernel
theorem dL_areCells_100 : decode cL_areCells 100 = .ok (.iadd, 1) := by decide +kernel
theorem dL_areCells_101 : decode cL_areCells 101 = .ok (.istore_n 3, 1) := by decide +kernel
theorem dL_areCells_102 : decode cL_areCells 102 = .ok (.aload_n 0, 1) := by decide +kernel
theorem dL_areCells_103 : decode cL_areCells 103 = .ok (.iload 4, 2) := by decide +kernel
theorem dL_areCells_105 : decode cL_areCells 105 = .ok (.bipush 8, 2) := by decide +kernel
theorem dL_areCells_107 : decode cL_areCells 107 = .ok (.idiv, 1) := by decide +kernel
theorem dL_areCells_108 : decode cL_areCells 108 = .ok (.iload 4, 2) := by decide +kernel
theorem dL_areCells_110 : decode cL_areCells 110 = .ok (.bipush 8, 2) := by decide +kernel
theorem dL_areCells_112 : decode cL_areCells 112 = .ok (.irem, 1) := by decide +kernel
theorem dL_areCells_113 : decode cL_areCells 113 = .ok (.invokestatic 201, 3) := by decide +kernel
theorem dL_areCells_116 : decode cL_areCells 116 = .ok (.aload_n 1, 1) := by decide +kernel
theorem dL_areCells_117 : decode cL_areCells 117 = .ok (.iload 4, 2) := by decide +kernel
theorem dL_areCells_119 : decode cL_areCells 119 = .ok (.iaload, 1) := by decide +kernel
theorem dL_areCells_120 : decode cL_areCells 120 = .ok (.if_icmp .ne 72, 3) := by decide +kernel
theorem dL_areCells_123 : decode cL_areCells 123 = .ok (.aload_n 0, 1) := by decide +kernel
theorem dL_areCells_124 : decode cL_areCells 124 = .ok (.iload 4, 2) := by decide +kernel
theorem dL_areCells_126 : decode cL_areCells 126 = .ok (.bipush 8, 2) := by decide +kernel
theorem dL_areCells_128 : decode cL_areCells 128 = .ok (.idiv, 1) := by decide +kernel
theorem dL_areCells_129 : decode cL_areCells 129 = .ok (.iload 4, 2) := by decide +kernel
theorem dL_areCells_131 : decode cL_areCells 131 = .ok (.bipush 8, 2) := by decide +kernel
theorem dL_areCells_133 : decode cL_areCells 133 = .ok (.irem, 1) := by decide +kernel
theorem dL_areCells_134 : decode cL_areCells 134 = .ok (.invokestatic 203, 3) := by decide +kernel
theorem dL_areCells_137 : decode cL_areCells 137 = .ok (.aload_n 1, 1) := by decide +kernel
theorem dL_areCells_138 : decode cL_areCells 138 = .ok (.iload 4, 2) := by decide +kernel
theorem dL_areCells_140 : decode cL_areCells 140 = .ok (.iaload, 1) := by decide +kernel
theorem dL_areCells_141 : decode cL_areCells 141 = .ok (.if_icmp .ne 51, 3) := by decide +kernel
theorem dL_areCells_144 : decode cL_areCells 144 = .ok (.aload_n 0, 1) := by decide +kernel
theorem dL_areCells_145 : decode cL_areCells 145 = .ok (.iload 4, 2) := by decide +kernel
theorem dL_areCells_147 : decode cL_areCells 147 = .ok (.bipush 8, 2) := by decide +kernel
theorem dL_areCells_149 : decode cL_areCells 149 = .ok (.idiv, 1) := by decide +kernel
theorem dL_areCells_150 : decode cL_areCells 150 = .ok (.iload 4, 2) := by decide +kernel
theorem dL_areCells_152 : decode cL_areCells 152 = .ok (.bipush 8, 2) := by decide +kernel
theorem dL_areCells_154 : decode cL_areCells 154 = .ok (.irem, 1) := by decide +kernel
theorem dL_areCells_155 : decode cL_areCells 155 = .ok (.invokestatic 205, 3) := by decide +kernel
theorem dL_areCells_158 : decode cL_areCells 158 = .ok (.iload 6, 2) := by decide +kernel
theorem dL_areCells_160 : decode cL_areCells 160 = .ok (.if_icmp .ne 32, 3) := by decide +kernel
theorem dL_areCells_163 : decode cL_areCells 163 = .ok (.aload_n 0, 1) := by decide +kernel
theorem dL_areCells_164 : decode cL_areCells 164 = .ok (.iload 4, 2) := by decide +kernel
theorem dL_areCells_166 : decode cL_areCells 166 = .ok (.bipush 8, 2) := by decide +kernel
theorem dL_areCells_168 : decode cL_areCells 168 = .ok (.idiv, 1) := by decide +kernel
theorem dL_areCells_169 : decode cL_areCells 169 = .ok (.iload 4, 2) := by decide +kernel
theorem dL_areCells_171 : decode cL_areCells 171 = .ok (.bipush 8, 2) := by decide +kernel
theorem dL_areCells_173 : decode cL_areCells 173 = .ok (.irem, 1) := by decide +kernel
theorem dL_areCells_174 : decode cL_areCells 174 = .ok (.invokestatic 207, 3) := by decide +kernel
theorem dL_areCells_177 : decode cL_areCells 177 = .ok (.iload 5, 2) := by decide +kernel
theorem dL_areCells_179 : decode cL_areCells 179 = .ok (.ifCond .ge 8, 3) := by decide +kernel
theorem dL_areCells_182 : decode cL_areCells 182 = .ok (.ldc 20, 2) := by decide +kernel
theorem dL_areCells_184 : decode cL_areCells 184 = .ok (.goto 5, 3) := by decide +kernel
theorem dL_areCells_187 : decode cL_areCells 187 = .ok (.iload 5, 2) := by decide +kernel
theorem dL_areCells_189 : decode cL_areCells 189 = .ok (.if_icmp .eq 5, 3) := by decide +kernel
theorem dL_areCells_192 : decode cL_areCells 192 = .ok (.iconst 0, 1) := by decide +kernel
theorem dL_areCells_193 : decode cL_areCells 193 = .ok (.ireturn, 1) := by decide +kernel
theorem dL_areCells_194 : decode cL_areCells 194 = .ok (.iinc 4 1, 3) := by decide +kernel
theorem dL_areCells_197 : decode cL_areCells 197 = .ok (.goto (-190), 3) := by decide +kernel
theorem dL_areCells_200 : decode cL_areCells 200 = .ok (.aload_n 0, 1) := by decide +kernel
theorem dL_areCells_201 : decode cL_areCells 201 = .ok (.invokevirtual 209, 3) := by decide +kernel
theorem dL_areCells_204 : decode cL_areCells 204 = .ok (.aload_n 1, 1) := by decide +kernel
theorem dL_areCells_205 : decode cL_areCells 205 = .ok (.bipush 54, 2) := by decide +kernel
theorem dL_areCells_207 : decode cL_areCells 207 = .ok (.iaload, 1) := by decide +kernel
theorem dL_areCells_208 : decode cL_areCells 208 = .ok (.if_icmp .ne 41, 3) := by decide +kernel
theorem dL_areCells_211 : decode cL_areCells 211 = .ok (.aload_n 0, 1) := by decide +kernel
theorem dL_areCells_212 : decode cL_areCells 212 = .ok (.invokevirtual 212, 3) := by decide +kernel
theorem dL_areCells_215 : decode cL_areCells 215 = .ok (.aload_n 1, 1) := by decide +kernel
theorem dL_areCells_216 : decode cL_areCells 216 = .ok (.bipush 56, 2) := by decide +kernel
theorem dL_areCells_218 : decode cL_areCells 218 = .ok (.iaload, 1) := by decide +kernel
theorem dL_areCells_219 : decode cL_areCells 219 = .ok (.if_icmp .ne 30, 3) := by decide +kernel
theorem dL_areCells_222 : decode cL_areCells 222 = .ok (.aload_n 0, 1) := by decide +kernel
theorem dL_areCells_223 : decode cL_areCells 223 = .ok (.invokestatic 215, 3) := by decide +kernel
theorem dL_areCells_226 : decode cL_areCells 226 = .ok (.iload_n 3, 1) := by decide +kernel
theorem dL_areCells_227 : decode cL_areCells 227 = .ok (.ifCond .ne 9, 3) := by decide +kernel
theorem dL_areCells_230 : decode cL_areCells 230 = .ok (.ldc2_w 88, 3) := by decide +kernel
theorem dL_areCells_233 : decode cL_areCells 233 = .ok (.goto 8, 3) := by decide +kernel
theorem dL_areCells_236 : decode cL_areCells 236 = .ok (.iload_n 2, 1) := by decide +kernel
theorem dL_areCells_237 : decode cL_areCells 237 = .ok (.i2d, 1) := by decide +kernel
theorem dL_areCells_238 : decode cL_areCells 238 = .ok (.iload_n 3, 1) := by decide +kernel
theorem dL_areCells_239 : decode cL_areCells 239 = .ok (.i2d, 1) := by decide +kernel
theorem dL_areCells_240 : decode cL_areCells 240 = .ok (.ddiv, 1) := by decide +kernel
theorem dL_areCells_241 : decode cL_areCells 241 = .ok (.dcmp .l, 1) := by decide +kernel
theorem dL_areCells_242 : decode cL_areCells 242 = .ok (.ifCond .ne 7, 3) := by decide +kernel
theorem dL_areCells_245 : decode cL_areCells 245 = .ok (.iconst 1, 1) := by decide +kernel
theorem dL_areCells_246 : decode cL_areCells 246 = .ok (.goto 4, 3) := by decide +kernel
theorem dL_areCells_249 : decode cL_areCells 249 = .ok (.iconst 0, 1) := by decide +kernel
theorem dL_areCells_250 : decode cL_areCells 250 = .ok (.ireturn, 1) := by decide +kernel
