theorem b_law_3 : mx_ck m_law 3 [(.dup, [], 0)] = some 4 := by decide +kernel
theorem b_law_7 : mx_ck m_law 7 [(.astore_n 1, [], 0)] = some 8 := by decide +kernel
theorem b_law_11 : mx_ck m_law 11 [(.dup, [], 0)] = some 12 := by decide +kernel
theorem b_law_15 : mx_ck m_law 15 [(.astore_n 2, [], 0), (.iconst 0, [], nI 0), (.istore_n 3, [], 0)] = some 18 := by decide +kernel
theorem b_law_18 : mx_ck m_law 18 [(.iload_n 3, [], 0), (.aload_n 0, [], 0), (.arraylength, [1], 0), (.bipush 6, [], nI 6), (.isub, [], 0)] = some 24 := by decide +kernel
theorem b_law_27 : mx_ck m_law 27 [(.aload_n 0, [], 0), (.iload_n 3, [], 0), (.iaload, [1], 0), (.bipush 31, [], nI 31), (.iand, [], 0)] = some 33 := by decide +kernel
theorem b_law_168 : mx_ck m_law 168 [(.aload_n 1, [], 0), (.aload_n 0, [], 0), (.iload_n 3, [], 0), (.iconst 1, [], nI 1), (.iadd, [], 0), (.iaload, [1], 0), (.aload_n 0, [], 0), (.iload_n 3, [], 0), (.iconst 2, [], nI 2), (.iadd, [], 0), (.iaload, [1], 0), (.aload_n 0, [], 0), (.iload_n 3, [], 0), (.iconst 3, [], nI 3), (.iadd, [], 0), (.iaload, [1], 0)] = some 184 := by decide +kernel
theorem b_law_187 : mx_ck m_law 187 [(.aload_n 2, [], 0), (.aload_n 0, [], 0), (.iload_n 3, [], 0), (.iconst 1, [], nI 1), (.iadd, [], 0), (.iaload, [1], 0), (.aload_n 0, [], 0), (.iload_n 3, [], 0), (.iconst 2, [], nI 2), (.iadd, [], 0), (.iaload, [1], 0), (.aload_n 0, [], 0), (.iload_n 3, [], 0), (.iconst 3, [], nI 3), (.iadd, [], 0), (.iaload, [1], 0)] = some 203 := by decide +kernel
theorem b_law_209 : mx_ck m_law 209 [(.iconst 0, [], nI 0)] = some 210 := by decide +kernel
theorem b_law_211 : mx_ck m_law 211 [(.aload_n 1, [], 0), (.aload_n 0, [], 0), (.iload_n 3, [], 0), (.iconst 1, [], nI 1), (.iadd, [], 0), (.iaload, [1], 0), (.aload_n 0, [], 0), (.iload_n 3, [], 0), (.iconst 2, [], nI 2), (.iadd, [], 0), (.iaload, [1], 0), (.aload_n 0, [], 0), (.iload_n 3, [], 0), (.iconst 3, [], nI 3), (.iadd, [], 0), (.iaload, [1], 0)] = some 227 := by decide +kernel
theorem b_law_230 : mx_ck m_law 230 [(.aload_n 2, [], 0), (.aload_n 0, [], 0), (.iload_n 3, [], 0), (.iconst 1, [], nI 1), (.iadd, [], 0), (.iaload, [1], 0), (.aload_n 0, [], 0), (.iload_n 3, [], 0), (.iconst 2, [], nI 2), (.iadd, [], 0), (.iaload, [1], 0), (.aload_n 0, [], 0), (.iload_n 3, [], 0), (.iconst 3, [], nI 3), (.iadd, [], 0), (.iaload, [1], 0)] = some 246 := by decide +kernel
theorem b_law_252 : mx_ck m_law 252 [(.iconst 0, [], nI 0)] = some 253 := by decide +kernel
theorem b_law_254 : mx_ck m_law 254 [(.aload_n 1, [], 0), (.aload_n 0, [], 0), (.iload_n 3, [], 0), (.iconst 1, [], nI 1), (.iadd, [], 0), (.iaload, [1], 0), (.aload_n 0, [], 0), (.iload_n 3, [], 0), (.iconst 2, [], nI 2), (.iadd, [], 0), (.iaload, [1], 0), (.aload_n 0, [], 0), (.iload_n 3, [], 0), (.iconst 3, [], nI 3), (.iadd, [], 0), (.iaload, [1], 0), (.aload_n 0, [], 0), (.iload_n 3, [], 0), (.iconst 4, [], nI 4), (.iadd, [], 0), (.iaload, [1], 0), (.aload_n 0, [], 0), (.iload_n 3, [], 0), (.iconst 5, [], nI 5), (.iadd, [], 0), (.iaload, [1], 0)] = some 280 := by decide +kernel
theorem b_law_283 : mx_ck m_law 283 [(.aload_n 2, [], 0), (.aload_n 0, [], 0), (.iload_n 3, [], 0), (.iconst 1, [], nI 1), (.iadd, [], 0), (.iaload, [1], 0), (.aload_n 0, [], 0), (.iload_n 3, [], 0), (.iconst 2, [], nI 2), (.iadd, [], 0), (.iaload, [1], 0), (.aload_n 0, [], 0), (.iload_n 3, [], 0), (.iconst 3, [], nI 3), (.iadd, [], 0), (.iaload, [1], 0), (.aload_n 0, [], 0), (.iload_n 3, [], 0), (.iconst 4, [], nI 4), (.iadd, [], 0), (.iaload, [1], 0), (.aload_n 0, [], 0), (.iload_n 3, [], 0), (.iconst 5, [], nI 5), (.iadd, [], 0), (.iaload, [1], 0)] = some 309 := by decide +kernel
theorem b_law_315 : mx_ck m_law 315 [(.iconst 0, [], nI 0)] = some 316 := by decide +kernel
theorem b_law_317 : mx_ck m_law 317 [(.aload_n 1, [], 0), (.aload_n 0, [], 0), (.iload_n 3, [], 0), (.iconst 1, [], nI 1), (.iadd, [], 0), (.iaload, [1], 0)] = some 323 := by decide +kernel
theorem b_law_326 : mx_ck m_law 326 [(.aload_n 2, [], 0), (.aload_n 0, [], 0), (.iload_n 3, [], 0), (.iconst 1, [], nI 1), (.iadd, [], 0), (.iaload, [1], 0)] = some 332 := by decide +kernel
theorem b_law_338 : mx_ck m_law 338 [(.iconst 0, [], nI 0)] = some 339 := by decide +kernel
theorem b_law_340 : mx_ck m_law 340 [(.aload_n 1, [], 0), (.aload_n 0, [], 0), (.iload_n 3, [], 0), (.iconst 1, [], nI 1), (.iadd, [], 0), (.iaload, [1], 0)] = some 346 := by decide +kernel
theorem b_law_349 : mx_ck m_law 349 [(.aload_n 2, [], 0), (.aload_n 0, [], 0), (.iload_n 3, [], 0), (.iconst 1, [], nI 1), (.iadd, [], 0), (.iaload, [1], 0)] = some 355 := by decide +kernel
theorem b_law_361 : mx_ck m_law 361 [(.iconst 0, [], nI 0)] = some 362 := by decide +kernel
theorem b_law_363 : mx_ck m_law 363 [(.aload_n 1, [], 0)] = some 364 := by decide +kernel
theorem b_law_367 : mx_ck m_law 367 [(.aload_n 2, [], 0)] = some 368 := by decide +kernel
theorem b_law_374 : mx_ck m_law 374 [(.iconst 0, [], nI 0)] = some 375 := by decide +kernel
theorem b_law_376 : mx_ck m_law 376 [(.aload_n 1, [], 0)] = some 377 := by decide +kernel
theorem b_law_380 : mx_ck m_law 380 [(.aload_n 2, [], 0)] = some 381 := by decide +kernel
theorem b_law_387 : mx_ck m_law 387 [(.iconst 0, [], nI 0)] = some 388 := by decide +kernel
theorem b_law_389 : mx_ck m_law 389 [(.aload_n 1, [], 0)] = some 390 := by decide +kernel
theorem b_law_393 : mx_ck m_law 393 [(.aload_n 2, [], 0)] = some 394 := by decide +kernel
theorem b_law_400 : mx_ck m_law 400 [(.iconst 0, [], nI 0)] = some 401 := by decide +kernel
theorem b_law_402 : mx_ck m_law 402 [(.aload_n 1, [], 0), (.aload_n 0, [], 0), (.iload_n 3, [], 0), (.iconst 1, [], nI 1), (.iadd, [], 0), (.iaload, [1], 0), (.aload_n 0, [], 0), (.iload_n 3, [], 0), (.iconst 2, [], nI 2), (.iadd, [], 0), (.iaload, [1], 0), (.aload_n 0, [], 0), (.iload_n 3, [], 0), (.iconst 3, [], nI 3), (.iadd, [], 0), (.iaload, [1], 0), (.aload_n 0, [], 0), (.iload_n 3, [], 0), (.iconst 4, [], nI 4), (.iadd, [], 0), (.iaload, [1], 0)] = some 423 := by decide +kernel
theorem b_law_426 : mx_ck m_law 426 [(.aload_n 2, [], 0), (.aload_n 0, [], 0), (.iload_n 3, [], 0), (.iconst 1, [], nI 1), (.iadd, [], 0), (.iaload, [1], 0), (.aload_n 0, [], 0), (.iload_n 3, [], 0), (.iconst 2, [], nI 2), (.iadd, [], 0), (.iaload, [1], 0), (.aload_n 0, [], 0), (.iload_n 3, [], 0), (.iconst 3, [], nI 3), (.iadd, [], 0), (.iaload, [1], 0), (.aload_n 0, [], 0), (.iload_n 3, [], 0), (.iconst 4, [], nI 4), (.iadd, [], 0), (.iaload, [1], 0)] = some 447 := by decide +kernel
theorem b_law_453 : mx_ck m_law 453 [(.iconst 0, [], nI 0)] = some 454 := by decide +kernel
theorem b_law_455 : mx_ck m_law 455 [(.aload_n 1, [], 0), (.aload_n 0, [], 0), (.iload_n 3, [], 0), (.iconst 1, [], nI 1), (.iadd, [], 0), (.iaload, [1], 0), (.aload_n 0, [], 0), (.iload_n 3, [], 0), (.iconst 2, [], nI 2), (.iadd, [], 0), (.iaload, [1], 0)] = some 466 := by decide +kernel
theorem b_law_469 : mx_ck m_law 469 [(.aload_n 2, [], 0), (.aload_n 0, [], 0), (.iload_n 3, [], 0), (.iconst 1, [], nI 1), (.iadd, [], 0), (.iaload, [1], 0), (.aload_n 0, [], 0), (.iload_n 3, [], 0), (.iconst 2, [], nI 2), (.iadd, [], 0), (.iaload, [1], 0)] = some 480 := by decide +kernel
theorem b_law_486 : mx_ck m_law 486 [(.iconst 0, [], nI 0)] = some 487 := by decide +kernel
theorem b_law_488 : mx_ck m_law 488 [(.aload_n 1, [], 0), (.aload_n 0, [], 0), (.iload_n 3, [], 0), (.iconst 1, [], nI 1), (.iadd, [], 0), (.iaload, [1], 0), (.aload_n 0, [], 0), (.iload_n 3, [], 0), (.iconst 2, [], nI 2), (.iadd, [], 0), (.iaload, [1], 0)] = some 499 := by decide +kernel
theorem b_law_502 : mx_ck m_law 502 [(.aload_n 2, [], 0), (.aload_n 0, [], 0), (.iload_n 3, [], 0), (.iconst 1, [], nI 1), (.iadd, [], 0), (.iaload, [1], 0), (.aload_n 0, [], 0), (.iload_n 3, [], 0), (.iconst 2, [], nI 2), (.iadd, [], 0), (.iaload, [1], 0)] = some 513 := by decide +kernel
theorem b_law_519 : mx_ck m_law 519 [(.iconst 0, [], nI 0)] = some 520 := by decide +kernel
theorem b_law_521 : mx_ck m_law 521 [(.aload_n 1, [], 0), (.aload_n 0, [], 0), (.iload_n 3, [], 0), (.iconst 1, [], nI 1), (.iadd, [], 0), (.iaload, [1], 0), (.aload_n 0, [], 0), (.iload_n 3, [], 0), (.iconst 2, [], nI 2), (.iadd, [], 0), (.iaload, [1], 0)] = some 532 := by decide +kernel
theorem b_law_535 : mx_ck m_law 535 [(.aload_n 2, [], 0), (.aload_n 0, [], 0), (.iload_n 3, [], 0), (.iconst 1, [], nI 1), (.iadd, [], 0), (.iaload, [1], 0), (.aload_n 0, [], 0), (.iload_n 3, [], 0), (.iconst 2, [], nI 2), (.iadd, [], 0), (.iaload, [1], 0)] = some 546 := by decide +kernel
theorem b_law_552 : mx_ck m_law 552 [(.iconst 0, [], nI 0)] = some 553 := by decide +kernel
theorem b_law_554 : mx_ck m_law 554 [(.aload_n 1, [], 0), (.aload_n 0, [], 0), (.iload_n 3, [], 0), (.iconst 1, [], nI 1), (.iadd, [], 0), (.iaload, [1], 0), (.aload_n 0, [], 0), (.iload_n 3, [], 0), (.iconst 2, [], nI 2), (.iadd, [], 0), (.iaload, [1], 0)] = some 565 := by decide +kernel
theorem b_law_568 : mx_ck m_law 568 [(.aload_n 2, [], 0), (.aload_n 0, [], 0), (.iload_n 3, [], 0), (.iconst 1, [], nI 1), (.iadd, [], 0), (.iaload, [1], 0), (.aload_n 0, [], 0), (.iload_n 3, [], 0), (.iconst 2, [], nI 2), (.iadd, [], 0), (.iaload, [1], 0)] = some 579 := by decide +kernel
theorem b_law_585 : mx_ck m_law 585 [(.iconst 0, [], nI 0)] = some 586 := by decide +kernel
theorem b_law_587 : mx_ck m_law 587 [(.aload_n 1, [], 0)] = some 588 := by decide +kernel
theorem b_law_591 : mx_ck m_law 591 [(.aload_n 2, [], 0)] = some 592 := by decide +kernel
theorem b_law_598 : mx_ck m_law 598 [(.iconst 0, [], nI 0)] = some 599 := by decide +kernel
theorem b_law_600 : mx_ck m_law 600 [(.aload_n 1, [], 0), (.aload_n 0, [], 0), (.iload_n 3, [], 0), (.iconst 1, [], nI 1), (.iadd, [], 0), (.iaload, [1], 0)] = some 606 := by decide +kernel
theorem b_law_609 : mx_ck m_law 609 [(.aload_n 2, [], 0), (.aload_n 0, [], 0), (.iload_n 3, [], 0), (.iconst 1, [], nI 1), (.iadd, [], 0), (.iaload, [1], 0)] = some 615 := by decide +kernel
theorem b_law_621 : mx_ck m_law 621 [(.iconst 0, [], nI 0)] = some 622 := by decide +kernel
theorem b_law_623 : mx_ck m_law 623 [(.aload_n 1, [], 0), (.aload_n 0, [], 0), (.iload_n 3, [], 0), (.iconst 1, [], nI 1), (.iadd, [], 0), (.iaload, [1], 0), (.aload_n 0, [], 0), (.iload_n 3, [], 0), (.iconst 2, [], nI 2), (.iadd, [], 0), (.iaload, [1], 0)] = some 634 := by decide +kernel
theorem b_law_637 : mx_ck m_law 637 [(.aload_n 2, [], 0), (.aload_n 0, [], 0), (.iload_n 3, [], 0), (.iconst 1, [], nI 1), (.iadd, [], 0), (.iaload, [1], 0), (.aload_n 0, [], 0), (.iload_n 3, [], 0), (.iconst 2, [], nI 2), (.iadd, [], 0), (.iaload, [1], 0)] = some 648 := by decide +kernel
theorem b_law_654 : mx_ck m_law 654 [(.iconst 0, [], nI 0)] = some 655 := by decide +kernel
theorem b_law_656 : mx_ck m_law 656 [(.aload_n 1, [], 0), (.aload_n 0, [], 0), (.iload_n 3, [], 0), (.iconst 1, [], nI 1), (.iadd, [], 0), (.iaload, [1], 0)] = some 662 := by decide +kernel
theorem b_law_665 : mx_ck m_law 665 [(.aload_n 2, [], 0), (.aload_n 0, [], 0), (.iload_n 3, [], 0), (.iconst 1, [], nI 1), (.iadd, [], 0), (.iaload, [1], 0)] = some 671 := by decide +kernel
theorem b_law_677 : mx_ck m_law 677 [(.iconst 0, [], nI 0)] = some 678 := by decide +kernel
theorem b_law_679 : mx_ck m_law 679 [(.aload_n 1, [], 0), (.aload_n 0, [], 0), (.iload_n 3, [], 0), (.iconst 1, [], nI 1), (.iadd, [], 0), (.iaload, [1], 0), (.aload_n 0, [], 0), (.iload_n 3, [], 0), (.iconst 2, [], nI 2), (.iadd, [], 0), (.iaload, [1], 0)] = some 690 := by decide +kernel
theorem b_law_693 : mx_ck m_law 693 [(.aload_n 2, [], 0), (.aload_n 0, [], 0), (.iload_n 3, [], 0), (.iconst 1, [], nI 1), (.iadd, [], 0), (.iaload, [1], 0), (.aload_n 0, [], 0), (.iload_n 3, [], 0), (.iconst 2, [], nI 2), (.iadd, [], 0), (.iaload, [1], 0)] = some 704 := by decide +kernel
theorem b_law_710 : mx_ck m_law 710 [(.iconst 0, [], nI 0)] = some 711 := by decide +kernel
theorem b_law_712 : mx_ck m_law 712 [(.aload_n 1, [], 0), (.aload_n 0, [], 0), (.iload_n 3, [], 0), (.iconst 1, [], nI 1), (.iadd, [], 0), (.iaload, [1], 0), (.aload_n 0, [], 0), (.iload_n 3, [], 0), (.iconst 2, [], nI 2), (.iadd, [], 0), (.iaload, [1], 0)] = some 723 := by decide +kernel
theorem b_law_726 : mx_ck m_law 726 [(.aload_n 2, [], 0), (.aload_n 0, [], 0), (.iload_n 3, [], 0), (.iconst 1, [], nI 1), (.iadd, [], 0), (.iaload, [1], 0), (.aload_n 0, [], 0), (.iload_n 3, [], 0), (.iconst 2, [], nI 2), (.iadd, [], 0), (.iaload, [1], 0)] = some 737 := by decide +kernel
theorem b_law_743 : mx_ck m_law 743 [(.iconst 0, [], nI 0)] = some 744 := by decide +kernel
theorem b_law_745 : mx_ck m_law 745 [(.aload_n 1, [], 0), (.aload_n 0, [], 0), (.iload_n 3, [], 0), (.iconst 1, [], nI 1), (.iadd, [], 0), (.iaload, [1], 0), (.aload_n 0, [], 0), (.iload_n 3, [], 0), (.iconst 2, [], nI 2), (.iadd, [], 0), (.iaload, [1], 0), (.aload_n 0, [], 0), (.iload_n 3, [], 0), (.iconst 3, [], nI 3), (.iadd, [], 0), (.iaload, [1], 0)] = some 761 := by decide +kernel
theorem b_law_764 : mx_ck m_law 764 [(.aload_n 2, [], 0), (.aload_n 0, [], 0), (.iload_n 3, [], 0), (.iconst 1, [], nI 1), (.iadd, [], 0), (.iaload, [1], 0), (.aload_n 0, [], 0), (.iload_n 3, [], 0), (.iconst 2, [], nI 2), (.iadd, [], 0), (.iaload, [1], 0), (.aload_n 0, [], 0), (.iload_n 3, [], 0), (.iconst 3, [], nI 3), (.iadd, [], 0), (.iaload, [1], 0)] = some 780 := by decide +kernel
theorem b_law_786 : mx_ck m_law 786 [(.iconst 0, [], nI 0)] = some 787 := by decide +kernel
theorem b_law_788 : mx_ck m_law 788 [(.aload_n 1, [], 0), (.aload_n 0, [], 0), (.iload_n 3, [], 0), (.iconst 1, [], nI 1), (.iadd, [], 0), (.iaload, [1], 0), (.aload_n 0, [], 0), (.iload_n 3, [], 0), (.iconst 2, [], nI 2), (.iadd, [], 0), (.iaload, [1], 0), (.aload_n 0, [], 0), (.iload_n 3, [], 0), (.iconst 3, [], nI 3), (.iadd, [], 0), (.iaload, [1], 0), (.aload_n 0, [], 0), (.iload_n 3, [], 0), (.iconst 4, [], nI 4), (.iadd, [], 0), (.iaload, [1], 0), (.aload_n 0, [], 0), (.iload_n 3, [], 0), (.iconst 5, [], nI 5), (.iadd, [], 0), (.iaload, [1], 0)] = some 814 := by decide +kernel
theorem b_law_817 : mx_ck m_law 817 [(.aload_n 2, [], 0), (.aload_n 0, [], 0), (.iload_n 3, [], 0), (.iconst 1, [], nI 1), (.iadd, [], 0), (.iaload, [1], 0), (.aload_n 0, [], 0), (.iload_n 3, [], 0), (.iconst 2, [], nI 2), (.iadd, [], 0), (.iaload, [1], 0), (.aload_n 0, [], 0), (.iload_n 3, [], 0), (.iconst 3, [], nI 3), (.iadd, [], 0), (.iaload, [1], 0), (.aload_n 0, [], 0), (.iload_n 3, [], 0), (.iconst 4, [], nI 4), (.iadd, [], 0), (.iaload, [1], 0), (.aload_n 0, [], 0), (.iload_n 3, [], 0), (.iconst 5, [], nI 5), (.iadd, [], 0), (.iaload, [1], 0)] = some 843 := by decide +kernel
theorem b_law_849 : mx_ck m_law 849 [(.iconst 0, [], nI 0)] = some 850 := by decide +kernel
theorem b_law_851 : mx_ck m_law 851 [(.aload_n 1, [], 0), (.aload_n 0, [], 0), (.iload_n 3, [], 0), (.iconst 1, [], nI 1), (.iadd, [], 0), (.iaload, [1], 0), (.aload_n 0, [], 0), (.iload_n 3, [], 0), (.iconst 2, [], nI 2), (.iadd, [], 0), (.iaload, [1], 0), (.aload_n 0, [], 0), (.iload_n 3, [], 0), (.iconst 3, [], nI 3), (.iadd, [], 0), (.iaload, [1], 0)] = some 867 := by decide +kernel
theorem b_law_870 : mx_ck m_law 870 [(.aload_n 2, [], 0), (.aload_n 0, [], 0), (.iload_n 3, [], 0), (.iconst 1, [], nI 1), (.iadd, [], 0), (.iaload, [1], 0), (.aload_n 0, [], 0), (.iload_n 3, [], 0), (.iconst 2, [], nI 2), (.iadd, [], 0), (.iaload, [1], 0), (.aload_n 0, [], 0), (.iload_n 3, [], 0), (.iconst 3, [], nI 3), (.iadd, [], 0), (.iaload, [1], 0)] = some 886 := by decide +kernel
theorem b_law_892 : mx_ck m_law 892 [(.iconst 0, [], nI 0)] = some 893 := by decide +kernel
theorem b_law_894 : mx_ck m_law 894 [(.aload_n 1, [], 0), (.aload_n 0, [], 0), (.iload_n 3, [], 0), (.iconst 1, [], nI 1), (.iadd, [], 0), (.iaload, [1], 0)] = some 900 := by decide +kernel
theorem b_law_903 : mx_ck m_law 903 [(.aload_n 2, [], 0), (.aload_n 0, [], 0), (.iload_n 3, [], 0), (.iconst 1, [], nI 1), (.iadd, [], 0), (.iaload, [1], 0)] = some 909 := by decide +kernel
theorem b_law_915 : mx_ck m_law 915 [(.iconst 0, [], nI 0)] = some 916 := by decide +kernel
theorem b_law_917 : mx_ck m_law 917 [(.aload_n 1, [], 0), (.aload_n 0, [], 0), (.iload_n 3, [], 0), (.iconst 1, [], nI 1), (.iadd, [], 0), (.iaload, [1], 0)] = some 923 := by decide +kernel
theorem b_law_926 : mx_ck m_law 926 [(.aload_n 2, [], 0), (.aload_n 0, [], 0), (.iload_n 3, [], 0), (.iconst 1, [], nI 1), (.iadd, [], 0), (.iaload, [1], 0)] = some 932 := by decide +kernel
theorem b_law_938 : mx_ck m_law 938 [(.iconst 0, [], nI 0)] = some 939 := by decide +kernel
theorem b_law_940 : mx_ck m_law 940 [(.aload_n 1, [], 0), (.aload_n 0, [], 0), (.iload_n 3, [], 0), (.iconst 1, [], nI 1), (.iadd, [], 0), (.iaload, [1], 0)] = some 946 := by decide +kernel
theorem b_law_949 : mx_ck m_law 949 [(.aload_n 2, [], 0), (.aload_n 0, [], 0), (.iload_n 3, [], 0), (.iconst 1, [], nI 1), (.iadd, [], 0), (.iaload, [1], 0)] = some 955 := by decide +kernel
theorem b_law_961 : mx_ck m_law 961 [(.iconst 0, [], nI 0)] = some 962 := by decide +kernel
theorem b_law_963 : mx_ck m_law 963 [(.aload_n 1, [], 0), (.aload_n 0, [], 0), (.iload_n 3, [], 0), (.iconst 1, [], nI 1), (.iadd, [], 0), (.iaload, [1], 0), (.aload_n 0, [], 0), (.iload_n 3, [], 0), (.iconst 2, [], nI 2), (.iadd, [], 0), (.iaload, [1], 0)] = some 974 := by decide +kernel
theorem b_law_977 : mx_ck m_law 977 [(.aload_n 2, [], 0), (.aload_n 0, [], 0), (.iload_n 3, [], 0), (.iconst 1, [], nI 1), (.iadd, [], 0), (.iaload, [1], 0), (.aload_n 0, [], 0), (.iload_n 3, [], 0), (.iconst 2, [], nI 2), (.iadd, [], 0), (.iaload, [1], 0)] = some 988 := by decide +kernel
theorem b_law_994 : mx_ck m_law 994 [(.iconst 0, [], nI 0)] = some 995 := by decide +kernel
theorem b_law_996 : mx_ck m_law 996 [(.aload_n 1, [], 0), (.aload_n 0, [], 0), (.iload_n 3, [], 0), (.iconst 1, [], nI 1), (.iadd, [], 0), (.iaload, [1], 0), (.aload_n 0, [], 0), (.iload_n 3, [], 0), (.iconst 2, [], nI 2), (.iadd, [], 0), (.iaload, [1], 0)] = some 1007 := by decide +kernel
theorem b_law_1010 : mx_ck m_law 1010 [(.aload_n 2, [], 0), (.aload_n 0, [], 0), (.iload_n 3, [], 0), (.iconst 1, [], nI 1), (.iadd, [], 0), (.iaload, [1], 0), (.aload_n 0, [], 0), (.iload_n 3, [], 0), (.iconst 2, [], nI 2), (.iadd, [], 0), (.iaload, [1], 0)] = some 1021 := by decide +kernel
theorem b_law_1027 : mx_ck m_law 1027 [(.iconst 0, [], nI 0)] = some 1028 := by decide +kernel
theorem b_law_1029 : mx_ck m_law 1029 [(.aload_n 1, [], 0), (.aload_n 0, [], 0), (.iload_n 3, [], 0), (.iconst 1, [], nI 1), (.iadd, [], 0), (.iaload, [1], 0)] = some 1035 := by decide +kernel
theorem b_law_1038 : mx_ck m_law 1038 [(.aload_n 2, [], 0), (.aload_n 0, [], 0), (.iload_n 3, [], 0), (.iconst 1, [], nI 1), (.iadd, [], 0), (.iaload, [1], 0)] = some 1044 := by decide +kernel
theorem b_law_1050 : mx_ck m_law 1050 [(.iconst 0, [], nI 0)] = some 1051 := by decide +kernel
theorem b_law_1052 : mx_ck m_law 1052 [(.aload_n 1, [], 0), (.aload_n 0, [], 0), (.iload_n 3, [], 0), (.iconst 1, [], nI 1), (.iadd, [], 0), (.iaload, [1], 0)] = some 1058 := by decide +kernel
theorem b_law_1061 : mx_ck m_law 1061 [(.aload_n 2, [], 0), (.aload_n 0, [], 0), (.iload_n 3, [], 0), (.iconst 1, [], nI 1), (.iadd, [], 0), (.iaload, [1], 0)] = some 1067 := by decide +kernel
theorem b_law_1073 : mx_ck m_law 1073 [(.iconst 0, [], nI 0)] = some 1074 := by decide +kernel
theorem b_law_1075 : mx_ck m_law 1075 [(.aload_n 1, [], 0)] = some 1076 := by decide +kernel
theorem b_law_1079 : mx_ck m_law 1079 [(.aload_n 2, [], 0)] = some 1080 := by decide +kernel
theorem b_law_1086 : mx_ck m_law 1086 [(.iconst 0, [], nI 0)] = some 1087 := by decide +kernel
theorem b_law_1088 : mx_ck m_law 1088 [(.iinc 3 6, [], nI 6)] = some 1091 := by decide +kernel
theorem b_law_1094 : mx_ck m_law 1094 [(.iconst 1, [], nI 1)] = some 1095 := by decide +kernel
theorem d_law_0 : decode m_law.2.1 0 = .ok (.new 7, 3) := by decide +kernel
theorem d_law_4 : decode m_law.2.1 4 = .ok (.invokespecial 9, 3) := by decide +kernel
theorem d_law_8 : decode m_law.2.1 8 = .ok (.new 10, 3) := by decide +kernel
theorem d_law_12 : decode m_law.2.1 12 = .ok (.invokespecial 12, 3) := by decide +kernel
theorem d_law_24 : decode m_law.2.1 24 = .ok (.if_icmp .gt 1070, 3) := by decide +kernel
theorem d_law_33 : decode m_law.2.1 33 = .ok (.tableswitch 1055 0 29 #[135, 178, 221, 284, 307, 330, 343, 356, 369, 422, 455, 488, 521, 554, 567, 590, 623, 646, 679, 712, 755, 818, 861, 884, 907, 930, 963, 996, 1019, 1042], 135) := by decide +kernel
theorem d_law_184 : decode m_law.2.1 184 = .ok (.invokevirtual 13, 3) := by decide +kernel
theorem c_law_184 : mx_cv m_law m_TS_row 13 3 [418, 419, 420, 79, 421] = true := by decide +kernel
theorem d_law_203 : decode m_law.2.1 203 = .ok (.invokevirtual 17, 3) := by decide +kernel
theorem c_law_203 : mx_cv m_law m_Mo_row 17 3 [1038, 1039, 1040, 90, 1041] = true := by decide +kernel
theorem d_law_206 : decode m_law.2.1 206 = .ok (.if_icmp .eq 882, 3) := by decide +kernel
theorem d_law_210 : decode m_law.2.1 210 = .ok (.ireturn, 1) := by decide +kernel
theorem d_law_227 : decode m_law.2.1 227 = .ok (.invokevirtual 18, 3) := by decide +kernel
theorem c_law_227 : mx_cv m_law m_TS_set 18 3 [434, 435, 436, 79, 437] = true := by decide +kernel
theorem d_law_246 : decode m_law.2.1 246 = .ok (.invokevirtual 21, 3) := by decide +kernel
theorem c_law_246 : mx_cv m_law m_Mo_set 21 3 [1056, 1057, 1058, 90, 1059] = true := by decide +kernel
theorem d_law_249 : decode m_law.2.1 249 = .ok (.if_icmp .eq 839, 3) := by decide +kernel
theorem d_law_253 : decode m_law.2.1 253 = .ok (.ireturn, 1) := by decide +kernel
theorem d_law_280 : decode m_law.2.1 280 = .ok (.invokevirtual 22, 3) := by decide +kernel
theorem c_law_280 : mx_cv m_law m_TS_copy 22 5 [450, 451, 452, 79, 453] = true := by decide +kernel
theorem d_law_309 : decode m_law.2.1 309 = .ok (.invokevirtual 26, 3) := by decide +kernel
theorem c_law_309 : mx_cv m_law m_Mo_copy 26 5 [1060, 1061, 1062, 90, 1063] = true := by decide +kernel
theorem d_law_312 : decode m_law.2.1 312 = .ok (.if_icmp .eq 776, 3) := by decide +kernel
theorem d_law_316 : decode m_law.2.1 316 = .ok (.ireturn, 1) := by decide +kernel
theorem d_law_323 : decode m_law.2.1 323 = .ok (.invokevirtual 27, 3) := by decide +kernel
theorem c_law_323 : mx_cv m_law m_TS_drop 27 1 [465, 466, 467, 79, 468] = true := by decide +kernel
theorem d_law_332 : decode m_law.2.1 332 = .ok (.invokevirtual 31, 3) := by decide +kernel
theorem c_law_332 : mx_cv m_law m_Mo_drop 31 1 [1064, 1065, 1066, 90, 1067] = true := by decide +kernel
theorem d_law_335 : decode m_law.2.1 335 = .ok (.if_icmp .eq 753, 3) := by decide +kernel
theorem d_law_339 : decode m_law.2.1 339 = .ok (.ireturn, 1) := by decide +kernel
theorem d_law_346 : decode m_law.2.1 346 = .ok (.invokevirtual 32, 3) := by decide +kernel
theorem c_law_346 : mx_cv m_law m_TS_feed 32 1 [473, 474, 475, 79, 476] = true := by decide +kernel
theorem d_law_355 : decode m_law.2.1 355 = .ok (.invokevirtual 35, 3) := by decide +kernel
theorem c_law_355 : mx_cv m_law m_Mo_feed 35 1 [1068, 1069, 1070, 90, 1071] = true := by decide +kernel
theorem d_law_358 : decode m_law.2.1 358 = .ok (.if_icmp .eq 730, 3) := by decide +kernel
theorem d_law_362 : decode m_law.2.1 362 = .ok (.ireturn, 1) := by decide +kernel
theorem d_law_364 : decode m_law.2.1 364 = .ok (.invokevirtual 36, 3) := by decide +kernel
theorem c_law_364 : mx_cv m_law m_TS_house 36 0 [482, 483, 484, 79, 485] = true := by decide +kernel
theorem d_law_368 : decode m_law.2.1 368 = .ok (.invokevirtual 40, 3) := by decide +kernel
theorem c_law_368 : mx_cv m_law m_Mo_house 40 0 [1078, 1079, 1080, 90, 1081] = true := by decide +kernel
theorem d_law_371 : decode m_law.2.1 371 = .ok (.if_icmp .eq 717, 3) := by decide +kernel
theorem d_law_375 : decode m_law.2.1 375 = .ok (.ireturn, 1) := by decide +kernel
theorem d_law_377 : decode m_law.2.1 377 = .ok (.invokevirtual 41, 3) := by decide +kernel
theorem c_law_377 : mx_cv m_law m_TS_fault 41 0 [553, 554, 555, 79, 556] = true := by decide +kernel
theorem d_law_381 : decode m_law.2.1 381 = .ok (.invokevirtual 44, 3) := by decide +kernel
theorem c_law_381 : mx_cv m_law m_Mo_fault 44 0 [1074, 1075, 1076, 90, 1077] = true := by decide +kernel
theorem d_law_384 : decode m_law.2.1 384 = .ok (.if_icmp .eq 704, 3) := by decide +kernel
theorem d_law_388 : decode m_law.2.1 388 = .ok (.ireturn, 1) := by decide +kernel
theorem d_law_390 : decode m_law.2.1 390 = .ok (.invokevirtual 45, 3) := by decide +kernel
theorem c_law_390 : mx_cv m_law m_TS_undo 45 0 [557, 558, 559, 79, 560] = true := by decide +kernel
theorem d_law_394 : decode m_law.2.1 394 = .ok (.invokevirtual 48, 3) := by decide +kernel
theorem c_law_394 : mx_cv m_law m_Mo_undo 48 0 [1151, 1152, 1153, 90, 1154] = true := by decide +kernel
theorem d_law_397 : decode m_law.2.1 397 = .ok (.if_icmp .eq 691, 3) := by decide +kernel
theorem d_law_401 : decode m_law.2.1 401 = .ok (.ireturn, 1) := by decide +kernel
theorem d_law_423 : decode m_law.2.1 423 = .ok (.invokevirtual 49, 3) := by decide +kernel
theorem c_law_423 : mx_cv m_law m_TS_anew 49 4 [567, 568, 569, 79, 570] = true := by decide +kernel
theorem d_law_447 : decode m_law.2.1 447 = .ok (.invokevirtual 53, 3) := by decide +kernel
theorem c_law_447 : mx_cv m_law m_Mo_anew 53 4 [1135, 1136, 1137, 90, 1138] = true := by decide +kernel
theorem d_law_450 : decode m_law.2.1 450 = .ok (.if_icmp .eq 638, 3) := by decide +kernel
theorem d_law_454 : decode m_law.2.1 454 = .ok (.ireturn, 1) := by decide +kernel
theorem d_law_466 : decode m_law.2.1 466 = .ok (.invokevirtual 54, 3) := by decide +kernel
theorem c_law_466 : mx_cv m_law m_TS_type 54 2 [582, 583, 584, 79, 585] = true := by decide +kernel
theorem d_law_480 : decode m_law.2.1 480 = .ok (.invokevirtual 58, 3) := by decide +kernel
theorem c_law_480 : mx_cv m_law m_Mo_type 58 2 [1156, 1157, 1158, 90, 1159] = true := by decide +kernel
theorem d_law_483 : decode m_law.2.1 483 = .ok (.if_icmp .eq 605, 3) := by decide +kernel
theorem d_law_487 : decode m_law.2.1 487 = .ok (.ireturn, 1) := by decide +kernel
theorem d_law_499 : decode m_law.2.1 499 = .ok (.invokevirtual 59, 3) := by decide +kernel
theorem c_law_499 : mx_cv m_law m_TS_lowest 59 2 [587, 588, 589, 79, 590] = true := by decide +kernel
theorem d_law_513 : decode m_law.2.1 513 = .ok (.invokevirtual 62, 3) := by decide +kernel
theorem c_law_513 : mx_cv m_law m_Mo_lowest 62 2 [1163, 1164, 1165, 90, 1166] = true := by decide +kernel
theorem d_law_516 : decode m_law.2.1 516 = .ok (.if_icmp .eq 572, 3) := by decide +kernel
theorem d_law_520 : decode m_law.2.1 520 = .ok (.ireturn, 1) := by decide +kernel
theorem d_law_532 : decode m_law.2.1 532 = .ok (.invokevirtual 63, 3) := by decide +kernel
theorem c_law_532 : mx_cv m_law m_TS_lies 63 2 [686, 687, 688, 79, 689] = true := by decide +kernel
theorem d_law_546 : decode m_law.2.1 546 = .ok (.invokevirtual 66, 3) := by decide +kernel
theorem c_law_546 : mx_cv m_law m_Mo_lies 66 2 [1217, 1218, 1219, 90, 1220] = true := by decide +kernel
theorem d_law_549 : decode m_law.2.1 549 = .ok (.if_icmp .eq 539, 3) := by decide +kernel
theorem d_law_553 : decode m_law.2.1 553 = .ok (.ireturn, 1) := by decide +kernel
theorem d_law_565 : decode m_law.2.1 565 = .ok (.invokevirtual 67, 3) := by decide +kernel
theorem c_law_565 : mx_cv m_law m_TS_others 67 2 [690, 691, 692, 79, 693] = true := by decide +kernel
theorem d_law_579 : decode m_law.2.1 579 = .ok (.invokevirtual 70, 3) := by decide +kernel
theorem c_law_579 : mx_cv m_law m_Mo_others 70 2 [1225, 1226, 1227, 90, 1228] = true := by decide +kernel
theorem d_law_582 : decode m_law.2.1 582 = .ok (.if_icmp .eq 506, 3) := by decide +kernel
theorem d_law_586 : decode m_law.2.1 586 = .ok (.ireturn, 1) := by decide +kernel
theorem d_law_588 : decode m_law.2.1 588 = .ok (.invokevirtual 71, 3) := by decide +kernel
theorem c_law_588 : mx_cv m_law m_TS_empties 71 0 [699, 700, 701, 79, 702] = true := by decide +kernel
theorem d_law_592 : decode m_law.2.1 592 = .ok (.invokevirtual 74, 3) := by decide +kernel
theorem c_law_592 : mx_cv m_law m_Mo_empties 74 0 [1233, 1234, 1235, 90, 1236] = true := by decide +kernel
theorem d_law_595 : decode m_law.2.1 595 = .ok (.if_icmp .eq 493, 3) := by decide +kernel
theorem d_law_599 : decode m_law.2.1 599 = .ok (.ireturn, 1) := by decide +kernel
theorem d_law_606 : decode m_law.2.1 606 = .ok (.invokevirtual 75, 3) := by decide +kernel
theorem c_law_606 : mx_cv m_law m_TS_cellAt 75 1 [707, 708, 709, 79, 710] = true := by decide +kernel
theorem d_law_615 : decode m_law.2.1 615 = .ok (.invokevirtual 78, 3) := by decide +kernel
theorem c_law_615 : mx_cv m_law m_Mo_cellAt 78 1 [1249, 1250, 1251, 90, 1252] = true := by decide +kernel
theorem d_law_618 : decode m_law.2.1 618 = .ok (.if_icmp .eq 470, 3) := by decide +kernel
theorem d_law_622 : decode m_law.2.1 622 = .ok (.ireturn, 1) := by decide +kernel
theorem d_law_634 : decode m_law.2.1 634 = .ok (.invokevirtual 79, 3) := by decide +kernel
theorem c_law_634 : mx_cv m_law m_TS_answers 79 2 [715, 716, 717, 79, 718] = true := by decide +kernel
theorem d_law_648 : decode m_law.2.1 648 = .ok (.invokevirtual 82, 3) := by decide +kernel
theorem c_law_648 : mx_cv m_law m_Mo_answers 82 2 [1253, 1254, 1255, 90, 1256] = true := by decide +kernel
theorem d_law_651 : decode m_law.2.1 651 = .ok (.if_icmp .eq 437, 3) := by decide +kernel
theorem d_law_655 : decode m_law.2.1 655 = .ok (.ireturn, 1) := by decide +kernel
theorem d_law_662 : decode m_law.2.1 662 = .ok (.invokevirtual 83, 3) := by decide +kernel
theorem c_law_662 : mx_cv m_law m_TS_askable 83 1 [731, 732, 733, 79, 734] = true := by decide +kernel
theorem d_law_671 : decode m_law.2.1 671 = .ok (.invokevirtual 86, 3) := by decide +kernel
theorem c_law_671 : mx_cv m_law m_Mo_askable 86 1 [1269, 1270, 1271, 90, 1272] = true := by decide +kernel
theorem d_law_674 : decode m_law.2.1 674 = .ok (.if_icmp .eq 414, 3) := by decide +kernel
theorem d_law_678 : decode m_law.2.1 678 = .ok (.ireturn, 1) := by decide +kernel
theorem d_law_690 : decode m_law.2.1 690 = .ok (.invokevirtual 87, 3) := by decide +kernel
theorem c_law_690 : mx_cv m_law m_TS_ends 87 2 [739, 740, 741, 79, 742] = true := by decide +kernel
theorem d_law_704 : decode m_law.2.1 704 = .ok (.invokevirtual 90, 3) := by decide +kernel
theorem c_law_704 : mx_cv m_law m_Mo_ends 90 2 [1273, 1274, 1275, 90, 1276] = true := by decide +kernel
theorem d_law_707 : decode m_law.2.1 707 = .ok (.if_icmp .eq 381, 3) := by decide +kernel
theorem d_law_711 : decode m_law.2.1 711 = .ok (.ireturn, 1) := by decide +kernel
theorem d_law_723 : decode m_law.2.1 723 = .ok (.invokevirtual 91, 3) := by decide +kernel
theorem c_law_723 : mx_cv m_law m_TS_plain 91 2 [751, 752, 753, 79, 754] = true := by decide +kernel
theorem d_law_737 : decode m_law.2.1 737 = .ok (.invokevirtual 94, 3) := by decide +kernel
theorem c_law_737 : mx_cv m_law m_Mo_plain 94 2 [1277, 1278, 1279, 90, 1280] = true := by decide +kernel
theorem d_law_740 : decode m_law.2.1 740 = .ok (.if_icmp .eq 348, 3) := by decide +kernel
theorem d_law_744 : decode m_law.2.1 744 = .ok (.ireturn, 1) := by decide +kernel
theorem d_law_761 : decode m_law.2.1 761 = .ok (.invokevirtual 95, 3) := by decide +kernel
theorem c_law_761 : mx_cv m_law m_TS_pick 95 3 [786, 787, 788, 79, 789] = true := by decide +kernel
theorem d_law_780 : decode m_law.2.1 780 = .ok (.invokevirtual 98, 3) := by decide +kernel
theorem c_law_780 : mx_cv m_law m_Mo_pick 98 3 [1290, 1291, 1292, 90, 1293] = true := by decide +kernel
theorem d_law_783 : decode m_law.2.1 783 = .ok (.if_icmp .eq 305, 3) := by decide +kernel
theorem d_law_787 : decode m_law.2.1 787 = .ok (.ireturn, 1) := by decide +kernel
theorem d_law_814 : decode m_law.2.1 814 = .ok (.invokevirtual 99, 3) := by decide +kernel
theorem c_law_814 : mx_cv m_law m_TS_who 99 5 [797, 798, 799, 79, 800] = true := by decide +kernel
theorem d_law_843 : decode m_law.2.1 843 = .ok (.invokevirtual 102, 3) := by decide +kernel
theorem c_law_843 : mx_cv m_law m_Mo_who 102 5 [1294, 1295, 1296, 90, 1297] = true := by decide +kernel
theorem d_law_846 : decode m_law.2.1 846 = .ok (.if_icmp .eq 242, 3) := by decide +kernel
theorem d_law_850 : decode m_law.2.1 850 = .ok (.ireturn, 1) := by decide +kernel
theorem d_law_867 : decode m_law.2.1 867 = .ok (.invokevirtual 103, 3) := by decide +kernel
theorem c_law_867 : mx_cv m_law m_TS_drawn 103 3 [809, 810, 811, 79, 812] = true := by decide +kernel
theorem d_law_886 : decode m_law.2.1 886 = .ok (.invokevirtual 106, 3) := by decide +kernel
theorem c_law_886 : mx_cv m_law m_Mo_drawn 106 3 [1306, 1307, 1308, 90, 1309] = true := by decide +kernel
theorem d_law_889 : decode m_law.2.1 889 = .ok (.if_icmp .eq 199, 3) := by decide +kernel
theorem d_law_893 : decode m_law.2.1 893 = .ok (.ireturn, 1) := by decide +kernel
theorem d_law_900 : decode m_law.2.1 900 = .ok (.invokevirtual 107, 3) := by decide +kernel
theorem c_law_900 : mx_cv m_law m_TS_image 107 1 [830, 831, 832, 79, 833] = true := by decide +kernel
theorem d_law_909 : decode m_law.2.1 909 = .ok (.invokevirtual 110, 3) := by decide +kernel
theorem c_law_909 : mx_cv m_law m_Mo_image 110 1 [1321, 1322, 1323, 90, 1324] = true := by decide +kernel
theorem d_law_912 : decode m_law.2.1 912 = .ok (.if_icmp .eq 176, 3) := by decide +kernel
theorem d_law_916 : decode m_law.2.1 916 = .ok (.ireturn, 1) := by decide +kernel
theorem d_law_923 : decode m_law.2.1 923 = .ok (.invokevirtual 111, 3) := by decide +kernel
theorem c_law_923 : mx_cv m_law m_TS_restore 111 1 [838, 839, 840, 79, 841] = true := by decide +kernel
theorem d_law_932 : decode m_law.2.1 932 = .ok (.invokevirtual 114, 3) := by decide +kernel
theorem c_law_932 : mx_cv m_law m_Mo_restore 114 1 [1325, 1326, 1327, 90, 1328] = true := by decide +kernel
theorem d_law_935 : decode m_law.2.1 935 = .ok (.if_icmp .eq 153, 3) := by decide +kernel
theorem d_law_939 : decode m_law.2.1 939 = .ok (.ireturn, 1) := by decide +kernel
theorem d_law_946 : decode m_law.2.1 946 = .ok (.invokevirtual 115, 3) := by decide +kernel
theorem c_law_946 : mx_cv m_law m_TS_kind 115 1 [842, 843, 844, 79, 845] = true := by decide +kernel
theorem d_law_955 : decode m_law.2.1 955 = .ok (.invokevirtual 118, 3) := by decide +kernel
theorem c_law_955 : mx_cv m_law m_Mo_kind 118 1 [1329, 1330, 1331, 90, 1332] = true := by decide +kernel
theorem d_law_958 : decode m_law.2.1 958 = .ok (.if_icmp .eq 130, 3) := by decide +kernel
theorem d_law_962 : decode m_law.2.1 962 = .ok (.ireturn, 1) := by decide +kernel
theorem d_law_974 : decode m_law.2.1 974 = .ok (.invokevirtual 119, 3) := by decide +kernel
theorem c_law_974 : mx_cv m_law m_TS_as 119 2 [849, 850, 851, 79, 852] = true := by decide +kernel
theorem d_law_988 : decode m_law.2.1 988 = .ok (.invokevirtual 122, 3) := by decide +kernel
theorem c_law_988 : mx_cv m_law m_Mo_as 122 2 [1337, 1338, 1339, 90, 1340] = true := by decide +kernel
theorem d_law_991 : decode m_law.2.1 991 = .ok (.if_icmp .eq 97, 3) := by decide +kernel
theorem d_law_995 : decode m_law.2.1 995 = .ok (.ireturn, 1) := by decide +kernel
theorem d_law_1007 : decode m_law.2.1 1007 = .ok (.invokevirtual 123, 3) := by decide +kernel
theorem c_law_1007 : mx_cv m_law m_TS_ask 123 2 [856, 857, 858, 79, 859] = true := by decide +kernel
theorem d_law_1021 : decode m_law.2.1 1021 = .ok (.invokevirtual 126, 3) := by decide +kernel
theorem c_law_1021 : mx_cv m_law m_Mo_ask 126 2 [1344, 1345, 1346, 90, 1347] = true := by decide +kernel
theorem d_law_1024 : decode m_law.2.1 1024 = .ok (.if_icmp .eq 64, 3) := by decide +kernel
theorem d_law_1028 : decode m_law.2.1 1028 = .ok (.ireturn, 1) := by decide +kernel
theorem d_law_1035 : decode m_law.2.1 1035 = .ok (.invokevirtual 127, 3) := by decide +kernel
theorem c_law_1035 : mx_cv m_law m_TS_trace 127 1 [917, 918, 919, 79, 920] = true := by decide +kernel
theorem d_law_1044 : decode m_law.2.1 1044 = .ok (.invokevirtual 130, 3) := by decide +kernel
theorem c_law_1044 : mx_cv m_law m_Mo_trace 130 1 [1368, 1369, 1370, 90, 1371] = true := by decide +kernel
theorem d_law_1047 : decode m_law.2.1 1047 = .ok (.if_icmp .eq 41, 3) := by decide +kernel
theorem d_law_1051 : decode m_law.2.1 1051 = .ok (.ireturn, 1) := by decide +kernel
theorem d_law_1058 : decode m_law.2.1 1058 = .ok (.invokevirtual 131, 3) := by decide +kernel
theorem c_law_1058 : mx_cv m_law m_TS_count 131 1 [922, 923, 924, 79, 925] = true := by decide +kernel
theorem d_law_1067 : decode m_law.2.1 1067 = .ok (.invokevirtual 134, 3) := by decide +kernel
theorem c_law_1067 : mx_cv m_law m_Mo_count 134 1 [1372, 1373, 1374, 90, 1375] = true := by decide +kernel
theorem d_law_1070 : decode m_law.2.1 1070 = .ok (.if_icmp .eq 18, 3) := by decide +kernel
theorem d_law_1074 : decode m_law.2.1 1074 = .ok (.ireturn, 1) := by decide +kernel
theorem d_law_1076 : decode m_law.2.1 1076 = .ok (.invokevirtual 135, 3) := by decide +kernel
theorem c_law_1076 : mx_cv m_law m_TS_status 135 0 [930, 931, 932, 79, 933] = true := by decide +kernel
theorem d_law_1080 : decode m_law.2.1 1080 = .ok (.invokevirtual 138, 3) := by decide +kernel
theorem c_law_1080 : mx_cv m_law m_Mo_status 138 0 [1376, 1377, 1378, 90, 1379] = true := by decide +kernel
theorem d_law_1083 : decode m_law.2.1 1083 = .ok (.if_icmp .eq 5, 3) := by decide +kernel
theorem d_law_1087 : decode m_law.2.1 1087 = .ok (.ireturn, 1) := by decide +kernel
theorem d_law_1091 : decode m_law.2.1 1091 = .ok (.goto (-1073), 3) := by decide +kernel
theorem d_law_1095 : decode m_law.2.1 1095 = .ok (.ireturn, 1) := by decide +kernel
