def b_L_law_15 : List Ent := [(.astore_n 2, 1, [], 0), (.iconst 0, 1, [], 0), (.istore_n 3, 1, [], 0)]
theorem a_L_law_15 : ck mL_law b_L_law_15 15 = true := by decide +kernel
def b_L_law_18 : List Ent := [(.iload_n 3, 1, [], 0), (.aload_n 0, 1, [], 0), (.arraylength, 1, [11], 0), (.iconst 5, 1, [], 0), (.isub, 1, [], 0), (.if_icmp .gt 1618, 3, [1641], 0)]
theorem a_L_law_18 : ck mL_law b_L_law_18 18 = true := by decide +kernel
def b_L_law_26 : List Ent := [(.aload_n 0, 1, [], 0), (.iload_n 3, 1, [], 0), (.iaload, 1, [11], 0), (.bipush 63, 2, [], 0), (.iand, 1, [], 0), (.tableswitch 1603 0 44 #[196, 259, 272, 305, 328, 381, 414, 447, 470, 513, 546, 579, 602, 625, 648, 671, 684, 707, 730, 753, 766, 789, 812, 835, 868, 911, 944, 977, 1020, 1064, 1098, 1131, 1164, 1207, 1230, 1283, 1326, 1369, 1412, 1455, 1488, 1531, 1554, 1577, 1590], 196, [1635, 228, 291, 304, 337, 360, 413, 446, 479, 502, 545, 578, 611, 634, 657, 680, 703, 716, 739, 762, 785, 798, 821, 844, 867, 900, 943, 976, 1009, 1052, 1096, 1130, 1163, 1196, 1239, 1262, 1315, 1358, 1401, 1444, 1487, 1520, 1563, 1586, 1609, 1622], 0)]
theorem a_L_law_26 : ck mL_law b_L_law_26 26 = true := by decide +kernel
def b_L_law_228 : List Ent := [(.aload_n 1, 1, [], 0), (.aload_n 0, 1, [], 0), (.iload_n 3, 1, [], 0), (.iconst 1, 1, [], 0), (.iadd, 1, [], 0), (.iaload, 1, [11], 0), (.i2l, 1, [], 0), (.bipush 32, 2, [], 0), (.lshl, 1, [], 0), (.aload_n 0, 1, [], 0), (.iload_n 3, 1, [], 0), (.iconst 2, 1, [], 0), (.iadd, 1, [], 0), (.iaload, 1, [11], 0), (.i2l, 1, [], 0), (.ldc2_w 13, 3, [0, 1359], 4294967295), (.land, 1, [], 0), (.lor, 1, [], 0), (.aload_n 0, 1, [], 0), (.iload_n 3, 1, [], 0), (.iconst 3, 1, [], 0), (.iadd, 1, [], 0), (.iaload, 1, [11], 0)]
theorem a_L_law_228 : ck mL_law b_L_law_228 228 = true := by decide +kernel
theorem k_L_law_254 : CV mL_law 254 mX5_feed := CV.of 15 284 285 286 (by decide +kernel) (by decide +kernel) (by decide +kernel) (by decide +kernel)
def b_L_law_257 : List Ent := [(.aload_n 2, 1, [], 0), (.aload_n 0, 1, [], 0), (.iload_n 3, 1, [], 0), (.iconst 1, 1, [], 0), (.iadd, 1, [], 0), (.iaload, 1, [11], 0), (.i2l, 1, [], 0), (.bipush 32, 2, [], 0), (.lshl, 1, [], 0), (.aload_n 0, 1, [], 0), (.iload_n 3, 1, [], 0), (.iconst 2, 1, [], 0), (.iadd, 1, [], 0), (.iaload, 1, [11], 0), (.i2l, 1, [], 0), (.ldc2_w 13, 3, [0, 1359], 4294967295), (.land, 1, [], 0), (.lor, 1, [], 0), (.aload_n 0, 1, [], 0), (.iload_n 3, 1, [], 0), (.iconst 3, 1, [], 0), (.iadd, 1, [], 0), (.iaload, 1, [11], 0)]
theorem a_L_law_257 : ck mL_law b_L_law_257 257 = true := by decide +kernel
theorem k_L_law_283 : CV mL_law 283 mX6_feed := CV.of 19 930 931 932 (by decide +kernel) (by decide +kernel) (by decide +kernel) (by decide +kernel)
def b_L_law_286 : List Ent := [(.if_icmp .eq 1349, 3, [1635], 0)]
theorem a_L_law_286 : ck mL_law b_L_law_286 286 = true := by decide +kernel
def b_L_law_289 : List Ent := [(.iconst 0, 1, [], 0), (.ireturn, 1, [1], 0)]
theorem a_L_law_289 : ck mL_law b_L_law_289 289 = true := by decide +kernel
def b_L_law_291 : List Ent := [(.aload_n 1, 1, [], 0)]
theorem a_L_law_291 : ck mL_law b_L_law_291 291 = true := by decide +kernel
theorem k_L_law_292 : CV mL_law 292 mX5_tree := CV.of 20 295 296 297 (by decide +kernel) (by decide +kernel) (by decide +kernel) (by decide +kernel)
def b_L_law_295 : List Ent := [(.aload_n 2, 1, [], 0)]
theorem a_L_law_295 : ck mL_law b_L_law_295 295 = true := by decide +kernel
theorem k_L_law_296 : CV mL_law 296 mX6_tree := CV.of 24 939 940 941 (by decide +kernel) (by decide +kernel) (by decide +kernel) (by decide +kernel)
def b_L_law_299 : List Ent := [(.if_icmp .eq 1336, 3, [1635], 0)]
theorem a_L_law_299 : ck mL_law b_L_law_299 299 = true := by decide +kernel
def b_L_law_302 : List Ent := [(.iconst 0, 1, [], 0), (.ireturn, 1, [1], 0)]
theorem a_L_law_302 : ck mL_law b_L_law_302 302 = true := by decide +kernel
def b_L_law_304 : List Ent := [(.aload_n 1, 1, [], 0), (.aload_n 0, 1, [], 0), (.iload_n 3, 1, [], 0), (.iconst 1, 1, [], 0), (.iadd, 1, [], 0), (.iaload, 1, [11], 0), (.aload_n 0, 1, [], 0), (.iload_n 3, 1, [], 0), (.iconst 2, 1, [], 0), (.iadd, 1, [], 0), (.iaload, 1, [11], 0)]
theorem a_L_law_304 : ck mL_law b_L_law_304 304 = true := by decide +kernel
theorem k_L_law_315 : CV mL_law 315 mX5_set := CV.of 25 443 444 445 (by decide +kernel) (by decide +kernel) (by decide +kernel) (by decide +kernel)
def b_L_law_318 : List Ent := [(.aload_n 2, 1, [], 0), (.aload_n 0, 1, [], 0), (.iload_n 3, 1, [], 0), (.iconst 1, 1, [], 0), (.iadd, 1, [], 0), (.iaload, 1, [11], 0), (.aload_n 0, 1, [], 0), (.iload_n 3, 1, [], 0), (.iconst 2, 1, [], 0), (.iadd, 1, [], 0), (.iaload, 1, [11], 0)]
theorem a_L_law_318 : ck mL_law b_L_law_318 318 = true := by decide +kernel
theorem k_L_law_329 : CV mL_law 329 mX6_set := CV.of 29 1004 1005 1006 (by decide +kernel) (by decide +kernel) (by decide +kernel) (by decide +kernel)
def b_L_law_332 : List Ent := [(.if_icmp .eq 1303, 3, [1635], 0)]
theorem a_L_law_332 : ck mL_law b_L_law_332 332 = true := by decide +kernel
def b_L_law_335 : List Ent := [(.iconst 0, 1, [], 0), (.ireturn, 1, [1], 0)]
theorem a_L_law_335 : ck mL_law b_L_law_335 335 = true := by decide +kernel
def b_L_law_337 : List Ent := [(.aload_n 1, 1, [], 0), (.aload_n 0, 1, [], 0), (.iload_n 3, 1, [], 0), (.iconst 1, 1, [], 0), (.iadd, 1, [], 0), (.iaload, 1, [11], 0)]
theorem a_L_law_337 : ck mL_law b_L_law_337 337 = true := by decide +kernel
theorem k_L_law_343 : CV mL_law 343 mX5_lawOf := CV.of 30 449 450 451 (by decide +kernel) (by decide +kernel) (by decide +kernel) (by decide +kernel)
def b_L_law_346 : List Ent := [(.aload_n 2, 1, [], 0), (.aload_n 0, 1, [], 0), (.iload_n 3, 1, [], 0), (.iconst 1, 1, [], 0), (.iadd, 1, [], 0), (.iaload, 1, [11], 0)]
theorem a_L_law_346 : ck mL_law b_L_law_346 346 = true := by decide +kernel
theorem k_L_law_352 : CV mL_law 352 mX6_lawOf := CV.of 34 1015 1016 1017 (by decide +kernel) (by decide +kernel) (by decide +kernel) (by decide +kernel)
def b_L_law_355 : List Ent := [(.if_icmp .eq 1280, 3, [1635], 0)]
theorem a_L_law_355 : ck mL_law b_L_law_355 355 = true := by decide +kernel
def b_L_law_358 : List Ent := [(.iconst 0, 1, [], 0), (.ireturn, 1, [1], 0)]
theorem a_L_law_358 : ck mL_law b_L_law_358 358 = true := by decide +kernel
def b_L_law_360 : List Ent := [(.aload_n 1, 1, [], 0), (.aload_n 0, 1, [], 0), (.iload_n 3, 1, [], 0), (.iconst 1, 1, [], 0), (.iadd, 1, [], 0), (.iaload, 1, [11], 0), (.aload_n 0, 1, [], 0), (.iload_n 3, 1, [], 0), (.iconst 2, 1, [], 0), (.iadd, 1, [], 0), (.iaload, 1, [11], 0), (.aload_n 0, 1, [], 0), (.iload_n 3, 1, [], 0), (.iconst 3, 1, [], 0), (.iadd, 1, [], 0), (.iaload, 1, [11], 0), (.aload_n 0, 1, [], 0), (.iload_n 3, 1, [], 0), (.iconst 4, 1, [], 0), (.iadd, 1, [], 0), (.iaload, 1, [11], 0)]
theorem a_L_law_360 : ck mL_law b_L_law_360 360 = true := by decide +kernel
theorem k_L_law_381 : CV mL_law 381 mX5_branch := CV.of 35 453 454 455 (by decide +kernel) (by decide +kernel) (by decide +kernel) (by decide +kernel)
def b_L_law_384 : List Ent := [(.aload_n 2, 1, [], 0), (.aload_n 0, 1, [], 0), (.iload_n 3, 1, [], 0), (.iconst 1, 1, [], 0), (.iadd, 1, [], 0), (.iaload, 1, [11], 0), (.aload_n 0, 1, [], 0), (.iload_n 3, 1, [], 0), (.iconst 2, 1, [], 0), (.iadd, 1, [], 0), (.iaload, 1, [11], 0), (.aload_n 0, 1, [], 0), (.iload_n 3, 1, [], 0), (.iconst 3, 1, [], 0), (.iadd, 1, [], 0), (.iaload, 1, [11], 0), (.aload_n 0, 1, [], 0), (.iload_n 3, 1, [], 0), (.iconst 4, 1, [], 0), (.iadd, 1, [], 0), (.iaload, 1, [11], 0)]
theorem a_L_law_384 : ck mL_law b_L_law_384 384 = true := by decide +kernel
theorem k_L_law_405 : CV mL_law 405 mX6_branch := CV.of 39 1019 1020 1021 (by decide +kernel) (by decide +kernel) (by decide +kernel) (by decide +kernel)
def b_L_law_408 : List Ent := [(.if_icmp .eq 1227, 3, [1635], 0)]
theorem a_L_law_408 : ck mL_law b_L_law_408 408 = true := by decide +kernel
def b_L_law_411 : List Ent := [(.iconst 0, 1, [], 0), (.ireturn, 1, [1], 0)]
theorem a_L_law_411 : ck mL_law b_L_law_411 411 = true := by decide +kernel
def b_L_law_413 : List Ent := [(.aload_n 1, 1, [], 0), (.aload_n 0, 1, [], 0), (.iload_n 3, 1, [], 0), (.iconst 1, 1, [], 0), (.iadd, 1, [], 0), (.iaload, 1, [11], 0), (.aload_n 0, 1, [], 0), (.iload_n 3, 1, [], 0), (.iconst 2, 1, [], 0), (.iadd, 1, [], 0), (.iaload, 1, [11], 0)]
theorem a_L_law_413 : ck mL_law b_L_law_413 413 = true := by decide +kernel
theorem k_L_law_424 : CV mL_law 424 mX5_of := CV.of 40 465 466 467 (by decide +kernel) (by decide +kernel) (by decide +kernel) (by decide +kernel)
def b_L_law_427 : List Ent := [(.aload_n 2, 1, [], 0), (.aload_n 0, 1, [], 0), (.iload_n 3, 1, [], 0), (.iconst 1, 1, [], 0), (.iadd, 1, [], 0), (.iaload, 1, [11], 0), (.aload_n 0, 1, [], 0), (.iload_n 3, 1, [], 0), (.iconst 2, 1, [], 0), (.iadd, 1, [], 0), (.iaload, 1, [11], 0)]
theorem a_L_law_427 : ck mL_law b_L_law_427 427 = true := by decide +kernel
theorem k_L_law_438 : CV mL_law 438 mX6_of := CV.of 43 1024 1025 1026 (by decide +kernel) (by decide +kernel) (by decide +kernel) (by decide +kernel)
def b_L_law_441 : List Ent := [(.if_icmp .eq 1194, 3, [1635], 0)]
theorem a_L_law_441 : ck mL_law b_L_law_441 441 = true := by decide +kernel
def b_L_law_444 : List Ent := [(.iconst 0, 1, [], 0), (.ireturn, 1, [1], 0)]
theorem a_L_law_444 : ck mL_law b_L_law_444 444 = true := by decide +kernel
def b_L_law_446 : List Ent := [(.aload_n 1, 1, [], 0), (.aload_n 0, 1, [], 0), (.iload_n 3, 1, [], 0), (.iconst 1, 1, [], 0), (.iadd, 1, [], 0), (.iaload, 1, [11], 0), (.aload_n 0, 1, [], 0), (.iload_n 3, 1, [], 0), (.iconst 2, 1, [], 0), (.iadd, 1, [], 0), (.iaload, 1, [11], 0)]
theorem a_L_law_446 : ck mL_law b_L_law_446 446 = true := by decide +kernel
theorem k_L_law_457 : CV mL_law 457 mX5_does := CV.of 44 497 498 499 (by decide +kernel) (by decide +kernel) (by decide +kernel) (by decide +kernel)
def b_L_law_460 : List Ent := [(.aload_n 2, 1, [], 0), (.aload_n 0, 1, [], 0), (.iload_n 3, 1, [], 0), (.iconst 1, 1, [], 0), (.iadd, 1, [], 0), (.iaload, 1, [11], 0), (.aload_n 0, 1, [], 0), (.iload_n 3, 1, [], 0), (.iconst 2, 1, [], 0), (.iadd, 1, [], 0), (.iaload, 1, [11], 0)]
theorem a_L_law_460 : ck mL_law b_L_law_460 460 = true := by decide +kernel
theorem k_L_law_471 : CV mL_law 471 mX6_does := CV.of 47 1045 1046 1047 (by decide +kernel) (by decide +kernel) (by decide +kernel) (by decide +kernel)
def b_L_law_474 : List Ent := [(.if_icmp .eq 1161, 3, [1635], 0)]
theorem a_L_law_474 : ck mL_law b_L_law_474 474 = true := by decide +kernel
def b_L_law_477 : List Ent := [(.iconst 0, 1, [], 0), (.ireturn, 1, [1], 0)]
theorem a_L_law_477 : ck mL_law b_L_law_477 477 = true := by decide +kernel
def b_L_law_479 : List Ent := [(.aload_n 1, 1, [], 0), (.aload_n 0, 1, [], 0), (.iload_n 3, 1, [], 0), (.iconst 1, 1, [], 0), (.iadd, 1, [], 0), (.iaload, 1, [11], 0)]
theorem a_L_law_479 : ck mL_law b_L_law_479 479 = true := by decide +kernel
theorem k_L_law_485 : CV mL_law 485 mX5_stem := CV.of 48 510 511 512 (by decide +kernel) (by decide +kernel) (by decide +kernel) (by decide +kernel)
def b_L_law_488 : List Ent := [(.aload_n 2, 1, [], 0), (.aload_n 0, 1, [], 0), (.iload_n 3, 1, [], 0), (.iconst 1, 1, [], 0), (.iadd, 1, [], 0), (.iaload, 1, [11], 0)]
theorem a_L_law_488 : ck mL_law b_L_law_488 488 = true := by decide +kernel
theorem k_L_law_494 : CV mL_law 494 mX6_stem := CV.of 51 1066 1067 1068 (by decide +kernel) (by decide +kernel) (by decide +kernel) (by decide +kernel)
def b_L_law_497 : List Ent := [(.if_icmp .eq 1138, 3, [1635], 0)]
theorem a_L_law_497 : ck mL_law b_L_law_497 497 = true := by decide +kernel
def b_L_law_500 : List Ent := [(.iconst 0, 1, [], 0), (.ireturn, 1, [1], 0)]
theorem a_L_law_500 : ck mL_law b_L_law_500 500 = true := by decide +kernel
def b_L_law_502 : List Ent := [(.aload_n 1, 1, [], 0), (.aload_n 0, 1, [], 0), (.iload_n 3, 1, [], 0), (.iconst 1, 1, [], 0), (.iadd, 1, [], 0), (.iaload, 1, [11], 0), (.aload_n 0, 1, [], 0), (.iload_n 3, 1, [], 0), (.iconst 2, 1, [], 0), (.iadd, 1, [], 0), (.iaload, 1, [11], 0), (.aload_n 0, 1, [], 0), (.iload_n 3, 1, [], 0), (.iconst 3, 1, [], 0), (.iadd, 1, [], 0), (.iaload, 1, [11], 0)]
theorem a_L_law_502 : ck mL_law b_L_law_502 502 = true := by decide +kernel
theorem k_L_law_518 : CV mL_law 518 mX5_mind := CV.of 52 518 519 520 (by decide +kernel) (by decide +kernel) (by decide +kernel) (by decide +kernel)
def b_L_law_521 : List Ent := [(.aload_n 2, 1, [], 0), (.aload_n 0, 1, [], 0), (.iload_n 3, 1, [], 0), (.iconst 1, 1, [], 0), (.iadd, 1, [], 0), (.iaload, 1, [11], 0), (.aload_n 0, 1, [], 0), (.iload_n 3, 1, [], 0), (.iconst 2, 1, [], 0), (.iadd, 1, [], 0), (.iaload, 1, [11], 0), (.aload_n 0, 1, [], 0), (.iload_n 3, 1, [], 0), (.iconst 3, 1, [], 0), (.iadd, 1, [], 0), (.iaload, 1, [11], 0)]
theorem a_L_law_521 : ck mL_law b_L_law_521 521 = true := by decide +kernel
theorem k_L_law_537 : CV mL_law 537 mX6_mind := CV.of 56 1070 1071 1072 (by decide +kernel) (by decide +kernel) (by decide +kernel) (by decide +kernel)
def b_L_law_540 : List Ent := [(.if_icmp .eq 1095, 3, [1635], 0)]
theorem a_L_law_540 : ck mL_law b_L_law_540 540 = true := by decide +kernel
def b_L_law_543 : List Ent := [(.iconst 0, 1, [], 0), (.ireturn, 1, [1], 0)]
theorem a_L_law_543 : ck mL_law b_L_law_543 543 = true := by decide +kernel
def b_L_law_545 : List Ent := [(.aload_n 1, 1, [], 0), (.aload_n 0, 1, [], 0), (.iload_n 3, 1, [], 0), (.iconst 1, 1, [], 0), (.iadd, 1, [], 0), (.iaload, 1, [11], 0), (.aload_n 0, 1, [], 0), (.iload_n 3, 1, [], 0), (.iconst 2, 1, [], 0), (.iadd, 1, [], 0), (.iaload, 1, [11], 0)]
theorem a_L_law_545 : ck mL_law b_L_law_545 545 = true := by decide +kernel
theorem k_L_law_556 : CV mL_law 556 mX5_age := CV.of 57 522 523 524 (by decide +kernel) (by decide +kernel) (by decide +kernel) (by decide +kernel)
def b_L_law_559 : List Ent := [(.aload_n 2, 1, [], 0), (.aload_n 0, 1, [], 0), (.iload_n 3, 1, [], 0), (.iconst 1, 1, [], 0), (.iadd, 1, [], 0), (.iaload, 1, [11], 0), (.aload_n 0, 1, [], 0), (.iload_n 3, 1, [], 0), (.iconst 2, 1, [], 0), (.iadd, 1, [], 0), (.iaload, 1, [11], 0)]
theorem a_L_law_559 : ck mL_law b_L_law_559 559 = true := by decide +kernel
theorem k_L_law_570 : CV mL_law 570 mX6_age := CV.of 60 1074 1075 1076 (by decide +kernel) (by decide +kernel) (by decide +kernel) (by decide +kernel)
def b_L_law_573 : List Ent := [(.if_icmp .eq 1062, 3, [1635], 0)]
theorem a_L_law_573 : ck mL_law b_L_law_573 573 = true := by decide +kernel
def b_L_law_576 : List Ent := [(.iconst 0, 1, [], 0), (.ireturn, 1, [1], 0)]
theorem a_L_law_576 : ck mL_law b_L_law_576 576 = true := by decide +kernel
def b_L_law_578 : List Ent := [(.aload_n 1, 1, [], 0), (.aload_n 0, 1, [], 0), (.iload_n 3, 1, [], 0), (.iconst 1, 1, [], 0), (.iadd, 1, [], 0), (.iaload, 1, [11], 0), (.aload_n 0, 1, [], 0), (.iload_n 3, 1, [], 0), (.iconst 2, 1, [], 0), (.iadd, 1, [], 0), (.iaload, 1, [11], 0)]
theorem a_L_law_578 : ck mL_law b_L_law_578 578 = true := by decide +kernel
theorem k_L_law_589 : CV mL_law 589 mX5_graft := CV.of 61 526 527 528 (by decide +kernel) (by decide +kernel) (by decide +kernel) (by decide +kernel)
def b_L_law_592 : List Ent := [(.aload_n 2, 1, [], 0), (.aload_n 0, 1, [], 0), (.iload_n 3, 1, [], 0), (.iconst 1, 1, [], 0), (.iadd, 1, [], 0), (.iaload, 1, [11], 0), (.aload_n 0, 1, [], 0), (.iload_n 3, 1, [], 0), (.iconst 2, 1, [], 0), (.iadd, 1, [], 0), (.iaload, 1, [11], 0)]
theorem a_L_law_592 : ck mL_law b_L_law_592 592 = true := by decide +kernel
theorem k_L_law_603 : CV mL_law 603 mX6_graft := CV.of 64 1078 1079 1080 (by decide +kernel) (by decide +kernel) (by decide +kernel) (by decide +kernel)
def b_L_law_606 : List Ent := [(.if_icmp .eq 1029, 3, [1635], 0)]
theorem a_L_law_606 : ck mL_law b_L_law_606 606 = true := by decide +kernel
def b_L_law_609 : List Ent := [(.iconst 0, 1, [], 0), (.ireturn, 1, [1], 0)]
theorem a_L_law_609 : ck mL_law b_L_law_609 609 = true := by decide +kernel
def b_L_law_611 : List Ent := [(.aload_n 1, 1, [], 0), (.aload_n 0, 1, [], 0), (.iload_n 3, 1, [], 0), (.iconst 1, 1, [], 0), (.iadd, 1, [], 0), (.iaload, 1, [11], 0)]
theorem a_L_law_611 : ck mL_law b_L_law_611 611 = true := by decide +kernel
theorem k_L_law_617 : CV mL_law 617 mX5_cut := CV.of 65 530 531 532 (by decide +kernel) (by decide +kernel) (by decide +kernel) (by decide +kernel)
def b_L_law_620 : List Ent := [(.aload_n 2, 1, [], 0), (.aload_n 0, 1, [], 0), (.iload_n 3, 1, [], 0), (.iconst 1, 1, [], 0), (.iadd, 1, [], 0), (.iaload, 1, [11], 0)]
theorem a_L_law_620 : ck mL_law b_L_law_620 620 = true := by decide +kernel
theorem k_L_law_626 : CV mL_law 626 mX6_cut := CV.of 68 1082 1083 1084 (by decide +kernel) (by decide +kernel) (by decide +kernel) (by decide +kernel)
def b_L_law_629 : List Ent := [(.if_icmp .eq 1006, 3, [1635], 0)]
theorem a_L_law_629 : ck mL_law b_L_law_629 629 = true := by decide +kernel
def b_L_law_632 : List Ent := [(.iconst 0, 1, [], 0), (.ireturn, 1, [1], 0)]
theorem a_L_law_632 : ck mL_law b_L_law_632 632 = true := by decide +kernel
def b_L_law_634 : List Ent := [(.aload_n 1, 1, [], 0), (.aload_n 0, 1, [], 0), (.iload_n 3, 1, [], 0), (.iconst 1, 1, [], 0), (.iadd, 1, [], 0), (.iaload, 1, [11], 0)]
theorem a_L_law_634 : ck mL_law b_L_law_634 634 = true := by decide +kernel
theorem k_L_law_640 : CV mL_law 640 mX5_back := CV.of 69 541 542 543 (by decide +kernel) (by decide +kernel) (by decide +kernel) (by decide +kernel)
def b_L_law_643 : List Ent := [(.aload_n 2, 1, [], 0), (.aload_n 0, 1, [], 0), (.iload_n 3, 1, [], 0), (.iconst 1, 1, [], 0), (.iadd, 1, [], 0), (.iaload, 1, [11], 0)]
theorem a_L_law_643 : ck mL_law b_L_law_643 643 = true := by decide +kernel
theorem k_L_law_649 : CV mL_law 649 mX6_back := CV.of 72 1089 1090 1091 (by decide +kernel) (by decide +kernel) (by decide +kernel) (by decide +kernel)
def b_L_law_652 : List Ent := [(.if_icmp .eq 983, 3, [1635], 0)]
theorem a_L_law_652 : ck mL_law b_L_law_652 652 = true := by decide +kernel
def b_L_law_655 : List Ent := [(.iconst 0, 1, [], 0), (.ireturn, 1, [1], 0)]
theorem a_L_law_655 : ck mL_law b_L_law_655 655 = true := by decide +kernel
def b_L_law_657 : List Ent := [(.aload_n 1, 1, [], 0), (.aload_n 0, 1, [], 0), (.iload_n 3, 1, [], 0), (.iconst 1, 1, [], 0), (.iadd, 1, [], 0), (.iaload, 1, [11], 0)]
theorem a_L_law_657 : ck mL_law b_L_law_657 657 = true := by decide +kernel
theorem k_L_law_663 : CV mL_law 663 mX5_years := CV.of 73 553 554 555 (by decide +kernel) (by decide +kernel) (by decide +kernel) (by decide +kernel)
def b_L_law_666 : List Ent := [(.aload_n 2, 1, [], 0), (.aload_n 0, 1, [], 0), (.iload_n 3, 1, [], 0), (.iconst 1, 1, [], 0), (.iadd, 1, [], 0), (.iaload, 1, [11], 0)]
theorem a_L_law_666 : ck mL_law b_L_law_666 666 = true := by decide +kernel
theorem k_L_law_672 : CV mL_law 672 mX6_years := CV.of 76 1104 1105 1106 (by decide +kernel) (by decide +kernel) (by decide +kernel) (by decide +kernel)
def b_L_law_675 : List Ent := [(.if_icmp .eq 960, 3, [1635], 0)]
theorem a_L_law_675 : ck mL_law b_L_law_675 675 = true := by decide +kernel
def b_L_law_678 : List Ent := [(.iconst 0, 1, [], 0), (.ireturn, 1, [1], 0)]
theorem a_L_law_678 : ck mL_law b_L_law_678 678 = true := by decide +kernel
def b_L_law_680 : List Ent := [(.aload_n 1, 1, [], 0), (.aload_n 0, 1, [], 0), (.iload_n 3, 1, [], 0), (.iconst 1, 1, [], 0), (.iadd, 1, [], 0), (.iaload, 1, [11], 0)]
theorem a_L_law_680 : ck mL_law b_L_law_680 680 = true := by decide +kernel
theorem k_L_law_686 : CV mL_law 686 mX5_seed := CV.of 77 580 581 582 (by decide +kernel) (by decide +kernel) (by decide +kernel) (by decide +kernel)
def b_L_law_689 : List Ent := [(.aload_n 2, 1, [], 0), (.aload_n 0, 1, [], 0), (.iload_n 3, 1, [], 0), (.iconst 1, 1, [], 0), (.iadd, 1, [], 0), (.iaload, 1, [11], 0)]
theorem a_L_law_689 : ck mL_law b_L_law_689 689 = true := by decide +kernel
theorem k_L_law_695 : CV mL_law 695 mX6_seed := CV.of 80 1120 1121 1122 (by decide +kernel) (by decide +kernel) (by decide +kernel) (by decide +kernel)
def b_L_law_698 : List Ent := [(.if_icmp .eq 937, 3, [1635], 0)]
theorem a_L_law_698 : ck mL_law b_L_law_698 698 = true := by decide +kernel
def b_L_law_701 : List Ent := [(.iconst 0, 1, [], 0), (.ireturn, 1, [1], 0)]
theorem a_L_law_701 : ck mL_law b_L_law_701 701 = true := by decide +kernel
def b_L_law_703 : List Ent := [(.aload_n 1, 1, [], 0)]
theorem a_L_law_703 : ck mL_law b_L_law_703 703 = true := by decide +kernel
theorem k_L_law_704 : CV mL_law 704 mX5_year := CV.of 81 584 585 586 (by decide +kernel) (by decide +kernel) (by decide +kernel) (by decide +kernel)
def b_L_law_707 : List Ent := [(.aload_n 2, 1, [], 0)]
theorem a_L_law_707 : ck mL_law b_L_law_707 707 = true := by decide +kernel
theorem k_L_law_708 : CV mL_law 708 mX6_year := CV.of 84 1124 1125 1126 (by decide +kernel) (by decide +kernel) (by decide +kernel) (by decide +kernel)
def b_L_law_711 : List Ent := [(.if_icmp .eq 924, 3, [1635], 0)]
theorem a_L_law_711 : ck mL_law b_L_law_711 711 = true := by decide +kernel
def b_L_law_714 : List Ent := [(.iconst 0, 1, [], 0), (.ireturn, 1, [1], 0)]
theorem a_L_law_714 : ck mL_law b_L_law_714 714 = true := by decide +kernel
def b_L_law_716 : List Ent := [(.aload_n 1, 1, [], 0), (.aload_n 0, 1, [], 0), (.iload_n 3, 1, [], 0), (.iconst 1, 1, [], 0), (.iadd, 1, [], 0), (.iaload, 1, [11], 0)]
theorem a_L_law_716 : ck mL_law b_L_law_716 716 = true := by decide +kernel
theorem k_L_law_722 : CV mL_law 722 mX5_winters := CV.of 85 597 598 599 (by decide +kernel) (by decide +kernel) (by decide +kernel) (by decide +kernel)
def b_L_law_725 : List Ent := [(.aload_n 2, 1, [], 0), (.aload_n 0, 1, [], 0), (.iload_n 3, 1, [], 0), (.iconst 1, 1, [], 0), (.iadd, 1, [], 0), (.iaload, 1, [11], 0)]
theorem a_L_law_725 : ck mL_law b_L_law_725 725 = true := by decide +kernel
theorem k_L_law_731 : CV mL_law 731 mX6_winters := CV.of 88 1137 1138 1139 (by decide +kernel) (by decide +kernel) (by decide +kernel) (by decide +kernel)
def b_L_law_734 : List Ent := [(.if_icmp .eq 901, 3, [1635], 0)]
theorem a_L_law_734 : ck mL_law b_L_law_734 734 = true := by decide +kernel
def b_L_law_737 : List Ent := [(.iconst 0, 1, [], 0), (.ireturn, 1, [1], 0)]
theorem a_L_law_737 : ck mL_law b_L_law_737 737 = true := by decide +kernel
def b_L_law_739 : List Ent := [(.aload_n 1, 1, [], 0), (.aload_n 0, 1, [], 0), (.iload_n 3, 1, [], 0), (.iconst 1, 1, [], 0), (.iadd, 1, [], 0), (.iaload, 1, [11], 0)]
theorem a_L_law_739 : ck mL_law b_L_law_739 739 = true := by decide +kernel
theorem k_L_law_745 : CV mL_law 745 mX5_state := CV.of 89 605 606 607 (by decide +kernel) (by decide +kernel) (by decide +kernel) (by decide +kernel)
def b_L_law_748 : List Ent := [(.aload_n 2, 1, [], 0), (.aload_n 0, 1, [], 0), (.iload_n 3, 1, [], 0), (.iconst 1, 1, [], 0), (.iadd, 1, [], 0), (.iaload, 1, [11], 0)]
theorem a_L_law_748 : ck mL_law b_L_law_748 748 = true := by decide +kernel
theorem k_L_law_754 : CV mL_law 754 mX6_state := CV.of 92 1142 1143 1144 (by decide +kernel) (by decide +kernel) (by decide +kernel) (by decide +kernel)
def b_L_law_757 : List Ent := [(.if_icmp .eq 878, 3, [1635], 0)]
theorem a_L_law_757 : ck mL_law b_L_law_757 757 = true := by decide +kernel
def b_L_law_760 : List Ent := [(.iconst 0, 1, [], 0), (.ireturn, 1, [1], 0)]
theorem a_L_law_760 : ck mL_law b_L_law_760 760 = true := by decide +kernel
def b_L_law_762 : List Ent := [(.aload_n 1, 1, [], 0), (.aload_n 0, 1, [], 0), (.iload_n 3, 1, [], 0), (.iconst 1, 1, [], 0), (.iadd, 1, [], 0), (.iaload, 1, [11], 0)]
theorem a_L_law_762 : ck mL_law b_L_law_762 762 = true := by decide +kernel
theorem k_L_law_768 : CV mL_law 768 mX5_harvest := CV.of 93 617 618 619 (by decide +kernel) (by decide +kernel) (by decide +kernel) (by decide +kernel)
def b_L_law_771 : List Ent := [(.aload_n 2, 1, [], 0), (.aload_n 0, 1, [], 0), (.iload_n 3, 1, [], 0), (.iconst 1, 1, [], 0), (.iadd, 1, [], 0), (.iaload, 1, [11], 0)]
theorem a_L_law_771 : ck mL_law b_L_law_771 771 = true := by decide +kernel
theorem k_L_law_777 : CV mL_law 777 mX6_harvest := CV.of 96 1158 1159 1160 (by decide +kernel) (by decide +kernel) (by decide +kernel) (by decide +kernel)
def b_L_law_780 : List Ent := [(.if_icmp .eq 855, 3, [1635], 0)]
theorem a_L_law_780 : ck mL_law b_L_law_780 780 = true := by decide +kernel
def b_L_law_783 : List Ent := [(.iconst 0, 1, [], 0), (.ireturn, 1, [1], 0)]
theorem a_L_law_783 : ck mL_law b_L_law_783 783 = true := by decide +kernel
def b_L_law_785 : List Ent := [(.aload_n 1, 1, [], 0)]
theorem a_L_law_785 : ck mL_law b_L_law_785 785 = true := by decide +kernel
theorem k_L_law_786 : CV mL_law 786 mX5_bare := CV.of 97 621 622 623 (by decide +kernel) (by decide +kernel) (by decide +kernel) (by decide +kernel)
def b_L_law_789 : List Ent := [(.aload_n 2, 1, [], 0)]
theorem a_L_law_789 : ck mL_law b_L_law_789 789 = true := by decide +kernel
theorem k_L_law_790 : CV mL_law 790 mX6_bare := CV.of 100 1166 1167 1168 (by decide +kernel) (by decide +kernel) (by decide +kernel) (by decide +kernel)
def b_L_law_793 : List Ent := [(.if_icmp .eq 842, 3, [1635], 0)]
theorem a_L_law_793 : ck mL_law b_L_law_793 793 = true := by decide +kernel
def b_L_law_796 : List Ent := [(.iconst 0, 1, [], 0), (.ireturn, 1, [1], 0)]
theorem a_L_law_796 : ck mL_law b_L_law_796 796 = true := by decide +kernel
def b_L_law_798 : List Ent := [(.aload_n 1, 1, [], 0), (.aload_n 0, 1, [], 0), (.iload_n 3, 1, [], 0), (.iconst 1, 1, [], 0), (.iadd, 1, [], 0), (.iaload, 1, [11], 0)]
theorem a_L_law_798 : ck mL_law b_L_law_798 798 = true := by decide +kernel
theorem k_L_law_804 : CV mL_law 804 mX5_ripe := CV.of 101 630 631 632 (by decide +kernel) (by decide +kernel) (by decide +kernel) (by decide +kernel)
def b_L_law_807 : List Ent := [(.aload_n 2, 1, [], 0), (.aload_n 0, 1, [], 0), (.iload_n 3, 1, [], 0), (.iconst 1, 1, [], 0), (.iadd, 1, [], 0), (.iaload, 1, [11], 0)]
theorem a_L_law_807 : ck mL_law b_L_law_807 807 = true := by decide +kernel
theorem k_L_law_813 : CV mL_law 813 mX6_ripe := CV.of 104 1174 1175 1176 (by decide +kernel) (by decide +kernel) (by decide +kernel) (by decide +kernel)
def b_L_law_816 : List Ent := [(.if_icmp .eq 819, 3, [1635], 0)]
theorem a_L_law_816 : ck mL_law b_L_law_816 816 = true := by decide +kernel
def b_L_law_819 : List Ent := [(.iconst 0, 1, [], 0), (.ireturn, 1, [1], 0)]
theorem a_L_law_819 : ck mL_law b_L_law_819 819 = true := by decide +kernel
def b_L_law_821 : List Ent := [(.aload_n 1, 1, [], 0), (.aload_n 0, 1, [], 0), (.iload_n 3, 1, [], 0), (.iconst 1, 1, [], 0), (.iadd, 1, [], 0), (.iaload, 1, [11], 0)]
theorem a_L_law_821 : ck mL_law b_L_law_821 821 = true := by decide +kernel
theorem k_L_law_827 : CV mL_law 827 mX5_cutFor := CV.of 105 634 635 636 (by decide +kernel) (by decide +kernel) (by decide +kernel) (by decide +kernel)
def b_L_law_830 : List Ent := [(.aload_n 2, 1, [], 0), (.aload_n 0, 1, [], 0), (.iload_n 3, 1, [], 0), (.iconst 1, 1, [], 0), (.iadd, 1, [], 0), (.iaload, 1, [11], 0)]
theorem a_L_law_830 : ck mL_law b_L_law_830 830 = true := by decide +kernel
theorem k_L_law_836 : CV mL_law 836 mX6_cutFor := CV.of 108 1178 1179 1180 (by decide +kernel) (by decide +kernel) (by decide +kernel) (by decide +kernel)
def b_L_law_839 : List Ent := [(.if_icmp .eq 796, 3, [1635], 0)]
theorem a_L_law_839 : ck mL_law b_L_law_839 839 = true := by decide +kernel
def b_L_law_842 : List Ent := [(.iconst 0, 1, [], 0), (.ireturn, 1, [1], 0)]
theorem a_L_law_842 : ck mL_law b_L_law_842 842 = true := by decide +kernel
def b_L_law_844 : List Ent := [(.aload_n 1, 1, [], 0), (.aload_n 0, 1, [], 0), (.iload_n 3, 1, [], 0), (.iconst 1, 1, [], 0), (.iadd, 1, [], 0), (.iaload, 1, [11], 0)]
theorem a_L_law_844 : ck mL_law b_L_law_844 844 = true := by decide +kernel
theorem k_L_law_850 : CV mL_law 850 mX5_cutsFor := CV.of 109 642 643 644 (by decide +kernel) (by decide +kernel) (by decide +kernel) (by decide +kernel)
def b_L_law_853 : List Ent := [(.aload_n 2, 1, [], 0), (.aload_n 0, 1, [], 0), (.iload_n 3, 1, [], 0), (.iconst 1, 1, [], 0), (.iadd, 1, [], 0), (.iaload, 1, [11], 0)]
theorem a_L_law_853 : ck mL_law b_L_law_853 853 = true := by decide +kernel
theorem k_L_law_859 : CV mL_law 859 mX6_cutsFor := CV.of 112 1186 1187 1188 (by decide +kernel) (by decide +kernel) (by decide +kernel) (by decide +kernel)
def b_L_law_862 : List Ent := [(.if_icmp .eq 773, 3, [1635], 0)]
theorem a_L_law_862 : ck mL_law b_L_law_862 862 = true := by decide +kernel
def b_L_law_865 : List Ent := [(.iconst 0, 1, [], 0), (.ireturn, 1, [1], 0)]
theorem a_L_law_865 : ck mL_law b_L_law_865 865 = true := by decide +kernel
def b_L_law_867 : List Ent := [(.aload_n 1, 1, [], 0), (.aload_n 0, 1, [], 0), (.iload_n 3, 1, [], 0), (.iconst 1, 1, [], 0), (.iadd, 1, [], 0), (.iaload, 1, [11], 0), (.aload_n 0, 1, [], 0), (.iload_n 3, 1, [], 0), (.iconst 2, 1, [], 0), (.iadd, 1, [], 0), (.iaload, 1, [11], 0)]
theorem a_L_law_867 : ck mL_law b_L_law_867 867 = true := by decide +kernel
theorem k_L_law_878 : CV mL_law 878 mX5_kindFor := CV.of 113 652 653 654 (by decide +kernel) (by decide +kernel) (by decide +kernel) (by decide +kernel)
def b_L_law_881 : List Ent := [(.aload_n 2, 1, [], 0), (.aload_n 0, 1, [], 0), (.iload_n 3, 1, [], 0), (.iconst 1, 1, [], 0), (.iadd, 1, [], 0), (.iaload, 1, [11], 0), (.aload_n 0, 1, [], 0), (.iload_n 3, 1, [], 0), (.iconst 2, 1, [], 0), (.iadd, 1, [], 0), (.iaload, 1, [11], 0)]
theorem a_L_law_881 : ck mL_law b_L_law_881 881 = true := by decide +kernel
theorem k_L_law_892 : CV mL_law 892 mX6_kindFor := CV.of 116 1191 1192 1193 (by decide +kernel) (by decide +kernel) (by decide +kernel) (by decide +kernel)
def b_L_law_895 : List Ent := [(.if_icmp .eq 740, 3, [1635], 0)]
theorem a_L_law_895 : ck mL_law b_L_law_895 895 = true := by decide +kernel
def b_L_law_898 : List Ent := [(.iconst 0, 1, [], 0), (.ireturn, 1, [1], 0)]
theorem a_L_law_898 : ck mL_law b_L_law_898 898 = true := by decide +kernel
def b_L_law_900 : List Ent := [(.aload_n 1, 1, [], 0), (.aload_n 0, 1, [], 0), (.iload_n 3, 1, [], 0), (.iconst 1, 1, [], 0), (.iadd, 1, [], 0), (.iaload, 1, [11], 0), (.aload_n 0, 1, [], 0), (.iload_n 3, 1, [], 0), (.iconst 2, 1, [], 0), (.iadd, 1, [], 0), (.iaload, 1, [11], 0), (.aload_n 0, 1, [], 0), (.iload_n 3, 1, [], 0), (.iconst 3, 1, [], 0), (.iadd, 1, [], 0), (.iaload, 1, [11], 0)]
theorem a_L_law_900 : ck mL_law b_L_law_900 900 = true := by decide +kernel
theorem k_L_law_916 : CV mL_law 916 mX5_forceFor := CV.of 117 656 657 658 (by decide +kernel) (by decide +kernel) (by decide +kernel) (by decide +kernel)
def b_L_law_919 : List Ent := [(.aload_n 2, 1, [], 0), (.aload_n 0, 1, [], 0), (.iload_n 3, 1, [], 0), (.iconst 1, 1, [], 0), (.iadd, 1, [], 0), (.iaload, 1, [11], 0), (.aload_n 0, 1, [], 0), (.iload_n 3, 1, [], 0), (.iconst 2, 1, [], 0), (.iadd, 1, [], 0), (.iaload, 1, [11], 0), (.aload_n 0, 1, [], 0), (.iload_n 3, 1, [], 0), (.iconst 3, 1, [], 0), (.iadd, 1, [], 0), (.iaload, 1, [11], 0)]
theorem a_L_law_919 : ck mL_law b_L_law_919 919 = true := by decide +kernel
theorem k_L_law_935 : CV mL_law 935 mX6_forceFor := CV.of 120 1195 1196 1197 (by decide +kernel) (by decide +kernel) (by decide +kernel) (by decide +kernel)
def b_L_law_938 : List Ent := [(.if_icmp .eq 697, 3, [1635], 0)]
theorem a_L_law_938 : ck mL_law b_L_law_938 938 = true := by decide +kernel
def b_L_law_941 : List Ent := [(.iconst 0, 1, [], 0), (.ireturn, 1, [1], 0)]
theorem a_L_law_941 : ck mL_law b_L_law_941 941 = true := by decide +kernel
def b_L_law_943 : List Ent := [(.aload_n 1, 1, [], 0), (.aload_n 0, 1, [], 0), (.iload_n 3, 1, [], 0), (.iconst 1, 1, [], 0), (.iadd, 1, [], 0), (.iaload, 1, [11], 0), (.aload_n 0, 1, [], 0), (.iload_n 3, 1, [], 0), (.iconst 2, 1, [], 0), (.iadd, 1, [], 0), (.iaload, 1, [11], 0)]
theorem a_L_law_943 : ck mL_law b_L_law_943 943 = true := by decide +kernel
theorem k_L_law_954 : CV mL_law 954 mX5_regret := CV.of 121 660 661 662 (by decide +kernel) (by decide +kernel) (by decide +kernel) (by decide +kernel)
def b_L_law_957 : List Ent := [(.aload_n 2, 1, [], 0), (.aload_n 0, 1, [], 0), (.iload_n 3, 1, [], 0), (.iconst 1, 1, [], 0), (.iadd, 1, [], 0), (.iaload, 1, [11], 0), (.aload_n 0, 1, [], 0), (.iload_n 3, 1, [], 0), (.iconst 2, 1, [], 0), (.iadd, 1, [], 0), (.iaload, 1, [11], 0)]
theorem a_L_law_957 : ck mL_law b_L_law_957 957 = true := by decide +kernel
theorem k_L_law_968 : CV mL_law 968 mX6_regret := CV.of 124 1200 1201 1202 (by decide +kernel) (by decide +kernel) (by decide +kernel) (by decide +kernel)
def b_L_law_971 : List Ent := [(.if_icmp .eq 664, 3, [1635], 0)]
theorem a_L_law_971 : ck mL_law b_L_law_971 971 = true := by decide +kernel
def b_L_law_974 : List Ent := [(.iconst 0, 1, [], 0), (.ireturn, 1, [1], 0)]
theorem a_L_law_974 : ck mL_law b_L_law_974 974 = true := by decide +kernel
def b_L_law_976 : List Ent := [(.aload_n 1, 1, [], 0), (.aload_n 0, 1, [], 0), (.iload_n 3, 1, [], 0), (.iconst 1, 1, [], 0), (.iadd, 1, [], 0), (.iaload, 1, [11], 0), (.aload_n 0, 1, [], 0), (.iload_n 3, 1, [], 0), (.iconst 2, 1, [], 0), (.iadd, 1, [], 0), (.iaload, 1, [11], 0)]
theorem a_L_law_976 : ck mL_law b_L_law_976 976 = true := by decide +kernel
theorem k_L_law_987 : CV mL_law 987 mX5_freeFor := CV.of 125 664 665 666 (by decide +kernel) (by decide +kernel) (by decide +kernel) (by decide +kernel)
def b_L_law_990 : List Ent := [(.aload_n 2, 1, [], 0), (.aload_n 0, 1, [], 0), (.iload_n 3, 1, [], 0), (.iconst 1, 1, [], 0), (.iadd, 1, [], 0), (.iaload, 1, [11], 0), (.aload_n 0, 1, [], 0), (.iload_n 3, 1, [], 0), (.iconst 2, 1, [], 0), (.iadd, 1, [], 0), (.iaload, 1, [11], 0)]
theorem a_L_law_990 : ck mL_law b_L_law_990 990 = true := by decide +kernel
theorem k_L_law_1001 : CV mL_law 1001 mX6_freeFor := CV.of 128 1204 1205 1206 (by decide +kernel) (by decide +kernel) (by decide +kernel) (by decide +kernel)
def b_L_law_1004 : List Ent := [(.if_icmp .eq 631, 3, [1635], 0)]
theorem a_L_law_1004 : ck mL_law b_L_law_1004 1004 = true := by decide +kernel
def b_L_law_1007 : List Ent := [(.iconst 0, 1, [], 0), (.ireturn, 1, [1], 0)]
theorem a_L_law_1007 : ck mL_law b_L_law_1007 1007 = true := by decide +kernel
def b_L_law_1009 : List Ent := [(.aload_n 1, 1, [], 0), (.aload_n 0, 1, [], 0), (.iload_n 3, 1, [], 0), (.iconst 1, 1, [], 0), (.iadd, 1, [], 0), (.iaload, 1, [11], 0), (.aload_n 0, 1, [], 0), (.iload_n 3, 1, [], 0), (.iconst 2, 1, [], 0), (.iadd, 1, [], 0), (.iaload, 1, [11], 0), (.aload_n 0, 1, [], 0), (.iload_n 3, 1, [], 0), (.iconst 3, 1, [], 0), (.iadd, 1, [], 0), (.iaload, 1, [11], 0)]
theorem a_L_law_1009 : ck mL_law b_L_law_1009 1009 = true := by decide +kernel
theorem k_L_law_1025 : CV mL_law 1025 mX5_fits := CV.of 129 672 673 674 (by decide +kernel) (by decide +kernel) (by decide +kernel) (by decide +kernel)
def b_L_law_1028 : List Ent := [(.aload_n 2, 1, [], 0), (.aload_n 0, 1, [], 0), (.iload_n 3, 1, [], 0), (.iconst 1, 1, [], 0), (.iadd, 1, [], 0), (.iaload, 1, [11], 0), (.aload_n 0, 1, [], 0), (.iload_n 3, 1, [], 0), (.iconst 2, 1, [], 0), (.iadd, 1, [], 0), (.iaload, 1, [11], 0), (.aload_n 0, 1, [], 0), (.iload_n 3, 1, [], 0), (.iconst 3, 1, [], 0), (.iadd, 1, [], 0), (.iaload, 1, [11], 0)]
theorem a_L_law_1028 : ck mL_law b_L_law_1028 1028 = true := by decide +kernel
theorem k_L_law_1044 : CV mL_law 1044 mX6_fits := CV.of 132 1212 1213 1214 (by decide +kernel) (by decide +kernel) (by decide +kernel) (by decide +kernel)
def b_L_law_1047 : List Ent := [(.if_icmp .eq 588, 3, [1635], 0)]
theorem a_L_law_1047 : ck mL_law b_L_law_1047 1047 = true := by decide +kernel
def b_L_law_1050 : List Ent := [(.iconst 0, 1, [], 0), (.ireturn, 1, [1], 0)]
theorem a_L_law_1050 : ck mL_law b_L_law_1050 1050 = true := by decide +kernel
def b_L_law_1052 : List Ent := [(.aload_n 1, 1, [], 0), (.aload_n 0, 1, [], 0), (.iload_n 3, 1, [], 0), (.iconst 1, 1, [], 0), (.iadd, 1, [], 0), (.iaload, 1, [11], 0), (.aload_n 0, 1, [], 0), (.iload_n 3, 1, [], 0), (.iconst 2, 1, [], 0), (.iadd, 1, [], 0), (.iaload, 1, [11], 0), (.aload_n 0, 1, [], 0), (.iload_n 3, 1, [], 0), (.iconst 3, 1, [], 0), (.iadd, 1, [], 0), (.iaload, 1, [11], 0)]
theorem a_L_law_1052 : ck mL_law b_L_law_1052 1052 = true := by decide +kernel
theorem k_L_law_1068 : CV mL_law 1068 mX5_odds := CV.of 133 690 691 692 (by decide +kernel) (by decide +kernel) (by decide +kernel) (by decide +kernel)
def b_L_law_1071 : List Ent := [(.aload_n 2, 1, [], 0), (.aload_n 0, 1, [], 0), (.iload_n 3, 1, [], 0), (.iconst 1, 1, [], 0), (.iadd, 1, [], 0), (.iaload, 1, [11], 0), (.aload_n 0, 1, [], 0), (.iload_n 3, 1, [], 0), (.iconst 2, 1, [], 0), (.iadd, 1, [], 0), (.iaload, 1, [11], 0), (.aload_n 0, 1, [], 0), (.iload_n 3, 1, [], 0), (.iconst 3, 1, [], 0), (.iadd, 1, [], 0), (.iaload, 1, [11], 0)]
theorem a_L_law_1071 : ck mL_law b_L_law_1071 1071 = true := by decide +kernel
theorem k_L_law_1087 : CV mL_law 1087 mX6_odds := CV.of 137 1223 1224 1225 (by decide +kernel) (by decide +kernel) (by decide +kernel) (by decide +kernel)
def b_L_law_1090 : List Ent := [(.lcmp, 1, [], 0), (.ifCond .eq 544, 3, [1635], 0)]
theorem a_L_law_1090 : ck mL_law b_L_law_1090 1090 = true := by decide +kernel
def b_L_law_1094 : List Ent := [(.iconst 0, 1, [], 0), (.ireturn, 1, [1], 0)]
theorem a_L_law_1094 : ck mL_law b_L_law_1094 1094 = true := by decide +kernel
def b_L_law_1096 : List Ent := [(.aload_n 1, 1, [], 0), (.aload_n 0, 1, [], 0), (.iload_n 3, 1, [], 0), (.iconst 1, 1, [], 0), (.iadd, 1, [], 0), (.iaload, 1, [11], 0), (.aload_n 0, 1, [], 0), (.iload_n 3, 1, [], 0), (.iconst 2, 1, [], 0), (.iadd, 1, [], 0), (.iaload, 1, [11], 0)]
theorem a_L_law_1096 : ck mL_law b_L_law_1096 1096 = true := by decide +kernel
theorem k_L_law_1107 : CV mL_law 1107 mX5_hope := CV.of 138 706 707 708 (by decide +kernel) (by decide +kernel) (by decide +kernel) (by decide +kernel)
def b_L_law_1110 : List Ent := [(.aload_n 2, 1, [], 0), (.aload_n 0, 1, [], 0), (.iload_n 3, 1, [], 0), (.iconst 1, 1, [], 0), (.iadd, 1, [], 0), (.iaload, 1, [11], 0), (.aload_n 0, 1, [], 0), (.iload_n 3, 1, [], 0), (.iconst 2, 1, [], 0), (.iadd, 1, [], 0), (.iaload, 1, [11], 0)]
theorem a_L_law_1110 : ck mL_law b_L_law_1110 1110 = true := by decide +kernel
theorem k_L_law_1121 : CV mL_law 1121 mX6_hope := CV.of 142 1235 1236 1237 (by decide +kernel) (by decide +kernel) (by decide +kernel) (by decide +kernel)
def b_L_law_1124 : List Ent := [(.lcmp, 1, [], 0), (.ifCond .eq 510, 3, [1635], 0)]
theorem a_L_law_1124 : ck mL_law b_L_law_1124 1124 = true := by decide +kernel
def b_L_law_1128 : List Ent := [(.iconst 0, 1, [], 0), (.ireturn, 1, [1], 0)]
theorem a_L_law_1128 : ck mL_law b_L_law_1128 1128 = true := by decide +kernel
def b_L_law_1130 : List Ent := [(.aload_n 1, 1, [], 0), (.aload_n 0, 1, [], 0), (.iload_n 3, 1, [], 0), (.iconst 1, 1, [], 0), (.iadd, 1, [], 0), (.iaload, 1, [11], 0), (.aload_n 0, 1, [], 0), (.iload_n 3, 1, [], 0), (.iconst 2, 1, [], 0), (.iadd, 1, [], 0), (.iaload, 1, [11], 0)]
theorem a_L_law_1130 : ck mL_law b_L_law_1130 1130 = true := by decide +kernel
theorem k_L_law_1141 : CV mL_law 1141 mX5_prove := CV.of 143 711 712 713 (by decide +kernel) (by decide +kernel) (by decide +kernel) (by decide +kernel)
def b_L_law_1144 : List Ent := [(.aload_n 2, 1, [], 0), (.aload_n 0, 1, [], 0), (.iload_n 3, 1, [], 0), (.iconst 1, 1, [], 0), (.iadd, 1, [], 0), (.iaload, 1, [11], 0), (.aload_n 0, 1, [], 0), (.iload_n 3, 1, [], 0), (.iconst 2, 1, [], 0), (.iadd, 1, [], 0), (.iaload, 1, [11], 0)]
theorem a_L_law_1144 : ck mL_law b_L_law_1144 1144 = true := by decide +kernel
theorem k_L_law_1155 : CV mL_law 1155 mX6_prove := CV.of 146 1239 1240 1241 (by decide +kernel) (by decide +kernel) (by decide +kernel) (by decide +kernel)
def b_L_law_1158 : List Ent := [(.if_icmp .eq 477, 3, [1635], 0)]
theorem a_L_law_1158 : ck mL_law b_L_law_1158 1158 = true := by decide +kernel
def b_L_law_1161 : List Ent := [(.iconst 0, 1, [], 0), (.ireturn, 1, [1], 0)]
theorem a_L_law_1161 : ck mL_law b_L_law_1161 1161 = true := by decide +kernel
def b_L_law_1163 : List Ent := [(.aload_n 1, 1, [], 0), (.aload_n 0, 1, [], 0), (.iload_n 3, 1, [], 0), (.iconst 1, 1, [], 0), (.iadd, 1, [], 0), (.iaload, 1, [11], 0), (.aload_n 0, 1, [], 0), (.iload_n 3, 1, [], 0), (.iconst 2, 1, [], 0), (.iadd, 1, [], 0), (.iaload, 1, [11], 0)]
theorem a_L_law_1163 : ck mL_law b_L_law_1163 1163 = true := by decide +kernel
theorem k_L_law_1174 : CV mL_law 1174 mX5_row := CV.of 147 715 716 717 (by decide +kernel) (by decide +kernel) (by decide +kernel) (by decide +kernel)
def b_L_law_1177 : List Ent := [(.aload_n 2, 1, [], 0), (.aload_n 0, 1, [], 0), (.iload_n 3, 1, [], 0), (.iconst 1, 1, [], 0), (.iadd, 1, [], 0), (.iaload, 1, [11], 0), (.aload_n 0, 1, [], 0), (.iload_n 3, 1, [], 0), (.iconst 2, 1, [], 0), (.iadd, 1, [], 0), (.iaload, 1, [11], 0)]
theorem a_L_law_1177 : ck mL_law b_L_law_1177 1177 = true := by decide +kernel
theorem k_L_law_1188 : CV mL_law 1188 mX6_row := CV.of 150 1243 1244 1245 (by decide +kernel) (by decide +kernel) (by decide +kernel) (by decide +kernel)
def b_L_law_1191 : List Ent := [(.if_icmp .eq 444, 3, [1635], 0)]
theorem a_L_law_1191 : ck mL_law b_L_law_1191 1191 = true := by decide +kernel
def b_L_law_1194 : List Ent := [(.iconst 0, 1, [], 0), (.ireturn, 1, [1], 0)]
theorem a_L_law_1194 : ck mL_law b_L_law_1194 1194 = true := by decide +kernel
def b_L_law_1196 : List Ent := [(.aload_n 1, 1, [], 0), (.aload_n 0, 1, [], 0), (.iload_n 3, 1, [], 0), (.iconst 1, 1, [], 0), (.iadd, 1, [], 0), (.iaload, 1, [11], 0), (.aload_n 0, 1, [], 0), (.iload_n 3, 1, [], 0), (.iconst 2, 1, [], 0), (.iadd, 1, [], 0), (.iaload, 1, [11], 0), (.aload_n 0, 1, [], 0), (.iload_n 3, 1, [], 0), (.iconst 3, 1, [], 0), (.iadd, 1, [], 0), (.iaload, 1, [11], 0)]
theorem a_L_law_1196 : ck mL_law b_L_law_1196 1196 = true := by decide +kernel
theorem k_L_law_1212 : CV mL_law 1212 mX5_alterRow := CV.of 151 723 724 725 (by decide +kernel) (by decide +kernel) (by decide +kernel) (by decide +kernel)
def b_L_law_1215 : List Ent := [(.aload_n 2, 1, [], 0), (.aload_n 0, 1, [], 0), (.iload_n 3, 1, [], 0), (.iconst 1, 1, [], 0), (.iadd, 1, [], 0), (.iaload, 1, [11], 0), (.aload_n 0, 1, [], 0), (.iload_n 3, 1, [], 0), (.iconst 2, 1, [], 0), (.iadd, 1, [], 0), (.iaload, 1, [11], 0), (.aload_n 0, 1, [], 0), (.iload_n 3, 1, [], 0), (.iconst 3, 1, [], 0), (.iadd, 1, [], 0), (.iaload, 1, [11], 0)]
theorem a_L_law_1215 : ck mL_law b_L_law_1215 1215 = true := by decide +kernel
theorem k_L_law_1231 : CV mL_law 1231 mX6_alterRow := CV.of 154 1251 1252 1253 (by decide +kernel) (by decide +kernel) (by decide +kernel) (by decide +kernel)
def b_L_law_1234 : List Ent := [(.if_icmp .eq 401, 3, [1635], 0)]
theorem a_L_law_1234 : ck mL_law b_L_law_1234 1234 = true := by decide +kernel
def b_L_law_1237 : List Ent := [(.iconst 0, 1, [], 0), (.ireturn, 1, [1], 0)]
theorem a_L_law_1237 : ck mL_law b_L_law_1237 1237 = true := by decide +kernel
def b_L_law_1239 : List Ent := [(.aload_n 1, 1, [], 0), (.aload_n 0, 1, [], 0), (.iload_n 3, 1, [], 0), (.iconst 1, 1, [], 0), (.iadd, 1, [], 0), (.iaload, 1, [11], 0)]
theorem a_L_law_1239 : ck mL_law b_L_law_1239 1239 = true := by decide +kernel
theorem k_L_law_1245 : CV mL_law 1245 mX5_judge := CV.of 155 727 728 729 (by decide +kernel) (by decide +kernel) (by decide +kernel) (by decide +kernel)
def b_L_law_1248 : List Ent := [(.aload_n 2, 1, [], 0), (.aload_n 0, 1, [], 0), (.iload_n 3, 1, [], 0), (.iconst 1, 1, [], 0), (.iadd, 1, [], 0), (.iaload, 1, [11], 0)]
theorem a_L_law_1248 : ck mL_law b_L_law_1248 1248 = true := by decide +kernel
theorem k_L_law_1254 : CV mL_law 1254 mX6_judge := CV.of 158 1255 1256 1257 (by decide +kernel) (by decide +kernel) (by decide +kernel) (by decide +kernel)
def b_L_law_1257 : List Ent := [(.if_icmp .eq 378, 3, [1635], 0)]
theorem a_L_law_1257 : ck mL_law b_L_law_1257 1257 = true := by decide +kernel
def b_L_law_1260 : List Ent := [(.iconst 0, 1, [], 0), (.ireturn, 1, [1], 0)]
theorem a_L_law_1260 : ck mL_law b_L_law_1260 1260 = true := by decide +kernel
def b_L_law_1262 : List Ent := [(.aload_n 1, 1, [], 0), (.aload_n 0, 1, [], 0), (.iload_n 3, 1, [], 0), (.iconst 1, 1, [], 0), (.iadd, 1, [], 0), (.iaload, 1, [11], 0), (.aload_n 0, 1, [], 0), (.iload_n 3, 1, [], 0), (.iconst 2, 1, [], 0), (.iadd, 1, [], 0), (.iaload, 1, [11], 0), (.aload_n 0, 1, [], 0), (.iload_n 3, 1, [], 0), (.iconst 3, 1, [], 0), (.iadd, 1, [], 0), (.iaload, 1, [11], 0), (.aload_n 0, 1, [], 0), (.iload_n 3, 1, [], 0), (.iconst 4, 1, [], 0), (.iadd, 1, [], 0), (.iaload, 1, [11], 0)]
theorem a_L_law_1262 : ck mL_law b_L_law_1262 1262 = true := by decide +kernel
theorem k_L_law_1283 : CV mL_law 1283 mX5_minds := CV.of 159 731 732 733 (by decide +kernel) (by decide +kernel) (by decide +kernel) (by decide +kernel)
def b_L_law_1286 : List Ent := [(.aload_n 2, 1, [], 0), (.aload_n 0, 1, [], 0), (.iload_n 3, 1, [], 0), (.iconst 1, 1, [], 0), (.iadd, 1, [], 0), (.iaload, 1, [11], 0), (.aload_n 0, 1, [], 0), (.iload_n 3, 1, [], 0), (.iconst 2, 1, [], 0), (.iadd, 1, [], 0), (.iaload, 1, [11], 0), (.aload_n 0, 1, [], 0), (.iload_n 3, 1, [], 0), (.iconst 3, 1, [], 0), (.iadd, 1, [], 0), (.iaload, 1, [11], 0), (.aload_n 0, 1, [], 0), (.iload_n 3, 1, [], 0), (.iconst 4, 1, [], 0), (.iadd, 1, [], 0), (.iaload, 1, [11], 0)]
theorem a_L_law_1286 : ck mL_law b_L_law_1286 1286 = true := by decide +kernel
theorem k_L_law_1307 : CV mL_law 1307 mX6_minds := CV.of 162 1275 1276 1277 (by decide +kernel) (by decide +kernel) (by decide +kernel) (by decide +kernel)
def b_L_law_1310 : List Ent := [(.if_icmp .eq 325, 3, [1635], 0)]
theorem a_L_law_1310 : ck mL_law b_L_law_1310 1310 = true := by decide +kernel
def b_L_law_1313 : List Ent := [(.iconst 0, 1, [], 0), (.ireturn, 1, [1], 0)]
theorem a_L_law_1313 : ck mL_law b_L_law_1313 1313 = true := by decide +kernel
def b_L_law_1315 : List Ent := [(.aload_n 1, 1, [], 0), (.aload_n 0, 1, [], 0), (.iload_n 3, 1, [], 0), (.iconst 1, 1, [], 0), (.iadd, 1, [], 0), (.iaload, 1, [11], 0), (.aload_n 0, 1, [], 0), (.iload_n 3, 1, [], 0), (.iconst 2, 1, [], 0), (.iadd, 1, [], 0), (.iaload, 1, [11], 0), (.aload_n 0, 1, [], 0), (.iload_n 3, 1, [], 0), (.iconst 3, 1, [], 0), (.iadd, 1, [], 0), (.iaload, 1, [11], 0)]
theorem a_L_law_1315 : ck mL_law b_L_law_1315 1315 = true := by decide +kernel
theorem k_L_law_1331 : CV mL_law 1331 mX5_sheet := CV.of 163 736 737 738 (by decide +kernel) (by decide +kernel) (by decide +kernel) (by decide +kernel)
def b_L_law_1334 : List Ent := [(.aload_n 2, 1, [], 0), (.aload_n 0, 1, [], 0), (.iload_n 3, 1, [], 0), (.iconst 1, 1, [], 0), (.iadd, 1, [], 0), (.iaload, 1, [11], 0), (.aload_n 0, 1, [], 0), (.iload_n 3, 1, [], 0), (.iconst 2, 1, [], 0), (.iadd, 1, [], 0), (.iaload, 1, [11], 0), (.aload_n 0, 1, [], 0), (.iload_n 3, 1, [], 0), (.iconst 3, 1, [], 0), (.iadd, 1, [], 0), (.iaload, 1, [11], 0)]
theorem a_L_law_1334 : ck mL_law b_L_law_1334 1334 = true := by decide +kernel
theorem k_L_law_1350 : CV mL_law 1350 mX6_sheet := CV.of 166 1259 1260 1261 (by decide +kernel) (by decide +kernel) (by decide +kernel) (by decide +kernel)
def b_L_law_1353 : List Ent := [(.if_icmp .eq 282, 3, [1635], 0)]
theorem a_L_law_1353 : ck mL_law b_L_law_1353 1353 = true := by decide +kernel
def b_L_law_1356 : List Ent := [(.iconst 0, 1, [], 0), (.ireturn, 1, [1], 0)]
theorem a_L_law_1356 : ck mL_law b_L_law_1356 1356 = true := by decide +kernel
def b_L_law_1358 : List Ent := [(.aload_n 1, 1, [], 0), (.aload_n 0, 1, [], 0), (.iload_n 3, 1, [], 0), (.iconst 1, 1, [], 0), (.iadd, 1, [], 0), (.iaload, 1, [11], 0), (.aload_n 0, 1, [], 0), (.iload_n 3, 1, [], 0), (.iconst 2, 1, [], 0), (.iadd, 1, [], 0), (.iaload, 1, [11], 0), (.aload_n 0, 1, [], 0), (.iload_n 3, 1, [], 0), (.iconst 3, 1, [], 0), (.iadd, 1, [], 0), (.iaload, 1, [11], 0)]
theorem a_L_law_1358 : ck mL_law b_L_law_1358 1358 = true := by decide +kernel
theorem k_L_law_1374 : CV mL_law 1374 mX5_put := CV.of 167 747 748 749 (by decide +kernel) (by decide +kernel) (by decide +kernel) (by decide +kernel)
def b_L_law_1377 : List Ent := [(.aload_n 2, 1, [], 0), (.aload_n 0, 1, [], 0), (.iload_n 3, 1, [], 0), (.iconst 1, 1, [], 0), (.iadd, 1, [], 0), (.iaload, 1, [11], 0), (.aload_n 0, 1, [], 0), (.iload_n 3, 1, [], 0), (.iconst 2, 1, [], 0), (.iadd, 1, [], 0), (.iaload, 1, [11], 0), (.aload_n 0, 1, [], 0), (.iload_n 3, 1, [], 0), (.iconst 3, 1, [], 0), (.iadd, 1, [], 0), (.iaload, 1, [11], 0)]
theorem a_L_law_1377 : ck mL_law b_L_law_1377 1377 = true := by decide +kernel
theorem k_L_law_1393 : CV mL_law 1393 mX6_put := CV.of 170 1263 1264 1265 (by decide +kernel) (by decide +kernel) (by decide +kernel) (by decide +kernel)
def b_L_law_1396 : List Ent := [(.if_icmp .eq 239, 3, [1635], 0)]
theorem a_L_law_1396 : ck mL_law b_L_law_1396 1396 = true := by decide +kernel
def b_L_law_1399 : List Ent := [(.iconst 0, 1, [], 0), (.ireturn, 1, [1], 0)]
theorem a_L_law_1399 : ck mL_law b_L_law_1399 1399 = true := by decide +kernel
def b_L_law_1401 : List Ent := [(.aload_n 1, 1, [], 0), (.aload_n 0, 1, [], 0), (.iload_n 3, 1, [], 0), (.iconst 1, 1, [], 0), (.iadd, 1, [], 0), (.iaload, 1, [11], 0), (.aload_n 0, 1, [], 0), (.iload_n 3, 1, [], 0), (.iconst 2, 1, [], 0), (.iadd, 1, [], 0), (.iaload, 1, [11], 0), (.aload_n 0, 1, [], 0), (.iload_n 3, 1, [], 0), (.iconst 3, 1, [], 0), (.iadd, 1, [], 0), (.iaload, 1, [11], 0)]
theorem a_L_law_1401 : ck mL_law b_L_law_1401 1401 = true := by decide +kernel
theorem k_L_law_1417 : CV mL_law 1417 mX5_item := CV.of 171 758 759 760 (by decide +kernel) (by decide +kernel) (by decide +kernel) (by decide +kernel)
def b_L_law_1420 : List Ent := [(.aload_n 2, 1, [], 0), (.aload_n 0, 1, [], 0), (.iload_n 3, 1, [], 0), (.iconst 1, 1, [], 0), (.iadd, 1, [], 0), (.iaload, 1, [11], 0), (.aload_n 0, 1, [], 0), (.iload_n 3, 1, [], 0), (.iconst 2, 1, [], 0), (.iadd, 1, [], 0), (.iaload, 1, [11], 0), (.aload_n 0, 1, [], 0), (.iload_n 3, 1, [], 0), (.iconst 3, 1, [], 0), (.iadd, 1, [], 0), (.iaload, 1, [11], 0)]
theorem a_L_law_1420 : ck mL_law b_L_law_1420 1420 = true := by decide +kernel
theorem k_L_law_1436 : CV mL_law 1436 mX6_item := CV.of 174 1267 1268 1269 (by decide +kernel) (by decide +kernel) (by decide +kernel) (by decide +kernel)
def b_L_law_1439 : List Ent := [(.if_icmp .eq 196, 3, [1635], 0)]
theorem a_L_law_1439 : ck mL_law b_L_law_1439 1439 = true := by decide +kernel
def b_L_law_1442 : List Ent := [(.iconst 0, 1, [], 0), (.ireturn, 1, [1], 0)]
theorem a_L_law_1442 : ck mL_law b_L_law_1442 1442 = true := by decide +kernel
def b_L_law_1444 : List Ent := [(.aload_n 1, 1, [], 0), (.aload_n 0, 1, [], 0), (.iload_n 3, 1, [], 0), (.iconst 1, 1, [], 0), (.iadd, 1, [], 0), (.iaload, 1, [11], 0), (.aload_n 0, 1, [], 0), (.iload_n 3, 1, [], 0), (.iconst 2, 1, [], 0), (.iadd, 1, [], 0), (.iaload, 1, [11], 0), (.aload_n 0, 1, [], 0), (.iload_n 3, 1, [], 0), (.iconst 3, 1, [], 0), (.iadd, 1, [], 0), (.iaload, 1, [11], 0)]
theorem a_L_law_1444 : ck mL_law b_L_law_1444 1444 = true := by decide +kernel
theorem k_L_law_1460 : CV mL_law 1460 mX5_shelf := CV.of 175 762 763 764 (by decide +kernel) (by decide +kernel) (by decide +kernel) (by decide +kernel)
def b_L_law_1463 : List Ent := [(.aload_n 2, 1, [], 0), (.aload_n 0, 1, [], 0), (.iload_n 3, 1, [], 0), (.iconst 1, 1, [], 0), (.iadd, 1, [], 0), (.iaload, 1, [11], 0), (.aload_n 0, 1, [], 0), (.iload_n 3, 1, [], 0), (.iconst 2, 1, [], 0), (.iadd, 1, [], 0), (.iaload, 1, [11], 0), (.aload_n 0, 1, [], 0), (.iload_n 3, 1, [], 0), (.iconst 3, 1, [], 0), (.iadd, 1, [], 0), (.iaload, 1, [11], 0)]
theorem a_L_law_1463 : ck mL_law b_L_law_1463 1463 = true := by decide +kernel
theorem k_L_law_1479 : CV mL_law 1479 mX6_shelf := CV.of 178 1279 1280 1281 (by decide +kernel) (by decide +kernel) (by decide +kernel) (by decide +kernel)
def b_L_law_1482 : List Ent := [(.if_icmp .eq 153, 3, [1635], 0)]
theorem a_L_law_1482 : ck mL_law b_L_law_1482 1482 = true := by decide +kernel
def b_L_law_1485 : List Ent := [(.iconst 0, 1, [], 0), (.ireturn, 1, [1], 0)]
theorem a_L_law_1485 : ck mL_law b_L_law_1485 1485 = true := by decide +kernel
def b_L_law_1487 : List Ent := [(.aload_n 1, 1, [], 0), (.aload_n 0, 1, [], 0), (.iload_n 3, 1, [], 0), (.iconst 1, 1, [], 0), (.iadd, 1, [], 0), (.iaload, 1, [11], 0), (.aload_n 0, 1, [], 0), (.iload_n 3, 1, [], 0), (.iconst 2, 1, [], 0), (.iadd, 1, [], 0), (.iaload, 1, [11], 0)]
theorem a_L_law_1487 : ck mL_law b_L_law_1487 1487 = true := by decide +kernel
theorem k_L_law_1498 : CV mL_law 1498 mX5_taken := CV.of 179 783 784 785 (by decide +kernel) (by decide +kernel) (by decide +kernel) (by decide +kernel)
def b_L_law_1501 : List Ent := [(.aload_n 2, 1, [], 0), (.aload_n 0, 1, [], 0), (.iload_n 3, 1, [], 0), (.iconst 1, 1, [], 0), (.iadd, 1, [], 0), (.iaload, 1, [11], 0), (.aload_n 0, 1, [], 0), (.iload_n 3, 1, [], 0), (.iconst 2, 1, [], 0), (.iadd, 1, [], 0), (.iaload, 1, [11], 0)]
theorem a_L_law_1501 : ck mL_law b_L_law_1501 1501 = true := by decide +kernel
theorem k_L_law_1512 : CV mL_law 1512 mX6_taken := CV.of 182 1286 1287 1288 (by decide +kernel) (by decide +kernel) (by decide +kernel) (by decide +kernel)
def b_L_law_1515 : List Ent := [(.if_icmp .eq 120, 3, [1635], 0)]
theorem a_L_law_1515 : ck mL_law b_L_law_1515 1515 = true := by decide +kernel
def b_L_law_1518 : List Ent := [(.iconst 0, 1, [], 0), (.ireturn, 1, [1], 0)]
theorem a_L_law_1518 : ck mL_law b_L_law_1518 1518 = true := by decide +kernel
def b_L_law_1520 : List Ent := [(.aload_n 1, 1, [], 0), (.aload_n 0, 1, [], 0), (.iload_n 3, 1, [], 0), (.iconst 1, 1, [], 0), (.iadd, 1, [], 0), (.iaload, 1, [11], 0), (.aload_n 0, 1, [], 0), (.iload_n 3, 1, [], 0), (.iconst 2, 1, [], 0), (.iadd, 1, [], 0), (.iaload, 1, [11], 0), (.aload_n 0, 1, [], 0), (.iload_n 3, 1, [], 0), (.iconst 3, 1, [], 0), (.iadd, 1, [], 0), (.iaload, 1, [11], 0)]
theorem a_L_law_1520 : ck mL_law b_L_law_1520 1520 = true := by decide +kernel
theorem k_L_law_1536 : CV mL_law 1536 mX5_act := CV.of 183 794 795 796 (by decide +kernel) (by decide +kernel) (by decide +kernel) (by decide +kernel)
def b_L_law_1539 : List Ent := [(.aload_n 2, 1, [], 0), (.aload_n 0, 1, [], 0), (.iload_n 3, 1, [], 0), (.iconst 1, 1, [], 0), (.iadd, 1, [], 0), (.iaload, 1, [11], 0), (.aload_n 0, 1, [], 0), (.iload_n 3, 1, [], 0), (.iconst 2, 1, [], 0), (.iadd, 1, [], 0), (.iaload, 1, [11], 0), (.aload_n 0, 1, [], 0), (.iload_n 3, 1, [], 0), (.iconst 3, 1, [], 0), (.iadd, 1, [], 0), (.iaload, 1, [11], 0)]
theorem a_L_law_1539 : ck mL_law b_L_law_1539 1539 = true := by decide +kernel
theorem k_L_law_1555 : CV mL_law 1555 mX6_act := CV.of 186 1299 1300 1301 (by decide +kernel) (by decide +kernel) (by decide +kernel) (by decide +kernel)
def b_L_law_1558 : List Ent := [(.if_icmp .eq 77, 3, [1635], 0)]
theorem a_L_law_1558 : ck mL_law b_L_law_1558 1558 = true := by decide +kernel
def b_L_law_1561 : List Ent := [(.iconst 0, 1, [], 0), (.ireturn, 1, [1], 0)]
theorem a_L_law_1561 : ck mL_law b_L_law_1561 1561 = true := by decide +kernel
def b_L_law_1563 : List Ent := [(.aload_n 1, 1, [], 0), (.aload_n 0, 1, [], 0), (.iload_n 3, 1, [], 0), (.iconst 1, 1, [], 0), (.iadd, 1, [], 0), (.iaload, 1, [11], 0)]
theorem a_L_law_1563 : ck mL_law b_L_law_1563 1563 = true := by decide +kernel
theorem k_L_law_1569 : CV mL_law 1569 mX5_trace := CV.of 187 825 826 827 (by decide +kernel) (by decide +kernel) (by decide +kernel) (by decide +kernel)
def b_L_law_1572 : List Ent := [(.aload_n 2, 1, [], 0), (.aload_n 0, 1, [], 0), (.iload_n 3, 1, [], 0), (.iconst 1, 1, [], 0), (.iadd, 1, [], 0), (.iaload, 1, [11], 0)]
theorem a_L_law_1572 : ck mL_law b_L_law_1572 1572 = true := by decide +kernel
theorem k_L_law_1578 : CV mL_law 1578 mX6_trace := CV.of 190 1343 1344 1345 (by decide +kernel) (by decide +kernel) (by decide +kernel) (by decide +kernel)
def b_L_law_1581 : List Ent := [(.if_icmp .eq 54, 3, [1635], 0)]
theorem a_L_law_1581 : ck mL_law b_L_law_1581 1581 = true := by decide +kernel
def b_L_law_1584 : List Ent := [(.iconst 0, 1, [], 0), (.ireturn, 1, [1], 0)]
theorem a_L_law_1584 : ck mL_law b_L_law_1584 1584 = true := by decide +kernel
def b_L_law_1586 : List Ent := [(.aload_n 1, 1, [], 0), (.aload_n 0, 1, [], 0), (.iload_n 3, 1, [], 0), (.iconst 1, 1, [], 0), (.iadd, 1, [], 0), (.iaload, 1, [11], 0)]
theorem a_L_law_1586 : ck mL_law b_L_law_1586 1586 = true := by decide +kernel
theorem k_L_law_1592 : CV mL_law 1592 mX5_many := CV.of 191 829 830 831 (by decide +kernel) (by decide +kernel) (by decide +kernel) (by decide +kernel)
def b_L_law_1595 : List Ent := [(.aload_n 2, 1, [], 0), (.aload_n 0, 1, [], 0), (.iload_n 3, 1, [], 0), (.iconst 1, 1, [], 0), (.iadd, 1, [], 0), (.iaload, 1, [11], 0)]
theorem a_L_law_1595 : ck mL_law b_L_law_1595 1595 = true := by decide +kernel
theorem k_L_law_1601 : CV mL_law 1601 mX6_many := CV.of 194 1347 1348 1349 (by decide +kernel) (by decide +kernel) (by decide +kernel) (by decide +kernel)
def b_L_law_1604 : List Ent := [(.if_icmp .eq 31, 3, [1635], 0)]
theorem a_L_law_1604 : ck mL_law b_L_law_1604 1604 = true := by decide +kernel
def b_L_law_1607 : List Ent := [(.iconst 0, 1, [], 0), (.ireturn, 1, [1], 0)]
theorem a_L_law_1607 : ck mL_law b_L_law_1607 1607 = true := by decide +kernel
def b_L_law_1609 : List Ent := [(.aload_n 1, 1, [], 0)]
theorem a_L_law_1609 : ck mL_law b_L_law_1609 1609 = true := by decide +kernel
theorem k_L_law_1610 : CV mL_law 1610 mX5_keep := CV.of 195 833 834 835 (by decide +kernel) (by decide +kernel) (by decide +kernel) (by decide +kernel)
def b_L_law_1613 : List Ent := [(.aload_n 2, 1, [], 0)]
theorem a_L_law_1613 : ck mL_law b_L_law_1613 1613 = true := by decide +kernel
theorem k_L_law_1614 : CV mL_law 1614 mX6_keep := CV.of 198 1351 1352 1353 (by decide +kernel) (by decide +kernel) (by decide +kernel) (by decide +kernel)
def b_L_law_1617 : List Ent := [(.if_icmp .eq 18, 3, [1635], 0)]
theorem a_L_law_1617 : ck mL_law b_L_law_1617 1617 = true := by decide +kernel
def b_L_law_1620 : List Ent := [(.iconst 0, 1, [], 0), (.ireturn, 1, [1], 0)]
theorem a_L_law_1620 : ck mL_law b_L_law_1620 1620 = true := by decide +kernel
def b_L_law_1622 : List Ent := [(.aload_n 1, 1, [], 0)]
theorem a_L_law_1622 : ck mL_law b_L_law_1622 1622 = true := by decide +kernel
theorem k_L_law_1623 : CV mL_law 1623 mX5_again := CV.of 199 837 838 839 (by decide +kernel) (by decide +kernel) (by decide +kernel) (by decide +kernel)
def b_L_law_1626 : List Ent := [(.aload_n 2, 1, [], 0)]
theorem a_L_law_1626 : ck mL_law b_L_law_1626 1626 = true := by decide +kernel
theorem k_L_law_1627 : CV mL_law 1627 mX6_again := CV.of 202 1355 1356 1357 (by decide +kernel) (by decide +kernel) (by decide +kernel) (by decide +kernel)
def b_L_law_1630 : List Ent := [(.if_icmp .eq 5, 3, [1635], 0)]
theorem a_L_law_1630 : ck mL_law b_L_law_1630 1630 = true := by decide +kernel
def b_L_law_1633 : List Ent := [(.iconst 0, 1, [], 0), (.ireturn, 1, [1], 0)]
theorem a_L_law_1633 : ck mL_law b_L_law_1633 1633 = true := by decide +kernel
def b_L_law_1635 : List Ent := [(.iinc 3 5, 3, [], 0), (.goto (-1620), 3, [18], 0)]
theorem a_L_law_1635 : ck mL_law b_L_law_1635 1635 = true := by decide +kernel
def b_L_law_1641 : List Ent := [(.iconst 1, 1, [], 0), (.ireturn, 1, [1], 0)]
theorem a_L_law_1641 : ck mL_law b_L_law_1641 1641 = true := by decide +kernel
