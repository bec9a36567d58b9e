def b_L_law_15 : List Ent := [(.astore_n 2, 1, [], 0), (.iconst 0, 1, [], 0), (.istore_n 3, 1, [], 0)]
theorem a_L_law_15 : ck mL_law b_L_law_15 15 = true := by decide +kernel
def b_L_law_18 : List Ent := [(.iload_n 3, 1, [], 0), (.aload_n 0, 1, [], 0), (.arraylength, 1, [11], 0), (.iconst 5, 1, [], 0), (.isub, 1, [], 0), (.if_icmp .gt 1618, 3, [1641], 0)]
theorem a_L_law_18 : ck mL_law b_L_law_18 18 = true := by decide +kernel
def b_L_law_26 : List Ent := [(.aload_n 0, 1, [], 0), (.iload_n 3, 1, [], 0), (.iaload, 1, [11], 0), (.bipush 63, 2, [], 0), (.iand, 1, [], 0), (.tableswitch 1603 0 44 #[196, 259, 272, 305, 328, 381, 414, 447, 470, 513, 546, 579, 602, 625, 648, 671, 684, 707, 730, 753, 766, 789, 812, 835, 868, 911, 944, 977, 1020, 1064, 1098, 1131, 1164, 1207, 1230, 1283, 1326, 1369, 1412, 1455, 1488, 1531, 1554, 1577, 1590], 196, [1635, 228, 291, 304, 337, 360, 413, 446, 479, 502, 545, 578, 611, 634, 657, 680, 703, 716, 739, 762, 785, 798, 821, 844, 867, 900, 943, 976, 1009, 1052, 1096, 1130, 1163, 1196, 1239, 1262, 1315, 1358, 1401, 1444, 1487, 1520, 1563, 1586, 1609, 1622], 0)]
theorem a_L_law_26 : ck mL_law b_L_law_26 26 = true := by decide +kernel
def b_L_law_228 : List Ent := [(.aload_n 1, 1, [], 0), (.aload_n 0, 1, [], 0), (.iload_n 3, 1, [], 0), (.iconst 1, 1, [], 0), (.iadd, 1, [], 0), (.iaload, 1, [11], 0), (.i2l, 1, [], 0), (.bipush 32, 2, [], 0), (.lshl, 1, [], 0), (.aload_n 0, 1, [], 0), (.iload_n 3, 1, [], 0), (.iconst 2, 1, [], 0), (.iadd, 1, [], 0), (.iaload, 1, [11], 0), (.i2l, 1, [], 0), (.ldc2_w 13, 3, [0, 1359], 4294967295), (.land, 1, [], 0), (.lor, 1, [], 0), (.aload_n 0, 1, [], 0), (.iload_n 3, 1, [], 0), (.iconst 3, 1, [], 0), (.iadd, 1, [], 0), (.iaload, 1, [11], 0)]
theorem a_L_law_228 : ck mL_law b_L_law_228 228 = true := by decide +kernel
def b_L_law_257 : List Ent := [(.aload_n 2, 1, [], 0), (.aload_n 0, 1, [], 0), (.iload_n 3, 1, [], 0), (.iconst 1, 1, [], 0), (.iadd, 1, [], 0), (.iaload, 1, [11], 0), (.i2l, 1, [], 0), (.bipush 32, 2, [], 0), (.lshl, 1, [], 0), (.aload_n 0, 1, [], 0), (.iload_n 3, 1, [], 0), (.iconst 2, 1, [], 0), (.iadd, 1, [], 0), (.iaload, 1, [11], 0), (.i2l, 1, [], 0), (.ldc2_w 13, 3, [0, 1359], 4294967295), (.land, 1, [], 0), (.lor, 1, [], 0), (.aload_n 0, 1, [], 0), (.iload_n 3, 1, [], 0), (.iconst 3, 1, [], 0), (.iadd, 1, [], 0), (.iaload, 1, [11], 0)]
theorem a_L_law_257 : ck mL_law b_L_law_257 257 = true := by decide +kernel
def b_L_law_286 : List Ent := [(.if_icmp .eq 1349, 3, [1635], 0)]
theorem a_L_law_286 : ck mL_law b_L_law_286 286 = true := by decide +kernel
def b_L_law_289 : List Ent := [(.iconst 0, 1, [], 0), (.ireturn, 1, [1], 0)]
theorem a_L_law_289 : ck mL_law b_L_law_289 289 = true := by decide +kernel
def b_L_law_291 : List Ent := [(.aload_n 1, 1, [], 0)]
theorem a_L_law_291 : ck mL_law b_L_law_291 291 = true := by decide +kernel
def b_L_law_295 : List Ent := [(.aload_n 2, 1, [], 0)]
theorem a_L_law_295 : ck mL_law b_L_law_295 295 = true := by decide +kernel
def b_L_law_299 : List Ent := [(.if_icmp .eq 1336, 3, [1635], 0)]
theorem a_L_law_299 : ck mL_law b_L_law_299 299 = true := by decide +kernel
def b_L_law_302 : List Ent := [(.iconst 0, 1, [], 0), (.ireturn, 1, [1], 0)]
theorem a_L_law_302 : ck mL_law b_L_law_302 302 = true := by decide +kernel
def b_L_law_304 : List Ent := [(.aload_n 1, 1, [], 0), (.aload_n 0, 1, [], 0), (.iload_n 3, 1, [], 0), (.iconst 1, 1, [], 0), (.iadd, 1, [], 0), (.iaload, 1, [11], 0), (.aload_n 0, 1, [], 0), (.iload_n 3, 1, [], 0), (.iconst 2, 1, [], 0), (.iadd, 1, [], 0), (.iaload, 1, [11], 0)]
theorem a_L_law_304 : ck mL_law b_L_law_304 304 = true := by decide +kernel
def b_L_law_318 : List Ent := [(.aload_n 2, 1, [], 0), (.aload_n 0, 1, [], 0), (.iload_n 3, 1, [], 0), (.iconst 1, 1, [], 0), (.iadd, 1, [], 0), (.iaload, 1, [11], 0), (.aload_n 0, 1, [], 0), (.iload_n 3, 1, [], 0), (.iconst 2, 1, [], 0), (.iadd, 1, [], 0), (.iaload, 1, [11], 0)]
theorem a_L_law_318 : ck mL_law b_L_law_318 318 = true := by decide +kernel
def b_L_law_332 : List Ent := [(.if_icmp .eq 1303, 3, [1635], 0)]
theorem a_L_law_332 : ck mL_law b_L_law_332 332 = true := by decide +kernel
def b_L_law_335 : List Ent := [(.iconst 0, 1, [], 0), (.ireturn, 1, [1], 0)]
theorem a_L_law_335 : ck mL_law b_L_law_335 335 = true := by decide +kernel
def b_L_law_337 : List Ent := [(.aload_n 1, 1, [], 0), (.aload_n 0, 1, [], 0), (.iload_n 3, 1, [], 0), (.iconst 1, 1, [], 0), (.iadd, 1, [], 0), (.iaload, 1, [11], 0)]
theorem a_L_law_337 : ck mL_law b_L_law_337 337 = true := by decide +kernel
def b_L_law_346 : List Ent := [(.aload_n 2, 1, [], 0), (.aload_n 0, 1, [], 0), (.iload_n 3, 1, [], 0), (.iconst 1, 1, [], 0), (.iadd, 1, [], 0), (.iaload, 1, [11], 0)]
theorem a_L_law_346 : ck mL_law b_L_law_346 346 = true := by decide +kernel
def b_L_law_355 : List Ent := [(.if_icmp .eq 1280, 3, [1635], 0)]
theorem a_L_law_355 : ck mL_law b_L_law_355 355 = true := by decide +kernel
def b_L_law_358 : List Ent := [(.iconst 0, 1, [], 0), (.ireturn, 1, [1], 0)]
theorem a_L_law_358 : ck mL_law b_L_law_358 358 = true := by decide +kernel
def b_L_law_360 : List Ent := [(.aload_n 1, 1, [], 0), (.aload_n 0, 1, [], 0), (.iload_n 3, 1, [], 0), (.iconst 1, 1, [], 0), (.iadd, 1, [], 0), (.iaload, 1, [11], 0), (.aload_n 0, 1, [], 0), (.iload_n 3, 1, [], 0), (.iconst 2, 1, [], 0), (.iadd, 1, [], 0), (.iaload, 1, [11], 0), (.aload_n 0, 1, [], 0), (.iload_n 3, 1, [], 0), (.iconst 3, 1, [], 0), (.iadd, 1, [], 0), (.iaload, 1, [11], 0), (.aload_n 0, 1, [], 0), (.iload_n 3, 1, [], 0), (.iconst 4, 1, [], 0), (.iadd, 1, [], 0), (.iaload, 1, [11], 0)]
theorem a_L_law_360 : ck mL_law b_L_law_360 360 = true := by decide +kernel
def b_L_law_384 : List Ent := [(.aload_n 2, 1, [], 0), (.aload_n 0, 1, [], 0), (.iload_n 3, 1, [], 0), (.iconst 1, 1, [], 0), (.iadd, 1, [], 0), (.iaload, 1, [11], 0), (.aload_n 0, 1, [], 0), (.iload_n 3, 1, [], 0), (.iconst 2, 1, [], 0), (.iadd, 1, [], 0), (.iaload, 1, [11], 0), (.aload_n 0, 1, [], 0), (.iload_n 3, 1, [], 0), (.iconst 3, 1, [], 0), (.iadd, 1, [], 0), (.iaload, 1, [11], 0), (.aload_n 0, 1, [], 0), (.iload_n 3, 1, [], 0), (.iconst 4, 1, [], 0), (.iadd, 1, [], 0), (.iaload, 1, [11], 0)]
theorem a_L_law_384 : ck mL_law b_L_law_384 384 = true := by decide +kernel
def b_L_law_408 : List Ent := [(.if_icmp .eq 1227, 3, [1635], 0)]
theorem a_L_law_408 : ck mL_law b_L_law_408 408 = true := by decide +kernel
def b_L_law_411 : List Ent := [(.iconst 0, 1, [], 0), (.ireturn, 1, [1], 0)]
theorem a_L_law_411 : ck mL_law b_L_law_411 411 = true := by decide +kernel
def b_L_law_413 : List Ent := [(.aload_n 1, 1, [], 0), (.aload_n 0, 1, [], 0), (.iload_n 3, 1, [], 0), (.iconst 1, 1, [], 0), (.iadd, 1, [], 0), (.iaload, 1, [11], 0), (.aload_n 0, 1, [], 0), (.iload_n 3, 1, [], 0), (.iconst 2, 1, [], 0), (.iadd, 1, [], 0), (.iaload, 1, [11], 0)]
theorem a_L_law_413 : ck mL_law b_L_law_413 413 = true := by decide +kernel
def b_L_law_427 : List Ent := [(.aload_n 2, 1, [], 0), (.aload_n 0, 1, [], 0), (.iload_n 3, 1, [], 0), (.iconst 1, 1, [], 0), (.iadd, 1, [], 0), (.iaload, 1, [11], 0), (.aload_n 0, 1, [], 0), (.iload_n 3, 1, [], 0), (.iconst 2, 1, [], 0), (.iadd, 1, [], 0), (.iaload, 1, [11], 0)]
theorem a_L_law_427 : ck mL_law b_L_law_427 427 = true := by decide +kernel
def b_L_law_441 : List Ent := [(.if_icmp .eq 1194, 3, [1635], 0)]
theorem a_L_law_441 : ck mL_law b_L_law_441 441 = true := by decide +kernel
def b_L_law_444 : List Ent := [(.iconst 0, 1, [], 0), (.ireturn, 1, [1], 0)]
theorem a_L_law_444 : ck mL_law b_L_law_444 444 = true := by decide +kernel
def b_L_law_446 : List Ent := [(.aload_n 1, 1, [], 0), (.aload_n 0, 1, [], 0), (.iload_n 3, 1, [], 0), (.iconst 1, 1, [], 0), (.iadd, 1, [], 0), (.iaload, 1, [11], 0), (.aload_n 0, 1, [], 0), (.iload_n 3, 1, [], 0), (.iconst 2, 1, [], 0), (.iadd, 1, [], 0), (.iaload, 1, [11], 0)]
theorem a_L_law_446 : ck mL_law b_L_law_446 446 = true := by decide +kernel
def b_L_law_460 : List Ent := [(.aload_n 2, 1, [], 0), (.aload_n 0, 1, [], 0), (.iload_n 3, 1, [], 0), (.iconst 1, 1, [], 0), (.iadd, 1, [], 0), (.iaload, 1, [11], 0), (.aload_n 0, 1, [], 0), (.iload_n 3, 1, [], 0), (.iconst 2, 1, [], 0), (.iadd, 1, [], 0), (.iaload, 1, [11], 0)]
theorem a_L_law_460 : ck mL_law b_L_law_460 460 = true := by decide +kernel
def b_L_law_474 : List Ent := [(.if_icmp .eq 1161, 3, [1635], 0)]
theorem a_L_law_474 : ck mL_law b_L_law_474 474 = true := by decide +kernel
def b_L_law_477 : List Ent := [(.iconst 0, 1, [], 0), (.ireturn, 1, [1], 0)]
theorem a_L_law_477 : ck mL_law b_L_law_477 477 = true := by decide +kernel
def b_L_law_479 : List Ent := [(.aload_n 1, 1, [], 0), (.aload_n 0, 1, [], 0), (.iload_n 3, 1, [], 0), (.iconst 1, 1, [], 0), (.iadd, 1, [], 0), (.iaload, 1, [11], 0)]
theorem a_L_law_479 : ck mL_law b_L_law_479 479 = true := by decide +kernel
def b_L_law_488 : List Ent := [(.aload_n 2, 1, [], 0), (.aload_n 0, 1, [], 0), (.iload_n 3, 1, [], 0), (.iconst 1, 1, [], 0), (.iadd, 1, [], 0), (.iaload, 1, [11], 0)]
theorem a_L_law_488 : ck mL_law b_L_law_488 488 = true := by decide +kernel
def b_L_law_497 : List Ent := [(.if_icmp .eq 1138, 3, [1635], 0)]
theorem a_L_law_497 : ck mL_law b_L_law_497 497 = true := by decide +kernel
def b_L_law_500 : List Ent := [(.iconst 0, 1, [], 0), (.ireturn, 1, [1], 0)]
theorem a_L_law_500 : ck mL_law b_L_law_500 500 = true := by decide +kernel
def b_L_law_502 : List Ent := [(.aload_n 1, 1, [], 0), (.aload_n 0, 1, [], 0), (.iload_n 3, 1, [], 0), (.iconst 1, 1, [], 0), (.iadd, 1, [], 0), (.iaload, 1, [11], 0), (.aload_n 0, 1, [], 0), (.iload_n 3, 1, [], 0), (.iconst 2, 1, [], 0), (.iadd, 1, [], 0), (.iaload, 1, [11], 0), (.aload_n 0, 1, [], 0), (.iload_n 3, 1, [], 0), (.iconst 3, 1, [], 0), (.iadd, 1, [], 0), (.iaload, 1, [11], 0)]
theorem a_L_law_502 : ck mL_law b_L_law_502 502 = true := by decide +kernel
def b_L_law_521 : List Ent := [(.aload_n 2, 1, [], 0), (.aload_n 0, 1, [], 0), (.iload_n 3, 1, [], 0), (.iconst 1, 1, [], 0), (.iadd, 1, [], 0), (.iaload, 1, [11], 0), (.aload_n 0, 1, [], 0), (.iload_n 3, 1, [], 0), (.iconst 2, 1, [], 0), (.iadd, 1, [], 0), (.iaload, 1, [11], 0), (.aload_n 0, 1, [], 0), (.iload_n 3, 1, [], 0), (.iconst 3, 1, [], 0), (.iadd, 1, [], 0), (.iaload, 1, [11], 0)]
theorem a_L_law_521 : ck mL_law b_L_law_521 521 = true := by decide +kernel
def b_L_law_540 : List Ent := [(.if_icmp .eq 1095, 3, [1635], 0)]
theorem a_L_law_540 : ck mL_law b_L_law_540 540 = true := by decide +kernel
def b_L_law_543 : List Ent := [(.iconst 0, 1, [], 0), (.ireturn, 1, [1], 0)]
theorem a_L_law_543 : ck mL_law b_L_law_543 543 = true := by decide +kernel
def b_L_law_545 : List Ent := [(.aload_n 1, 1, [], 0), (.aload_n 0, 1, [], 0), (.iload_n 3, 1, [], 0), (.iconst 1, 1, [], 0), (.iadd, 1, [], 0), (.iaload, 1, [11], 0), (.aload_n 0, 1, [], 0), (.iload_n 3, 1, [], 0), (.iconst 2, 1, [], 0), (.iadd, 1, [], 0), (.iaload, 1, [11], 0)]
theorem a_L_law_545 : ck mL_law b_L_law_545 545 = true := by decide +kernel
def b_L_law_559 : List Ent := [(.aload_n 2, 1, [], 0), (.aload_n 0, 1, [], 0), (.iload_n 3, 1, [], 0), (.iconst 1, 1, [], 0), (.iadd, 1, [], 0), (.iaload, 1, [11], 0), (.aload_n 0, 1, [], 0), (.iload_n 3, 1, [], 0), (.iconst 2, 1, [], 0), (.iadd, 1, [], 0), (.iaload, 1, [11], 0)]
theorem a_L_law_559 : ck mL_law b_L_law_559 559 = true := by decide +kernel
def b_L_law_573 : List Ent := [(.if_icmp .eq 1062, 3, [1635], 0)]
theorem a_L_law_573 : ck mL_law b_L_law_573 573 = true := by decide +kernel
def b_L_law_576 : List Ent := [(.iconst 0, 1, [], 0), (.ireturn, 1, [1], 0)]
theorem a_L_law_576 : ck mL_law b_L_law_576 576 = true := by decide +kernel
def b_L_law_578 : List Ent := [(.aload_n 1, 1, [], 0), (.aload_n 0, 1, [], 0), (.iload_n 3, 1, [], 0), (.iconst 1, 1, [], 0), (.iadd, 1, [], 0), (.iaload, 1, [11], 0), (.aload_n 0, 1, [], 0), (.iload_n 3, 1, [], 0), (.iconst 2, 1, [], 0), (.iadd, 1, [], 0), (.iaload, 1, [11], 0)]
theorem a_L_law_578 : ck mL_law b_L_law_578 578 = true := by decide +kernel
def b_L_law_592 : List Ent := [(.aload_n 2, 1, [], 0), (.aload_n 0, 1, [], 0), (.iload_n 3, 1, [], 0), (.iconst 1, 1, [], 0), (.iadd, 1, [], 0), (.iaload, 1, [11], 0), (.aload_n 0, 1, [], 0), (.iload_n 3, 1, [], 0), (.iconst 2, 1, [], 0), (.iadd, 1, [], 0), (.iaload, 1, [11], 0)]
theorem a_L_law_592 : ck mL_law b_L_law_592 592 = true := by decide +kernel
def b_L_law_606 : List Ent := [(.if_icmp .eq 1029, 3, [1635], 0)]
theorem a_L_law_606 : ck mL_law b_L_law_606 606 = true := by decide +kernel
def b_L_law_609 : List Ent := [(.iconst 0, 1, [], 0), (.ireturn, 1, [1], 0)]
theorem a_L_law_609 : ck mL_law b_L_law_609 609 = true := by decide +kernel
def b_L_law_611 : List Ent := [(.aload_n 1, 1, [], 0), (.aload_n 0, 1, [], 0), (.iload_n 3, 1, [], 0), (.iconst 1, 1, [], 0), (.iadd, 1, [], 0), (.iaload, 1, [11], 0)]
theorem a_L_law_611 : ck mL_law b_L_law_611 611 = true := by decide +kernel
def b_L_law_620 : List Ent := [(.aload_n 2, 1, [], 0), (.aload_n 0, 1, [], 0), (.iload_n 3, 1, [], 0), (.iconst 1, 1, [], 0), (.iadd, 1, [], 0), (.iaload, 1, [11], 0)]
theorem a_L_law_620 : ck mL_law b_L_law_620 620 = true := by decide +kernel
def b_L_law_629 : List Ent := [(.if_icmp .eq 1006, 3, [1635], 0)]
theorem a_L_law_629 : ck mL_law b_L_law_629 629 = true := by decide +kernel
def b_L_law_632 : List Ent := [(.iconst 0, 1, [], 0), (.ireturn, 1, [1], 0)]
theorem a_L_law_632 : ck mL_law b_L_law_632 632 = true := by decide +kernel
def b_L_law_634 : List Ent := [(.aload_n 1, 1, [], 0), (.aload_n 0, 1, [], 0), (.iload_n 3, 1, [], 0), (.iconst 1, 1, [], 0), (.iadd, 1, [], 0), (.iaload, 1, [11], 0)]
theorem a_L_law_634 : ck mL_law b_L_law_634 634 = true := by decide +kernel
def b_L_law_643 : List Ent := [(.aload_n 2, 1, [], 0), (.aload_n 0, 1, [], 0), (.iload_n 3, 1, [], 0), (.iconst 1, 1, [], 0), (.iadd, 1, [], 0), (.iaload, 1, [11], 0)]
theorem a_L_law_643 : ck mL_law b_L_law_643 643 = true := by decide +kernel
def b_L_law_652 : List Ent := [(.if_icmp .eq 983, 3, [1635], 0)]
theorem a_L_law_652 : ck mL_law b_L_law_652 652 = true := by decide +kernel
def b_L_law_655 : List Ent := [(.iconst 0, 1, [], 0), (.ireturn, 1, [1], 0)]
theorem a_L_law_655 : ck mL_law b_L_law_655 655 = true := by decide +kernel
def b_L_law_657 : List Ent := [(.aload_n 1, 1, [], 0), (.aload_n 0, 1, [], 0), (.iload_n 3, 1, [], 0), (.iconst 1, 1, [], 0), (.iadd, 1, [], 0), (.iaload, 1, [11], 0)]
theorem a_L_law_657 : ck mL_law b_L_law_657 657 = true := by decide +kernel
def b_L_law_666 : List Ent := [(.aload_n 2, 1, [], 0), (.aload_n 0, 1, [], 0), (.iload_n 3, 1, [], 0), (.iconst 1, 1, [], 0), (.iadd, 1, [], 0), (.iaload, 1, [11], 0)]
theorem a_L_law_666 : ck mL_law b_L_law_666 666 = true := by decide +kernel
def b_L_law_675 : List Ent := [(.if_icmp .eq 960, 3, [1635], 0)]
theorem a_L_law_675 : ck mL_law b_L_law_675 675 = true := by decide +kernel
def b_L_law_678 : List Ent := [(.iconst 0, 1, [], 0), (.ireturn, 1, [1], 0)]
theorem a_L_law_678 : ck mL_law b_L_law_678 678 = true := by decide +kernel
def b_L_law_680 : List Ent := [(.aload_n 1, 1, [], 0), (.aload_n 0, 1, [], 0), (.iload_n 3, 1, [], 0), (.iconst 1, 1, [], 0), (.iadd, 1, [], 0), (.iaload, 1, [11], 0)]
theorem a_L_law_680 : ck mL_law b_L_law_680 680 = true := by decide +kernel
def b_L_law_689 : List Ent := [(.aload_n 2, 1, [], 0), (.aload_n 0, 1, [], 0), (.iload_n 3, 1, [], 0), (.iconst 1, 1, [], 0), (.iadd, 1, [], 0), (.iaload, 1, [11], 0)]
theorem a_L_law_689 : ck mL_law b_L_law_689 689 = true := by decide +kernel
def b_L_law_698 : List Ent := [(.if_icmp .eq 937, 3, [1635], 0)]
theorem a_L_law_698 : ck mL_law b_L_law_698 698 = true := by decide +kernel
def b_L_law_701 : List Ent := [(.iconst 0, 1, [], 0), (.ireturn, 1, [1], 0)]
theorem a_L_law_701 : ck mL_law b_L_law_701 701 = true := by decide +kernel
def b_L_law_703 : List Ent := [(.aload_n 1, 1, [], 0)]
theorem a_L_law_703 : ck mL_law b_L_law_703 703 = true := by decide +kernel
def b_L_law_707 : List Ent := [(.aload_n 2, 1, [], 0)]
theorem a_L_law_707 : ck mL_law b_L_law_707 707 = true := by decide +kernel
def b_L_law_711 : List Ent := [(.if_icmp .eq 924, 3, [1635], 0)]
theorem a_L_law_711 : ck mL_law b_L_law_711 711 = true := by decide +kernel
def b_L_law_714 : List Ent := [(.iconst 0, 1, [], 0), (.ireturn, 1, [1], 0)]
theorem a_L_law_714 : ck mL_law b_L_law_714 714 = true := by decide +kernel
def b_L_law_716 : List Ent := [(.aload_n 1, 1, [], 0), (.aload_n 0, 1, [], 0), (.iload_n 3, 1, [], 0), (.iconst 1, 1, [], 0), (.iadd, 1, [], 0), (.iaload, 1, [11], 0)]
theorem a_L_law_716 : ck mL_law b_L_law_716 716 = true := by decide +kernel
def b_L_law_725 : List Ent := [(.aload_n 2, 1, [], 0), (.aload_n 0, 1, [], 0), (.iload_n 3, 1, [], 0), (.iconst 1, 1, [], 0), (.iadd, 1, [], 0), (.iaload, 1, [11], 0)]
theorem a_L_law_725 : ck mL_law b_L_law_725 725 = true := by decide +kernel
def b_L_law_734 : List Ent := [(.if_icmp .eq 901, 3, [1635], 0)]
theorem a_L_law_734 : ck mL_law b_L_law_734 734 = true := by decide +kernel
def b_L_law_737 : List Ent := [(.iconst 0, 1, [], 0), (.ireturn, 1, [1], 0)]
theorem a_L_law_737 : ck mL_law b_L_law_737 737 = true := by decide +kernel
def b_L_law_739 : List Ent := [(.aload_n 1, 1, [], 0), (.aload_n 0, 1, [], 0), (.iload_n 3, 1, [], 0), (.iconst 1, 1, [], 0), (.iadd, 1, [], 0), (.iaload, 1, [11], 0)]
theorem a_L_law_739 : ck mL_law b_L_law_739 739 = true := by decide +kernel
def b_L_law_748 : List Ent := [(.aload_n 2, 1, [], 0), (.aload_n 0, 1, [], 0), (.iload_n 3, 1, [], 0), (.iconst 1, 1, [], 0), (.iadd, 1, [], 0), (.iaload, 1, [11], 0)]
theorem a_L_law_748 : ck mL_law b_L_law_748 748 = true := by decide +kernel
def b_L_law_757 : List Ent := [(.if_icmp .eq 878, 3, [1635], 0)]
theorem a_L_law_757 : ck mL_law b_L_law_757 757 = true := by decide +kernel
def b_L_law_760 : List Ent := [(.iconst 0, 1, [], 0), (.ireturn, 1, [1], 0)]
theorem a_L_law_760 : ck mL_law b_L_law_760 760 = true := by decide +kernel
def b_L_law_762 : List Ent := [(.aload_n 1, 1, [], 0), (.aload_n 0, 1, [], 0), (.iload_n 3, 1, [], 0), (.iconst 1, 1, [], 0), (.iadd, 1, [], 0), (.iaload, 1, [11], 0)]
theorem a_L_law_762 : ck mL_law b_L_law_762 762 = true := by decide +kernel
def b_L_law_771 : List Ent := [(.aload_n 2, 1, [], 0), (.aload_n 0, 1, [], 0), (.iload_n 3, 1, [], 0), (.iconst 1, 1, [], 0), (.iadd, 1, [], 0), (.iaload, 1, [11], 0)]
theorem a_L_law_771 : ck mL_law b_L_law_771 771 = true := by decide +kernel
def b_L_law_780 : List Ent := [(.if_icmp .eq 855, 3, [1635], 0)]
theorem a_L_law_780 : ck mL_law b_L_law_780 780 = true := by decide +kernel
def b_L_law_783 : List Ent := [(.iconst 0, 1, [], 0), (.ireturn, 1, [1], 0)]
theorem a_L_law_783 : ck mL_law b_L_law_783 783 = true := by decide +kernel
def b_L_law_785 : List Ent := [(.aload_n 1, 1, [], 0)]
theorem a_L_law_785 : ck mL_law b_L_law_785 785 = true := by decide +kernel
def b_L_law_789 : List Ent := [(.aload_n 2, 1, [], 0)]
theorem a_L_law_789 : ck mL_law b_L_law_789 789 = true := by decide +kernel
def b_L_law_793 : List Ent := [(.if_icmp .eq 842, 3, [1635], 0)]
theorem a_L_law_793 : ck mL_law b_L_law_793 793 = true := by decide +kernel
def b_L_law_796 : List Ent := [(.iconst 0, 1, [], 0), (.ireturn, 1, [1], 0)]
theorem a_L_law_796 : ck mL_law b_L_law_796 796 = true := by decide +kernel
def b_L_law_798 : List Ent := [(.aload_n 1, 1, [], 0), (.aload_n 0, 1, [], 0), (.iload_n 3, 1, [], 0), (.iconst 1, 1, [], 0), (.iadd, 1, [], 0), (.iaload, 1, [11], 0)]
theorem a_L_law_798 : ck mL_law b_L_law_798 798 = true := by decide +kernel
def b_L_law_807 : List Ent := [(.aload_n 2, 1, [], 0), (.aload_n 0, 1, [], 0), (.iload_n 3, 1, [], 0), (.iconst 1, 1, [], 0), (.iadd, 1, [], 0), (.iaload, 1, [11], 0)]
theorem a_L_law_807 : ck mL_law b_L_law_807 807 = true := by decide +kernel
def b_L_law_816 : List Ent := [(.if_icmp .eq 819, 3, [1635], 0)]
theorem a_L_law_816 : ck mL_law b_L_law_816 816 = true := by decide +kernel
def b_L_law_819 : List Ent := [(.iconst 0, 1, [], 0), (.ireturn, 1, [1], 0)]
theorem a_L_law_819 : ck mL_law b_L_law_819 819 = true := by decide +kernel
def b_L_law_821 : List Ent := [(.aload_n 1, 1, [], 0), (.aload_n 0, 1, [], 0), (.iload_n 3, 1, [], 0), (.iconst 1, 1, [], 0), (.iadd, 1, [], 0), (.iaload, 1, [11], 0)]
theorem a_L_law_821 : ck mL_law b_L_law_821 821 = true := by decide +kernel
def b_L_law_830 : List Ent := [(.aload_n 2, 1, [], 0), (.aload_n 0, 1, [], 0), (.iload_n 3, 1, [], 0), (.iconst 1, 1, [], 0), (.iadd, 1, [], 0), (.iaload, 1, [11], 0)]
theorem a_L_law_830 : ck mL_law b_L_law_830 830 = true := by decide +kernel
def b_L_law_839 : List Ent := [(.if_icmp .eq 796, 3, [1635], 0)]
theorem a_L_law_839 : ck mL_law b_L_law_839 839 = true := by decide +kernel
def b_L_law_842 : List Ent := [(.iconst 0, 1, [], 0), (.ireturn, 1, [1], 0)]
theorem a_L_law_842 : ck mL_law b_L_law_842 842 = true := by decide +kernel
def b_L_law_844 : List Ent := [(.aload_n 1, 1, [], 0), (.aload_n 0, 1, [], 0), (.iload_n 3, 1, [], 0), (.iconst 1, 1, [], 0), (.iadd, 1, [], 0), (.iaload, 1, [11], 0)]
theorem a_L_law_844 : ck mL_law b_L_law_844 844 = true := by decide +kernel
def b_L_law_853 : List Ent := [(.aload_n 2, 1, [], 0), (.aload_n 0, 1, [], 0), (.iload_n 3, 1, [], 0), (.iconst 1, 1, [], 0), (.iadd, 1, [], 0), (.iaload, 1, [11], 0)]
theorem a_L_law_853 : ck mL_law b_L_law_853 853 = true := by decide +kernel
def b_L_law_862 : List Ent := [(.if_icmp .eq 773, 3, [1635], 0)]
theorem a_L_law_862 : ck mL_law b_L_law_862 862 = true := by decide +kernel
def b_L_law_865 : List Ent := [(.iconst 0, 1, [], 0), (.ireturn, 1, [1], 0)]
theorem a_L_law_865 : ck mL_law b_L_law_865 865 = true := by decide +kernel
def b_L_law_867 : List Ent := [(.aload_n 1, 1, [], 0), (.aload_n 0, 1, [], 0), (.iload_n 3, 1, [], 0), (.iconst 1, 1, [], 0), (.iadd, 1, [], 0), (.iaload, 1, [11], 0), (.aload_n 0, 1, [], 0), (.iload_n 3, 1, [], 0), (.iconst 2, 1, [], 0), (.iadd, 1, [], 0), (.iaload, 1, [11], 0)]
theorem a_L_law_867 : ck mL_law b_L_law_867 867 = true := by decide +kernel
def b_L_law_881 : List Ent := [(.aload_n 2, 1, [], 0), (.aload_n 0, 1, [], 0), (.iload_n 3, 1, [], 0), (.iconst 1, 1, [], 0), (.iadd, 1, [], 0), (.iaload, 1, [11], 0), (.aload_n 0, 1, [], 0), (.iload_n 3, 1, [], 0), (.iconst 2, 1, [], 0), (.iadd, 1, [], 0), (.iaload, 1, [11], 0)]
theorem a_L_law_881 : ck mL_law b_L_law_881 881 = true := by decide +kernel
def b_L_law_895 : List Ent := [(.if_icmp .eq 740, 3, [1635], 0)]
theorem a_L_law_895 : ck mL_law b_L_law_895 895 = true := by decide +kernel
def b_L_law_898 : List Ent := [(.iconst 0, 1, [], 0), (.ireturn, 1, [1], 0)]
theorem a_L_law_898 : ck mL_law b_L_law_898 898 = true := by decide +kernel
def b_L_law_900 : List Ent := [(.aload_n 1, 1, [], 0), (.aload_n 0, 1, [], 0), (.iload_n 3, 1, [], 0), (.iconst 1, 1, [], 0), (.iadd, 1, [], 0), (.iaload, 1, [11], 0), (.aload_n 0, 1, [], 0), (.iload_n 3, 1, [], 0), (.iconst 2, 1, [], 0), (.iadd, 1, [], 0), (.iaload, 1, [11], 0), (.aload_n 0, 1, [], 0), (.iload_n 3, 1, [], 0), (.iconst 3, 1, [], 0), (.iadd, 1, [], 0), (.iaload, 1, [11], 0)]
theorem a_L_law_900 : ck mL_law b_L_law_900 900 = true := by decide +kernel
def b_L_law_919 : List Ent := [(.aload_n 2, 1, [], 0), (.aload_n 0, 1, [], 0), (.iload_n 3, 1, [], 0), (.iconst 1, 1, [], 0), (.iadd, 1, [], 0), (.iaload, 1, [11], 0), (.aload_n 0, 1, [], 0), (.iload_n 3, 1, [], 0), (.iconst 2, 1, [], 0), (.iadd, 1, [], 0), (.iaload, 1, [11], 0), (.aload_n 0, 1, [], 0), (.iload_n 3, 1, [], 0), (.iconst 3, 1, [], 0), (.iadd, 1, [], 0), (.iaload, 1, [11], 0)]
theorem a_L_law_919 : ck mL_law b_L_law_919 919 = true := by decide +kernel
def b_L_law_938 : List Ent := [(.if_icmp .eq 697, 3, [1635], 0)]
theorem a_L_law_938 : ck mL_law b_L_law_938 938 = true := by decide +kernel
def b_L_law_941 : List Ent := [(.iconst 0, 1, [], 0), (.ireturn, 1, [1], 0)]
theorem a_L_law_941 : ck mL_law b_L_law_941 941 = true := by decide +kernel
def b_L_law_943 : List Ent := [(.aload_n 1, 1, [], 0), (.aload_n 0, 1, [], 0), (.iload_n 3, 1, [], 0), (.iconst 1, 1, [], 0), (.iadd, 1, [], 0), (.iaload, 1, [11], 0), (.aload_n 0, 1, [], 0), (.iload_n 3, 1, [], 0), (.iconst 2, 1, [], 0), (.iadd, 1, [], 0), (.iaload, 1, [11], 0)]
theorem a_L_law_943 : ck mL_law b_L_law_943 943 = true := by decide +kernel
def b_L_law_957 : List Ent := [(.aload_n 2, 1, [], 0), (.aload_n 0, 1, [], 0), (.iload_n 3, 1, [], 0), (.iconst 1, 1, [], 0), (.iadd, 1, [], 0), (.iaload, 1, [11], 0), (.aload_n 0, 1, [], 0), (.iload_n 3, 1, [], 0), (.iconst 2, 1, [], 0), (.iadd, 1, [], 0), (.iaload, 1, [11], 0)]
theorem a_L_law_957 : ck mL_law b_L_law_957 957 = true := by decide +kernel
def b_L_law_971 : List Ent := [(.if_icmp .eq 664, 3, [1635], 0)]
theorem a_L_law_971 : ck mL_law b_L_law_971 971 = true := by decide +kernel
def b_L_law_974 : List Ent := [(.iconst 0, 1, [], 0), (.ireturn, 1, [1], 0)]
theorem a_L_law_974 : ck mL_law b_L_law_974 974 = true := by decide +kernel
def b_L_law_976 : List Ent := [(.aload_n 1, 1, [], 0), (.aload_n 0, 1, [], 0), (.iload_n 3, 1, [], 0), (.iconst 1, 1, [], 0), (.iadd, 1, [], 0), (.iaload, 1, [11], 0), (.aload_n 0, 1, [], 0), (.iload_n 3, 1, [], 0), (.iconst 2, 1, [], 0), (.iadd, 1, [], 0), (.iaload, 1, [11], 0)]
theorem a_L_law_976 : ck mL_law b_L_law_976 976 = true := by decide +kernel
def b_L_law_990 : List Ent := [(.aload_n 2, 1, [], 0), (.aload_n 0, 1, [], 0), (.iload_n 3, 1, [], 0), (.iconst 1, 1, [], 0), (.iadd, 1, [], 0), (.iaload, 1, [11], 0), (.aload_n 0, 1, [], 0), (.iload_n 3, 1, [], 0), (.iconst 2, 1, [], 0), (.iadd, 1, [], 0), (.iaload, 1, [11], 0)]
theorem a_L_law_990 : ck mL_law b_L_law_990 990 = true := by decide +kernel
def b_L_law_1004 : List Ent := [(.if_icmp .eq 631, 3, [1635], 0)]
theorem a_L_law_1004 : ck mL_law b_L_law_1004 1004 = true := by decide +kernel
def b_L_law_1007 : List Ent := [(.iconst 0, 1, [], 0), (.ireturn, 1, [1], 0)]
theorem a_L_law_1007 : ck mL_law b_L_law_1007 1007 = true := by decide +kernel
def b_L_law_1009 : List Ent := [(.aload_n 1, 1, [], 0), (.aload_n 0, 1, [], 0), (.iload_n 3, 1, [], 0), (.iconst 1, 1, [], 0), (.iadd, 1, [], 0), (.iaload, 1, [11], 0), (.aload_n 0, 1, [], 0), (.iload_n 3, 1, [], 0), (.iconst 2, 1, [], 0), (.iadd, 1, [], 0), (.iaload, 1, [11], 0), (.aload_n 0, 1, [], 0), (.iload_n 3, 1, [], 0), (.iconst 3, 1, [], 0), (.iadd, 1, [], 0), (.iaload, 1, [11], 0)]
theorem a_L_law_1009 : ck mL_law b_L_law_1009 1009 = true := by decide +kernel
def b_L_law_1028 : List Ent := [(.aload_n 2, 1, [], 0), (.aload_n 0, 1, [], 0), (.iload_n 3, 1, [], 0), (.iconst 1, 1, [], 0), (.iadd, 1, [], 0), (.iaload, 1, [11], 0), (.aload_n 0, 1, [], 0), (.iload_n 3, 1, [], 0), (.iconst 2, 1, [], 0), (.iadd, 1, [], 0), (.iaload, 1, [11], 0), (.aload_n 0, 1, [], 0), (.iload_n 3, 1, [], 0), (.iconst 3, 1, [], 0), (.iadd, 1, [], 0), (.iaload, 1, [11], 0)]
theorem a_L_law_1028 : ck mL_law b_L_law_1028 1028 = true := by decide +kernel
def b_L_law_1047 : List Ent := [(.if_icmp .eq 588, 3, [1635], 0)]
theorem a_L_law_1047 : ck mL_law b_L_law_1047 1047 = true := by decide +kernel
def b_L_law_1050 : List Ent := [(.iconst 0, 1, [], 0), (.ireturn, 1, [1], 0)]
theorem a_L_law_1050 : ck mL_law b_L_law_1050 1050 = true := by decide +kernel
def b_L_law_1052 : List Ent := [(.aload_n 1, 1, [], 0), (.aload_n 0, 1, [], 0), (.iload_n 3, 1, [], 0), (.iconst 1, 1, [], 0), (.iadd, 1, [], 0), (.iaload, 1, [11], 0), (.aload_n 0, 1, [], 0), (.iload_n 3, 1, [], 0), (.iconst 2, 1, [], 0), (.iadd, 1, [], 0), (.iaload, 1, [11], 0), (.aload_n 0, 1, [], 0), (.iload_n 3, 1, [], 0), (.iconst 3, 1, [], 0), (.iadd, 1, [], 0), (.iaload, 1, [11], 0)]
theorem a_L_law_1052 : ck mL_law b_L_law_1052 1052 = true := by decide +kernel
def b_L_law_1071 : List Ent := [(.aload_n 2, 1, [], 0), (.aload_n 0, 1, [], 0), (.iload_n 3, 1, [], 0), (.iconst 1, 1, [], 0), (.iadd, 1, [], 0), (.iaload, 1, [11], 0), (.aload_n 0, 1, [], 0), (.iload_n 3, 1, [], 0), (.iconst 2, 1, [], 0), (.iadd, 1, [], 0), (.iaload, 1, [11], 0), (.aload_n 0, 1, [], 0), (.iload_n 3, 1, [], 0), (.iconst 3, 1, [], 0), (.iadd, 1, [], 0), (.iaload, 1, [11], 0)]
theorem a_L_law_1071 : ck mL_law b_L_law_1071 1071 = true := by decide +kernel
def b_L_law_1090 : List Ent := [(.lcmp, 1, [], 0), (.ifCond .eq 544, 3, [1635], 0)]
theorem a_L_law_1090 : ck mL_law b_L_law_1090 1090 = true := by decide +kernel
def b_L_law_1094 : List Ent := [(.iconst 0, 1, [], 0), (.ireturn, 1, [1], 0)]
theorem a_L_law_1094 : ck mL_law b_L_law_1094 1094 = true := by decide +kernel
def b_L_law_1096 : List Ent := [(.aload_n 1, 1, [], 0), (.aload_n 0, 1, [], 0), (.iload_n 3, 1, [], 0), (.iconst 1, 1, [], 0), (.iadd, 1, [], 0), (.iaload, 1, [11], 0), (.aload_n 0, 1, [], 0), (.iload_n 3, 1, [], 0), (.iconst 2, 1, [], 0), (.iadd, 1, [], 0), (.iaload, 1, [11], 0)]
theorem a_L_law_1096 : ck mL_law b_L_law_1096 1096 = true := by decide +kernel
def b_L_law_1110 : List Ent := [(.aload_n 2, 1, [], 0), (.aload_n 0, 1, [], 0), (.iload_n 3, 1, [], 0), (.iconst 1, 1, [], 0), (.iadd, 1, [], 0), (.iaload, 1, [11], 0), (.aload_n 0, 1, [], 0), (.iload_n 3, 1, [], 0), (.iconst 2, 1, [], 0), (.iadd, 1, [], 0), (.iaload, 1, [11], 0)]
theorem a_L_law_1110 : ck mL_law b_L_law_1110 1110 = true := by decide +kernel
def b_L_law_1124 : List Ent := [(.lcmp, 1, [], 0), (.ifCond .eq 510, 3, [1635], 0)]
theorem a_L_law_1124 : ck mL_law b_L_law_1124 1124 = true := by decide +kernel
def b_L_law_1128 : List Ent := [(.iconst 0, 1, [], 0), (.ireturn, 1, [1], 0)]
theorem a_L_law_1128 : ck mL_law b_L_law_1128 1128 = true := by decide +kernel
def b_L_law_1130 : List Ent := [(.aload_n 1, 1, [], 0), (.aload_n 0, 1, [], 0), (.iload_n 3, 1, [], 0), (.iconst 1, 1, [], 0), (.iadd, 1, [], 0), (.iaload, 1, [11], 0), (.aload_n 0, 1, [], 0), (.iload_n 3, 1, [], 0), (.iconst 2, 1, [], 0), (.iadd, 1, [], 0), (.iaload, 1, [11], 0)]
theorem a_L_law_1130 : ck mL_law b_L_law_1130 1130 = true := by decide +kernel
def b_L_law_1144 : List Ent := [(.aload_n 2, 1, [], 0), (.aload_n 0, 1, [], 0), (.iload_n 3, 1, [], 0), (.iconst 1, 1, [], 0), (.iadd, 1, [], 0), (.iaload, 1, [11], 0), (.aload_n 0, 1, [], 0), (.iload_n 3, 1, [], 0), (.iconst 2, 1, [], 0), (.iadd, 1, [], 0), (.iaload, 1, [11], 0)]
theorem a_L_law_1144 : ck mL_law b_L_law_1144 1144 = true := by decide +kernel
def b_L_law_1158 : List Ent := [(.if_icmp .eq 477, 3, [1635], 0)]
theorem a_L_law_1158 : ck mL_law b_L_law_1158 1158 = true := by decide +kernel
def b_L_law_1161 : List Ent := [(.iconst 0, 1, [], 0), (.ireturn, 1, [1], 0)]
theorem a_L_law_1161 : ck mL_law b_L_law_1161 1161 = true := by decide +kernel
def b_L_law_1163 : List Ent := [(.aload_n 1, 1, [], 0), (.aload_n 0, 1, [], 0), (.iload_n 3, 1, [], 0), (.iconst 1, 1, [], 0), (.iadd, 1, [], 0), (.iaload, 1, [11], 0), (.aload_n 0, 1, [], 0), (.iload_n 3, 1, [], 0), (.iconst 2, 1, [], 0), (.iadd, 1, [], 0), (.iaload, 1, [11], 0)]
theorem a_L_law_1163 : ck mL_law b_L_law_1163 1163 = true := by decide +kernel
def b_L_law_1177 : List Ent := [(.aload_n 2, 1, [], 0), (.aload_n 0, 1, [], 0), (.iload_n 3, 1, [], 0), (.iconst 1, 1, [], 0), (.iadd, 1, [], 0), (.iaload, 1, [11], 0), (.aload_n 0, 1, [], 0), (.iload_n 3, 1, [], 0), (.iconst 2, 1, [], 0), (.iadd, 1, [], 0), (.iaload, 1, [11], 0)]
theorem a_L_law_1177 : ck mL_law b_L_law_1177 1177 = true := by decide +kernel
def b_L_law_1191 : List Ent := [(.if_icmp .eq 444, 3, [1635], 0)]
theorem a_L_law_1191 : ck mL_law b_L_law_1191 1191 = true := by decide +kernel
def b_L_law_1194 : List Ent := [(.iconst 0, 1, [], 0), (.ireturn, 1, [1], 0)]
theorem a_L_law_1194 : ck mL_law b_L_law_1194 1194 = true := by decide +kernel
def b_L_law_1196 : List Ent := [(.aload_n 1, 1, [], 0), (.aload_n 0, 1, [], 0), (.iload_n 3, 1, [], 0), (.iconst 1, 1, [], 0), (.iadd, 1, [], 0), (.iaload, 1, [11], 0), (.aload_n 0, 1, [], 0), (.iload_n 3, 1, [], 0), (.iconst 2, 1, [], 0), (.iadd, 1, [], 0), (.iaload, 1, [11], 0), (.aload_n 0, 1, [], 0), (.iload_n 3, 1, [], 0), (.iconst 3, 1, [], 0), (.iadd, 1, [], 0), (.iaload, 1, [11], 0)]
theorem a_L_law_1196 : ck mL_law b_L_law_1196 1196 = true := by decide +kernel
def b_L_law_1215 : List Ent := [(.aload_n 2, 1, [], 0), (.aload_n 0, 1, [], 0), (.iload_n 3, 1, [], 0), (.iconst 1, 1, [], 0), (.iadd, 1, [], 0), (.iaload, 1, [11], 0), (.aload_n 0, 1, [], 0), (.iload_n 3, 1, [], 0), (.iconst 2, 1, [], 0), (.iadd, 1, [], 0), (.iaload, 1, [11], 0), (.aload_n 0, 1, [], 0), (.iload_n 3, 1, [], 0), (.iconst 3, 1, [], 0), (.iadd, 1, [], 0), (.iaload, 1, [11], 0)]
theorem a_L_law_1215 : ck mL_law b_L_law_1215 1215 = true := by decide +kernel
def b_L_law_1234 : List Ent := [(.if_icmp .eq 401, 3, [1635], 0)]
theorem a_L_law_1234 : ck mL_law b_L_law_1234 1234 = true := by decide +kernel
def b_L_law_1237 : List Ent := [(.iconst 0, 1, [], 0), (.ireturn, 1, [1], 0)]
theorem a_L_law_1237 : ck mL_law b_L_law_1237 1237 = true := by decide +kernel
def b_L_law_1239 : List Ent := [(.aload_n 1, 1, [], 0), (.aload_n 0, 1, [], 0), (.iload_n 3, 1, [], 0), (.iconst 1, 1, [], 0), (.iadd, 1, [], 0), (.iaload, 1, [11], 0)]
theorem a_L_law_1239 : ck mL_law b_L_law_1239 1239 = true := by decide +kernel
def b_L_law_1248 : List Ent := [(.aload_n 2, 1, [], 0), (.aload_n 0, 1, [], 0), (.iload_n 3, 1, [], 0), (.iconst 1, 1, [], 0), (.iadd, 1, [], 0), (.iaload, 1, [11], 0)]
theorem a_L_law_1248 : ck mL_law b_L_law_1248 1248 = true := by decide +kernel
def b_L_law_1257 : List Ent := [(.if_icmp .eq 378, 3, [1635], 0)]
theorem a_L_law_1257 : ck mL_law b_L_law_1257 1257 = true := by decide +kernel
def b_L_law_1260 : List Ent := [(.iconst 0, 1, [], 0), (.ireturn, 1, [1], 0)]
theorem a_L_law_1260 : ck mL_law b_L_law_1260 1260 = true := by decide +kernel
def b_L_law_1262 : List Ent := [(.aload_n 1, 1, [], 0), (.aload_n 0, 1, [], 0), (.iload_n 3, 1, [], 0), (.iconst 1, 1, [], 0), (.iadd, 1, [], 0), (.iaload, 1, [11], 0), (.aload_n 0, 1, [], 0), (.iload_n 3, 1, [], 0), (.iconst 2, 1, [], 0), (.iadd, 1, [], 0), (.iaload, 1, [11], 0), (.aload_n 0, 1, [], 0), (.iload_n 3, 1, [], 0), (.iconst 3, 1, [], 0), (.iadd, 1, [], 0), (.iaload, 1, [11], 0), (.aload_n 0, 1, [], 0), (.iload_n 3, 1, [], 0), (.iconst 4, 1, [], 0), (.iadd, 1, [], 0), (.iaload, 1, [11], 0)]
theorem a_L_law_1262 : ck mL_law b_L_law_1262 1262 = true := by decide +kernel
def b_L_law_1286 : List Ent := [(.aload_n 2, 1, [], 0), (.aload_n 0, 1, [], 0), (.iload_n 3, 1, [], 0), (.iconst 1, 1, [], 0), (.iadd, 1, [], 0), (.iaload, 1, [11], 0), (.aload_n 0, 1, [], 0), (.iload_n 3, 1, [], 0), (.iconst 2, 1, [], 0), (.iadd, 1, [], 0), (.iaload, 1, [11], 0), (.aload_n 0, 1, [], 0), (.iload_n 3, 1, [], 0), (.iconst 3, 1, [], 0), (.iadd, 1, [], 0), (.iaload, 1, [11], 0), (.aload_n 0, 1, [], 0), (.iload_n 3, 1, [], 0), (.iconst 4, 1, [], 0), (.iadd, 1, [], 0), (.iaload, 1, [11], 0)]
theorem a_L_law_1286 : ck mL_law b_L_law_1286 1286 = true := by decide +kernel
def b_L_law_1310 : List Ent := [(.if_icmp .eq 325, 3, [1635], 0)]
theorem a_L_law_1310 : ck mL_law b_L_law_1310 1310 = true := by decide +kernel
def b_L_law_1313 : List Ent := [(.iconst 0, 1, [], 0), (.ireturn, 1, [1], 0)]
theorem a_L_law_1313 : ck mL_law b_L_law_1313 1313 = true := by decide +kernel
def b_L_law_1315 : List Ent := [(.aload_n 1, 1, [], 0), (.aload_n 0, 1, [], 0), (.iload_n 3, 1, [], 0), (.iconst 1, 1, [], 0), (.iadd, 1, [], 0), (.iaload, 1, [11], 0), (.aload_n 0, 1, [], 0), (.iload_n 3, 1, [], 0), (.iconst 2, 1, [], 0), (.iadd, 1, [], 0), (.iaload, 1, [11], 0), (.aload_n 0, 1, [], 0), (.iload_n 3, 1, [], 0), (.iconst 3, 1, [], 0), (.iadd, 1, [], 0), (.iaload, 1, [11], 0)]
theorem a_L_law_1315 : ck mL_law b_L_law_1315 1315 = true := by decide +kernel
def b_L_law_1334 : List Ent := [(.aload_n 2, 1, [], 0), (.aload_n 0, 1, [], 0), (.iload_n 3, 1, [], 0), (.iconst 1, 1, [], 0), (.iadd, 1, [], 0), (.iaload, 1, [11], 0), (.aload_n 0, 1, [], 0), (.iload_n 3, 1, [], 0), (.iconst 2, 1, [], 0), (.iadd, 1, [], 0), (.iaload, 1, [11], 0), (.aload_n 0, 1, [], 0), (.iload_n 3, 1, [], 0), (.iconst 3, 1, [], 0), (.iadd, 1, [], 0), (.iaload, 1, [11], 0)]
theorem a_L_law_1334 : ck mL_law b_L_law_1334 1334 = true := by decide +kernel
def b_L_law_1353 : List Ent := [(.if_icmp .eq 282, 3, [1635], 0)]
theorem a_L_law_1353 : ck mL_law b_L_law_1353 1353 = true := by decide +kernel
def b_L_law_1356 : List Ent := [(.iconst 0, 1, [], 0), (.ireturn, 1, [1], 0)]
theorem a_L_law_1356 : ck mL_law b_L_law_1356 1356 = true := by decide +kernel
def b_L_law_1358 : List Ent := [(.aload_n 1, 1, [], 0), (.aload_n 0, 1, [], 0), (.iload_n 3, 1, [], 0), (.iconst 1, 1, [], 0), (.iadd, 1, [], 0), (.iaload, 1, [11], 0), (.aload_n 0, 1, [], 0), (.iload_n 3, 1, [], 0), (.iconst 2, 1, [], 0), (.iadd, 1, [], 0), (.iaload, 1, [11], 0), (.aload_n 0, 1, [], 0), (.iload_n 3, 1, [], 0), (.iconst 3, 1, [], 0), (.iadd, 1, [], 0), (.iaload, 1, [11], 0)]
theorem a_L_law_1358 : ck mL_law b_L_law_1358 1358 = true := by decide +kernel
def b_L_law_1377 : List Ent := [(.aload_n 2, 1, [], 0), (.aload_n 0, 1, [], 0), (.iload_n 3, 1, [], 0), (.iconst 1, 1, [], 0), (.iadd, 1, [], 0), (.iaload, 1, [11], 0), (.aload_n 0, 1, [], 0), (.iload_n 3, 1, [], 0), (.iconst 2, 1, [], 0), (.iadd, 1, [], 0), (.iaload, 1, [11], 0), (.aload_n 0, 1, [], 0), (.iload_n 3, 1, [], 0), (.iconst 3, 1, [], 0), (.iadd, 1, [], 0), (.iaload, 1, [11], 0)]
theorem a_L_law_1377 : ck mL_law b_L_law_1377 1377 = true := by decide +kernel
def b_L_law_1396 : List Ent := [(.if_icmp .eq 239, 3, [1635], 0)]
theorem a_L_law_1396 : ck mL_law b_L_law_1396 1396 = true := by decide +kernel
def b_L_law_1399 : List Ent := [(.iconst 0, 1, [], 0), (.ireturn, 1, [1], 0)]
theorem a_L_law_1399 : ck mL_law b_L_law_1399 1399 = true := by decide +kernel
def b_L_law_1401 : List Ent := [(.aload_n 1, 1, [], 0), (.aload_n 0, 1, [], 0), (.iload_n 3, 1, [], 0), (.iconst 1, 1, [], 0), (.iadd, 1, [], 0), (.iaload, 1, [11], 0), (.aload_n 0, 1, [], 0), (.iload_n 3, 1, [], 0), (.iconst 2, 1, [], 0), (.iadd, 1, [], 0), (.iaload, 1, [11], 0), (.aload_n 0, 1, [], 0), (.iload_n 3, 1, [], 0), (.iconst 3, 1, [], 0), (.iadd, 1, [], 0), (.iaload, 1, [11], 0)]
theorem a_L_law_1401 : ck mL_law b_L_law_1401 1401 = true := by decide +kernel
def b_L_law_1420 : List Ent := [(.aload_n 2, 1, [], 0), (.aload_n 0, 1, [], 0), (.iload_n 3, 1, [], 0), (.iconst 1, 1, [], 0), (.iadd, 1, [], 0), (.iaload, 1, [11], 0), (.aload_n 0, 1, [], 0), (.iload_n 3, 1, [], 0), (.iconst 2, 1, [], 0), (.iadd, 1, [], 0), (.iaload, 1, [11], 0), (.aload_n 0, 1, [], 0), (.iload_n 3, 1, [], 0), (.iconst 3, 1, [], 0), (.iadd, 1, [], 0), (.iaload, 1, [11], 0)]
theorem a_L_law_1420 : ck mL_law b_L_law_1420 1420 = true := by decide +kernel
def b_L_law_1439 : List Ent := [(.if_icmp .eq 196, 3, [1635], 0)]
theorem a_L_law_1439 : ck mL_law b_L_law_1439 1439 = true := by decide +kernel
def b_L_law_1442 : List Ent := [(.iconst 0, 1, [], 0), (.ireturn, 1, [1], 0)]
theorem a_L_law_1442 : ck mL_law b_L_law_1442 1442 = true := by decide +kernel
def b_L_law_1444 : List Ent := [(.aload_n 1, 1, [], 0), (.aload_n 0, 1, [], 0), (.iload_n 3, 1, [], 0), (.iconst 1, 1, [], 0), (.iadd, 1, [], 0), (.iaload, 1, [11], 0), (.aload_n 0, 1, [], 0), (.iload_n 3, 1, [], 0), (.iconst 2, 1, [], 0), (.iadd, 1, [], 0), (.iaload, 1, [11], 0), (.aload_n 0, 1, [], 0), (.iload_n 3, 1, [], 0), (.iconst 3, 1, [], 0), (.iadd, 1, [], 0), (.iaload, 1, [11], 0)]
theorem a_L_law_1444 : ck mL_law b_L_law_1444 1444 = true := by decide +kernel
def b_L_law_1463 : List Ent := [(.aload_n 2, 1, [], 0), (.aload_n 0, 1, [], 0), (.iload_n 3, 1, [], 0), (.iconst 1, 1, [], 0), (.iadd, 1, [], 0), (.iaload, 1, [11], 0), (.aload_n 0, 1, [], 0), (.iload_n 3, 1, [], 0), (.iconst 2, 1, [], 0), (.iadd, 1, [], 0), (.iaload, 1, [11], 0), (.aload_n 0, 1, [], 0), (.iload_n 3, 1, [], 0), (.iconst 3, 1, [], 0), (.iadd, 1, [], 0), (.iaload, 1, [11], 0)]
theorem a_L_law_1463 : ck mL_law b_L_law_1463 1463 = true := by decide +kernel
def b_L_law_1482 : List Ent := [(.if_icmp .eq 153, 3, [1635], 0)]
theorem a_L_law_1482 : ck mL_law b_L_law_1482 1482 = true := by decide +kernel
def b_L_law_1485 : List Ent := [(.iconst 0, 1, [], 0), (.ireturn, 1, [1], 0)]
theorem a_L_law_1485 : ck mL_law b_L_law_1485 1485 = true := by decide +kernel
def b_L_law_1487 : List Ent := [(.aload_n 1, 1, [], 0), (.aload_n 0, 1, [], 0), (.iload_n 3, 1, [], 0), (.iconst 1, 1, [], 0), (.iadd, 1, [], 0), (.iaload, 1, [11], 0), (.aload_n 0, 1, [], 0), (.iload_n 3, 1, [], 0), (.iconst 2, 1, [], 0), (.iadd, 1, [], 0), (.iaload, 1, [11], 0)]
theorem a_L_law_1487 : ck mL_law b_L_law_1487 1487 = true := by decide +kernel
def b_L_law_1501 : List Ent := [(.aload_n 2, 1, [], 0), (.aload_n 0, 1, [], 0), (.iload_n 3, 1, [], 0), (.iconst 1, 1, [], 0), (.iadd, 1, [], 0), (.iaload, 1, [11], 0), (.aload_n 0, 1, [], 0), (.iload_n 3, 1, [], 0), (.iconst 2, 1, [], 0), (.iadd, 1, [], 0), (.iaload, 1, [11], 0)]
theorem a_L_law_1501 : ck mL_law b_L_law_1501 1501 = true := by decide +kernel
def b_L_law_1515 : List Ent := [(.if_icmp .eq 120, 3, [1635], 0)]
theorem a_L_law_1515 : ck mL_law b_L_law_1515 1515 = true := by decide +kernel
def b_L_law_1518 : List Ent := [(.iconst 0, 1, [], 0), (.ireturn, 1, [1], 0)]
theorem a_L_law_1518 : ck mL_law b_L_law_1518 1518 = true := by decide +kernel
def b_L_law_1520 : List Ent := [(.aload_n 1, 1, [], 0), (.aload_n 0, 1, [], 0), (.iload_n 3, 1, [], 0), (.iconst 1, 1, [], 0), (.iadd, 1, [], 0), (.iaload, 1, [11], 0), (.aload_n 0, 1, [], 0), (.iload_n 3, 1, [], 0), (.iconst 2, 1, [], 0), (.iadd, 1, [], 0), (.iaload, 1, [11], 0), (.aload_n 0, 1, [], 0), (.iload_n 3, 1, [], 0), (.iconst 3, 1, [], 0), (.iadd, 1, [], 0), (.iaload, 1, [11], 0)]
theorem a_L_law_1520 : ck mL_law b_L_law_1520 1520 = true := by decide +kernel
def b_L_law_1539 : List Ent := [(.aload_n 2, 1, [], 0), (.aload_n 0, 1, [], 0), (.iload_n 3, 1, [], 0), (.iconst 1, 1, [], 0), (.iadd, 1, [], 0), (.iaload, 1, [11], 0), (.aload_n 0, 1, [], 0), (.iload_n 3, 1, [], 0), (.iconst 2, 1, [], 0), (.iadd, 1, [], 0), (.iaload, 1, [11], 0), (.aload_n 0, 1, [], 0), (.iload_n 3, 1, [], 0), (.iconst 3, 1, [], 0), (.iadd, 1, [], 0), (.iaload, 1, [11], 0)]
theorem a_L_law_1539 : ck mL_law b_L_law_1539 1539 = true := by decide +kernel
def b_L_law_1558 : List Ent := [(.if_icmp .eq 77, 3, [1635], 0)]
theorem a_L_law_1558 : ck mL_law b_L_law_1558 1558 = true := by decide +kernel
def b_L_law_1561 : List Ent := [(.iconst 0, 1, [], 0), (.ireturn, 1, [1], 0)]
theorem a_L_law_1561 : ck mL_law b_L_law_1561 1561 = true := by decide +kernel
def b_L_law_1563 : List Ent := [(.aload_n 1, 1, [], 0), (.aload_n 0, 1, [], 0), (.iload_n 3, 1, [], 0), (.iconst 1, 1, [], 0), (.iadd, 1, [], 0), (.iaload, 1, [11], 0)]
theorem a_L_law_1563 : ck mL_law b_L_law_1563 1563 = true := by decide +kernel
def b_L_law_1572 : List Ent := [(.aload_n 2, 1, [], 0), (.aload_n 0, 1, [], 0), (.iload_n 3, 1, [], 0), (.iconst 1, 1, [], 0), (.iadd, 1, [], 0), (.iaload, 1, [11], 0)]
theorem a_L_law_1572 : ck mL_law b_L_law_1572 1572 = true := by decide +kernel
def b_L_law_1581 : List Ent := [(.if_icmp .eq 54, 3, [1635], 0)]
theorem a_L_law_1581 : ck mL_law b_L_law_1581 1581 = true := by decide +kernel
def b_L_law_1584 : List Ent := [(.iconst 0, 1, [], 0), (.ireturn, 1, [1], 0)]
theorem a_L_law_1584 : ck mL_law b_L_law_1584 1584 = true := by decide +kernel
def b_L_law_1586 : List Ent := [(.aload_n 1, 1, [], 0), (.aload_n 0, 1, [], 0), (.iload_n 3, 1, [], 0), (.iconst 1, 1, [], 0), (.iadd, 1, [], 0), (.iaload, 1, [11], 0)]
theorem a_L_law_1586 : ck mL_law b_L_law_1586 1586 = true := by decide +kernel
def b_L_law_1595 : List Ent := [(.aload_n 2, 1, [], 0), (.aload_n 0, 1, [], 0), (.iload_n 3, 1, [], 0), (.iconst 1, 1, [], 0), (.iadd, 1, [], 0), (.iaload, 1, [11], 0)]
theorem a_L_law_1595 : ck mL_law b_L_law_1595 1595 = true := by decide +kernel
def b_L_law_1604 : List Ent := [(.if_icmp .eq 31, 3, [1635], 0)]
theorem a_L_law_1604 : ck mL_law b_L_law_1604 1604 = true := by decide +kernel
def b_L_law_1607 : List Ent := [(.iconst 0, 1, [], 0), (.ireturn, 1, [1], 0)]
theorem a_L_law_1607 : ck mL_law b_L_law_1607 1607 = true := by decide +kernel
def b_L_law_1609 : List Ent := [(.aload_n 1, 1, [], 0)]
theorem a_L_law_1609 : ck mL_law b_L_law_1609 1609 = true := by decide +kernel
def b_L_law_1613 : List Ent := [(.aload_n 2, 1, [], 0)]
theorem a_L_law_1613 : ck mL_law b_L_law_1613 1613 = true := by decide +kernel
def b_L_law_1617 : List Ent := [(.if_icmp .eq 18, 3, [1635], 0)]
theorem a_L_law_1617 : ck mL_law b_L_law_1617 1617 = true := by decide +kernel
def b_L_law_1620 : List Ent := [(.iconst 0, 1, [], 0), (.ireturn, 1, [1], 0)]
theorem a_L_law_1620 : ck mL_law b_L_law_1620 1620 = true := by decide +kernel
def b_L_law_1622 : List Ent := [(.aload_n 1, 1, [], 0)]
theorem a_L_law_1622 : ck mL_law b_L_law_1622 1622 = true := by decide +kernel
def b_L_law_1626 : List Ent := [(.aload_n 2, 1, [], 0)]
theorem a_L_law_1626 : ck mL_law b_L_law_1626 1626 = true := by decide +kernel
def b_L_law_1630 : List Ent := [(.if_icmp .eq 5, 3, [1635], 0)]
theorem a_L_law_1630 : ck mL_law b_L_law_1630 1630 = true := by decide +kernel
def b_L_law_1633 : List Ent := [(.iconst 0, 1, [], 0), (.ireturn, 1, [1], 0)]
theorem a_L_law_1633 : ck mL_law b_L_law_1633 1633 = true := by decide +kernel
def b_L_law_1635 : List Ent := [(.iinc 3 5, 3, [], 0), (.goto (-1620), 3, [18], 0)]
theorem a_L_law_1635 : ck mL_law b_L_law_1635 1635 = true := by decide +kernel
def b_L_law_1641 : List Ent := [(.iconst 1, 1, [], 0), (.ireturn, 1, [1], 0)]
theorem a_L_law_1641 : ck mL_law b_L_law_1641 1641 = true := by decide +kernel
