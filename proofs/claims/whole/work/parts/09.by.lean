theorem o_X5_act : MOK mX5_act 3 := MOK.of 797 58 (by decide +kernel) (by decide +kernel) (by decide +kernel) (by decide +kernel) (by decide +kernel)
def b_X5_act_0 : List Ent := [(.aload_n 0, 1, [], 0), (.getfield 58, 3, [5, 9, 44, 262], 0)]
theorem a_X5_act_0 : ck mX5_act b_X5_act_0 0 = true := by decide +kernel
theorem k_X5_act_4 : CV mX5_act 4 mX0_begin := CV.of 290 798 799 800 (by decide +kernel) (by decide +kernel) (by decide +kernel) (by decide +kernel)
def b_X5_act_7 : List Ent := [(.aload_n 0, 1, [], 0), (.getfield 51, 3, [5, 8, 39, 261], 0), (.iload_n 1, 1, [], 0)]
theorem a_X5_act_7 : ck mX5_act b_X5_act_7 7 = true := by decide +kernel
theorem k_X5_act_12 : CV mX5_act 12 mX2_has := CV.of 267 766 767 768 (by decide +kernel) (by decide +kernel) (by decide +kernel) (by decide +kernel)
def b_X5_act_15 : List Ent := [(.ifCond .eq 16, 3, [31], 0)]
theorem a_X5_act_15 : ck mX5_act b_X5_act_15 15 = true := by decide +kernel
def b_X5_act_18 : List Ent := [(.iload_n 2, 1, [], 0), (.iconst 0, 1, [], 0), (.iconst 3, 1, [], 0)]
theorem a_X5_act_18 : ck mX5_act b_X5_act_18 18 = true := by decide +kernel
theorem k_X5_act_21 : CS mX5_act 21 mX5_within := CS.of 62 288 289 (by decide +kernel) (by decide +kernel) (by decide +kernel)
def b_X5_act_24 : List Ent := [(.ifCond .eq 7, 3, [31], 0)]
theorem a_X5_act_24 : ck mX5_act b_X5_act_24 24 = true := by decide +kernel
def b_X5_act_27 : List Ent := [(.iconst 1, 1, [], 0), (.goto 4, 3, [32], 0)]
theorem a_X5_act_27 : ck mX5_act b_X5_act_27 27 = true := by decide +kernel
def b_X5_act_31 : List Ent := [(.iconst 0, 1, [], 0)]
theorem a_X5_act_31 : ck mX5_act b_X5_act_31 31 = true := by decide +kernel
def b_X5_act_32 : List Ent := [(.istore 4, 2, [], 0), (.iload 4, 2, [], 0), (.ifCond .eq 19, 3, [55], 0)]
theorem a_X5_act_32 : ck mX5_act b_X5_act_32 32 = true := by decide +kernel
def b_X5_act_39 : List Ent := [(.aload_n 0, 1, [], 0), (.getfield 51, 3, [5, 8, 39, 261], 0), (.iload_n 1, 1, [], 0), (.aload_n 0, 1, [], 0), (.getfield 10, 3, [5, 0, 1, 253], 0)]
theorem a_X5_act_39 : ck mX5_act b_X5_act_39 39 = true := by decide +kernel
theorem k_X5_act_48 : CV mX5_act 48 mX2_heldOf := CV.of 278 787 788 789 (by decide +kernel) (by decide +kernel) (by decide +kernel) (by decide +kernel)
def b_X5_act_51 : List Ent := [(.iconst 1, 1, [], 0), (.if_icmp .eq 5, 3, [57], 0)]
theorem a_X5_act_51 : ck mX5_act b_X5_act_51 51 = true := by decide +kernel
def b_X5_act_55 : List Ent := [(.iconst 0, 1, [], 0), (.ireturn, 1, [0], 0)]
theorem a_X5_act_55 : ck mX5_act b_X5_act_55 55 = true := by decide +kernel
def b_X5_act_57 : List Ent := [(.aload_n 0, 1, [], 0), (.getfield 51, 3, [5, 8, 39, 261], 0), (.getfield 284, 3, [2, 1, 2, 212], 0), (.iload_n 1, 1, [], 0), (.iaload, 1, [7], 0), (.istore 5, 2, [], 0), (.aload_n 0, 1, [], 0), (.getfield 58, 3, [5, 9, 44, 262], 0), (.aload_n 0, 1, [], 0), (.getfield 10, 3, [5, 0, 1, 253], 0), (.getfield 116, 3, [4, 1, 2, 100], 0), (.iload 5, 2, [], 0), (.iaload, 1, [7], 0), (.iload 5, 2, [], 0), (.aload_n 0, 1, [], 0), (.getfield 10, 3, [5, 0, 1, 253], 0), (.getfield 122, 3, [4, 3, 4, 104], 0), (.iload 5, 2, [], 0), (.iaload, 1, [7], 0), (.iload_n 2, 1, [], 0), (.iload_n 3, 1, [], 0)]
theorem a_X5_act_57 : ck mX5_act b_X5_act_57 57 = true := by decide +kernel
theorem k_X5_act_96 : CV mX5_act 96 mX0_play := CV.of 293 802 803 804 (by decide +kernel) (by decide +kernel) (by decide +kernel) (by decide +kernel)
def b_X5_act_99 : List Ent := [(.ireturn, 1, [0], 0)]
theorem a_X5_act_99 : ck mX5_act b_X5_act_99 99 = true := by decide +kernel
theorem o_X5_again : MOK mX5_again 0 := MOK.of 840 58 (by decide +kernel) (by decide +kernel) (by decide +kernel) (by decide +kernel) (by decide +kernel)
def b_X5_again_0 : List Ent := [(.aload_n 0, 1, [], 0), (.getfield 22, 3, [5, 3, 0, 256], 0), (.ifCond .ne 6, 3, [10], 0)]
theorem a_X5_again_0 : ck mX5_again b_X5_again_0 0 = true := by decide +kernel
def b_X5_again_7 : List Ent := [(.bipush (-3), 2, [], 0), (.ireturn, 1, [0], 0)]
theorem a_X5_again_7 : ck mX5_again b_X5_again_7 7 = true := by decide +kernel
def b_X5_again_10 : List Ent := [(.aload_n 0, 1, [], 0), (.getfield 10, 3, [5, 0, 1, 253], 0), (.aload_n 0, 1, [], 0), (.getfield 19, 3, [5, 2, 19, 255], 0)]
theorem a_X5_again_10 : ck mX5_again b_X5_again_10 10 = true := by decide +kernel
theorem k_X5_again_18 : CV mX5_again 18 mX4_copyFrom := CV.of 83 438 439 440 (by decide +kernel) (by decide +kernel) (by decide +kernel) (by decide +kernel)
def b_X5_again_21 : List Ent := [(.aload_n 0, 1, [], 0), (.getfield 10, 3, [5, 0, 1, 253], 0), (.getfield 87, 3, [4, 7, 0, 114], 0), (.ireturn, 1, [0], 0)]
theorem a_X5_again_21 : ck mX5_again b_X5_again_21 21 = true := by decide +kernel
theorem o_X5_age : MOK mX5_age 2 := MOK.of 525 58 (by decide +kernel) (by decide +kernel) (by decide +kernel) (by decide +kernel) (by decide +kernel)
def b_X5_age_0 : List Ent := [(.aload_n 0, 1, [], 0), (.getfield 10, 3, [5, 0, 1, 253], 0), (.iload_n 1, 1, [], 0)]
theorem a_X5_age_0 : ck mX5_age b_X5_age_0 0 = true := by decide +kernel
theorem k_X5_age_5 : CV mX5_age 5 mX4_has := CV.of 113 469 470 471 (by decide +kernel) (by decide +kernel) (by decide +kernel) (by decide +kernel)
def b_X5_age_8 : List Ent := [(.ifCond .eq 10, 3, [18], 0)]
theorem a_X5_age_8 : ck mX5_age b_X5_age_8 8 = true := by decide +kernel
def b_X5_age_11 : List Ent := [(.iload_n 2, 1, [], 0)]
theorem a_X5_age_11 : ck mX5_age b_X5_age_11 11 = true := by decide +kernel
theorem k_X5_age_12 : CS mX5_age 12 mX5_isAge := CS.of 106 461 462 (by decide +kernel) (by decide +kernel) (by decide +kernel)
def b_X5_age_15 : List Ent := [(.ifCond .ne 5, 3, [20], 0)]
theorem a_X5_age_15 : ck mX5_age b_X5_age_15 15 = true := by decide +kernel
def b_X5_age_18 : List Ent := [(.iconst (-1), 1, [], 0), (.ireturn, 1, [0], 0)]
theorem a_X5_age_18 : ck mX5_age b_X5_age_18 18 = true := by decide +kernel
def b_X5_age_20 : List Ent := [(.aload_n 0, 1, [], 0), (.getfield 10, 3, [5, 0, 1, 253], 0), (.getfield 125, 3, [4, 4, 5, 106], 0), (.iload_n 1, 1, [], 0), (.iaload, 1, [7], 0), (.istore_n 3, 1, [], 0), (.aload_n 0, 1, [], 0), (.getfield 10, 3, [5, 0, 1, 253], 0), (.getfield 125, 3, [4, 4, 5, 106], 0), (.iload_n 1, 1, [], 0), (.iload_n 2, 1, [], 0), (.iastore, 1, [], 0), (.iload_n 3, 1, [], 0), (.ireturn, 1, [0], 0)]
theorem a_X5_age_20 : ck mX5_age b_X5_age_20 20 = true := by decide +kernel
theorem o_X5_alterRow : MOK mX5_alterRow 3 := MOK.of 726 58 (by decide +kernel) (by decide +kernel) (by decide +kernel) (by decide +kernel) (by decide +kernel)
def b_X5_alterRow_0 : List Ent := [(.aload_n 0, 1, [], 0), (.iload_n 1, 1, [], 0), (.iload_n 2, 1, [], 0)]
theorem a_X5_alterRow_0 : ck mX5_alterRow b_X5_alterRow_0 0 = true := by decide +kernel
theorem k_X5_alterRow_3 : CV mX5_alterRow 3 mX5_hasRow := CV.of 240 719 721 4 (by decide +kernel) (by decide +kernel) (by decide +kernel) (by decide +kernel)
def b_X5_alterRow_6 : List Ent := [(.ifCond .ne 6, 3, [12], 0)]
theorem a_X5_alterRow_6 : ck mX5_alterRow b_X5_alterRow_6 6 = true := by decide +kernel
def b_X5_alterRow_9 : List Ent := [(.bipush (-9), 2, [], 0), (.ireturn, 1, [0], 0)]
theorem a_X5_alterRow_9 : ck mX5_alterRow b_X5_alterRow_9 9 = true := by decide +kernel
def b_X5_alterRow_12 : List Ent := [(.aload_n 0, 1, [], 0), (.getfield 33, 3, [5, 5, 30, 258], 0), (.iload_n 1, 1, [], 0), (.iconst 3, 1, [], 0), (.imul, 1, [], 0), (.iload_n 2, 1, [], 0), (.iadd, 1, [], 0), (.iaload, 1, [7], 0), (.istore 4, 2, [], 0), (.aload_n 0, 1, [], 0), (.getfield 33, 3, [5, 5, 30, 258], 0), (.iload_n 1, 1, [], 0), (.iconst 3, 1, [], 0), (.imul, 1, [], 0), (.iload_n 2, 1, [], 0), (.iadd, 1, [], 0), (.iload_n 3, 1, [], 0), (.iastore, 1, [], 0), (.iload 4, 2, [], 0), (.ireturn, 1, [0], 0)]
theorem a_X5_alterRow_12 : ck mX5_alterRow b_X5_alterRow_12 12 = true := by decide +kernel
theorem o_X5_back : MOK mX5_back 1 := MOK.of 544 58 (by decide +kernel) (by decide +kernel) (by decide +kernel) (by decide +kernel) (by decide +kernel)
def b_X5_back_0 : List Ent := [(.aload_n 0, 1, [], 0), (.getfield 10, 3, [5, 0, 1, 253], 0), (.iload_n 1, 1, [], 0)]
theorem a_X5_back_0 : ck mX5_back b_X5_back_0 0 = true := by decide +kernel
theorem k_X5_back_5 : CV mX5_back 5 mX4_has := CV.of 113 469 470 471 (by decide +kernel) (by decide +kernel) (by decide +kernel) (by decide +kernel)
def b_X5_back_8 : List Ent := [(.ifCond .ne 5, 3, [13], 0)]
theorem a_X5_back_8 : ck mX5_back b_X5_back_8 8 = true := by decide +kernel
def b_X5_back_11 : List Ent := [(.iconst (-1), 1, [], 0), (.ireturn, 1, [0], 0)]
theorem a_X5_back_11 : ck mX5_back b_X5_back_11 11 = true := by decide +kernel
def b_X5_back_13 : List Ent := [(.aload_n 0, 1, [], 0), (.getfield 10, 3, [5, 0, 1, 253], 0), (.iload_n 1, 1, [], 0)]
theorem a_X5_back_13 : ck mX5_back b_X5_back_13 13 = true := by decide +kernel
theorem k_X5_back_18 : CV mX5_back 18 mX4_canBeHadBack := CV.of 166 545 546 547 (by decide +kernel) (by decide +kernel) (by decide +kernel) (by decide +kernel)
def b_X5_back_21 : List Ent := [(.ifCond .ne 6, 3, [27], 0)]
theorem a_X5_back_21 : ck mX5_back b_X5_back_21 21 = true := by decide +kernel
def b_X5_back_24 : List Ent := [(.bipush (-3), 2, [], 0), (.ireturn, 1, [0], 0)]
theorem a_X5_back_24 : ck mX5_back b_X5_back_24 24 = true := by decide +kernel
def b_X5_back_27 : List Ent := [(.aload_n 0, 1, [], 0), (.getfield 10, 3, [5, 0, 1, 253], 0), (.iload_n 1, 1, [], 0)]
theorem a_X5_back_27 : ck mX5_back b_X5_back_27 27 = true := by decide +kernel
theorem k_X5_back_32 : CV mX5_back 32 mX4_haveBack := CV.of 169 549 550 551 (by decide +kernel) (by decide +kernel) (by decide +kernel) (by decide +kernel)
def b_X5_back_35 : List Ent := [(.aload_n 0, 1, [], 0), (.getfield 10, 3, [5, 0, 1, 253], 0)]
theorem a_X5_back_35 : ck mX5_back b_X5_back_35 35 = true := by decide +kernel
theorem k_X5_back_39 : CV mX5_back 39 mX4_survey := CV.of 138 477 478 479 (by decide +kernel) (by decide +kernel) (by decide +kernel) (by decide +kernel)
theorem k_X5_back_42 : CS mX5_back 42 mJ6_bitCount_0f7a4 := CS.of 161 535 536 (by decide +kernel) (by decide +kernel) (by decide +kernel)
def b_X5_back_45 : List Ent := [(.ireturn, 1, [0], 0)]
theorem a_X5_back_45 : ck mX5_back b_X5_back_45 45 = true := by decide +kernel
theorem o_X5_bare : MOK mX5_bare 0 := MOK.of 624 58 (by decide +kernel) (by decide +kernel) (by decide +kernel) (by decide +kernel) (by decide +kernel)
def b_X5_bare_0 : List Ent := [(.aload_n 0, 1, [], 0)]
theorem a_X5_bare_0 : ck mX5_bare b_X5_bare_0 0 = true := by decide +kernel
theorem k_X5_bare_1 : CV mX5_bare 1 mX5_tryNow := CV.of 182 601 603 0 (by decide +kernel) (by decide +kernel) (by decide +kernel) (by decide +kernel)
def b_X5_bare_4 : List Ent := [(.pop, 1, [], 0), (.iconst 0, 1, [], 0), (.istore_n 1, 1, [], 0)]
theorem a_X5_bare_4 : ck mX5_bare b_X5_bare_4 4 = true := by decide +kernel
def b_X5_bare_7 : List Ent := [(.iload_n 1, 1, [], 0), (.bipush 60, 2, [], 0), (.if_icmp .gt 29, 3, [39], 0)]
theorem a_X5_bare_7 : ck mX5_bare b_X5_bare_7 7 = true := by decide +kernel
def b_X5_bare_13 : List Ent := [(.aload_n 0, 1, [], 0), (.getfield 16, 3, [5, 1, 10, 254], 0)]
theorem a_X5_bare_13 : ck mX5_bare b_X5_bare_13 13 = true := by decide +kernel
theorem k_X5_bare_17 : CV mX5_bare 17 mX4_isBare := CV.of 195 625 626 627 (by decide +kernel) (by decide +kernel) (by decide +kernel) (by decide +kernel)
def b_X5_bare_20 : List Ent := [(.ifCond .eq 5, 3, [25], 0)]
theorem a_X5_bare_20 : ck mX5_bare b_X5_bare_20 20 = true := by decide +kernel
def b_X5_bare_23 : List Ent := [(.iload_n 1, 1, [], 0), (.ireturn, 1, [0], 0)]
theorem a_X5_bare_23 : ck mX5_bare b_X5_bare_23 23 = true := by decide +kernel
def b_X5_bare_25 : List Ent := [(.aload_n 0, 1, [], 0), (.getfield 16, 3, [5, 1, 10, 254], 0)]
theorem a_X5_bare_25 : ck mX5_bare b_X5_bare_25 25 = true := by decide +kernel
theorem k_X5_bare_29 : CV mX5_bare 29 mX4_passYear := CV.of 199 629 562 563 (by decide +kernel) (by decide +kernel) (by decide +kernel) (by decide +kernel)
def b_X5_bare_32 : List Ent := [(.pop, 1, [], 0), (.iinc 1 1, 3, [], 0), (.goto (-29), 3, [7], 0)]
theorem a_X5_bare_32 : ck mX5_bare b_X5_bare_32 32 = true := by decide +kernel
def b_X5_bare_39 : List Ent := [(.bipush (-3), 2, [], 0), (.ireturn, 1, [0], 0)]
theorem a_X5_bare_39 : ck mX5_bare b_X5_bare_39 39 = true := by decide +kernel
theorem o_X5_bit : MOK mX5_bit 2 := MOK.of 476 58 (by decide +kernel) (by decide +kernel) (by decide +kernel) (by decide +kernel) (by decide +kernel)
def b_X5_bit_0 : List Ent := [(.iload_n 0, 1, [], 0), (.iload_n 1, 1, [], 0), (.ishr, 1, [], 0), (.iconst 1, 1, [], 0), (.iand, 1, [], 0), (.ireturn, 1, [0], 0)]
theorem a_X5_bit_0 : ck mX5_bit b_X5_bit_0 0 = true := by decide +kernel
theorem o_X5_branch : MOK mX5_branch 4 := MOK.of 456 58 (by decide +kernel) (by decide +kernel) (by decide +kernel) (by decide +kernel) (by decide +kernel)
def b_X5_branch_0 : List Ent := [(.iload_n 1, 1, [], 0)]
theorem a_X5_branch_0 : ck mX5_branch b_X5_branch_0 0 = true := by decide +kernel
theorem k_X5_branch_1 : CS mX5_branch 1 mX5_isKind := CS.of 100 457 391 (by decide +kernel) (by decide +kernel) (by decide +kernel)
def b_X5_branch_4 : List Ent := [(.ifCond .eq 33, 3, [37], 0)]
theorem a_X5_branch_4 : ck mX5_branch b_X5_branch_4 4 = true := by decide +kernel
def b_X5_branch_7 : List Ent := [(.iload_n 2, 1, [], 0), (.iconst 0, 1, [], 0), (.aload_n 0, 1, [], 0), (.getfield 10, 3, [5, 0, 1, 253], 0), (.getfield 87, 3, [4, 7, 0, 114], 0)]
theorem a_X5_branch_7 : ck mX5_branch b_X5_branch_7 7 = true := by decide +kernel
theorem k_X5_branch_16 : CS mX5_branch 16 mX5_within := CS.of 62 288 289 (by decide +kernel) (by decide +kernel) (by decide +kernel)
def b_X5_branch_19 : List Ent := [(.ifCond .eq 18, 3, [37], 0)]
theorem a_X5_branch_19 : ck mX5_branch b_X5_branch_19 19 = true := by decide +kernel
def b_X5_branch_22 : List Ent := [(.iload_n 3, 1, [], 0)]
theorem a_X5_branch_22 : ck mX5_branch b_X5_branch_22 22 = true := by decide +kernel
theorem k_X5_branch_23 : CS mX5_branch 23 mX5_isForce := CS.of 103 458 459 (by decide +kernel) (by decide +kernel) (by decide +kernel)
def b_X5_branch_26 : List Ent := [(.ifCond .eq 11, 3, [37], 0)]
theorem a_X5_branch_26 : ck mX5_branch b_X5_branch_26 26 = true := by decide +kernel
def b_X5_branch_29 : List Ent := [(.iload 4, 2, [], 0)]
theorem a_X5_branch_29 : ck mX5_branch b_X5_branch_29 29 = true := by decide +kernel
theorem k_X5_branch_31 : CS mX5_branch 31 mX5_isAge := CS.of 106 461 462 (by decide +kernel) (by decide +kernel) (by decide +kernel)
def b_X5_branch_34 : List Ent := [(.ifCond .ne 5, 3, [39], 0)]
theorem a_X5_branch_34 : ck mX5_branch b_X5_branch_34 34 = true := by decide +kernel
def b_X5_branch_37 : List Ent := [(.iconst (-1), 1, [], 0), (.ireturn, 1, [0], 0)]
theorem a_X5_branch_37 : ck mX5_branch b_X5_branch_37 37 = true := by decide +kernel
def b_X5_branch_39 : List Ent := [(.aload_n 0, 1, [], 0), (.getfield 10, 3, [5, 0, 1, 253], 0), (.getfield 87, 3, [4, 7, 0, 114], 0), (.bipush 8, 2, [], 0), (.if_icmp .lt 6, 3, [54], 0)]
theorem a_X5_branch_39 : ck mX5_branch b_X5_branch_39 39 = true := by decide +kernel
def b_X5_branch_51 : List Ent := [(.bipush (-2), 2, [], 0), (.ireturn, 1, [0], 0)]
theorem a_X5_branch_51 : ck mX5_branch b_X5_branch_51 51 = true := by decide +kernel
def b_X5_branch_54 : List Ent := [(.aload_n 0, 1, [], 0), (.getfield 10, 3, [5, 0, 1, 253], 0), (.iload_n 1, 1, [], 0), (.iload_n 2, 1, [], 0), (.iload_n 3, 1, [], 0), (.iload 4, 2, [], 0)]
theorem a_X5_branch_54 : ck mX5_branch b_X5_branch_54 54 = true := by decide +kernel
theorem k_X5_branch_63 : CV mX5_branch 63 mX4_add := CV.of 109 464 426 427 (by decide +kernel) (by decide +kernel) (by decide +kernel) (by decide +kernel)
def b_X5_branch_66 : List Ent := [(.ireturn, 1, [0], 0)]
theorem a_X5_branch_66 : ck mX5_branch b_X5_branch_66 66 = true := by decide +kernel
theorem o_X5_commonDivisor : MOK mX5_commonDivisor 2 := MOK.of 705 58 (by decide +kernel) (by decide +kernel) (by decide +kernel) (by decide +kernel) (by decide +kernel)
def b_X5_commonDivisor_0 : List Ent := [(.lload_n 0, 1, [], 0), (.lstore 4, 2, [], 0), (.lload_n 2, 1, [], 0), (.lstore 6, 2, [], 0), (.iconst 0, 1, [], 0), (.istore 8, 2, [], 0)]
theorem a_X5_commonDivisor_0 : ck mX5_commonDivisor b_X5_commonDivisor_0 0 = true := by decide +kernel
def b_X5_commonDivisor_9 : List Ent := [(.iload 8, 2, [], 0), (.sipush 200, 3, [], 0), (.if_icmp .ge 31, 3, [45], 0)]
theorem a_X5_commonDivisor_9 : ck mX5_commonDivisor b_X5_commonDivisor_9 9 = true := by decide +kernel
def b_X5_commonDivisor_17 : List Ent := [(.lload 6, 2, [], 0), (.lconst 0, 1, [], 0), (.lcmp, 1, [], 0), (.ifCond .eq 24, 3, [45], 0)]
theorem a_X5_commonDivisor_17 : ck mX5_commonDivisor b_X5_commonDivisor_17 17 = true := by decide +kernel
def b_X5_commonDivisor_24 : List Ent := [(.lload 4, 2, [], 0), (.lload 6, 2, [], 0), (.lrem, 1, [], 0), (.lstore 9, 2, [], 0), (.lload 6, 2, [], 0), (.lstore 4, 2, [], 0), (.lload 9, 2, [], 0), (.lstore 6, 2, [], 0), (.iinc 8 1, 3, [], 0), (.goto (-33), 3, [9], 0)]
theorem a_X5_commonDivisor_24 : ck mX5_commonDivisor b_X5_commonDivisor_24 24 = true := by decide +kernel
def b_X5_commonDivisor_45 : List Ent := [(.lload 4, 2, [], 0), (.lreturn, 1, [], 0)]
theorem a_X5_commonDivisor_45 : ck mX5_commonDivisor b_X5_commonDivisor_45 45 = true := by decide +kernel
theorem o_X5_cut : MOK mX5_cut 1 := MOK.of 533 58 (by decide +kernel) (by decide +kernel) (by decide +kernel) (by decide +kernel) (by decide +kernel)
def b_X5_cut_0 : List Ent := [(.aload_n 0, 1, [], 0), (.getfield 10, 3, [5, 0, 1, 253], 0), (.iload_n 1, 1, [], 0)]
theorem a_X5_cut_0 : ck mX5_cut b_X5_cut_0 0 = true := by decide +kernel
theorem k_X5_cut_5 : CV mX5_cut 5 mX4_has := CV.of 113 469 470 471 (by decide +kernel) (by decide +kernel) (by decide +kernel) (by decide +kernel)
def b_X5_cut_8 : List Ent := [(.ifCond .ne 5, 3, [13], 0)]
theorem a_X5_cut_8 : ck mX5_cut b_X5_cut_8 8 = true := by decide +kernel
def b_X5_cut_11 : List Ent := [(.iconst (-1), 1, [], 0), (.ireturn, 1, [0], 0)]
theorem a_X5_cut_11 : ck mX5_cut b_X5_cut_11 11 = true := by decide +kernel
def b_X5_cut_13 : List Ent := [(.aload_n 0, 1, [], 0), (.getfield 10, 3, [5, 0, 1, 253], 0), (.iload_n 1, 1, [], 0)]
theorem a_X5_cut_13 : ck mX5_cut b_X5_cut_13 13 = true := by decide +kernel
theorem k_X5_cut_18 : CV mX5_cut 18 mX4_isCut := CV.of 158 534 486 487 (by decide +kernel) (by decide +kernel) (by decide +kernel) (by decide +kernel)
def b_X5_cut_21 : List Ent := [(.ifCond .eq 6, 3, [27], 0)]
theorem a_X5_cut_21 : ck mX5_cut b_X5_cut_21 21 = true := by decide +kernel
def b_X5_cut_24 : List Ent := [(.bipush (-3), 2, [], 0), (.ireturn, 1, [0], 0)]
theorem a_X5_cut_24 : ck mX5_cut b_X5_cut_24 24 = true := by decide +kernel
def b_X5_cut_27 : List Ent := [(.aload_n 0, 1, [], 0), (.getfield 10, 3, [5, 0, 1, 253], 0), (.dup, 1, [], 0), (.getfield 128, 3, [4, 6, 0, 111], 0), (.iconst 1, 1, [], 0), (.iload_n 1, 1, [], 0), (.ishl, 1, [], 0), (.ior, 1, [], 0), (.putfield 128, 3, [4, 6, 0, 111], 0), (.aload_n 0, 1, [], 0), (.getfield 10, 3, [5, 0, 1, 253], 0)]
theorem a_X5_cut_27 : ck mX5_cut b_X5_cut_27 27 = true := by decide +kernel
theorem k_X5_cut_46 : CV mX5_cut 46 mX4_survey := CV.of 138 477 478 479 (by decide +kernel) (by decide +kernel) (by decide +kernel) (by decide +kernel)
theorem k_X5_cut_49 : CS mX5_cut 49 mJ6_bitCount_0f7a4 := CS.of 161 535 536 (by decide +kernel) (by decide +kernel) (by decide +kernel)
def b_X5_cut_52 : List Ent := [(.ireturn, 1, [0], 0)]
theorem a_X5_cut_52 : ck mX5_cut b_X5_cut_52 52 = true := by decide +kernel
theorem o_X5_cutFor : MOK mX5_cutFor 1 := MOK.of 637 58 (by decide +kernel) (by decide +kernel) (by decide +kernel) (by decide +kernel) (by decide +kernel)
def b_X5_cutFor_0 : List Ent := [(.iload_n 1, 1, [], 0), (.iconst 1, 1, [], 0), (.bipush 20, 2, [], 0)]
theorem a_X5_cutFor_0 : ck mX5_cutFor b_X5_cutFor_0 0 = true := by decide +kernel
theorem k_X5_cutFor_4 : CS mX5_cutFor 4 mX5_within := CS.of 62 288 289 (by decide +kernel) (by decide +kernel) (by decide +kernel)
def b_X5_cutFor_7 : List Ent := [(.ifCond .ne 5, 3, [12], 0)]
theorem a_X5_cutFor_7 : ck mX5_cutFor b_X5_cutFor_7 7 = true := by decide +kernel
def b_X5_cutFor_10 : List Ent := [(.iconst (-1), 1, [], 0), (.ireturn, 1, [0], 0)]
theorem a_X5_cutFor_10 : ck mX5_cutFor b_X5_cutFor_10 10 = true := by decide +kernel
def b_X5_cutFor_12 : List Ent := [(.aload_n 0, 1, [], 0), (.getfield 10, 3, [5, 0, 1, 253], 0)]
theorem a_X5_cutFor_12 : ck mX5_cutFor b_X5_cutFor_12 12 = true := by decide +kernel
theorem k_X5_cutFor_16 : CV mX5_cutFor 16 mX4_survey := CV.of 138 477 478 479 (by decide +kernel) (by decide +kernel) (by decide +kernel) (by decide +kernel)
def b_X5_cutFor_19 : List Ent := [(.istore_n 2, 1, [], 0), (.aload_n 0, 1, [], 0)]
theorem a_X5_cutFor_19 : ck mX5_cutFor b_X5_cutFor_19 19 = true := by decide +kernel
theorem k_X5_cutFor_21 : CV mX5_cutFor 21 mX5_tryNow := CV.of 182 601 603 0 (by decide +kernel) (by decide +kernel) (by decide +kernel) (by decide +kernel)
def b_X5_cutFor_24 : List Ent := [(.iload_n 1, 1, [], 0)]
theorem a_X5_cutFor_24 : ck mX5_cutFor b_X5_cutFor_24 24 = true := by decide +kernel
theorem k_X5_cutFor_25 : CV mX5_cutFor 25 mX4_passYears := CV.of 173 557 558 559 (by decide +kernel) (by decide +kernel) (by decide +kernel) (by decide +kernel)
def b_X5_cutFor_28 : List Ent := [(.istore_n 3, 1, [], 0), (.bipush (-3), 2, [], 0), (.istore 4, 2, [], 0), (.iconst 0, 1, [], 0), (.istore 5, 2, [], 0)]
theorem a_X5_cutFor_28 : ck mX5_cutFor b_X5_cutFor_28 28 = true := by decide +kernel
def b_X5_cutFor_36 : List Ent := [(.iload 5, 2, [], 0), (.aload_n 0, 1, [], 0), (.getfield 10, 3, [5, 0, 1, 253], 0), (.getfield 87, 3, [4, 7, 0, 114], 0), (.if_icmp .ge 47, 3, [92], 0)]
theorem a_X5_cutFor_36 : ck mX5_cutFor b_X5_cutFor_36 36 = true := by decide +kernel
def b_X5_cutFor_48 : List Ent := [(.iload_n 2, 1, [], 0), (.iload 5, 2, [], 0)]
theorem a_X5_cutFor_48 : ck mX5_cutFor b_X5_cutFor_48 48 = true := by decide +kernel
theorem k_X5_cutFor_51 : CS mX5_cutFor 51 mX5_bit := CS.of 131 474 475 (by decide +kernel) (by decide +kernel) (by decide +kernel)
def b_X5_cutFor_54 : List Ent := [(.iconst 1, 1, [], 0), (.if_icmp .ne 15, 3, [70], 0)]
theorem a_X5_cutFor_54 : ck mX5_cutFor b_X5_cutFor_54 54 = true := by decide +kernel
def b_X5_cutFor_58 : List Ent := [(.aload_n 0, 1, [], 0), (.iconst 1, 1, [], 0), (.iload 5, 2, [], 0), (.ishl, 1, [], 0), (.iload_n 1, 1, [], 0)]
theorem a_X5_cutFor_58 : ck mX5_cutFor b_X5_cutFor_58 58 = true := by decide +kernel
theorem k_X5_cutFor_64 : CV mX5_cutFor 64 mX5_harvestCutting := CV.of 202 638 640 1 (by decide +kernel) (by decide +kernel) (by decide +kernel) (by decide +kernel)
def b_X5_cutFor_67 : List Ent := [(.goto 4, 3, [71], 0)]
theorem a_X5_cutFor_67 : ck mX5_cutFor b_X5_cutFor_67 67 = true := by decide +kernel
def b_X5_cutFor_70 : List Ent := [(.iconst 0, 1, [], 0)]
theorem a_X5_cutFor_70 : ck mX5_cutFor b_X5_cutFor_70 70 = true := by decide +kernel
def b_X5_cutFor_71 : List Ent := [(.istore 6, 2, [], 0), (.iload 6, 2, [], 0), (.iload_n 3, 1, [], 0), (.if_icmp .le 10, 3, [86], 0)]
theorem a_X5_cutFor_71 : ck mX5_cutFor b_X5_cutFor_71 71 = true := by decide +kernel
def b_X5_cutFor_79 : List Ent := [(.iload 6, 2, [], 0), (.istore_n 3, 1, [], 0), (.iload 5, 2, [], 0), (.istore 4, 2, [], 0)]
theorem a_X5_cutFor_79 : ck mX5_cutFor b_X5_cutFor_79 79 = true := by decide +kernel
def b_X5_cutFor_86 : List Ent := [(.iinc 5 1, 3, [], 0), (.goto (-53), 3, [36], 0)]
theorem a_X5_cutFor_86 : ck mX5_cutFor b_X5_cutFor_86 86 = true := by decide +kernel
def b_X5_cutFor_92 : List Ent := [(.iload 4, 2, [], 0), (.ireturn, 1, [0], 0)]
theorem a_X5_cutFor_92 : ck mX5_cutFor b_X5_cutFor_92 92 = true := by decide +kernel
theorem o_X5_cutsFor : MOK mX5_cutsFor 1 := MOK.of 645 58 (by decide +kernel) (by decide +kernel) (by decide +kernel) (by decide +kernel) (by decide +kernel)
def b_X5_cutsFor_0 : List Ent := [(.iload_n 1, 1, [], 0), (.iconst 1, 1, [], 0), (.bipush 10, 2, [], 0)]
theorem a_X5_cutsFor_0 : ck mX5_cutsFor b_X5_cutsFor_0 0 = true := by decide +kernel
theorem k_X5_cutsFor_4 : CS mX5_cutsFor 4 mX5_within := CS.of 62 288 289 (by decide +kernel) (by decide +kernel) (by decide +kernel)
def b_X5_cutsFor_7 : List Ent := [(.ifCond .ne 5, 3, [12], 0)]
theorem a_X5_cutsFor_7 : ck mX5_cutsFor b_X5_cutsFor_7 7 = true := by decide +kernel
def b_X5_cutsFor_10 : List Ent := [(.iconst (-1), 1, [], 0), (.ireturn, 1, [0], 0)]
theorem a_X5_cutsFor_10 : ck mX5_cutsFor b_X5_cutsFor_10 10 = true := by decide +kernel
def b_X5_cutsFor_12 : List Ent := [(.aload_n 0, 1, [], 0), (.getfield 10, 3, [5, 0, 1, 253], 0)]
theorem a_X5_cutsFor_12 : ck mX5_cutsFor b_X5_cutsFor_12 12 = true := by decide +kernel
theorem k_X5_cutsFor_16 : CV mX5_cutsFor 16 mX4_survey := CV.of 138 477 478 479 (by decide +kernel) (by decide +kernel) (by decide +kernel) (by decide +kernel)
def b_X5_cutsFor_19 : List Ent := [(.istore_n 2, 1, [], 0), (.aload_n 0, 1, [], 0)]
theorem a_X5_cutsFor_19 : ck mX5_cutsFor b_X5_cutsFor_19 19 = true := by decide +kernel
theorem k_X5_cutsFor_21 : CV mX5_cutsFor 21 mX5_tryNow := CV.of 182 601 603 0 (by decide +kernel) (by decide +kernel) (by decide +kernel) (by decide +kernel)
def b_X5_cutsFor_24 : List Ent := [(.iload_n 1, 1, [], 0)]
theorem a_X5_cutsFor_24 : ck mX5_cutsFor b_X5_cutsFor_24 24 = true := by decide +kernel
theorem k_X5_cutsFor_25 : CV mX5_cutsFor 25 mX4_passYears := CV.of 173 557 558 559 (by decide +kernel) (by decide +kernel) (by decide +kernel) (by decide +kernel)
def b_X5_cutsFor_28 : List Ent := [(.istore_n 3, 1, [], 0), (.iconst 0, 1, [], 0), (.istore 4, 2, [], 0), (.iconst 1, 1, [], 0), (.istore 5, 2, [], 0)]
theorem a_X5_cutsFor_28 : ck mX5_cutsFor b_X5_cutsFor_28 28 = true := by decide +kernel
def b_X5_cutsFor_35 : List Ent := [(.iload 5, 2, [], 0), (.iconst 1, 1, [], 0), (.aload_n 0, 1, [], 0), (.getfield 10, 3, [5, 0, 1, 253], 0), (.getfield 87, 3, [4, 7, 0, 114], 0), (.ishl, 1, [], 0), (.if_icmp .ge 60, 3, [106], 0)]
theorem a_X5_cutsFor_35 : ck mX5_cutsFor b_X5_cutsFor_35 35 = true := by decide +kernel
def b_X5_cutsFor_49 : List Ent := [(.iload 5, 2, [], 0), (.iload_n 2, 1, [], 0)]
theorem a_X5_cutsFor_49 : ck mX5_cutsFor b_X5_cutsFor_49 49 = true := by decide +kernel
theorem k_X5_cutsFor_52 : CS mX5_cutsFor 52 mX5_isSubset := CS.of 205 646 647 (by decide +kernel) (by decide +kernel) (by decide +kernel)
def b_X5_cutsFor_55 : List Ent := [(.ifCond .eq 13, 3, [68], 0)]
theorem a_X5_cutsFor_55 : ck mX5_cutsFor b_X5_cutsFor_55 55 = true := by decide +kernel
def b_X5_cutsFor_58 : List Ent := [(.aload_n 0, 1, [], 0), (.iload 5, 2, [], 0), (.iload_n 1, 1, [], 0)]
theorem a_X5_cutsFor_58 : ck mX5_cutsFor b_X5_cutsFor_58 58 = true := by decide +kernel
theorem k_X5_cutsFor_62 : CV mX5_cutsFor 62 mX5_harvestCutting := CV.of 202 638 640 1 (by decide +kernel) (by decide +kernel) (by decide +kernel) (by decide +kernel)
def b_X5_cutsFor_65 : List Ent := [(.goto 4, 3, [69], 0)]
theorem a_X5_cutsFor_65 : ck mX5_cutsFor b_X5_cutsFor_65 65 = true := by decide +kernel
def b_X5_cutsFor_68 : List Ent := [(.iconst (-1), 1, [], 0)]
theorem a_X5_cutsFor_68 : ck mX5_cutsFor b_X5_cutsFor_68 68 = true := by decide +kernel
def b_X5_cutsFor_69 : List Ent := [(.istore 6, 2, [], 0), (.iload 6, 2, [], 0), (.iload_n 3, 1, [], 0), (.if_icmp .gt 19, 3, [93], 0)]
theorem a_X5_cutsFor_69 : ck mX5_cutsFor b_X5_cutsFor_69 69 = true := by decide +kernel
def b_X5_cutsFor_77 : List Ent := [(.iload 6, 2, [], 0), (.iload_n 3, 1, [], 0), (.if_icmp .ne 20, 3, [100], 0)]
theorem a_X5_cutsFor_77 : ck mX5_cutsFor b_X5_cutsFor_77 77 = true := by decide +kernel
def b_X5_cutsFor_83 : List Ent := [(.iload 5, 2, [], 0), (.iload 4, 2, [], 0)]
theorem a_X5_cutsFor_83 : ck mX5_cutsFor b_X5_cutsFor_83 83 = true := by decide +kernel
theorem k_X5_cutsFor_87 : CS mX5_cutsFor 87 mX5_isFewer := CS.of 209 649 650 (by decide +kernel) (by decide +kernel) (by decide +kernel)
def b_X5_cutsFor_90 : List Ent := [(.ifCond .eq 10, 3, [100], 0)]
theorem a_X5_cutsFor_90 : ck mX5_cutsFor b_X5_cutsFor_90 90 = true := by decide +kernel
def b_X5_cutsFor_93 : List Ent := [(.iload 6, 2, [], 0), (.istore_n 3, 1, [], 0), (.iload 5, 2, [], 0), (.istore 4, 2, [], 0)]
theorem a_X5_cutsFor_93 : ck mX5_cutsFor b_X5_cutsFor_93 93 = true := by decide +kernel
def b_X5_cutsFor_100 : List Ent := [(.iinc 5 1, 3, [], 0), (.goto (-68), 3, [35], 0)]
theorem a_X5_cutsFor_100 : ck mX5_cutsFor b_X5_cutsFor_100 100 = true := by decide +kernel
def b_X5_cutsFor_106 : List Ent := [(.iload 4, 2, [], 0), (.ireturn, 1, [0], 0)]
theorem a_X5_cutsFor_106 : ck mX5_cutsFor b_X5_cutsFor_106 106 = true := by decide +kernel
theorem o_X5_does : MOK mX5_does 2 := MOK.of 500 58 (by decide +kernel) (by decide +kernel) (by decide +kernel) (by decide +kernel) (by decide +kernel)
def b_X5_does_0 : List Ent := [(.aload_n 0, 1, [], 0), (.getfield 10, 3, [5, 0, 1, 253], 0), (.iload_n 1, 1, [], 0)]
theorem a_X5_does_0 : ck mX5_does b_X5_does_0 0 = true := by decide +kernel
theorem k_X5_does_5 : CV mX5_does 5 mX4_has := CV.of 113 469 470 471 (by decide +kernel) (by decide +kernel) (by decide +kernel) (by decide +kernel)
def b_X5_does_8 : List Ent := [(.ifCond .ne 5, 3, [13], 0)]
theorem a_X5_does_8 : ck mX5_does b_X5_does_8 8 = true := by decide +kernel
def b_X5_does_11 : List Ent := [(.iconst (-1), 1, [], 0), (.ireturn, 1, [0], 0)]
theorem a_X5_does_11 : ck mX5_does b_X5_does_11 11 = true := by decide +kernel
def b_X5_does_13 : List Ent := [(.aload_n 0, 1, [], 0), (.getfield 10, 3, [5, 0, 1, 253], 0)]
theorem a_X5_does_13 : ck mX5_does b_X5_does_13 13 = true := by decide +kernel
theorem k_X5_does_17 : CV mX5_does 17 mX4_survey := CV.of 138 477 478 479 (by decide +kernel) (by decide +kernel) (by decide +kernel) (by decide +kernel)
def b_X5_does_20 : List Ent := [(.pop, 1, [], 0), (.iload_n 2, 1, [], 0), (.tableswitch 65 0 2 #[26, 39, 52], 26, [87, 48, 61, 74], 0)]
theorem a_X5_does_20 : ck mX5_does b_X5_does_20 20 = true := by decide +kernel
def b_X5_does_48 : List Ent := [(.sipush 1000, 3, [], 0), (.aload_n 0, 1, [], 0), (.getfield 10, 3, [5, 0, 1, 253], 0), (.iload_n 1, 1, [], 0)]
theorem a_X5_does_48 : ck mX5_does b_X5_does_48 48 = true := by decide +kernel
theorem k_X5_does_56 : CV mX5_does 56 mX4_hinders := CV.of 146 501 490 491 (by decide +kernel) (by decide +kernel) (by decide +kernel) (by decide +kernel)
def b_X5_does_59 : List Ent := [(.iadd, 1, [], 0), (.ireturn, 1, [0], 0)]
theorem a_X5_does_59 : ck mX5_does b_X5_does_59 59 = true := by decide +kernel
def b_X5_does_61 : List Ent := [(.sipush 1000, 3, [], 0), (.aload_n 0, 1, [], 0), (.getfield 10, 3, [5, 0, 1, 253], 0), (.iload_n 1, 1, [], 0)]
theorem a_X5_does_61 : ck mX5_does b_X5_does_61 61 = true := by decide +kernel
theorem k_X5_does_69 : CV mX5_does 69 mX4_bears := CV.of 149 502 503 504 (by decide +kernel) (by decide +kernel) (by decide +kernel) (by decide +kernel)
def b_X5_does_72 : List Ent := [(.iadd, 1, [], 0), (.ireturn, 1, [0], 0)]
theorem a_X5_does_72 : ck mX5_does b_X5_does_72 72 = true := by decide +kernel
def b_X5_does_74 : List Ent := [(.sipush 1000, 3, [], 0), (.aload_n 0, 1, [], 0), (.getfield 10, 3, [5, 0, 1, 253], 0), (.iload_n 1, 1, [], 0)]
theorem a_X5_does_74 : ck mX5_does b_X5_does_74 74 = true := by decide +kernel
theorem k_X5_does_82 : CV mX5_does 82 mX4_gains := CV.of 152 506 507 508 (by decide +kernel) (by decide +kernel) (by decide +kernel) (by decide +kernel)
def b_X5_does_85 : List Ent := [(.iadd, 1, [], 0), (.ireturn, 1, [0], 0)]
theorem a_X5_does_85 : ck mX5_does b_X5_does_85 85 = true := by decide +kernel
def b_X5_does_87 : List Ent := [(.iconst (-1), 1, [], 0), (.ireturn, 1, [0], 0)]
theorem a_X5_does_87 : ck mX5_does b_X5_does_87 87 = true := by decide +kernel
theorem o_X5_feed : MOK mX5_feed 2 := MOK.of 287 58 (by decide +kernel) (by decide +kernel) (by decide +kernel) (by decide +kernel) (by decide +kernel)
def b_X5_feed_0 : List Ent := [(.iload_n 3, 1, [], 0), (.iconst 1, 1, [], 0), (.bipush 8, 2, [], 0)]
theorem a_X5_feed_0 : ck mX5_feed b_X5_feed_0 0 = true := by decide +kernel
theorem k_X5_feed_4 : CS mX5_feed 4 mX5_within := CS.of 62 288 289 (by decide +kernel) (by decide +kernel) (by decide +kernel)
def b_X5_feed_7 : List Ent := [(.ifCond .ne 5, 3, [12], 0)]
theorem a_X5_feed_7 : ck mX5_feed b_X5_feed_7 7 = true := by decide +kernel
def b_X5_feed_10 : List Ent := [(.iconst (-1), 1, [], 0), (.ireturn, 1, [0], 0)]
theorem a_X5_feed_10 : ck mX5_feed b_X5_feed_10 10 = true := by decide +kernel
def b_X5_feed_12 : List Ent := [(.aload_n 0, 1, [], 0), (.getfield 29, 3, [5, 4, 28, 257], 0), (.getfield 66, 3, [3, 1, 0, 163], 0), (.iload_n 3, 1, [], 0), (.iadd, 1, [], 0), (.sipush 200, 3, [], 0), (.if_icmp .le 6, 3, [30], 0)]
theorem a_X5_feed_12 : ck mX5_feed b_X5_feed_12 12 = true := by decide +kernel
def b_X5_feed_27 : List Ent := [(.bipush (-2), 2, [], 0), (.ireturn, 1, [0], 0)]
theorem a_X5_feed_27 : ck mX5_feed b_X5_feed_27 27 = true := by decide +kernel
def b_X5_feed_30 : List Ent := [(.aload_n 0, 1, [], 0), (.getfield 29, 3, [5, 4, 28, 257], 0), (.lload_n 1, 1, [], 0), (.iload_n 3, 1, [], 0)]
theorem a_X5_feed_30 : ck mX5_feed b_X5_feed_30 30 = true := by decide +kernel
theorem k_X5_feed_36 : CV mX5_feed 36 mX3_append := CV.of 69 291 292 293 (by decide +kernel) (by decide +kernel) (by decide +kernel) (by decide +kernel)
def b_X5_feed_39 : List Ent := [(.aload_n 0, 1, [], 0), (.getfield 29, 3, [5, 4, 28, 257], 0), (.getfield 66, 3, [3, 1, 0, 163], 0), (.ireturn, 1, [0], 0)]
theorem a_X5_feed_39 : ck mX5_feed b_X5_feed_39 39 = true := by decide +kernel
theorem o_X5_fits : MOK mX5_fits 3 := MOK.of 675 58 (by decide +kernel) (by decide +kernel) (by decide +kernel) (by decide +kernel) (by decide +kernel)
def b_X5_fits_0 : List Ent := [(.aload_n 0, 1, [], 0), (.getfield 44, 3, [5, 7, 31, 260], 0), (.iload_n 1, 1, [], 0)]
theorem a_X5_fits_0 : ck mX5_fits b_X5_fits_0 0 = true := by decide +kernel
theorem k_X5_fits_5 : CV mX5_fits 5 mX1_has := CV.of 215 676 677 678 (by decide +kernel) (by decide +kernel) (by decide +kernel) (by decide +kernel)
def b_X5_fits_8 : List Ent := [(.ifCond .eq 23, 3, [31], 0)]
theorem a_X5_fits_8 : ck mX5_fits b_X5_fits_8 8 = true := by decide +kernel
def b_X5_fits_11 : List Ent := [(.aload_n 0, 1, [], 0), (.getfield 10, 3, [5, 0, 1, 253], 0), (.iload_n 2, 1, [], 0)]
theorem a_X5_fits_11 : ck mX5_fits b_X5_fits_11 11 = true := by decide +kernel
theorem k_X5_fits_16 : CV mX5_fits 16 mX4_has := CV.of 113 469 470 471 (by decide +kernel) (by decide +kernel) (by decide +kernel) (by decide +kernel)
def b_X5_fits_19 : List Ent := [(.ifCond .eq 12, 3, [31], 0)]
theorem a_X5_fits_19 : ck mX5_fits b_X5_fits_19 19 = true := by decide +kernel
def b_X5_fits_22 : List Ent := [(.iload_n 3, 1, [], 0), (.iconst 0, 1, [], 0), (.iconst 1, 1, [], 0)]
theorem a_X5_fits_22 : ck mX5_fits b_X5_fits_22 22 = true := by decide +kernel
theorem k_X5_fits_25 : CS mX5_fits 25 mX5_within := CS.of 62 288 289 (by decide +kernel) (by decide +kernel) (by decide +kernel)
def b_X5_fits_28 : List Ent := [(.ifCond .ne 5, 3, [33], 0)]
theorem a_X5_fits_28 : ck mX5_fits b_X5_fits_28 28 = true := by decide +kernel
def b_X5_fits_31 : List Ent := [(.iconst (-1), 1, [], 0), (.ireturn, 1, [0], 0)]
theorem a_X5_fits_31 : ck mX5_fits b_X5_fits_31 31 = true := by decide +kernel
def b_X5_fits_33 : List Ent := [(.aload_n 0, 1, [], 0), (.getfield 44, 3, [5, 7, 31, 260], 0), (.iload_n 1, 1, [], 0)]
theorem a_X5_fits_33 : ck mX5_fits b_X5_fits_33 33 = true := by decide +kernel
theorem k_X5_fits_38 : CV mX5_fits 38 mX1_isMissing := CV.of 216 681 682 683 (by decide +kernel) (by decide +kernel) (by decide +kernel) (by decide +kernel)
def b_X5_fits_41 : List Ent := [(.ifCond .eq 6, 3, [47], 0)]
theorem a_X5_fits_41 : ck mX5_fits b_X5_fits_41 41 = true := by decide +kernel
def b_X5_fits_44 : List Ent := [(.bipush (-11), 2, [], 0), (.ireturn, 1, [0], 0)]
theorem a_X5_fits_44 : ck mX5_fits b_X5_fits_44 44 = true := by decide +kernel
def b_X5_fits_47 : List Ent := [(.iconst 0, 1, [], 0), (.istore 4, 2, [], 0), (.bipush (-3), 2, [], 0), (.istore 5, 2, [], 0), (.bipush 9, 2, [], 0), (.istore 6, 2, [], 0)]
theorem a_X5_fits_47 : ck mX5_fits b_X5_fits_47 47 = true := by decide +kernel
def b_X5_fits_58 : List Ent := [(.iload 6, 2, [], 0), (.ifCond .lt 27, 3, [87], 0)]
theorem a_X5_fits_58 : ck mX5_fits b_X5_fits_58 58 = true := by decide +kernel
def b_X5_fits_63 : List Ent := [(.aload_n 0, 1, [], 0), (.iload_n 1, 1, [], 0), (.iload_n 2, 1, [], 0), (.iload 6, 2, [], 0)]
theorem a_X5_fits_63 : ck mX5_fits b_X5_fits_63 63 = true := by decide +kernel
theorem k_X5_fits_68 : CV mX5_fits 68 mX5_isFitting := CV.of 219 685 687 3 (by decide +kernel) (by decide +kernel) (by decide +kernel) (by decide +kernel)
def b_X5_fits_71 : List Ent := [(.ifCond .eq 10, 3, [81], 0)]
theorem a_X5_fits_71 : ck mX5_fits b_X5_fits_71 71 = true := by decide +kernel
def b_X5_fits_74 : List Ent := [(.iinc 4 1, 3, [], 0), (.iload 6, 2, [], 0), (.istore 5, 2, [], 0)]
theorem a_X5_fits_74 : ck mX5_fits b_X5_fits_74 74 = true := by decide +kernel
def b_X5_fits_81 : List Ent := [(.iinc 6 (-1), 3, [], 0), (.goto (-26), 3, [58], 0)]
theorem a_X5_fits_81 : ck mX5_fits b_X5_fits_81 81 = true := by decide +kernel
def b_X5_fits_87 : List Ent := [(.iload_n 3, 1, [], 0), (.ifCond .ne 8, 3, [96], 0)]
theorem a_X5_fits_87 : ck mX5_fits b_X5_fits_87 87 = true := by decide +kernel
def b_X5_fits_91 : List Ent := [(.iload 4, 2, [], 0), (.goto 5, 3, [98], 0)]
theorem a_X5_fits_91 : ck mX5_fits b_X5_fits_91 91 = true := by decide +kernel
def b_X5_fits_96 : List Ent := [(.iload 5, 2, [], 0)]
theorem a_X5_fits_96 : ck mX5_fits b_X5_fits_96 96 = true := by decide +kernel
def b_X5_fits_98 : List Ent := [(.ireturn, 1, [0], 0)]
theorem a_X5_fits_98 : ck mX5_fits b_X5_fits_98 98 = true := by decide +kernel
theorem o_X5_forceFor : MOK mX5_forceFor 3 := MOK.of 659 58 (by decide +kernel) (by decide +kernel) (by decide +kernel) (by decide +kernel) (by decide +kernel)
def b_X5_forceFor_0 : List Ent := [(.aload_n 0, 1, [], 0), (.getfield 10, 3, [5, 0, 1, 253], 0), (.iload_n 1, 1, [], 0)]
theorem a_X5_forceFor_0 : ck mX5_forceFor b_X5_forceFor_0 0 = true := by decide +kernel
theorem k_X5_forceFor_5 : CV mX5_forceFor 5 mX4_has := CV.of 113 469 470 471 (by decide +kernel) (by decide +kernel) (by decide +kernel) (by decide +kernel)
def b_X5_forceFor_8 : List Ent := [(.ifCond .eq 24, 3, [32], 0)]
theorem a_X5_forceFor_8 : ck mX5_forceFor b_X5_forceFor_8 8 = true := by decide +kernel
def b_X5_forceFor_11 : List Ent := [(.iload_n 2, 1, [], 0), (.iconst 1, 1, [], 0), (.bipush 20, 2, [], 0)]
theorem a_X5_forceFor_11 : ck mX5_forceFor b_X5_forceFor_11 11 = true := by decide +kernel
theorem k_X5_forceFor_15 : CS mX5_forceFor 15 mX5_within := CS.of 62 288 289 (by decide +kernel) (by decide +kernel) (by decide +kernel)
def b_X5_forceFor_18 : List Ent := [(.ifCond .eq 14, 3, [32], 0)]
theorem a_X5_forceFor_18 : ck mX5_forceFor b_X5_forceFor_18 18 = true := by decide +kernel
def b_X5_forceFor_21 : List Ent := [(.iload_n 3, 1, [], 0), (.iconst 0, 1, [], 0), (.sipush 9999, 3, [], 0)]
theorem a_X5_forceFor_21 : ck mX5_forceFor b_X5_forceFor_21 21 = true := by decide +kernel
theorem k_X5_forceFor_26 : CS mX5_forceFor 26 mX5_within := CS.of 62 288 289 (by decide +kernel) (by decide +kernel) (by decide +kernel)
def b_X5_forceFor_29 : List Ent := [(.ifCond .ne 5, 3, [34], 0)]
theorem a_X5_forceFor_29 : ck mX5_forceFor b_X5_forceFor_29 29 = true := by decide +kernel
def b_X5_forceFor_32 : List Ent := [(.iconst (-1), 1, [], 0), (.ireturn, 1, [0], 0)]
theorem a_X5_forceFor_32 : ck mX5_forceFor b_X5_forceFor_32 32 = true := by decide +kernel
def b_X5_forceFor_34 : List Ent := [(.iconst 0, 1, [], 0), (.istore 4, 2, [], 0)]
theorem a_X5_forceFor_34 : ck mX5_forceFor b_X5_forceFor_34 34 = true := by decide +kernel
def b_X5_forceFor_37 : List Ent := [(.iload 4, 2, [], 0), (.bipush 9, 2, [], 0), (.if_icmp .gt 35, 3, [76], 0)]
theorem a_X5_forceFor_37 : ck mX5_forceFor b_X5_forceFor_37 37 = true := by decide +kernel
def b_X5_forceFor_44 : List Ent := [(.aload_n 0, 1, [], 0)]
theorem a_X5_forceFor_44 : ck mX5_forceFor b_X5_forceFor_44 44 = true := by decide +kernel
theorem k_X5_forceFor_45 : CV mX5_forceFor 45 mX5_tryNow := CV.of 182 601 603 0 (by decide +kernel) (by decide +kernel) (by decide +kernel) (by decide +kernel)
def b_X5_forceFor_48 : List Ent := [(.getfield 122, 3, [4, 3, 4, 104], 0), (.iload_n 1, 1, [], 0), (.iload 4, 2, [], 0), (.iastore, 1, [], 0), (.aload_n 0, 1, [], 0), (.getfield 16, 3, [5, 1, 10, 254], 0), (.iload_n 2, 1, [], 0)]
theorem a_X5_forceFor_48 : ck mX5_forceFor b_X5_forceFor_48 48 = true := by decide +kernel
theorem k_X5_forceFor_60 : CV mX5_forceFor 60 mX4_passYears := CV.of 173 557 558 559 (by decide +kernel) (by decide +kernel) (by decide +kernel) (by decide +kernel)
def b_X5_forceFor_63 : List Ent := [(.iload_n 3, 1, [], 0), (.if_icmp .lt 6, 3, [70], 0)]
theorem a_X5_forceFor_63 : ck mX5_forceFor b_X5_forceFor_63 63 = true := by decide +kernel
def b_X5_forceFor_67 : List Ent := [(.iload 4, 2, [], 0), (.ireturn, 1, [0], 0)]
theorem a_X5_forceFor_67 : ck mX5_forceFor b_X5_forceFor_67 67 = true := by decide +kernel
def b_X5_forceFor_70 : List Ent := [(.iinc 4 1, 3, [], 0), (.goto (-36), 3, [37], 0)]
theorem a_X5_forceFor_70 : ck mX5_forceFor b_X5_forceFor_70 70 = true := by decide +kernel
def b_X5_forceFor_76 : List Ent := [(.bipush (-3), 2, [], 0), (.ireturn, 1, [0], 0)]
theorem a_X5_forceFor_76 : ck mX5_forceFor b_X5_forceFor_76 76 = true := by decide +kernel
theorem o_X5_freeFor : MOK mX5_freeFor 2 := MOK.of 667 58 (by decide +kernel) (by decide +kernel) (by decide +kernel) (by decide +kernel) (by decide +kernel)
def b_X5_freeFor_0 : List Ent := [(.aload_n 0, 1, [], 0), (.getfield 10, 3, [5, 0, 1, 253], 0), (.iload_n 1, 1, [], 0)]
theorem a_X5_freeFor_0 : ck mX5_freeFor b_X5_freeFor_0 0 = true := by decide +kernel
theorem k_X5_freeFor_5 : CV mX5_freeFor 5 mX4_has := CV.of 113 469 470 471 (by decide +kernel) (by decide +kernel) (by decide +kernel) (by decide +kernel)
def b_X5_freeFor_8 : List Ent := [(.ifCond .eq 13, 3, [21], 0)]
theorem a_X5_freeFor_8 : ck mX5_freeFor b_X5_freeFor_8 8 = true := by decide +kernel
def b_X5_freeFor_11 : List Ent := [(.iload_n 2, 1, [], 0), (.iconst 0, 1, [], 0), (.bipush 99, 2, [], 0)]
theorem a_X5_freeFor_11 : ck mX5_freeFor b_X5_freeFor_11 11 = true := by decide +kernel
theorem k_X5_freeFor_15 : CS mX5_freeFor 15 mX5_within := CS.of 62 288 289 (by decide +kernel) (by decide +kernel) (by decide +kernel)
def b_X5_freeFor_18 : List Ent := [(.ifCond .ne 5, 3, [23], 0)]
theorem a_X5_freeFor_18 : ck mX5_freeFor b_X5_freeFor_18 18 = true := by decide +kernel
def b_X5_freeFor_21 : List Ent := [(.iconst (-1), 1, [], 0), (.ireturn, 1, [0], 0)]
theorem a_X5_freeFor_21 : ck mX5_freeFor b_X5_freeFor_21 21 = true := by decide +kernel
def b_X5_freeFor_23 : List Ent := [(.aload_n 0, 1, [], 0), (.getfield 10, 3, [5, 0, 1, 253], 0)]
theorem a_X5_freeFor_23 : ck mX5_freeFor b_X5_freeFor_23 23 = true := by decide +kernel
theorem k_X5_freeFor_27 : CV mX5_freeFor 27 mX4_survey := CV.of 138 477 478 479 (by decide +kernel) (by decide +kernel) (by decide +kernel) (by decide +kernel)
def b_X5_freeFor_30 : List Ent := [(.istore_n 3, 1, [], 0), (.iload_n 3, 1, [], 0), (.iload_n 1, 1, [], 0)]
theorem a_X5_freeFor_30 : ck mX5_freeFor b_X5_freeFor_30 30 = true := by decide +kernel
theorem k_X5_freeFor_33 : CS mX5_freeFor 33 mX5_bit := CS.of 131 474 475 (by decide +kernel) (by decide +kernel) (by decide +kernel)
def b_X5_freeFor_36 : List Ent := [(.ifCond .ne 6, 3, [42], 0)]
theorem a_X5_freeFor_36 : ck mX5_freeFor b_X5_freeFor_36 36 = true := by decide +kernel
def b_X5_freeFor_39 : List Ent := [(.bipush (-3), 2, [], 0), (.ireturn, 1, [0], 0)]
theorem a_X5_freeFor_39 : ck mX5_freeFor b_X5_freeFor_39 39 = true := by decide +kernel
def b_X5_freeFor_42 : List Ent := [(.iload_n 3, 1, [], 0), (.iconst 1, 1, [], 0), (.iload_n 1, 1, [], 0), (.ishl, 1, [], 0), (.iconst (-1), 1, [], 0), (.ixor, 1, [], 0), (.iand, 1, [], 0), (.istore 4, 2, [], 0), (.bipush (-3), 2, [], 0), (.istore 5, 2, [], 0), (.iconst 0, 1, [], 0), (.istore 6, 2, [], 0)]
theorem a_X5_freeFor_42 : ck mX5_freeFor b_X5_freeFor_42 42 = true := by decide +kernel
def b_X5_freeFor_58 : List Ent := [(.iload 6, 2, [], 0), (.iconst 1, 1, [], 0), (.aload_n 0, 1, [], 0), (.getfield 10, 3, [5, 0, 1, 253], 0), (.getfield 87, 3, [4, 7, 0, 114], 0), (.ishl, 1, [], 0), (.if_icmp .ge 63, 3, [132], 0)]
theorem a_X5_freeFor_58 : ck mX5_freeFor b_X5_freeFor_58 58 = true := by decide +kernel
def b_X5_freeFor_72 : List Ent := [(.iload 6, 2, [], 0), (.iload 4, 2, [], 0)]
theorem a_X5_freeFor_72 : ck mX5_freeFor b_X5_freeFor_72 72 = true := by decide +kernel
theorem k_X5_freeFor_76 : CS mX5_freeFor 76 mX5_isSubset := CS.of 205 646 647 (by decide +kernel) (by decide +kernel) (by decide +kernel)
def b_X5_freeFor_79 : List Ent := [(.ifCond .eq 24, 3, [103], 0)]
theorem a_X5_freeFor_79 : ck mX5_freeFor b_X5_freeFor_79 79 = true := by decide +kernel
def b_X5_freeFor_82 : List Ent := [(.iload 5, 2, [], 0), (.bipush (-3), 2, [], 0), (.if_icmp .eq 13, 3, [99], 0)]
theorem a_X5_freeFor_82 : ck mX5_freeFor b_X5_freeFor_82 82 = true := by decide +kernel
def b_X5_freeFor_89 : List Ent := [(.iload 6, 2, [], 0), (.iload 5, 2, [], 0)]
theorem a_X5_freeFor_89 : ck mX5_freeFor b_X5_freeFor_89 89 = true := by decide +kernel
theorem k_X5_freeFor_93 : CS mX5_freeFor 93 mX5_isFewer := CS.of 209 649 650 (by decide +kernel) (by decide +kernel) (by decide +kernel)
def b_X5_freeFor_96 : List Ent := [(.ifCond .eq 7, 3, [103], 0)]
theorem a_X5_freeFor_96 : ck mX5_freeFor b_X5_freeFor_96 96 = true := by decide +kernel
def b_X5_freeFor_99 : List Ent := [(.iconst 1, 1, [], 0), (.goto 4, 3, [104], 0)]
theorem a_X5_freeFor_99 : ck mX5_freeFor b_X5_freeFor_99 99 = true := by decide +kernel
def b_X5_freeFor_103 : List Ent := [(.iconst 0, 1, [], 0)]
theorem a_X5_freeFor_103 : ck mX5_freeFor b_X5_freeFor_103 103 = true := by decide +kernel
def b_X5_freeFor_104 : List Ent := [(.istore 7, 2, [], 0), (.iload 7, 2, [], 0), (.ifCond .eq 18, 3, [126], 0)]
theorem a_X5_freeFor_104 : ck mX5_freeFor b_X5_freeFor_104 104 = true := by decide +kernel
def b_X5_freeFor_111 : List Ent := [(.aload_n 0, 1, [], 0), (.iload 6, 2, [], 0), (.iload_n 1, 1, [], 0), (.iload_n 2, 1, [], 0)]
theorem a_X5_freeFor_111 : ck mX5_freeFor b_X5_freeFor_111 111 = true := by decide +kernel
theorem k_X5_freeFor_116 : CV mX5_freeFor 116 mX5_isFreeBy := CV.of 212 668 670 2 (by decide +kernel) (by decide +kernel) (by decide +kernel) (by decide +kernel)
def b_X5_freeFor_119 : List Ent := [(.ifCond .eq 7, 3, [126], 0)]
theorem a_X5_freeFor_119 : ck mX5_freeFor b_X5_freeFor_119 119 = true := by decide +kernel
def b_X5_freeFor_122 : List Ent := [(.iload 6, 2, [], 0), (.istore 5, 2, [], 0)]
theorem a_X5_freeFor_122 : ck mX5_freeFor b_X5_freeFor_122 122 = true := by decide +kernel
def b_X5_freeFor_126 : List Ent := [(.iinc 6 1, 3, [], 0), (.goto (-71), 3, [58], 0)]
theorem a_X5_freeFor_126 : ck mX5_freeFor b_X5_freeFor_126 126 = true := by decide +kernel
def b_X5_freeFor_132 : List Ent := [(.iload 5, 2, [], 0), (.ireturn, 1, [0], 0)]
theorem a_X5_freeFor_132 : ck mX5_freeFor b_X5_freeFor_132 132 = true := by decide +kernel
theorem o_X5_graft : MOK mX5_graft 2 := MOK.of 529 58 (by decide +kernel) (by decide +kernel) (by decide +kernel) (by decide +kernel) (by decide +kernel)
def b_X5_graft_0 : List Ent := [(.aload_n 0, 1, [], 0), (.getfield 10, 3, [5, 0, 1, 253], 0), (.iload_n 1, 1, [], 0)]
theorem a_X5_graft_0 : ck mX5_graft b_X5_graft_0 0 = true := by decide +kernel
theorem k_X5_graft_5 : CV mX5_graft 5 mX4_has := CV.of 113 469 470 471 (by decide +kernel) (by decide +kernel) (by decide +kernel) (by decide +kernel)
def b_X5_graft_8 : List Ent := [(.ifCond .eq 12, 3, [20], 0)]
theorem a_X5_graft_8 : ck mX5_graft b_X5_graft_8 8 = true := by decide +kernel
def b_X5_graft_11 : List Ent := [(.iload_n 2, 1, [], 0), (.iconst 0, 1, [], 0), (.iload_n 1, 1, [], 0)]
theorem a_X5_graft_11 : ck mX5_graft b_X5_graft_11 11 = true := by decide +kernel
theorem k_X5_graft_14 : CS mX5_graft 14 mX5_within := CS.of 62 288 289 (by decide +kernel) (by decide +kernel) (by decide +kernel)
def b_X5_graft_17 : List Ent := [(.ifCond .ne 5, 3, [22], 0)]
theorem a_X5_graft_17 : ck mX5_graft b_X5_graft_17 17 = true := by decide +kernel
def b_X5_graft_20 : List Ent := [(.iconst (-1), 1, [], 0), (.ireturn, 1, [0], 0)]
theorem a_X5_graft_20 : ck mX5_graft b_X5_graft_20 20 = true := by decide +kernel
def b_X5_graft_22 : List Ent := [(.aload_n 0, 1, [], 0), (.getfield 10, 3, [5, 0, 1, 253], 0), (.getfield 119, 3, [4, 2, 3, 102], 0), (.iload_n 1, 1, [], 0), (.iaload, 1, [7], 0), (.istore_n 3, 1, [], 0), (.aload_n 0, 1, [], 0), (.getfield 10, 3, [5, 0, 1, 253], 0), (.getfield 119, 3, [4, 2, 3, 102], 0), (.iload_n 1, 1, [], 0), (.iload_n 2, 1, [], 0), (.iastore, 1, [], 0), (.iload_n 3, 1, [], 0), (.ireturn, 1, [0], 0)]
theorem a_X5_graft_22 : ck mX5_graft b_X5_graft_22 22 = true := by decide +kernel
theorem o_X5_harvest : MOK mX5_harvest 1 := MOK.of 620 58 (by decide +kernel) (by decide +kernel) (by decide +kernel) (by decide +kernel) (by decide +kernel)
def b_X5_harvest_0 : List Ent := [(.iload_n 1, 1, [], 0), (.iconst 0, 1, [], 0), (.bipush 60, 2, [], 0)]
theorem a_X5_harvest_0 : ck mX5_harvest b_X5_harvest_0 0 = true := by decide +kernel
theorem k_X5_harvest_4 : CS mX5_harvest 4 mX5_within := CS.of 62 288 289 (by decide +kernel) (by decide +kernel) (by decide +kernel)
def b_X5_harvest_7 : List Ent := [(.ifCond .eq 14, 3, [21], 0)]
theorem a_X5_harvest_7 : ck mX5_harvest b_X5_harvest_7 7 = true := by decide +kernel
def b_X5_harvest_10 : List Ent := [(.aload_n 0, 1, [], 0)]
theorem a_X5_harvest_10 : ck mX5_harvest b_X5_harvest_10 10 = true := by decide +kernel
theorem k_X5_harvest_11 : CV mX5_harvest 11 mX5_tryNow := CV.of 182 601 603 0 (by decide +kernel) (by decide +kernel) (by decide +kernel) (by decide +kernel)
def b_X5_harvest_14 : List Ent := [(.iload_n 1, 1, [], 0)]
theorem a_X5_harvest_14 : ck mX5_harvest b_X5_harvest_14 14 = true := by decide +kernel
theorem k_X5_harvest_15 : CV mX5_harvest 15 mX4_passYears := CV.of 173 557 558 559 (by decide +kernel) (by decide +kernel) (by decide +kernel) (by decide +kernel)
def b_X5_harvest_18 : List Ent := [(.goto 4, 3, [22], 0)]
theorem a_X5_harvest_18 : ck mX5_harvest b_X5_harvest_18 18 = true := by decide +kernel
def b_X5_harvest_21 : List Ent := [(.iconst (-1), 1, [], 0)]
theorem a_X5_harvest_21 : ck mX5_harvest b_X5_harvest_21 21 = true := by decide +kernel
def b_X5_harvest_22 : List Ent := [(.ireturn, 1, [0], 0)]
theorem a_X5_harvest_22 : ck mX5_harvest b_X5_harvest_22 22 = true := by decide +kernel
theorem o_X5_harvestCutting : MOK mX5_harvestCutting 2 := MOK.of 641 58 (by decide +kernel) (by decide +kernel) (by decide +kernel) (by decide +kernel) (by decide +kernel)
def b_X5_harvestCutting_0 : List Ent := [(.aload_n 0, 1, [], 0)]
theorem a_X5_harvestCutting_0 : ck mX5_harvestCutting b_X5_harvestCutting_0 0 = true := by decide +kernel
theorem k_X5_harvestCutting_1 : CV mX5_harvestCutting 1 mX5_tryNow := CV.of 182 601 603 0 (by decide +kernel) (by decide +kernel) (by decide +kernel) (by decide +kernel)
def b_X5_harvestCutting_4 : List Ent := [(.dup, 1, [], 0), (.getfield 128, 3, [4, 6, 0, 111], 0), (.iload_n 1, 1, [], 0), (.ior, 1, [], 0), (.putfield 128, 3, [4, 6, 0, 111], 0), (.aload_n 0, 1, [], 0), (.getfield 16, 3, [5, 1, 10, 254], 0), (.iload_n 2, 1, [], 0)]
theorem a_X5_harvestCutting_4 : ck mX5_harvestCutting b_X5_harvestCutting_4 4 = true := by decide +kernel
theorem k_X5_harvestCutting_18 : CV mX5_harvestCutting 18 mX4_passYears := CV.of 173 557 558 559 (by decide +kernel) (by decide +kernel) (by decide +kernel) (by decide +kernel)
def b_X5_harvestCutting_21 : List Ent := [(.ireturn, 1, [0], 0)]
theorem a_X5_harvestCutting_21 : ck mX5_harvestCutting b_X5_harvestCutting_21 21 = true := by decide +kernel
theorem o_X5_hasRow : MOK mX5_hasRow 2 := MOK.of 722 58 (by decide +kernel) (by decide +kernel) (by decide +kernel) (by decide +kernel) (by decide +kernel)
def b_X5_hasRow_0 : List Ent := [(.iload_n 1, 1, [], 0), (.iconst 0, 1, [], 0), (.aload_n 0, 1, [], 0), (.getfield 37, 3, [5, 6, 0, 259], 0), (.iconst 1, 1, [], 0), (.isub, 1, [], 0)]
theorem a_X5_hasRow_0 : ck mX5_hasRow b_X5_hasRow_0 0 = true := by decide +kernel
theorem k_X5_hasRow_8 : CS mX5_hasRow 8 mX5_within := CS.of 62 288 289 (by decide +kernel) (by decide +kernel) (by decide +kernel)
def b_X5_hasRow_11 : List Ent := [(.ifCond .eq 16, 3, [27], 0)]
theorem a_X5_hasRow_11 : ck mX5_hasRow b_X5_hasRow_11 11 = true := by decide +kernel
def b_X5_hasRow_14 : List Ent := [(.iload_n 2, 1, [], 0), (.iconst 0, 1, [], 0), (.iconst 2, 1, [], 0)]
theorem a_X5_hasRow_14 : ck mX5_hasRow b_X5_hasRow_14 14 = true := by decide +kernel
theorem k_X5_hasRow_17 : CS mX5_hasRow 17 mX5_within := CS.of 62 288 289 (by decide +kernel) (by decide +kernel) (by decide +kernel)
def b_X5_hasRow_20 : List Ent := [(.ifCond .eq 7, 3, [27], 0)]
theorem a_X5_hasRow_20 : ck mX5_hasRow b_X5_hasRow_20 20 = true := by decide +kernel
def b_X5_hasRow_23 : List Ent := [(.iconst 1, 1, [], 0), (.goto 4, 3, [28], 0)]
theorem a_X5_hasRow_23 : ck mX5_hasRow b_X5_hasRow_23 23 = true := by decide +kernel
def b_X5_hasRow_27 : List Ent := [(.iconst 0, 1, [], 0)]
theorem a_X5_hasRow_27 : ck mX5_hasRow b_X5_hasRow_27 27 = true := by decide +kernel
def b_X5_hasRow_28 : List Ent := [(.ireturn, 1, [1], 0)]
theorem a_X5_hasRow_28 : ck mX5_hasRow b_X5_hasRow_28 28 = true := by decide +kernel
theorem o_X5_held : MOK mX5_held 3 := MOK.of 575 58 (by decide +kernel) (by decide +kernel) (by decide +kernel) (by decide +kernel) (by decide +kernel)
def b_X5_held_0 : List Ent := [(.iload_n 1, 1, [], 0), (.iload_n 2, 1, [], 0), (.iload_n 0, 1, [], 0)]
theorem a_X5_held_0 : ck mX5_held b_X5_held_0 0 = true := by decide +kernel
theorem k_X5_held_3 : CS mX5_held 3 mJ9_min_7cf53 := CS.of 301 576 318 (by decide +kernel) (by decide +kernel) (by decide +kernel)
theorem k_X5_held_6 : CS mX5_held 6 mJ9_max_7cf53 := CS.of 306 577 423 (by decide +kernel) (by decide +kernel) (by decide +kernel)
def b_X5_held_9 : List Ent := [(.ireturn, 1, [0], 0)]
theorem a_X5_held_9 : ck mX5_held b_X5_held_9 9 = true := by decide +kernel
theorem o_X5_hope : MOK mX5_hope 2 := MOK.of 709 58 (by decide +kernel) (by decide +kernel) (by decide +kernel) (by decide +kernel) (by decide +kernel)
def b_X5_hope_0 : List Ent := [(.iload_n 1, 1, [], 0), (.iconst 0, 1, [], 0), (.bipush 99, 2, [], 0)]
theorem a_X5_hope_0 : ck mX5_hope b_X5_hope_0 0 = true := by decide +kernel
theorem k_X5_hope_4 : CS mX5_hope 4 mX5_within := CS.of 62 288 289 (by decide +kernel) (by decide +kernel) (by decide +kernel)
def b_X5_hope_7 : List Ent := [(.ifCond .eq 12, 3, [19], 0)]
theorem a_X5_hope_7 : ck mX5_hope b_X5_hope_7 7 = true := by decide +kernel
def b_X5_hope_10 : List Ent := [(.iload_n 2, 1, [], 0), (.iconst 0, 1, [], 0), (.iconst 1, 1, [], 0)]
theorem a_X5_hope_10 : ck mX5_hope b_X5_hope_10 10 = true := by decide +kernel
theorem k_X5_hope_13 : CS mX5_hope 13 mX5_within := CS.of 62 288 289 (by decide +kernel) (by decide +kernel) (by decide +kernel)
def b_X5_hope_16 : List Ent := [(.ifCond .ne 7, 3, [23], 0)]
theorem a_X5_hope_16 : ck mX5_hope b_X5_hope_16 16 = true := by decide +kernel
def b_X5_hope_19 : List Ent := [(.ldc2_w 222, 3, [0, 689], (-1)), (.lreturn, 1, [], 0)]
theorem a_X5_hope_19 : ck mX5_hope b_X5_hope_19 19 = true := by decide +kernel
def b_X5_hope_23 : List Ent := [(.iload_n 1, 1, [], 0), (.i2l, 1, [], 0), (.aload_n 0, 1, [], 0), (.getfield 10, 3, [5, 0, 1, 253], 0), (.getfield 97, 3, [4, 0, 1, 97], 0), (.iconst 3, 1, [], 0), (.iaload, 1, [7], 0), (.i2l, 1, [], 0), (.lmul, 1, [], 0), (.ldc2_w 235, 3, [0, 710], 100), (.iload_n 2, 1, [], 0)]
theorem a_X5_hope_23 : ck mX5_hope b_X5_hope_23 23 = true := by decide +kernel
theorem k_X5_hope_40 : CS mX5_hope 40 mX5_partOf := CS.of 231 700 701 (by decide +kernel) (by decide +kernel) (by decide +kernel)
def b_X5_hope_43 : List Ent := [(.lreturn, 1, [], 0)]
theorem a_X5_hope_43 : ck mX5_hope b_X5_hope_43 43 = true := by decide +kernel
theorem o_X5_init : MOK mX5_init 0 := MOK.of 77 58 (by decide +kernel) (by decide +kernel) (by decide +kernel) (by decide +kernel) (by decide +kernel)
theorem o_X5_isAge : MOK mX5_isAge 1 := MOK.of 463 58 (by decide +kernel) (by decide +kernel) (by decide +kernel) (by decide +kernel) (by decide +kernel)
def b_X5_isAge_0 : List Ent := [(.iload_n 0, 1, [], 0), (.iconst 0, 1, [], 0), (.bipush 99, 2, [], 0)]
theorem a_X5_isAge_0 : ck mX5_isAge b_X5_isAge_0 0 = true := by decide +kernel
theorem k_X5_isAge_4 : CS mX5_isAge 4 mX5_within := CS.of 62 288 289 (by decide +kernel) (by decide +kernel) (by decide +kernel)
def b_X5_isAge_7 : List Ent := [(.ireturn, 1, [1], 0)]
theorem a_X5_isAge_7 : ck mX5_isAge b_X5_isAge_7 7 = true := by decide +kernel
theorem o_X5_isFewer : MOK mX5_isFewer 2 := MOK.of 651 58 (by decide +kernel) (by decide +kernel) (by decide +kernel) (by decide +kernel) (by decide +kernel)
def b_X5_isFewer_0 : List Ent := [(.iload_n 0, 1, [], 0)]
theorem a_X5_isFewer_0 : ck mX5_isFewer b_X5_isFewer_0 0 = true := by decide +kernel
theorem k_X5_isFewer_1 : CS mX5_isFewer 1 mJ6_bitCount_0f7a4 := CS.of 161 535 536 (by decide +kernel) (by decide +kernel) (by decide +kernel)
def b_X5_isFewer_4 : List Ent := [(.iload_n 1, 1, [], 0)]
theorem a_X5_isFewer_4 : ck mX5_isFewer b_X5_isFewer_4 4 = true := by decide +kernel
theorem k_X5_isFewer_5 : CS mX5_isFewer 5 mJ6_bitCount_0f7a4 := CS.of 161 535 536 (by decide +kernel) (by decide +kernel) (by decide +kernel)
def b_X5_isFewer_8 : List Ent := [(.if_icmp .ge 7, 3, [15], 0)]
theorem a_X5_isFewer_8 : ck mX5_isFewer b_X5_isFewer_8 8 = true := by decide +kernel
def b_X5_isFewer_11 : List Ent := [(.iconst 1, 1, [], 0), (.goto 4, 3, [16], 0)]
theorem a_X5_isFewer_11 : ck mX5_isFewer b_X5_isFewer_11 11 = true := by decide +kernel
def b_X5_isFewer_15 : List Ent := [(.iconst 0, 1, [], 0)]
theorem a_X5_isFewer_15 : ck mX5_isFewer b_X5_isFewer_15 15 = true := by decide +kernel
def b_X5_isFewer_16 : List Ent := [(.ireturn, 1, [1], 0)]
theorem a_X5_isFewer_16 : ck mX5_isFewer b_X5_isFewer_16 16 = true := by decide +kernel
theorem o_X5_isFitting : MOK mX5_isFitting 3 := MOK.of 688 58 (by decide +kernel) (by decide +kernel) (by decide +kernel) (by decide +kernel) (by decide +kernel)
def b_X5_isFitting_0 : List Ent := [(.aload_n 0, 1, [], 0)]
theorem a_X5_isFitting_0 : ck mX5_isFitting b_X5_isFitting_0 0 = true := by decide +kernel
theorem k_X5_isFitting_1 : CV mX5_isFitting 1 mX5_tryNow := CV.of 182 601 603 0 (by decide +kernel) (by decide +kernel) (by decide +kernel) (by decide +kernel)
def b_X5_isFitting_4 : List Ent := [(.getfield 122, 3, [4, 3, 4, 104], 0), (.iload_n 2, 1, [], 0), (.iload_n 3, 1, [], 0), (.iastore, 1, [], 0), (.lconst 0, 1, [], 0), (.lstore 4, 2, [], 0), (.iconst 0, 1, [], 0), (.istore 6, 2, [], 0)]
theorem a_X5_isFitting_4 : ck mX5_isFitting b_X5_isFitting_4 4 = true := by decide +kernel
def b_X5_isFitting_16 : List Ent := [(.iload 6, 2, [], 0), (.aload_n 0, 1, [], 0), (.getfield 44, 3, [5, 7, 31, 260], 0), (.getfield 246, 3, [1, 2, 7, 195], 0), (.iload_n 1, 1, [], 0), (.iaload, 1, [7], 0), (.if_icmp .ge 55, 3, [82], 0)]
theorem a_X5_isFitting_16 : ck mX5_isFitting b_X5_isFitting_16 16 = true := by decide +kernel
def b_X5_isFitting_30 : List Ent := [(.lload 4, 2, [], 0), (.aload_n 0, 1, [], 0), (.getfield 16, 3, [5, 1, 10, 254], 0)]
theorem a_X5_isFitting_30 : ck mX5_isFitting b_X5_isFitting_30 30 = true := by decide +kernel
theorem k_X5_isFitting_36 : CV mX5_isFitting 36 mX4_passYear := CV.of 199 629 562 563 (by decide +kernel) (by decide +kernel) (by decide +kernel) (by decide +kernel)
def b_X5_isFitting_39 : List Ent := [(.i2l, 1, [], 0), (.ladd, 1, [], 0), (.lstore 4, 2, [], 0), (.aload_n 0, 1, [], 0), (.getfield 44, 3, [5, 7, 31, 260], 0), (.getfield 249, 3, [1, 0, 1, 191], 0), (.iload_n 1, 1, [], 0), (.aaload, 1, [], 0), (.iload 6, 2, [], 0), (.laload, 1, [], 0), (.lstore 7, 2, [], 0), (.lload 7, 2, [], 0), (.ldc2_w 222, 3, [0, 689], (-1)), (.lcmp, 1, [], 0), (.ifCond .eq 13, 3, [76], 0)]
theorem a_X5_isFitting_39 : ck mX5_isFitting b_X5_isFitting_39 39 = true := by decide +kernel
def b_X5_isFitting_66 : List Ent := [(.lload 7, 2, [], 0), (.lload 4, 2, [], 0), (.lcmp, 1, [], 0), (.ifCond .eq 5, 3, [76], 0)]
theorem a_X5_isFitting_66 : ck mX5_isFitting b_X5_isFitting_66 66 = true := by decide +kernel
def b_X5_isFitting_74 : List Ent := [(.iconst 0, 1, [], 0), (.ireturn, 1, [1], 0)]
theorem a_X5_isFitting_74 : ck mX5_isFitting b_X5_isFitting_74 74 = true := by decide +kernel
def b_X5_isFitting_76 : List Ent := [(.iinc 6 1, 3, [], 0), (.goto (-63), 3, [16], 0)]
theorem a_X5_isFitting_76 : ck mX5_isFitting b_X5_isFitting_76 76 = true := by decide +kernel
def b_X5_isFitting_82 : List Ent := [(.iconst 1, 1, [], 0), (.ireturn, 1, [1], 0)]
theorem a_X5_isFitting_82 : ck mX5_isFitting b_X5_isFitting_82 82 = true := by decide +kernel
theorem o_X5_isForce : MOK mX5_isForce 1 := MOK.of 460 58 (by decide +kernel) (by decide +kernel) (by decide +kernel) (by decide +kernel) (by decide +kernel)
def b_X5_isForce_0 : List Ent := [(.iload_n 0, 1, [], 0), (.iconst 0, 1, [], 0), (.bipush 9, 2, [], 0)]
theorem a_X5_isForce_0 : ck mX5_isForce b_X5_isForce_0 0 = true := by decide +kernel
theorem k_X5_isForce_4 : CS mX5_isForce 4 mX5_within := CS.of 62 288 289 (by decide +kernel) (by decide +kernel) (by decide +kernel)
def b_X5_isForce_7 : List Ent := [(.ireturn, 1, [1], 0)]
theorem a_X5_isForce_7 : ck mX5_isForce b_X5_isForce_7 7 = true := by decide +kernel
theorem o_X5_isFreeBy : MOK mX5_isFreeBy 3 := MOK.of 671 58 (by decide +kernel) (by decide +kernel) (by decide +kernel) (by decide +kernel) (by decide +kernel)
def b_X5_isFreeBy_0 : List Ent := [(.aload_n 0, 1, [], 0)]
theorem a_X5_isFreeBy_0 : ck mX5_isFreeBy b_X5_isFreeBy_0 0 = true := by decide +kernel
theorem k_X5_isFreeBy_1 : CV mX5_isFreeBy 1 mX5_tryNow := CV.of 182 601 603 0 (by decide +kernel) (by decide +kernel) (by decide +kernel) (by decide +kernel)
def b_X5_isFreeBy_4 : List Ent := [(.dup, 1, [], 0), (.getfield 128, 3, [4, 6, 0, 111], 0), (.iload_n 1, 1, [], 0), (.ior, 1, [], 0), (.putfield 128, 3, [4, 6, 0, 111], 0), (.aload_n 0, 1, [], 0), (.getfield 16, 3, [5, 1, 10, 254], 0)]
theorem a_X5_isFreeBy_4 : ck mX5_isFreeBy b_X5_isFreeBy_4 4 = true := by decide +kernel
theorem k_X5_isFreeBy_17 : CV mX5_isFreeBy 17 mX4_survey := CV.of 138 477 478 479 (by decide +kernel) (by decide +kernel) (by decide +kernel) (by decide +kernel)
def b_X5_isFreeBy_20 : List Ent := [(.iload_n 2, 1, [], 0)]
theorem a_X5_isFreeBy_20 : ck mX5_isFreeBy b_X5_isFreeBy_20 20 = true := by decide +kernel
theorem k_X5_isFreeBy_21 : CS mX5_isFreeBy 21 mX5_bit := CS.of 131 474 475 (by decide +kernel) (by decide +kernel) (by decide +kernel)
def b_X5_isFreeBy_24 : List Ent := [(.iconst 1, 1, [], 0), (.if_icmp .ne 19, 3, [44], 0)]
theorem a_X5_isFreeBy_24 : ck mX5_isFreeBy b_X5_isFreeBy_24 24 = true := by decide +kernel
def b_X5_isFreeBy_28 : List Ent := [(.aload_n 0, 1, [], 0), (.getfield 16, 3, [5, 1, 10, 254], 0), (.iload_n 2, 1, [], 0)]
theorem a_X5_isFreeBy_28 : ck mX5_isFreeBy b_X5_isFreeBy_28 28 = true := by decide +kernel
theorem k_X5_isFreeBy_33 : CV mX5_isFreeBy 33 mX4_bears := CV.of 149 502 503 504 (by decide +kernel) (by decide +kernel) (by decide +kernel) (by decide +kernel)
def b_X5_isFreeBy_36 : List Ent := [(.iload_n 3, 1, [], 0), (.if_icmp .lt 7, 3, [44], 0)]
theorem a_X5_isFreeBy_36 : ck mX5_isFreeBy b_X5_isFreeBy_36 36 = true := by decide +kernel
def b_X5_isFreeBy_40 : List Ent := [(.iconst 1, 1, [], 0), (.goto 4, 3, [45], 0)]
theorem a_X5_isFreeBy_40 : ck mX5_isFreeBy b_X5_isFreeBy_40 40 = true := by decide +kernel
def b_X5_isFreeBy_44 : List Ent := [(.iconst 0, 1, [], 0)]
theorem a_X5_isFreeBy_44 : ck mX5_isFreeBy b_X5_isFreeBy_44 44 = true := by decide +kernel
def b_X5_isFreeBy_45 : List Ent := [(.ireturn, 1, [1], 0)]
theorem a_X5_isFreeBy_45 : ck mX5_isFreeBy b_X5_isFreeBy_45 45 = true := by decide +kernel
theorem o_X5_isKind : MOK mX5_isKind 1 := MOK.of 392 58 (by decide +kernel) (by decide +kernel) (by decide +kernel) (by decide +kernel) (by decide +kernel)
def b_X5_isKind_0 : List Ent := [(.iload_n 0, 1, [], 0), (.iconst 0, 1, [], 0), (.iconst 5, 1, [], 0)]
theorem a_X5_isKind_0 : ck mX5_isKind b_X5_isKind_0 0 = true := by decide +kernel
theorem k_X5_isKind_3 : CS mX5_isKind 3 mX5_within := CS.of 62 288 289 (by decide +kernel) (by decide +kernel) (by decide +kernel)
def b_X5_isKind_6 : List Ent := [(.ireturn, 1, [1], 0)]
theorem a_X5_isKind_6 : ck mX5_isKind b_X5_isKind_6 6 = true := by decide +kernel
theorem o_X5_isLaw : MOK mX5_isLaw 1 := MOK.of 431 58 (by decide +kernel) (by decide +kernel) (by decide +kernel) (by decide +kernel) (by decide +kernel)
def b_X5_isLaw_0 : List Ent := [(.iload_n 0, 1, [], 0), (.iconst 0, 1, [], 0), (.iconst 3, 1, [], 0)]
theorem a_X5_isLaw_0 : ck mX5_isLaw b_X5_isLaw_0 0 = true := by decide +kernel
theorem k_X5_isLaw_3 : CS mX5_isLaw 3 mX5_within := CS.of 62 288 289 (by decide +kernel) (by decide +kernel) (by decide +kernel)
def b_X5_isLaw_6 : List Ent := [(.ireturn, 1, [1], 0)]
theorem a_X5_isLaw_6 : ck mX5_isLaw b_X5_isLaw_6 6 = true := by decide +kernel
theorem o_X5_isSubset : MOK mX5_isSubset 2 := MOK.of 648 58 (by decide +kernel) (by decide +kernel) (by decide +kernel) (by decide +kernel) (by decide +kernel)
def b_X5_isSubset_0 : List Ent := [(.iload_n 0, 1, [], 0), (.iload_n 1, 1, [], 0), (.iconst (-1), 1, [], 0), (.ixor, 1, [], 0), (.iand, 1, [], 0), (.ifCond .ne 7, 3, [12], 0)]
theorem a_X5_isSubset_0 : ck mX5_isSubset b_X5_isSubset_0 0 = true := by decide +kernel
def b_X5_isSubset_8 : List Ent := [(.iconst 1, 1, [], 0), (.goto 4, 3, [13], 0)]
theorem a_X5_isSubset_8 : ck mX5_isSubset b_X5_isSubset_8 8 = true := by decide +kernel
def b_X5_isSubset_12 : List Ent := [(.iconst 0, 1, [], 0)]
theorem a_X5_isSubset_12 : ck mX5_isSubset b_X5_isSubset_12 12 = true := by decide +kernel
def b_X5_isSubset_13 : List Ent := [(.ireturn, 1, [1], 0)]
theorem a_X5_isSubset_13 : ck mX5_isSubset b_X5_isSubset_13 13 = true := by decide +kernel
theorem o_X5_item : MOK mX5_item 3 := MOK.of 761 58 (by decide +kernel) (by decide +kernel) (by decide +kernel) (by decide +kernel) (by decide +kernel)
def b_X5_item_0 : List Ent := [(.aload_n 0, 1, [], 0), (.getfield 44, 3, [5, 7, 31, 260], 0), (.iload_n 1, 1, [], 0)]
theorem a_X5_item_0 : ck mX5_item b_X5_item_0 0 = true := by decide +kernel
theorem k_X5_item_5 : CV mX5_item 5 mX1_has := CV.of 215 676 677 678 (by decide +kernel) (by decide +kernel) (by decide +kernel) (by decide +kernel)
def b_X5_item_8 : List Ent := [(.ifCond .eq 12, 3, [20], 0)]
theorem a_X5_item_8 : ck mX5_item b_X5_item_8 8 = true := by decide +kernel
def b_X5_item_11 : List Ent := [(.iload_n 2, 1, [], 0), (.iconst 0, 1, [], 0), (.iconst 3, 1, [], 0)]
theorem a_X5_item_11 : ck mX5_item b_X5_item_11 11 = true := by decide +kernel
theorem k_X5_item_14 : CS mX5_item 14 mX5_within := CS.of 62 288 289 (by decide +kernel) (by decide +kernel) (by decide +kernel)
def b_X5_item_17 : List Ent := [(.ifCond .ne 5, 3, [22], 0)]
theorem a_X5_item_17 : ck mX5_item b_X5_item_17 17 = true := by decide +kernel
def b_X5_item_20 : List Ent := [(.iconst (-1), 1, [], 0), (.ireturn, 1, [0], 0)]
theorem a_X5_item_20 : ck mX5_item b_X5_item_20 20 = true := by decide +kernel
def b_X5_item_22 : List Ent := [(.aload_n 0, 1, [], 0), (.getfield 44, 3, [5, 7, 31, 260], 0), (.iload_n 1, 1, [], 0)]
theorem a_X5_item_22 : ck mX5_item b_X5_item_22 22 = true := by decide +kernel
theorem k_X5_item_27 : CV mX5_item 27 mX1_isMissing := CV.of 216 681 682 683 (by decide +kernel) (by decide +kernel) (by decide +kernel) (by decide +kernel)
def b_X5_item_30 : List Ent := [(.ifCond .eq 6, 3, [36], 0)]
theorem a_X5_item_30 : ck mX5_item b_X5_item_30 30 = true := by decide +kernel
def b_X5_item_33 : List Ent := [(.bipush (-11), 2, [], 0), (.ireturn, 1, [0], 0)]
theorem a_X5_item_33 : ck mX5_item b_X5_item_33 33 = true := by decide +kernel
def b_X5_item_36 : List Ent := [(.aload_n 0, 1, [], 0), (.getfield 44, 3, [5, 7, 31, 260], 0), (.getfield 243, 3, [1, 1, 6, 193], 0), (.iload_n 1, 1, [], 0), (.iaload, 1, [7], 0), (.iload_n 2, 1, [], 0), (.if_icmp .eq 6, 3, [52], 0)]
theorem a_X5_item_36 : ck mX5_item b_X5_item_36 36 = true := by decide +kernel
def b_X5_item_49 : List Ent := [(.bipush (-13), 2, [], 0), (.ireturn, 1, [0], 0)]
theorem a_X5_item_49 : ck mX5_item b_X5_item_49 49 = true := by decide +kernel
def b_X5_item_52 : List Ent := [(.aload_n 0, 1, [], 0), (.getfield 44, 3, [5, 7, 31, 260], 0), (.iload_n 1, 1, [], 0), (.iload_n 3, 1, [], 0)]
theorem a_X5_item_52 : ck mX5_item b_X5_item_52 52 = true := by decide +kernel
theorem k_X5_item_58 : CV mX5_item 58 mX1_hasItem := CV.of 261 751 752 753 (by decide +kernel) (by decide +kernel) (by decide +kernel) (by decide +kernel)
def b_X5_item_61 : List Ent := [(.ifCond .eq 18, 3, [79], 0)]
theorem a_X5_item_61 : ck mX5_item b_X5_item_61 61 = true := by decide +kernel
def b_X5_item_64 : List Ent := [(.aload_n 0, 1, [], 0), (.getfield 44, 3, [5, 7, 31, 260], 0), (.getfield 249, 3, [1, 0, 1, 191], 0), (.iload_n 1, 1, [], 0), (.aaload, 1, [], 0), (.iload_n 3, 1, [], 0), (.laload, 1, [], 0), (.l2i, 1, [], 0), (.goto 5, 3, [81], 0)]
theorem a_X5_item_64 : ck mX5_item b_X5_item_64 64 = true := by decide +kernel
def b_X5_item_79 : List Ent := [(.bipush (-12), 2, [], 0)]
theorem a_X5_item_79 : ck mX5_item b_X5_item_79 79 = true := by decide +kernel
def b_X5_item_81 : List Ent := [(.ireturn, 1, [0], 0)]
theorem a_X5_item_81 : ck mX5_item b_X5_item_81 81 = true := by decide +kernel
theorem o_X5_judge : MOK mX5_judge 1 := MOK.of 730 58 (by decide +kernel) (by decide +kernel) (by decide +kernel) (by decide +kernel) (by decide +kernel)
def b_X5_judge_0 : List Ent := [(.aload_n 0, 1, [], 0), (.getfield 10, 3, [5, 0, 1, 253], 0), (.iload_n 1, 1, [], 0)]
theorem a_X5_judge_0 : ck mX5_judge b_X5_judge_0 0 = true := by decide +kernel
theorem k_X5_judge_5 : CV mX5_judge 5 mX4_has := CV.of 113 469 470 471 (by decide +kernel) (by decide +kernel) (by decide +kernel) (by decide +kernel)
def b_X5_judge_8 : List Ent := [(.ifCond .ne 5, 3, [13], 0)]
theorem a_X5_judge_8 : ck mX5_judge b_X5_judge_8 8 = true := by decide +kernel
def b_X5_judge_11 : List Ent := [(.iconst (-1), 1, [], 0), (.ireturn, 1, [0], 0)]
theorem a_X5_judge_11 : ck mX5_judge b_X5_judge_11 11 = true := by decide +kernel
def b_X5_judge_13 : List Ent := [(.aload_n 0, 1, [], 0)]
theorem a_X5_judge_13 : ck mX5_judge b_X5_judge_13 13 = true := by decide +kernel
theorem k_X5_judge_14 : CV mX5_judge 14 mX5_tryNow := CV.of 182 601 603 0 (by decide +kernel) (by decide +kernel) (by decide +kernel) (by decide +kernel)
def b_X5_judge_17 : List Ent := [(.pop, 1, [], 0), (.iconst 0, 1, [], 0), (.istore_n 2, 1, [], 0)]
theorem a_X5_judge_17 : ck mX5_judge b_X5_judge_17 17 = true := by decide +kernel
def b_X5_judge_20 : List Ent := [(.iload_n 2, 1, [], 0), (.aload_n 0, 1, [], 0), (.getfield 37, 3, [5, 6, 0, 259], 0), (.if_icmp .ge 91, 3, [116], 0)]
theorem a_X5_judge_20 : ck mX5_judge b_X5_judge_20 20 = true := by decide +kernel
def b_X5_judge_28 : List Ent := [(.iload_n 2, 1, [], 0), (.iconst 3, 1, [], 0), (.imul, 1, [], 0), (.istore_n 3, 1, [], 0), (.aload_n 0, 1, [], 0), (.getfield 16, 3, [5, 1, 10, 254], 0)]
theorem a_X5_judge_28 : ck mX5_judge b_X5_judge_28 28 = true := by decide +kernel
theorem k_X5_judge_36 : CV mX5_judge 36 mX4_passYear := CV.of 199 629 562 563 (by decide +kernel) (by decide +kernel) (by decide +kernel) (by decide +kernel)
def b_X5_judge_39 : List Ent := [(.istore 4, 2, [], 0), (.aload_n 0, 1, [], 0), (.getfield 33, 3, [5, 5, 30, 258], 0), (.iload_n 3, 1, [], 0), (.iaload, 1, [7], 0), (.aload_n 0, 1, [], 0), (.getfield 16, 3, [5, 1, 10, 254], 0), (.getfield 122, 3, [4, 3, 4, 104], 0), (.iload_n 1, 1, [], 0), (.iaload, 1, [7], 0), (.if_icmp .ne 42, 3, [98], 0)]
theorem a_X5_judge_39 : ck mX5_judge b_X5_judge_39 39 = true := by decide +kernel
def b_X5_judge_59 : List Ent := [(.aload_n 0, 1, [], 0), (.getfield 33, 3, [5, 5, 30, 258], 0), (.iload_n 3, 1, [], 0), (.iconst 1, 1, [], 0), (.iadd, 1, [], 0), (.iaload, 1, [7], 0), (.aload_n 0, 1, [], 0), (.getfield 16, 3, [5, 1, 10, 254], 0), (.getfield 237, 3, [4, 11, 0, 122], 0), (.iload_n 1, 1, [], 0)]
theorem a_X5_judge_59 : ck mX5_judge b_X5_judge_59 59 = true := by decide +kernel
theorem k_X5_judge_75 : CS mX5_judge 75 mX5_bit := CS.of 131 474 475 (by decide +kernel) (by decide +kernel) (by decide +kernel)
def b_X5_judge_78 : List Ent := [(.if_icmp .ne 20, 3, [98], 0)]
theorem a_X5_judge_78 : ck mX5_judge b_X5_judge_78 78 = true := by decide +kernel
def b_X5_judge_81 : List Ent := [(.aload_n 0, 1, [], 0), (.getfield 33, 3, [5, 5, 30, 258], 0), (.iload_n 3, 1, [], 0), (.iconst 2, 1, [], 0), (.iadd, 1, [], 0), (.iaload, 1, [7], 0), (.iload 4, 2, [], 0), (.if_icmp .ne 7, 3, [98], 0)]
theorem a_X5_judge_81 : ck mX5_judge b_X5_judge_81 81 = true := by decide +kernel
def b_X5_judge_94 : List Ent := [(.iconst 1, 1, [], 0), (.goto 4, 3, [99], 0)]
theorem a_X5_judge_94 : ck mX5_judge b_X5_judge_94 94 = true := by decide +kernel
def b_X5_judge_98 : List Ent := [(.iconst 0, 1, [], 0)]
theorem a_X5_judge_98 : ck mX5_judge b_X5_judge_98 98 = true := by decide +kernel
def b_X5_judge_99 : List Ent := [(.istore 5, 2, [], 0), (.iload 5, 2, [], 0), (.ifCond .ne 7, 3, [110], 0)]
theorem a_X5_judge_99 : ck mX5_judge b_X5_judge_99 99 = true := by decide +kernel
def b_X5_judge_106 : List Ent := [(.iload_n 2, 1, [], 0), (.iconst 1, 1, [], 0), (.iadd, 1, [], 0), (.ireturn, 1, [0], 0)]
theorem a_X5_judge_106 : ck mX5_judge b_X5_judge_106 106 = true := by decide +kernel
def b_X5_judge_110 : List Ent := [(.iinc 2 1, 3, [], 0), (.goto (-93), 3, [20], 0)]
theorem a_X5_judge_110 : ck mX5_judge b_X5_judge_110 110 = true := by decide +kernel
def b_X5_judge_116 : List Ent := [(.iconst 0, 1, [], 0), (.ireturn, 1, [0], 0)]
theorem a_X5_judge_116 : ck mX5_judge b_X5_judge_116 116 = true := by decide +kernel
theorem o_X5_keep : MOK mX5_keep 0 := MOK.of 836 58 (by decide +kernel) (by decide +kernel) (by decide +kernel) (by decide +kernel) (by decide +kernel)
def b_X5_keep_0 : List Ent := [(.aload_n 0, 1, [], 0), (.getfield 19, 3, [5, 2, 19, 255], 0), (.aload_n 0, 1, [], 0), (.getfield 10, 3, [5, 0, 1, 253], 0)]
theorem a_X5_keep_0 : ck mX5_keep b_X5_keep_0 0 = true := by decide +kernel
theorem k_X5_keep_8 : CV mX5_keep 8 mX4_copyFrom := CV.of 83 438 439 440 (by decide +kernel) (by decide +kernel) (by decide +kernel) (by decide +kernel)
def b_X5_keep_11 : List Ent := [(.aload_n 0, 1, [], 0), (.iconst 1, 1, [], 0), (.putfield 22, 3, [5, 3, 1, 256], 0), (.iconst 1, 1, [], 0), (.ireturn, 1, [0], 0)]
theorem a_X5_keep_11 : ck mX5_keep b_X5_keep_11 11 = true := by decide +kernel
theorem o_X5_kindFor : MOK mX5_kindFor 2 := MOK.of 655 58 (by decide +kernel) (by decide +kernel) (by decide +kernel) (by decide +kernel) (by decide +kernel)
def b_X5_kindFor_0 : List Ent := [(.aload_n 0, 1, [], 0), (.getfield 10, 3, [5, 0, 1, 253], 0), (.iload_n 1, 1, [], 0)]
theorem a_X5_kindFor_0 : ck mX5_kindFor b_X5_kindFor_0 0 = true := by decide +kernel
theorem k_X5_kindFor_5 : CV mX5_kindFor 5 mX4_has := CV.of 113 469 470 471 (by decide +kernel) (by decide +kernel) (by decide +kernel) (by decide +kernel)
def b_X5_kindFor_8 : List Ent := [(.ifCond .eq 13, 3, [21], 0)]
theorem a_X5_kindFor_8 : ck mX5_kindFor b_X5_kindFor_8 8 = true := by decide +kernel
def b_X5_kindFor_11 : List Ent := [(.iload_n 2, 1, [], 0), (.iconst 1, 1, [], 0), (.bipush 20, 2, [], 0)]
theorem a_X5_kindFor_11 : ck mX5_kindFor b_X5_kindFor_11 11 = true := by decide +kernel
theorem k_X5_kindFor_15 : CS mX5_kindFor 15 mX5_within := CS.of 62 288 289 (by decide +kernel) (by decide +kernel) (by decide +kernel)
def b_X5_kindFor_18 : List Ent := [(.ifCond .ne 5, 3, [23], 0)]
theorem a_X5_kindFor_18 : ck mX5_kindFor b_X5_kindFor_18 18 = true := by decide +kernel
def b_X5_kindFor_21 : List Ent := [(.iconst (-1), 1, [], 0), (.ireturn, 1, [0], 0)]
theorem a_X5_kindFor_21 : ck mX5_kindFor b_X5_kindFor_21 21 = true := by decide +kernel
def b_X5_kindFor_23 : List Ent := [(.iconst (-1), 1, [], 0), (.istore_n 3, 1, [], 0), (.iconst 0, 1, [], 0), (.istore 4, 2, [], 0), (.iconst 0, 1, [], 0), (.istore 5, 2, [], 0)]
theorem a_X5_kindFor_23 : ck mX5_kindFor b_X5_kindFor_23 23 = true := by decide +kernel
def b_X5_kindFor_31 : List Ent := [(.iload 5, 2, [], 0), (.iconst 5, 1, [], 0), (.if_icmp .gt 43, 3, [77], 0)]
theorem a_X5_kindFor_31 : ck mX5_kindFor b_X5_kindFor_31 31 = true := by decide +kernel
def b_X5_kindFor_37 : List Ent := [(.aload_n 0, 1, [], 0)]
theorem a_X5_kindFor_37 : ck mX5_kindFor b_X5_kindFor_37 37 = true := by decide +kernel
theorem k_X5_kindFor_38 : CV mX5_kindFor 38 mX5_tryNow := CV.of 182 601 603 0 (by decide +kernel) (by decide +kernel) (by decide +kernel) (by decide +kernel)
def b_X5_kindFor_41 : List Ent := [(.getfield 116, 3, [4, 1, 2, 100], 0), (.iload_n 1, 1, [], 0), (.iload 5, 2, [], 0), (.iastore, 1, [], 0), (.aload_n 0, 1, [], 0), (.getfield 16, 3, [5, 1, 10, 254], 0), (.iload_n 2, 1, [], 0)]
theorem a_X5_kindFor_41 : ck mX5_kindFor b_X5_kindFor_41 41 = true := by decide +kernel
theorem k_X5_kindFor_53 : CV mX5_kindFor 53 mX4_passYears := CV.of 173 557 558 559 (by decide +kernel) (by decide +kernel) (by decide +kernel) (by decide +kernel)
def b_X5_kindFor_56 : List Ent := [(.istore 6, 2, [], 0), (.iload 6, 2, [], 0), (.iload_n 3, 1, [], 0), (.if_icmp .le 10, 3, [71], 0)]
theorem a_X5_kindFor_56 : ck mX5_kindFor b_X5_kindFor_56 56 = true := by decide +kernel
def b_X5_kindFor_64 : List Ent := [(.iload 6, 2, [], 0), (.istore_n 3, 1, [], 0), (.iload 5, 2, [], 0), (.istore 4, 2, [], 0)]
theorem a_X5_kindFor_64 : ck mX5_kindFor b_X5_kindFor_64 64 = true := by decide +kernel
def b_X5_kindFor_71 : List Ent := [(.iinc 5 1, 3, [], 0), (.goto (-43), 3, [31], 0)]
theorem a_X5_kindFor_71 : ck mX5_kindFor b_X5_kindFor_71 71 = true := by decide +kernel
def b_X5_kindFor_77 : List Ent := [(.iload 4, 2, [], 0), (.ireturn, 1, [0], 0)]
theorem a_X5_kindFor_77 : ck mX5_kindFor b_X5_kindFor_77 77 = true := by decide +kernel
theorem o_X5_lawOf : MOK mX5_lawOf 1 := MOK.of 452 58 (by decide +kernel) (by decide +kernel) (by decide +kernel) (by decide +kernel) (by decide +kernel)
def b_X5_lawOf_0 : List Ent := [(.iload_n 1, 1, [], 0)]
theorem a_X5_lawOf_0 : ck mX5_lawOf b_X5_lawOf_0 0 = true := by decide +kernel
theorem k_X5_lawOf_1 : CS mX5_lawOf 1 mX5_isLaw := CS.of 90 447 430 (by decide +kernel) (by decide +kernel) (by decide +kernel)
def b_X5_lawOf_4 : List Ent := [(.ifCond .eq 15, 3, [19], 0)]
theorem a_X5_lawOf_4 : ck mX5_lawOf b_X5_lawOf_4 4 = true := by decide +kernel
def b_X5_lawOf_7 : List Ent := [(.aload_n 0, 1, [], 0), (.getfield 10, 3, [5, 0, 1, 253], 0), (.getfield 97, 3, [4, 0, 1, 97], 0), (.iload_n 1, 1, [], 0), (.iaload, 1, [7], 0), (.goto 4, 3, [20], 0)]
theorem a_X5_lawOf_7 : ck mX5_lawOf b_X5_lawOf_7 7 = true := by decide +kernel
def b_X5_lawOf_19 : List Ent := [(.iconst (-1), 1, [], 0)]
theorem a_X5_lawOf_19 : ck mX5_lawOf b_X5_lawOf_19 19 = true := by decide +kernel
def b_X5_lawOf_20 : List Ent := [(.ireturn, 1, [0], 0)]
theorem a_X5_lawOf_20 : ck mX5_lawOf b_X5_lawOf_20 20 = true := by decide +kernel
theorem o_X5_many : MOK mX5_many 1 := MOK.of 832 58 (by decide +kernel) (by decide +kernel) (by decide +kernel) (by decide +kernel) (by decide +kernel)
def b_X5_many_0 : List Ent := [(.iload_n 1, 1, [], 0), (.tableswitch 105 0 6 #[43, 51, 62, 73, 84, 89, 97], 43, [106, 44, 52, 63, 74, 85, 90, 98], 0)]
theorem a_X5_many_0 : ck mX5_many b_X5_many_0 0 = true := by decide +kernel
def b_X5_many_44 : List Ent := [(.aload_n 0, 1, [], 0), (.getfield 10, 3, [5, 0, 1, 253], 0), (.getfield 87, 3, [4, 7, 0, 114], 0), (.ireturn, 1, [0], 0)]
theorem a_X5_many_44 : ck mX5_many b_X5_many_44 44 = true := by decide +kernel
def b_X5_many_52 : List Ent := [(.aload_n 0, 1, [], 0), (.getfield 10, 3, [5, 0, 1, 253], 0)]
theorem a_X5_many_52 : ck mX5_many b_X5_many_52 52 = true := by decide +kernel
theorem k_X5_many_56 : CV mX5_many 56 mX4_survey := CV.of 138 477 478 479 (by decide +kernel) (by decide +kernel) (by decide +kernel) (by decide +kernel)
theorem k_X5_many_59 : CS mX5_many 59 mJ6_bitCount_0f7a4 := CS.of 161 535 536 (by decide +kernel) (by decide +kernel) (by decide +kernel)
def b_X5_many_62 : List Ent := [(.ireturn, 1, [0], 0)]
theorem a_X5_many_62 : ck mX5_many b_X5_many_62 62 = true := by decide +kernel
def b_X5_many_63 : List Ent := [(.aload_n 0, 1, [], 0), (.getfield 10, 3, [5, 0, 1, 253], 0), (.getfield 128, 3, [4, 6, 0, 111], 0)]
theorem a_X5_many_63 : ck mX5_many b_X5_many_63 63 = true := by decide +kernel
theorem k_X5_many_70 : CS mX5_many 70 mJ6_bitCount_0f7a4 := CS.of 161 535 536 (by decide +kernel) (by decide +kernel) (by decide +kernel)
def b_X5_many_73 : List Ent := [(.ireturn, 1, [0], 0)]
theorem a_X5_many_73 : ck mX5_many b_X5_many_73 73 = true := by decide +kernel
def b_X5_many_74 : List Ent := [(.aload_n 0, 1, [], 0), (.getfield 10, 3, [5, 0, 1, 253], 0)]
theorem a_X5_many_74 : ck mX5_many b_X5_many_74 74 = true := by decide +kernel
theorem k_X5_many_78 : CV mX5_many 78 mX4_burnt := CV.of 192 613 614 615 (by decide +kernel) (by decide +kernel) (by decide +kernel) (by decide +kernel)
theorem k_X5_many_81 : CS mX5_many 81 mJ6_bitCount_0f7a4 := CS.of 161 535 536 (by decide +kernel) (by decide +kernel) (by decide +kernel)
def b_X5_many_84 : List Ent := [(.ireturn, 1, [0], 0)]
theorem a_X5_many_84 : ck mX5_many b_X5_many_84 84 = true := by decide +kernel
def b_X5_many_85 : List Ent := [(.aload_n 0, 1, [], 0), (.getfield 37, 3, [5, 6, 0, 259], 0), (.ireturn, 1, [0], 0)]
theorem a_X5_many_85 : ck mX5_many b_X5_many_85 85 = true := by decide +kernel
def b_X5_many_90 : List Ent := [(.aload_n 0, 1, [], 0), (.getfield 29, 3, [5, 4, 28, 257], 0), (.getfield 66, 3, [3, 1, 0, 163], 0), (.ireturn, 1, [0], 0)]
theorem a_X5_many_90 : ck mX5_many b_X5_many_90 90 = true := by decide +kernel
def b_X5_many_98 : List Ent := [(.aload_n 0, 1, [], 0), (.getfield 58, 3, [5, 9, 44, 262], 0), (.getfield 297, 3, [0, 1, 0, 235], 0), (.ireturn, 1, [0], 0)]
theorem a_X5_many_98 : ck mX5_many b_X5_many_98 98 = true := by decide +kernel
def b_X5_many_106 : List Ent := [(.iconst (-1), 1, [], 0), (.ireturn, 1, [0], 0)]
theorem a_X5_many_106 : ck mX5_many b_X5_many_106 106 = true := by decide +kernel
theorem o_X5_mind : MOK mX5_mind 3 := MOK.of 521 58 (by decide +kernel) (by decide +kernel) (by decide +kernel) (by decide +kernel) (by decide +kernel)
def b_X5_mind_0 : List Ent := [(.aload_n 0, 1, [], 0), (.getfield 10, 3, [5, 0, 1, 253], 0), (.iload_n 1, 1, [], 0)]
theorem a_X5_mind_0 : ck mX5_mind b_X5_mind_0 0 = true := by decide +kernel
theorem k_X5_mind_5 : CV mX5_mind 5 mX4_has := CV.of 113 469 470 471 (by decide +kernel) (by decide +kernel) (by decide +kernel) (by decide +kernel)
def b_X5_mind_8 : List Ent := [(.ifCond .eq 17, 3, [25], 0)]
theorem a_X5_mind_8 : ck mX5_mind b_X5_mind_8 8 = true := by decide +kernel
def b_X5_mind_11 : List Ent := [(.iload_n 2, 1, [], 0)]
theorem a_X5_mind_11 : ck mX5_mind b_X5_mind_11 11 = true := by decide +kernel
theorem k_X5_mind_12 : CS mX5_mind 12 mX5_isKind := CS.of 100 457 391 (by decide +kernel) (by decide +kernel) (by decide +kernel)
def b_X5_mind_15 : List Ent := [(.ifCond .eq 10, 3, [25], 0)]
theorem a_X5_mind_15 : ck mX5_mind b_X5_mind_15 15 = true := by decide +kernel
def b_X5_mind_18 : List Ent := [(.iload_n 3, 1, [], 0)]
theorem a_X5_mind_18 : ck mX5_mind b_X5_mind_18 18 = true := by decide +kernel
theorem k_X5_mind_19 : CS mX5_mind 19 mX5_isForce := CS.of 103 458 459 (by decide +kernel) (by decide +kernel) (by decide +kernel)
def b_X5_mind_22 : List Ent := [(.ifCond .ne 5, 3, [27], 0)]
theorem a_X5_mind_22 : ck mX5_mind b_X5_mind_22 22 = true := by decide +kernel
def b_X5_mind_25 : List Ent := [(.iconst (-1), 1, [], 0), (.ireturn, 1, [0], 0)]
theorem a_X5_mind_25 : ck mX5_mind b_X5_mind_25 25 = true := by decide +kernel
def b_X5_mind_27 : List Ent := [(.aload_n 0, 1, [], 0), (.getfield 10, 3, [5, 0, 1, 253], 0), (.getfield 116, 3, [4, 1, 2, 100], 0), (.iload_n 1, 1, [], 0), (.iaload, 1, [7], 0), (.istore 4, 2, [], 0), (.aload_n 0, 1, [], 0), (.getfield 10, 3, [5, 0, 1, 253], 0), (.getfield 116, 3, [4, 1, 2, 100], 0), (.iload_n 1, 1, [], 0), (.iload_n 2, 1, [], 0), (.iastore, 1, [], 0), (.aload_n 0, 1, [], 0), (.getfield 10, 3, [5, 0, 1, 253], 0), (.getfield 122, 3, [4, 3, 4, 104], 0), (.iload_n 1, 1, [], 0), (.iload_n 3, 1, [], 0), (.iastore, 1, [], 0), (.iload 4, 2, [], 0), (.ireturn, 1, [0], 0)]
theorem a_X5_mind_27 : ck mX5_mind b_X5_mind_27 27 = true := by decide +kernel
theorem o_X5_minds : MOK mX5_minds 4 := MOK.of 734 58 (by decide +kernel) (by decide +kernel) (by decide +kernel) (by decide +kernel) (by decide +kernel)
def b_X5_minds_0 : List Ent := [(.aload_n 0, 1, [], 0), (.getfield 44, 3, [5, 7, 31, 260], 0), (.iload_n 1, 1, [], 0)]
theorem a_X5_minds_0 : ck mX5_minds b_X5_minds_0 0 = true := by decide +kernel
theorem k_X5_minds_5 : CV mX5_minds 5 mX1_has := CV.of 215 676 677 678 (by decide +kernel) (by decide +kernel) (by decide +kernel) (by decide +kernel)
def b_X5_minds_8 : List Ent := [(.ifCond .eq 29, 3, [37], 0)]
theorem a_X5_minds_8 : ck mX5_minds b_X5_minds_8 8 = true := by decide +kernel
def b_X5_minds_11 : List Ent := [(.aload_n 0, 1, [], 0), (.getfield 10, 3, [5, 0, 1, 253], 0), (.iload_n 3, 1, [], 0)]
theorem a_X5_minds_11 : ck mX5_minds b_X5_minds_11 11 = true := by decide +kernel
theorem k_X5_minds_16 : CV mX5_minds 16 mX4_has := CV.of 113 469 470 471 (by decide +kernel) (by decide +kernel) (by decide +kernel) (by decide +kernel)
def b_X5_minds_19 : List Ent := [(.ifCond .eq 18, 3, [37], 0)]
theorem a_X5_minds_19 : ck mX5_minds b_X5_minds_19 19 = true := by decide +kernel
def b_X5_minds_22 : List Ent := [(.iload 4, 2, [], 0), (.iconst 0, 1, [], 0), (.bipush 8, 2, [], 0)]
theorem a_X5_minds_22 : ck mX5_minds b_X5_minds_22 22 = true := by decide +kernel
theorem k_X5_minds_27 : CS mX5_minds 27 mX5_within := CS.of 62 288 289 (by decide +kernel) (by decide +kernel) (by decide +kernel)
def b_X5_minds_30 : List Ent := [(.ifCond .eq 7, 3, [37], 0)]
theorem a_X5_minds_30 : ck mX5_minds b_X5_minds_30 30 = true := by decide +kernel
def b_X5_minds_33 : List Ent := [(.iconst 1, 1, [], 0), (.goto 4, 3, [38], 0)]
theorem a_X5_minds_33 : ck mX5_minds b_X5_minds_33 33 = true := by decide +kernel
def b_X5_minds_37 : List Ent := [(.iconst 0, 1, [], 0)]
theorem a_X5_minds_37 : ck mX5_minds b_X5_minds_37 37 = true := by decide +kernel
def b_X5_minds_38 : List Ent := [(.istore 5, 2, [], 0), (.iload 5, 2, [], 0), (.ifCond .eq 17, 3, [59], 0)]
theorem a_X5_minds_38 : ck mX5_minds b_X5_minds_38 38 = true := by decide +kernel
def b_X5_minds_45 : List Ent := [(.iload_n 3, 1, [], 0), (.iload 4, 2, [], 0), (.iadd, 1, [], 0), (.aload_n 0, 1, [], 0), (.getfield 10, 3, [5, 0, 1, 253], 0), (.getfield 87, 3, [4, 7, 0, 114], 0), (.if_icmp .le 5, 3, [61], 0)]
theorem a_X5_minds_45 : ck mX5_minds b_X5_minds_45 45 = true := by decide +kernel
def b_X5_minds_59 : List Ent := [(.iconst (-1), 1, [], 0), (.ireturn, 1, [0], 0)]
theorem a_X5_minds_59 : ck mX5_minds b_X5_minds_59 59 = true := by decide +kernel
def b_X5_minds_61 : List Ent := [(.aload_n 0, 1, [], 0), (.getfield 44, 3, [5, 7, 31, 260], 0), (.iload_n 1, 1, [], 0)]
theorem a_X5_minds_61 : ck mX5_minds b_X5_minds_61 61 = true := by decide +kernel
theorem k_X5_minds_66 : CV mX5_minds 66 mX1_isMissing := CV.of 216 681 682 683 (by decide +kernel) (by decide +kernel) (by decide +kernel) (by decide +kernel)
def b_X5_minds_69 : List Ent := [(.ifCond .eq 6, 3, [75], 0)]
theorem a_X5_minds_69 : ck mX5_minds b_X5_minds_69 69 = true := by decide +kernel
def b_X5_minds_72 : List Ent := [(.bipush (-11), 2, [], 0), (.ireturn, 1, [0], 0)]
theorem a_X5_minds_72 : ck mX5_minds b_X5_minds_72 72 = true := by decide +kernel
def b_X5_minds_75 : List Ent := [(.aload_n 0, 1, [], 0), (.getfield 44, 3, [5, 7, 31, 260], 0), (.getfield 243, 3, [1, 1, 6, 193], 0), (.iload_n 1, 1, [], 0), (.iaload, 1, [7], 0), (.ifCond .eq 6, 3, [90], 0)]
theorem a_X5_minds_75 : ck mX5_minds b_X5_minds_75 75 = true := by decide +kernel
def b_X5_minds_87 : List Ent := [(.bipush (-13), 2, [], 0), (.ireturn, 1, [0], 0)]
theorem a_X5_minds_87 : ck mX5_minds b_X5_minds_87 87 = true := by decide +kernel
def b_X5_minds_90 : List Ent := [(.iload_n 2, 1, [], 0), (.iconst 0, 1, [], 0), (.aload_n 0, 1, [], 0), (.getfield 44, 3, [5, 7, 31, 260], 0), (.getfield 246, 3, [1, 2, 7, 195], 0), (.iload_n 1, 1, [], 0), (.iaload, 1, [7], 0)]
theorem a_X5_minds_90 : ck mX5_minds b_X5_minds_90 90 = true := by decide +kernel
theorem k_X5_minds_101 : CS mX5_minds 101 mX5_within := CS.of 62 288 289 (by decide +kernel) (by decide +kernel) (by decide +kernel)
def b_X5_minds_104 : List Ent := [(.ifCond .eq 19, 3, [123], 0)]
theorem a_X5_minds_104 : ck mX5_minds b_X5_minds_104 104 = true := by decide +kernel
def b_X5_minds_107 : List Ent := [(.iload_n 2, 1, [], 0), (.iload 4, 2, [], 0), (.iadd, 1, [], 0), (.aload_n 0, 1, [], 0), (.getfield 44, 3, [5, 7, 31, 260], 0), (.getfield 246, 3, [1, 2, 7, 195], 0), (.iload_n 1, 1, [], 0), (.iaload, 1, [7], 0), (.if_icmp .le 6, 3, [126], 0)]
theorem a_X5_minds_107 : ck mX5_minds b_X5_minds_107 107 = true := by decide +kernel
def b_X5_minds_123 : List Ent := [(.bipush (-12), 2, [], 0), (.ireturn, 1, [0], 0)]
theorem a_X5_minds_123 : ck mX5_minds b_X5_minds_123 123 = true := by decide +kernel
def b_X5_minds_126 : List Ent := [(.iconst 0, 1, [], 0), (.istore 6, 2, [], 0)]
theorem a_X5_minds_126 : ck mX5_minds b_X5_minds_126 126 = true := by decide +kernel
def b_X5_minds_129 : List Ent := [(.iload 6, 2, [], 0), (.iload 4, 2, [], 0), (.if_icmp .ge 42, 3, [175], 0)]
theorem a_X5_minds_129 : ck mX5_minds b_X5_minds_129 129 = true := by decide +kernel
def b_X5_minds_136 : List Ent := [(.aload_n 0, 1, [], 0), (.getfield 10, 3, [5, 0, 1, 253], 0), (.getfield 122, 3, [4, 3, 4, 104], 0), (.iload_n 3, 1, [], 0), (.iload 6, 2, [], 0), (.iadd, 1, [], 0), (.aload_n 0, 1, [], 0), (.getfield 44, 3, [5, 7, 31, 260], 0), (.getfield 249, 3, [1, 0, 1, 191], 0), (.iload_n 1, 1, [], 0), (.aaload, 1, [], 0), (.iload_n 2, 1, [], 0), (.iload 6, 2, [], 0), (.iadd, 1, [], 0), (.laload, 1, [], 0), (.l2i, 1, [], 0), (.iconst 0, 1, [], 0), (.bipush 9, 2, [], 0)]
theorem a_X5_minds_136 : ck mX5_minds b_X5_minds_136 136 = true := by decide +kernel
theorem k_X5_minds_165 : CS mX5_minds 165 mX5_held := CS.of 253 735 574 (by decide +kernel) (by decide +kernel) (by decide +kernel)
def b_X5_minds_168 : List Ent := [(.iastore, 1, [], 0), (.iinc 6 1, 3, [], 0), (.goto (-43), 3, [129], 0)]
theorem a_X5_minds_168 : ck mX5_minds b_X5_minds_168 168 = true := by decide +kernel
def b_X5_minds_175 : List Ent := [(.iload 4, 2, [], 0), (.ireturn, 1, [0], 0)]
theorem a_X5_minds_175 : ck mX5_minds b_X5_minds_175 175 = true := by decide +kernel
theorem o_X5_narrowed : MOK mX5_narrowed 2 := MOK.of 757 58 (by decide +kernel) (by decide +kernel) (by decide +kernel) (by decide +kernel) (by decide +kernel)
def b_X5_narrowed_0 : List Ent := [(.iload_n 1, 1, [], 0), (.lookupswitch 35 #[(0, 27), (1, 31)], 27, [36, 28, 32], 0)]
theorem a_X5_narrowed_0 : ck mX5_narrowed b_X5_narrowed_0 0 = true := by decide +kernel
def b_X5_narrowed_28 : List Ent := [(.iload_n 0, 1, [], 0), (.i2b, 1, [], 0), (.i2l, 1, [], 0), (.lreturn, 1, [], 0)]
theorem a_X5_narrowed_28 : ck mX5_narrowed b_X5_narrowed_28 28 = true := by decide +kernel
def b_X5_narrowed_32 : List Ent := [(.iload_n 0, 1, [], 0), (.i2s, 1, [], 0), (.i2l, 1, [], 0), (.lreturn, 1, [], 0)]
theorem a_X5_narrowed_32 : ck mX5_narrowed b_X5_narrowed_32 32 = true := by decide +kernel
def b_X5_narrowed_36 : List Ent := [(.iload_n 0, 1, [], 0), (.i2l, 1, [], 0), (.lreturn, 1, [], 0)]
theorem a_X5_narrowed_36 : ck mX5_narrowed b_X5_narrowed_36 36 = true := by decide +kernel
theorem o_X5_odds : MOK mX5_odds 3 := MOK.of 693 58 (by decide +kernel) (by decide +kernel) (by decide +kernel) (by decide +kernel) (by decide +kernel)
def b_X5_odds_0 : List Ent := [(.iload_n 1, 1, [], 0), (.iconst 0, 1, [], 0), (.bipush 8, 2, [], 0)]
theorem a_X5_odds_0 : ck mX5_odds b_X5_odds_0 0 = true := by decide +kernel
theorem k_X5_odds_4 : CS mX5_odds 4 mX5_within := CS.of 62 288 289 (by decide +kernel) (by decide +kernel) (by decide +kernel)
def b_X5_odds_7 : List Ent := [(.ifCond .eq 21, 3, [28], 0)]
theorem a_X5_odds_7 : ck mX5_odds b_X5_odds_7 7 = true := by decide +kernel
def b_X5_odds_10 : List Ent := [(.iload_n 2, 1, [], 0), (.iconst 0, 1, [], 0), (.iload_n 1, 1, [], 0)]
theorem a_X5_odds_10 : ck mX5_odds b_X5_odds_10 10 = true := by decide +kernel
theorem k_X5_odds_13 : CS mX5_odds 13 mX5_within := CS.of 62 288 289 (by decide +kernel) (by decide +kernel) (by decide +kernel)
def b_X5_odds_16 : List Ent := [(.ifCond .eq 12, 3, [28], 0)]
theorem a_X5_odds_16 : ck mX5_odds b_X5_odds_16 16 = true := by decide +kernel
def b_X5_odds_19 : List Ent := [(.iload_n 3, 1, [], 0), (.iconst 0, 1, [], 0), (.iconst 1, 1, [], 0)]
theorem a_X5_odds_19 : ck mX5_odds b_X5_odds_19 19 = true := by decide +kernel
theorem k_X5_odds_22 : CS mX5_odds 22 mX5_within := CS.of 62 288 289 (by decide +kernel) (by decide +kernel) (by decide +kernel)
def b_X5_odds_25 : List Ent := [(.ifCond .ne 7, 3, [32], 0)]
theorem a_X5_odds_25 : ck mX5_odds b_X5_odds_25 25 = true := by decide +kernel
def b_X5_odds_28 : List Ent := [(.ldc2_w 222, 3, [0, 689], (-1)), (.lreturn, 1, [], 0)]
theorem a_X5_odds_28 : ck mX5_odds b_X5_odds_28 28 = true := by decide +kernel
def b_X5_odds_32 : List Ent := [(.aload_n 0, 1, [], 0), (.getfield 10, 3, [5, 0, 1, 253], 0), (.getfield 97, 3, [4, 0, 1, 97], 0), (.iconst 3, 1, [], 0), (.iaload, 1, [7], 0), (.istore 4, 2, [], 0), (.iload_n 1, 1, [], 0), (.iload_n 2, 1, [], 0)]
theorem a_X5_odds_32 : ck mX5_odds b_X5_odds_32 32 = true := by decide +kernel
theorem k_X5_odds_45 : CS mX5_odds 45 mX5_waysToChoose := CS.of 224 694 695 (by decide +kernel) (by decide +kernel) (by decide +kernel)
def b_X5_odds_48 : List Ent := [(.iload 4, 2, [], 0), (.iload_n 2, 1, [], 0)]
theorem a_X5_odds_48 : ck mX5_odds b_X5_odds_48 48 = true := by decide +kernel
theorem k_X5_odds_51 : CS mX5_odds 51 mX5_power := CS.of 228 697 698 (by decide +kernel) (by decide +kernel) (by decide +kernel)
def b_X5_odds_54 : List Ent := [(.lmul, 1, [], 0), (.bipush 100, 2, [], 0), (.iload 4, 2, [], 0), (.isub, 1, [], 0), (.iload_n 1, 1, [], 0), (.iload_n 2, 1, [], 0), (.isub, 1, [], 0)]
theorem a_X5_odds_54 : ck mX5_odds b_X5_odds_54 54 = true := by decide +kernel
theorem k_X5_odds_63 : CS mX5_odds 63 mX5_power := CS.of 228 697 698 (by decide +kernel) (by decide +kernel) (by decide +kernel)
def b_X5_odds_66 : List Ent := [(.lmul, 1, [], 0), (.lstore 5, 2, [], 0), (.lload 5, 2, [], 0), (.bipush 100, 2, [], 0), (.iload_n 1, 1, [], 0)]
theorem a_X5_odds_66 : ck mX5_odds b_X5_odds_66 66 = true := by decide +kernel
theorem k_X5_odds_74 : CS mX5_odds 74 mX5_power := CS.of 228 697 698 (by decide +kernel) (by decide +kernel) (by decide +kernel)
def b_X5_odds_77 : List Ent := [(.iload_n 3, 1, [], 0)]
theorem a_X5_odds_77 : ck mX5_odds b_X5_odds_77 77 = true := by decide +kernel
theorem k_X5_odds_78 : CS mX5_odds 78 mX5_partOf := CS.of 231 700 701 (by decide +kernel) (by decide +kernel) (by decide +kernel)
def b_X5_odds_81 : List Ent := [(.lreturn, 1, [], 0)]
theorem a_X5_odds_81 : ck mX5_odds b_X5_odds_81 81 = true := by decide +kernel
theorem o_X5_of : MOK mX5_of 2 := MOK.of 468 58 (by decide +kernel) (by decide +kernel) (by decide +kernel) (by decide +kernel) (by decide +kernel)
def b_X5_of_0 : List Ent := [(.aload_n 0, 1, [], 0), (.getfield 10, 3, [5, 0, 1, 253], 0), (.iload_n 1, 1, [], 0)]
theorem a_X5_of_0 : ck mX5_of b_X5_of_0 0 = true := by decide +kernel
theorem k_X5_of_5 : CV mX5_of 5 mX4_has := CV.of 113 469 470 471 (by decide +kernel) (by decide +kernel) (by decide +kernel) (by decide +kernel)
def b_X5_of_8 : List Ent := [(.ifCond .ne 5, 3, [13], 0)]
theorem a_X5_of_8 : ck mX5_of b_X5_of_8 8 = true := by decide +kernel
def b_X5_of_11 : List Ent := [(.iconst (-1), 1, [], 0), (.ireturn, 1, [0], 0)]
theorem a_X5_of_11 : ck mX5_of b_X5_of_11 11 = true := by decide +kernel
def b_X5_of_13 : List Ent := [(.iload_n 2, 1, [], 0), (.tableswitch 129 0 7 #[46, 56, 66, 76, 86, 98, 108, 120], 46, [143, 60, 70, 80, 90, 100, 112, 122, 134], 0)]
theorem a_X5_of_13 : ck mX5_of b_X5_of_13 13 = true := by decide +kernel
def b_X5_of_60 : List Ent := [(.aload_n 0, 1, [], 0), (.getfield 10, 3, [5, 0, 1, 253], 0), (.getfield 116, 3, [4, 1, 2, 100], 0), (.iload_n 1, 1, [], 0), (.iaload, 1, [7], 0), (.ireturn, 1, [0], 0)]
theorem a_X5_of_60 : ck mX5_of b_X5_of_60 60 = true := by decide +kernel
def b_X5_of_70 : List Ent := [(.aload_n 0, 1, [], 0), (.getfield 10, 3, [5, 0, 1, 253], 0), (.getfield 119, 3, [4, 2, 3, 102], 0), (.iload_n 1, 1, [], 0), (.iaload, 1, [7], 0), (.ireturn, 1, [0], 0)]
theorem a_X5_of_70 : ck mX5_of b_X5_of_70 70 = true := by decide +kernel
def b_X5_of_80 : List Ent := [(.aload_n 0, 1, [], 0), (.getfield 10, 3, [5, 0, 1, 253], 0), (.getfield 122, 3, [4, 3, 4, 104], 0), (.iload_n 1, 1, [], 0), (.iaload, 1, [7], 0), (.ireturn, 1, [0], 0)]
theorem a_X5_of_80 : ck mX5_of b_X5_of_80 80 = true := by decide +kernel
def b_X5_of_90 : List Ent := [(.aload_n 0, 1, [], 0), (.getfield 10, 3, [5, 0, 1, 253], 0), (.getfield 125, 3, [4, 4, 5, 106], 0), (.iload_n 1, 1, [], 0), (.iaload, 1, [7], 0), (.ireturn, 1, [0], 0)]
theorem a_X5_of_90 : ck mX5_of b_X5_of_90 90 = true := by decide +kernel
def b_X5_of_100 : List Ent := [(.aload_n 0, 1, [], 0), (.getfield 10, 3, [5, 0, 1, 253], 0), (.getfield 128, 3, [4, 6, 0, 111], 0), (.iload_n 1, 1, [], 0)]
theorem a_X5_of_100 : ck mX5_of b_X5_of_100 100 = true := by decide +kernel
theorem k_X5_of_108 : CS mX5_of 108 mX5_bit := CS.of 131 474 475 (by decide +kernel) (by decide +kernel) (by decide +kernel)
def b_X5_of_111 : List Ent := [(.ireturn, 1, [0], 0)]
theorem a_X5_of_111 : ck mX5_of b_X5_of_111 111 = true := by decide +kernel
def b_X5_of_112 : List Ent := [(.aload_n 0, 1, [], 0), (.getfield 10, 3, [5, 0, 1, 253], 0), (.getfield 135, 3, [4, 5, 6, 108], 0), (.iload_n 1, 1, [], 0), (.iaload, 1, [7], 0), (.ireturn, 1, [0], 0)]
theorem a_X5_of_112 : ck mX5_of b_X5_of_112 112 = true := by decide +kernel
def b_X5_of_122 : List Ent := [(.aload_n 0, 1, [], 0), (.getfield 10, 3, [5, 0, 1, 253], 0)]
theorem a_X5_of_122 : ck mX5_of b_X5_of_122 122 = true := by decide +kernel
theorem k_X5_of_126 : CV mX5_of 126 mX4_survey := CV.of 138 477 478 479 (by decide +kernel) (by decide +kernel) (by decide +kernel) (by decide +kernel)
def b_X5_of_129 : List Ent := [(.iload_n 1, 1, [], 0)]
theorem a_X5_of_129 : ck mX5_of b_X5_of_129 129 = true := by decide +kernel
theorem k_X5_of_130 : CS mX5_of 130 mX5_bit := CS.of 131 474 475 (by decide +kernel) (by decide +kernel) (by decide +kernel)
def b_X5_of_133 : List Ent := [(.ireturn, 1, [0], 0)]
theorem a_X5_of_133 : ck mX5_of b_X5_of_133 133 = true := by decide +kernel
def b_X5_of_134 : List Ent := [(.aload_n 0, 1, [], 0), (.getfield 10, 3, [5, 0, 1, 253], 0), (.iload_n 1, 1, [], 0)]
theorem a_X5_of_134 : ck mX5_of b_X5_of_134 134 = true := by decide +kernel
theorem k_X5_of_139 : CV mX5_of 139 mX4_depthOf := CV.of 142 493 494 495 (by decide +kernel) (by decide +kernel) (by decide +kernel) (by decide +kernel)
def b_X5_of_142 : List Ent := [(.ireturn, 1, [0], 0)]
theorem a_X5_of_142 : ck mX5_of b_X5_of_142 142 = true := by decide +kernel
def b_X5_of_143 : List Ent := [(.iconst (-1), 1, [], 0), (.ireturn, 1, [0], 0)]
theorem a_X5_of_143 : ck mX5_of b_X5_of_143 143 = true := by decide +kernel
theorem o_X5_partOf : MOK mX5_partOf 3 := MOK.of 702 58 (by decide +kernel) (by decide +kernel) (by decide +kernel) (by decide +kernel) (by decide +kernel)
def b_X5_partOf_0 : List Ent := [(.lload_n 0, 1, [], 0), (.lload_n 2, 1, [], 0)]
theorem a_X5_partOf_0 : ck mX5_partOf b_X5_partOf_0 0 = true := by decide +kernel
theorem k_X5_partOf_2 : CS mX5_partOf 2 mX5_commonDivisor := CS.of 309 703 704 (by decide +kernel) (by decide +kernel) (by decide +kernel)
def b_X5_partOf_5 : List Ent := [(.lstore 5, 2, [], 0), (.iload 4, 2, [], 0), (.ifCond .ne 7, 3, [16], 0)]
theorem a_X5_partOf_5 : ck mX5_partOf b_X5_partOf_5 5 = true := by decide +kernel
def b_X5_partOf_12 : List Ent := [(.lload_n 0, 1, [], 0), (.goto 4, 3, [17], 0)]
theorem a_X5_partOf_12 : ck mX5_partOf b_X5_partOf_12 12 = true := by decide +kernel
def b_X5_partOf_16 : List Ent := [(.lload_n 2, 1, [], 0)]
theorem a_X5_partOf_16 : ck mX5_partOf b_X5_partOf_16 16 = true := by decide +kernel
def b_X5_partOf_17 : List Ent := [(.lstore 7, 2, [], 0), (.lload 5, 2, [], 0), (.lconst 0, 1, [], 0), (.lcmp, 1, [], 0), (.ifCond .ne 8, 3, [31], 0)]
theorem a_X5_partOf_17 : ck mX5_partOf b_X5_partOf_17 17 = true := by decide +kernel
def b_X5_partOf_26 : List Ent := [(.lload 7, 2, [], 0), (.goto 8, 3, [36], 0)]
theorem a_X5_partOf_26 : ck mX5_partOf b_X5_partOf_26 26 = true := by decide +kernel
def b_X5_partOf_31 : List Ent := [(.lload 7, 2, [], 0), (.lload 5, 2, [], 0), (.ldiv, 1, [], 0)]
theorem a_X5_partOf_31 : ck mX5_partOf b_X5_partOf_31 31 = true := by decide +kernel
def b_X5_partOf_36 : List Ent := [(.lreturn, 1, [], 0)]
theorem a_X5_partOf_36 : ck mX5_partOf b_X5_partOf_36 36 = true := by decide +kernel
theorem o_X5_power : MOK mX5_power 2 := MOK.of 699 58 (by decide +kernel) (by decide +kernel) (by decide +kernel) (by decide +kernel) (by decide +kernel)
def b_X5_power_0 : List Ent := [(.lconst 1, 1, [], 0), (.lstore_n 2, 1, [], 0), (.iconst 0, 1, [], 0), (.istore 4, 2, [], 0)]
theorem a_X5_power_0 : ck mX5_power b_X5_power_0 0 = true := by decide +kernel
def b_X5_power_5 : List Ent := [(.iload 4, 2, [], 0), (.iload_n 1, 1, [], 0), (.if_icmp .ge 14, 3, [22], 0)]
theorem a_X5_power_5 : ck mX5_power b_X5_power_5 5 = true := by decide +kernel
def b_X5_power_11 : List Ent := [(.lload_n 2, 1, [], 0), (.iload_n 0, 1, [], 0), (.i2l, 1, [], 0), (.lmul, 1, [], 0), (.lstore_n 2, 1, [], 0), (.iinc 4 1, 3, [], 0), (.goto (-14), 3, [5], 0)]
theorem a_X5_power_11 : ck mX5_power b_X5_power_11 11 = true := by decide +kernel
def b_X5_power_22 : List Ent := [(.lload_n 2, 1, [], 0), (.lreturn, 1, [], 0)]
theorem a_X5_power_22 : ck mX5_power b_X5_power_22 22 = true := by decide +kernel
theorem o_X5_prove : MOK mX5_prove 2 := MOK.of 714 58 (by decide +kernel) (by decide +kernel) (by decide +kernel) (by decide +kernel) (by decide +kernel)
def b_X5_prove_0 : List Ent := [(.aload_n 0, 1, [], 0), (.getfield 10, 3, [5, 0, 1, 253], 0), (.iload_n 1, 1, [], 0)]
theorem a_X5_prove_0 : ck mX5_prove b_X5_prove_0 0 = true := by decide +kernel
theorem k_X5_prove_5 : CV mX5_prove 5 mX4_has := CV.of 113 469 470 471 (by decide +kernel) (by decide +kernel) (by decide +kernel) (by decide +kernel)
def b_X5_prove_8 : List Ent := [(.ifCond .eq 13, 3, [21], 0)]
theorem a_X5_prove_8 : ck mX5_prove b_X5_prove_8 8 = true := by decide +kernel
def b_X5_prove_11 : List Ent := [(.iload_n 2, 1, [], 0), (.iconst 1, 1, [], 0), (.bipush 10, 2, [], 0)]
theorem a_X5_prove_11 : ck mX5_prove b_X5_prove_11 11 = true := by decide +kernel
theorem k_X5_prove_15 : CS mX5_prove 15 mX5_within := CS.of 62 288 289 (by decide +kernel) (by decide +kernel) (by decide +kernel)
def b_X5_prove_18 : List Ent := [(.ifCond .ne 5, 3, [23], 0)]
theorem a_X5_prove_18 : ck mX5_prove b_X5_prove_18 18 = true := by decide +kernel
def b_X5_prove_21 : List Ent := [(.iconst (-1), 1, [], 0), (.ireturn, 1, [0], 0)]
theorem a_X5_prove_21 : ck mX5_prove b_X5_prove_21 21 = true := by decide +kernel
def b_X5_prove_23 : List Ent := [(.aload_n 0, 1, [], 0)]
theorem a_X5_prove_23 : ck mX5_prove b_X5_prove_23 23 = true := by decide +kernel
theorem k_X5_prove_24 : CV mX5_prove 24 mX5_tryNow := CV.of 182 601 603 0 (by decide +kernel) (by decide +kernel) (by decide +kernel) (by decide +kernel)
def b_X5_prove_27 : List Ent := [(.pop, 1, [], 0), (.iconst 0, 1, [], 0), (.istore_n 3, 1, [], 0)]
theorem a_X5_prove_27 : ck mX5_prove b_X5_prove_27 27 = true := by decide +kernel
def b_X5_prove_30 : List Ent := [(.iload_n 3, 1, [], 0), (.iload_n 2, 1, [], 0), (.if_icmp .ge 66, 3, [98], 0)]
theorem a_X5_prove_30 : ck mX5_prove b_X5_prove_30 30 = true := by decide +kernel
def b_X5_prove_35 : List Ent := [(.iload_n 3, 1, [], 0), (.iconst 3, 1, [], 0), (.imul, 1, [], 0), (.istore 4, 2, [], 0), (.aload_n 0, 1, [], 0), (.getfield 33, 3, [5, 5, 30, 258], 0), (.iload 4, 2, [], 0), (.iconst 2, 1, [], 0), (.iadd, 1, [], 0), (.aload_n 0, 1, [], 0), (.getfield 16, 3, [5, 1, 10, 254], 0)]
theorem a_X5_prove_35 : ck mX5_prove b_X5_prove_35 35 = true := by decide +kernel
theorem k_X5_prove_52 : CV mX5_prove 52 mX4_passYear := CV.of 199 629 562 563 (by decide +kernel) (by decide +kernel) (by decide +kernel) (by decide +kernel)
def b_X5_prove_55 : List Ent := [(.iastore, 1, [], 0), (.aload_n 0, 1, [], 0), (.getfield 33, 3, [5, 5, 30, 258], 0), (.iload 4, 2, [], 0), (.aload_n 0, 1, [], 0), (.getfield 16, 3, [5, 1, 10, 254], 0), (.getfield 122, 3, [4, 3, 4, 104], 0), (.iload_n 1, 1, [], 0), (.iaload, 1, [7], 0), (.iastore, 1, [], 0), (.aload_n 0, 1, [], 0), (.getfield 33, 3, [5, 5, 30, 258], 0), (.iload 4, 2, [], 0), (.iconst 1, 1, [], 0), (.iadd, 1, [], 0), (.aload_n 0, 1, [], 0), (.getfield 16, 3, [5, 1, 10, 254], 0), (.getfield 237, 3, [4, 11, 0, 122], 0), (.iload_n 1, 1, [], 0)]
theorem a_X5_prove_55 : ck mX5_prove b_X5_prove_55 55 = true := by decide +kernel
theorem k_X5_prove_88 : CS mX5_prove 88 mX5_bit := CS.of 131 474 475 (by decide +kernel) (by decide +kernel) (by decide +kernel)
def b_X5_prove_91 : List Ent := [(.iastore, 1, [], 0), (.iinc 3 1, 3, [], 0), (.goto (-65), 3, [30], 0)]
theorem a_X5_prove_91 : ck mX5_prove b_X5_prove_91 91 = true := by decide +kernel
def b_X5_prove_98 : List Ent := [(.aload_n 0, 1, [], 0), (.iload_n 2, 1, [], 0), (.putfield 37, 3, [5, 6, 0, 259], 0), (.iload_n 2, 1, [], 0), (.ireturn, 1, [0], 0)]
theorem a_X5_prove_98 : ck mX5_prove b_X5_prove_98 98 = true := by decide +kernel
theorem o_X5_put : MOK mX5_put 3 := MOK.of 750 58 (by decide +kernel) (by decide +kernel) (by decide +kernel) (by decide +kernel) (by decide +kernel)
def b_X5_put_0 : List Ent := [(.aload_n 0, 1, [], 0), (.getfield 44, 3, [5, 7, 31, 260], 0), (.iload_n 1, 1, [], 0)]
theorem a_X5_put_0 : ck mX5_put b_X5_put_0 0 = true := by decide +kernel
theorem k_X5_put_5 : CV mX5_put 5 mX1_has := CV.of 215 676 677 678 (by decide +kernel) (by decide +kernel) (by decide +kernel) (by decide +kernel)
def b_X5_put_8 : List Ent := [(.ifCond .ne 5, 3, [13], 0)]
theorem a_X5_put_8 : ck mX5_put b_X5_put_8 8 = true := by decide +kernel
def b_X5_put_11 : List Ent := [(.iconst (-1), 1, [], 0), (.ireturn, 1, [0], 0)]
theorem a_X5_put_11 : ck mX5_put b_X5_put_11 11 = true := by decide +kernel
def b_X5_put_13 : List Ent := [(.aload_n 0, 1, [], 0), (.getfield 44, 3, [5, 7, 31, 260], 0), (.iload_n 1, 1, [], 0)]
theorem a_X5_put_13 : ck mX5_put b_X5_put_13 13 = true := by decide +kernel
theorem k_X5_put_18 : CV mX5_put 18 mX1_isMissing := CV.of 216 681 682 683 (by decide +kernel) (by decide +kernel) (by decide +kernel) (by decide +kernel)
def b_X5_put_21 : List Ent := [(.ifCond .eq 6, 3, [27], 0)]
theorem a_X5_put_21 : ck mX5_put b_X5_put_21 21 = true := by decide +kernel
def b_X5_put_24 : List Ent := [(.bipush (-11), 2, [], 0), (.ireturn, 1, [0], 0)]
theorem a_X5_put_24 : ck mX5_put b_X5_put_24 24 = true := by decide +kernel
def b_X5_put_27 : List Ent := [(.aload_n 0, 1, [], 0), (.getfield 44, 3, [5, 7, 31, 260], 0), (.iload_n 1, 1, [], 0), (.iload_n 2, 1, [], 0)]
theorem a_X5_put_27 : ck mX5_put b_X5_put_27 27 = true := by decide +kernel
theorem k_X5_put_33 : CV mX5_put 33 mX1_hasItem := CV.of 261 751 752 753 (by decide +kernel) (by decide +kernel) (by decide +kernel) (by decide +kernel)
def b_X5_put_36 : List Ent := [(.ifCond .ne 6, 3, [42], 0)]
theorem a_X5_put_36 : ck mX5_put b_X5_put_36 36 = true := by decide +kernel
def b_X5_put_39 : List Ent := [(.bipush (-12), 2, [], 0), (.ireturn, 1, [0], 0)]
theorem a_X5_put_39 : ck mX5_put b_X5_put_39 39 = true := by decide +kernel
def b_X5_put_42 : List Ent := [(.aload_n 0, 1, [], 0), (.getfield 44, 3, [5, 7, 31, 260], 0), (.getfield 249, 3, [1, 0, 1, 191], 0), (.iload_n 1, 1, [], 0), (.aaload, 1, [], 0), (.iload_n 2, 1, [], 0), (.iload_n 3, 1, [], 0), (.aload_n 0, 1, [], 0), (.getfield 44, 3, [5, 7, 31, 260], 0), (.getfield 243, 3, [1, 1, 6, 193], 0), (.iload_n 1, 1, [], 0), (.iaload, 1, [7], 0)]
theorem a_X5_put_42 : ck mX5_put b_X5_put_42 42 = true := by decide +kernel
theorem k_X5_put_62 : CS mX5_put 62 mX5_narrowed := CS.of 264 755 756 (by decide +kernel) (by decide +kernel) (by decide +kernel)
def b_X5_put_65 : List Ent := [(.lastore, 1, [], 0), (.iconst 1, 1, [], 0), (.ireturn, 1, [0], 0)]
theorem a_X5_put_65 : ck mX5_put b_X5_put_65 65 = true := by decide +kernel
theorem o_X5_regret : MOK mX5_regret 2 := MOK.of 663 58 (by decide +kernel) (by decide +kernel) (by decide +kernel) (by decide +kernel) (by decide +kernel)
def b_X5_regret_0 : List Ent := [(.aload_n 0, 1, [], 0), (.getfield 10, 3, [5, 0, 1, 253], 0), (.iload_n 1, 1, [], 0)]
theorem a_X5_regret_0 : ck mX5_regret b_X5_regret_0 0 = true := by decide +kernel
theorem k_X5_regret_5 : CV mX5_regret 5 mX4_has := CV.of 113 469 470 471 (by decide +kernel) (by decide +kernel) (by decide +kernel) (by decide +kernel)
def b_X5_regret_8 : List Ent := [(.ifCond .eq 13, 3, [21], 0)]
theorem a_X5_regret_8 : ck mX5_regret b_X5_regret_8 8 = true := by decide +kernel
def b_X5_regret_11 : List Ent := [(.iload_n 2, 1, [], 0), (.iconst 1, 1, [], 0), (.bipush 20, 2, [], 0)]
theorem a_X5_regret_11 : ck mX5_regret b_X5_regret_11 11 = true := by decide +kernel
theorem k_X5_regret_15 : CS mX5_regret 15 mX5_within := CS.of 62 288 289 (by decide +kernel) (by decide +kernel) (by decide +kernel)
def b_X5_regret_18 : List Ent := [(.ifCond .ne 5, 3, [23], 0)]
theorem a_X5_regret_18 : ck mX5_regret b_X5_regret_18 18 = true := by decide +kernel
def b_X5_regret_21 : List Ent := [(.iconst (-1), 1, [], 0), (.ireturn, 1, [0], 0)]
theorem a_X5_regret_21 : ck mX5_regret b_X5_regret_21 21 = true := by decide +kernel
def b_X5_regret_23 : List Ent := [(.aload_n 0, 1, [], 0), (.getfield 10, 3, [5, 0, 1, 253], 0), (.iload_n 1, 1, [], 0)]
theorem a_X5_regret_23 : ck mX5_regret b_X5_regret_23 23 = true := by decide +kernel
theorem k_X5_regret_28 : CV mX5_regret 28 mX4_canBeHadBack := CV.of 166 545 546 547 (by decide +kernel) (by decide +kernel) (by decide +kernel) (by decide +kernel)
def b_X5_regret_31 : List Ent := [(.ifCond .ne 6, 3, [37], 0)]
theorem a_X5_regret_31 : ck mX5_regret b_X5_regret_31 31 = true := by decide +kernel
def b_X5_regret_34 : List Ent := [(.bipush (-3), 2, [], 0), (.ireturn, 1, [0], 0)]
theorem a_X5_regret_34 : ck mX5_regret b_X5_regret_34 34 = true := by decide +kernel
def b_X5_regret_37 : List Ent := [(.aload_n 0, 1, [], 0)]
theorem a_X5_regret_37 : ck mX5_regret b_X5_regret_37 37 = true := by decide +kernel
theorem k_X5_regret_38 : CV mX5_regret 38 mX5_tryNow := CV.of 182 601 603 0 (by decide +kernel) (by decide +kernel) (by decide +kernel) (by decide +kernel)
def b_X5_regret_41 : List Ent := [(.iload_n 2, 1, [], 0)]
theorem a_X5_regret_41 : ck mX5_regret b_X5_regret_41 41 = true := by decide +kernel
theorem k_X5_regret_42 : CV mX5_regret 42 mX4_passYears := CV.of 173 557 558 559 (by decide +kernel) (by decide +kernel) (by decide +kernel) (by decide +kernel)
def b_X5_regret_45 : List Ent := [(.istore_n 3, 1, [], 0), (.aload_n 0, 1, [], 0)]
theorem a_X5_regret_45 : ck mX5_regret b_X5_regret_45 45 = true := by decide +kernel
theorem k_X5_regret_47 : CV mX5_regret 47 mX5_tryNow := CV.of 182 601 603 0 (by decide +kernel) (by decide +kernel) (by decide +kernel) (by decide +kernel)
def b_X5_regret_50 : List Ent := [(.iload_n 1, 1, [], 0)]
theorem a_X5_regret_50 : ck mX5_regret b_X5_regret_50 50 = true := by decide +kernel
theorem k_X5_regret_51 : CV mX5_regret 51 mX4_haveBack := CV.of 169 549 550 551 (by decide +kernel) (by decide +kernel) (by decide +kernel) (by decide +kernel)
def b_X5_regret_54 : List Ent := [(.sipush 10000, 3, [], 0), (.aload_n 0, 1, [], 0), (.getfield 16, 3, [5, 1, 10, 254], 0), (.iload_n 2, 1, [], 0)]
theorem a_X5_regret_54 : ck mX5_regret b_X5_regret_54 54 = true := by decide +kernel
theorem k_X5_regret_62 : CV mX5_regret 62 mX4_passYears := CV.of 173 557 558 559 (by decide +kernel) (by decide +kernel) (by decide +kernel) (by decide +kernel)
def b_X5_regret_65 : List Ent := [(.iadd, 1, [], 0), (.iload_n 3, 1, [], 0), (.isub, 1, [], 0), (.ireturn, 1, [0], 0)]
theorem a_X5_regret_65 : ck mX5_regret b_X5_regret_65 65 = true := by decide +kernel
theorem o_X5_ripe : MOK mX5_ripe 1 := MOK.of 633 58 (by decide +kernel) (by decide +kernel) (by decide +kernel) (by decide +kernel) (by decide +kernel)
def b_X5_ripe_0 : List Ent := [(.aload_n 0, 1, [], 0), (.getfield 10, 3, [5, 0, 1, 253], 0), (.iload_n 1, 1, [], 0)]
theorem a_X5_ripe_0 : ck mX5_ripe b_X5_ripe_0 0 = true := by decide +kernel
theorem k_X5_ripe_5 : CV mX5_ripe 5 mX4_has := CV.of 113 469 470 471 (by decide +kernel) (by decide +kernel) (by decide +kernel) (by decide +kernel)
def b_X5_ripe_8 : List Ent := [(.ifCond .ne 5, 3, [13], 0)]
theorem a_X5_ripe_8 : ck mX5_ripe b_X5_ripe_8 8 = true := by decide +kernel
def b_X5_ripe_11 : List Ent := [(.iconst (-1), 1, [], 0), (.ireturn, 1, [0], 0)]
theorem a_X5_ripe_11 : ck mX5_ripe b_X5_ripe_11 11 = true := by decide +kernel
def b_X5_ripe_13 : List Ent := [(.aload_n 0, 1, [], 0)]
theorem a_X5_ripe_13 : ck mX5_ripe b_X5_ripe_13 13 = true := by decide +kernel
theorem k_X5_ripe_14 : CV mX5_ripe 14 mX5_tryNow := CV.of 182 601 603 0 (by decide +kernel) (by decide +kernel) (by decide +kernel) (by decide +kernel)
def b_X5_ripe_17 : List Ent := [(.pop, 1, [], 0), (.iconst 0, 1, [], 0), (.istore_n 2, 1, [], 0)]
theorem a_X5_ripe_17 : ck mX5_ripe b_X5_ripe_17 17 = true := by decide +kernel
def b_X5_ripe_20 : List Ent := [(.iload_n 2, 1, [], 0), (.bipush 60, 2, [], 0), (.if_icmp .gt 33, 3, [56], 0)]
theorem a_X5_ripe_20 : ck mX5_ripe b_X5_ripe_20 20 = true := by decide +kernel
def b_X5_ripe_26 : List Ent := [(.aload_n 0, 1, [], 0), (.getfield 16, 3, [5, 1, 10, 254], 0), (.getfield 122, 3, [4, 3, 4, 104], 0), (.iload_n 1, 1, [], 0), (.iaload, 1, [7], 0), (.bipush 9, 2, [], 0), (.if_icmp .ne 5, 3, [42], 0)]
theorem a_X5_ripe_26 : ck mX5_ripe b_X5_ripe_26 26 = true := by decide +kernel
def b_X5_ripe_40 : List Ent := [(.iload_n 2, 1, [], 0), (.ireturn, 1, [0], 0)]
theorem a_X5_ripe_40 : ck mX5_ripe b_X5_ripe_40 40 = true := by decide +kernel
def b_X5_ripe_42 : List Ent := [(.aload_n 0, 1, [], 0), (.getfield 16, 3, [5, 1, 10, 254], 0)]
theorem a_X5_ripe_42 : ck mX5_ripe b_X5_ripe_42 42 = true := by decide +kernel
theorem k_X5_ripe_46 : CV mX5_ripe 46 mX4_passYear := CV.of 199 629 562 563 (by decide +kernel) (by decide +kernel) (by decide +kernel) (by decide +kernel)
def b_X5_ripe_49 : List Ent := [(.pop, 1, [], 0), (.iinc 2 1, 3, [], 0), (.goto (-33), 3, [20], 0)]
theorem a_X5_ripe_49 : ck mX5_ripe b_X5_ripe_49 49 = true := by decide +kernel
def b_X5_ripe_56 : List Ent := [(.bipush (-3), 2, [], 0), (.ireturn, 1, [0], 0)]
theorem a_X5_ripe_56 : ck mX5_ripe b_X5_ripe_56 56 = true := by decide +kernel
theorem o_X5_row : MOK mX5_row 2 := MOK.of 718 58 (by decide +kernel) (by decide +kernel) (by decide +kernel) (by decide +kernel) (by decide +kernel)
def b_X5_row_0 : List Ent := [(.aload_n 0, 1, [], 0), (.iload_n 1, 1, [], 0), (.iload_n 2, 1, [], 0)]
theorem a_X5_row_0 : ck mX5_row b_X5_row_0 0 = true := by decide +kernel
theorem k_X5_row_3 : CV mX5_row 3 mX5_hasRow := CV.of 240 719 721 4 (by decide +kernel) (by decide +kernel) (by decide +kernel) (by decide +kernel)
def b_X5_row_6 : List Ent := [(.ifCond .eq 16, 3, [22], 0)]
theorem a_X5_row_6 : ck mX5_row b_X5_row_6 6 = true := by decide +kernel
def b_X5_row_9 : List Ent := [(.aload_n 0, 1, [], 0), (.getfield 33, 3, [5, 5, 30, 258], 0), (.iload_n 1, 1, [], 0), (.iconst 3, 1, [], 0), (.imul, 1, [], 0), (.iload_n 2, 1, [], 0), (.iadd, 1, [], 0), (.iaload, 1, [7], 0), (.goto 5, 3, [24], 0)]
theorem a_X5_row_9 : ck mX5_row b_X5_row_9 9 = true := by decide +kernel
def b_X5_row_22 : List Ent := [(.bipush (-9), 2, [], 0)]
theorem a_X5_row_22 : ck mX5_row b_X5_row_22 22 = true := by decide +kernel
def b_X5_row_24 : List Ent := [(.ireturn, 1, [0], 0)]
theorem a_X5_row_24 : ck mX5_row b_X5_row_24 24 = true := by decide +kernel
theorem o_X5_seed : MOK mX5_seed 1 := MOK.of 583 58 (by decide +kernel) (by decide +kernel) (by decide +kernel) (by decide +kernel) (by decide +kernel)
def b_X5_seed_0 : List Ent := [(.aload_n 0, 1, [], 0), (.getfield 10, 3, [5, 0, 1, 253], 0), (.getfield 80, 3, [4, 10, 0, 120], 0), (.istore_n 2, 1, [], 0), (.aload_n 0, 1, [], 0), (.getfield 10, 3, [5, 0, 1, 253], 0), (.iload_n 1, 1, [], 0), (.putfield 80, 3, [4, 10, 0, 120], 0), (.iload_n 2, 1, [], 0), (.ireturn, 1, [0], 0)]
theorem a_X5_seed_0 : ck mX5_seed b_X5_seed_0 0 = true := by decide +kernel
theorem o_X5_set : MOK mX5_set 2 := MOK.of 446 58 (by decide +kernel) (by decide +kernel) (by decide +kernel) (by decide +kernel) (by decide +kernel)
def b_X5_set_0 : List Ent := [(.iload_n 1, 1, [], 0)]
theorem a_X5_set_0 : ck mX5_set b_X5_set_0 0 = true := by decide +kernel
theorem k_X5_set_1 : CS mX5_set 1 mX5_isLaw := CS.of 90 447 430 (by decide +kernel) (by decide +kernel) (by decide +kernel)
def b_X5_set_4 : List Ent := [(.ifCond .eq 16, 3, [20], 0)]
theorem a_X5_set_4 : ck mX5_set b_X5_set_4 4 = true := by decide +kernel
def b_X5_set_7 : List Ent := [(.iload_n 2, 1, [], 0), (.iconst 0, 1, [], 0), (.getstatic 94, 3, [0, 0, 448], 0), (.iload_n 1, 1, [], 0), (.iaload, 1, [10], 0)]
theorem a_X5_set_7 : ck mX5_set b_X5_set_7 7 = true := by decide +kernel
theorem k_X5_set_14 : CS mX5_set 14 mX5_within := CS.of 62 288 289 (by decide +kernel) (by decide +kernel) (by decide +kernel)
def b_X5_set_17 : List Ent := [(.ifCond .ne 5, 3, [22], 0)]
theorem a_X5_set_17 : ck mX5_set b_X5_set_17 17 = true := by decide +kernel
def b_X5_set_20 : List Ent := [(.iconst (-1), 1, [], 0), (.ireturn, 1, [0], 0)]
theorem a_X5_set_20 : ck mX5_set b_X5_set_20 20 = true := by decide +kernel
def b_X5_set_22 : List Ent := [(.aload_n 0, 1, [], 0), (.getfield 10, 3, [5, 0, 1, 253], 0), (.getfield 97, 3, [4, 0, 1, 97], 0), (.iload_n 1, 1, [], 0), (.iaload, 1, [7], 0), (.istore_n 3, 1, [], 0), (.aload_n 0, 1, [], 0), (.getfield 10, 3, [5, 0, 1, 253], 0), (.getfield 97, 3, [4, 0, 1, 97], 0), (.iload_n 1, 1, [], 0), (.iload_n 2, 1, [], 0), (.iastore, 1, [], 0), (.iload_n 3, 1, [], 0), (.ireturn, 1, [0], 0)]
theorem a_X5_set_22 : ck mX5_set b_X5_set_22 22 = true := by decide +kernel
theorem o_X5_sheet : MOK mX5_sheet 3 := MOK.of 739 58 (by decide +kernel) (by decide +kernel) (by decide +kernel) (by decide +kernel) (by decide +kernel)
def b_X5_sheet_0 : List Ent := [(.aload_n 0, 1, [], 0), (.getfield 44, 3, [5, 7, 31, 260], 0), (.iload_n 1, 1, [], 0)]
theorem a_X5_sheet_0 : ck mX5_sheet b_X5_sheet_0 0 = true := by decide +kernel
theorem k_X5_sheet_5 : CV mX5_sheet 5 mX1_has := CV.of 215 676 677 678 (by decide +kernel) (by decide +kernel) (by decide +kernel) (by decide +kernel)
def b_X5_sheet_8 : List Ent := [(.ifCond .eq 12, 3, [20], 0)]
theorem a_X5_sheet_8 : ck mX5_sheet b_X5_sheet_8 8 = true := by decide +kernel
def b_X5_sheet_11 : List Ent := [(.iload_n 2, 1, [], 0), (.iconst (-1), 1, [], 0), (.iconst 3, 1, [], 0)]
theorem a_X5_sheet_11 : ck mX5_sheet b_X5_sheet_11 11 = true := by decide +kernel
theorem k_X5_sheet_14 : CS mX5_sheet 14 mX5_within := CS.of 62 288 289 (by decide +kernel) (by decide +kernel) (by decide +kernel)
def b_X5_sheet_17 : List Ent := [(.ifCond .ne 5, 3, [22], 0)]
theorem a_X5_sheet_17 : ck mX5_sheet b_X5_sheet_17 17 = true := by decide +kernel
def b_X5_sheet_20 : List Ent := [(.iconst (-1), 1, [], 0), (.ireturn, 1, [0], 0)]
theorem a_X5_sheet_20 : ck mX5_sheet b_X5_sheet_20 20 = true := by decide +kernel
def b_X5_sheet_22 : List Ent := [(.iload_n 2, 1, [], 0), (.iconst (-1), 1, [], 0), (.if_icmp .ne 15, 3, [39], 0)]
theorem a_X5_sheet_22 : ck mX5_sheet b_X5_sheet_22 22 = true := by decide +kernel
def b_X5_sheet_27 : List Ent := [(.aload_n 0, 1, [], 0), (.getfield 44, 3, [5, 7, 31, 260], 0), (.getfield 243, 3, [1, 1, 6, 193], 0), (.iload_n 1, 1, [], 0), (.iconst (-1), 1, [], 0), (.iastore, 1, [], 0), (.iconst 1, 1, [], 0), (.ireturn, 1, [0], 0)]
theorem a_X5_sheet_27 : ck mX5_sheet b_X5_sheet_27 27 = true := by decide +kernel
def b_X5_sheet_39 : List Ent := [(.iload_n 3, 1, [], 0), (.bipush 40, 2, [], 0), (.if_icmp .le 5, 3, [47], 0)]
theorem a_X5_sheet_39 : ck mX5_sheet b_X5_sheet_39 39 = true := by decide +kernel
def b_X5_sheet_45 : List Ent := [(.iconst (-1), 1, [], 0), (.ireturn, 1, [0], 0)]
theorem a_X5_sheet_45 : ck mX5_sheet b_X5_sheet_45 45 = true := by decide +kernel
def b_X5_sheet_47 : List Ent := [(.iload_n 3, 1, [], 0), (.ifCond .ge 6, 3, [54], 0)]
theorem a_X5_sheet_47 : ck mX5_sheet b_X5_sheet_47 47 = true := by decide +kernel
def b_X5_sheet_51 : List Ent := [(.bipush (-14), 2, [], 0), (.ireturn, 1, [0], 0)]
theorem a_X5_sheet_51 : ck mX5_sheet b_X5_sheet_51 51 = true := by decide +kernel
def b_X5_sheet_54 : List Ent := [(.aload_n 0, 1, [], 0), (.getfield 44, 3, [5, 7, 31, 260], 0), (.iload_n 1, 1, [], 0), (.iload_n 2, 1, [], 0), (.iload_n 3, 1, [], 0)]
theorem a_X5_sheet_54 : ck mX5_sheet b_X5_sheet_54 54 = true := by decide +kernel
theorem k_X5_sheet_61 : CV mX5_sheet 61 mX1_lay := CV.of 257 740 741 742 (by decide +kernel) (by decide +kernel) (by decide +kernel) (by decide +kernel)
def b_X5_sheet_64 : List Ent := [(.iconst 1, 1, [], 0), (.ireturn, 1, [0], 0)]
theorem a_X5_sheet_64 : ck mX5_sheet b_X5_sheet_64 64 = true := by decide +kernel
theorem o_X5_shelf : MOK mX5_shelf 3 := MOK.of 765 58 (by decide +kernel) (by decide +kernel) (by decide +kernel) (by decide +kernel) (by decide +kernel)
def b_X5_shelf_0 : List Ent := [(.aload_n 0, 1, [], 0), (.getfield 51, 3, [5, 8, 39, 261], 0), (.iload_n 1, 1, [], 0)]
theorem a_X5_shelf_0 : ck mX5_shelf b_X5_shelf_0 0 = true := by decide +kernel
theorem k_X5_shelf_5 : CV mX5_shelf 5 mX2_has := CV.of 267 766 767 768 (by decide +kernel) (by decide +kernel) (by decide +kernel) (by decide +kernel)
def b_X5_shelf_8 : List Ent := [(.ifCond .eq 12, 3, [20], 0)]
theorem a_X5_shelf_8 : ck mX5_shelf b_X5_shelf_8 8 = true := by decide +kernel
def b_X5_shelf_11 : List Ent := [(.iload_n 2, 1, [], 0), (.iconst 0, 1, [], 0), (.iconst 2, 1, [], 0)]
theorem a_X5_shelf_11 : ck mX5_shelf b_X5_shelf_11 11 = true := by decide +kernel
theorem k_X5_shelf_14 : CS mX5_shelf 14 mX5_within := CS.of 62 288 289 (by decide +kernel) (by decide +kernel) (by decide +kernel)
def b_X5_shelf_17 : List Ent := [(.ifCond .ne 5, 3, [22], 0)]
theorem a_X5_shelf_17 : ck mX5_shelf b_X5_shelf_17 17 = true := by decide +kernel
def b_X5_shelf_20 : List Ent := [(.iconst (-1), 1, [], 0), (.ireturn, 1, [0], 0)]
theorem a_X5_shelf_20 : ck mX5_shelf b_X5_shelf_20 20 = true := by decide +kernel
def b_X5_shelf_22 : List Ent := [(.iload_n 2, 1, [], 0), (.ifCond .ne 14, 3, [37], 0)]
theorem a_X5_shelf_22 : ck mX5_shelf b_X5_shelf_22 22 = true := by decide +kernel
def b_X5_shelf_26 : List Ent := [(.aload_n 0, 1, [], 0), (.getfield 10, 3, [5, 0, 1, 253], 0), (.iload_n 3, 1, [], 0)]
theorem a_X5_shelf_26 : ck mX5_shelf b_X5_shelf_26 26 = true := by decide +kernel
theorem k_X5_shelf_31 : CV mX5_shelf 31 mX4_has := CV.of 113 469 470 471 (by decide +kernel) (by decide +kernel) (by decide +kernel) (by decide +kernel)
def b_X5_shelf_34 : List Ent := [(.ifCond .eq 19, 3, [53], 0)]
theorem a_X5_shelf_34 : ck mX5_shelf b_X5_shelf_34 34 = true := by decide +kernel
def b_X5_shelf_37 : List Ent := [(.iload_n 2, 1, [], 0), (.iconst 1, 1, [], 0), (.if_icmp .ne 16, 3, [55], 0)]
theorem a_X5_shelf_37 : ck mX5_shelf b_X5_shelf_37 37 = true := by decide +kernel
def b_X5_shelf_42 : List Ent := [(.aload_n 0, 1, [], 0), (.getfield 44, 3, [5, 7, 31, 260], 0), (.iload_n 3, 1, [], 0)]
theorem a_X5_shelf_42 : ck mX5_shelf b_X5_shelf_42 42 = true := by decide +kernel
theorem k_X5_shelf_47 : CV mX5_shelf 47 mX1_has := CV.of 215 676 677 678 (by decide +kernel) (by decide +kernel) (by decide +kernel) (by decide +kernel)
def b_X5_shelf_50 : List Ent := [(.ifCond .ne 5, 3, [55], 0)]
theorem a_X5_shelf_50 : ck mX5_shelf b_X5_shelf_50 50 = true := by decide +kernel
def b_X5_shelf_53 : List Ent := [(.iconst (-1), 1, [], 0), (.ireturn, 1, [0], 0)]
theorem a_X5_shelf_53 : ck mX5_shelf b_X5_shelf_53 53 = true := by decide +kernel
def b_X5_shelf_55 : List Ent := [(.iload_n 2, 1, [], 0), (.ifCond .ne 15, 3, [71], 0)]
theorem a_X5_shelf_55 : ck mX5_shelf b_X5_shelf_55 55 = true := by decide +kernel
def b_X5_shelf_59 : List Ent := [(.aload_n 0, 1, [], 0), (.getfield 51, 3, [5, 8, 39, 261], 0), (.iload_n 1, 1, [], 0), (.iload_n 3, 1, [], 0)]
theorem a_X5_shelf_59 : ck mX5_shelf b_X5_shelf_59 59 = true := by decide +kernel
theorem k_X5_shelf_65 : CV mX5_shelf 65 mX2_holdBranch := CV.of 268 771 772 773 (by decide +kernel) (by decide +kernel) (by decide +kernel) (by decide +kernel)
def b_X5_shelf_68 : List Ent := [(.goto 56, 3, [124], 0)]
theorem a_X5_shelf_68 : ck mX5_shelf b_X5_shelf_68 68 = true := by decide +kernel
def b_X5_shelf_71 : List Ent := [(.iload_n 2, 1, [], 0), (.iconst 1, 1, [], 0), (.if_icmp .ne 43, 3, [116], 0)]
theorem a_X5_shelf_71 : ck mX5_shelf b_X5_shelf_71 71 = true := by decide +kernel
def b_X5_shelf_76 : List Ent := [(.aload_n 0, 1, [], 0), (.getfield 44, 3, [5, 7, 31, 260], 0), (.iload_n 3, 1, [], 0)]
theorem a_X5_shelf_76 : ck mX5_shelf b_X5_shelf_76 76 = true := by decide +kernel
theorem k_X5_shelf_81 : CV mX5_shelf 81 mX1_isMissing := CV.of 216 681 682 683 (by decide +kernel) (by decide +kernel) (by decide +kernel) (by decide +kernel)
def b_X5_shelf_84 : List Ent := [(.ifCond .ne 32, 3, [116], 0)]
theorem a_X5_shelf_84 : ck mX5_shelf b_X5_shelf_84 84 = true := by decide +kernel
def b_X5_shelf_87 : List Ent := [(.aload_n 0, 1, [], 0), (.getfield 51, 3, [5, 8, 39, 261], 0), (.iload_n 1, 1, [], 0), (.aload_n 0, 1, [], 0), (.getfield 44, 3, [5, 7, 31, 260], 0), (.getfield 243, 3, [1, 1, 6, 193], 0), (.iload_n 3, 1, [], 0), (.iaload, 1, [7], 0), (.aload_n 0, 1, [], 0), (.getfield 44, 3, [5, 7, 31, 260], 0), (.getfield 246, 3, [1, 2, 7, 195], 0), (.iload_n 3, 1, [], 0), (.iaload, 1, [7], 0)]
theorem a_X5_shelf_87 : ck mX5_shelf b_X5_shelf_87 87 = true := by decide +kernel
theorem k_X5_shelf_110 : CV mX5_shelf 110 mX2_holdRow := CV.of 272 775 776 777 (by decide +kernel) (by decide +kernel) (by decide +kernel) (by decide +kernel)
def b_X5_shelf_113 : List Ent := [(.goto 11, 3, [124], 0)]
theorem a_X5_shelf_113 : ck mX5_shelf b_X5_shelf_113 113 = true := by decide +kernel
def b_X5_shelf_116 : List Ent := [(.aload_n 0, 1, [], 0), (.getfield 51, 3, [5, 8, 39, 261], 0), (.iload_n 1, 1, [], 0)]
theorem a_X5_shelf_116 : ck mX5_shelf b_X5_shelf_116 116 = true := by decide +kernel
theorem k_X5_shelf_121 : CV mX5_shelf 121 mX2_holdNothing := CV.of 275 779 780 781 (by decide +kernel) (by decide +kernel) (by decide +kernel) (by decide +kernel)
def b_X5_shelf_124 : List Ent := [(.iconst 1, 1, [], 0), (.ireturn, 1, [0], 0)]
theorem a_X5_shelf_124 : ck mX5_shelf b_X5_shelf_124 124 = true := by decide +kernel
theorem o_X5_state : MOK mX5_state 1 := MOK.of 608 58 (by decide +kernel) (by decide +kernel) (by decide +kernel) (by decide +kernel) (by decide +kernel)
def b_X5_state_0 : List Ent := [(.iload_n 1, 1, [], 0), (.tableswitch 87 0 5 #[39, 47, 55, 63, 71, 79], 39, [88, 40, 48, 56, 64, 72, 80], 0)]
theorem a_X5_state_0 : ck mX5_state b_X5_state_0 0 = true := by decide +kernel
def b_X5_state_40 : List Ent := [(.aload_n 0, 1, [], 0), (.getfield 10, 3, [5, 0, 1, 253], 0), (.getfield 186, 3, [4, 8, 0, 116], 0), (.ireturn, 1, [0], 0)]
theorem a_X5_state_40 : ck mX5_state b_X5_state_40 40 = true := by decide +kernel
def b_X5_state_48 : List Ent := [(.aload_n 0, 1, [], 0), (.getfield 10, 3, [5, 0, 1, 253], 0), (.getfield 176, 3, [4, 9, 0, 118], 0), (.ireturn, 1, [0], 0)]
theorem a_X5_state_48 : ck mX5_state b_X5_state_48 48 = true := by decide +kernel
def b_X5_state_56 : List Ent := [(.aload_n 0, 1, [], 0), (.getfield 10, 3, [5, 0, 1, 253], 0)]
theorem a_X5_state_56 : ck mX5_state b_X5_state_56 56 = true := by decide +kernel
theorem k_X5_state_60 : CV mX5_state 60 mX4_survey := CV.of 138 477 478 479 (by decide +kernel) (by decide +kernel) (by decide +kernel) (by decide +kernel)
def b_X5_state_63 : List Ent := [(.ireturn, 1, [0], 0)]
theorem a_X5_state_63 : ck mX5_state b_X5_state_63 63 = true := by decide +kernel
def b_X5_state_64 : List Ent := [(.aload_n 0, 1, [], 0), (.getfield 10, 3, [5, 0, 1, 253], 0), (.getfield 128, 3, [4, 6, 0, 111], 0), (.ireturn, 1, [0], 0)]
theorem a_X5_state_64 : ck mX5_state b_X5_state_64 64 = true := by decide +kernel
def b_X5_state_72 : List Ent := [(.aload_n 0, 1, [], 0), (.getfield 10, 3, [5, 0, 1, 253], 0)]
theorem a_X5_state_72 : ck mX5_state b_X5_state_72 72 = true := by decide +kernel
theorem k_X5_state_76 : CV mX5_state 76 mX4_forceOfAll := CV.of 189 609 610 611 (by decide +kernel) (by decide +kernel) (by decide +kernel) (by decide +kernel)
def b_X5_state_79 : List Ent := [(.ireturn, 1, [0], 0)]
theorem a_X5_state_79 : ck mX5_state b_X5_state_79 79 = true := by decide +kernel
def b_X5_state_80 : List Ent := [(.aload_n 0, 1, [], 0), (.getfield 10, 3, [5, 0, 1, 253], 0)]
theorem a_X5_state_80 : ck mX5_state b_X5_state_80 80 = true := by decide +kernel
theorem k_X5_state_84 : CV mX5_state 84 mX4_burnt := CV.of 192 613 614 615 (by decide +kernel) (by decide +kernel) (by decide +kernel) (by decide +kernel)
def b_X5_state_87 : List Ent := [(.ireturn, 1, [0], 0)]
theorem a_X5_state_87 : ck mX5_state b_X5_state_87 87 = true := by decide +kernel
def b_X5_state_88 : List Ent := [(.iconst (-1), 1, [], 0), (.ireturn, 1, [0], 0)]
theorem a_X5_state_88 : ck mX5_state b_X5_state_88 88 = true := by decide +kernel
theorem o_X5_stem : MOK mX5_stem 1 := MOK.of 513 58 (by decide +kernel) (by decide +kernel) (by decide +kernel) (by decide +kernel) (by decide +kernel)
def b_X5_stem_0 : List Ent := [(.aload_n 0, 1, [], 0), (.getfield 10, 3, [5, 0, 1, 253], 0), (.iload_n 1, 1, [], 0)]
theorem a_X5_stem_0 : ck mX5_stem b_X5_stem_0 0 = true := by decide +kernel
theorem k_X5_stem_5 : CV mX5_stem 5 mX4_has := CV.of 113 469 470 471 (by decide +kernel) (by decide +kernel) (by decide +kernel) (by decide +kernel)
def b_X5_stem_8 : List Ent := [(.ifCond .eq 14, 3, [22], 0)]
theorem a_X5_stem_8 : ck mX5_stem b_X5_stem_8 8 = true := by decide +kernel
def b_X5_stem_11 : List Ent := [(.aload_n 0, 1, [], 0), (.getfield 10, 3, [5, 0, 1, 253], 0), (.iload_n 1, 1, [], 0)]
theorem a_X5_stem_11 : ck mX5_stem b_X5_stem_11 11 = true := by decide +kernel
theorem k_X5_stem_16 : CV mX5_stem 16 mX4_stemOf := CV.of 155 514 515 516 (by decide +kernel) (by decide +kernel) (by decide +kernel) (by decide +kernel)
def b_X5_stem_19 : List Ent := [(.goto 4, 3, [23], 0)]
theorem a_X5_stem_19 : ck mX5_stem b_X5_stem_19 19 = true := by decide +kernel
def b_X5_stem_22 : List Ent := [(.iconst (-1), 1, [], 0)]
theorem a_X5_stem_22 : ck mX5_stem b_X5_stem_22 22 = true := by decide +kernel
def b_X5_stem_23 : List Ent := [(.ireturn, 1, [0], 0)]
theorem a_X5_stem_23 : ck mX5_stem b_X5_stem_23 23 = true := by decide +kernel
theorem o_X5_taken : MOK mX5_taken 2 := MOK.of 786 58 (by decide +kernel) (by decide +kernel) (by decide +kernel) (by decide +kernel) (by decide +kernel)
def b_X5_taken_0 : List Ent := [(.iload_n 2, 1, [], 0)]
theorem a_X5_taken_0 : ck mX5_taken b_X5_taken_0 0 = true := by decide +kernel
theorem k_X5_taken_1 : CS mX5_taken 1 mX5_isKind := CS.of 100 457 391 (by decide +kernel) (by decide +kernel) (by decide +kernel)
def b_X5_taken_4 : List Ent := [(.ifCond .ne 14, 3, [18], 0)]
theorem a_X5_taken_4 : ck mX5_taken b_X5_taken_4 4 = true := by decide +kernel
def b_X5_taken_7 : List Ent := [(.iload_n 2, 1, [], 0), (.bipush 10, 2, [], 0), (.bipush 13, 2, [], 0)]
theorem a_X5_taken_7 : ck mX5_taken b_X5_taken_7 7 = true := by decide +kernel
theorem k_X5_taken_12 : CS mX5_taken 12 mX5_within := CS.of 62 288 289 (by decide +kernel) (by decide +kernel) (by decide +kernel)
def b_X5_taken_15 : List Ent := [(.ifCond .eq 7, 3, [22], 0)]
theorem a_X5_taken_15 : ck mX5_taken b_X5_taken_15 15 = true := by decide +kernel
def b_X5_taken_18 : List Ent := [(.iconst 1, 1, [], 0), (.goto 4, 3, [23], 0)]
theorem a_X5_taken_18 : ck mX5_taken b_X5_taken_18 18 = true := by decide +kernel
def b_X5_taken_22 : List Ent := [(.iconst 0, 1, [], 0)]
theorem a_X5_taken_22 : ck mX5_taken b_X5_taken_22 22 = true := by decide +kernel
def b_X5_taken_23 : List Ent := [(.istore_n 3, 1, [], 0), (.aload_n 0, 1, [], 0), (.getfield 51, 3, [5, 8, 39, 261], 0), (.iload_n 1, 1, [], 0)]
theorem a_X5_taken_23 : ck mX5_taken b_X5_taken_23 23 = true := by decide +kernel
theorem k_X5_taken_29 : CV mX5_taken 29 mX2_has := CV.of 267 766 767 768 (by decide +kernel) (by decide +kernel) (by decide +kernel) (by decide +kernel)
def b_X5_taken_32 : List Ent := [(.ifCond .eq 7, 3, [39], 0)]
theorem a_X5_taken_32 : ck mX5_taken b_X5_taken_32 32 = true := by decide +kernel
def b_X5_taken_35 : List Ent := [(.iload_n 3, 1, [], 0), (.ifCond .ne 5, 3, [41], 0)]
theorem a_X5_taken_35 : ck mX5_taken b_X5_taken_35 35 = true := by decide +kernel
def b_X5_taken_39 : List Ent := [(.iconst (-1), 1, [], 0), (.ireturn, 1, [0], 0)]
theorem a_X5_taken_39 : ck mX5_taken b_X5_taken_39 39 = true := by decide +kernel
def b_X5_taken_41 : List Ent := [(.aload_n 0, 1, [], 0), (.getfield 51, 3, [5, 8, 39, 261], 0), (.iload_n 1, 1, [], 0), (.aload_n 0, 1, [], 0), (.getfield 10, 3, [5, 0, 1, 253], 0)]
theorem a_X5_taken_41 : ck mX5_taken b_X5_taken_41 41 = true := by decide +kernel
theorem k_X5_taken_50 : CV mX5_taken 50 mX2_heldOf := CV.of 278 787 788 789 (by decide +kernel) (by decide +kernel) (by decide +kernel) (by decide +kernel)
def b_X5_taken_53 : List Ent := [(.istore 4, 2, [], 0), (.iload 4, 2, [], 0), (.ifCond .ne 6, 3, [63], 0)]
theorem a_X5_taken_53 : ck mX5_taken b_X5_taken_53 53 = true := by decide +kernel
def b_X5_taken_60 : List Ent := [(.bipush (-11), 2, [], 0), (.ireturn, 1, [0], 0)]
theorem a_X5_taken_60 : ck mX5_taken b_X5_taken_60 60 = true := by decide +kernel
def b_X5_taken_63 : List Ent := [(.iload 4, 2, [], 0), (.iconst 2, 1, [], 0), (.if_icmp .ne 34, 3, [100], 0)]
theorem a_X5_taken_63 : ck mX5_taken b_X5_taken_63 63 = true := by decide +kernel
def b_X5_taken_69 : List Ent := [(.iload_n 2, 1, [], 0), (.bipush 10, 2, [], 0), (.isub, 1, [], 0), (.aload_n 0, 1, [], 0), (.getfield 51, 3, [5, 8, 39, 261], 0), (.getfield 282, 3, [2, 2, 3, 214], 0), (.iload_n 1, 1, [], 0), (.iaload, 1, [7], 0), (.if_icmp .ne 15, 3, [97], 0)]
theorem a_X5_taken_69 : ck mX5_taken b_X5_taken_69 69 = true := by decide +kernel
def b_X5_taken_85 : List Ent := [(.aload_n 0, 1, [], 0), (.getfield 51, 3, [5, 8, 39, 261], 0), (.getfield 283, 3, [2, 3, 4, 216], 0), (.iload_n 1, 1, [], 0), (.iaload, 1, [7], 0), (.goto 5, 3, [99], 0)]
theorem a_X5_taken_85 : ck mX5_taken b_X5_taken_85 85 = true := by decide +kernel
def b_X5_taken_97 : List Ent := [(.bipush (-13), 2, [], 0)]
theorem a_X5_taken_97 : ck mX5_taken b_X5_taken_97 97 = true := by decide +kernel
def b_X5_taken_99 : List Ent := [(.ireturn, 1, [0], 0)]
theorem a_X5_taken_99 : ck mX5_taken b_X5_taken_99 99 = true := by decide +kernel
def b_X5_taken_100 : List Ent := [(.aload_n 0, 1, [], 0), (.getfield 51, 3, [5, 8, 39, 261], 0), (.getfield 284, 3, [2, 1, 2, 212], 0), (.iload_n 1, 1, [], 0), (.iaload, 1, [7], 0), (.istore 5, 2, [], 0), (.iload_n 2, 1, [], 0)]
theorem a_X5_taken_100 : ck mX5_taken b_X5_taken_100 100 = true := by decide +kernel
theorem k_X5_taken_112 : CS mX5_taken 112 mX5_isKind := CS.of 100 457 391 (by decide +kernel) (by decide +kernel) (by decide +kernel)
def b_X5_taken_115 : List Ent := [(.ifCond .eq 30, 3, [145], 0)]
theorem a_X5_taken_115 : ck mX5_taken b_X5_taken_115 115 = true := by decide +kernel
def b_X5_taken_118 : List Ent := [(.getstatic 287, 3, [2, 0, 792], 0), (.aload_n 0, 1, [], 0), (.getfield 10, 3, [5, 0, 1, 253], 0), (.getfield 116, 3, [4, 1, 2, 100], 0), (.iload 5, 2, [], 0), (.iaload, 1, [7], 0), (.iaload, 1, [10], 0), (.iload_n 2, 1, [], 0)]
theorem a_X5_taken_118 : ck mX5_taken b_X5_taken_118 118 = true := by decide +kernel
theorem k_X5_taken_133 : CS mX5_taken 133 mX5_bit := CS.of 131 474 475 (by decide +kernel) (by decide +kernel) (by decide +kernel)
def b_X5_taken_136 : List Ent := [(.iconst 1, 1, [], 0), (.if_icmp .ne 8, 3, [145], 0)]
theorem a_X5_taken_136 : ck mX5_taken b_X5_taken_136 136 = true := by decide +kernel
def b_X5_taken_140 : List Ent := [(.iload 5, 2, [], 0), (.goto 5, 3, [147], 0)]
theorem a_X5_taken_140 : ck mX5_taken b_X5_taken_140 140 = true := by decide +kernel
def b_X5_taken_145 : List Ent := [(.bipush (-13), 2, [], 0)]
theorem a_X5_taken_145 : ck mX5_taken b_X5_taken_145 145 = true := by decide +kernel
def b_X5_taken_147 : List Ent := [(.ireturn, 1, [0], 0)]
theorem a_X5_taken_147 : ck mX5_taken b_X5_taken_147 147 = true := by decide +kernel
theorem o_X5_trace : MOK mX5_trace 1 := MOK.of 828 58 (by decide +kernel) (by decide +kernel) (by decide +kernel) (by decide +kernel) (by decide +kernel)
def b_X5_trace_0 : List Ent := [(.iload_n 1, 1, [], 0), (.iconst 0, 1, [], 0), (.aload_n 0, 1, [], 0), (.getfield 58, 3, [5, 9, 44, 262], 0), (.getfield 297, 3, [0, 1, 0, 235], 0), (.iconst 1, 1, [], 0), (.isub, 1, [], 0)]
theorem a_X5_trace_0 : ck mX5_trace b_X5_trace_0 0 = true := by decide +kernel
theorem k_X5_trace_11 : CS mX5_trace 11 mX5_within := CS.of 62 288 289 (by decide +kernel) (by decide +kernel) (by decide +kernel)
def b_X5_trace_14 : List Ent := [(.ifCond .eq 15, 3, [29], 0)]
theorem a_X5_trace_14 : ck mX5_trace b_X5_trace_14 14 = true := by decide +kernel
def b_X5_trace_17 : List Ent := [(.aload_n 0, 1, [], 0), (.getfield 58, 3, [5, 9, 44, 262], 0), (.getfield 298, 3, [0, 0, 1, 233], 0), (.iload_n 1, 1, [], 0), (.iaload, 1, [7], 0), (.goto 5, 3, [31], 0)]
theorem a_X5_trace_17 : ck mX5_trace b_X5_trace_17 17 = true := by decide +kernel
def b_X5_trace_29 : List Ent := [(.bipush (-3), 2, [], 0)]
theorem a_X5_trace_29 : ck mX5_trace b_X5_trace_29 29 = true := by decide +kernel
def b_X5_trace_31 : List Ent := [(.ireturn, 1, [0], 0)]
theorem a_X5_trace_31 : ck mX5_trace b_X5_trace_31 31 = true := by decide +kernel
theorem o_X5_tree : MOK mX5_tree 0 := MOK.of 298 58 (by decide +kernel) (by decide +kernel) (by decide +kernel) (by decide +kernel) (by decide +kernel)
def b_X5_tree_0 : List Ent := [(.aload_n 0, 1, [], 0), (.getfield 29, 3, [5, 4, 28, 257], 0), (.aload_n 0, 1, [], 0), (.getfield 16, 3, [5, 1, 10, 254], 0)]
theorem a_X5_tree_0 : ck mX5_tree b_X5_tree_0 0 = true := by decide +kernel
theorem k_X5_tree_8 : CV mX5_tree 8 mX3_tellTo := CV.of 73 299 300 301 (by decide +kernel) (by decide +kernel) (by decide +kernel) (by decide +kernel)
def b_X5_tree_11 : List Ent := [(.istore_n 1, 1, [], 0), (.aload_n 0, 1, [], 0), (.getfield 29, 3, [5, 4, 28, 257], 0), (.getfield 77, 3, [3, 2, 0, 165], 0), (.istore_n 2, 1, [], 0), (.aload_n 0, 1, [], 0), (.getfield 29, 3, [5, 4, 28, 257], 0), (.iconst 0, 1, [], 0), (.putfield 66, 3, [3, 1, 0, 163], 0), (.iload_n 1, 1, [], 0), (.ifCond .ne 8, 3, [37], 0)]
theorem a_X5_tree_11 : ck mX5_tree b_X5_tree_11 11 = true := by decide +kernel
def b_X5_tree_32 : List Ent := [(.bipush (-100), 2, [], 0), (.iload_n 2, 1, [], 0), (.isub, 1, [], 0), (.ireturn, 1, [0], 0)]
theorem a_X5_tree_32 : ck mX5_tree b_X5_tree_32 32 = true := by decide +kernel
def b_X5_tree_37 : List Ent := [(.aload_n 0, 1, [], 0), (.getfield 16, 3, [5, 1, 10, 254], 0), (.aload_n 0, 1, [], 0), (.getfield 10, 3, [5, 0, 1, 253], 0), (.getfield 80, 3, [4, 10, 0, 120], 0), (.putfield 80, 3, [4, 10, 0, 120], 0), (.aload_n 0, 1, [], 0), (.getfield 10, 3, [5, 0, 1, 253], 0), (.aload_n 0, 1, [], 0), (.getfield 16, 3, [5, 1, 10, 254], 0)]
theorem a_X5_tree_37 : ck mX5_tree b_X5_tree_37 37 = true := by decide +kernel
theorem k_X5_tree_59 : CV mX5_tree 59 mX4_copyFrom := CV.of 83 438 439 440 (by decide +kernel) (by decide +kernel) (by decide +kernel) (by decide +kernel)
def b_X5_tree_62 : List Ent := [(.aload_n 0, 1, [], 0), (.iconst 0, 1, [], 0), (.putfield 37, 3, [5, 6, 0, 259], 0), (.aload_n 0, 1, [], 0), (.getfield 10, 3, [5, 0, 1, 253], 0), (.getfield 87, 3, [4, 7, 0, 114], 0), (.ireturn, 1, [0], 0)]
theorem a_X5_tree_62 : ck mX5_tree b_X5_tree_62 62 = true := by decide +kernel
theorem o_X5_tryNow : MOK mX5_tryNow 0 := MOK.of 604 58 (by decide +kernel) (by decide +kernel) (by decide +kernel) (by decide +kernel) (by decide +kernel)
def b_X5_tryNow_0 : List Ent := [(.aload_n 0, 1, [], 0), (.getfield 16, 3, [5, 1, 10, 254], 0), (.aload_n 0, 1, [], 0), (.getfield 10, 3, [5, 0, 1, 253], 0)]
theorem a_X5_tryNow_0 : ck mX5_tryNow b_X5_tryNow_0 0 = true := by decide +kernel
theorem k_X5_tryNow_8 : CV mX5_tryNow 8 mX4_copyFrom := CV.of 83 438 439 440 (by decide +kernel) (by decide +kernel) (by decide +kernel) (by decide +kernel)
def b_X5_tryNow_11 : List Ent := [(.aload_n 0, 1, [], 0), (.getfield 16, 3, [5, 1, 10, 254], 0), (.areturn, 1, [], 0)]
theorem a_X5_tryNow_11 : ck mX5_tryNow b_X5_tryNow_11 11 = true := by decide +kernel
theorem o_X5_waysToChoose : MOK mX5_waysToChoose 2 := MOK.of 696 58 (by decide +kernel) (by decide +kernel) (by decide +kernel) (by decide +kernel) (by decide +kernel)
def b_X5_waysToChoose_0 : List Ent := [(.lconst 1, 1, [], 0), (.lstore_n 2, 1, [], 0), (.iconst 1, 1, [], 0), (.istore 4, 2, [], 0)]
theorem a_X5_waysToChoose_0 : ck mX5_waysToChoose b_X5_waysToChoose_0 0 = true := by decide +kernel
def b_X5_waysToChoose_5 : List Ent := [(.iload 4, 2, [], 0), (.iload_n 1, 1, [], 0), (.if_icmp .gt 23, 3, [31], 0)]
theorem a_X5_waysToChoose_5 : ck mX5_waysToChoose b_X5_waysToChoose_5 5 = true := by decide +kernel
def b_X5_waysToChoose_11 : List Ent := [(.lload_n 2, 1, [], 0), (.iload_n 0, 1, [], 0), (.iload_n 1, 1, [], 0), (.isub, 1, [], 0), (.iload 4, 2, [], 0), (.iadd, 1, [], 0), (.i2l, 1, [], 0), (.lmul, 1, [], 0), (.iload 4, 2, [], 0), (.i2l, 1, [], 0), (.ldiv, 1, [], 0), (.lstore_n 2, 1, [], 0), (.iinc 4 1, 3, [], 0), (.goto (-23), 3, [5], 0)]
theorem a_X5_waysToChoose_11 : ck mX5_waysToChoose b_X5_waysToChoose_11 11 = true := by decide +kernel
def b_X5_waysToChoose_31 : List Ent := [(.lload_n 2, 1, [], 0), (.lreturn, 1, [], 0)]
theorem a_X5_waysToChoose_31 : ck mX5_waysToChoose b_X5_waysToChoose_31 31 = true := by decide +kernel
theorem o_X5_winters : MOK mX5_winters 1 := MOK.of 600 58 (by decide +kernel) (by decide +kernel) (by decide +kernel) (by decide +kernel) (by decide +kernel)
def b_X5_winters_0 : List Ent := [(.iload_n 1, 1, [], 0), (.iconst 1, 1, [], 0), (.bipush 30, 2, [], 0)]
theorem a_X5_winters_0 : ck mX5_winters b_X5_winters_0 0 = true := by decide +kernel
theorem k_X5_winters_4 : CS mX5_winters 4 mX5_within := CS.of 62 288 289 (by decide +kernel) (by decide +kernel) (by decide +kernel)
def b_X5_winters_7 : List Ent := [(.ifCond .ne 5, 3, [12], 0)]
theorem a_X5_winters_7 : ck mX5_winters b_X5_winters_7 7 = true := by decide +kernel
def b_X5_winters_10 : List Ent := [(.iconst (-1), 1, [], 0), (.ireturn, 1, [0], 0)]
theorem a_X5_winters_10 : ck mX5_winters b_X5_winters_10 10 = true := by decide +kernel
def b_X5_winters_12 : List Ent := [(.aload_n 0, 1, [], 0)]
theorem a_X5_winters_12 : ck mX5_winters b_X5_winters_12 12 = true := by decide +kernel
theorem k_X5_winters_13 : CV mX5_winters 13 mX5_tryNow := CV.of 182 601 603 0 (by decide +kernel) (by decide +kernel) (by decide +kernel) (by decide +kernel)
def b_X5_winters_16 : List Ent := [(.iconst 1, 1, [], 0)]
theorem a_X5_winters_16 : ck mX5_winters b_X5_winters_16 16 = true := by decide +kernel
theorem k_X5_winters_17 : CV mX5_winters 17 mX4_passYears := CV.of 173 557 558 559 (by decide +kernel) (by decide +kernel) (by decide +kernel) (by decide +kernel)
def b_X5_winters_20 : List Ent := [(.istore_n 2, 1, [], 0), (.aload_n 0, 1, [], 0), (.getfield 10, 3, [5, 0, 1, 253], 0), (.getfield 80, 3, [4, 10, 0, 120], 0), (.istore_n 3, 1, [], 0), (.iconst 0, 1, [], 0), (.istore 4, 2, [], 0), (.iconst 0, 1, [], 0), (.istore 5, 2, [], 0)]
theorem a_X5_winters_20 : ck mX5_winters b_X5_winters_20 20 = true := by decide +kernel
def b_X5_winters_35 : List Ent := [(.iload 5, 2, [], 0), (.iload_n 1, 1, [], 0), (.if_icmp .ge 39, 3, [77], 0)]
theorem a_X5_winters_35 : ck mX5_winters b_X5_winters_35 35 = true := by decide +kernel
def b_X5_winters_41 : List Ent := [(.aload_n 0, 1, [], 0)]
theorem a_X5_winters_41 : ck mX5_winters b_X5_winters_41 41 = true := by decide +kernel
theorem k_X5_winters_42 : CV mX5_winters 42 mX5_tryNow := CV.of 182 601 603 0 (by decide +kernel) (by decide +kernel) (by decide +kernel) (by decide +kernel)
def b_X5_winters_45 : List Ent := [(.iload_n 3, 1, [], 0), (.putfield 80, 3, [4, 10, 0, 120], 0), (.aload_n 0, 1, [], 0), (.getfield 16, 3, [5, 1, 10, 254], 0)]
theorem a_X5_winters_45 : ck mX5_winters b_X5_winters_45 45 = true := by decide +kernel
theorem k_X5_winters_53 : CV mX5_winters 53 mX4_passYearByDraws := CV.of 179 588 589 590 (by decide +kernel) (by decide +kernel) (by decide +kernel) (by decide +kernel)
def b_X5_winters_56 : List Ent := [(.iload_n 2, 1, [], 0), (.if_icmp .ge 6, 3, [63], 0)]
theorem a_X5_winters_56 : ck mX5_winters b_X5_winters_56 56 = true := by decide +kernel
def b_X5_winters_60 : List Ent := [(.iinc 4 1, 3, [], 0)]
theorem a_X5_winters_60 : ck mX5_winters b_X5_winters_60 60 = true := by decide +kernel
def b_X5_winters_63 : List Ent := [(.aload_n 0, 1, [], 0), (.getfield 16, 3, [5, 1, 10, 254], 0), (.getfield 80, 3, [4, 10, 0, 120], 0), (.istore_n 3, 1, [], 0), (.iinc 5 1, 3, [], 0), (.goto (-39), 3, [35], 0)]
theorem a_X5_winters_63 : ck mX5_winters b_X5_winters_63 63 = true := by decide +kernel
def b_X5_winters_77 : List Ent := [(.iload 4, 2, [], 0), (.ireturn, 1, [0], 0)]
theorem a_X5_winters_77 : ck mX5_winters b_X5_winters_77 77 = true := by decide +kernel
theorem o_X5_within : MOK mX5_within 3 := MOK.of 290 58 (by decide +kernel) (by decide +kernel) (by decide +kernel) (by decide +kernel) (by decide +kernel)
def b_X5_within_0 : List Ent := [(.iload_n 0, 1, [], 0), (.iload_n 1, 1, [], 0), (.if_icmp .lt 12, 3, [14], 0)]
theorem a_X5_within_0 : ck mX5_within b_X5_within_0 0 = true := by decide +kernel
def b_X5_within_5 : List Ent := [(.iload_n 0, 1, [], 0), (.iload_n 2, 1, [], 0), (.if_icmp .gt 7, 3, [14], 0)]
theorem a_X5_within_5 : ck mX5_within b_X5_within_5 5 = true := by decide +kernel
def b_X5_within_10 : List Ent := [(.iconst 1, 1, [], 0), (.goto 4, 3, [15], 0)]
theorem a_X5_within_10 : ck mX5_within b_X5_within_10 10 = true := by decide +kernel
def b_X5_within_14 : List Ent := [(.iconst 0, 1, [], 0)]
theorem a_X5_within_14 : ck mX5_within b_X5_within_14 14 = true := by decide +kernel
def b_X5_within_15 : List Ent := [(.ireturn, 1, [1], 0)]
theorem a_X5_within_15 : ck mX5_within b_X5_within_15 15 = true := by decide +kernel
theorem o_X5_year : MOK mX5_year 0 := MOK.of 587 58 (by decide +kernel) (by decide +kernel) (by decide +kernel) (by decide +kernel) (by decide +kernel)
def b_X5_year_0 : List Ent := [(.aload_n 0, 1, [], 0), (.getfield 10, 3, [5, 0, 1, 253], 0)]
theorem a_X5_year_0 : ck mX5_year b_X5_year_0 0 = true := by decide +kernel
theorem k_X5_year_4 : CV mX5_year 4 mX4_passYearByDraws := CV.of 179 588 589 590 (by decide +kernel) (by decide +kernel) (by decide +kernel) (by decide +kernel)
def b_X5_year_7 : List Ent := [(.pop, 1, [], 0), (.aload_n 0, 1, [], 0), (.getfield 10, 3, [5, 0, 1, 253], 0), (.getfield 176, 3, [4, 9, 0, 118], 0), (.ireturn, 1, [0], 0)]
theorem a_X5_year_7 : ck mX5_year b_X5_year_7 7 = true := by decide +kernel
theorem o_X5_years : MOK mX5_years 1 := MOK.of 556 58 (by decide +kernel) (by decide +kernel) (by decide +kernel) (by decide +kernel) (by decide +kernel)
def b_X5_years_0 : List Ent := [(.iload_n 1, 1, [], 0), (.iconst 1, 1, [], 0), (.bipush 60, 2, [], 0)]
theorem a_X5_years_0 : ck mX5_years b_X5_years_0 0 = true := by decide +kernel
theorem k_X5_years_4 : CS mX5_years 4 mX5_within := CS.of 62 288 289 (by decide +kernel) (by decide +kernel) (by decide +kernel)
def b_X5_years_7 : List Ent := [(.ifCond .ne 5, 3, [12], 0)]
theorem a_X5_years_7 : ck mX5_years b_X5_years_7 7 = true := by decide +kernel
def b_X5_years_10 : List Ent := [(.iconst (-1), 1, [], 0), (.ireturn, 1, [0], 0)]
theorem a_X5_years_10 : ck mX5_years b_X5_years_10 10 = true := by decide +kernel
def b_X5_years_12 : List Ent := [(.aload_n 0, 1, [], 0), (.getfield 10, 3, [5, 0, 1, 253], 0), (.iload_n 1, 1, [], 0)]
theorem a_X5_years_12 : ck mX5_years b_X5_years_12 12 = true := by decide +kernel
theorem k_X5_years_17 : CV mX5_years 17 mX4_passYears := CV.of 173 557 558 559 (by decide +kernel) (by decide +kernel) (by decide +kernel) (by decide +kernel)
def b_X5_years_20 : List Ent := [(.pop, 1, [], 0), (.aload_n 0, 1, [], 0), (.getfield 10, 3, [5, 0, 1, 253], 0), (.getfield 176, 3, [4, 9, 0, 118], 0), (.ireturn, 1, [0], 0)]
theorem a_X5_years_20 : ck mX5_years b_X5_years_20 20 = true := by decide +kernel
