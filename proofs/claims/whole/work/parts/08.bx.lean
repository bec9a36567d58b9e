theorem o_J0_charAt_5068e : MOK mJ0_charAt_5068e 1 := MOK.of 342 67 (by decide +kernel) (by decide +kernel) (by decide +kernel) (by decide +kernel) (by decide +kernel)
def b_J0_charAt_5068e_0 : List Ent := [(.aload_n 0, 1, [], 0)]
theorem a_J0_charAt_5068e_0 : ck mJ0_charAt_5068e b_J0_charAt_5068e_0 0 = true := by decide +kernel
theorem k_J0_charAt_5068e_1 : CV mJ0_charAt_5068e 1 mJ0_isLatin1_aae02 := CV.of 492 343 344 345 (by decide +kernel) (by decide +kernel) (by decide +kernel) (by decide +kernel)
def b_J0_charAt_5068e_4 : List Ent := [(.ifCond .eq 12, 3, [16], 0)]
theorem a_J0_charAt_5068e_4 : ck mJ0_charAt_5068e b_J0_charAt_5068e_4 4 = true := by decide +kernel
def b_J0_charAt_5068e_7 : List Ent := [(.aload_n 0, 1, [], 0), (.getfield 9, 3, [12, 0, 0, 1360], 0), (.iload_n 1, 1, [], 0)]
theorem a_J0_charAt_5068e_7 : ck mJ0_charAt_5068e b_J0_charAt_5068e_7 7 = true := by decide +kernel
theorem k_J0_charAt_5068e_12 : CS mJ0_charAt_5068e 12 mJ1_charAt_3b067 := CS.of 495 347 348 (by decide +kernel) (by decide +kernel) (by decide +kernel)
def b_J0_charAt_5068e_15 : List Ent := [(.ireturn, 1, [2], 0)]
theorem a_J0_charAt_5068e_15 : ck mJ0_charAt_5068e b_J0_charAt_5068e_15 15 = true := by decide +kernel
def b_J0_charAt_5068e_16 : List Ent := [(.aload_n 0, 1, [], 0), (.getfield 9, 3, [12, 0, 0, 1360], 0), (.iload_n 1, 1, [], 0)]
theorem a_J0_charAt_5068e_16 : ck mJ0_charAt_5068e b_J0_charAt_5068e_16 16 = true := by decide +kernel
theorem k_J0_charAt_5068e_21 : CS mJ0_charAt_5068e 21 mJ2_charAt_3b067 := CS.of 498 358 359 (by decide +kernel) (by decide +kernel) (by decide +kernel)
def b_J0_charAt_5068e_24 : List Ent := [(.ireturn, 1, [2], 0)]
theorem a_J0_charAt_5068e_24 : ck mJ0_charAt_5068e b_J0_charAt_5068e_24 24 = true := by decide +kernel
theorem o_J0_checkIndex_df160 : MOK mJ0_checkIndex_df160 2 := MOK.of 352 67 (by decide +kernel) (by decide +kernel) (by decide +kernel) (by decide +kernel) (by decide +kernel)
theorem k_J0_checkIndex_df160_5 : CS mJ0_checkIndex_df160 5 mJ3_checkIndex_8e157 := CS.of 1059 355 356 (by decide +kernel) (by decide +kernel) (by decide +kernel)
def b_J0_checkIndex_df160_8 : List Ent := [(.pop, 1, [], 0), (.return_, 1, [], 0)]
theorem a_J0_checkIndex_df160_8 : ck mJ0_checkIndex_df160 b_J0_checkIndex_df160_8 8 = true := by decide +kernel
theorem o_J0_coder_7d493 : MOK mJ0_coder_7d493 0 := MOK.of 336 67 (by decide +kernel) (by decide +kernel) (by decide +kernel) (by decide +kernel) (by decide +kernel)
def b_J0_coder_7d493_0 : List Ent := [(.getstatic 38, 3, [9, 0, 337], 0), (.ifCond .eq 10, 3, [13], 0)]
theorem a_J0_coder_7d493_0 : ck mJ0_coder_7d493 b_J0_coder_7d493_0 0 = true := by decide +kernel
def b_J0_coder_7d493_6 : List Ent := [(.aload_n 0, 1, [], 0), (.getfield 15, 3, [12, 1, 0, 1361], 0), (.goto 4, 3, [14], 0)]
theorem a_J0_coder_7d493_6 : ck mJ0_coder_7d493 b_J0_coder_7d493_6 6 = true := by decide +kernel
def b_J0_coder_7d493_13 : List Ent := [(.iconst 1, 1, [], 0)]
theorem a_J0_coder_7d493_13 : ck mJ0_coder_7d493 b_J0_coder_7d493_13 13 = true := by decide +kernel
def b_J0_coder_7d493_14 : List Ent := [(.ireturn, 1, [3], 0)]
theorem a_J0_coder_7d493_14 : ck mJ0_coder_7d493 b_J0_coder_7d493_14 14 = true := by decide +kernel
theorem o_J0_isLatin1_aae02 : MOK mJ0_isLatin1_aae02 0 := MOK.of 346 67 (by decide +kernel) (by decide +kernel) (by decide +kernel) (by decide +kernel) (by decide +kernel)
def b_J0_isLatin1_aae02_0 : List Ent := [(.getstatic 38, 3, [9, 0, 337], 0), (.ifCond .eq 14, 3, [17], 0)]
theorem a_J0_isLatin1_aae02_0 : ck mJ0_isLatin1_aae02 b_J0_isLatin1_aae02_0 0 = true := by decide +kernel
def b_J0_isLatin1_aae02_6 : List Ent := [(.aload_n 0, 1, [], 0), (.getfield 15, 3, [12, 1, 0, 1361], 0), (.ifCond .ne 7, 3, [17], 0)]
theorem a_J0_isLatin1_aae02_6 : ck mJ0_isLatin1_aae02 b_J0_isLatin1_aae02_6 6 = true := by decide +kernel
def b_J0_isLatin1_aae02_13 : List Ent := [(.iconst 1, 1, [], 0), (.goto 4, 3, [18], 0)]
theorem a_J0_isLatin1_aae02_13 : ck mJ0_isLatin1_aae02 b_J0_isLatin1_aae02_13 13 = true := by decide +kernel
def b_J0_isLatin1_aae02_17 : List Ent := [(.iconst 0, 1, [], 0)]
theorem a_J0_isLatin1_aae02_17 : ck mJ0_isLatin1_aae02 b_J0_isLatin1_aae02_17 17 = true := by decide +kernel
def b_J0_isLatin1_aae02_18 : List Ent := [(.ireturn, 1, [1], 0)]
theorem a_J0_isLatin1_aae02_18 : ck mJ0_isLatin1_aae02 b_J0_isLatin1_aae02_18 18 = true := by decide +kernel
theorem o_J0_length_8abf5 : MOK mJ0_length_8abf5 0 := MOK.of 332 67 (by decide +kernel) (by decide +kernel) (by decide +kernel) (by decide +kernel) (by decide +kernel)
def b_J0_length_8abf5_0 : List Ent := [(.aload_n 0, 1, [], 0), (.getfield 9, 3, [12, 0, 0, 1360], 0), (.arraylength, 1, [13], 0), (.aload_n 0, 1, [], 0)]
theorem a_J0_length_8abf5_0 : ck mJ0_length_8abf5 b_J0_length_8abf5_0 0 = true := by decide +kernel
theorem k_J0_length_8abf5_6 : CV mJ0_length_8abf5 6 mJ0_coder_7d493 := CV.of 335 333 334 335 (by decide +kernel) (by decide +kernel) (by decide +kernel) (by decide +kernel)
def b_J0_length_8abf5_9 : List Ent := [(.ishr, 1, [], 0), (.ireturn, 1, [0], 0)]
theorem a_J0_length_8abf5_9 : ck mJ0_length_8abf5 b_J0_length_8abf5_9 9 = true := by decide +kernel
theorem o_J1_charAt_3b067 : MOK mJ1_charAt_3b067 2 := MOK.of 349 68 (by decide +kernel) (by decide +kernel) (by decide +kernel) (by decide +kernel) (by decide +kernel)
def b_J1_charAt_3b067_0 : List Ent := [(.iload_n 1, 1, [], 0), (.aload_n 0, 1, [], 0), (.arraylength, 1, [13], 0)]
theorem a_J1_charAt_3b067_0 : ck mJ1_charAt_3b067 b_J1_charAt_3b067_0 0 = true := by decide +kernel
theorem k_J1_charAt_3b067_3 : CS mJ1_charAt_3b067 3 mJ0_checkIndex_df160 := CS.of 9 350 351 (by decide +kernel) (by decide +kernel) (by decide +kernel)
def b_J1_charAt_3b067_6 : List Ent := [(.aload_n 0, 1, [], 0), (.iload_n 1, 1, [], 0), (.baload, 1, [], 0), (.sipush 255, 3, [], 0), (.iand, 1, [], 0), (.i2c, 1, [], 0), (.ireturn, 1, [2], 0)]
theorem a_J1_charAt_3b067_6 : ck mJ1_charAt_3b067 b_J1_charAt_3b067_6 6 = true := by decide +kernel
theorem o_J3_checkIndex_8e157 : MOK mJ3_checkIndex_8e157 3 := MOK.of 357 69 (by decide +kernel) (by decide +kernel) (by decide +kernel) (by decide +kernel) (by decide +kernel)
def b_J3_checkIndex_8e157_0 : List Ent := [(.iload_n 0, 1, [], 0), (.ifCond .lt 8, 3, [9], 0)]
theorem a_J3_checkIndex_8e157_0 : ck mJ3_checkIndex_8e157 b_J3_checkIndex_8e157_0 0 = true := by decide +kernel
def b_J3_checkIndex_8e157_4 : List Ent := [(.iload_n 0, 1, [], 0), (.iload_n 1, 1, [], 0), (.if_icmp .lt 10, 3, [16], 0)]
theorem a_J3_checkIndex_8e157_4 : ck mJ3_checkIndex_8e157 b_J3_checkIndex_8e157_4 4 = true := by decide +kernel
def b_J3_checkIndex_8e157_9 : List Ent := [(.aload_n 2, 1, [], 0), (.iload_n 0, 1, [], 0), (.iload_n 1, 1, [], 0)]
theorem a_J3_checkIndex_8e157_9 : ck mJ3_checkIndex_8e157 b_J3_checkIndex_8e157_9 9 = true := by decide +kernel
def b_J3_checkIndex_8e157_16 : List Ent := [(.iload_n 0, 1, [], 0), (.ireturn, 1, [0], 0)]
theorem a_J3_checkIndex_8e157_16 : ck mJ3_checkIndex_8e157 b_J3_checkIndex_8e157_16 16 = true := by decide +kernel
theorem o_J6_bitCount_0f7a4 : MOK mJ6_bitCount_0f7a4 1 := MOK.of 537 72 (by decide +kernel) (by decide +kernel) (by decide +kernel) (by decide +kernel) (by decide +kernel)
def b_J6_bitCount_0f7a4_0 : List Ent := [(.iload_n 0, 1, [], 0), (.iload_n 0, 1, [], 0), (.iconst 1, 1, [], 0), (.iushr, 1, [], 0), (.ldc_w 265, 3, [0, 538], 1431655765), (.iand, 1, [], 0), (.isub, 1, [], 0), (.istore_n 0, 1, [], 0), (.iload_n 0, 1, [], 0), (.ldc_w 266, 3, [0, 539], 858993459), (.iand, 1, [], 0), (.iload_n 0, 1, [], 0), (.iconst 2, 1, [], 0), (.iushr, 1, [], 0), (.ldc_w 266, 3, [0, 539], 858993459), (.iand, 1, [], 0), (.iadd, 1, [], 0), (.istore_n 0, 1, [], 0), (.iload_n 0, 1, [], 0), (.iload_n 0, 1, [], 0), (.iconst 4, 1, [], 0), (.iushr, 1, [], 0), (.iadd, 1, [], 0), (.ldc_w 267, 3, [0, 540], 252645135), (.iand, 1, [], 0), (.istore_n 0, 1, [], 0), (.iload_n 0, 1, [], 0), (.iload_n 0, 1, [], 0), (.bipush 8, 2, [], 0), (.iushr, 1, [], 0), (.iadd, 1, [], 0), (.istore_n 0, 1, [], 0), (.iload_n 0, 1, [], 0), (.iload_n 0, 1, [], 0), (.bipush 16, 2, [], 0), (.iushr, 1, [], 0), (.iadd, 1, [], 0), (.istore_n 0, 1, [], 0), (.iload_n 0, 1, [], 0), (.bipush 63, 2, [], 0), (.iand, 1, [], 0), (.ireturn, 1, [0], 0)]
theorem a_J6_bitCount_0f7a4_0 : ck mJ6_bitCount_0f7a4 b_J6_bitCount_0f7a4_0 0 = true := by decide +kernel
theorem o_J7_fill_53178 : MOK mJ7_fill_53178 2 := MOK.of 483 71 (by decide +kernel) (by decide +kernel) (by decide +kernel) (by decide +kernel) (by decide +kernel)
def b_J7_fill_53178_0 : List Ent := [(.iconst 0, 1, [], 0), (.istore_n 2, 1, [], 0), (.aload_n 0, 1, [], 0), (.arraylength, 1, [7], 0), (.istore_n 3, 1, [], 0)]
theorem a_J7_fill_53178_0 : ck mJ7_fill_53178 b_J7_fill_53178_0 0 = true := by decide +kernel
def b_J7_fill_53178_5 : List Ent := [(.iload_n 2, 1, [], 0), (.iload_n 3, 1, [], 0), (.if_icmp .ge 13, 3, [20], 0)]
theorem a_J7_fill_53178_5 : ck mJ7_fill_53178 b_J7_fill_53178_5 5 = true := by decide +kernel
def b_J7_fill_53178_10 : List Ent := [(.aload_n 0, 1, [], 0), (.iload_n 2, 1, [], 0), (.iload_n 1, 1, [], 0), (.iastore, 1, [], 0), (.iinc 2 1, 3, [], 0), (.goto (-12), 3, [5], 0)]
theorem a_J7_fill_53178_10 : ck mJ7_fill_53178 b_J7_fill_53178_10 10 = true := by decide +kernel
def b_J7_fill_53178_20 : List Ent := [(.return_, 1, [], 0)]
theorem a_J7_fill_53178_20 : ck mJ7_fill_53178 b_J7_fill_53178_20 20 = true := by decide +kernel
theorem o_J7_fill_d0a16 : MOK mJ7_fill_d0a16 2 := MOK.of 746 71 (by decide +kernel) (by decide +kernel) (by decide +kernel) (by decide +kernel) (by decide +kernel)
def b_J7_fill_d0a16_0 : List Ent := [(.iconst 0, 1, [], 0), (.istore_n 3, 1, [], 0), (.aload_n 0, 1, [], 0), (.arraylength, 1, [7], 0), (.istore 4, 2, [], 0)]
theorem a_J7_fill_d0a16_0 : ck mJ7_fill_d0a16 b_J7_fill_d0a16_0 0 = true := by decide +kernel
def b_J7_fill_d0a16_6 : List Ent := [(.iload_n 3, 1, [], 0), (.iload 4, 2, [], 0), (.if_icmp .ge 13, 3, [22], 0)]
theorem a_J7_fill_d0a16_6 : ck mJ7_fill_d0a16 b_J7_fill_d0a16_6 6 = true := by decide +kernel
def b_J7_fill_d0a16_12 : List Ent := [(.aload_n 0, 1, [], 0), (.iload_n 3, 1, [], 0), (.lload_n 1, 1, [], 0), (.lastore, 1, [], 0), (.iinc 3 1, 3, [], 0), (.goto (-13), 3, [6], 0)]
theorem a_J7_fill_d0a16_12 : ck mJ7_fill_d0a16 b_J7_fill_d0a16_12 12 = true := by decide +kernel
def b_J7_fill_d0a16_22 : List Ent := [(.return_, 1, [], 0)]
theorem a_J7_fill_d0a16_22 : ck mJ7_fill_d0a16 b_J7_fill_d0a16_22 22 = true := by decide +kernel
theorem o_X0_begin : MOK mX0_begin 0 := MOK.of 801 63 (by decide +kernel) (by decide +kernel) (by decide +kernel) (by decide +kernel) (by decide +kernel)
def b_X0_begin_0 : List Ent := [(.aload_n 0, 1, [], 0), (.iconst 0, 1, [], 0), (.putfield 15, 3, [0, 1, 0, 234], 0), (.aload_n 0, 1, [], 0), (.iconst 0, 1, [], 0), (.putfield 19, 3, [0, 2, 1, 236], 0), (.return_, 1, [], 0)]
theorem a_X0_begin_0 : ck mX0_begin b_X0_begin_0 0 = true := by decide +kernel
theorem o_X0_init : MOK mX0_init 0 := MOK.of 230 63 (by decide +kernel) (by decide +kernel) (by decide +kernel) (by decide +kernel) (by decide +kernel)
theorem o_X0_note : MOK mX0_note 1 := MOK.of 820 63 (by decide +kernel) (by decide +kernel) (by decide +kernel) (by decide +kernel) (by decide +kernel)
def b_X0_note_0 : List Ent := [(.aload_n 0, 1, [], 0), (.getfield 15, 3, [0, 1, 0, 234], 0), (.bipush 30, 2, [], 0), (.if_icmp .ge 23, 3, [29], 0)]
theorem a_X0_note_0 : ck mX0_note b_X0_note_0 0 = true := by decide +kernel
def b_X0_note_9 : List Ent := [(.aload_n 0, 1, [], 0), (.getfield 9, 3, [0, 0, 1, 232], 0), (.aload_n 0, 1, [], 0), (.getfield 15, 3, [0, 1, 0, 234], 0), (.iload_n 1, 1, [], 0), (.iastore, 1, [], 0), (.aload_n 0, 1, [], 0), (.dup, 1, [], 0), (.getfield 15, 3, [0, 1, 0, 234], 0), (.iconst 1, 1, [], 0), (.iadd, 1, [], 0), (.putfield 15, 3, [0, 1, 0, 234], 0)]
theorem a_X0_note_9 : ck mX0_note b_X0_note_9 9 = true := by decide +kernel
def b_X0_note_29 : List Ent := [(.return_, 1, [], 0)]
theorem a_X0_note_29 : ck mX0_note b_X0_note_29 29 = true := by decide +kernel
theorem o_X0_part : MOK mX0_part 1 := MOK.of 824 63 (by decide +kernel) (by decide +kernel) (by decide +kernel) (by decide +kernel) (by decide +kernel)
def b_X0_part_0 : List Ent := [(.aload_n 0, 1, [], 0), (.getfield 29, 3, [0, 5, 0, 239], 0), (.aload_n 0, 1, [], 0), (.getfield 26, 3, [0, 4, 0, 238], 0), (.if_icmp .ne 10, 3, [18], 0)]
theorem a_X0_part_0 : ck mX0_part b_X0_part_0 0 = true := by decide +kernel
def b_X0_part_11 : List Ent := [(.aload_n 0, 1, [], 0), (.iconst 1, 1, [], 0), (.putfield 19, 3, [0, 2, 1, 236], 0), (.iconst 0, 1, [], 0), (.ireturn, 1, [0], 0)]
theorem a_X0_part_11 : ck mX0_part b_X0_part_11 11 = true := by decide +kernel
def b_X0_part_18 : List Ent := [(.iload_n 1, 1, [], 0), (.aload_n 0, 1, [], 0), (.getfield 29, 3, [0, 5, 0, 239], 0), (.aload_n 0, 1, [], 0), (.getfield 26, 3, [0, 4, 0, 238], 0), (.isub, 1, [], 0), (.idiv, 1, [], 0), (.ireturn, 1, [0], 0)]
theorem a_X0_part_18 : ck mX0_part b_X0_part_18 18 = true := by decide +kernel
theorem o_X0_play : MOK mX0_play 5 := MOK.of 805 63 (by decide +kernel) (by decide +kernel) (by decide +kernel) (by decide +kernel) (by decide +kernel)
def b_X0_play_0 : List Ent := [(.aload_n 0, 1, [], 0), (.iload_n 1, 1, [], 0), (.putfield 23, 3, [0, 3, 0, 237], 0), (.aload_n 0, 1, [], 0), (.iload_n 2, 1, [], 0), (.putfield 26, 3, [0, 4, 0, 238], 0), (.aload_n 0, 1, [], 0), (.iload_n 3, 1, [], 0), (.putfield 29, 3, [0, 5, 0, 239], 0), (.aload_n 0, 1, [], 0), (.iload 4, 2, [], 0), (.iload 5, 2, [], 0), (.iconst 0, 1, [], 0)]
theorem a_X0_play_0 : ck mX0_play b_X0_play_0 0 = true := by decide +kernel
theorem k_X0_play_21 : CV mX0_play 21 mX0_playOwn := CV.of 32 806 808 5 (by decide +kernel) (by decide +kernel) (by decide +kernel) (by decide +kernel)
def b_X0_play_24 : List Ent := [(.istore 6, 2, [], 0), (.aload_n 0, 1, [], 0), (.getfield 19, 3, [0, 2, 0, 236], 0), (.ifCond .eq 8, 3, [38], 0)]
theorem a_X0_play_24 : ck mX0_play b_X0_play_24 24 = true := by decide +kernel
def b_X0_play_33 : List Ent := [(.bipush (-15), 2, [], 0), (.goto 5, 3, [40], 0)]
theorem a_X0_play_33 : ck mX0_play b_X0_play_33 33 = true := by decide +kernel
def b_X0_play_38 : List Ent := [(.iload 6, 2, [], 0)]
theorem a_X0_play_38 : ck mX0_play b_X0_play_38 38 = true := by decide +kernel
def b_X0_play_40 : List Ent := [(.ireturn, 1, [0], 0)]
theorem a_X0_play_40 : ck mX0_play b_X0_play_40 40 = true := by decide +kernel
theorem o_X0_playOwn : MOK mX0_playOwn 3 := MOK.of 809 63 (by decide +kernel) (by decide +kernel) (by decide +kernel) (by decide +kernel) (by decide +kernel)
def b_X0_playOwn_0 : List Ent := [(.aload_n 0, 1, [], 0), (.getfield 23, 3, [0, 3, 0, 237], 0), (.iconst 4, 1, [], 0), (.imul, 1, [], 0), (.iload_n 1, 1, [], 0), (.iadd, 1, [], 0), (.istore 4, 2, [], 0), (.iload 4, 2, [], 0), (.iconst 0, 1, [], 0), (.getstatic 36, 3, [3, 1, 810], 0), (.arraylength, 1, [10], 0), (.iconst 1, 1, [], 0), (.isub, 1, [], 0)]
theorem a_X0_playOwn_0 : ck mX0_playOwn b_X0_playOwn_0 0 = true := by decide +kernel
theorem k_X0_playOwn_19 : CS mX0_playOwn 19 mX5_within := CS.ofN 39 812 289 (by decide +kernel) (by decide +kernel) (by decide +kernel)
def b_X0_playOwn_22 : List Ent := [(.ifCond .eq 18, 3, [40], 0)]
theorem a_X0_playOwn_22 : ck mX0_playOwn b_X0_playOwn_22 22 = true := by decide +kernel
def b_X0_playOwn_25 : List Ent := [(.aload_n 0, 1, [], 0), (.getstatic 36, 3, [3, 1, 810], 0), (.iload 4, 2, [], 0), (.iaload, 1, [10], 0), (.iload_n 2, 1, [], 0), (.iload_n 3, 1, [], 0)]
theorem a_X0_playOwn_25 : ck mX0_playOwn b_X0_playOwn_25 25 = true := by decide +kernel
theorem k_X0_playOwn_34 : CV mX0_playOwn 34 mX0_run := CV.of 43 813 815 6 (by decide +kernel) (by decide +kernel) (by decide +kernel) (by decide +kernel)
def b_X0_playOwn_37 : List Ent := [(.goto 4, 3, [41], 0)]
theorem a_X0_playOwn_37 : ck mX0_playOwn b_X0_playOwn_37 37 = true := by decide +kernel
def b_X0_playOwn_40 : List Ent := [(.iconst 0, 1, [], 0)]
theorem a_X0_playOwn_40 : ck mX0_playOwn b_X0_playOwn_40 40 = true := by decide +kernel
def b_X0_playOwn_41 : List Ent := [(.ireturn, 1, [0], 0)]
theorem a_X0_playOwn_41 : ck mX0_playOwn b_X0_playOwn_41 41 = true := by decide +kernel
theorem o_X0_run : MOK mX0_run 3 := MOK.of 816 63 (by decide +kernel) (by decide +kernel) (by decide +kernel) (by decide +kernel) (by decide +kernel)
def b_X0_run_0 : List Ent := [(.aload_n 0, 1, [], 0), (.getfield 19, 3, [0, 2, 0, 236], 0), (.ifCond .ne 9, 3, [13], 0)]
theorem a_X0_run_0 : ck mX0_run b_X0_run_0 0 = true := by decide +kernel
def b_X0_run_7 : List Ent := [(.iload_n 3, 1, [], 0), (.bipush 40, 2, [], 0), (.if_icmp .le 5, 3, [15], 0)]
theorem a_X0_run_7 : ck mX0_run b_X0_run_7 7 = true := by decide +kernel
def b_X0_run_13 : List Ent := [(.iconst 0, 1, [], 0), (.ireturn, 1, [0], 0)]
theorem a_X0_run_13 : ck mX0_run b_X0_run_13 13 = true := by decide +kernel
def b_X0_run_15 : List Ent := [(.aload_n 0, 1, [], 0), (.iload_n 1, 1, [], 0)]
theorem a_X0_run_15 : ck mX0_run b_X0_run_15 15 = true := by decide +kernel
theorem k_X0_run_17 : CV mX0_run 17 mX0_note := CV.of 46 817 819 7 (by decide +kernel) (by decide +kernel) (by decide +kernel) (by decide +kernel)
def b_X0_run_20 : List Ent := [(.iload_n 3, 1, [], 0), (.iconst 1, 1, [], 0), (.iadd, 1, [], 0), (.istore 4, 2, [], 0), (.iload_n 1, 1, [], 0), (.tableswitch 411 10 61 #[222, 231, 245, 251, 411, 411, 411, 411, 411, 411, 263, 411, 411, 411, 411, 411, 411, 411, 411, 411, 275, 287, 411, 411, 411, 411, 411, 411, 411, 411, 309, 321, 411, 411, 411, 411, 411, 411, 411, 411, 343, 361, 411, 411, 411, 411, 411, 411, 411, 411, 376, 389], 222, [437, 248, 257, 271, 277, 437, 437, 437, 437, 437, 437, 289, 437, 437, 437, 437, 437, 437, 437, 437, 437, 301, 313, 437, 437, 437, 437, 437, 437, 437, 437, 335, 347, 437, 437, 437, 437, 437, 437, 437, 437, 369, 387, 437, 437, 437, 437, 437, 437, 437, 437, 402, 415], 0)]
theorem a_X0_run_20 : ck mX0_run b_X0_run_20 20 = true := by decide +kernel
def b_X0_run_248 : List Ent := [(.iload_n 2, 1, [], 0), (.iconst 3, 1, [], 0), (.imul, 1, [], 0), (.aload_n 0, 1, [], 0), (.getfield 26, 3, [0, 4, 0, 238], 0), (.iadd, 1, [], 0), (.ireturn, 1, [0], 0)]
theorem a_X0_run_248 : ck mX0_run b_X0_run_248 248 = true := by decide +kernel
def b_X0_run_257 : List Ent := [(.aload_n 0, 1, [], 0), (.iconst 0, 1, [], 0), (.iload_n 2, 1, [], 0), (.iload 4, 2, [], 0)]
theorem a_X0_run_257 : ck mX0_run b_X0_run_257 257 = true := by decide +kernel
theorem k_X0_run_262 : CV mX0_run 262 mX0_playOwn := CV.of 32 806 808 5 (by decide +kernel) (by decide +kernel) (by decide +kernel) (by decide +kernel)
def b_X0_run_265 : List Ent := [(.aload_n 0, 1, [], 0), (.getfield 29, 3, [0, 5, 0, 239], 0), (.isub, 1, [], 0), (.ireturn, 1, [0], 0)]
theorem a_X0_run_265 : ck mX0_run b_X0_run_265 265 = true := by decide +kernel
def b_X0_run_271 : List Ent := [(.aload_n 0, 1, [], 0), (.iload_n 2, 1, [], 0)]
theorem a_X0_run_271 : ck mX0_run b_X0_run_271 271 = true := by decide +kernel
theorem k_X0_run_273 : CV mX0_run 273 mX0_part := CV.of 50 821 823 8 (by decide +kernel) (by decide +kernel) (by decide +kernel) (by decide +kernel)
def b_X0_run_276 : List Ent := [(.ireturn, 1, [0], 0)]
theorem a_X0_run_276 : ck mX0_run b_X0_run_276 276 = true := by decide +kernel
def b_X0_run_277 : List Ent := [(.aload_n 0, 1, [], 0), (.iconst 1, 1, [], 0), (.iload_n 2, 1, [], 0), (.iload 4, 2, [], 0)]
theorem a_X0_run_277 : ck mX0_run b_X0_run_277 277 = true := by decide +kernel
theorem k_X0_run_282 : CV mX0_run 282 mX0_playOwn := CV.of 32 806 808 5 (by decide +kernel) (by decide +kernel) (by decide +kernel) (by decide +kernel)
def b_X0_run_285 : List Ent := [(.bipush 17, 2, [], 0), (.ixor, 1, [], 0), (.ireturn, 1, [0], 0)]
theorem a_X0_run_285 : ck mX0_run b_X0_run_285 285 = true := by decide +kernel
def b_X0_run_289 : List Ent := [(.aload_n 0, 1, [], 0), (.bipush 11, 2, [], 0), (.iload_n 2, 1, [], 0), (.iload 4, 2, [], 0)]
theorem a_X0_run_289 : ck mX0_run b_X0_run_289 289 = true := by decide +kernel
theorem k_X0_run_295 : CV mX0_run 295 mX0_run := CV.of 43 813 815 6 (by decide +kernel) (by decide +kernel) (by decide +kernel) (by decide +kernel)
def b_X0_run_298 : List Ent := [(.iconst 2, 1, [], 0), (.imul, 1, [], 0), (.ireturn, 1, [0], 0)]
theorem a_X0_run_298 : ck mX0_run b_X0_run_298 298 = true := by decide +kernel
def b_X0_run_301 : List Ent := [(.aload_n 0, 1, [], 0), (.bipush 10, 2, [], 0), (.iload_n 2, 1, [], 0), (.iload 4, 2, [], 0)]
theorem a_X0_run_301 : ck mX0_run b_X0_run_301 301 = true := by decide +kernel
theorem k_X0_run_307 : CV mX0_run 307 mX0_run := CV.of 43 813 815 6 (by decide +kernel) (by decide +kernel) (by decide +kernel) (by decide +kernel)
def b_X0_run_310 : List Ent := [(.iconst 1, 1, [], 0), (.isub, 1, [], 0), (.ireturn, 1, [0], 0)]
theorem a_X0_run_310 : ck mX0_run b_X0_run_310 310 = true := by decide +kernel
def b_X0_run_313 : List Ent := [(.aload_n 0, 1, [], 0), (.bipush 13, 2, [], 0), (.iload_n 2, 1, [], 0), (.iload 4, 2, [], 0)]
theorem a_X0_run_313 : ck mX0_run b_X0_run_313 313 = true := by decide +kernel
theorem k_X0_run_319 : CV mX0_run 319 mX0_run := CV.of 43 813 815 6 (by decide +kernel) (by decide +kernel) (by decide +kernel) (by decide +kernel)
def b_X0_run_322 : List Ent := [(.aload_n 0, 1, [], 0), (.iconst 2, 1, [], 0), (.aload_n 0, 1, [], 0), (.getfield 26, 3, [0, 4, 0, 238], 0), (.iload 4, 2, [], 0)]
theorem a_X0_run_322 : ck mX0_run b_X0_run_322 322 = true := by decide +kernel
theorem k_X0_run_330 : CV mX0_run 330 mX0_playOwn := CV.of 32 806 808 5 (by decide +kernel) (by decide +kernel) (by decide +kernel) (by decide +kernel)
def b_X0_run_333 : List Ent := [(.iadd, 1, [], 0), (.ireturn, 1, [0], 0)]
theorem a_X0_run_333 : ck mX0_run b_X0_run_333 333 = true := by decide +kernel
def b_X0_run_335 : List Ent := [(.iconst 0, 1, [], 0), (.aload_n 0, 1, [], 0), (.bipush 30, 2, [], 0), (.iload_n 2, 1, [], 0), (.iload 4, 2, [], 0)]
theorem a_X0_run_335 : ck mX0_run b_X0_run_335 335 = true := by decide +kernel
theorem k_X0_run_342 : CV mX0_run 342 mX0_run := CV.of 43 813 815 6 (by decide +kernel) (by decide +kernel) (by decide +kernel) (by decide +kernel)
def b_X0_run_345 : List Ent := [(.isub, 1, [], 0), (.ireturn, 1, [0], 0)]
theorem a_X0_run_345 : ck mX0_run b_X0_run_345 345 = true := by decide +kernel
def b_X0_run_347 : List Ent := [(.aload_n 0, 1, [], 0), (.bipush 11, 2, [], 0), (.iload_n 2, 1, [], 0), (.iload 4, 2, [], 0)]
theorem a_X0_run_347 : ck mX0_run b_X0_run_347 347 = true := by decide +kernel
theorem k_X0_run_353 : CV mX0_run 353 mX0_run := CV.of 43 813 815 6 (by decide +kernel) (by decide +kernel) (by decide +kernel) (by decide +kernel)
def b_X0_run_356 : List Ent := [(.aload_n 0, 1, [], 0), (.iconst 0, 1, [], 0), (.aload_n 0, 1, [], 0), (.getfield 29, 3, [0, 5, 0, 239], 0), (.iload 4, 2, [], 0)]
theorem a_X0_run_356 : ck mX0_run b_X0_run_356 356 = true := by decide +kernel
theorem k_X0_run_364 : CV mX0_run 364 mX0_playOwn := CV.of 32 806 808 5 (by decide +kernel) (by decide +kernel) (by decide +kernel) (by decide +kernel)
def b_X0_run_367 : List Ent := [(.ixor, 1, [], 0), (.ireturn, 1, [0], 0)]
theorem a_X0_run_367 : ck mX0_run b_X0_run_367 367 = true := by decide +kernel
def b_X0_run_369 : List Ent := [(.aload_n 0, 1, [], 0), (.bipush 12, 2, [], 0), (.iload_n 2, 1, [], 0), (.aload_n 0, 1, [], 0), (.getfield 29, 3, [0, 5, 0, 239], 0), (.isub, 1, [], 0), (.iload 4, 2, [], 0)]
theorem a_X0_run_369 : ck mX0_run b_X0_run_369 369 = true := by decide +kernel
theorem k_X0_run_380 : CV mX0_run 380 mX0_run := CV.of 43 813 815 6 (by decide +kernel) (by decide +kernel) (by decide +kernel) (by decide +kernel)
def b_X0_run_383 : List Ent := [(.bipush 9, 2, [], 0), (.iadd, 1, [], 0), (.ireturn, 1, [0], 0)]
theorem a_X0_run_383 : ck mX0_run b_X0_run_383 383 = true := by decide +kernel
def b_X0_run_387 : List Ent := [(.aload_n 0, 1, [], 0), (.bipush 10, 2, [], 0), (.iload_n 2, 1, [], 0), (.iload 4, 2, [], 0)]
theorem a_X0_run_387 : ck mX0_run b_X0_run_387 387 = true := by decide +kernel
theorem k_X0_run_393 : CV mX0_run 393 mX0_run := CV.of 43 813 815 6 (by decide +kernel) (by decide +kernel) (by decide +kernel) (by decide +kernel)
def b_X0_run_396 : List Ent := [(.aload_n 0, 1, [], 0), (.getfield 26, 3, [0, 4, 0, 238], 0), (.iadd, 1, [], 0), (.ireturn, 1, [0], 0)]
theorem a_X0_run_396 : ck mX0_run b_X0_run_396 396 = true := by decide +kernel
def b_X0_run_402 : List Ent := [(.bipush 70, 2, [], 0), (.aload_n 0, 1, [], 0), (.bipush 13, 2, [], 0), (.iload_n 2, 1, [], 0), (.iload 4, 2, [], 0)]
theorem a_X0_run_402 : ck mX0_run b_X0_run_402 402 = true := by decide +kernel
theorem k_X0_run_410 : CV mX0_run 410 mX0_run := CV.of 43 813 815 6 (by decide +kernel) (by decide +kernel) (by decide +kernel) (by decide +kernel)
def b_X0_run_413 : List Ent := [(.isub, 1, [], 0), (.ireturn, 1, [0], 0)]
theorem a_X0_run_413 : ck mX0_run b_X0_run_413 413 = true := by decide +kernel
def b_X0_run_415 : List Ent := [(.aload_n 0, 1, [], 0), (.bipush 12, 2, [], 0), (.iload_n 2, 1, [], 0), (.iload 4, 2, [], 0)]
theorem a_X0_run_415 : ck mX0_run b_X0_run_415 415 = true := by decide +kernel
theorem k_X0_run_421 : CV mX0_run 421 mX0_run := CV.of 43 813 815 6 (by decide +kernel) (by decide +kernel) (by decide +kernel) (by decide +kernel)
def b_X0_run_424 : List Ent := [(.aload_n 0, 1, [], 0), (.iconst 0, 1, [], 0), (.aload_n 0, 1, [], 0), (.getfield 26, 3, [0, 4, 0, 238], 0), (.iload 4, 2, [], 0)]
theorem a_X0_run_424 : ck mX0_run b_X0_run_424 424 = true := by decide +kernel
theorem k_X0_run_432 : CV mX0_run 432 mX0_playOwn := CV.of 32 806 808 5 (by decide +kernel) (by decide +kernel) (by decide +kernel) (by decide +kernel)
def b_X0_run_435 : List Ent := [(.isub, 1, [], 0), (.ireturn, 1, [0], 0)]
theorem a_X0_run_435 : ck mX0_run b_X0_run_435 435 = true := by decide +kernel
def b_X0_run_437 : List Ent := [(.iconst 0, 1, [], 0), (.ireturn, 1, [0], 0)]
theorem a_X0_run_437 : ck mX0_run b_X0_run_437 437 = true := by decide +kernel
theorem o_X1_has : MOK mX1_has 1 := MOK.of 679 61 (by decide +kernel) (by decide +kernel) (by decide +kernel) (by decide +kernel) (by decide +kernel)
def b_X1_has_0 : List Ent := [(.iload_n 1, 1, [], 0), (.iconst 0, 1, [], 0), (.iconst 3, 1, [], 0)]
theorem a_X1_has_0 : ck mX1_has b_X1_has_0 0 = true := by decide +kernel
theorem k_X1_has_3 : CS mX1_has 3 mX5_within := CS.ofN 23 680 289 (by decide +kernel) (by decide +kernel) (by decide +kernel)
def b_X1_has_6 : List Ent := [(.ireturn, 1, [1], 0)]
theorem a_X1_has_6 : ck mX1_has b_X1_has_6 6 = true := by decide +kernel
theorem o_X1_hasItem : MOK mX1_hasItem 2 := MOK.of 754 61 (by decide +kernel) (by decide +kernel) (by decide +kernel) (by decide +kernel) (by decide +kernel)
def b_X1_hasItem_0 : List Ent := [(.iload_n 2, 1, [], 0), (.iconst 0, 1, [], 0), (.aload_n 0, 1, [], 0), (.getfield 20, 3, [1, 2, 7, 194], 0), (.iload_n 1, 1, [], 0), (.iaload, 1, [7], 0), (.iconst 1, 1, [], 0), (.isub, 1, [], 0)]
theorem a_X1_hasItem_0 : ck mX1_hasItem b_X1_hasItem_0 0 = true := by decide +kernel
theorem k_X1_hasItem_10 : CS mX1_hasItem 10 mX5_within := CS.ofN 23 680 289 (by decide +kernel) (by decide +kernel) (by decide +kernel)
def b_X1_hasItem_13 : List Ent := [(.ireturn, 1, [1], 0)]
theorem a_X1_hasItem_13 : ck mX1_hasItem b_X1_hasItem_13 13 = true := by decide +kernel
theorem o_X1_init : MOK mX1_init 0 := MOK.of 186 61 (by decide +kernel) (by decide +kernel) (by decide +kernel) (by decide +kernel) (by decide +kernel)
theorem o_X1_isMissing : MOK mX1_isMissing 1 := MOK.of 684 61 (by decide +kernel) (by decide +kernel) (by decide +kernel) (by decide +kernel) (by decide +kernel)
def b_X1_isMissing_0 : List Ent := [(.aload_n 0, 1, [], 0), (.getfield 16, 3, [1, 1, 6, 192], 0), (.iload_n 1, 1, [], 0), (.iaload, 1, [7], 0), (.iconst (-1), 1, [], 0), (.if_icmp .ne 7, 3, [14], 0)]
theorem a_X1_isMissing_0 : ck mX1_isMissing b_X1_isMissing_0 0 = true := by decide +kernel
def b_X1_isMissing_10 : List Ent := [(.iconst 1, 1, [], 0), (.goto 4, 3, [15], 0)]
theorem a_X1_isMissing_10 : ck mX1_isMissing b_X1_isMissing_10 10 = true := by decide +kernel
def b_X1_isMissing_14 : List Ent := [(.iconst 0, 1, [], 0)]
theorem a_X1_isMissing_14 : ck mX1_isMissing b_X1_isMissing_14 14 = true := by decide +kernel
def b_X1_isMissing_15 : List Ent := [(.ireturn, 1, [1], 0)]
theorem a_X1_isMissing_15 : ck mX1_isMissing b_X1_isMissing_15 15 = true := by decide +kernel
theorem o_X1_lay : MOK mX1_lay 3 := MOK.of 743 61 (by decide +kernel) (by decide +kernel) (by decide +kernel) (by decide +kernel) (by decide +kernel)
def b_X1_lay_0 : List Ent := [(.aload_n 0, 1, [], 0), (.getfield 11, 3, [1, 0, 1, 190], 0), (.iload_n 1, 1, [], 0), (.aaload, 1, [], 0), (.lconst 0, 1, [], 0)]
theorem a_X1_lay_0 : ck mX1_lay b_X1_lay_0 0 = true := by decide +kernel
theorem k_X1_lay_7 : CS mX1_lay 7 mJ7_fill_d0a16 := CS.of 27 744 745 (by decide +kernel) (by decide +kernel) (by decide +kernel)
def b_X1_lay_10 : List Ent := [(.aload_n 0, 1, [], 0), (.getfield 16, 3, [1, 1, 6, 192], 0), (.iload_n 1, 1, [], 0), (.iload_n 2, 1, [], 0), (.iastore, 1, [], 0), (.aload_n 0, 1, [], 0), (.getfield 20, 3, [1, 2, 7, 194], 0), (.iload_n 1, 1, [], 0), (.iload_n 3, 1, [], 0), (.iastore, 1, [], 0), (.return_, 1, [], 0)]
theorem a_X1_lay_10 : ck mX1_lay b_X1_lay_10 10 = true := by decide +kernel
theorem o_X2_has : MOK mX2_has 1 := MOK.of 769 62 (by decide +kernel) (by decide +kernel) (by decide +kernel) (by decide +kernel) (by decide +kernel)
def b_X2_has_0 : List Ent := [(.iload_n 1, 1, [], 0), (.iconst 0, 1, [], 0), (.iconst 3, 1, [], 0)]
theorem a_X2_has_0 : ck mX2_has b_X2_has_0 0 = true := by decide +kernel
theorem k_X2_has_3 : CS mX2_has 3 mX5_within := CS.ofN 24 770 289 (by decide +kernel) (by decide +kernel) (by decide +kernel)
def b_X2_has_6 : List Ent := [(.ireturn, 1, [1], 0)]
theorem a_X2_has_6 : ck mX2_has b_X2_has_6 6 = true := by decide +kernel
theorem o_X2_heldOf : MOK mX2_heldOf 2 := MOK.of 790 62 (by decide +kernel) (by decide +kernel) (by decide +kernel) (by decide +kernel) (by decide +kernel)
def b_X2_heldOf_0 : List Ent := [(.aload_n 0, 1, [], 0), (.getfield 9, 3, [2, 0, 1, 210], 0), (.iload_n 1, 1, [], 0), (.iaload, 1, [7], 0), (.iconst 1, 1, [], 0), (.if_icmp .ne 20, 3, [27], 0)]
theorem a_X2_heldOf_0 : ck mX2_heldOf b_X2_heldOf_0 0 = true := by decide +kernel
def b_X2_heldOf_10 : List Ent := [(.aload_n 2, 1, [], 0), (.aload_n 0, 1, [], 0), (.getfield 15, 3, [2, 1, 2, 211], 0), (.iload_n 1, 1, [], 0), (.iaload, 1, [7], 0)]
theorem a_X2_heldOf_10 : ck mX2_heldOf b_X2_heldOf_10 10 = true := by decide +kernel
theorem k_X2_heldOf_17 : CV mX2_heldOf 17 mX4_has := CV.of 28 791 470 471 (by decide +kernel) (by decide +kernel) (by decide +kernel) (by decide +kernel)
def b_X2_heldOf_20 : List Ent := [(.ifCond .ne 7, 3, [27], 0)]
theorem a_X2_heldOf_20 : ck mX2_heldOf b_X2_heldOf_20 20 = true := by decide +kernel
def b_X2_heldOf_23 : List Ent := [(.iconst 1, 1, [], 0), (.goto 4, 3, [28], 0)]
theorem a_X2_heldOf_23 : ck mX2_heldOf b_X2_heldOf_23 23 = true := by decide +kernel
def b_X2_heldOf_27 : List Ent := [(.iconst 0, 1, [], 0)]
theorem a_X2_heldOf_27 : ck mX2_heldOf b_X2_heldOf_27 27 = true := by decide +kernel
def b_X2_heldOf_28 : List Ent := [(.istore_n 3, 1, [], 0), (.iload_n 3, 1, [], 0), (.ifCond .eq 7, 3, [37], 0)]
theorem a_X2_heldOf_28 : ck mX2_heldOf b_X2_heldOf_28 28 = true := by decide +kernel
def b_X2_heldOf_33 : List Ent := [(.iconst 0, 1, [], 0), (.goto 9, 3, [43], 0)]
theorem a_X2_heldOf_33 : ck mX2_heldOf b_X2_heldOf_33 33 = true := by decide +kernel
def b_X2_heldOf_37 : List Ent := [(.aload_n 0, 1, [], 0), (.getfield 9, 3, [2, 0, 1, 210], 0), (.iload_n 1, 1, [], 0), (.iaload, 1, [7], 0)]
theorem a_X2_heldOf_37 : ck mX2_heldOf b_X2_heldOf_37 37 = true := by decide +kernel
def b_X2_heldOf_43 : List Ent := [(.ireturn, 1, [0], 0)]
theorem a_X2_heldOf_43 : ck mX2_heldOf b_X2_heldOf_43 43 = true := by decide +kernel
theorem o_X2_holdBranch : MOK mX2_holdBranch 2 := MOK.of 774 62 (by decide +kernel) (by decide +kernel) (by decide +kernel) (by decide +kernel) (by decide +kernel)
def b_X2_holdBranch_0 : List Ent := [(.aload_n 0, 1, [], 0), (.getfield 9, 3, [2, 0, 1, 210], 0), (.iload_n 1, 1, [], 0), (.iconst 1, 1, [], 0), (.iastore, 1, [], 0), (.aload_n 0, 1, [], 0), (.getfield 15, 3, [2, 1, 2, 211], 0), (.iload_n 1, 1, [], 0), (.iload_n 2, 1, [], 0), (.iastore, 1, [], 0), (.return_, 1, [], 0)]
theorem a_X2_holdBranch_0 : ck mX2_holdBranch b_X2_holdBranch_0 0 = true := by decide +kernel
theorem o_X2_holdNothing : MOK mX2_holdNothing 1 := MOK.of 782 62 (by decide +kernel) (by decide +kernel) (by decide +kernel) (by decide +kernel) (by decide +kernel)
def b_X2_holdNothing_0 : List Ent := [(.aload_n 0, 1, [], 0), (.getfield 9, 3, [2, 0, 1, 210], 0), (.iload_n 1, 1, [], 0), (.iconst 0, 1, [], 0), (.iastore, 1, [], 0), (.return_, 1, [], 0)]
theorem a_X2_holdNothing_0 : ck mX2_holdNothing b_X2_holdNothing_0 0 = true := by decide +kernel
theorem o_X2_holdRow : MOK mX2_holdRow 3 := MOK.of 778 62 (by decide +kernel) (by decide +kernel) (by decide +kernel) (by decide +kernel) (by decide +kernel)
def b_X2_holdRow_0 : List Ent := [(.aload_n 0, 1, [], 0), (.getfield 9, 3, [2, 0, 1, 210], 0), (.iload_n 1, 1, [], 0), (.iconst 2, 1, [], 0), (.iastore, 1, [], 0), (.aload_n 0, 1, [], 0), (.getfield 18, 3, [2, 2, 3, 213], 0), (.iload_n 1, 1, [], 0), (.iload_n 2, 1, [], 0), (.iastore, 1, [], 0), (.aload_n 0, 1, [], 0), (.getfield 21, 3, [2, 3, 4, 215], 0), (.iload_n 1, 1, [], 0), (.iload_n 3, 1, [], 0), (.iastore, 1, [], 0), (.return_, 1, [], 0)]
theorem a_X2_holdRow_0 : ck mX2_holdRow b_X2_holdRow_0 0 = true := by decide +kernel
theorem o_X2_init : MOK mX2_init 0 := MOK.of 208 62 (by decide +kernel) (by decide +kernel) (by decide +kernel) (by decide +kernel) (by decide +kernel)
theorem o_X3_append : MOK mX3_append 2 := MOK.of 294 60 (by decide +kernel) (by decide +kernel) (by decide +kernel) (by decide +kernel) (by decide +kernel)
def b_X3_append_0 : List Ent := [(.iconst 0, 1, [], 0), (.istore 4, 2, [], 0)]
theorem a_X3_append_0 : ck mX3_append b_X3_append_0 0 = true := by decide +kernel
def b_X3_append_3 : List Ent := [(.iload 4, 2, [], 0), (.iload_n 3, 1, [], 0), (.if_icmp .ge 50, 3, [56], 0)]
theorem a_X3_append_3 : ck mX3_append b_X3_append_3 3 = true := by decide +kernel
def b_X3_append_9 : List Ent := [(.aload_n 0, 1, [], 0), (.getfield 15, 3, [3, 1, 0, 162], 0), (.sipush 200, 3, [], 0), (.if_icmp .ge 40, 3, [56], 0)]
theorem a_X3_append_9 : ck mX3_append b_X3_append_9 9 = true := by decide +kernel
def b_X3_append_19 : List Ent := [(.aload_n 0, 1, [], 0), (.getfield 9, 3, [3, 0, 1, 161], 0), (.aload_n 0, 1, [], 0), (.getfield 15, 3, [3, 1, 0, 162], 0), (.lload_n 1, 1, [], 0), (.bipush 8, 2, [], 0), (.iload 4, 2, [], 0), (.imul, 1, [], 0), (.lushr, 1, [], 0), (.l2i, 1, [], 0), (.sipush 255, 3, [], 0), (.iand, 1, [], 0), (.iastore, 1, [], 0), (.aload_n 0, 1, [], 0), (.dup, 1, [], 0), (.getfield 15, 3, [3, 1, 0, 162], 0), (.iconst 1, 1, [], 0), (.iadd, 1, [], 0), (.putfield 15, 3, [3, 1, 0, 162], 0), (.iinc 4 1, 3, [], 0), (.goto (-50), 3, [3], 0)]
theorem a_X3_append_19 : ck mX3_append b_X3_append_19 19 = true := by decide +kernel
def b_X3_append_56 : List Ent := [(.return_, 1, [], 0)]
theorem a_X3_append_56 : ck mX3_append b_X3_append_56 56 = true := by decide +kernel
theorem o_X3_init : MOK mX3_init 0 := MOK.of 159 60 (by decide +kernel) (by decide +kernel) (by decide +kernel) (by decide +kernel) (by decide +kernel)
theorem o_X3_is : MOK mX3_is 1 := MOK.of 328 60 (by decide +kernel) (by decide +kernel) (by decide +kernel) (by decide +kernel) (by decide +kernel)
def b_X3_is_0 : List Ent := [(.aload_n 0, 1, [], 0), (.getfield 22, 3, [3, 3, 0, 166], 0), (.aload_n 0, 1, [], 0), (.getfield 19, 3, [3, 2, 0, 164], 0), (.isub, 1, [], 0), (.aload_n 1, 1, [], 0)]
theorem a_X3_is_0 : ck mX3_is b_X3_is_0 0 = true := by decide +kernel
theorem k_X3_is_10 : CV mX3_is 10 mJ0_length_8abf5 := CV.of 134 329 330 331 (by decide +kernel) (by decide +kernel) (by decide +kernel) (by decide +kernel)
def b_X3_is_13 : List Ent := [(.if_icmp .eq 5, 3, [18], 0)]
theorem a_X3_is_13 : ck mX3_is b_X3_is_13 13 = true := by decide +kernel
def b_X3_is_16 : List Ent := [(.iconst 0, 1, [], 0), (.ireturn, 1, [1], 0)]
theorem a_X3_is_16 : ck mX3_is b_X3_is_16 16 = true := by decide +kernel
def b_X3_is_18 : List Ent := [(.aload_n 0, 1, [], 0), (.getfield 19, 3, [3, 2, 0, 164], 0), (.istore_n 2, 1, [], 0)]
theorem a_X3_is_18 : ck mX3_is b_X3_is_18 18 = true := by decide +kernel
def b_X3_is_23 : List Ent := [(.iload_n 2, 1, [], 0), (.aload_n 0, 1, [], 0), (.getfield 22, 3, [3, 3, 0, 166], 0), (.if_icmp .ge 30, 3, [58], 0)]
theorem a_X3_is_23 : ck mX3_is b_X3_is_23 23 = true := by decide +kernel
def b_X3_is_31 : List Ent := [(.aload_n 0, 1, [], 0), (.getfield 9, 3, [3, 0, 1, 161], 0), (.iload_n 2, 1, [], 0), (.iaload, 1, [7], 0), (.aload_n 1, 1, [], 0), (.iload_n 2, 1, [], 0), (.aload_n 0, 1, [], 0), (.getfield 19, 3, [3, 2, 0, 164], 0), (.isub, 1, [], 0)]
theorem a_X3_is_31 : ck mX3_is b_X3_is_31 31 = true := by decide +kernel
theorem k_X3_is_44 : CV mX3_is 44 mJ0_charAt_5068e := CV.of 138 339 340 341 (by decide +kernel) (by decide +kernel) (by decide +kernel) (by decide +kernel)
def b_X3_is_47 : List Ent := [(.if_icmp .eq 5, 3, [52], 0)]
theorem a_X3_is_47 : ck mX3_is b_X3_is_47 47 = true := by decide +kernel
def b_X3_is_50 : List Ent := [(.iconst 0, 1, [], 0), (.ireturn, 1, [1], 0)]
theorem a_X3_is_50 : ck mX3_is b_X3_is_50 50 = true := by decide +kernel
def b_X3_is_52 : List Ent := [(.iinc 2 1, 3, [], 0), (.goto (-32), 3, [23], 0)]
theorem a_X3_is_52 : ck mX3_is b_X3_is_52 52 = true := by decide +kernel
def b_X3_is_58 : List Ent := [(.iconst 1, 1, [], 0), (.ireturn, 1, [1], 0)]
theorem a_X3_is_58 : ck mX3_is b_X3_is_58 58 = true := by decide +kernel
theorem o_X3_kindNamed : MOK mX3_kindNamed 0 := MOK.of 323 60 (by decide +kernel) (by decide +kernel) (by decide +kernel) (by decide +kernel) (by decide +kernel)
def b_X3_kindNamed_0 : List Ent := [(.aload_n 0, 1, [], 0), (.ldc 106, 2, [1, 0], 0)]
theorem a_X3_kindNamed_0 : ck mX3_kindNamed b_X3_kindNamed_0 0 = true := by decide +kernel
theorem k_X3_kindNamed_3 : CV mX3_kindNamed 3 mX3_is := CV.of 108 325 326 327 (by decide +kernel) (by decide +kernel) (by decide +kernel) (by decide +kernel)
def b_X3_kindNamed_6 : List Ent := [(.ifCond .eq 7, 3, [13], 0)]
theorem a_X3_kindNamed_6 : ck mX3_kindNamed b_X3_kindNamed_6 6 = true := by decide +kernel
def b_X3_kindNamed_9 : List Ent := [(.iconst 0, 1, [], 0), (.goto 69, 3, [79], 0)]
theorem a_X3_kindNamed_9 : ck mX3_kindNamed b_X3_kindNamed_9 9 = true := by decide +kernel
def b_X3_kindNamed_13 : List Ent := [(.aload_n 0, 1, [], 0), (.ldc 111, 2, [1, 1], 0)]
theorem a_X3_kindNamed_13 : ck mX3_kindNamed b_X3_kindNamed_13 13 = true := by decide +kernel
theorem k_X3_kindNamed_16 : CV mX3_kindNamed 16 mX3_is := CV.of 108 325 326 327 (by decide +kernel) (by decide +kernel) (by decide +kernel) (by decide +kernel)
def b_X3_kindNamed_19 : List Ent := [(.ifCond .eq 7, 3, [26], 0)]
theorem a_X3_kindNamed_19 : ck mX3_kindNamed b_X3_kindNamed_19 19 = true := by decide +kernel
def b_X3_kindNamed_22 : List Ent := [(.iconst 1, 1, [], 0), (.goto 56, 3, [79], 0)]
theorem a_X3_kindNamed_22 : ck mX3_kindNamed b_X3_kindNamed_22 22 = true := by decide +kernel
def b_X3_kindNamed_26 : List Ent := [(.aload_n 0, 1, [], 0), (.ldc 113, 2, [1, 2], 0)]
theorem a_X3_kindNamed_26 : ck mX3_kindNamed b_X3_kindNamed_26 26 = true := by decide +kernel
theorem k_X3_kindNamed_29 : CV mX3_kindNamed 29 mX3_is := CV.of 108 325 326 327 (by decide +kernel) (by decide +kernel) (by decide +kernel) (by decide +kernel)
def b_X3_kindNamed_32 : List Ent := [(.ifCond .eq 7, 3, [39], 0)]
theorem a_X3_kindNamed_32 : ck mX3_kindNamed b_X3_kindNamed_32 32 = true := by decide +kernel
def b_X3_kindNamed_35 : List Ent := [(.iconst 2, 1, [], 0), (.goto 43, 3, [79], 0)]
theorem a_X3_kindNamed_35 : ck mX3_kindNamed b_X3_kindNamed_35 35 = true := by decide +kernel
def b_X3_kindNamed_39 : List Ent := [(.aload_n 0, 1, [], 0), (.ldc 115, 2, [1, 3], 0)]
theorem a_X3_kindNamed_39 : ck mX3_kindNamed b_X3_kindNamed_39 39 = true := by decide +kernel
theorem k_X3_kindNamed_42 : CV mX3_kindNamed 42 mX3_is := CV.of 108 325 326 327 (by decide +kernel) (by decide +kernel) (by decide +kernel) (by decide +kernel)
def b_X3_kindNamed_45 : List Ent := [(.ifCond .eq 7, 3, [52], 0)]
theorem a_X3_kindNamed_45 : ck mX3_kindNamed b_X3_kindNamed_45 45 = true := by decide +kernel
def b_X3_kindNamed_48 : List Ent := [(.iconst 3, 1, [], 0), (.goto 30, 3, [79], 0)]
theorem a_X3_kindNamed_48 : ck mX3_kindNamed b_X3_kindNamed_48 48 = true := by decide +kernel
def b_X3_kindNamed_52 : List Ent := [(.aload_n 0, 1, [], 0), (.ldc 117, 2, [1, 4], 0)]
theorem a_X3_kindNamed_52 : ck mX3_kindNamed b_X3_kindNamed_52 52 = true := by decide +kernel
theorem k_X3_kindNamed_55 : CV mX3_kindNamed 55 mX3_is := CV.of 108 325 326 327 (by decide +kernel) (by decide +kernel) (by decide +kernel) (by decide +kernel)
def b_X3_kindNamed_58 : List Ent := [(.ifCond .eq 7, 3, [65], 0)]
theorem a_X3_kindNamed_58 : ck mX3_kindNamed b_X3_kindNamed_58 58 = true := by decide +kernel
def b_X3_kindNamed_61 : List Ent := [(.iconst 4, 1, [], 0), (.goto 17, 3, [79], 0)]
theorem a_X3_kindNamed_61 : ck mX3_kindNamed b_X3_kindNamed_61 61 = true := by decide +kernel
def b_X3_kindNamed_65 : List Ent := [(.aload_n 0, 1, [], 0), (.ldc 119, 2, [1, 5], 0)]
theorem a_X3_kindNamed_65 : ck mX3_kindNamed b_X3_kindNamed_65 65 = true := by decide +kernel
theorem k_X3_kindNamed_68 : CV mX3_kindNamed 68 mX3_is := CV.of 108 325 326 327 (by decide +kernel) (by decide +kernel) (by decide +kernel) (by decide +kernel)
def b_X3_kindNamed_71 : List Ent := [(.ifCond .eq 7, 3, [78], 0)]
theorem a_X3_kindNamed_71 : ck mX3_kindNamed b_X3_kindNamed_71 71 = true := by decide +kernel
def b_X3_kindNamed_74 : List Ent := [(.iconst 5, 1, [], 0), (.goto 4, 3, [79], 0)]
theorem a_X3_kindNamed_74 : ck mX3_kindNamed b_X3_kindNamed_74 74 = true := by decide +kernel
def b_X3_kindNamed_78 : List Ent := [(.iconst (-1), 1, [], 0)]
theorem a_X3_kindNamed_78 : ck mX3_kindNamed b_X3_kindNamed_78 78 = true := by decide +kernel
def b_X3_kindNamed_79 : List Ent := [(.ireturn, 1, [0], 0)]
theorem a_X3_kindNamed_79 : ck mX3_kindNamed b_X3_kindNamed_79 79 = true := by decide +kernel
theorem o_X3_lawNamed : MOK mX3_lawNamed 0 := MOK.of 385 60 (by decide +kernel) (by decide +kernel) (by decide +kernel) (by decide +kernel) (by decide +kernel)
def b_X3_lawNamed_0 : List Ent := [(.aload_n 0, 1, [], 0), (.ldc 121, 2, [1, 6], 0)]
theorem a_X3_lawNamed_0 : ck mX3_lawNamed b_X3_lawNamed_0 0 = true := by decide +kernel
theorem k_X3_lawNamed_3 : CV mX3_lawNamed 3 mX3_is := CV.of 108 325 326 327 (by decide +kernel) (by decide +kernel) (by decide +kernel) (by decide +kernel)
def b_X3_lawNamed_6 : List Ent := [(.ifCond .eq 7, 3, [13], 0)]
theorem a_X3_lawNamed_6 : ck mX3_lawNamed b_X3_lawNamed_6 6 = true := by decide +kernel
def b_X3_lawNamed_9 : List Ent := [(.iconst 0, 1, [], 0), (.goto 43, 3, [53], 0)]
theorem a_X3_lawNamed_9 : ck mX3_lawNamed b_X3_lawNamed_9 9 = true := by decide +kernel
def b_X3_lawNamed_13 : List Ent := [(.aload_n 0, 1, [], 0), (.ldc 123, 2, [1, 7], 0)]
theorem a_X3_lawNamed_13 : ck mX3_lawNamed b_X3_lawNamed_13 13 = true := by decide +kernel
theorem k_X3_lawNamed_16 : CV mX3_lawNamed 16 mX3_is := CV.of 108 325 326 327 (by decide +kernel) (by decide +kernel) (by decide +kernel) (by decide +kernel)
def b_X3_lawNamed_19 : List Ent := [(.ifCond .eq 7, 3, [26], 0)]
theorem a_X3_lawNamed_19 : ck mX3_lawNamed b_X3_lawNamed_19 19 = true := by decide +kernel
def b_X3_lawNamed_22 : List Ent := [(.iconst 1, 1, [], 0), (.goto 30, 3, [53], 0)]
theorem a_X3_lawNamed_22 : ck mX3_lawNamed b_X3_lawNamed_22 22 = true := by decide +kernel
def b_X3_lawNamed_26 : List Ent := [(.aload_n 0, 1, [], 0), (.ldc 125, 2, [1, 8], 0)]
theorem a_X3_lawNamed_26 : ck mX3_lawNamed b_X3_lawNamed_26 26 = true := by decide +kernel
theorem k_X3_lawNamed_29 : CV mX3_lawNamed 29 mX3_is := CV.of 108 325 326 327 (by decide +kernel) (by decide +kernel) (by decide +kernel) (by decide +kernel)
def b_X3_lawNamed_32 : List Ent := [(.ifCond .eq 7, 3, [39], 0)]
theorem a_X3_lawNamed_32 : ck mX3_lawNamed b_X3_lawNamed_32 32 = true := by decide +kernel
def b_X3_lawNamed_35 : List Ent := [(.iconst 2, 1, [], 0), (.goto 17, 3, [53], 0)]
theorem a_X3_lawNamed_35 : ck mX3_lawNamed b_X3_lawNamed_35 35 = true := by decide +kernel
def b_X3_lawNamed_39 : List Ent := [(.aload_n 0, 1, [], 0), (.ldc 127, 2, [1, 9], 0)]
theorem a_X3_lawNamed_39 : ck mX3_lawNamed b_X3_lawNamed_39 39 = true := by decide +kernel
theorem k_X3_lawNamed_42 : CV mX3_lawNamed 42 mX3_is := CV.of 108 325 326 327 (by decide +kernel) (by decide +kernel) (by decide +kernel) (by decide +kernel)
def b_X3_lawNamed_45 : List Ent := [(.ifCond .eq 7, 3, [52], 0)]
theorem a_X3_lawNamed_45 : ck mX3_lawNamed b_X3_lawNamed_45 45 = true := by decide +kernel
def b_X3_lawNamed_48 : List Ent := [(.iconst 3, 1, [], 0), (.goto 4, 3, [53], 0)]
theorem a_X3_lawNamed_48 : ck mX3_lawNamed b_X3_lawNamed_48 48 = true := by decide +kernel
def b_X3_lawNamed_52 : List Ent := [(.iconst (-1), 1, [], 0)]
theorem a_X3_lawNamed_52 : ck mX3_lawNamed b_X3_lawNamed_52 52 = true := by decide +kernel
def b_X3_lawNamed_53 : List Ent := [(.ireturn, 1, [0], 0)]
theorem a_X3_lawNamed_53 : ck mX3_lawNamed b_X3_lawNamed_53 53 = true := by decide +kernel
theorem o_X3_pass : MOK mX3_pass 1 := MOK.of 405 60 (by decide +kernel) (by decide +kernel) (by decide +kernel) (by decide +kernel) (by decide +kernel)
def b_X3_pass_0 : List Ent := [(.aload_n 0, 1, [], 0), (.getfield 28, 3, [3, 5, 0, 168], 0), (.ifCond .ne 11, 3, [15], 0)]
theorem a_X3_pass_0 : ck mX3_pass b_X3_pass_0 0 = true := by decide +kernel
def b_X3_pass_7 : List Ent := [(.aload_n 0, 1, [], 0), (.aload_n 1, 1, [], 0)]
theorem a_X3_pass_7 : ck mX3_pass b_X3_pass_7 7 = true := by decide +kernel
theorem k_X3_pass_9 : CV mX3_pass 9 mX3_is := CV.of 108 325 326 327 (by decide +kernel) (by decide +kernel) (by decide +kernel) (by decide +kernel)
def b_X3_pass_12 : List Ent := [(.ifCond .ne 5, 3, [17], 0)]
theorem a_X3_pass_12 : ck mX3_pass b_X3_pass_12 12 = true := by decide +kernel
def b_X3_pass_15 : List Ent := [(.iconst 0, 1, [], 0), (.ireturn, 1, [1], 0)]
theorem a_X3_pass_15 : ck mX3_pass b_X3_pass_15 15 = true := by decide +kernel
def b_X3_pass_17 : List Ent := [(.aload_n 0, 1, [], 0)]
theorem a_X3_pass_17 : ck mX3_pass b_X3_pass_17 17 = true := by decide +kernel
theorem k_X3_pass_18 : CV mX3_pass 18 mX3_step := CV.of 37 310 311 312 (by decide +kernel) (by decide +kernel) (by decide +kernel) (by decide +kernel)
def b_X3_pass_21 : List Ent := [(.iconst 1, 1, [], 0), (.ireturn, 1, [1], 0)]
theorem a_X3_pass_21 : ck mX3_pass b_X3_pass_21 21 = true := by decide +kernel
theorem o_X3_passClose : MOK mX3_passClose 0 := MOK.of 420 60 (by decide +kernel) (by decide +kernel) (by decide +kernel) (by decide +kernel) (by decide +kernel)
def b_X3_passClose_0 : List Ent := [(.aload_n 0, 1, [], 0), (.ldc 132, 2, [1, 14], 0)]
theorem a_X3_passClose_0 : ck mX3_passClose b_X3_passClose_0 0 = true := by decide +kernel
theorem k_X3_passClose_3 : CV mX3_passClose 3 mX3_pass := CV.of 76 402 403 404 (by decide +kernel) (by decide +kernel) (by decide +kernel) (by decide +kernel)
def b_X3_passClose_6 : List Ent := [(.ifCond .ne 8, 3, [14], 0)]
theorem a_X3_passClose_6 : ck mX3_passClose b_X3_passClose_6 6 = true := by decide +kernel
def b_X3_passClose_9 : List Ent := [(.aload_n 0, 1, [], 0), (.iconst 1, 1, [], 0), (.putfield 28, 3, [3, 5, 1, 168], 0)]
theorem a_X3_passClose_9 : ck mX3_passClose b_X3_passClose_9 9 = true := by decide +kernel
def b_X3_passClose_14 : List Ent := [(.return_, 1, [], 0)]
theorem a_X3_passClose_14 : ck mX3_passClose b_X3_passClose_14 14 = true := by decide +kernel
theorem o_X3_passNumber : MOK mX3_passNumber 1 := MOK.of 409 60 (by decide +kernel) (by decide +kernel) (by decide +kernel) (by decide +kernel) (by decide +kernel)
def b_X3_passNumber_0 : List Ent := [(.aload_n 0, 1, [], 0)]
theorem a_X3_passNumber_0 : ck mX3_passNumber b_X3_passNumber_0 0 = true := by decide +kernel
theorem k_X3_passNumber_1 : CV mX3_passNumber 1 mX3_tokenNumber := CV.of 129 410 411 412 (by decide +kernel) (by decide +kernel) (by decide +kernel) (by decide +kernel)
def b_X3_passNumber_4 : List Ent := [(.istore_n 2, 1, [], 0), (.iload_n 2, 1, [], 0), (.ifCond .lt 8, 3, [14], 0)]
theorem a_X3_passNumber_4 : ck mX3_passNumber b_X3_passNumber_4 4 = true := by decide +kernel
def b_X3_passNumber_9 : List Ent := [(.iload_n 2, 1, [], 0), (.iload_n 1, 1, [], 0), (.if_icmp .le 10, 3, [21], 0)]
theorem a_X3_passNumber_9 : ck mX3_passNumber b_X3_passNumber_9 9 = true := by decide +kernel
def b_X3_passNumber_14 : List Ent := [(.aload_n 0, 1, [], 0), (.iconst 1, 1, [], 0), (.putfield 28, 3, [3, 5, 1, 168], 0), (.iconst (-1), 1, [], 0), (.ireturn, 1, [0], 0)]
theorem a_X3_passNumber_14 : ck mX3_passNumber b_X3_passNumber_14 14 = true := by decide +kernel
def b_X3_passNumber_21 : List Ent := [(.aload_n 0, 1, [], 0)]
theorem a_X3_passNumber_21 : ck mX3_passNumber b_X3_passNumber_21 21 = true := by decide +kernel
theorem k_X3_passNumber_22 : CV mX3_passNumber 22 mX3_step := CV.of 37 310 311 312 (by decide +kernel) (by decide +kernel) (by decide +kernel) (by decide +kernel)
def b_X3_passNumber_25 : List Ent := [(.iload_n 2, 1, [], 0), (.ireturn, 1, [0], 0)]
theorem a_X3_passNumber_25 : ck mX3_passNumber b_X3_passNumber_25 25 = true := by decide +kernel
theorem o_X3_passNumberBehind : MOK mX3_passNumberBehind 2 := MOK.of 401 60 (by decide +kernel) (by decide +kernel) (by decide +kernel) (by decide +kernel) (by decide +kernel)
def b_X3_passNumberBehind_0 : List Ent := [(.aload_n 0, 1, [], 0), (.aload_n 1, 1, [], 0)]
theorem a_X3_passNumberBehind_0 : ck mX3_passNumberBehind b_X3_passNumberBehind_0 0 = true := by decide +kernel
theorem k_X3_passNumberBehind_2 : CV mX3_passNumberBehind 2 mX3_pass := CV.of 76 402 403 404 (by decide +kernel) (by decide +kernel) (by decide +kernel) (by decide +kernel)
def b_X3_passNumberBehind_5 : List Ent := [(.ifCond .eq 11, 3, [16], 0)]
theorem a_X3_passNumberBehind_5 : ck mX3_passNumberBehind b_X3_passNumberBehind_5 5 = true := by decide +kernel
def b_X3_passNumberBehind_8 : List Ent := [(.aload_n 0, 1, [], 0), (.iload_n 2, 1, [], 0)]
theorem a_X3_passNumberBehind_8 : ck mX3_passNumberBehind b_X3_passNumberBehind_8 8 = true := by decide +kernel
theorem k_X3_passNumberBehind_10 : CV mX3_passNumberBehind 10 mX3_passNumber := CV.of 99 406 407 408 (by decide +kernel) (by decide +kernel) (by decide +kernel) (by decide +kernel)
def b_X3_passNumberBehind_13 : List Ent := [(.goto 4, 3, [17], 0)]
theorem a_X3_passNumberBehind_13 : ck mX3_passNumberBehind b_X3_passNumberBehind_13 13 = true := by decide +kernel
def b_X3_passNumberBehind_16 : List Ent := [(.iconst (-1), 1, [], 0)]
theorem a_X3_passNumberBehind_16 : ck mX3_passNumberBehind b_X3_passNumberBehind_16 16 = true := by decide +kernel
def b_X3_passNumberBehind_17 : List Ent := [(.ireturn, 1, [0], 0)]
theorem a_X3_passNumberBehind_17 : ck mX3_passNumberBehind b_X3_passNumberBehind_17 17 = true := by decide +kernel
theorem o_X3_sortOf : MOK mX3_sortOf 1 := MOK.of 316 60 (by decide +kernel) (by decide +kernel) (by decide +kernel) (by decide +kernel) (by decide +kernel)
def b_X3_sortOf_0 : List Ent := [(.iload_n 0, 1, [], 0), (.bipush 97, 2, [], 0), (.if_icmp .lt 11, 3, [14], 0)]
theorem a_X3_sortOf_0 : ck mX3_sortOf b_X3_sortOf_0 0 = true := by decide +kernel
def b_X3_sortOf_6 : List Ent := [(.iload_n 0, 1, [], 0), (.bipush 122, 2, [], 0), (.if_icmp .gt 5, 3, [14], 0)]
theorem a_X3_sortOf_6 : ck mX3_sortOf b_X3_sortOf_6 6 = true := by decide +kernel
def b_X3_sortOf_12 : List Ent := [(.iconst 0, 1, [], 0), (.ireturn, 1, [0], 0)]
theorem a_X3_sortOf_12 : ck mX3_sortOf b_X3_sortOf_12 12 = true := by decide +kernel
def b_X3_sortOf_14 : List Ent := [(.iload_n 0, 1, [], 0), (.bipush 48, 2, [], 0), (.if_icmp .lt 13, 3, [30], 0)]
theorem a_X3_sortOf_14 : ck mX3_sortOf b_X3_sortOf_14 14 = true := by decide +kernel
def b_X3_sortOf_20 : List Ent := [(.iload_n 0, 1, [], 0), (.bipush 57, 2, [], 0), (.if_icmp .gt 7, 3, [30], 0)]
theorem a_X3_sortOf_20 : ck mX3_sortOf b_X3_sortOf_20 20 = true := by decide +kernel
def b_X3_sortOf_26 : List Ent := [(.iconst 1, 1, [], 0), (.goto 4, 3, [31], 0)]
theorem a_X3_sortOf_26 : ck mX3_sortOf b_X3_sortOf_26 26 = true := by decide +kernel
def b_X3_sortOf_30 : List Ent := [(.iconst 2, 1, [], 0)]
theorem a_X3_sortOf_30 : ck mX3_sortOf b_X3_sortOf_30 30 = true := by decide +kernel
def b_X3_sortOf_31 : List Ent := [(.ireturn, 1, [0], 0)]
theorem a_X3_sortOf_31 : ck mX3_sortOf b_X3_sortOf_31 31 = true := by decide +kernel
theorem o_X3_step : MOK mX3_step 0 := MOK.of 313 60 (by decide +kernel) (by decide +kernel) (by decide +kernel) (by decide +kernel) (by decide +kernel)
def b_X3_step_0 : List Ent := [(.aload_n 0, 1, [], 0), (.aload_n 0, 1, [], 0), (.getfield 22, 3, [3, 3, 0, 166], 0), (.putfield 19, 3, [3, 2, 0, 164], 0)]
theorem a_X3_step_0 : ck mX3_step b_X3_step_0 0 = true := by decide +kernel
def b_X3_step_8 : List Ent := [(.aload_n 0, 1, [], 0), (.getfield 19, 3, [3, 2, 0, 164], 0), (.aload_n 0, 1, [], 0), (.getfield 15, 3, [3, 1, 0, 162], 0), (.if_icmp .ge 30, 3, [46], 0)]
theorem a_X3_step_8 : ck mX3_step b_X3_step_8 8 = true := by decide +kernel
def b_X3_step_19 : List Ent := [(.aload_n 0, 1, [], 0), (.getfield 9, 3, [3, 0, 1, 161], 0), (.aload_n 0, 1, [], 0), (.getfield 19, 3, [3, 2, 0, 164], 0), (.iaload, 1, [7], 0), (.bipush 32, 2, [], 0), (.if_icmp .ne 16, 3, [46], 0)]
theorem a_X3_step_19 : ck mX3_step b_X3_step_19 19 = true := by decide +kernel
def b_X3_step_33 : List Ent := [(.aload_n 0, 1, [], 0), (.dup, 1, [], 0), (.getfield 19, 3, [3, 2, 0, 164], 0), (.iconst 1, 1, [], 0), (.iadd, 1, [], 0), (.putfield 19, 3, [3, 2, 0, 164], 0), (.goto (-35), 3, [8], 0)]
theorem a_X3_step_33 : ck mX3_step b_X3_step_33 33 = true := by decide +kernel
def b_X3_step_46 : List Ent := [(.aload_n 0, 1, [], 0), (.aload_n 0, 1, [], 0), (.getfield 19, 3, [3, 2, 0, 164], 0), (.aload_n 0, 1, [], 0), (.getfield 15, 3, [3, 1, 0, 162], 0), (.if_icmp .ge 18, 3, [73], 0)]
theorem a_X3_step_46 : ck mX3_step b_X3_step_46 46 = true := by decide +kernel
def b_X3_step_58 : List Ent := [(.aload_n 0, 1, [], 0), (.getfield 9, 3, [3, 0, 1, 161], 0), (.aload_n 0, 1, [], 0), (.getfield 19, 3, [3, 2, 0, 164], 0), (.iaload, 1, [7], 0)]
theorem a_X3_step_58 : ck mX3_step b_X3_step_58 58 = true := by decide +kernel
theorem k_X3_step_67 : CS mX3_step 67 mX3_sortOf := CS.of 142 314 315 (by decide +kernel) (by decide +kernel) (by decide +kernel)
def b_X3_step_70 : List Ent := [(.goto 4, 3, [74], 0)]
theorem a_X3_step_70 : ck mX3_step b_X3_step_70 70 = true := by decide +kernel
def b_X3_step_73 : List Ent := [(.iconst 2, 1, [], 0)]
theorem a_X3_step_73 : ck mX3_step b_X3_step_73 73 = true := by decide +kernel
def b_X3_step_74 : List Ent := [(.putfield 25, 3, [3, 4, 0, 167], 0), (.aload_n 0, 1, [], 0), (.aload_n 0, 1, [], 0), (.getfield 19, 3, [3, 2, 0, 164], 0), (.iconst 1, 1, [], 0), (.iadd, 1, [], 0), (.aload_n 0, 1, [], 0), (.getfield 15, 3, [3, 1, 0, 162], 0)]
theorem a_X3_step_74 : ck mX3_step b_X3_step_74 74 = true := by decide +kernel
theorem k_X3_step_88 : CS mX3_step 88 mJ9_min_7cf53 := CS.of 145 317 318 (by decide +kernel) (by decide +kernel) (by decide +kernel)
def b_X3_step_91 : List Ent := [(.putfield 22, 3, [3, 3, 0, 166], 0)]
theorem a_X3_step_91 : ck mX3_step b_X3_step_91 91 = true := by decide +kernel
def b_X3_step_94 : List Ent := [(.aload_n 0, 1, [], 0), (.getfield 22, 3, [3, 3, 0, 166], 0), (.aload_n 0, 1, [], 0), (.getfield 15, 3, [3, 1, 0, 162], 0), (.if_icmp .ge 43, 3, [145], 0)]
theorem a_X3_step_94 : ck mX3_step b_X3_step_94 94 = true := by decide +kernel
def b_X3_step_105 : List Ent := [(.aload_n 0, 1, [], 0), (.getfield 25, 3, [3, 4, 0, 167], 0), (.iconst 2, 1, [], 0), (.if_icmp .eq 35, 3, [145], 0)]
theorem a_X3_step_105 : ck mX3_step b_X3_step_105 105 = true := by decide +kernel
def b_X3_step_113 : List Ent := [(.aload_n 0, 1, [], 0), (.getfield 9, 3, [3, 0, 1, 161], 0), (.aload_n 0, 1, [], 0), (.getfield 22, 3, [3, 3, 0, 166], 0), (.iaload, 1, [7], 0)]
theorem a_X3_step_113 : ck mX3_step b_X3_step_113 113 = true := by decide +kernel
theorem k_X3_step_122 : CS mX3_step 122 mX3_sortOf := CS.of 142 314 315 (by decide +kernel) (by decide +kernel) (by decide +kernel)
def b_X3_step_125 : List Ent := [(.aload_n 0, 1, [], 0), (.getfield 25, 3, [3, 4, 0, 167], 0), (.if_icmp .ne 16, 3, [145], 0)]
theorem a_X3_step_125 : ck mX3_step b_X3_step_125 125 = true := by decide +kernel
def b_X3_step_132 : List Ent := [(.aload_n 0, 1, [], 0), (.dup, 1, [], 0), (.getfield 22, 3, [3, 3, 0, 166], 0), (.iconst 1, 1, [], 0), (.iadd, 1, [], 0), (.putfield 22, 3, [3, 3, 0, 166], 0), (.goto (-48), 3, [94], 0)]
theorem a_X3_step_132 : ck mX3_step b_X3_step_132 132 = true := by decide +kernel
def b_X3_step_145 : List Ent := [(.return_, 1, [], 0)]
theorem a_X3_step_145 : ck mX3_step b_X3_step_145 145 = true := by decide +kernel
theorem o_X3_tellBranch : MOK mX3_tellBranch 2 := MOK.of 396 60 (by decide +kernel) (by decide +kernel) (by decide +kernel) (by decide +kernel) (by decide +kernel)
def b_X3_tellBranch_0 : List Ent := [(.aload_n 0, 1, [], 0)]
theorem a_X3_tellBranch_0 : ck mX3_tellBranch b_X3_tellBranch_0 0 = true := by decide +kernel
theorem k_X3_tellBranch_1 : CV mX3_tellBranch 1 mX3_step := CV.of 37 310 311 312 (by decide +kernel) (by decide +kernel) (by decide +kernel) (by decide +kernel)
def b_X3_tellBranch_4 : List Ent := [(.aload_n 0, 1, [], 0), (.ldc 64, 2, [1, 10], 0), (.aload_n 1, 1, [], 0), (.getfield 51, 3, [4, 7, 0, 113], 0), (.iconst 1, 1, [], 0), (.isub, 1, [], 0)]
theorem a_X3_tellBranch_4 : ck mX3_tellBranch b_X3_tellBranch_4 4 = true := by decide +kernel
theorem k_X3_tellBranch_13 : CV mX3_tellBranch 13 mX3_passNumberBehind := CV.of 66 398 399 400 (by decide +kernel) (by decide +kernel) (by decide +kernel) (by decide +kernel)
def b_X3_tellBranch_16 : List Ent := [(.istore_n 3, 1, [], 0), (.aload_n 0, 1, [], 0), (.ldc 70, 2, [1, 11], 0), (.bipush 9, 2, [], 0)]
theorem a_X3_tellBranch_16 : ck mX3_tellBranch b_X3_tellBranch_16 16 = true := by decide +kernel
theorem k_X3_tellBranch_22 : CV mX3_tellBranch 22 mX3_passNumberBehind := CV.of 66 398 399 400 (by decide +kernel) (by decide +kernel) (by decide +kernel) (by decide +kernel)
def b_X3_tellBranch_25 : List Ent := [(.istore 4, 2, [], 0), (.aload_n 0, 1, [], 0), (.ldc 72, 2, [1, 12], 0), (.bipush 99, 2, [], 0)]
theorem a_X3_tellBranch_25 : ck mX3_tellBranch b_X3_tellBranch_25 25 = true := by decide +kernel
theorem k_X3_tellBranch_32 : CV mX3_tellBranch 32 mX3_passNumberBehind := CV.of 66 398 399 400 (by decide +kernel) (by decide +kernel) (by decide +kernel) (by decide +kernel)
def b_X3_tellBranch_35 : List Ent := [(.istore 5, 2, [], 0), (.aload_n 0, 1, [], 0), (.ldc 74, 2, [1, 13], 0)]
theorem a_X3_tellBranch_35 : ck mX3_tellBranch b_X3_tellBranch_35 35 = true := by decide +kernel
theorem k_X3_tellBranch_40 : CV mX3_tellBranch 40 mX3_pass := CV.of 76 402 403 404 (by decide +kernel) (by decide +kernel) (by decide +kernel) (by decide +kernel)
def b_X3_tellBranch_43 : List Ent := [(.istore 6, 2, [], 0), (.aload_n 0, 1, [], 0)]
theorem a_X3_tellBranch_43 : ck mX3_tellBranch b_X3_tellBranch_43 43 = true := by decide +kernel
theorem k_X3_tellBranch_46 : CV mX3_tellBranch 46 mX3_passClose := CV.of 80 417 418 419 (by decide +kernel) (by decide +kernel) (by decide +kernel) (by decide +kernel)
def b_X3_tellBranch_49 : List Ent := [(.aload_n 0, 1, [], 0), (.getfield 28, 3, [3, 5, 0, 168], 0), (.ifCond .eq 4, 3, [57], 0)]
theorem a_X3_tellBranch_49 : ck mX3_tellBranch b_X3_tellBranch_49 49 = true := by decide +kernel
def b_X3_tellBranch_56 : List Ent := [(.return_, 1, [], 0)]
theorem a_X3_tellBranch_56 : ck mX3_tellBranch b_X3_tellBranch_56 56 = true := by decide +kernel
def b_X3_tellBranch_57 : List Ent := [(.aload_n 1, 1, [], 0), (.iload_n 2, 1, [], 0), (.iload_n 3, 1, [], 0), (.iconst 1, 1, [], 0), (.iadd, 1, [], 0), (.iconst 0, 1, [], 0), (.iload 4, 2, [], 0)]
theorem a_X3_tellBranch_57 : ck mX3_tellBranch b_X3_tellBranch_57 57 = true := by decide +kernel
theorem k_X3_tellBranch_65 : CS mX3_tellBranch 65 mJ9_max_7cf53 := CS.of 83 422 423 (by decide +kernel) (by decide +kernel) (by decide +kernel)
def b_X3_tellBranch_68 : List Ent := [(.iconst 0, 1, [], 0), (.iload 5, 2, [], 0)]
theorem a_X3_tellBranch_68 : ck mX3_tellBranch b_X3_tellBranch_68 68 = true := by decide +kernel
theorem k_X3_tellBranch_71 : CS mX3_tellBranch 71 mJ9_max_7cf53 := CS.of 83 422 423 (by decide +kernel) (by decide +kernel) (by decide +kernel)
theorem k_X3_tellBranch_74 : CV mX3_tellBranch 74 mX4_add := CV.of 89 425 426 427 (by decide +kernel) (by decide +kernel) (by decide +kernel) (by decide +kernel)
def b_X3_tellBranch_77 : List Ent := [(.istore 7, 2, [], 0), (.iload 6, 2, [], 0), (.ifCond .eq 16, 3, [97], 0)]
theorem a_X3_tellBranch_77 : ck mX3_tellBranch b_X3_tellBranch_77 77 = true := by decide +kernel
def b_X3_tellBranch_84 : List Ent := [(.aload_n 1, 1, [], 0), (.dup, 1, [], 0), (.getfield 93, 3, [4, 6, 0, 110], 0), (.iconst 1, 1, [], 0), (.iload 7, 2, [], 0), (.ishl, 1, [], 0), (.ior, 1, [], 0), (.putfield 93, 3, [4, 6, 0, 110], 0)]
theorem a_X3_tellBranch_84 : ck mX3_tellBranch b_X3_tellBranch_84 84 = true := by decide +kernel
def b_X3_tellBranch_97 : List Ent := [(.return_, 1, [], 0)]
theorem a_X3_tellBranch_97 : ck mX3_tellBranch b_X3_tellBranch_97 97 = true := by decide +kernel
theorem o_X3_tellLaw : MOK mX3_tellLaw 2 := MOK.of 435 60 (by decide +kernel) (by decide +kernel) (by decide +kernel) (by decide +kernel) (by decide +kernel)
def b_X3_tellLaw_0 : List Ent := [(.aload_n 0, 1, [], 0)]
theorem a_X3_tellLaw_0 : ck mX3_tellLaw b_X3_tellLaw_0 0 = true := by decide +kernel
theorem k_X3_tellLaw_1 : CV mX3_tellLaw 1 mX3_step := CV.of 37 310 311 312 (by decide +kernel) (by decide +kernel) (by decide +kernel) (by decide +kernel)
def b_X3_tellLaw_4 : List Ent := [(.aload_n 0, 1, [], 0), (.getstatic 96, 3, [0, 1, 436], 0), (.iload_n 2, 1, [], 0), (.iaload, 1, [10], 0)]
theorem a_X3_tellLaw_4 : ck mX3_tellLaw b_X3_tellLaw_4 4 = true := by decide +kernel
theorem k_X3_tellLaw_10 : CV mX3_tellLaw 10 mX3_passNumber := CV.of 99 406 407 408 (by decide +kernel) (by decide +kernel) (by decide +kernel) (by decide +kernel)
def b_X3_tellLaw_13 : List Ent := [(.istore_n 3, 1, [], 0), (.aload_n 0, 1, [], 0)]
theorem a_X3_tellLaw_13 : ck mX3_tellLaw b_X3_tellLaw_13 13 = true := by decide +kernel
theorem k_X3_tellLaw_15 : CV mX3_tellLaw 15 mX3_passClose := CV.of 80 417 418 419 (by decide +kernel) (by decide +kernel) (by decide +kernel) (by decide +kernel)
def b_X3_tellLaw_18 : List Ent := [(.aload_n 0, 1, [], 0), (.getfield 28, 3, [3, 5, 0, 168], 0), (.ifCond .ne 10, 3, [32], 0)]
theorem a_X3_tellLaw_18 : ck mX3_tellLaw b_X3_tellLaw_18 18 = true := by decide +kernel
def b_X3_tellLaw_25 : List Ent := [(.aload_n 1, 1, [], 0), (.getfield 103, 3, [4, 0, 1, 98], 0), (.iload_n 2, 1, [], 0), (.iload_n 3, 1, [], 0), (.iastore, 1, [], 0)]
theorem a_X3_tellLaw_25 : ck mX3_tellLaw b_X3_tellLaw_25 25 = true := by decide +kernel
def b_X3_tellLaw_32 : List Ent := [(.return_, 1, [], 0)]
theorem a_X3_tellLaw_32 : ck mX3_tellLaw b_X3_tellLaw_32 32 = true := by decide +kernel
theorem o_X3_tellTo : MOK mX3_tellTo 1 := MOK.of 302 60 (by decide +kernel) (by decide +kernel) (by decide +kernel) (by decide +kernel) (by decide +kernel)
def b_X3_tellTo_0 : List Ent := [(.aload_n 1, 1, [], 0)]
theorem a_X3_tellTo_0 : ck mX3_tellTo b_X3_tellTo_0 0 = true := by decide +kernel
theorem k_X3_tellTo_1 : CV mX3_tellTo 1 mX4_clear := CV.of 32 303 304 305 (by decide +kernel) (by decide +kernel) (by decide +kernel) (by decide +kernel)
def b_X3_tellTo_4 : List Ent := [(.aload_n 0, 1, [], 0), (.iconst 0, 1, [], 0), (.putfield 28, 3, [3, 5, 1, 168], 0), (.aload_n 0, 1, [], 0), (.iconst 0, 1, [], 0), (.putfield 22, 3, [3, 3, 0, 166], 0), (.aload_n 0, 1, [], 0)]
theorem a_X3_tellTo_4 : ck mX3_tellTo b_X3_tellTo_4 4 = true := by decide +kernel
theorem k_X3_tellTo_15 : CV mX3_tellTo 15 mX3_step := CV.of 37 310 311 312 (by decide +kernel) (by decide +kernel) (by decide +kernel) (by decide +kernel)
def b_X3_tellTo_18 : List Ent := [(.iconst 0, 1, [], 0), (.istore_n 2, 1, [], 0)]
theorem a_X3_tellTo_18 : ck mX3_tellTo b_X3_tellTo_18 18 = true := by decide +kernel
def b_X3_tellTo_20 : List Ent := [(.iload_n 2, 1, [], 0), (.sipush 200, 3, [], 0), (.if_icmp .ge 86, 3, [110], 0)]
theorem a_X3_tellTo_20 : ck mX3_tellTo b_X3_tellTo_20 20 = true := by decide +kernel
def b_X3_tellTo_27 : List Ent := [(.aload_n 0, 1, [], 0), (.getfield 19, 3, [3, 2, 0, 164], 0), (.aload_n 0, 1, [], 0), (.getfield 15, 3, [3, 1, 0, 162], 0), (.if_icmp .ge 75, 3, [110], 0)]
theorem a_X3_tellTo_27 : ck mX3_tellTo b_X3_tellTo_27 27 = true := by decide +kernel
def b_X3_tellTo_38 : List Ent := [(.aload_n 0, 1, [], 0), (.getfield 28, 3, [3, 5, 0, 168], 0), (.ifCond .ne 68, 3, [110], 0)]
theorem a_X3_tellTo_38 : ck mX3_tellTo b_X3_tellTo_38 38 = true := by decide +kernel
def b_X3_tellTo_45 : List Ent := [(.aload_n 0, 1, [], 0)]
theorem a_X3_tellTo_45 : ck mX3_tellTo b_X3_tellTo_45 45 = true := by decide +kernel
theorem k_X3_tellTo_46 : CV mX3_tellTo 46 mX3_kindNamed := CV.of 40 320 321 322 (by decide +kernel) (by decide +kernel) (by decide +kernel) (by decide +kernel)
def b_X3_tellTo_49 : List Ent := [(.istore_n 3, 1, [], 0), (.aload_n 0, 1, [], 0)]
theorem a_X3_tellTo_49 : ck mX3_tellTo b_X3_tellTo_49 49 = true := by decide +kernel
theorem k_X3_tellTo_51 : CV mX3_tellTo 51 mX3_lawNamed := CV.of 44 382 383 384 (by decide +kernel) (by decide +kernel) (by decide +kernel) (by decide +kernel)
def b_X3_tellTo_54 : List Ent := [(.istore 4, 2, [], 0), (.iload_n 3, 1, [], 0)]
theorem a_X3_tellTo_54 : ck mX3_tellTo b_X3_tellTo_54 54 = true := by decide +kernel
theorem k_X3_tellTo_57 : CS mX3_tellTo 57 mX5_isKind := CS.ofN 47 390 391 (by decide +kernel) (by decide +kernel) (by decide +kernel)
def b_X3_tellTo_60 : List Ent := [(.ifCond .eq 21, 3, [81], 0)]
theorem a_X3_tellTo_60 : ck mX3_tellTo b_X3_tellTo_60 60 = true := by decide +kernel
def b_X3_tellTo_63 : List Ent := [(.aload_n 1, 1, [], 0), (.getfield 51, 3, [4, 7, 0, 113], 0), (.bipush 8, 2, [], 0), (.if_icmp .ge 12, 3, [81], 0)]
theorem a_X3_tellTo_63 : ck mX3_tellTo b_X3_tellTo_63 63 = true := by decide +kernel
def b_X3_tellTo_72 : List Ent := [(.aload_n 0, 1, [], 0), (.aload_n 1, 1, [], 0), (.iload_n 3, 1, [], 0)]
theorem a_X3_tellTo_72 : ck mX3_tellTo b_X3_tellTo_72 72 = true := by decide +kernel
theorem k_X3_tellTo_75 : CV mX3_tellTo 75 mX3_tellBranch := CV.of 54 393 394 395 (by decide +kernel) (by decide +kernel) (by decide +kernel) (by decide +kernel)
def b_X3_tellTo_78 : List Ent := [(.goto 26, 3, [104], 0)]
theorem a_X3_tellTo_78 : ck mX3_tellTo b_X3_tellTo_78 78 = true := by decide +kernel
def b_X3_tellTo_81 : List Ent := [(.iload 4, 2, [], 0)]
theorem a_X3_tellTo_81 : ck mX3_tellTo b_X3_tellTo_81 81 = true := by decide +kernel
theorem k_X3_tellTo_83 : CS mX3_tellTo 83 mX5_isLaw := CS.ofN 58 429 430 (by decide +kernel) (by decide +kernel) (by decide +kernel)
def b_X3_tellTo_86 : List Ent := [(.ifCond .eq 13, 3, [99], 0)]
theorem a_X3_tellTo_86 : ck mX3_tellTo b_X3_tellTo_86 86 = true := by decide +kernel
def b_X3_tellTo_89 : List Ent := [(.aload_n 0, 1, [], 0), (.aload_n 1, 1, [], 0), (.iload 4, 2, [], 0)]
theorem a_X3_tellTo_89 : ck mX3_tellTo b_X3_tellTo_89 89 = true := by decide +kernel
theorem k_X3_tellTo_93 : CV mX3_tellTo 93 mX3_tellLaw := CV.of 61 432 433 434 (by decide +kernel) (by decide +kernel) (by decide +kernel) (by decide +kernel)
def b_X3_tellTo_96 : List Ent := [(.goto 8, 3, [104], 0)]
theorem a_X3_tellTo_96 : ck mX3_tellTo b_X3_tellTo_96 96 = true := by decide +kernel
def b_X3_tellTo_99 : List Ent := [(.aload_n 0, 1, [], 0), (.iconst 1, 1, [], 0), (.putfield 28, 3, [3, 5, 1, 168], 0)]
theorem a_X3_tellTo_99 : ck mX3_tellTo b_X3_tellTo_99 99 = true := by decide +kernel
def b_X3_tellTo_104 : List Ent := [(.iinc 2 1, 3, [], 0), (.goto (-87), 3, [20], 0)]
theorem a_X3_tellTo_104 : ck mX3_tellTo b_X3_tellTo_104 104 = true := by decide +kernel
def b_X3_tellTo_110 : List Ent := [(.aload_n 0, 1, [], 0), (.getfield 28, 3, [3, 5, 0, 168], 0), (.ifCond .ne 7, 3, [121], 0)]
theorem a_X3_tellTo_110 : ck mX3_tellTo b_X3_tellTo_110 110 = true := by decide +kernel
def b_X3_tellTo_117 : List Ent := [(.iconst 1, 1, [], 0), (.goto 4, 3, [122], 0)]
theorem a_X3_tellTo_117 : ck mX3_tellTo b_X3_tellTo_117 117 = true := by decide +kernel
def b_X3_tellTo_121 : List Ent := [(.iconst 0, 1, [], 0)]
theorem a_X3_tellTo_121 : ck mX3_tellTo b_X3_tellTo_121 121 = true := by decide +kernel
def b_X3_tellTo_122 : List Ent := [(.ireturn, 1, [1], 0)]
theorem a_X3_tellTo_122 : ck mX3_tellTo b_X3_tellTo_122 122 = true := by decide +kernel
theorem o_X3_tokenNumber : MOK mX3_tokenNumber 0 := MOK.of 413 60 (by decide +kernel) (by decide +kernel) (by decide +kernel) (by decide +kernel) (by decide +kernel)
def b_X3_tokenNumber_0 : List Ent := [(.aload_n 0, 1, [], 0), (.getfield 25, 3, [3, 4, 0, 167], 0), (.iconst 1, 1, [], 0), (.if_icmp .ne 16, 3, [21], 0)]
theorem a_X3_tokenNumber_0 : ck mX3_tokenNumber b_X3_tokenNumber_0 0 = true := by decide +kernel
def b_X3_tokenNumber_8 : List Ent := [(.aload_n 0, 1, [], 0), (.getfield 22, 3, [3, 3, 0, 166], 0), (.aload_n 0, 1, [], 0), (.getfield 19, 3, [3, 2, 0, 164], 0), (.isub, 1, [], 0), (.iconst 3, 1, [], 0), (.if_icmp .le 5, 3, [23], 0)]
theorem a_X3_tokenNumber_8 : ck mX3_tokenNumber b_X3_tokenNumber_8 8 = true := by decide +kernel
def b_X3_tokenNumber_21 : List Ent := [(.iconst (-1), 1, [], 0), (.ireturn, 1, [0], 0)]
theorem a_X3_tokenNumber_21 : ck mX3_tokenNumber b_X3_tokenNumber_21 21 = true := by decide +kernel
def b_X3_tokenNumber_23 : List Ent := [(.iconst 0, 1, [], 0), (.istore_n 1, 1, [], 0), (.aload_n 0, 1, [], 0), (.getfield 19, 3, [3, 2, 0, 164], 0), (.istore_n 2, 1, [], 0)]
theorem a_X3_tokenNumber_23 : ck mX3_tokenNumber b_X3_tokenNumber_23 23 = true := by decide +kernel
def b_X3_tokenNumber_30 : List Ent := [(.iload_n 2, 1, [], 0), (.aload_n 0, 1, [], 0), (.getfield 22, 3, [3, 3, 0, 166], 0), (.if_icmp .ge 24, 3, [59], 0)]
theorem a_X3_tokenNumber_30 : ck mX3_tokenNumber b_X3_tokenNumber_30 30 = true := by decide +kernel
def b_X3_tokenNumber_38 : List Ent := [(.iload_n 1, 1, [], 0), (.bipush 10, 2, [], 0), (.imul, 1, [], 0), (.aload_n 0, 1, [], 0), (.getfield 9, 3, [3, 0, 1, 161], 0), (.iload_n 2, 1, [], 0), (.iaload, 1, [7], 0), (.iadd, 1, [], 0), (.bipush 48, 2, [], 0), (.isub, 1, [], 0), (.istore_n 1, 1, [], 0), (.iinc 2 1, 3, [], 0), (.goto (-26), 3, [30], 0)]
theorem a_X3_tokenNumber_38 : ck mX3_tokenNumber b_X3_tokenNumber_38 38 = true := by decide +kernel
def b_X3_tokenNumber_59 : List Ent := [(.iload_n 1, 1, [], 0), (.ireturn, 1, [0], 0)]
theorem a_X3_tokenNumber_59 : ck mX3_tokenNumber b_X3_tokenNumber_59 59 = true := by decide +kernel
theorem o_X4_add : MOK mX4_add 4 := MOK.of 428 59 (by decide +kernel) (by decide +kernel) (by decide +kernel) (by decide +kernel) (by decide +kernel)
def b_X4_add_0 : List Ent := [(.aload_n 0, 1, [], 0), (.getfield 42, 3, [4, 7, 0, 112], 0), (.istore 5, 2, [], 0), (.aload_n 0, 1, [], 0), (.getfield 23, 3, [4, 1, 2, 99], 0), (.iload 5, 2, [], 0), (.iload_n 1, 1, [], 0), (.iastore, 1, [], 0), (.aload_n 0, 1, [], 0), (.getfield 26, 3, [4, 2, 3, 101], 0), (.iload 5, 2, [], 0), (.iload_n 2, 1, [], 0), (.iastore, 1, [], 0), (.aload_n 0, 1, [], 0), (.getfield 29, 3, [4, 3, 4, 103], 0), (.iload 5, 2, [], 0), (.iload_n 3, 1, [], 0), (.iastore, 1, [], 0), (.aload_n 0, 1, [], 0), (.getfield 32, 3, [4, 4, 5, 105], 0), (.iload 5, 2, [], 0), (.iload 4, 2, [], 0), (.iastore, 1, [], 0), (.aload_n 0, 1, [], 0), (.getfield 35, 3, [4, 5, 6, 107], 0), (.iload 5, 2, [], 0), (.iconst 0, 1, [], 0), (.iastore, 1, [], 0), (.aload_n 0, 1, [], 0), (.dup, 1, [], 0), (.getfield 42, 3, [4, 7, 0, 112], 0), (.iconst 1, 1, [], 0), (.iadd, 1, [], 0), (.putfield 42, 3, [4, 7, 0, 112], 0), (.iload 5, 2, [], 0), (.ireturn, 1, [0], 0)]
theorem a_X4_add_0 : ck mX4_add b_X4_add_0 0 = true := by decide +kernel
theorem o_X4_bears : MOK mX4_bears 1 := MOK.of 505 59 (by decide +kernel) (by decide +kernel) (by decide +kernel) (by decide +kernel) (by decide +kernel)
def b_X4_bears_0 : List Ent := [(.aload_n 0, 1, [], 0), (.getfield 54, 3, [4, 11, 0, 121], 0), (.iload_n 1, 1, [], 0)]
theorem a_X4_bears_0 : ck mX4_bears b_X4_bears_0 0 = true := by decide +kernel
theorem k_X4_bears_5 : CS mX4_bears 5 mX5_bit := CS.ofN 73 484 475 (by decide +kernel) (by decide +kernel) (by decide +kernel)
def b_X4_bears_8 : List Ent := [(.iconst 1, 1, [], 0), (.if_icmp .ne 11, 3, [20], 0)]
theorem a_X4_bears_8 : ck mX4_bears b_X4_bears_8 8 = true := by decide +kernel
def b_X4_bears_12 : List Ent := [(.aload_n 0, 1, [], 0), (.iload_n 1, 1, [], 0)]
theorem a_X4_bears_12 : ck mX4_bears b_X4_bears_12 12 = true := by decide +kernel
theorem k_X4_bears_14 : CV mX4_bears 14 mX4_hinders := CV.of 87 489 490 491 (by decide +kernel) (by decide +kernel) (by decide +kernel) (by decide +kernel)
def b_X4_bears_17 : List Ent := [(.goto 4, 3, [21], 0)]
theorem a_X4_bears_17 : ck mX4_bears b_X4_bears_17 17 = true := by decide +kernel
def b_X4_bears_20 : List Ent := [(.iconst 0, 1, [], 0)]
theorem a_X4_bears_20 : ck mX4_bears b_X4_bears_20 20 = true := by decide +kernel
def b_X4_bears_21 : List Ent := [(.istore_n 2, 1, [], 0), (.aload_n 0, 1, [], 0), (.getfield 29, 3, [4, 3, 4, 103], 0), (.iload_n 1, 1, [], 0), (.iaload, 1, [7], 0), (.aload_n 0, 1, [], 0), (.getfield 57, 3, [4, 12, 7, 123], 0), (.aload_n 0, 1, [], 0), (.getfield 26, 3, [4, 2, 3, 101], 0), (.iload_n 1, 1, [], 0), (.iaload, 1, [7], 0), (.iaload, 1, [7], 0), (.iload_n 2, 1, [], 0), (.isub, 1, [], 0), (.isub, 1, [], 0), (.istore_n 3, 1, [], 0), (.aload_n 0, 1, [], 0), (.getfield 23, 3, [4, 1, 2, 99], 0), (.iload_n 1, 1, [], 0), (.iaload, 1, [7], 0), (.tableswitch 121 1 5 #[35, 67, 44, 78, 99], 35, [170, 84, 116, 93, 127, 148], 0)]
theorem a_X4_bears_21 : ck mX4_bears b_X4_bears_21 21 = true := by decide +kernel
def b_X4_bears_84 : List Ent := [(.iload_n 3, 1, [], 0), (.aload_n 0, 1, [], 0), (.getfield 18, 3, [4, 0, 1, 96], 0), (.iconst 1, 1, [], 0), (.iaload, 1, [7], 0), (.iadd, 1, [], 0), (.ireturn, 1, [0], 0)]
theorem a_X4_bears_84 : ck mX4_bears b_X4_bears_84 84 = true := by decide +kernel
def b_X4_bears_93 : List Ent := [(.aload_n 0, 1, [], 0), (.getfield 32, 3, [4, 4, 5, 105], 0), (.iload_n 1, 1, [], 0), (.iaload, 1, [7], 0), (.iconst 3, 1, [], 0), (.if_icmp .ge 7, 3, [107], 0)]
theorem a_X4_bears_93 : ck mX4_bears b_X4_bears_93 93 = true := by decide +kernel
def b_X4_bears_103 : List Ent := [(.iconst 0, 1, [], 0), (.goto 11, 3, [115], 0)]
theorem a_X4_bears_103 : ck mX4_bears b_X4_bears_103 103 = true := by decide +kernel
def b_X4_bears_107 : List Ent := [(.iload_n 3, 1, [], 0), (.aload_n 0, 1, [], 0), (.getfield 18, 3, [4, 0, 1, 96], 0), (.iconst 1, 1, [], 0), (.iaload, 1, [7], 0), (.iadd, 1, [], 0)]
theorem a_X4_bears_107 : ck mX4_bears b_X4_bears_107 107 = true := by decide +kernel
def b_X4_bears_115 : List Ent := [(.ireturn, 1, [0], 0)]
theorem a_X4_bears_115 : ck mX4_bears b_X4_bears_115 115 = true := by decide +kernel
def b_X4_bears_116 : List Ent := [(.iload_n 3, 1, [], 0), (.aload_n 0, 1, [], 0), (.getfield 60, 3, [4, 13, 8, 124], 0), (.iload_n 1, 1, [], 0), (.iconst 1, 1, [], 0), (.iadd, 1, [], 0), (.iaload, 1, [7], 0), (.isub, 1, [], 0), (.ireturn, 1, [0], 0)]
theorem a_X4_bears_116 : ck mX4_bears b_X4_bears_116 116 = true := by decide +kernel
def b_X4_bears_127 : List Ent := [(.iload_n 3, 1, [], 0), (.aload_n 0, 1, [], 0), (.getfield 60, 3, [4, 13, 8, 124], 0), (.iload_n 1, 1, [], 0), (.iconst 1, 1, [], 0), (.iadd, 1, [], 0), (.iaload, 1, [7], 0), (.isub, 1, [], 0), (.aload_n 0, 1, [], 0), (.getfield 32, 3, [4, 4, 5, 105], 0), (.iload_n 1, 1, [], 0), (.iaload, 1, [7], 0), (.bipush 10, 2, [], 0), (.idiv, 1, [], 0), (.isub, 1, [], 0), (.ireturn, 1, [0], 0)]
theorem a_X4_bears_127 : ck mX4_bears b_X4_bears_127 127 = true := by decide +kernel
def b_X4_bears_148 : List Ent := [(.aload_n 0, 1, [], 0), (.getfield 45, 3, [4, 8, 0, 115], 0), (.iconst 3, 1, [], 0), (.irem, 1, [], 0), (.ifCond .ne 14, 3, [168], 0)]
theorem a_X4_bears_148 : ck mX4_bears b_X4_bears_148 148 = true := by decide +kernel
def b_X4_bears_157 : List Ent := [(.iload_n 3, 1, [], 0), (.aload_n 0, 1, [], 0), (.getfield 18, 3, [4, 0, 1, 96], 0), (.iconst 2, 1, [], 0), (.iaload, 1, [7], 0), (.iadd, 1, [], 0), (.goto 4, 3, [169], 0)]
theorem a_X4_bears_157 : ck mX4_bears b_X4_bears_157 157 = true := by decide +kernel
def b_X4_bears_168 : List Ent := [(.iload_n 3, 1, [], 0)]
theorem a_X4_bears_168 : ck mX4_bears b_X4_bears_168 168 = true := by decide +kernel
def b_X4_bears_169 : List Ent := [(.ireturn, 1, [0], 0)]
theorem a_X4_bears_169 : ck mX4_bears b_X4_bears_169 169 = true := by decide +kernel
def b_X4_bears_170 : List Ent := [(.iload_n 3, 1, [], 0), (.ireturn, 1, [0], 0)]
theorem a_X4_bears_170 : ck mX4_bears b_X4_bears_170 170 = true := by decide +kernel
theorem o_X4_burnt : MOK mX4_burnt 0 := MOK.of 616 59 (by decide +kernel) (by decide +kernel) (by decide +kernel) (by decide +kernel) (by decide +kernel)
def b_X4_burnt_0 : List Ent := [(.iconst 0, 1, [], 0), (.istore_n 1, 1, [], 0), (.iconst 0, 1, [], 0), (.istore_n 2, 1, [], 0)]
theorem a_X4_burnt_0 : ck mX4_burnt b_X4_burnt_0 0 = true := by decide +kernel
def b_X4_burnt_4 : List Ent := [(.iload_n 2, 1, [], 0), (.aload_n 0, 1, [], 0), (.getfield 42, 3, [4, 7, 0, 112], 0), (.if_icmp .ge 34, 3, [43], 0)]
theorem a_X4_burnt_4 : ck mX4_burnt b_X4_burnt_4 4 = true := by decide +kernel
def b_X4_burnt_12 : List Ent := [(.aload_n 0, 1, [], 0), (.iload_n 2, 1, [], 0)]
theorem a_X4_burnt_12 : ck mX4_burnt b_X4_burnt_12 12 = true := by decide +kernel
theorem k_X4_burnt_14 : CV mX4_burnt 14 mX4_isCut := CV.of 77 485 486 487 (by decide +kernel) (by decide +kernel) (by decide +kernel) (by decide +kernel)
def b_X4_burnt_17 : List Ent := [(.ifCond .eq 20, 3, [37], 0)]
theorem a_X4_burnt_17 : ck mX4_burnt b_X4_burnt_17 17 = true := by decide +kernel
def b_X4_burnt_20 : List Ent := [(.aload_n 0, 1, [], 0), (.getfield 35, 3, [4, 5, 6, 107], 0), (.iload_n 2, 1, [], 0), (.iaload, 1, [7], 0), (.bipush 6, 2, [], 0), (.if_icmp .lt 9, 3, [37], 0)]
theorem a_X4_burnt_20 : ck mX4_burnt b_X4_burnt_20 20 = true := by decide +kernel
def b_X4_burnt_31 : List Ent := [(.iload_n 1, 1, [], 0), (.iconst 1, 1, [], 0), (.iload_n 2, 1, [], 0), (.ishl, 1, [], 0), (.ior, 1, [], 0), (.istore_n 1, 1, [], 0)]
theorem a_X4_burnt_31 : ck mX4_burnt b_X4_burnt_31 31 = true := by decide +kernel
def b_X4_burnt_37 : List Ent := [(.iinc 2 1, 3, [], 0), (.goto (-36), 3, [4], 0)]
theorem a_X4_burnt_37 : ck mX4_burnt b_X4_burnt_37 37 = true := by decide +kernel
def b_X4_burnt_43 : List Ent := [(.iload_n 1, 1, [], 0), (.ireturn, 1, [0], 0)]
theorem a_X4_burnt_43 : ck mX4_burnt b_X4_burnt_43 43 = true := by decide +kernel
theorem o_X4_canBeHadBack : MOK mX4_canBeHadBack 1 := MOK.of 548 59 (by decide +kernel) (by decide +kernel) (by decide +kernel) (by decide +kernel) (by decide +kernel)
def b_X4_canBeHadBack_0 : List Ent := [(.aload_n 0, 1, [], 0), (.iload_n 1, 1, [], 0)]
theorem a_X4_canBeHadBack_0 : ck mX4_canBeHadBack b_X4_canBeHadBack_0 0 = true := by decide +kernel
theorem k_X4_canBeHadBack_2 : CV mX4_canBeHadBack 2 mX4_isCut := CV.of 77 485 486 487 (by decide +kernel) (by decide +kernel) (by decide +kernel) (by decide +kernel)
def b_X4_canBeHadBack_5 : List Ent := [(.ifCond .eq 18, 3, [23], 0)]
theorem a_X4_canBeHadBack_5 : ck mX4_canBeHadBack b_X4_canBeHadBack_5 5 = true := by decide +kernel
def b_X4_canBeHadBack_8 : List Ent := [(.aload_n 0, 1, [], 0), (.getfield 35, 3, [4, 5, 6, 107], 0), (.iload_n 1, 1, [], 0), (.iaload, 1, [7], 0), (.bipush 6, 2, [], 0), (.if_icmp .ge 7, 3, [23], 0)]
theorem a_X4_canBeHadBack_8 : ck mX4_canBeHadBack b_X4_canBeHadBack_8 8 = true := by decide +kernel
def b_X4_canBeHadBack_19 : List Ent := [(.iconst 1, 1, [], 0), (.goto 4, 3, [24], 0)]
theorem a_X4_canBeHadBack_19 : ck mX4_canBeHadBack b_X4_canBeHadBack_19 19 = true := by decide +kernel
def b_X4_canBeHadBack_23 : List Ent := [(.iconst 0, 1, [], 0)]
theorem a_X4_canBeHadBack_23 : ck mX4_canBeHadBack b_X4_canBeHadBack_23 23 = true := by decide +kernel
def b_X4_canBeHadBack_24 : List Ent := [(.ireturn, 1, [1], 0)]
theorem a_X4_canBeHadBack_24 : ck mX4_canBeHadBack b_X4_canBeHadBack_24 24 = true := by decide +kernel
theorem o_X4_clear : MOK mX4_clear 0 := MOK.of 306 59 (by decide +kernel) (by decide +kernel) (by decide +kernel) (by decide +kernel) (by decide +kernel)
def b_X4_clear_0 : List Ent := [(.getstatic 9, 3, [1, 1, 87], 0), (.iconst 0, 1, [], 0), (.aload_n 0, 1, [], 0), (.getfield 18, 3, [4, 0, 1, 96], 0), (.iconst 0, 1, [], 0), (.aload_n 0, 1, [], 0), (.getfield 18, 3, [4, 0, 1, 96], 0), (.arraylength, 1, [7], 0)]
theorem a_X4_clear_0 : ck mX4_clear b_X4_clear_0 0 = true := by decide +kernel
def b_X4_clear_17 : List Ent := [(.aload_n 0, 1, [], 0), (.iconst 0, 1, [], 0), (.putfield 38, 3, [4, 6, 0, 109], 0), (.aload_n 0, 1, [], 0), (.iconst 0, 1, [], 0), (.putfield 42, 3, [4, 7, 0, 112], 0), (.aload_n 0, 1, [], 0), (.iconst 0, 1, [], 0), (.putfield 45, 3, [4, 8, 0, 115], 0), (.aload_n 0, 1, [], 0), (.iconst 0, 1, [], 0), (.putfield 48, 3, [4, 9, 0, 117], 0), (.return_, 1, [], 0)]
theorem a_X4_clear_17 : ck mX4_clear b_X4_clear_17 17 = true := by decide +kernel
theorem o_X4_copyFrom : MOK mX4_copyFrom 1 := MOK.of 441 59 (by decide +kernel) (by decide +kernel) (by decide +kernel) (by decide +kernel) (by decide +kernel)
def b_X4_copyFrom_0 : List Ent := [(.aload_n 1, 1, [], 0), (.getfield 18, 3, [4, 0, 1, 96], 0), (.iconst 0, 1, [], 0), (.aload_n 0, 1, [], 0), (.getfield 18, 3, [4, 0, 1, 96], 0), (.iconst 0, 1, [], 0), (.aload_n 0, 1, [], 0), (.getfield 18, 3, [4, 0, 1, 96], 0), (.arraylength, 1, [7], 0)]
theorem a_X4_copyFrom_0 : ck mX4_copyFrom b_X4_copyFrom_0 0 = true := by decide +kernel
def b_X4_copyFrom_18 : List Ent := [(.aload_n 1, 1, [], 0), (.getfield 23, 3, [4, 1, 2, 99], 0), (.iconst 0, 1, [], 0), (.aload_n 0, 1, [], 0), (.getfield 23, 3, [4, 1, 2, 99], 0), (.iconst 0, 1, [], 0), (.bipush 8, 2, [], 0)]
theorem a_X4_copyFrom_18 : ck mX4_copyFrom b_X4_copyFrom_18 18 = true := by decide +kernel
def b_X4_copyFrom_33 : List Ent := [(.aload_n 1, 1, [], 0), (.getfield 26, 3, [4, 2, 3, 101], 0), (.iconst 0, 1, [], 0), (.aload_n 0, 1, [], 0), (.getfield 26, 3, [4, 2, 3, 101], 0), (.iconst 0, 1, [], 0), (.bipush 8, 2, [], 0)]
theorem a_X4_copyFrom_33 : ck mX4_copyFrom b_X4_copyFrom_33 33 = true := by decide +kernel
def b_X4_copyFrom_48 : List Ent := [(.aload_n 1, 1, [], 0), (.getfield 29, 3, [4, 3, 4, 103], 0), (.iconst 0, 1, [], 0), (.aload_n 0, 1, [], 0), (.getfield 29, 3, [4, 3, 4, 103], 0), (.iconst 0, 1, [], 0), (.bipush 8, 2, [], 0)]
theorem a_X4_copyFrom_48 : ck mX4_copyFrom b_X4_copyFrom_48 48 = true := by decide +kernel
def b_X4_copyFrom_63 : List Ent := [(.aload_n 1, 1, [], 0), (.getfield 32, 3, [4, 4, 5, 105], 0), (.iconst 0, 1, [], 0), (.aload_n 0, 1, [], 0), (.getfield 32, 3, [4, 4, 5, 105], 0), (.iconst 0, 1, [], 0), (.bipush 8, 2, [], 0)]
theorem a_X4_copyFrom_63 : ck mX4_copyFrom b_X4_copyFrom_63 63 = true := by decide +kernel
def b_X4_copyFrom_78 : List Ent := [(.aload_n 1, 1, [], 0), (.getfield 35, 3, [4, 5, 6, 107], 0), (.iconst 0, 1, [], 0), (.aload_n 0, 1, [], 0), (.getfield 35, 3, [4, 5, 6, 107], 0), (.iconst 0, 1, [], 0), (.bipush 8, 2, [], 0)]
theorem a_X4_copyFrom_78 : ck mX4_copyFrom b_X4_copyFrom_78 78 = true := by decide +kernel
def b_X4_copyFrom_93 : List Ent := [(.aload_n 0, 1, [], 0), (.aload_n 1, 1, [], 0), (.getfield 38, 3, [4, 6, 0, 109], 0), (.putfield 38, 3, [4, 6, 0, 109], 0), (.aload_n 0, 1, [], 0), (.aload_n 1, 1, [], 0), (.getfield 42, 3, [4, 7, 0, 112], 0), (.putfield 42, 3, [4, 7, 0, 112], 0), (.aload_n 0, 1, [], 0), (.aload_n 1, 1, [], 0), (.getfield 45, 3, [4, 8, 0, 115], 0), (.putfield 45, 3, [4, 8, 0, 115], 0), (.aload_n 0, 1, [], 0), (.aload_n 1, 1, [], 0), (.getfield 48, 3, [4, 9, 0, 117], 0), (.putfield 48, 3, [4, 9, 0, 117], 0), (.aload_n 0, 1, [], 0), (.aload_n 1, 1, [], 0), (.getfield 51, 3, [4, 10, 0, 119], 0), (.putfield 51, 3, [4, 10, 0, 119], 0), (.return_, 1, [], 0)]
theorem a_X4_copyFrom_93 : ck mX4_copyFrom b_X4_copyFrom_93 93 = true := by decide +kernel
theorem o_X4_depthOf : MOK mX4_depthOf 1 := MOK.of 496 59 (by decide +kernel) (by decide +kernel) (by decide +kernel) (by decide +kernel) (by decide +kernel)
def b_X4_depthOf_0 : List Ent := [(.iconst 0, 1, [], 0), (.istore_n 2, 1, [], 0), (.aload_n 0, 1, [], 0), (.getfield 26, 3, [4, 2, 3, 101], 0), (.iload_n 1, 1, [], 0), (.iaload, 1, [7], 0), (.istore_n 3, 1, [], 0), (.iconst 0, 1, [], 0), (.istore 4, 2, [], 0)]
theorem a_X4_depthOf_0 : ck mX4_depthOf b_X4_depthOf_0 0 = true := by decide +kernel
def b_X4_depthOf_12 : List Ent := [(.iload 4, 2, [], 0), (.bipush 8, 2, [], 0), (.if_icmp .ge 25, 3, [41], 0)]
theorem a_X4_depthOf_12 : ck mX4_depthOf b_X4_depthOf_12 12 = true := by decide +kernel
def b_X4_depthOf_19 : List Ent := [(.iload_n 3, 1, [], 0), (.ifCond .le 21, 3, [41], 0)]
theorem a_X4_depthOf_19 : ck mX4_depthOf b_X4_depthOf_19 19 = true := by decide +kernel
def b_X4_depthOf_23 : List Ent := [(.iinc 2 1, 3, [], 0), (.aload_n 0, 1, [], 0), (.getfield 26, 3, [4, 2, 3, 101], 0), (.iload_n 3, 1, [], 0), (.iconst 1, 1, [], 0), (.isub, 1, [], 0), (.iaload, 1, [7], 0), (.istore_n 3, 1, [], 0), (.iinc 4 1, 3, [], 0), (.goto (-26), 3, [12], 0)]
theorem a_X4_depthOf_23 : ck mX4_depthOf b_X4_depthOf_23 23 = true := by decide +kernel
def b_X4_depthOf_41 : List Ent := [(.iload_n 2, 1, [], 0), (.ireturn, 1, [0], 0)]
theorem a_X4_depthOf_41 : ck mX4_depthOf b_X4_depthOf_41 41 = true := by decide +kernel
theorem o_X4_forceOfAll : MOK mX4_forceOfAll 0 := MOK.of 612 59 (by decide +kernel) (by decide +kernel) (by decide +kernel) (by decide +kernel) (by decide +kernel)
def b_X4_forceOfAll_0 : List Ent := [(.iconst 0, 1, [], 0), (.istore_n 1, 1, [], 0), (.iconst 0, 1, [], 0), (.istore_n 2, 1, [], 0)]
theorem a_X4_forceOfAll_0 : ck mX4_forceOfAll b_X4_forceOfAll_0 0 = true := by decide +kernel
def b_X4_forceOfAll_4 : List Ent := [(.iload_n 2, 1, [], 0), (.aload_n 0, 1, [], 0), (.getfield 42, 3, [4, 7, 0, 112], 0), (.if_icmp .ge 18, 3, [27], 0)]
theorem a_X4_forceOfAll_4 : ck mX4_forceOfAll b_X4_forceOfAll_4 4 = true := by decide +kernel
def b_X4_forceOfAll_12 : List Ent := [(.iload_n 1, 1, [], 0), (.aload_n 0, 1, [], 0), (.getfield 29, 3, [4, 3, 4, 103], 0), (.iload_n 2, 1, [], 0), (.iaload, 1, [7], 0), (.iadd, 1, [], 0), (.istore_n 1, 1, [], 0), (.iinc 2 1, 3, [], 0), (.goto (-20), 3, [4], 0)]
theorem a_X4_forceOfAll_12 : ck mX4_forceOfAll b_X4_forceOfAll_12 12 = true := by decide +kernel
def b_X4_forceOfAll_27 : List Ent := [(.iload_n 1, 1, [], 0), (.ireturn, 1, [0], 0)]
theorem a_X4_forceOfAll_27 : ck mX4_forceOfAll b_X4_forceOfAll_27 27 = true := by decide +kernel
theorem o_X4_gains : MOK mX4_gains 1 := MOK.of 509 59 (by decide +kernel) (by decide +kernel) (by decide +kernel) (by decide +kernel) (by decide +kernel)
def b_X4_gains_0 : List Ent := [(.aload_n 0, 1, [], 0), (.getfield 32, 3, [4, 4, 5, 105], 0), (.iload_n 1, 1, [], 0), (.iaload, 1, [7], 0), (.bipush 20, 2, [], 0), (.if_icmp .ge 7, 3, [15], 0)]
theorem a_X4_gains_0 : ck mX4_gains b_X4_gains_0 0 = true := by decide +kernel
def b_X4_gains_11 : List Ent := [(.iconst 1, 1, [], 0), (.goto 4, 3, [16], 0)]
theorem a_X4_gains_11 : ck mX4_gains b_X4_gains_11 11 = true := by decide +kernel
def b_X4_gains_15 : List Ent := [(.iconst (-1), 1, [], 0)]
theorem a_X4_gains_15 : ck mX4_gains b_X4_gains_15 15 = true := by decide +kernel
def b_X4_gains_16 : List Ent := [(.istore_n 2, 1, [], 0), (.aload_n 0, 1, [], 0), (.getfield 23, 3, [4, 1, 2, 99], 0), (.iload_n 1, 1, [], 0), (.iaload, 1, [7], 0), (.tableswitch 45 1 5 #[33, 37, 35, 39, 43], 33, [68, 56, 60, 58, 62, 66], 0)]
theorem a_X4_gains_16 : ck mX4_gains b_X4_gains_16 16 = true := by decide +kernel
def b_X4_gains_56 : List Ent := [(.iconst 2, 1, [], 0), (.ireturn, 1, [0], 0)]
theorem a_X4_gains_56 : ck mX4_gains b_X4_gains_56 56 = true := by decide +kernel
def b_X4_gains_58 : List Ent := [(.iconst 3, 1, [], 0), (.ireturn, 1, [0], 0)]
theorem a_X4_gains_58 : ck mX4_gains b_X4_gains_58 58 = true := by decide +kernel
def b_X4_gains_60 : List Ent := [(.iload_n 2, 1, [], 0), (.ireturn, 1, [0], 0)]
theorem a_X4_gains_60 : ck mX4_gains b_X4_gains_60 60 = true := by decide +kernel
def b_X4_gains_62 : List Ent := [(.iconst 2, 1, [], 0), (.iload_n 2, 1, [], 0), (.imul, 1, [], 0), (.ireturn, 1, [0], 0)]
theorem a_X4_gains_62 : ck mX4_gains b_X4_gains_62 62 = true := by decide +kernel
def b_X4_gains_66 : List Ent := [(.iconst 0, 1, [], 0), (.ireturn, 1, [0], 0)]
theorem a_X4_gains_66 : ck mX4_gains b_X4_gains_66 66 = true := by decide +kernel
def b_X4_gains_68 : List Ent := [(.iconst 1, 1, [], 0), (.ireturn, 1, [0], 0)]
theorem a_X4_gains_68 : ck mX4_gains b_X4_gains_68 68 = true := by decide +kernel
theorem o_X4_growOrLie : MOK mX4_growOrLie 1 := MOK.of 571 59 (by decide +kernel) (by decide +kernel) (by decide +kernel) (by decide +kernel) (by decide +kernel)
def b_X4_growOrLie_0 : List Ent := [(.aload_n 0, 1, [], 0), (.getfield 54, 3, [4, 11, 0, 121], 0), (.iload_n 1, 1, [], 0)]
theorem a_X4_growOrLie_0 : ck mX4_growOrLie b_X4_growOrLie_0 0 = true := by decide +kernel
theorem k_X4_growOrLie_5 : CS mX4_growOrLie 5 mX5_bit := CS.ofN 73 484 475 (by decide +kernel) (by decide +kernel) (by decide +kernel)
def b_X4_growOrLie_8 : List Ent := [(.iconst 1, 1, [], 0), (.if_icmp .ne 46, 3, [55], 0)]
theorem a_X4_growOrLie_8 : ck mX4_growOrLie b_X4_growOrLie_8 8 = true := by decide +kernel
def b_X4_growOrLie_12 : List Ent := [(.aload_n 0, 1, [], 0), (.getfield 29, 3, [4, 3, 4, 103], 0), (.iload_n 1, 1, [], 0), (.aload_n 0, 1, [], 0), (.getfield 29, 3, [4, 3, 4, 103], 0), (.iload_n 1, 1, [], 0), (.iaload, 1, [7], 0), (.aload_n 0, 1, [], 0), (.iload_n 1, 1, [], 0)]
theorem a_X4_growOrLie_12 : ck mX4_growOrLie b_X4_growOrLie_12 12 = true := by decide +kernel
theorem k_X4_growOrLie_25 : CV mX4_growOrLie 25 mX4_gains := CV.of 111 572 507 508 (by decide +kernel) (by decide +kernel) (by decide +kernel) (by decide +kernel)
def b_X4_growOrLie_28 : List Ent := [(.iadd, 1, [], 0), (.iconst 0, 1, [], 0), (.bipush 9, 2, [], 0)]
theorem a_X4_growOrLie_28 : ck mX4_growOrLie b_X4_growOrLie_28 28 = true := by decide +kernel
theorem k_X4_growOrLie_32 : CS mX4_growOrLie 32 mX5_held := CS.ofN 114 573 574 (by decide +kernel) (by decide +kernel) (by decide +kernel)
def b_X4_growOrLie_35 : List Ent := [(.iastore, 1, [], 0), (.aload_n 0, 1, [], 0), (.getfield 32, 3, [4, 4, 5, 105], 0), (.iload_n 1, 1, [], 0), (.bipush 99, 2, [], 0), (.aload_n 0, 1, [], 0), (.getfield 32, 3, [4, 4, 5, 105], 0), (.iload_n 1, 1, [], 0), (.iaload, 1, [7], 0), (.iconst 1, 1, [], 0), (.iadd, 1, [], 0)]
theorem a_X4_growOrLie_35 : ck mX4_growOrLie b_X4_growOrLie_35 35 = true := by decide +kernel
theorem k_X4_growOrLie_51 : CS mX4_growOrLie 51 mJ9_min_7cf53 := CS.of 108 578 318 (by decide +kernel) (by decide +kernel) (by decide +kernel)
def b_X4_growOrLie_54 : List Ent := [(.iastore, 1, [], 0)]
theorem a_X4_growOrLie_54 : ck mX4_growOrLie b_X4_growOrLie_54 54 = true := by decide +kernel
def b_X4_growOrLie_55 : List Ent := [(.aload_n 0, 1, [], 0), (.iload_n 1, 1, [], 0)]
theorem a_X4_growOrLie_55 : ck mX4_growOrLie b_X4_growOrLie_55 55 = true := by decide +kernel
theorem k_X4_growOrLie_57 : CV mX4_growOrLie 57 mX4_isCut := CV.of 77 485 486 487 (by decide +kernel) (by decide +kernel) (by decide +kernel) (by decide +kernel)
def b_X4_growOrLie_60 : List Ent := [(.ifCond .eq 22, 3, [82], 0)]
theorem a_X4_growOrLie_60 : ck mX4_growOrLie b_X4_growOrLie_60 60 = true := by decide +kernel
def b_X4_growOrLie_63 : List Ent := [(.aload_n 0, 1, [], 0), (.getfield 35, 3, [4, 5, 6, 107], 0), (.iload_n 1, 1, [], 0), (.bipush 9, 2, [], 0), (.aload_n 0, 1, [], 0), (.getfield 35, 3, [4, 5, 6, 107], 0), (.iload_n 1, 1, [], 0), (.iaload, 1, [7], 0), (.iconst 1, 1, [], 0), (.iadd, 1, [], 0)]
theorem a_X4_growOrLie_63 : ck mX4_growOrLie b_X4_growOrLie_63 63 = true := by decide +kernel
theorem k_X4_growOrLie_78 : CS mX4_growOrLie 78 mJ9_min_7cf53 := CS.of 108 578 318 (by decide +kernel) (by decide +kernel) (by decide +kernel)
def b_X4_growOrLie_81 : List Ent := [(.iastore, 1, [], 0)]
theorem a_X4_growOrLie_81 : ck mX4_growOrLie b_X4_growOrLie_81 81 = true := by decide +kernel
def b_X4_growOrLie_82 : List Ent := [(.return_, 1, [], 0)]
theorem a_X4_growOrLie_82 : ck mX4_growOrLie b_X4_growOrLie_82 82 = true := by decide +kernel
theorem o_X4_has : MOK mX4_has 1 := MOK.of 472 59 (by decide +kernel) (by decide +kernel) (by decide +kernel) (by decide +kernel) (by decide +kernel)
def b_X4_has_0 : List Ent := [(.iload_n 1, 1, [], 0), (.iconst 0, 1, [], 0), (.aload_n 0, 1, [], 0), (.getfield 42, 3, [4, 7, 0, 112], 0), (.iconst 1, 1, [], 0), (.isub, 1, [], 0)]
theorem a_X4_has_0 : ck mX4_has b_X4_has_0 0 = true := by decide +kernel
theorem k_X4_has_8 : CS mX4_has 8 mX5_within := CS.ofN 69 473 289 (by decide +kernel) (by decide +kernel) (by decide +kernel)
def b_X4_has_11 : List Ent := [(.ireturn, 1, [1], 0)]
theorem a_X4_has_11 : ck mX4_has b_X4_has_11 11 = true := by decide +kernel
theorem o_X4_haveBack : MOK mX4_haveBack 1 := MOK.of 552 59 (by decide +kernel) (by decide +kernel) (by decide +kernel) (by decide +kernel) (by decide +kernel)
def b_X4_haveBack_0 : List Ent := [(.aload_n 0, 1, [], 0), (.dup, 1, [], 0), (.getfield 38, 3, [4, 6, 0, 109], 0), (.iconst 1, 1, [], 0), (.iload_n 1, 1, [], 0), (.ishl, 1, [], 0), (.iconst (-1), 1, [], 0), (.ixor, 1, [], 0), (.iand, 1, [], 0), (.putfield 38, 3, [4, 6, 0, 109], 0), (.aload_n 0, 1, [], 0), (.getfield 35, 3, [4, 5, 6, 107], 0), (.iload_n 1, 1, [], 0), (.iconst 0, 1, [], 0), (.iastore, 1, [], 0), (.return_, 1, [], 0)]
theorem a_X4_haveBack_0 : ck mX4_haveBack b_X4_haveBack_0 0 = true := by decide +kernel
theorem o_X4_hinders : MOK mX4_hinders 1 := MOK.of 492 59 (by decide +kernel) (by decide +kernel) (by decide +kernel) (by decide +kernel) (by decide +kernel)
def b_X4_hinders_0 : List Ent := [(.aload_n 0, 1, [], 0), (.getfield 29, 3, [4, 3, 4, 103], 0), (.iload_n 1, 1, [], 0), (.iaload, 1, [7], 0), (.iconst 3, 1, [], 0), (.idiv, 1, [], 0), (.istore_n 2, 1, [], 0), (.aload_n 0, 1, [], 0), (.getfield 23, 3, [4, 1, 2, 99], 0), (.iload_n 1, 1, [], 0), (.iaload, 1, [7], 0), (.tableswitch 76 1 5 #[33, 54, 37, 63, 74], 33, [91, 48, 69, 52, 78, 89], 0)]
theorem a_X4_hinders_0 : ck mX4_hinders b_X4_hinders_0 0 = true := by decide +kernel
def b_X4_hinders_48 : List Ent := [(.iload_n 2, 1, [], 0), (.iconst 1, 1, [], 0), (.isub, 1, [], 0), (.ireturn, 1, [0], 0)]
theorem a_X4_hinders_48 : ck mX4_hinders b_X4_hinders_48 48 = true := by decide +kernel
def b_X4_hinders_52 : List Ent := [(.aload_n 0, 1, [], 0), (.getfield 45, 3, [4, 8, 0, 115], 0), (.iconst 2, 1, [], 0), (.irem, 1, [], 0), (.ifCond .ne 9, 3, [67], 0)]
theorem a_X4_hinders_52 : ck mX4_hinders b_X4_hinders_52 52 = true := by decide +kernel
def b_X4_hinders_61 : List Ent := [(.iload_n 2, 1, [], 0), (.iconst 1, 1, [], 0), (.isub, 1, [], 0), (.goto 4, 3, [68], 0)]
theorem a_X4_hinders_61 : ck mX4_hinders b_X4_hinders_61 61 = true := by decide +kernel
def b_X4_hinders_67 : List Ent := [(.iconst 0, 1, [], 0)]
theorem a_X4_hinders_67 : ck mX4_hinders b_X4_hinders_67 67 = true := by decide +kernel
def b_X4_hinders_68 : List Ent := [(.ireturn, 1, [0], 0)]
theorem a_X4_hinders_68 : ck mX4_hinders b_X4_hinders_68 68 = true := by decide +kernel
def b_X4_hinders_69 : List Ent := [(.iload_n 2, 1, [], 0), (.aload_n 0, 1, [], 0), (.getfield 18, 3, [4, 0, 1, 96], 0), (.iconst 0, 1, [], 0), (.iaload, 1, [7], 0), (.iadd, 1, [], 0), (.ireturn, 1, [0], 0)]
theorem a_X4_hinders_69 : ck mX4_hinders b_X4_hinders_69 69 = true := by decide +kernel
def b_X4_hinders_78 : List Ent := [(.iconst 2, 1, [], 0), (.iload_n 2, 1, [], 0), (.aload_n 0, 1, [], 0), (.getfield 18, 3, [4, 0, 1, 96], 0), (.iconst 0, 1, [], 0), (.iaload, 1, [7], 0), (.iadd, 1, [], 0), (.imul, 1, [], 0), (.ireturn, 1, [0], 0)]
theorem a_X4_hinders_78 : ck mX4_hinders b_X4_hinders_78 78 = true := by decide +kernel
def b_X4_hinders_89 : List Ent := [(.iconst 0, 1, [], 0), (.ireturn, 1, [0], 0)]
theorem a_X4_hinders_89 : ck mX4_hinders b_X4_hinders_89 89 = true := by decide +kernel
def b_X4_hinders_91 : List Ent := [(.iload_n 2, 1, [], 0), (.ireturn, 1, [0], 0)]
theorem a_X4_hinders_91 : ck mX4_hinders b_X4_hinders_91 91 = true := by decide +kernel
theorem o_X4_init : MOK mX4_init 0 := MOK.of 85 59 (by decide +kernel) (by decide +kernel) (by decide +kernel) (by decide +kernel) (by decide +kernel)
theorem o_X4_isBare : MOK mX4_isBare 0 := MOK.of 628 59 (by decide +kernel) (by decide +kernel) (by decide +kernel) (by decide +kernel) (by decide +kernel)
def b_X4_isBare_0 : List Ent := [(.aload_n 0, 1, [], 0)]
theorem a_X4_isBare_0 : ck mX4_isBare b_X4_isBare_0 0 = true := by decide +kernel
theorem k_X4_isBare_1 : CV mX4_isBare 1 mX4_survey := CV.of 91 565 478 479 (by decide +kernel) (by decide +kernel) (by decide +kernel) (by decide +kernel)
def b_X4_isBare_4 : List Ent := [(.pop, 1, [], 0), (.iconst 0, 1, [], 0), (.istore_n 1, 1, [], 0)]
theorem a_X4_isBare_4 : ck mX4_isBare b_X4_isBare_4 4 = true := by decide +kernel
def b_X4_isBare_7 : List Ent := [(.iload_n 1, 1, [], 0), (.aload_n 0, 1, [], 0), (.getfield 42, 3, [4, 7, 0, 112], 0), (.if_icmp .ge 31, 3, [43], 0)]
theorem a_X4_isBare_7 : ck mX4_isBare b_X4_isBare_7 7 = true := by decide +kernel
def b_X4_isBare_15 : List Ent := [(.aload_n 0, 1, [], 0), (.getfield 54, 3, [4, 11, 0, 121], 0), (.iload_n 1, 1, [], 0)]
theorem a_X4_isBare_15 : ck mX4_isBare b_X4_isBare_15 15 = true := by decide +kernel
theorem k_X4_isBare_20 : CS mX4_isBare 20 mX5_bit := CS.ofN 73 484 475 (by decide +kernel) (by decide +kernel) (by decide +kernel)
def b_X4_isBare_23 : List Ent := [(.iconst 1, 1, [], 0), (.if_icmp .ne 13, 3, [37], 0)]
theorem a_X4_isBare_23 : ck mX4_isBare b_X4_isBare_23 23 = true := by decide +kernel
def b_X4_isBare_27 : List Ent := [(.aload_n 0, 1, [], 0), (.iload_n 1, 1, [], 0)]
theorem a_X4_isBare_27 : ck mX4_isBare b_X4_isBare_27 27 = true := by decide +kernel
theorem k_X4_isBare_29 : CV mX4_isBare 29 mX4_bears := CV.of 95 566 503 504 (by decide +kernel) (by decide +kernel) (by decide +kernel) (by decide +kernel)
def b_X4_isBare_32 : List Ent := [(.ifCond .le 5, 3, [37], 0)]
theorem a_X4_isBare_32 : ck mX4_isBare b_X4_isBare_32 32 = true := by decide +kernel
def b_X4_isBare_35 : List Ent := [(.iconst 0, 1, [], 0), (.ireturn, 1, [1], 0)]
theorem a_X4_isBare_35 : ck mX4_isBare b_X4_isBare_35 35 = true := by decide +kernel
def b_X4_isBare_37 : List Ent := [(.iinc 1 1, 3, [], 0), (.goto (-33), 3, [7], 0)]
theorem a_X4_isBare_37 : ck mX4_isBare b_X4_isBare_37 37 = true := by decide +kernel
def b_X4_isBare_43 : List Ent := [(.iconst 1, 1, [], 0), (.ireturn, 1, [1], 0)]
theorem a_X4_isBare_43 : ck mX4_isBare b_X4_isBare_43 43 = true := by decide +kernel
theorem o_X4_isCut : MOK mX4_isCut 1 := MOK.of 488 59 (by decide +kernel) (by decide +kernel) (by decide +kernel) (by decide +kernel) (by decide +kernel)
def b_X4_isCut_0 : List Ent := [(.aload_n 0, 1, [], 0), (.getfield 38, 3, [4, 6, 0, 109], 0), (.iload_n 1, 1, [], 0)]
theorem a_X4_isCut_0 : ck mX4_isCut b_X4_isCut_0 0 = true := by decide +kernel
theorem k_X4_isCut_5 : CS mX4_isCut 5 mX5_bit := CS.ofN 73 484 475 (by decide +kernel) (by decide +kernel) (by decide +kernel)
def b_X4_isCut_8 : List Ent := [(.iconst 1, 1, [], 0), (.if_icmp .ne 7, 3, [16], 0)]
theorem a_X4_isCut_8 : ck mX4_isCut b_X4_isCut_8 8 = true := by decide +kernel
def b_X4_isCut_12 : List Ent := [(.iconst 1, 1, [], 0), (.goto 4, 3, [17], 0)]
theorem a_X4_isCut_12 : ck mX4_isCut b_X4_isCut_12 12 = true := by decide +kernel
def b_X4_isCut_16 : List Ent := [(.iconst 0, 1, [], 0)]
theorem a_X4_isCut_16 : ck mX4_isCut b_X4_isCut_16 16 = true := by decide +kernel
def b_X4_isCut_17 : List Ent := [(.ireturn, 1, [1], 0)]
theorem a_X4_isCut_17 : ck mX4_isCut b_X4_isCut_17 17 = true := by decide +kernel
theorem o_X4_nextDraw : MOK mX4_nextDraw 0 := MOK.of 595 59 (by decide +kernel) (by decide +kernel) (by decide +kernel) (by decide +kernel) (by decide +kernel)
def b_X4_nextDraw_0 : List Ent := [(.aload_n 0, 1, [], 0), (.aload_n 0, 1, [], 0), (.getfield 51, 3, [4, 10, 0, 119], 0), (.ldc 124, 2, [0, 596], 1103515245), (.imul, 1, [], 0), (.sipush 12345, 3, [], 0), (.iadd, 1, [], 0), (.putfield 51, 3, [4, 10, 0, 119], 0), (.aload_n 0, 1, [], 0), (.getfield 51, 3, [4, 10, 0, 119], 0), (.bipush 16, 2, [], 0), (.iushr, 1, [], 0), (.ireturn, 1, [0], 0)]
theorem a_X4_nextDraw_0 : ck mX4_nextDraw b_X4_nextDraw_0 0 = true := by decide +kernel
theorem o_X4_passYear : MOK mX4_passYear 0 := MOK.of 564 59 (by decide +kernel) (by decide +kernel) (by decide +kernel) (by decide +kernel) (by decide +kernel)
def b_X4_passYear_0 : List Ent := [(.aload_n 0, 1, [], 0)]
theorem a_X4_passYear_0 : ck mX4_passYear b_X4_passYear_0 0 = true := by decide +kernel
theorem k_X4_passYear_1 : CV mX4_passYear 1 mX4_survey := CV.of 91 565 478 479 (by decide +kernel) (by decide +kernel) (by decide +kernel) (by decide +kernel)
def b_X4_passYear_4 : List Ent := [(.pop, 1, [], 0), (.iconst 0, 1, [], 0), (.istore_n 1, 1, [], 0), (.iconst 0, 1, [], 0), (.istore_n 2, 1, [], 0)]
theorem a_X4_passYear_4 : ck mX4_passYear b_X4_passYear_4 4 = true := by decide +kernel
def b_X4_passYear_9 : List Ent := [(.iload_n 2, 1, [], 0), (.aload_n 0, 1, [], 0), (.getfield 42, 3, [4, 7, 0, 112], 0), (.if_icmp .ge 33, 3, [47], 0)]
theorem a_X4_passYear_9 : ck mX4_passYear b_X4_passYear_9 9 = true := by decide +kernel
def b_X4_passYear_17 : List Ent := [(.aload_n 0, 1, [], 0), (.getfield 54, 3, [4, 11, 0, 121], 0), (.iload_n 2, 1, [], 0)]
theorem a_X4_passYear_17 : ck mX4_passYear b_X4_passYear_17 17 = true := by decide +kernel
theorem k_X4_passYear_22 : CS mX4_passYear 22 mX5_bit := CS.ofN 73 484 475 (by decide +kernel) (by decide +kernel) (by decide +kernel)
def b_X4_passYear_25 : List Ent := [(.iconst 1, 1, [], 0), (.if_icmp .ne 15, 3, [41], 0)]
theorem a_X4_passYear_25 : ck mX4_passYear b_X4_passYear_25 25 = true := by decide +kernel
def b_X4_passYear_29 : List Ent := [(.iload_n 1, 1, [], 0), (.iconst 0, 1, [], 0), (.aload_n 0, 1, [], 0), (.iload_n 2, 1, [], 0)]
theorem a_X4_passYear_29 : ck mX4_passYear b_X4_passYear_29 29 = true := by decide +kernel
theorem k_X4_passYear_33 : CV mX4_passYear 33 mX4_bears := CV.of 95 566 503 504 (by decide +kernel) (by decide +kernel) (by decide +kernel) (by decide +kernel)
theorem k_X4_passYear_36 : CS mX4_passYear 36 mJ9_max_7cf53 := CS.of 98 567 423 (by decide +kernel) (by decide +kernel) (by decide +kernel)
def b_X4_passYear_39 : List Ent := [(.iadd, 1, [], 0), (.istore_n 1, 1, [], 0)]
theorem a_X4_passYear_39 : ck mX4_passYear b_X4_passYear_39 39 = true := by decide +kernel
def b_X4_passYear_41 : List Ent := [(.iinc 2 1, 3, [], 0), (.goto (-35), 3, [9], 0)]
theorem a_X4_passYear_41 : ck mX4_passYear b_X4_passYear_41 41 = true := by decide +kernel
def b_X4_passYear_47 : List Ent := [(.iconst 0, 1, [], 0), (.istore_n 2, 1, [], 0)]
theorem a_X4_passYear_47 : ck mX4_passYear b_X4_passYear_47 47 = true := by decide +kernel
def b_X4_passYear_49 : List Ent := [(.iload_n 2, 1, [], 0), (.aload_n 0, 1, [], 0), (.getfield 42, 3, [4, 7, 0, 112], 0), (.if_icmp .ge 14, 3, [68], 0)]
theorem a_X4_passYear_49 : ck mX4_passYear b_X4_passYear_49 49 = true := by decide +kernel
def b_X4_passYear_57 : List Ent := [(.aload_n 0, 1, [], 0), (.iload_n 2, 1, [], 0)]
theorem a_X4_passYear_57 : ck mX4_passYear b_X4_passYear_57 57 = true := by decide +kernel
theorem k_X4_passYear_59 : CV mX4_passYear 59 mX4_growOrLie := CV.of 103 568 569 570 (by decide +kernel) (by decide +kernel) (by decide +kernel) (by decide +kernel)
def b_X4_passYear_62 : List Ent := [(.iinc 2 1, 3, [], 0), (.goto (-16), 3, [49], 0)]
theorem a_X4_passYear_62 : ck mX4_passYear b_X4_passYear_62 62 = true := by decide +kernel
def b_X4_passYear_68 : List Ent := [(.aload_n 0, 1, [], 0), (.ldc 107, 2, [0, 579], 99999), (.aload_n 0, 1, [], 0), (.getfield 48, 3, [4, 9, 0, 117], 0), (.iload_n 1, 1, [], 0), (.iadd, 1, [], 0)]
theorem a_X4_passYear_68 : ck mX4_passYear b_X4_passYear_68 68 = true := by decide +kernel
theorem k_X4_passYear_77 : CS mX4_passYear 77 mJ9_min_7cf53 := CS.of 108 578 318 (by decide +kernel) (by decide +kernel) (by decide +kernel)
def b_X4_passYear_80 : List Ent := [(.putfield 48, 3, [4, 9, 0, 117], 0), (.aload_n 0, 1, [], 0), (.dup, 1, [], 0), (.getfield 45, 3, [4, 8, 0, 115], 0), (.iconst 1, 1, [], 0), (.iadd, 1, [], 0), (.putfield 45, 3, [4, 8, 0, 115], 0), (.iload_n 1, 1, [], 0), (.ireturn, 1, [0], 0)]
theorem a_X4_passYear_80 : ck mX4_passYear b_X4_passYear_80 80 = true := by decide +kernel
theorem o_X4_passYearByDraws : MOK mX4_passYearByDraws 0 := MOK.of 591 59 (by decide +kernel) (by decide +kernel) (by decide +kernel) (by decide +kernel) (by decide +kernel)
def b_X4_passYearByDraws_0 : List Ent := [(.aload_n 0, 1, [], 0), (.getfield 42, 3, [4, 7, 0, 112], 0), (.ifCond .le 39, 3, [43], 0)]
theorem a_X4_passYearByDraws_0 : ck mX4_passYearByDraws b_X4_passYearByDraws_0 0 = true := by decide +kernel
def b_X4_passYearByDraws_7 : List Ent := [(.aload_n 0, 1, [], 0)]
theorem a_X4_passYearByDraws_7 : ck mX4_passYearByDraws b_X4_passYearByDraws_7 7 = true := by decide +kernel
theorem k_X4_passYearByDraws_8 : CV mX4_passYearByDraws 8 mX4_nextDraw := CV.of 121 592 593 594 (by decide +kernel) (by decide +kernel) (by decide +kernel) (by decide +kernel)
def b_X4_passYearByDraws_11 : List Ent := [(.aload_n 0, 1, [], 0), (.getfield 42, 3, [4, 7, 0, 112], 0), (.irem, 1, [], 0), (.istore_n 1, 1, [], 0), (.aload_n 0, 1, [], 0)]
theorem a_X4_passYearByDraws_11 : ck mX4_passYearByDraws b_X4_passYearByDraws_11 11 = true := by decide +kernel
theorem k_X4_passYearByDraws_18 : CV mX4_passYearByDraws 18 mX4_nextDraw := CV.of 121 592 593 594 (by decide +kernel) (by decide +kernel) (by decide +kernel) (by decide +kernel)
def b_X4_passYearByDraws_21 : List Ent := [(.bipush 100, 2, [], 0), (.irem, 1, [], 0), (.aload_n 0, 1, [], 0), (.getfield 18, 3, [4, 0, 1, 96], 0), (.iconst 3, 1, [], 0), (.iaload, 1, [7], 0), (.if_icmp .ge 13, 3, [43], 0)]
theorem a_X4_passYearByDraws_21 : ck mX4_passYearByDraws b_X4_passYearByDraws_21 21 = true := by decide +kernel
def b_X4_passYearByDraws_33 : List Ent := [(.aload_n 0, 1, [], 0), (.getfield 29, 3, [4, 3, 4, 103], 0), (.iload_n 1, 1, [], 0), (.dup2, 1, [], 0), (.iaload, 1, [7], 0), (.iconst 2, 1, [], 0), (.idiv, 1, [], 0), (.iastore, 1, [], 0)]
theorem a_X4_passYearByDraws_33 : ck mX4_passYearByDraws b_X4_passYearByDraws_33 33 = true := by decide +kernel
def b_X4_passYearByDraws_43 : List Ent := [(.aload_n 0, 1, [], 0)]
theorem a_X4_passYearByDraws_43 : ck mX4_passYearByDraws b_X4_passYearByDraws_43 43 = true := by decide +kernel
theorem k_X4_passYearByDraws_44 : CV mX4_passYearByDraws 44 mX4_passYear := CV.of 118 561 562 563 (by decide +kernel) (by decide +kernel) (by decide +kernel) (by decide +kernel)
def b_X4_passYearByDraws_47 : List Ent := [(.ireturn, 1, [0], 0)]
theorem a_X4_passYearByDraws_47 : ck mX4_passYearByDraws b_X4_passYearByDraws_47 47 = true := by decide +kernel
theorem o_X4_passYears : MOK mX4_passYears 1 := MOK.of 560 59 (by decide +kernel) (by decide +kernel) (by decide +kernel) (by decide +kernel) (by decide +kernel)
def b_X4_passYears_0 : List Ent := [(.iconst 0, 1, [], 0), (.istore_n 2, 1, [], 0), (.iconst 0, 1, [], 0), (.istore_n 3, 1, [], 0)]
theorem a_X4_passYears_0 : ck mX4_passYears b_X4_passYears_0 0 = true := by decide +kernel
def b_X4_passYears_4 : List Ent := [(.iload_n 3, 1, [], 0), (.iload_n 1, 1, [], 0), (.if_icmp .ge 16, 3, [22], 0)]
theorem a_X4_passYears_4 : ck mX4_passYears b_X4_passYears_4 4 = true := by decide +kernel
def b_X4_passYears_9 : List Ent := [(.iload_n 2, 1, [], 0), (.aload_n 0, 1, [], 0)]
theorem a_X4_passYears_9 : ck mX4_passYears b_X4_passYears_9 9 = true := by decide +kernel
theorem k_X4_passYears_11 : CV mX4_passYears 11 mX4_passYear := CV.of 118 561 562 563 (by decide +kernel) (by decide +kernel) (by decide +kernel) (by decide +kernel)
def b_X4_passYears_14 : List Ent := [(.iadd, 1, [], 0), (.istore_n 2, 1, [], 0), (.iinc 3 1, 3, [], 0), (.goto (-15), 3, [4], 0)]
theorem a_X4_passYears_14 : ck mX4_passYears b_X4_passYears_14 14 = true := by decide +kernel
def b_X4_passYears_22 : List Ent := [(.iload_n 2, 1, [], 0), (.ireturn, 1, [0], 0)]
theorem a_X4_passYears_22 : ck mX4_passYears b_X4_passYears_22 22 = true := by decide +kernel
theorem o_X4_stemOf : MOK mX4_stemOf 1 := MOK.of 517 59 (by decide +kernel) (by decide +kernel) (by decide +kernel) (by decide +kernel) (by decide +kernel)
def b_X4_stemOf_0 : List Ent := [(.iconst 1, 1, [], 0), (.iload_n 1, 1, [], 0), (.ishl, 1, [], 0), (.istore_n 2, 1, [], 0), (.iload_n 1, 1, [], 0), (.iconst 1, 1, [], 0), (.iadd, 1, [], 0), (.istore_n 3, 1, [], 0)]
theorem a_X4_stemOf_0 : ck mX4_stemOf b_X4_stemOf_0 0 = true := by decide +kernel
def b_X4_stemOf_8 : List Ent := [(.iload_n 3, 1, [], 0), (.aload_n 0, 1, [], 0), (.getfield 42, 3, [4, 7, 0, 112], 0), (.if_icmp .ge 40, 3, [53], 0)]
theorem a_X4_stemOf_8 : ck mX4_stemOf b_X4_stemOf_8 8 = true := by decide +kernel
def b_X4_stemOf_16 : List Ent := [(.aload_n 0, 1, [], 0), (.getfield 26, 3, [4, 2, 3, 101], 0), (.iload_n 3, 1, [], 0), (.iaload, 1, [7], 0), (.ifCond .le 25, 3, [47], 0)]
theorem a_X4_stemOf_16 : ck mX4_stemOf b_X4_stemOf_16 16 = true := by decide +kernel
def b_X4_stemOf_25 : List Ent := [(.iload_n 2, 1, [], 0), (.aload_n 0, 1, [], 0), (.getfield 26, 3, [4, 2, 3, 101], 0), (.iload_n 3, 1, [], 0), (.iaload, 1, [7], 0), (.iconst 1, 1, [], 0), (.isub, 1, [], 0)]
theorem a_X4_stemOf_25 : ck mX4_stemOf b_X4_stemOf_25 25 = true := by decide +kernel
theorem k_X4_stemOf_34 : CS mX4_stemOf 34 mX5_bit := CS.ofN 73 484 475 (by decide +kernel) (by decide +kernel) (by decide +kernel)
def b_X4_stemOf_37 : List Ent := [(.iconst 1, 1, [], 0), (.if_icmp .ne 9, 3, [47], 0)]
theorem a_X4_stemOf_37 : ck mX4_stemOf b_X4_stemOf_37 37 = true := by decide +kernel
def b_X4_stemOf_41 : List Ent := [(.iload_n 2, 1, [], 0), (.iconst 1, 1, [], 0), (.iload_n 3, 1, [], 0), (.ishl, 1, [], 0), (.ior, 1, [], 0), (.istore_n 2, 1, [], 0)]
theorem a_X4_stemOf_41 : ck mX4_stemOf b_X4_stemOf_41 41 = true := by decide +kernel
def b_X4_stemOf_47 : List Ent := [(.iinc 3 1, 3, [], 0), (.goto (-42), 3, [8], 0)]
theorem a_X4_stemOf_47 : ck mX4_stemOf b_X4_stemOf_47 47 = true := by decide +kernel
def b_X4_stemOf_53 : List Ent := [(.iload_n 2, 1, [], 0), (.iconst 1, 1, [], 0), (.iload_n 1, 1, [], 0), (.ishl, 1, [], 0), (.iconst (-1), 1, [], 0), (.ixor, 1, [], 0), (.iand, 1, [], 0), (.ireturn, 1, [0], 0)]
theorem a_X4_stemOf_53 : ck mX4_stemOf b_X4_stemOf_53 53 = true := by decide +kernel
theorem o_X4_survey : MOK mX4_survey 0 := MOK.of 480 59 (by decide +kernel) (by decide +kernel) (by decide +kernel) (by decide +kernel) (by decide +kernel)
def b_X4_survey_0 : List Ent := [(.aload_n 0, 1, [], 0), (.iconst 0, 1, [], 0), (.putfield 54, 3, [4, 11, 0, 121], 0), (.aload_n 0, 1, [], 0), (.getfield 57, 3, [4, 12, 7, 123], 0), (.iconst 0, 1, [], 0)]
theorem a_X4_survey_0 : ck mX4_survey b_X4_survey_0 0 = true := by decide +kernel
theorem k_X4_survey_10 : CS mX4_survey 10 mJ7_fill_53178 := CS.of 81 481 482 (by decide +kernel) (by decide +kernel) (by decide +kernel)
def b_X4_survey_13 : List Ent := [(.aload_n 0, 1, [], 0), (.getfield 60, 3, [4, 13, 8, 124], 0), (.iconst 0, 1, [], 0)]
theorem a_X4_survey_13 : ck mX4_survey b_X4_survey_13 13 = true := by decide +kernel
theorem k_X4_survey_18 : CS mX4_survey 18 mJ7_fill_53178 := CS.of 81 481 482 (by decide +kernel) (by decide +kernel) (by decide +kernel)
def b_X4_survey_21 : List Ent := [(.iconst 0, 1, [], 0), (.istore_n 1, 1, [], 0)]
theorem a_X4_survey_21 : ck mX4_survey b_X4_survey_21 21 = true := by decide +kernel
def b_X4_survey_23 : List Ent := [(.iload_n 1, 1, [], 0), (.aload_n 0, 1, [], 0), (.getfield 42, 3, [4, 7, 0, 112], 0), (.if_icmp .ge 101, 3, [129], 0)]
theorem a_X4_survey_23 : ck mX4_survey b_X4_survey_23 23 = true := by decide +kernel
def b_X4_survey_31 : List Ent := [(.aload_n 0, 1, [], 0), (.getfield 26, 3, [4, 2, 3, 101], 0), (.iload_n 1, 1, [], 0), (.iaload, 1, [7], 0), (.ifCond .eq 22, 3, [59], 0)]
theorem a_X4_survey_31 : ck mX4_survey b_X4_survey_31 31 = true := by decide +kernel
def b_X4_survey_40 : List Ent := [(.aload_n 0, 1, [], 0), (.getfield 54, 3, [4, 11, 0, 121], 0), (.aload_n 0, 1, [], 0), (.getfield 26, 3, [4, 2, 3, 101], 0), (.iload_n 1, 1, [], 0), (.iaload, 1, [7], 0), (.iconst 1, 1, [], 0), (.isub, 1, [], 0)]
theorem a_X4_survey_40 : ck mX4_survey b_X4_survey_40 40 = true := by decide +kernel
theorem k_X4_survey_52 : CS mX4_survey 52 mX5_bit := CS.ofN 73 484 475 (by decide +kernel) (by decide +kernel) (by decide +kernel)
def b_X4_survey_55 : List Ent := [(.iconst 1, 1, [], 0), (.if_icmp .ne 7, 3, [63], 0)]
theorem a_X4_survey_55 : ck mX4_survey b_X4_survey_55 55 = true := by decide +kernel
def b_X4_survey_59 : List Ent := [(.iconst 1, 1, [], 0), (.goto 4, 3, [64], 0)]
theorem a_X4_survey_59 : ck mX4_survey b_X4_survey_59 59 = true := by decide +kernel
def b_X4_survey_63 : List Ent := [(.iconst 0, 1, [], 0)]
theorem a_X4_survey_63 : ck mX4_survey b_X4_survey_63 63 = true := by decide +kernel
def b_X4_survey_64 : List Ent := [(.istore_n 2, 1, [], 0), (.iload_n 2, 1, [], 0), (.ifCond .eq 57, 3, [123], 0)]
theorem a_X4_survey_64 : ck mX4_survey b_X4_survey_64 64 = true := by decide +kernel
def b_X4_survey_69 : List Ent := [(.aload_n 0, 1, [], 0), (.iload_n 1, 1, [], 0)]
theorem a_X4_survey_69 : ck mX4_survey b_X4_survey_69 69 = true := by decide +kernel
theorem k_X4_survey_71 : CV mX4_survey 71 mX4_isCut := CV.of 77 485 486 487 (by decide +kernel) (by decide +kernel) (by decide +kernel) (by decide +kernel)
def b_X4_survey_74 : List Ent := [(.ifCond .ne 49, 3, [123], 0)]
theorem a_X4_survey_74 : ck mX4_survey b_X4_survey_74 74 = true := by decide +kernel
def b_X4_survey_77 : List Ent := [(.aload_n 0, 1, [], 0), (.dup, 1, [], 0), (.getfield 54, 3, [4, 11, 0, 121], 0), (.iconst 1, 1, [], 0), (.iload_n 1, 1, [], 0), (.ishl, 1, [], 0), (.ior, 1, [], 0), (.putfield 54, 3, [4, 11, 0, 121], 0), (.aload_n 0, 1, [], 0), (.getfield 57, 3, [4, 12, 7, 123], 0), (.aload_n 0, 1, [], 0), (.getfield 26, 3, [4, 2, 3, 101], 0), (.iload_n 1, 1, [], 0), (.iaload, 1, [7], 0), (.dup2, 1, [], 0), (.iaload, 1, [7], 0), (.aload_n 0, 1, [], 0), (.iload_n 1, 1, [], 0)]
theorem a_X4_survey_77 : ck mX4_survey b_X4_survey_77 77 = true := by decide +kernel
theorem k_X4_survey_103 : CV mX4_survey 103 mX4_hinders := CV.of 87 489 490 491 (by decide +kernel) (by decide +kernel) (by decide +kernel) (by decide +kernel)
def b_X4_survey_106 : List Ent := [(.iadd, 1, [], 0), (.iastore, 1, [], 0), (.aload_n 0, 1, [], 0), (.getfield 60, 3, [4, 13, 8, 124], 0), (.aload_n 0, 1, [], 0), (.getfield 26, 3, [4, 2, 3, 101], 0), (.iload_n 1, 1, [], 0), (.iaload, 1, [7], 0), (.dup2, 1, [], 0), (.iaload, 1, [7], 0), (.iconst 1, 1, [], 0), (.iadd, 1, [], 0), (.iastore, 1, [], 0)]
theorem a_X4_survey_106 : ck mX4_survey b_X4_survey_106 106 = true := by decide +kernel
def b_X4_survey_123 : List Ent := [(.iinc 1 1, 3, [], 0), (.goto (-103), 3, [23], 0)]
theorem a_X4_survey_123 : ck mX4_survey b_X4_survey_123 123 = true := by decide +kernel
def b_X4_survey_129 : List Ent := [(.aload_n 0, 1, [], 0), (.getfield 54, 3, [4, 11, 0, 121], 0), (.ireturn, 1, [0], 0)]
theorem a_X4_survey_129 : ck mX4_survey b_X4_survey_129 129 = true := by decide +kernel
