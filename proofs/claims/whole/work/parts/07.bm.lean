theorem o_X6_act : MOK mX6_act 3 := MOK.of 1302 64 (by decide +kernel) (by decide +kernel) (by decide +kernel) (by decide +kernel) (by decide +kernel)
def b_X6_act_0 : List Ent := [(.aload_n 0, 1, [], 0), (.iconst 0, 1, [], 0), (.putfield 281, 3, [6, 21, 0, 872], 0), (.iload_n 1, 1, [], 0)]
theorem a_X6_act_0 : ck mX6_act b_X6_act_0 0 = true := by decide +kernel
theorem k_X6_act_6 : CS mX6_act 6 mX6_isShelf := CS.of 268 1283 1284 (by decide +kernel) (by decide +kernel) (by decide +kernel)
def b_X6_act_9 : List Ent := [(.ifCond .eq 24, 3, [33], 0)]
theorem a_X6_act_9 : ck mX6_act b_X6_act_9 9 = true := by decide +kernel
def b_X6_act_12 : List Ent := [(.iload_n 2, 1, [], 0), (.i2l, 1, [], 0), (.lconst 0, 1, [], 0), (.ldc2_w 141, 3, [0, 1008], 3)]
theorem a_X6_act_12 : ck mX6_act b_X6_act_12 12 = true := by decide +kernel
theorem k_X6_act_18 : CS mX6_act 18 mX6_isIn := CS.of 54 935 936 (by decide +kernel) (by decide +kernel) (by decide +kernel)
def b_X6_act_21 : List Ent := [(.ifCond .eq 12, 3, [33], 0)]
theorem a_X6_act_21 : ck mX6_act b_X6_act_21 21 = true := by decide +kernel
def b_X6_act_24 : List Ent := [(.aload_n 0, 1, [], 0), (.iload_n 1, 1, [], 0)]
theorem a_X6_act_24 : ck mX6_act b_X6_act_24 24 = true := by decide +kernel
theorem k_X6_act_26 : CV mX6_act 26 mX6_heldOn := CV.of 275 1292 1294 46 (by decide +kernel) (by decide +kernel) (by decide +kernel) (by decide +kernel)
def b_X6_act_29 : List Ent := [(.iconst 1, 1, [], 0), (.if_icmp .eq 5, 3, [35], 0)]
theorem a_X6_act_29 : ck mX6_act b_X6_act_29 29 = true := by decide +kernel
def b_X6_act_33 : List Ent := [(.iconst 0, 1, [], 0), (.ireturn, 1, [0], 0)]
theorem a_X6_act_33 : ck mX6_act b_X6_act_33 33 = true := by decide +kernel
def b_X6_act_35 : List Ent := [(.aload_n 0, 1, [], 0), (.iconst 0, 1, [], 0), (.putfield 308, 3, [6, 25, 1, 876], 0), (.aload_n 0, 1, [], 0), (.aload_n 0, 1, [], 0), (.aload_n 0, 1, [], 0), (.getfield 40, 3, [6, 18, 11, 869], 0), (.iload_n 1, 1, [], 0), (.iaload, 1, [7], 0), (.iconst 0, 1, [], 0)]
theorem a_X6_act_35 : ck mX6_act b_X6_act_35 35 = true := by decide +kernel
theorem k_X6_act_49 : CV mX6_act 49 mX6_its := CV.of 153 1033 1035 25 (by decide +kernel) (by decide +kernel) (by decide +kernel) (by decide +kernel)
def b_X6_act_52 : List Ent := [(.putfield 293, 3, [6, 22, 0, 873], 0), (.aload_n 0, 1, [], 0), (.aload_n 0, 1, [], 0), (.getfield 40, 3, [6, 18, 11, 869], 0), (.iload_n 1, 1, [], 0), (.iaload, 1, [7], 0), (.putfield 287, 3, [6, 23, 0, 874], 0), (.aload_n 0, 1, [], 0), (.aload_n 0, 1, [], 0), (.aload_n 0, 1, [], 0), (.getfield 40, 3, [6, 18, 11, 869], 0), (.iload_n 1, 1, [], 0), (.iaload, 1, [7], 0), (.iconst 2, 1, [], 0)]
theorem a_X6_act_52 : ck mX6_act b_X6_act_52 52 = true := by decide +kernel
theorem k_X6_act_74 : CV mX6_act 74 mX6_its := CV.of 153 1033 1035 25 (by decide +kernel) (by decide +kernel) (by decide +kernel) (by decide +kernel)
def b_X6_act_77 : List Ent := [(.putfield 302, 3, [6, 24, 0, 875], 0), (.iload_n 2, 1, [], 0), (.ifCond .ne 11, 3, [92], 0)]
theorem a_X6_act_77 : ck mX6_act b_X6_act_77 77 = true := by decide +kernel
def b_X6_act_84 : List Ent := [(.aload_n 0, 1, [], 0), (.iload_n 3, 1, [], 0)]
theorem a_X6_act_84 : ck mX6_act b_X6_act_84 84 = true := by decide +kernel
theorem k_X6_act_86 : CV mX6_act 86 mX6_buds := CV.of 299 1303 1305 47 (by decide +kernel) (by decide +kernel) (by decide +kernel) (by decide +kernel)
def b_X6_act_89 : List Ent := [(.goto 34, 3, [123], 0)]
theorem a_X6_act_89 : ck mX6_act b_X6_act_89 89 = true := by decide +kernel
def b_X6_act_92 : List Ent := [(.iload_n 2, 1, [], 0), (.iconst 1, 1, [], 0), (.if_icmp .ne 11, 3, [105], 0)]
theorem a_X6_act_92 : ck mX6_act b_X6_act_92 92 = true := by decide +kernel
def b_X6_act_97 : List Ent := [(.aload_n 0, 1, [], 0), (.iload_n 3, 1, [], 0)]
theorem a_X6_act_97 : ck mX6_act b_X6_act_97 97 = true := by decide +kernel
theorem k_X6_act_99 : CV mX6_act 99 mX6_leans := CV.of 314 1319 1321 51 (by decide +kernel) (by decide +kernel) (by decide +kernel) (by decide +kernel)
def b_X6_act_102 : List Ent := [(.goto 21, 3, [123], 0)]
theorem a_X6_act_102 : ck mX6_act b_X6_act_102 102 = true := by decide +kernel
def b_X6_act_105 : List Ent := [(.iload_n 2, 1, [], 0), (.iconst 2, 1, [], 0), (.if_icmp .ne 11, 3, [118], 0)]
theorem a_X6_act_105 : ck mX6_act b_X6_act_105 105 = true := by decide +kernel
def b_X6_act_110 : List Ent := [(.aload_n 0, 1, [], 0), (.iload_n 3, 1, [], 0)]
theorem a_X6_act_110 : ck mX6_act b_X6_act_110 110 = true := by decide +kernel
theorem k_X6_act_112 : CV mX6_act 112 mX6_parts := CV.of 320 1327 1329 53 (by decide +kernel) (by decide +kernel) (by decide +kernel) (by decide +kernel)
def b_X6_act_115 : List Ent := [(.goto 8, 3, [123], 0)]
theorem a_X6_act_115 : ck mX6_act b_X6_act_115 115 = true := by decide +kernel
def b_X6_act_118 : List Ent := [(.aload_n 0, 1, [], 0), (.iload_n 3, 1, [], 0)]
theorem a_X6_act_118 : ck mX6_act b_X6_act_118 118 = true := by decide +kernel
theorem k_X6_act_120 : CV mX6_act 120 mX6_falls := CV.of 323 1335 1337 55 (by decide +kernel) (by decide +kernel) (by decide +kernel) (by decide +kernel)
def b_X6_act_123 : List Ent := [(.istore 4, 2, [], 0), (.aload_n 0, 1, [], 0), (.getfield 308, 3, [6, 25, 0, 876], 0), (.ifCond .eq 8, 3, [137], 0)]
theorem a_X6_act_123 : ck mX6_act b_X6_act_123 123 = true := by decide +kernel
def b_X6_act_132 : List Ent := [(.bipush (-15), 2, [], 0), (.goto 5, 3, [139], 0)]
theorem a_X6_act_132 : ck mX6_act b_X6_act_132 132 = true := by decide +kernel
def b_X6_act_137 : List Ent := [(.iload 4, 2, [], 0)]
theorem a_X6_act_137 : ck mX6_act b_X6_act_137 137 = true := by decide +kernel
def b_X6_act_139 : List Ent := [(.ireturn, 1, [0], 0)]
theorem a_X6_act_139 : ck mX6_act b_X6_act_139 139 = true := by decide +kernel
theorem o_X6_again : MOK mX6_again 0 := MOK.of 1358 64 (by decide +kernel) (by decide +kernel) (by decide +kernel) (by decide +kernel) (by decide +kernel)
def b_X6_again_0 : List Ent := [(.aload_n 0, 1, [], 0), (.getfield 326, 3, [6, 4, 0, 855], 0), (.ifCond .ne 6, 3, [10], 0)]
theorem a_X6_again_0 : ck mX6_again b_X6_again_0 0 = true := by decide +kernel
def b_X6_again_7 : List Ent := [(.bipush (-3), 2, [], 0), (.ireturn, 1, [0], 0)]
theorem a_X6_again_7 : ck mX6_again b_X6_again_7 7 = true := by decide +kernel
def b_X6_again_10 : List Ent := [(.iconst 0, 1, [], 0), (.istore_n 1, 1, [], 0)]
theorem a_X6_again_10 : ck mX6_again b_X6_again_10 10 = true := by decide +kernel
def b_X6_again_12 : List Ent := [(.iload_n 1, 1, [], 0), (.bipush 56, 2, [], 0), (.if_icmp .ge 21, 3, [36], 0)]
theorem a_X6_again_12 : ck mX6_again b_X6_again_12 12 = true := by decide +kernel
def b_X6_again_18 : List Ent := [(.aload_n 0, 1, [], 0), (.getfield 7, 3, [6, 0, 1, 851], 0), (.iload_n 1, 1, [], 0), (.aload_n 0, 1, [], 0), (.getfield 13, 3, [6, 1, 2, 852], 0), (.iload_n 1, 1, [], 0), (.iaload, 1, [7], 0), (.iastore, 1, [], 0), (.iinc 1 1, 3, [], 0), (.goto (-21), 3, [12], 0)]
theorem a_X6_again_18 : ck mX6_again b_X6_again_18 18 = true := by decide +kernel
def b_X6_again_36 : List Ent := [(.aload_n 0, 1, [], 0), (.getfield 7, 3, [6, 0, 1, 851], 0), (.iconst 0, 1, [], 0), (.iaload, 1, [7], 0), (.ireturn, 1, [0], 0)]
theorem a_X6_again_36 : ck mX6_again b_X6_again_36 36 = true := by decide +kernel
theorem o_X6_age : MOK mX6_age 2 := MOK.of 1077 64 (by decide +kernel) (by decide +kernel) (by decide +kernel) (by decide +kernel) (by decide +kernel)
def b_X6_age_0 : List Ent := [(.aload_n 0, 1, [], 0), (.iload_n 1, 1, [], 0)]
theorem a_X6_age_0 : ck mX6_age b_X6_age_0 0 = true := by decide +kernel
theorem k_X6_age_2 : CV mX6_age 2 mX6_isOne := CV.of 162 1028 1030 24 (by decide +kernel) (by decide +kernel) (by decide +kernel) (by decide +kernel)
def b_X6_age_5 : List Ent := [(.ifCond .eq 32, 3, [37], 0)]
theorem a_X6_age_5 : ck mX6_age b_X6_age_5 5 = true := by decide +kernel
def b_X6_age_8 : List Ent := [(.iload_n 2, 1, [], 0), (.i2l, 1, [], 0), (.lconst 0, 1, [], 0), (.ldc2_w 143, 3, [0, 1009], 99)]
theorem a_X6_age_8 : ck mX6_age b_X6_age_8 8 = true := by decide +kernel
theorem k_X6_age_14 : CS mX6_age 14 mX6_isIn := CS.of 54 935 936 (by decide +kernel) (by decide +kernel) (by decide +kernel)
def b_X6_age_17 : List Ent := [(.ifCond .eq 20, 3, [37], 0)]
theorem a_X6_age_17 : ck mX6_age b_X6_age_17 17 = true := by decide +kernel
def b_X6_age_20 : List Ent := [(.aload_n 0, 1, [], 0), (.bipush 8, 2, [], 0), (.bipush 6, 2, [], 0), (.iload_n 1, 1, [], 0), (.imul, 1, [], 0), (.iadd, 1, [], 0), (.iconst 3, 1, [], 0), (.iadd, 1, [], 0), (.iload_n 2, 1, [], 0)]
theorem a_X6_age_20 : ck mX6_age b_X6_age_20 20 = true := by decide +kernel
theorem k_X6_age_31 : CV mX6_age 31 mX6_becomes := CV.of 147 1011 1013 23 (by decide +kernel) (by decide +kernel) (by decide +kernel) (by decide +kernel)
def b_X6_age_34 : List Ent := [(.goto 4, 3, [38], 0)]
theorem a_X6_age_34 : ck mX6_age b_X6_age_34 34 = true := by decide +kernel
def b_X6_age_37 : List Ent := [(.iconst (-1), 1, [], 0)]
theorem a_X6_age_37 : ck mX6_age b_X6_age_37 37 = true := by decide +kernel
def b_X6_age_38 : List Ent := [(.ireturn, 1, [0], 0)]
theorem a_X6_age_38 : ck mX6_age b_X6_age_38 38 = true := by decide +kernel
theorem o_X6_alterRow : MOK mX6_alterRow 3 := MOK.of 1254 64 (by decide +kernel) (by decide +kernel) (by decide +kernel) (by decide +kernel) (by decide +kernel)
def b_X6_alterRow_0 : List Ent := [(.aload_n 0, 1, [], 0), (.iload_n 1, 1, [], 0), (.iload_n 2, 1, [], 0)]
theorem a_X6_alterRow_0 : ck mX6_alterRow b_X6_alterRow_0 0 = true := by decide +kernel
theorem k_X6_alterRow_3 : CV mX6_alterRow 3 mX6_isRow := CV.of 262 1247 1249 44 (by decide +kernel) (by decide +kernel) (by decide +kernel) (by decide +kernel)
def b_X6_alterRow_6 : List Ent := [(.ifCond .ne 6, 3, [12], 0)]
theorem a_X6_alterRow_6 : ck mX6_alterRow b_X6_alterRow_6 6 = true := by decide +kernel
def b_X6_alterRow_9 : List Ent := [(.bipush (-9), 2, [], 0), (.ireturn, 1, [0], 0)]
theorem a_X6_alterRow_9 : ck mX6_alterRow b_X6_alterRow_9 9 = true := by decide +kernel
def b_X6_alterRow_12 : List Ent := [(.aload_n 0, 1, [], 0), (.getfield 25, 3, [6, 12, 6, 863], 0), (.iconst 3, 1, [], 0), (.iload_n 1, 1, [], 0), (.imul, 1, [], 0), (.iload_n 2, 1, [], 0), (.iadd, 1, [], 0), (.iaload, 1, [7], 0), (.istore 4, 2, [], 0), (.aload_n 0, 1, [], 0), (.getfield 25, 3, [6, 12, 6, 863], 0), (.iconst 3, 1, [], 0), (.iload_n 1, 1, [], 0), (.imul, 1, [], 0), (.iload_n 2, 1, [], 0), (.iadd, 1, [], 0), (.iload_n 3, 1, [], 0), (.iastore, 1, [], 0), (.iload 4, 2, [], 0), (.ireturn, 1, [0], 0)]
theorem a_X6_alterRow_12 : ck mX6_alterRow b_X6_alterRow_12 12 = true := by decide +kernel
theorem o_X6_back : MOK mX6_back 1 := MOK.of 1092 64 (by decide +kernel) (by decide +kernel) (by decide +kernel) (by decide +kernel) (by decide +kernel)
def b_X6_back_0 : List Ent := [(.aload_n 0, 1, [], 0), (.iload_n 1, 1, [], 0)]
theorem a_X6_back_0 : ck mX6_back b_X6_back_0 0 = true := by decide +kernel
theorem k_X6_back_2 : CV mX6_back 2 mX6_isOne := CV.of 162 1028 1030 24 (by decide +kernel) (by decide +kernel) (by decide +kernel) (by decide +kernel)
def b_X6_back_5 : List Ent := [(.ifCond .ne 5, 3, [10], 0)]
theorem a_X6_back_5 : ck mX6_back b_X6_back_5 5 = true := by decide +kernel
def b_X6_back_8 : List Ent := [(.iconst (-1), 1, [], 0), (.ireturn, 1, [0], 0)]
theorem a_X6_back_8 : ck mX6_back b_X6_back_8 8 = true := by decide +kernel
def b_X6_back_10 : List Ent := [(.aload_n 0, 1, [], 0), (.iload_n 1, 1, [], 0)]
theorem a_X6_back_10 : ck mX6_back b_X6_back_10 10 = true := by decide +kernel
theorem k_X6_back_12 : CV mX6_back 12 mX6_mayBack := CV.of 188 1093 1095 32 (by decide +kernel) (by decide +kernel) (by decide +kernel) (by decide +kernel)
def b_X6_back_15 : List Ent := [(.ifCond .ne 6, 3, [21], 0)]
theorem a_X6_back_15 : ck mX6_back b_X6_back_15 15 = true := by decide +kernel
def b_X6_back_18 : List Ent := [(.bipush (-3), 2, [], 0), (.ireturn, 1, [0], 0)]
theorem a_X6_back_18 : ck mX6_back b_X6_back_18 18 = true := by decide +kernel
def b_X6_back_21 : List Ent := [(.aload_n 0, 1, [], 0), (.iload_n 1, 1, [], 0)]
theorem a_X6_back_21 : ck mX6_back b_X6_back_21 21 = true := by decide +kernel
theorem k_X6_back_23 : CV mX6_back 23 mX6_comesBack := CV.of 191 1100 1102 33 (by decide +kernel) (by decide +kernel) (by decide +kernel) (by decide +kernel)
def b_X6_back_26 : List Ent := [(.aload_n 0, 1, [], 0)]
theorem a_X6_back_26 : ck mX6_back b_X6_back_26 26 = true := by decide +kernel
theorem k_X6_back_27 : CV mX6_back 27 mX6_standing := CV.of 172 1054 1056 29 (by decide +kernel) (by decide +kernel) (by decide +kernel) (by decide +kernel)
theorem k_X6_back_30 : CS mX6_back 30 mX6_size := CS.of 181 1086 1087 (by decide +kernel) (by decide +kernel) (by decide +kernel)
def b_X6_back_33 : List Ent := [(.ireturn, 1, [0], 0)]
theorem a_X6_back_33 : ck mX6_back b_X6_back_33 33 = true := by decide +kernel
theorem o_X6_bare : MOK mX6_bare 0 := MOK.of 1169 64 (by decide +kernel) (by decide +kernel) (by decide +kernel) (by decide +kernel) (by decide +kernel)
def b_X6_bare_0 : List Ent := [(.aload_n 0, 1, [], 0), (.getfield 7, 3, [6, 0, 1, 851], 0), (.aload_n 0, 1, [], 0), (.getfield 16, 3, [6, 2, 3, 853], 0)]
theorem a_X6_bare_0 : ck mX6_bare b_X6_bare_0 0 = true := by decide +kernel
theorem k_X6_bare_8 : CS mX6_bare 8 mX6_copyRow := CS.of 131 943 944 (by decide +kernel) (by decide +kernel) (by decide +kernel)
def b_X6_bare_11 : List Ent := [(.iconst 0, 1, [], 0), (.istore_n 1, 1, [], 0)]
theorem a_X6_bare_11 : ck mX6_bare b_X6_bare_11 11 = true := by decide +kernel
def b_X6_bare_13 : List Ent := [(.iload_n 1, 1, [], 0), (.bipush 60, 2, [], 0), (.if_icmp .gt 21, 3, [37], 0)]
theorem a_X6_bare_13 : ck mX6_bare b_X6_bare_13 13 = true := by decide +kernel
def b_X6_bare_19 : List Ent := [(.aload_n 0, 1, [], 0)]
theorem a_X6_bare_19 : ck mX6_bare b_X6_bare_19 19 = true := by decide +kernel
theorem k_X6_bare_20 : CV mX6_bare 20 mX6_isBare := CV.of 227 1170 1172 41 (by decide +kernel) (by decide +kernel) (by decide +kernel) (by decide +kernel)
def b_X6_bare_23 : List Ent := [(.ifCond .ne 14, 3, [37], 0)]
theorem a_X6_bare_23 : ck mX6_bare b_X6_bare_23 23 = true := by decide +kernel
def b_X6_bare_26 : List Ent := [(.aload_n 0, 1, [], 0)]
theorem a_X6_bare_26 : ck mX6_bare b_X6_bare_26 26 = true := by decide +kernel
theorem k_X6_bare_27 : CV mX6_bare 27 mX6_goesOn := CV.of 203 1109 1111 34 (by decide +kernel) (by decide +kernel) (by decide +kernel) (by decide +kernel)
def b_X6_bare_30 : List Ent := [(.istore_n 2, 1, [], 0), (.iinc 1 1, 3, [], 0), (.goto (-21), 3, [13], 0)]
theorem a_X6_bare_30 : ck mX6_bare b_X6_bare_30 30 = true := by decide +kernel
def b_X6_bare_37 : List Ent := [(.aload_n 0, 1, [], 0), (.getfield 16, 3, [6, 2, 3, 853], 0), (.aload_n 0, 1, [], 0), (.getfield 7, 3, [6, 0, 1, 851], 0)]
theorem a_X6_bare_37 : ck mX6_bare b_X6_bare_37 37 = true := by decide +kernel
theorem k_X6_bare_45 : CS mX6_bare 45 mX6_copyRow := CS.of 131 943 944 (by decide +kernel) (by decide +kernel) (by decide +kernel)
def b_X6_bare_48 : List Ent := [(.iload_n 1, 1, [], 0), (.bipush 60, 2, [], 0), (.if_icmp .gt 7, 3, [58], 0)]
theorem a_X6_bare_48 : ck mX6_bare b_X6_bare_48 48 = true := by decide +kernel
def b_X6_bare_54 : List Ent := [(.iload_n 1, 1, [], 0), (.goto 5, 3, [60], 0)]
theorem a_X6_bare_54 : ck mX6_bare b_X6_bare_54 54 = true := by decide +kernel
def b_X6_bare_58 : List Ent := [(.bipush (-3), 2, [], 0)]
theorem a_X6_bare_58 : ck mX6_bare b_X6_bare_58 58 = true := by decide +kernel
def b_X6_bare_60 : List Ent := [(.ireturn, 1, [0], 0)]
theorem a_X6_bare_60 : ck mX6_bare b_X6_bare_60 60 = true := by decide +kernel
theorem o_X6_bears : MOK mX6_bears 2 := MOK.of 1061 64 (by decide +kernel) (by decide +kernel) (by decide +kernel) (by decide +kernel) (by decide +kernel)
def b_X6_bears_0 : List Ent := [(.aload_n 0, 1, [], 0), (.iload_n 1, 1, [], 0), (.iconst 2, 1, [], 0)]
theorem a_X6_bears_0 : ck mX6_bears b_X6_bears_0 0 = true := by decide +kernel
theorem k_X6_bears_3 : CV mX6_bears 3 mX6_its := CV.of 153 1033 1035 25 (by decide +kernel) (by decide +kernel) (by decide +kernel) (by decide +kernel)
def b_X6_bears_6 : List Ent := [(.istore_n 3, 1, [], 0), (.iconst 0, 1, [], 0), (.istore 4, 2, [], 0), (.iconst 0, 1, [], 0), (.istore 5, 2, [], 0)]
theorem a_X6_bears_6 : ck mX6_bears b_X6_bears_6 6 = true := by decide +kernel
def b_X6_bears_13 : List Ent := [(.iload 5, 2, [], 0), (.aload_n 0, 1, [], 0), (.getfield 7, 3, [6, 0, 1, 851], 0), (.iconst 0, 1, [], 0), (.iaload, 1, [7], 0), (.if_icmp .ge 94, 3, [115], 0)]
theorem a_X6_bears_13 : ck mX6_bears b_X6_bears_13 13 = true := by decide +kernel
def b_X6_bears_24 : List Ent := [(.iload_n 2, 1, [], 0), (.iload 5, 2, [], 0), (.ishr, 1, [], 0), (.iconst 1, 1, [], 0), (.iand, 1, [], 0), (.iconst 1, 1, [], 0), (.if_icmp .ne 7, 3, [38], 0)]
theorem a_X6_bears_24 : ck mX6_bears b_X6_bears_24 24 = true := by decide +kernel
def b_X6_bears_34 : List Ent := [(.iconst 1, 1, [], 0), (.goto 4, 3, [39], 0)]
theorem a_X6_bears_34 : ck mX6_bears b_X6_bears_34 34 = true := by decide +kernel
def b_X6_bears_38 : List Ent := [(.iconst 0, 1, [], 0)]
theorem a_X6_bears_38 : ck mX6_bears b_X6_bears_38 38 = true := by decide +kernel
def b_X6_bears_39 : List Ent := [(.istore 6, 2, [], 0), (.iload_n 3, 1, [], 0), (.iload 6, 2, [], 0), (.ifCond .eq 34, 3, [78], 0)]
theorem a_X6_bears_39 : ck mX6_bears b_X6_bears_39 39 = true := by decide +kernel
def b_X6_bears_47 : List Ent := [(.iload 5, 2, [], 0), (.iload_n 1, 1, [], 0), (.if_icmp .eq 28, 3, [78], 0)]
theorem a_X6_bears_47 : ck mX6_bears b_X6_bears_47 47 = true := by decide +kernel
def b_X6_bears_53 : List Ent := [(.aload_n 0, 1, [], 0), (.iload 5, 2, [], 0), (.iconst 1, 1, [], 0)]
theorem a_X6_bears_53 : ck mX6_bears b_X6_bears_53 53 = true := by decide +kernel
theorem k_X6_bears_57 : CV mX6_bears 57 mX6_its := CV.of 153 1033 1035 25 (by decide +kernel) (by decide +kernel) (by decide +kernel) (by decide +kernel)
def b_X6_bears_60 : List Ent := [(.aload_n 0, 1, [], 0), (.iload_n 1, 1, [], 0), (.iconst 1, 1, [], 0)]
theorem a_X6_bears_60 : ck mX6_bears b_X6_bears_60 60 = true := by decide +kernel
theorem k_X6_bears_63 : CV mX6_bears 63 mX6_its := CV.of 153 1033 1035 25 (by decide +kernel) (by decide +kernel) (by decide +kernel) (by decide +kernel)
def b_X6_bears_66 : List Ent := [(.if_icmp .ne 12, 3, [78], 0)]
theorem a_X6_bears_66 : ck mX6_bears b_X6_bears_66 66 = true := by decide +kernel
def b_X6_bears_69 : List Ent := [(.aload_n 0, 1, [], 0), (.iload 5, 2, [], 0)]
theorem a_X6_bears_69 : ck mX6_bears b_X6_bears_69 69 = true := by decide +kernel
theorem k_X6_bears_72 : CV mX6_bears 72 mX6_hinders := CV.of 159 1050 1052 28 (by decide +kernel) (by decide +kernel) (by decide +kernel) (by decide +kernel)
def b_X6_bears_75 : List Ent := [(.goto 4, 3, [79], 0)]
theorem a_X6_bears_75 : ck mX6_bears b_X6_bears_75 75 = true := by decide +kernel
def b_X6_bears_78 : List Ent := [(.iconst 0, 1, [], 0)]
theorem a_X6_bears_78 : ck mX6_bears b_X6_bears_78 78 = true := by decide +kernel
def b_X6_bears_79 : List Ent := [(.isub, 1, [], 0), (.istore_n 3, 1, [], 0), (.iload 4, 2, [], 0), (.iload 6, 2, [], 0), (.ifCond .eq 20, 3, [105], 0)]
theorem a_X6_bears_79 : ck mX6_bears b_X6_bears_79 79 = true := by decide +kernel
def b_X6_bears_88 : List Ent := [(.aload_n 0, 1, [], 0), (.iload 5, 2, [], 0), (.iconst 1, 1, [], 0)]
theorem a_X6_bears_88 : ck mX6_bears b_X6_bears_88 88 = true := by decide +kernel
theorem k_X6_bears_92 : CV mX6_bears 92 mX6_its := CV.of 153 1033 1035 25 (by decide +kernel) (by decide +kernel) (by decide +kernel) (by decide +kernel)
def b_X6_bears_95 : List Ent := [(.iconst 1, 1, [], 0), (.iload_n 1, 1, [], 0), (.iadd, 1, [], 0), (.if_icmp .ne 7, 3, [105], 0)]
theorem a_X6_bears_95 : ck mX6_bears b_X6_bears_95 95 = true := by decide +kernel
def b_X6_bears_101 : List Ent := [(.iconst 1, 1, [], 0), (.goto 4, 3, [106], 0)]
theorem a_X6_bears_101 : ck mX6_bears b_X6_bears_101 101 = true := by decide +kernel
def b_X6_bears_105 : List Ent := [(.iconst 0, 1, [], 0)]
theorem a_X6_bears_105 : ck mX6_bears b_X6_bears_105 105 = true := by decide +kernel
def b_X6_bears_106 : List Ent := [(.iadd, 1, [], 0), (.istore 4, 2, [], 0), (.iinc 5 1, 3, [], 0), (.goto (-99), 3, [13], 0)]
theorem a_X6_bears_106 : ck mX6_bears b_X6_bears_106 106 = true := by decide +kernel
def b_X6_bears_115 : List Ent := [(.aload_n 0, 1, [], 0), (.iload_n 1, 1, [], 0), (.iconst 0, 1, [], 0)]
theorem a_X6_bears_115 : ck mX6_bears b_X6_bears_115 115 = true := by decide +kernel
theorem k_X6_bears_118 : CV mX6_bears 118 mX6_its := CV.of 153 1033 1035 25 (by decide +kernel) (by decide +kernel) (by decide +kernel) (by decide +kernel)
def b_X6_bears_121 : List Ent := [(.tableswitch 112 1 5 #[35, 44, 49, 72, 87], 35, [233, 156, 165, 170, 193, 208], 0)]
theorem a_X6_bears_121 : ck mX6_bears b_X6_bears_121 121 = true := by decide +kernel
def b_X6_bears_156 : List Ent := [(.iload_n 3, 1, [], 0), (.aload_n 0, 1, [], 0), (.getfield 7, 3, [6, 0, 1, 851], 0), (.iconst 5, 1, [], 0), (.iaload, 1, [7], 0), (.iadd, 1, [], 0), (.ireturn, 1, [0], 0)]
theorem a_X6_bears_156 : ck mX6_bears b_X6_bears_156 156 = true := by decide +kernel
def b_X6_bears_165 : List Ent := [(.iload_n 3, 1, [], 0), (.iload 4, 2, [], 0), (.isub, 1, [], 0), (.ireturn, 1, [0], 0)]
theorem a_X6_bears_165 : ck mX6_bears b_X6_bears_165 165 = true := by decide +kernel
def b_X6_bears_170 : List Ent := [(.aload_n 0, 1, [], 0), (.iload_n 1, 1, [], 0), (.iconst 3, 1, [], 0)]
theorem a_X6_bears_170 : ck mX6_bears b_X6_bears_170 170 = true := by decide +kernel
theorem k_X6_bears_173 : CV mX6_bears 173 mX6_its := CV.of 153 1033 1035 25 (by decide +kernel) (by decide +kernel) (by decide +kernel) (by decide +kernel)
def b_X6_bears_176 : List Ent := [(.iconst 3, 1, [], 0), (.if_icmp .ge 7, 3, [184], 0)]
theorem a_X6_bears_176 : ck mX6_bears b_X6_bears_176 176 = true := by decide +kernel
def b_X6_bears_180 : List Ent := [(.iconst 0, 1, [], 0), (.goto 11, 3, [192], 0)]
theorem a_X6_bears_180 : ck mX6_bears b_X6_bears_180 180 = true := by decide +kernel
def b_X6_bears_184 : List Ent := [(.iload_n 3, 1, [], 0), (.aload_n 0, 1, [], 0), (.getfield 7, 3, [6, 0, 1, 851], 0), (.iconst 5, 1, [], 0), (.iaload, 1, [7], 0), (.iadd, 1, [], 0)]
theorem a_X6_bears_184 : ck mX6_bears b_X6_bears_184 184 = true := by decide +kernel
def b_X6_bears_192 : List Ent := [(.ireturn, 1, [0], 0)]
theorem a_X6_bears_192 : ck mX6_bears b_X6_bears_192 192 = true := by decide +kernel
def b_X6_bears_193 : List Ent := [(.iload_n 3, 1, [], 0), (.iload 4, 2, [], 0), (.isub, 1, [], 0), (.aload_n 0, 1, [], 0), (.iload_n 1, 1, [], 0), (.iconst 3, 1, [], 0)]
theorem a_X6_bears_193 : ck mX6_bears b_X6_bears_193 193 = true := by decide +kernel
theorem k_X6_bears_200 : CV mX6_bears 200 mX6_its := CV.of 153 1033 1035 25 (by decide +kernel) (by decide +kernel) (by decide +kernel) (by decide +kernel)
def b_X6_bears_203 : List Ent := [(.bipush 10, 2, [], 0), (.idiv, 1, [], 0), (.isub, 1, [], 0), (.ireturn, 1, [0], 0)]
theorem a_X6_bears_203 : ck mX6_bears b_X6_bears_203 203 = true := by decide +kernel
def b_X6_bears_208 : List Ent := [(.aload_n 0, 1, [], 0), (.getfield 7, 3, [6, 0, 1, 851], 0), (.iconst 1, 1, [], 0), (.iaload, 1, [7], 0), (.iconst 3, 1, [], 0), (.irem, 1, [], 0), (.ifCond .ne 15, 3, [231], 0)]
theorem a_X6_bears_208 : ck mX6_bears b_X6_bears_208 208 = true := by decide +kernel
def b_X6_bears_219 : List Ent := [(.iload_n 3, 1, [], 0), (.aload_n 0, 1, [], 0), (.getfield 7, 3, [6, 0, 1, 851], 0), (.bipush 6, 2, [], 0), (.iaload, 1, [7], 0), (.iadd, 1, [], 0), (.goto 4, 3, [232], 0)]
theorem a_X6_bears_219 : ck mX6_bears b_X6_bears_219 219 = true := by decide +kernel
def b_X6_bears_231 : List Ent := [(.iload_n 3, 1, [], 0)]
theorem a_X6_bears_231 : ck mX6_bears b_X6_bears_231 231 = true := by decide +kernel
def b_X6_bears_232 : List Ent := [(.ireturn, 1, [0], 0)]
theorem a_X6_bears_232 : ck mX6_bears b_X6_bears_232 232 = true := by decide +kernel
def b_X6_bears_233 : List Ent := [(.iload_n 3, 1, [], 0), (.ireturn, 1, [0], 0)]
theorem a_X6_bears_233 : ck mX6_bears b_X6_bears_233 233 = true := by decide +kernel
theorem o_X6_becomes : MOK mX6_becomes 2 := MOK.of 1014 64 (by decide +kernel) (by decide +kernel) (by decide +kernel) (by decide +kernel) (by decide +kernel)
def b_X6_becomes_0 : List Ent := [(.aload_n 0, 1, [], 0), (.getfield 7, 3, [6, 0, 1, 851], 0), (.iload_n 1, 1, [], 0), (.iaload, 1, [7], 0), (.istore_n 3, 1, [], 0), (.aload_n 0, 1, [], 0), (.getfield 7, 3, [6, 0, 1, 851], 0), (.iload_n 1, 1, [], 0), (.iload_n 2, 1, [], 0), (.iastore, 1, [], 0), (.iload_n 3, 1, [], 0), (.ireturn, 1, [0], 0)]
theorem a_X6_becomes_0 : ck mX6_becomes b_X6_becomes_0 0 = true := by decide +kernel
theorem o_X6_begins : MOK mX6_begins 0 := MOK.of 850 64 (by decide +kernel) (by decide +kernel) (by decide +kernel) (by decide +kernel) (by decide +kernel)
def b_X6_begins_0 : List Ent := [(.aload_n 0, 1, [], 0), (.getfield 7, 3, [6, 0, 1, 851], 0), (.iconst 2, 1, [], 0), (.iaload, 1, [7], 0), (.istore_n 1, 1, [], 0), (.iconst 0, 1, [], 0), (.istore_n 2, 1, [], 0)]
theorem a_X6_begins_0 : ck mX6_begins b_X6_begins_0 0 = true := by decide +kernel
def b_X6_begins_9 : List Ent := [(.iload_n 2, 1, [], 0), (.bipush 56, 2, [], 0), (.if_icmp .ge 16, 3, [28], 0)]
theorem a_X6_begins_9 : ck mX6_begins b_X6_begins_9 9 = true := by decide +kernel
def b_X6_begins_15 : List Ent := [(.aload_n 0, 1, [], 0), (.getfield 7, 3, [6, 0, 1, 851], 0), (.iload_n 2, 1, [], 0), (.iconst 0, 1, [], 0), (.iastore, 1, [], 0), (.iinc 2 1, 3, [], 0), (.goto (-16), 3, [9], 0)]
theorem a_X6_begins_15 : ck mX6_begins b_X6_begins_15 15 = true := by decide +kernel
def b_X6_begins_28 : List Ent := [(.aload_n 0, 1, [], 0), (.getfield 7, 3, [6, 0, 1, 851], 0), (.iconst 2, 1, [], 0), (.iload_n 1, 1, [], 0), (.iastore, 1, [], 0), (.aload_n 0, 1, [], 0), (.getfield 7, 3, [6, 0, 1, 851], 0), (.iconst 4, 1, [], 0), (.iconst 2, 1, [], 0), (.iastore, 1, [], 0), (.aload_n 0, 1, [], 0), (.getfield 7, 3, [6, 0, 1, 851], 0), (.iconst 5, 1, [], 0), (.iconst 1, 1, [], 0), (.iastore, 1, [], 0), (.aload_n 0, 1, [], 0), (.getfield 7, 3, [6, 0, 1, 851], 0), (.bipush 6, 2, [], 0), (.iconst 2, 1, [], 0), (.iastore, 1, [], 0), (.aload_n 0, 1, [], 0), (.getfield 7, 3, [6, 0, 1, 851], 0), (.bipush 7, 2, [], 0), (.bipush 20, 2, [], 0), (.iastore, 1, [], 0), (.return_, 1, [], 0)]
theorem a_X6_begins_28 : ck mX6_begins b_X6_begins_28 28 = true := by decide +kernel
theorem o_X6_branch : MOK mX6_branch 4 := MOK.of 1022 64 (by decide +kernel) (by decide +kernel) (by decide +kernel) (by decide +kernel) (by decide +kernel)
def b_X6_branch_0 : List Ent := [(.iload_n 1, 1, [], 0), (.i2l, 1, [], 0), (.lconst 0, 1, [], 0), (.ldc2_w 151, 3, [0, 1023], 5)]
theorem a_X6_branch_0 : ck mX6_branch b_X6_branch_0 0 = true := by decide +kernel
theorem k_X6_branch_6 : CS mX6_branch 6 mX6_isIn := CS.of 54 935 936 (by decide +kernel) (by decide +kernel) (by decide +kernel)
def b_X6_branch_9 : List Ent := [(.ifCond .eq 44, 3, [53], 0)]
theorem a_X6_branch_9 : ck mX6_branch b_X6_branch_9 9 = true := by decide +kernel
def b_X6_branch_12 : List Ent := [(.iload_n 2, 1, [], 0), (.i2l, 1, [], 0), (.lconst 0, 1, [], 0), (.aload_n 0, 1, [], 0), (.getfield 7, 3, [6, 0, 1, 851], 0), (.iconst 0, 1, [], 0), (.iaload, 1, [7], 0), (.i2l, 1, [], 0)]
theorem a_X6_branch_12 : ck mX6_branch b_X6_branch_12 12 = true := by decide +kernel
theorem k_X6_branch_22 : CS mX6_branch 22 mX6_isIn := CS.of 54 935 936 (by decide +kernel) (by decide +kernel) (by decide +kernel)
def b_X6_branch_25 : List Ent := [(.ifCond .eq 28, 3, [53], 0)]
theorem a_X6_branch_25 : ck mX6_branch b_X6_branch_25 25 = true := by decide +kernel
def b_X6_branch_28 : List Ent := [(.iload_n 3, 1, [], 0), (.i2l, 1, [], 0), (.lconst 0, 1, [], 0), (.ldc2_w 145, 3, [0, 1010], 9)]
theorem a_X6_branch_28 : ck mX6_branch b_X6_branch_28 28 = true := by decide +kernel
theorem k_X6_branch_34 : CS mX6_branch 34 mX6_isIn := CS.of 54 935 936 (by decide +kernel) (by decide +kernel) (by decide +kernel)
def b_X6_branch_37 : List Ent := [(.ifCond .eq 16, 3, [53], 0)]
theorem a_X6_branch_37 : ck mX6_branch b_X6_branch_37 37 = true := by decide +kernel
def b_X6_branch_40 : List Ent := [(.iload 4, 2, [], 0), (.i2l, 1, [], 0), (.lconst 0, 1, [], 0), (.ldc2_w 143, 3, [0, 1009], 99)]
theorem a_X6_branch_40 : ck mX6_branch b_X6_branch_40 40 = true := by decide +kernel
theorem k_X6_branch_47 : CS mX6_branch 47 mX6_isIn := CS.of 54 935 936 (by decide +kernel) (by decide +kernel) (by decide +kernel)
def b_X6_branch_50 : List Ent := [(.ifCond .ne 5, 3, [55], 0)]
theorem a_X6_branch_50 : ck mX6_branch b_X6_branch_50 50 = true := by decide +kernel
def b_X6_branch_53 : List Ent := [(.iconst (-1), 1, [], 0), (.ireturn, 1, [0], 0)]
theorem a_X6_branch_53 : ck mX6_branch b_X6_branch_53 53 = true := by decide +kernel
def b_X6_branch_55 : List Ent := [(.aload_n 0, 1, [], 0), (.getfield 7, 3, [6, 0, 1, 851], 0), (.iconst 0, 1, [], 0), (.iaload, 1, [7], 0), (.bipush 8, 2, [], 0), (.if_icmp .ne 6, 3, [69], 0)]
theorem a_X6_branch_55 : ck mX6_branch b_X6_branch_55 55 = true := by decide +kernel
def b_X6_branch_66 : List Ent := [(.bipush (-2), 2, [], 0), (.ireturn, 1, [0], 0)]
theorem a_X6_branch_66 : ck mX6_branch b_X6_branch_66 66 = true := by decide +kernel
def b_X6_branch_69 : List Ent := [(.bipush 8, 2, [], 0), (.bipush 6, 2, [], 0), (.aload_n 0, 1, [], 0), (.getfield 7, 3, [6, 0, 1, 851], 0), (.iconst 0, 1, [], 0), (.iaload, 1, [7], 0), (.imul, 1, [], 0), (.iadd, 1, [], 0), (.istore 5, 2, [], 0), (.aload_n 0, 1, [], 0), (.getfield 7, 3, [6, 0, 1, 851], 0), (.iload 5, 2, [], 0), (.iload_n 1, 1, [], 0), (.iastore, 1, [], 0), (.aload_n 0, 1, [], 0), (.getfield 7, 3, [6, 0, 1, 851], 0), (.iload 5, 2, [], 0), (.iconst 1, 1, [], 0), (.iadd, 1, [], 0), (.iload_n 2, 1, [], 0), (.iastore, 1, [], 0), (.aload_n 0, 1, [], 0), (.getfield 7, 3, [6, 0, 1, 851], 0), (.iload 5, 2, [], 0), (.iconst 2, 1, [], 0), (.iadd, 1, [], 0), (.iload_n 3, 1, [], 0), (.iastore, 1, [], 0), (.aload_n 0, 1, [], 0), (.getfield 7, 3, [6, 0, 1, 851], 0), (.iload 5, 2, [], 0), (.iconst 3, 1, [], 0), (.iadd, 1, [], 0), (.iload 4, 2, [], 0), (.iastore, 1, [], 0), (.aload_n 0, 1, [], 0), (.getfield 7, 3, [6, 0, 1, 851], 0), (.iload 5, 2, [], 0), (.iconst 4, 1, [], 0), (.iadd, 1, [], 0), (.iconst 0, 1, [], 0), (.iastore, 1, [], 0), (.aload_n 0, 1, [], 0), (.getfield 7, 3, [6, 0, 1, 851], 0), (.iload 5, 2, [], 0), (.iconst 5, 1, [], 0), (.iadd, 1, [], 0), (.iconst 0, 1, [], 0), (.iastore, 1, [], 0), (.aload_n 0, 1, [], 0), (.getfield 7, 3, [6, 0, 1, 851], 0), (.iconst 0, 1, [], 0), (.dup2, 1, [], 0), (.iaload, 1, [7], 0), (.iconst 1, 1, [], 0), (.iadd, 1, [], 0), (.iastore, 1, [], 0), (.aload_n 0, 1, [], 0), (.getfield 7, 3, [6, 0, 1, 851], 0), (.iconst 0, 1, [], 0), (.iaload, 1, [7], 0), (.iconst 1, 1, [], 0), (.isub, 1, [], 0), (.ireturn, 1, [0], 0)]
theorem a_X6_branch_69 : ck mX6_branch b_X6_branch_69 69 = true := by decide +kernel
theorem o_X6_branchHere : MOK mX6_branchHere 1 := MOK.of 991 64 (by decide +kernel) (by decide +kernel) (by decide +kernel) (by decide +kernel) (by decide +kernel)
def b_X6_branchHere_0 : List Ent := [(.bipush 8, 2, [], 0), (.bipush 6, 2, [], 0), (.aload_n 0, 1, [], 0), (.getfield 7, 3, [6, 0, 1, 851], 0), (.iconst 0, 1, [], 0), (.iaload, 1, [7], 0), (.imul, 1, [], 0), (.iadd, 1, [], 0), (.istore_n 2, 1, [], 0), (.aload_n 0, 1, [], 0), (.aload_n 0, 1, [], 0), (.getfield 7, 3, [6, 0, 1, 851], 0), (.iconst 0, 1, [], 0), (.iaload, 1, [7], 0), (.bipush 8, 2, [], 0), (.if_icmp .ge 7, 3, [29], 0)]
theorem a_X6_branchHere_0 : ck mX6_branchHere b_X6_branchHere_0 0 = true := by decide +kernel
def b_X6_branchHere_25 : List Ent := [(.iconst 1, 1, [], 0), (.goto 4, 3, [30], 0)]
theorem a_X6_branchHere_25 : ck mX6_branchHere b_X6_branchHere_25 25 = true := by decide +kernel
def b_X6_branchHere_29 : List Ent := [(.iconst 0, 1, [], 0)]
theorem a_X6_branchHere_29 : ck mX6_branchHere b_X6_branchHere_29 29 = true := by decide +kernel
theorem k_X6_branchHere_30 : CV mX6_branchHere 30 mX6_needs := CV.of 108 992 994 20 (by decide +kernel) (by decide +kernel) (by decide +kernel) (by decide +kernel)
def b_X6_branchHere_33 : List Ent := [(.aload_n 0, 1, [], 0), (.getfield 87, 3, [6, 11, 0, 862], 0), (.ifCond .ne 20, 3, [57], 0)]
theorem a_X6_branchHere_33 : ck mX6_branchHere b_X6_branchHere_33 33 = true := by decide +kernel
def b_X6_branchHere_40 : List Ent := [(.aload_n 0, 1, [], 0), (.getfield 7, 3, [6, 0, 1, 851], 0), (.iload_n 2, 1, [], 0), (.iload_n 1, 1, [], 0), (.iastore, 1, [], 0), (.aload_n 0, 1, [], 0), (.getfield 7, 3, [6, 0, 1, 851], 0), (.iconst 0, 1, [], 0), (.dup2, 1, [], 0), (.iaload, 1, [7], 0), (.iconst 1, 1, [], 0), (.iadd, 1, [], 0), (.iastore, 1, [], 0)]
theorem a_X6_branchHere_40 : ck mX6_branchHere b_X6_branchHere_40 40 = true := by decide +kernel
def b_X6_branchHere_57 : List Ent := [(.aload_n 0, 1, [], 0), (.getfield 87, 3, [6, 11, 0, 862], 0), (.ifCond .ne 94, 3, [155], 0)]
theorem a_X6_branchHere_57 : ck mX6_branchHere b_X6_branchHere_57 57 = true := by decide +kernel
def b_X6_branchHere_64 : List Ent := [(.aload_n 0, 1, [], 0), (.getfield 81, 3, [6, 7, 0, 858], 0), (.iconst 1, 1, [], 0), (.if_icmp .ne 86, 3, [155], 0)]
theorem a_X6_branchHere_64 : ck mX6_branchHere b_X6_branchHere_64 64 = true := by decide +kernel
def b_X6_branchHere_72 : List Ent := [(.aload_n 0, 1, [], 0), (.getfield 64, 3, [6, 9, 0, 860], 0), (.aload_n 0, 1, [], 0), (.getfield 67, 3, [6, 8, 0, 859], 0), (.isub, 1, [], 0), (.iconst 2, 1, [], 0), (.if_icmp .ne 73, 3, [155], 0)]
theorem a_X6_branchHere_72 : ck mX6_branchHere b_X6_branchHere_72 72 = true := by decide +kernel
def b_X6_branchHere_85 : List Ent := [(.aload_n 0, 1, [], 0), (.aload_n 0, 1, [], 0), (.getfield 67, 3, [6, 8, 0, 859], 0)]
theorem a_X6_branchHere_85 : ck mX6_branchHere b_X6_branchHere_85 85 = true := by decide +kernel
theorem k_X6_branchHere_90 : CV mX6_branchHere 90 mX6_byteAt := CV.of 70 950 952 11 (by decide +kernel) (by decide +kernel) (by decide +kernel) (by decide +kernel)
def b_X6_branchHere_93 : List Ent := [(.bipush 111, 2, [], 0), (.if_icmp .ne 60, 3, [155], 0)]
theorem a_X6_branchHere_93 : ck mX6_branchHere b_X6_branchHere_93 93 = true := by decide +kernel
def b_X6_branchHere_98 : List Ent := [(.aload_n 0, 1, [], 0), (.aload_n 0, 1, [], 0), (.getfield 67, 3, [6, 8, 0, 859], 0), (.iconst 1, 1, [], 0), (.iadd, 1, [], 0)]
theorem a_X6_branchHere_98 : ck mX6_branchHere b_X6_branchHere_98 98 = true := by decide +kernel
theorem k_X6_branchHere_105 : CV mX6_branchHere 105 mX6_byteAt := CV.of 70 950 952 11 (by decide +kernel) (by decide +kernel) (by decide +kernel) (by decide +kernel)
def b_X6_branchHere_108 : List Ent := [(.bipush 110, 2, [], 0), (.if_icmp .ne 45, 3, [155], 0)]
theorem a_X6_branchHere_108 : ck mX6_branchHere b_X6_branchHere_108 108 = true := by decide +kernel
def b_X6_branchHere_113 : List Ent := [(.aload_n 0, 1, [], 0)]
theorem a_X6_branchHere_113 : ck mX6_branchHere b_X6_branchHere_113 113 = true := by decide +kernel
theorem k_X6_branchHere_114 : CV mX6_branchHere 114 mX6_nextToken := CV.of 91 946 948 10 (by decide +kernel) (by decide +kernel) (by decide +kernel) (by decide +kernel)
def b_X6_branchHere_117 : List Ent := [(.aload_n 0, 1, [], 0), (.iload_n 2, 1, [], 0), (.iconst 1, 1, [], 0), (.iadd, 1, [], 0), (.aload_n 0, 1, [], 0), (.getfield 7, 3, [6, 0, 1, 851], 0), (.iconst 0, 1, [], 0), (.iaload, 1, [7], 0), (.iconst 2, 1, [], 0), (.isub, 1, [], 0)]
theorem a_X6_branchHere_117 : ck mX6_branchHere b_X6_branchHere_117 117 = true := by decide +kernel
theorem k_X6_branchHere_129 : CV mX6_branchHere 129 mX6_numberTo := CV.of 112 996 998 21 (by decide +kernel) (by decide +kernel) (by decide +kernel) (by decide +kernel)
def b_X6_branchHere_132 : List Ent := [(.aload_n 0, 1, [], 0), (.getfield 7, 3, [6, 0, 1, 851], 0), (.iload_n 2, 1, [], 0), (.iconst 1, 1, [], 0), (.iadd, 1, [], 0), (.dup2, 1, [], 0), (.iaload, 1, [7], 0), (.aload_n 0, 1, [], 0), (.getfield 87, 3, [6, 11, 0, 862], 0), (.ifCond .eq 7, 3, [152], 0)]
theorem a_X6_branchHere_132 : ck mX6_branchHere b_X6_branchHere_132 132 = true := by decide +kernel
def b_X6_branchHere_148 : List Ent := [(.iconst 0, 1, [], 0), (.goto 4, 3, [153], 0)]
theorem a_X6_branchHere_148 : ck mX6_branchHere b_X6_branchHere_148 148 = true := by decide +kernel
def b_X6_branchHere_152 : List Ent := [(.iconst 1, 1, [], 0)]
theorem a_X6_branchHere_152 : ck mX6_branchHere b_X6_branchHere_152 152 = true := by decide +kernel
def b_X6_branchHere_153 : List Ent := [(.iadd, 1, [], 0), (.iastore, 1, [], 0)]
theorem a_X6_branchHere_153 : ck mX6_branchHere b_X6_branchHere_153 153 = true := by decide +kernel
def b_X6_branchHere_155 : List Ent := [(.aload_n 0, 1, [], 0), (.aload_n 0, 1, [], 0), (.bipush 102, 2, [], 0), (.bipush 111, 2, [], 0), (.bipush 114, 2, [], 0), (.bipush 99, 2, [], 0), (.bipush 101, 2, [], 0)]
theorem a_X6_branchHere_155 : ck mX6_branchHere b_X6_branchHere_155 155 = true := by decide +kernel
theorem k_X6_branchHere_167 : CV mX6_branchHere 167 mX6_isFive := CV.of 105 980 982 17 (by decide +kernel) (by decide +kernel) (by decide +kernel) (by decide +kernel)
def b_X6_branchHere_170 : List Ent := [(.iload_n 2, 1, [], 0), (.iconst 2, 1, [], 0), (.iadd, 1, [], 0), (.bipush 9, 2, [], 0)]
theorem a_X6_branchHere_170 : ck mX6_branchHere b_X6_branchHere_170 170 = true := by decide +kernel
theorem k_X6_branchHere_175 : CV mX6_branchHere 175 mX6_perhaps := CV.of 116 1000 1002 22 (by decide +kernel) (by decide +kernel) (by decide +kernel) (by decide +kernel)
def b_X6_branchHere_178 : List Ent := [(.aload_n 0, 1, [], 0), (.aload_n 0, 1, [], 0), (.iconst 3, 1, [], 0), (.bipush 97, 2, [], 0), (.bipush 103, 2, [], 0), (.bipush 101, 2, [], 0), (.bipush 101, 2, [], 0)]
theorem a_X6_branchHere_178 : ck mX6_branchHere b_X6_branchHere_178 178 = true := by decide +kernel
theorem k_X6_branchHere_189 : CV mX6_branchHere 189 mX6_isName := CV.of 94 968 970 14 (by decide +kernel) (by decide +kernel) (by decide +kernel) (by decide +kernel)
def b_X6_branchHere_192 : List Ent := [(.iload_n 2, 1, [], 0), (.iconst 3, 1, [], 0), (.iadd, 1, [], 0), (.bipush 99, 2, [], 0)]
theorem a_X6_branchHere_192 : ck mX6_branchHere b_X6_branchHere_192 192 = true := by decide +kernel
theorem k_X6_branchHere_197 : CV mX6_branchHere 197 mX6_perhaps := CV.of 116 1000 1002 22 (by decide +kernel) (by decide +kernel) (by decide +kernel) (by decide +kernel)
def b_X6_branchHere_200 : List Ent := [(.aload_n 0, 1, [], 0), (.getfield 87, 3, [6, 11, 0, 862], 0), (.ifCond .ne 32, 3, [236], 0)]
theorem a_X6_branchHere_200 : ck mX6_branchHere b_X6_branchHere_200 200 = true := by decide +kernel
def b_X6_branchHere_207 : List Ent := [(.aload_n 0, 1, [], 0), (.iconst 3, 1, [], 0), (.bipush 99, 2, [], 0), (.bipush 117, 2, [], 0), (.bipush 116, 2, [], 0), (.bipush 116, 2, [], 0)]
theorem a_X6_branchHere_207 : ck mX6_branchHere b_X6_branchHere_207 207 = true := by decide +kernel
theorem k_X6_branchHere_217 : CV mX6_branchHere 217 mX6_isName := CV.of 94 968 970 14 (by decide +kernel) (by decide +kernel) (by decide +kernel) (by decide +kernel)
def b_X6_branchHere_220 : List Ent := [(.ifCond .eq 16, 3, [236], 0)]
theorem a_X6_branchHere_220 : ck mX6_branchHere b_X6_branchHere_220 220 = true := by decide +kernel
def b_X6_branchHere_223 : List Ent := [(.aload_n 0, 1, [], 0), (.getfield 7, 3, [6, 0, 1, 851], 0), (.iload_n 2, 1, [], 0), (.iconst 4, 1, [], 0), (.iadd, 1, [], 0), (.iconst 1, 1, [], 0), (.iastore, 1, [], 0), (.aload_n 0, 1, [], 0)]
theorem a_X6_branchHere_223 : ck mX6_branchHere b_X6_branchHere_223 223 = true := by decide +kernel
theorem k_X6_branchHere_233 : CV mX6_branchHere 233 mX6_nextToken := CV.of 91 946 948 10 (by decide +kernel) (by decide +kernel) (by decide +kernel) (by decide +kernel)
def b_X6_branchHere_236 : List Ent := [(.return_, 1, [], 0)]
theorem a_X6_branchHere_236 : ck mX6_branchHere b_X6_branchHere_236 236 = true := by decide +kernel
theorem o_X6_buds : MOK mX6_buds 1 := MOK.of 1306 64 (by decide +kernel) (by decide +kernel) (by decide +kernel) (by decide +kernel) (by decide +kernel)
def b_X6_buds_0 : List Ent := [(.aload_n 0, 1, [], 0), (.getfield 293, 3, [6, 22, 0, 873], 0), (.tableswitch 65 2 4 #[28, 48, 34], 28, [69, 32, 52, 38], 0)]
theorem a_X6_buds_0 : ck mX6_buds b_X6_buds_0 0 = true := by decide +kernel
def b_X6_buds_32 : List Ent := [(.aload_n 0, 1, [], 0), (.iload_n 1, 1, [], 0)]
theorem a_X6_buds_32 : ck mX6_buds b_X6_buds_32 32 = true := by decide +kernel
theorem k_X6_buds_34 : CV mX6_buds 34 mX6_budsOfBough := CV.of 296 1307 1309 48 (by decide +kernel) (by decide +kernel) (by decide +kernel) (by decide +kernel)
def b_X6_buds_37 : List Ent := [(.ireturn, 1, [0], 0)]
theorem a_X6_buds_37 : ck mX6_buds b_X6_buds_37 37 = true := by decide +kernel
def b_X6_buds_38 : List Ent := [(.aload_n 0, 1, [], 0), (.bipush 40, 2, [], 0)]
theorem a_X6_buds_38 : ck mX6_buds b_X6_buds_38 38 = true := by decide +kernel
theorem k_X6_buds_41 : CV mX6_buds 41 mX6_runs := CV.of 284 1311 1313 49 (by decide +kernel) (by decide +kernel) (by decide +kernel) (by decide +kernel)
def b_X6_buds_44 : List Ent := [(.iconst 0, 1, [], 0), (.aload_n 0, 1, [], 0), (.iload_n 1, 1, [], 0)]
theorem a_X6_buds_44 : ck mX6_buds b_X6_buds_44 44 = true := by decide +kernel
theorem k_X6_buds_47 : CV mX6_buds 47 mX6_budsOfBough := CV.of 296 1307 1309 48 (by decide +kernel) (by decide +kernel) (by decide +kernel) (by decide +kernel)
def b_X6_buds_50 : List Ent := [(.isub, 1, [], 0), (.ireturn, 1, [0], 0)]
theorem a_X6_buds_50 : ck mX6_buds b_X6_buds_50 50 = true := by decide +kernel
def b_X6_buds_52 : List Ent := [(.aload_n 0, 1, [], 0), (.bipush 51, 2, [], 0)]
theorem a_X6_buds_52 : ck mX6_buds b_X6_buds_52 52 = true := by decide +kernel
theorem k_X6_buds_55 : CV mX6_buds 55 mX6_runs := CV.of 284 1311 1313 49 (by decide +kernel) (by decide +kernel) (by decide +kernel) (by decide +kernel)
def b_X6_buds_58 : List Ent := [(.aload_n 0, 1, [], 0), (.iload_n 1, 1, [], 0)]
theorem a_X6_buds_58 : ck mX6_buds b_X6_buds_58 58 = true := by decide +kernel
theorem k_X6_buds_60 : CV mX6_buds 60 mX6_budsPlain := CV.of 290 1315 1317 50 (by decide +kernel) (by decide +kernel) (by decide +kernel) (by decide +kernel)
def b_X6_buds_63 : List Ent := [(.aload_n 0, 1, [], 0), (.getfield 287, 3, [6, 23, 0, 874], 0), (.iadd, 1, [], 0), (.ireturn, 1, [0], 0)]
theorem a_X6_buds_63 : ck mX6_buds b_X6_buds_63 63 = true := by decide +kernel
def b_X6_buds_69 : List Ent := [(.aload_n 0, 1, [], 0), (.iload_n 1, 1, [], 0)]
theorem a_X6_buds_69 : ck mX6_buds b_X6_buds_69 69 = true := by decide +kernel
theorem k_X6_buds_71 : CV mX6_buds 71 mX6_budsPlain := CV.of 290 1315 1317 50 (by decide +kernel) (by decide +kernel) (by decide +kernel) (by decide +kernel)
def b_X6_buds_74 : List Ent := [(.ireturn, 1, [0], 0)]
theorem a_X6_buds_74 : ck mX6_buds b_X6_buds_74 74 = true := by decide +kernel
theorem o_X6_budsOfBough : MOK mX6_budsOfBough 1 := MOK.of 1310 64 (by decide +kernel) (by decide +kernel) (by decide +kernel) (by decide +kernel) (by decide +kernel)
def b_X6_budsOfBough_0 : List Ent := [(.aload_n 0, 1, [], 0), (.bipush 30, 2, [], 0)]
theorem a_X6_budsOfBough_0 : ck mX6_budsOfBough b_X6_budsOfBough_0 0 = true := by decide +kernel
theorem k_X6_budsOfBough_3 : CV mX6_budsOfBough 3 mX6_runs := CV.of 284 1311 1313 49 (by decide +kernel) (by decide +kernel) (by decide +kernel) (by decide +kernel)
def b_X6_budsOfBough_6 : List Ent := [(.aload_n 0, 1, [], 0), (.iload_n 1, 1, [], 0)]
theorem a_X6_budsOfBough_6 : ck mX6_budsOfBough b_X6_budsOfBough_6 6 = true := by decide +kernel
theorem k_X6_budsOfBough_8 : CV mX6_budsOfBough 8 mX6_budsPlain := CV.of 290 1315 1317 50 (by decide +kernel) (by decide +kernel) (by decide +kernel) (by decide +kernel)
def b_X6_budsOfBough_11 : List Ent := [(.iconst 1, 1, [], 0), (.isub, 1, [], 0), (.ireturn, 1, [0], 0)]
theorem a_X6_budsOfBough_11 : ck mX6_budsOfBough b_X6_budsOfBough_11 11 = true := by decide +kernel
theorem o_X6_budsPlain : MOK mX6_budsPlain 1 := MOK.of 1318 64 (by decide +kernel) (by decide +kernel) (by decide +kernel) (by decide +kernel) (by decide +kernel)
def b_X6_budsPlain_0 : List Ent := [(.aload_n 0, 1, [], 0), (.bipush 10, 2, [], 0)]
theorem a_X6_budsPlain_0 : ck mX6_budsPlain b_X6_budsPlain_0 0 = true := by decide +kernel
theorem k_X6_budsPlain_3 : CV mX6_budsPlain 3 mX6_runs := CV.of 284 1311 1313 49 (by decide +kernel) (by decide +kernel) (by decide +kernel) (by decide +kernel)
def b_X6_budsPlain_6 : List Ent := [(.iload_n 1, 1, [], 0), (.iconst 3, 1, [], 0), (.imul, 1, [], 0), (.aload_n 0, 1, [], 0), (.getfield 287, 3, [6, 23, 0, 874], 0), (.iadd, 1, [], 0), (.ireturn, 1, [0], 0)]
theorem a_X6_budsPlain_6 : ck mX6_budsPlain b_X6_budsPlain_6 6 = true := by decide +kernel
theorem o_X6_burntOnes : MOK mX6_burntOnes 0 := MOK.of 1157 64 (by decide +kernel) (by decide +kernel) (by decide +kernel) (by decide +kernel) (by decide +kernel)
def b_X6_burntOnes_0 : List Ent := [(.iconst 0, 1, [], 0), (.istore_n 1, 1, [], 0), (.iconst 0, 1, [], 0), (.istore_n 2, 1, [], 0)]
theorem a_X6_burntOnes_0 : ck mX6_burntOnes b_X6_burntOnes_0 0 = true := by decide +kernel
def b_X6_burntOnes_4 : List Ent := [(.iload_n 2, 1, [], 0), (.aload_n 0, 1, [], 0), (.getfield 7, 3, [6, 0, 1, 851], 0), (.iconst 0, 1, [], 0), (.iaload, 1, [7], 0), (.if_icmp .ge 37, 3, [48], 0)]
theorem a_X6_burntOnes_4 : ck mX6_burntOnes b_X6_burntOnes_4 4 = true := by decide +kernel
def b_X6_burntOnes_14 : List Ent := [(.iload_n 1, 1, [], 0), (.aload_n 0, 1, [], 0), (.iload_n 2, 1, [], 0), (.iconst 4, 1, [], 0)]
theorem a_X6_burntOnes_14 : ck mX6_burntOnes b_X6_burntOnes_14 14 = true := by decide +kernel
theorem k_X6_burntOnes_18 : CV mX6_burntOnes 18 mX6_its := CV.of 153 1033 1035 25 (by decide +kernel) (by decide +kernel) (by decide +kernel) (by decide +kernel)
def b_X6_burntOnes_21 : List Ent := [(.aload_n 0, 1, [], 0), (.iload_n 2, 1, [], 0), (.iconst 5, 1, [], 0)]
theorem a_X6_burntOnes_21 : ck mX6_burntOnes b_X6_burntOnes_21 21 = true := by decide +kernel
theorem k_X6_burntOnes_24 : CV mX6_burntOnes 24 mX6_its := CV.of 153 1033 1035 25 (by decide +kernel) (by decide +kernel) (by decide +kernel) (by decide +kernel)
theorem k_X6_burntOnes_27 : CS mX6_burntOnes 27 mX6_isBurnt := CS.of 184 1097 1098 (by decide +kernel) (by decide +kernel) (by decide +kernel)
def b_X6_burntOnes_30 : List Ent := [(.ifCond .eq 9, 3, [39], 0)]
theorem a_X6_burntOnes_30 : ck mX6_burntOnes b_X6_burntOnes_30 30 = true := by decide +kernel
def b_X6_burntOnes_33 : List Ent := [(.iconst 1, 1, [], 0), (.iload_n 2, 1, [], 0), (.ishl, 1, [], 0), (.goto 4, 3, [40], 0)]
theorem a_X6_burntOnes_33 : ck mX6_burntOnes b_X6_burntOnes_33 33 = true := by decide +kernel
def b_X6_burntOnes_39 : List Ent := [(.iconst 0, 1, [], 0)]
theorem a_X6_burntOnes_39 : ck mX6_burntOnes b_X6_burntOnes_39 39 = true := by decide +kernel
def b_X6_burntOnes_40 : List Ent := [(.ior, 1, [], 0), (.istore_n 1, 1, [], 0), (.iinc 2 1, 3, [], 0), (.goto (-41), 3, [4], 0)]
theorem a_X6_burntOnes_40 : ck mX6_burntOnes b_X6_burntOnes_40 40 = true := by decide +kernel
def b_X6_burntOnes_48 : List Ent := [(.iload_n 1, 1, [], 0), (.ireturn, 1, [0], 0)]
theorem a_X6_burntOnes_48 : ck mX6_burntOnes b_X6_burntOnes_48 48 = true := by decide +kernel
theorem o_X6_byteAt : MOK mX6_byteAt 1 := MOK.of 953 64 (by decide +kernel) (by decide +kernel) (by decide +kernel) (by decide +kernel) (by decide +kernel)
def b_X6_byteAt_0 : List Ent := [(.iload_n 1, 1, [], 0), (.aload_n 0, 1, [], 0), (.getfield 58, 3, [6, 6, 0, 857], 0), (.if_icmp .ge 12, 3, [17], 0)]
theorem a_X6_byteAt_0 : ck mX6_byteAt b_X6_byteAt_0 0 = true := by decide +kernel
def b_X6_byteAt_8 : List Ent := [(.aload_n 0, 1, [], 0), (.getfield 22, 3, [6, 5, 5, 856], 0), (.iload_n 1, 1, [], 0), (.iaload, 1, [7], 0), (.goto 4, 3, [18], 0)]
theorem a_X6_byteAt_8 : ck mX6_byteAt b_X6_byteAt_8 8 = true := by decide +kernel
def b_X6_byteAt_17 : List Ent := [(.iconst (-1), 1, [], 0)]
theorem a_X6_byteAt_17 : ck mX6_byteAt b_X6_byteAt_17 17 = true := by decide +kernel
def b_X6_byteAt_18 : List Ent := [(.ireturn, 1, [0], 0)]
theorem a_X6_byteAt_18 : ck mX6_byteAt b_X6_byteAt_18 18 = true := by decide +kernel
theorem o_X6_comesBack : MOK mX6_comesBack 1 := MOK.of 1103 64 (by decide +kernel) (by decide +kernel) (by decide +kernel) (by decide +kernel) (by decide +kernel)
def b_X6_comesBack_0 : List Ent := [(.aload_n 0, 1, [], 0), (.getfield 7, 3, [6, 0, 1, 851], 0), (.bipush 8, 2, [], 0), (.bipush 6, 2, [], 0), (.iload_n 1, 1, [], 0), (.imul, 1, [], 0), (.iadd, 1, [], 0), (.iconst 4, 1, [], 0), (.iadd, 1, [], 0), (.iconst 0, 1, [], 0), (.iastore, 1, [], 0), (.aload_n 0, 1, [], 0), (.getfield 7, 3, [6, 0, 1, 851], 0), (.bipush 8, 2, [], 0), (.bipush 6, 2, [], 0), (.iload_n 1, 1, [], 0), (.imul, 1, [], 0), (.iadd, 1, [], 0), (.iconst 5, 1, [], 0), (.iadd, 1, [], 0), (.iconst 0, 1, [], 0), (.iastore, 1, [], 0), (.return_, 1, [], 0)]
theorem a_X6_comesBack_0 : ck mX6_comesBack b_X6_comesBack_0 0 = true := by decide +kernel
theorem o_X6_copyRow : MOK mX6_copyRow 2 := MOK.of 945 64 (by decide +kernel) (by decide +kernel) (by decide +kernel) (by decide +kernel) (by decide +kernel)
def b_X6_copyRow_0 : List Ent := [(.iconst 0, 1, [], 0), (.istore_n 2, 1, [], 0)]
theorem a_X6_copyRow_0 : ck mX6_copyRow b_X6_copyRow_0 0 = true := by decide +kernel
def b_X6_copyRow_2 : List Ent := [(.iload_n 2, 1, [], 0), (.bipush 56, 2, [], 0), (.if_icmp .ge 15, 3, [20], 0)]
theorem a_X6_copyRow_2 : ck mX6_copyRow b_X6_copyRow_2 2 = true := by decide +kernel
def b_X6_copyRow_8 : List Ent := [(.aload_n 1, 1, [], 0), (.iload_n 2, 1, [], 0), (.aload_n 0, 1, [], 0), (.iload_n 2, 1, [], 0), (.iaload, 1, [7], 0), (.iastore, 1, [], 0), (.iinc 2 1, 3, [], 0), (.goto (-15), 3, [2], 0)]
theorem a_X6_copyRow_8 : ck mX6_copyRow b_X6_copyRow_8 8 = true := by decide +kernel
def b_X6_copyRow_20 : List Ent := [(.return_, 1, [], 0)]
theorem a_X6_copyRow_20 : ck mX6_copyRow b_X6_copyRow_20 20 = true := by decide +kernel
theorem o_X6_cut : MOK mX6_cut 1 := MOK.of 1085 64 (by decide +kernel) (by decide +kernel) (by decide +kernel) (by decide +kernel) (by decide +kernel)
def b_X6_cut_0 : List Ent := [(.aload_n 0, 1, [], 0), (.iload_n 1, 1, [], 0)]
theorem a_X6_cut_0 : ck mX6_cut b_X6_cut_0 0 = true := by decide +kernel
theorem k_X6_cut_2 : CV mX6_cut 2 mX6_isOne := CV.of 162 1028 1030 24 (by decide +kernel) (by decide +kernel) (by decide +kernel) (by decide +kernel)
def b_X6_cut_5 : List Ent := [(.ifCond .ne 5, 3, [10], 0)]
theorem a_X6_cut_5 : ck mX6_cut b_X6_cut_5 5 = true := by decide +kernel
def b_X6_cut_8 : List Ent := [(.iconst (-1), 1, [], 0), (.ireturn, 1, [0], 0)]
theorem a_X6_cut_8 : ck mX6_cut b_X6_cut_8 8 = true := by decide +kernel
def b_X6_cut_10 : List Ent := [(.aload_n 0, 1, [], 0), (.iload_n 1, 1, [], 0), (.iconst 4, 1, [], 0)]
theorem a_X6_cut_10 : ck mX6_cut b_X6_cut_10 10 = true := by decide +kernel
theorem k_X6_cut_13 : CV mX6_cut 13 mX6_its := CV.of 153 1033 1035 25 (by decide +kernel) (by decide +kernel) (by decide +kernel) (by decide +kernel)
def b_X6_cut_16 : List Ent := [(.iconst 1, 1, [], 0), (.if_icmp .ne 6, 3, [23], 0)]
theorem a_X6_cut_16 : ck mX6_cut b_X6_cut_16 16 = true := by decide +kernel
def b_X6_cut_20 : List Ent := [(.bipush (-3), 2, [], 0), (.ireturn, 1, [0], 0)]
theorem a_X6_cut_20 : ck mX6_cut b_X6_cut_20 20 = true := by decide +kernel
def b_X6_cut_23 : List Ent := [(.aload_n 0, 1, [], 0), (.getfield 7, 3, [6, 0, 1, 851], 0), (.bipush 8, 2, [], 0), (.bipush 6, 2, [], 0), (.iload_n 1, 1, [], 0), (.imul, 1, [], 0), (.iadd, 1, [], 0), (.iconst 4, 1, [], 0), (.iadd, 1, [], 0), (.iconst 1, 1, [], 0), (.iastore, 1, [], 0), (.aload_n 0, 1, [], 0)]
theorem a_X6_cut_23 : ck mX6_cut b_X6_cut_23 23 = true := by decide +kernel
theorem k_X6_cut_39 : CV mX6_cut 39 mX6_standing := CV.of 172 1054 1056 29 (by decide +kernel) (by decide +kernel) (by decide +kernel) (by decide +kernel)
theorem k_X6_cut_42 : CS mX6_cut 42 mX6_size := CS.of 181 1086 1087 (by decide +kernel) (by decide +kernel) (by decide +kernel)
def b_X6_cut_45 : List Ent := [(.ireturn, 1, [0], 0)]
theorem a_X6_cut_45 : ck mX6_cut b_X6_cut_45 45 = true := by decide +kernel
theorem o_X6_cutFor : MOK mX6_cutFor 1 := MOK.of 1181 64 (by decide +kernel) (by decide +kernel) (by decide +kernel) (by decide +kernel) (by decide +kernel)
def b_X6_cutFor_0 : List Ent := [(.iload_n 1, 1, [], 0)]
theorem a_X6_cutFor_0 : ck mX6_cutFor b_X6_cutFor_0 0 = true := by decide +kernel
theorem k_X6_cutFor_1 : CS mX6_cutFor 1 mX6_isShort := CS.of 233 1182 1183 (by decide +kernel) (by decide +kernel) (by decide +kernel)
def b_X6_cutFor_4 : List Ent := [(.ifCond .ne 5, 3, [9], 0)]
theorem a_X6_cutFor_4 : ck mX6_cutFor b_X6_cutFor_4 4 = true := by decide +kernel
def b_X6_cutFor_7 : List Ent := [(.iconst (-1), 1, [], 0), (.ireturn, 1, [0], 0)]
theorem a_X6_cutFor_7 : ck mX6_cutFor b_X6_cutFor_7 7 = true := by decide +kernel
def b_X6_cutFor_9 : List Ent := [(.aload_n 0, 1, [], 0), (.iload_n 1, 1, [], 0), (.iconst 0, 1, [], 0)]
theorem a_X6_cutFor_9 : ck mX6_cutFor b_X6_cutFor_9 9 = true := by decide +kernel
theorem k_X6_cutFor_12 : CV mX6_cutFor 12 mX6_harvestBy := CV.of 224 1162 1164 40 (by decide +kernel) (by decide +kernel) (by decide +kernel) (by decide +kernel)
def b_X6_cutFor_15 : List Ent := [(.istore_n 2, 1, [], 0), (.bipush (-3), 2, [], 0), (.istore_n 3, 1, [], 0), (.iconst 0, 1, [], 0), (.istore 4, 2, [], 0)]
theorem a_X6_cutFor_15 : ck mX6_cutFor b_X6_cutFor_15 15 = true := by decide +kernel
def b_X6_cutFor_22 : List Ent := [(.iload 4, 2, [], 0), (.aload_n 0, 1, [], 0), (.getfield 7, 3, [6, 0, 1, 851], 0), (.iconst 0, 1, [], 0), (.iaload, 1, [7], 0), (.if_icmp .ge 59, 3, [89], 0)]
theorem a_X6_cutFor_22 : ck mX6_cutFor b_X6_cutFor_22 22 = true := by decide +kernel
def b_X6_cutFor_33 : List Ent := [(.aload_n 0, 1, [], 0), (.iload 4, 2, [], 0)]
theorem a_X6_cutFor_33 : ck mX6_cutFor b_X6_cutFor_33 33 = true := by decide +kernel
theorem k_X6_cutFor_36 : CV mX6_cutFor 36 mX6_stands := CV.of 156 1041 1043 27 (by decide +kernel) (by decide +kernel) (by decide +kernel) (by decide +kernel)
def b_X6_cutFor_39 : List Ent := [(.ifCond .eq 15, 3, [54], 0)]
theorem a_X6_cutFor_39 : ck mX6_cutFor b_X6_cutFor_39 39 = true := by decide +kernel
def b_X6_cutFor_42 : List Ent := [(.aload_n 0, 1, [], 0), (.iload_n 1, 1, [], 0), (.iconst 1, 1, [], 0), (.iload 4, 2, [], 0), (.ishl, 1, [], 0)]
theorem a_X6_cutFor_42 : ck mX6_cutFor b_X6_cutFor_42 42 = true := by decide +kernel
theorem k_X6_cutFor_48 : CV mX6_cutFor 48 mX6_harvestBy := CV.of 224 1162 1164 40 (by decide +kernel) (by decide +kernel) (by decide +kernel) (by decide +kernel)
def b_X6_cutFor_51 : List Ent := [(.goto 4, 3, [55], 0)]
theorem a_X6_cutFor_51 : ck mX6_cutFor b_X6_cutFor_51 51 = true := by decide +kernel
def b_X6_cutFor_54 : List Ent := [(.iconst (-1), 1, [], 0)]
theorem a_X6_cutFor_54 : ck mX6_cutFor b_X6_cutFor_54 54 = true := by decide +kernel
def b_X6_cutFor_55 : List Ent := [(.istore 5, 2, [], 0), (.iload 5, 2, [], 0), (.iload_n 2, 1, [], 0), (.if_icmp .le 8, 3, [68], 0)]
theorem a_X6_cutFor_55 : ck mX6_cutFor b_X6_cutFor_55 55 = true := by decide +kernel
def b_X6_cutFor_63 : List Ent := [(.iload 4, 2, [], 0), (.goto 4, 3, [69], 0)]
theorem a_X6_cutFor_63 : ck mX6_cutFor b_X6_cutFor_63 63 = true := by decide +kernel
def b_X6_cutFor_68 : List Ent := [(.iload_n 3, 1, [], 0)]
theorem a_X6_cutFor_68 : ck mX6_cutFor b_X6_cutFor_68 68 = true := by decide +kernel
def b_X6_cutFor_69 : List Ent := [(.istore_n 3, 1, [], 0), (.iload 5, 2, [], 0), (.iload_n 2, 1, [], 0), (.if_icmp .le 8, 3, [81], 0)]
theorem a_X6_cutFor_69 : ck mX6_cutFor b_X6_cutFor_69 69 = true := by decide +kernel
def b_X6_cutFor_76 : List Ent := [(.iload 5, 2, [], 0), (.goto 4, 3, [82], 0)]
theorem a_X6_cutFor_76 : ck mX6_cutFor b_X6_cutFor_76 76 = true := by decide +kernel
def b_X6_cutFor_81 : List Ent := [(.iload_n 2, 1, [], 0)]
theorem a_X6_cutFor_81 : ck mX6_cutFor b_X6_cutFor_81 81 = true := by decide +kernel
def b_X6_cutFor_82 : List Ent := [(.istore_n 2, 1, [], 0), (.iinc 4 1, 3, [], 0), (.goto (-64), 3, [22], 0)]
theorem a_X6_cutFor_82 : ck mX6_cutFor b_X6_cutFor_82 82 = true := by decide +kernel
def b_X6_cutFor_89 : List Ent := [(.iload_n 3, 1, [], 0), (.ireturn, 1, [0], 0)]
theorem a_X6_cutFor_89 : ck mX6_cutFor b_X6_cutFor_89 89 = true := by decide +kernel
theorem o_X6_cutOnes : MOK mX6_cutOnes 0 := MOK.of 1149 64 (by decide +kernel) (by decide +kernel) (by decide +kernel) (by decide +kernel) (by decide +kernel)
def b_X6_cutOnes_0 : List Ent := [(.iconst 0, 1, [], 0), (.istore_n 1, 1, [], 0), (.iconst 0, 1, [], 0), (.istore_n 2, 1, [], 0)]
theorem a_X6_cutOnes_0 : ck mX6_cutOnes b_X6_cutOnes_0 0 = true := by decide +kernel
def b_X6_cutOnes_4 : List Ent := [(.iload_n 2, 1, [], 0), (.aload_n 0, 1, [], 0), (.getfield 7, 3, [6, 0, 1, 851], 0), (.iconst 0, 1, [], 0), (.iaload, 1, [7], 0), (.if_icmp .ge 20, 3, [31], 0)]
theorem a_X6_cutOnes_4 : ck mX6_cutOnes b_X6_cutOnes_4 4 = true := by decide +kernel
def b_X6_cutOnes_14 : List Ent := [(.iload_n 1, 1, [], 0), (.aload_n 0, 1, [], 0), (.iload_n 2, 1, [], 0), (.iconst 4, 1, [], 0)]
theorem a_X6_cutOnes_14 : ck mX6_cutOnes b_X6_cutOnes_14 14 = true := by decide +kernel
theorem k_X6_cutOnes_18 : CV mX6_cutOnes 18 mX6_its := CV.of 153 1033 1035 25 (by decide +kernel) (by decide +kernel) (by decide +kernel) (by decide +kernel)
def b_X6_cutOnes_21 : List Ent := [(.iload_n 2, 1, [], 0), (.ishl, 1, [], 0), (.ior, 1, [], 0), (.istore_n 1, 1, [], 0), (.iinc 2 1, 3, [], 0), (.goto (-24), 3, [4], 0)]
theorem a_X6_cutOnes_21 : ck mX6_cutOnes b_X6_cutOnes_21 21 = true := by decide +kernel
def b_X6_cutOnes_31 : List Ent := [(.iload_n 1, 1, [], 0), (.ireturn, 1, [0], 0)]
theorem a_X6_cutOnes_31 : ck mX6_cutOnes b_X6_cutOnes_31 31 = true := by decide +kernel
theorem o_X6_cutsFor : MOK mX6_cutsFor 1 := MOK.of 1189 64 (by decide +kernel) (by decide +kernel) (by decide +kernel) (by decide +kernel) (by decide +kernel)
def b_X6_cutsFor_0 : List Ent := [(.iload_n 1, 1, [], 0), (.i2l, 1, [], 0), (.lconst 1, 1, [], 0), (.ldc2_w 236, 3, [0, 1190], 10)]
theorem a_X6_cutsFor_0 : ck mX6_cutsFor b_X6_cutsFor_0 0 = true := by decide +kernel
theorem k_X6_cutsFor_6 : CS mX6_cutsFor 6 mX6_isIn := CS.of 54 935 936 (by decide +kernel) (by decide +kernel) (by decide +kernel)
def b_X6_cutsFor_9 : List Ent := [(.ifCond .ne 5, 3, [14], 0)]
theorem a_X6_cutsFor_9 : ck mX6_cutsFor b_X6_cutsFor_9 9 = true := by decide +kernel
def b_X6_cutsFor_12 : List Ent := [(.iconst (-1), 1, [], 0), (.ireturn, 1, [0], 0)]
theorem a_X6_cutsFor_12 : ck mX6_cutsFor b_X6_cutsFor_12 12 = true := by decide +kernel
def b_X6_cutsFor_14 : List Ent := [(.aload_n 0, 1, [], 0)]
theorem a_X6_cutsFor_14 : ck mX6_cutsFor b_X6_cutsFor_14 14 = true := by decide +kernel
theorem k_X6_cutsFor_15 : CV mX6_cutsFor 15 mX6_standing := CV.of 172 1054 1056 29 (by decide +kernel) (by decide +kernel) (by decide +kernel) (by decide +kernel)
def b_X6_cutsFor_18 : List Ent := [(.istore_n 2, 1, [], 0), (.iconst 0, 1, [], 0), (.istore_n 3, 1, [], 0), (.iconst (-1), 1, [], 0), (.istore 4, 2, [], 0), (.iconst 0, 1, [], 0), (.istore 5, 2, [], 0)]
theorem a_X6_cutsFor_18 : ck mX6_cutsFor b_X6_cutsFor_18 18 = true := by decide +kernel
def b_X6_cutsFor_27 : List Ent := [(.iload 5, 2, [], 0), (.iconst 1, 1, [], 0), (.aload_n 0, 1, [], 0), (.getfield 7, 3, [6, 0, 1, 851], 0), (.iconst 0, 1, [], 0), (.iaload, 1, [7], 0), (.ishl, 1, [], 0), (.if_icmp .ge 86, 3, [123], 0)]
theorem a_X6_cutsFor_27 : ck mX6_cutsFor b_X6_cutsFor_27 27 = true := by decide +kernel
def b_X6_cutsFor_40 : List Ent := [(.iload 5, 2, [], 0), (.iload_n 2, 1, [], 0), (.iconst (-1), 1, [], 0), (.ixor, 1, [], 0), (.iand, 1, [], 0), (.ifCond .ne 71, 3, [117], 0)]
theorem a_X6_cutsFor_40 : ck mX6_cutsFor b_X6_cutsFor_40 40 = true := by decide +kernel
def b_X6_cutsFor_49 : List Ent := [(.aload_n 0, 1, [], 0), (.iload_n 1, 1, [], 0), (.iload 5, 2, [], 0)]
theorem a_X6_cutsFor_49 : ck mX6_cutsFor b_X6_cutsFor_49 49 = true := by decide +kernel
theorem k_X6_cutsFor_53 : CV mX6_cutsFor 53 mX6_harvestBy := CV.of 224 1162 1164 40 (by decide +kernel) (by decide +kernel) (by decide +kernel) (by decide +kernel)
def b_X6_cutsFor_56 : List Ent := [(.istore 6, 2, [], 0), (.iload 6, 2, [], 0), (.iload 4, 2, [], 0), (.if_icmp .gt 22, 3, [84], 0)]
theorem a_X6_cutsFor_56 : ck mX6_cutsFor b_X6_cutsFor_56 56 = true := by decide +kernel
def b_X6_cutsFor_65 : List Ent := [(.iload 6, 2, [], 0), (.iload 4, 2, [], 0), (.if_icmp .ne 19, 3, [88], 0)]
theorem a_X6_cutsFor_65 : ck mX6_cutsFor b_X6_cutsFor_65 65 = true := by decide +kernel
def b_X6_cutsFor_72 : List Ent := [(.iload 5, 2, [], 0)]
theorem a_X6_cutsFor_72 : ck mX6_cutsFor b_X6_cutsFor_72 72 = true := by decide +kernel
theorem k_X6_cutsFor_74 : CS mX6_cutsFor 74 mX6_size := CS.of 181 1086 1087 (by decide +kernel) (by decide +kernel) (by decide +kernel)
def b_X6_cutsFor_77 : List Ent := [(.iload_n 3, 1, [], 0)]
theorem a_X6_cutsFor_77 : ck mX6_cutsFor b_X6_cutsFor_77 77 = true := by decide +kernel
theorem k_X6_cutsFor_78 : CS mX6_cutsFor 78 mX6_size := CS.of 181 1086 1087 (by decide +kernel) (by decide +kernel) (by decide +kernel)
def b_X6_cutsFor_81 : List Ent := [(.if_icmp .ge 7, 3, [88], 0)]
theorem a_X6_cutsFor_81 : ck mX6_cutsFor b_X6_cutsFor_81 81 = true := by decide +kernel
def b_X6_cutsFor_84 : List Ent := [(.iconst 1, 1, [], 0), (.goto 4, 3, [89], 0)]
theorem a_X6_cutsFor_84 : ck mX6_cutsFor b_X6_cutsFor_84 84 = true := by decide +kernel
def b_X6_cutsFor_88 : List Ent := [(.iconst 0, 1, [], 0)]
theorem a_X6_cutsFor_88 : ck mX6_cutsFor b_X6_cutsFor_88 88 = true := by decide +kernel
def b_X6_cutsFor_89 : List Ent := [(.istore 7, 2, [], 0), (.iload 7, 2, [], 0), (.ifCond .eq 8, 3, [101], 0)]
theorem a_X6_cutsFor_89 : ck mX6_cutsFor b_X6_cutsFor_89 89 = true := by decide +kernel
def b_X6_cutsFor_96 : List Ent := [(.iload 5, 2, [], 0), (.goto 4, 3, [102], 0)]
theorem a_X6_cutsFor_96 : ck mX6_cutsFor b_X6_cutsFor_96 96 = true := by decide +kernel
def b_X6_cutsFor_101 : List Ent := [(.iload_n 3, 1, [], 0)]
theorem a_X6_cutsFor_101 : ck mX6_cutsFor b_X6_cutsFor_101 101 = true := by decide +kernel
def b_X6_cutsFor_102 : List Ent := [(.istore_n 3, 1, [], 0), (.iload 7, 2, [], 0), (.ifCond .eq 8, 3, [113], 0)]
theorem a_X6_cutsFor_102 : ck mX6_cutsFor b_X6_cutsFor_102 102 = true := by decide +kernel
def b_X6_cutsFor_108 : List Ent := [(.iload 6, 2, [], 0), (.goto 5, 3, [115], 0)]
theorem a_X6_cutsFor_108 : ck mX6_cutsFor b_X6_cutsFor_108 108 = true := by decide +kernel
def b_X6_cutsFor_113 : List Ent := [(.iload 4, 2, [], 0)]
theorem a_X6_cutsFor_113 : ck mX6_cutsFor b_X6_cutsFor_113 113 = true := by decide +kernel
def b_X6_cutsFor_115 : List Ent := [(.istore 4, 2, [], 0)]
theorem a_X6_cutsFor_115 : ck mX6_cutsFor b_X6_cutsFor_115 115 = true := by decide +kernel
def b_X6_cutsFor_117 : List Ent := [(.iinc 5 1, 3, [], 0), (.goto (-93), 3, [27], 0)]
theorem a_X6_cutsFor_117 : ck mX6_cutsFor b_X6_cutsFor_117 117 = true := by decide +kernel
def b_X6_cutsFor_123 : List Ent := [(.iload_n 3, 1, [], 0), (.ireturn, 1, [0], 0)]
theorem a_X6_cutsFor_123 : ck mX6_cutsFor b_X6_cutsFor_123 123 = true := by decide +kernel
theorem o_X6_deep : MOK mX6_deep 1 := MOK.of 1040 64 (by decide +kernel) (by decide +kernel) (by decide +kernel) (by decide +kernel) (by decide +kernel)
def b_X6_deep_0 : List Ent := [(.iconst 0, 1, [], 0), (.istore_n 2, 1, [], 0), (.aload_n 0, 1, [], 0), (.iload_n 1, 1, [], 0), (.iconst 1, 1, [], 0)]
theorem a_X6_deep_0 : ck mX6_deep b_X6_deep_0 0 = true := by decide +kernel
theorem k_X6_deep_5 : CV mX6_deep 5 mX6_its := CV.of 153 1033 1035 25 (by decide +kernel) (by decide +kernel) (by decide +kernel) (by decide +kernel)
def b_X6_deep_8 : List Ent := [(.iconst 1, 1, [], 0), (.isub, 1, [], 0), (.istore_n 3, 1, [], 0)]
theorem a_X6_deep_8 : ck mX6_deep b_X6_deep_8 8 = true := by decide +kernel
def b_X6_deep_11 : List Ent := [(.iload_n 3, 1, [], 0), (.ifCond .lt 18, 3, [30], 0)]
theorem a_X6_deep_11 : ck mX6_deep b_X6_deep_11 11 = true := by decide +kernel
def b_X6_deep_15 : List Ent := [(.iinc 2 1, 3, [], 0), (.aload_n 0, 1, [], 0), (.iload_n 3, 1, [], 0), (.iconst 1, 1, [], 0)]
theorem a_X6_deep_15 : ck mX6_deep b_X6_deep_15 15 = true := by decide +kernel
theorem k_X6_deep_21 : CV mX6_deep 21 mX6_its := CV.of 153 1033 1035 25 (by decide +kernel) (by decide +kernel) (by decide +kernel) (by decide +kernel)
def b_X6_deep_24 : List Ent := [(.iconst 1, 1, [], 0), (.isub, 1, [], 0), (.istore_n 3, 1, [], 0), (.goto (-16), 3, [11], 0)]
theorem a_X6_deep_24 : ck mX6_deep b_X6_deep_24 24 = true := by decide +kernel
def b_X6_deep_30 : List Ent := [(.iload_n 2, 1, [], 0), (.ireturn, 1, [0], 0)]
theorem a_X6_deep_30 : ck mX6_deep b_X6_deep_30 30 = true := by decide +kernel
theorem o_X6_does : MOK mX6_does 2 := MOK.of 1048 64 (by decide +kernel) (by decide +kernel) (by decide +kernel) (by decide +kernel) (by decide +kernel)
def b_X6_does_0 : List Ent := [(.aload_n 0, 1, [], 0), (.iload_n 1, 1, [], 0)]
theorem a_X6_does_0 : ck mX6_does b_X6_does_0 0 = true := by decide +kernel
theorem k_X6_does_2 : CV mX6_does 2 mX6_isOne := CV.of 162 1028 1030 24 (by decide +kernel) (by decide +kernel) (by decide +kernel) (by decide +kernel)
def b_X6_does_5 : List Ent := [(.ifCond .eq 15, 3, [20], 0)]
theorem a_X6_does_5 : ck mX6_does b_X6_does_5 5 = true := by decide +kernel
def b_X6_does_8 : List Ent := [(.iload_n 2, 1, [], 0), (.i2l, 1, [], 0), (.lconst 0, 1, [], 0), (.ldc2_w 170, 3, [0, 1049], 2)]
theorem a_X6_does_8 : ck mX6_does b_X6_does_8 8 = true := by decide +kernel
theorem k_X6_does_14 : CS mX6_does 14 mX6_isIn := CS.of 54 935 936 (by decide +kernel) (by decide +kernel) (by decide +kernel)
def b_X6_does_17 : List Ent := [(.ifCond .ne 5, 3, [22], 0)]
theorem a_X6_does_17 : ck mX6_does b_X6_does_17 17 = true := by decide +kernel
def b_X6_does_20 : List Ent := [(.iconst (-1), 1, [], 0), (.ireturn, 1, [0], 0)]
theorem a_X6_does_20 : ck mX6_does b_X6_does_20 20 = true := by decide +kernel
def b_X6_does_22 : List Ent := [(.sipush 1000, 3, [], 0), (.iload_n 2, 1, [], 0), (.ifCond .ne 11, 3, [37], 0)]
theorem a_X6_does_22 : ck mX6_does b_X6_does_22 22 = true := by decide +kernel
def b_X6_does_29 : List Ent := [(.aload_n 0, 1, [], 0), (.iload_n 1, 1, [], 0)]
theorem a_X6_does_29 : ck mX6_does b_X6_does_29 29 = true := by decide +kernel
theorem k_X6_does_31 : CV mX6_does 31 mX6_hinders := CV.of 159 1050 1052 28 (by decide +kernel) (by decide +kernel) (by decide +kernel) (by decide +kernel)
def b_X6_does_34 : List Ent := [(.goto 25, 3, [59], 0)]
theorem a_X6_does_34 : ck mX6_does b_X6_does_34 34 = true := by decide +kernel
def b_X6_does_37 : List Ent := [(.iload_n 2, 1, [], 0), (.iconst 1, 1, [], 0), (.if_icmp .ne 15, 3, [54], 0)]
theorem a_X6_does_37 : ck mX6_does b_X6_does_37 37 = true := by decide +kernel
def b_X6_does_42 : List Ent := [(.aload_n 0, 1, [], 0), (.iload_n 1, 1, [], 0), (.aload_n 0, 1, [], 0)]
theorem a_X6_does_42 : ck mX6_does b_X6_does_42 42 = true := by decide +kernel
theorem k_X6_does_45 : CV mX6_does 45 mX6_standing := CV.of 172 1054 1056 29 (by decide +kernel) (by decide +kernel) (by decide +kernel) (by decide +kernel)
theorem k_X6_does_48 : CV mX6_does 48 mX6_bears := CV.of 175 1058 1060 30 (by decide +kernel) (by decide +kernel) (by decide +kernel) (by decide +kernel)
def b_X6_does_51 : List Ent := [(.goto 8, 3, [59], 0)]
theorem a_X6_does_51 : ck mX6_does b_X6_does_51 51 = true := by decide +kernel
def b_X6_does_54 : List Ent := [(.aload_n 0, 1, [], 0), (.iload_n 1, 1, [], 0)]
theorem a_X6_does_54 : ck mX6_does b_X6_does_54 54 = true := by decide +kernel
theorem k_X6_does_56 : CV mX6_does 56 mX6_gains := CV.of 178 1062 1064 31 (by decide +kernel) (by decide +kernel) (by decide +kernel) (by decide +kernel)
def b_X6_does_59 : List Ent := [(.iadd, 1, [], 0), (.ireturn, 1, [0], 0)]
theorem a_X6_does_59 : ck mX6_does b_X6_does_59 59 = true := by decide +kernel
theorem o_X6_drawn : MOK mX6_drawn 0 := MOK.of 1135 64 (by decide +kernel) (by decide +kernel) (by decide +kernel) (by decide +kernel) (by decide +kernel)
def b_X6_drawn_0 : List Ent := [(.aload_n 0, 1, [], 0), (.getfield 7, 3, [6, 0, 1, 851], 0), (.iconst 2, 1, [], 0), (.aload_n 0, 1, [], 0), (.getfield 7, 3, [6, 0, 1, 851], 0), (.iconst 2, 1, [], 0), (.iaload, 1, [7], 0), (.ldc 206, 2, [0, 1136], 1103515245), (.imul, 1, [], 0), (.sipush 12345, 3, [], 0), (.iadd, 1, [], 0), (.iastore, 1, [], 0), (.aload_n 0, 1, [], 0), (.getfield 7, 3, [6, 0, 1, 851], 0), (.iconst 2, 1, [], 0), (.iaload, 1, [7], 0), (.bipush 16, 2, [], 0), (.iushr, 1, [], 0), (.ireturn, 1, [0], 0)]
theorem a_X6_drawn_0 : ck mX6_drawn b_X6_drawn_0 0 = true := by decide +kernel
theorem o_X6_falls : MOK mX6_falls 1 := MOK.of 1338 64 (by decide +kernel) (by decide +kernel) (by decide +kernel) (by decide +kernel) (by decide +kernel)
def b_X6_falls_0 : List Ent := [(.aload_n 0, 1, [], 0), (.getfield 293, 3, [6, 22, 0, 873], 0), (.iconst 2, 1, [], 0), (.if_icmp .eq 11, 3, [16], 0)]
theorem a_X6_falls_0 : ck mX6_falls b_X6_falls_0 0 = true := by decide +kernel
def b_X6_falls_8 : List Ent := [(.aload_n 0, 1, [], 0), (.getfield 293, 3, [6, 22, 0, 873], 0), (.iconst 4, 1, [], 0), (.if_icmp .ne 26, 3, [39], 0)]
theorem a_X6_falls_8 : ck mX6_falls b_X6_falls_8 8 = true := by decide +kernel
def b_X6_falls_16 : List Ent := [(.aload_n 0, 1, [], 0), (.bipush 31, 2, [], 0)]
theorem a_X6_falls_16 : ck mX6_falls b_X6_falls_16 16 = true := by decide +kernel
theorem k_X6_falls_19 : CV mX6_falls 19 mX6_runs := CV.of 284 1311 1313 49 (by decide +kernel) (by decide +kernel) (by decide +kernel) (by decide +kernel)
def b_X6_falls_22 : List Ent := [(.aload_n 0, 1, [], 0), (.iload_n 1, 1, [], 0)]
theorem a_X6_falls_22 : ck mX6_falls b_X6_falls_22 22 = true := by decide +kernel
theorem k_X6_falls_24 : CV mX6_falls 24 mX6_fallsPlain := CV.of 317 1339 1341 56 (by decide +kernel) (by decide +kernel) (by decide +kernel) (by decide +kernel)
def b_X6_falls_27 : List Ent := [(.istore_n 2, 1, [], 0), (.iload_n 2, 1, [], 0), (.aload_n 0, 1, [], 0), (.aload_n 0, 1, [], 0), (.getfield 287, 3, [6, 23, 0, 874], 0)]
theorem a_X6_falls_27 : ck mX6_falls b_X6_falls_27 27 = true := by decide +kernel
theorem k_X6_falls_34 : CV mX6_falls 34 mX6_parts := CV.of 320 1327 1329 53 (by decide +kernel) (by decide +kernel) (by decide +kernel) (by decide +kernel)
def b_X6_falls_37 : List Ent := [(.iadd, 1, [], 0), (.ireturn, 1, [0], 0)]
theorem a_X6_falls_37 : ck mX6_falls b_X6_falls_37 37 = true := by decide +kernel
def b_X6_falls_39 : List Ent := [(.aload_n 0, 1, [], 0), (.getfield 293, 3, [6, 22, 0, 873], 0), (.iconst 5, 1, [], 0), (.if_icmp .ne 18, 3, [62], 0)]
theorem a_X6_falls_39 : ck mX6_falls b_X6_falls_39 39 = true := by decide +kernel
def b_X6_falls_47 : List Ent := [(.aload_n 0, 1, [], 0), (.bipush 60, 2, [], 0)]
theorem a_X6_falls_47 : ck mX6_falls b_X6_falls_47 47 = true := by decide +kernel
theorem k_X6_falls_50 : CV mX6_falls 50 mX6_runs := CV.of 284 1311 1313 49 (by decide +kernel) (by decide +kernel) (by decide +kernel) (by decide +kernel)
def b_X6_falls_53 : List Ent := [(.bipush 70, 2, [], 0), (.aload_n 0, 1, [], 0), (.iload_n 1, 1, [], 0)]
theorem a_X6_falls_53 : ck mX6_falls b_X6_falls_53 53 = true := by decide +kernel
theorem k_X6_falls_57 : CV mX6_falls 57 mX6_fallsPlain := CV.of 317 1339 1341 56 (by decide +kernel) (by decide +kernel) (by decide +kernel) (by decide +kernel)
def b_X6_falls_60 : List Ent := [(.isub, 1, [], 0), (.ireturn, 1, [0], 0)]
theorem a_X6_falls_60 : ck mX6_falls b_X6_falls_60 60 = true := by decide +kernel
def b_X6_falls_62 : List Ent := [(.aload_n 0, 1, [], 0), (.iload_n 1, 1, [], 0)]
theorem a_X6_falls_62 : ck mX6_falls b_X6_falls_62 62 = true := by decide +kernel
theorem k_X6_falls_64 : CV mX6_falls 64 mX6_fallsPlain := CV.of 317 1339 1341 56 (by decide +kernel) (by decide +kernel) (by decide +kernel) (by decide +kernel)
def b_X6_falls_67 : List Ent := [(.ireturn, 1, [0], 0)]
theorem a_X6_falls_67 : ck mX6_falls b_X6_falls_67 67 = true := by decide +kernel
theorem o_X6_fallsPlain : MOK mX6_fallsPlain 1 := MOK.of 1342 64 (by decide +kernel) (by decide +kernel) (by decide +kernel) (by decide +kernel) (by decide +kernel)
def b_X6_fallsPlain_0 : List Ent := [(.aload_n 0, 1, [], 0), (.bipush 13, 2, [], 0)]
theorem a_X6_fallsPlain_0 : ck mX6_fallsPlain b_X6_fallsPlain_0 0 = true := by decide +kernel
theorem k_X6_fallsPlain_3 : CV mX6_fallsPlain 3 mX6_runs := CV.of 284 1311 1313 49 (by decide +kernel) (by decide +kernel) (by decide +kernel) (by decide +kernel)
def b_X6_fallsPlain_6 : List Ent := [(.aload_n 0, 1, [], 0), (.iload_n 1, 1, [], 0)]
theorem a_X6_fallsPlain_6 : ck mX6_fallsPlain b_X6_fallsPlain_6 6 = true := by decide +kernel
theorem k_X6_fallsPlain_8 : CV mX6_fallsPlain 8 mX6_leans := CV.of 314 1319 1321 51 (by decide +kernel) (by decide +kernel) (by decide +kernel) (by decide +kernel)
def b_X6_fallsPlain_11 : List Ent := [(.bipush 17, 2, [], 0), (.ixor, 1, [], 0), (.ireturn, 1, [0], 0)]
theorem a_X6_fallsPlain_11 : ck mX6_fallsPlain b_X6_fallsPlain_11 11 = true := by decide +kernel
theorem o_X6_feed : MOK mX6_feed 2 := MOK.of 933 64 (by decide +kernel) (by decide +kernel) (by decide +kernel) (by decide +kernel) (by decide +kernel)
def b_X6_feed_0 : List Ent := [(.iload_n 3, 1, [], 0), (.i2l, 1, [], 0), (.lconst 1, 1, [], 0), (.ldc2_w 52, 3, [0, 934], 8)]
theorem a_X6_feed_0 : ck mX6_feed b_X6_feed_0 0 = true := by decide +kernel
theorem k_X6_feed_6 : CS mX6_feed 6 mX6_isIn := CS.of 54 935 936 (by decide +kernel) (by decide +kernel) (by decide +kernel)
def b_X6_feed_9 : List Ent := [(.ifCond .ne 5, 3, [14], 0)]
theorem a_X6_feed_9 : ck mX6_feed b_X6_feed_9 9 = true := by decide +kernel
def b_X6_feed_12 : List Ent := [(.iconst (-1), 1, [], 0), (.ireturn, 1, [0], 0)]
theorem a_X6_feed_12 : ck mX6_feed b_X6_feed_12 12 = true := by decide +kernel
def b_X6_feed_14 : List Ent := [(.aload_n 0, 1, [], 0), (.getfield 58, 3, [6, 6, 0, 857], 0), (.iload_n 3, 1, [], 0), (.iadd, 1, [], 0), (.sipush 200, 3, [], 0), (.if_icmp .le 6, 3, [29], 0)]
theorem a_X6_feed_14 : ck mX6_feed b_X6_feed_14 14 = true := by decide +kernel
def b_X6_feed_26 : List Ent := [(.bipush (-2), 2, [], 0), (.ireturn, 1, [0], 0)]
theorem a_X6_feed_26 : ck mX6_feed b_X6_feed_26 26 = true := by decide +kernel
def b_X6_feed_29 : List Ent := [(.iconst 0, 1, [], 0), (.istore 4, 2, [], 0)]
theorem a_X6_feed_29 : ck mX6_feed b_X6_feed_29 29 = true := by decide +kernel
def b_X6_feed_32 : List Ent := [(.iload 4, 2, [], 0), (.iload_n 3, 1, [], 0), (.if_icmp .ge 40, 3, [75], 0)]
theorem a_X6_feed_32 : ck mX6_feed b_X6_feed_32 32 = true := by decide +kernel
def b_X6_feed_38 : List Ent := [(.aload_n 0, 1, [], 0), (.getfield 22, 3, [6, 5, 5, 856], 0), (.aload_n 0, 1, [], 0), (.getfield 58, 3, [6, 6, 0, 857], 0), (.lload_n 1, 1, [], 0), (.bipush 8, 2, [], 0), (.iload 4, 2, [], 0), (.imul, 1, [], 0), (.lshr, 1, [], 0), (.ldc2_w 62, 3, [0, 938], 255), (.land, 1, [], 0), (.l2i, 1, [], 0), (.iastore, 1, [], 0), (.aload_n 0, 1, [], 0), (.dup, 1, [], 0), (.getfield 58, 3, [6, 6, 0, 857], 0), (.iconst 1, 1, [], 0), (.iadd, 1, [], 0), (.putfield 58, 3, [6, 6, 0, 857], 0), (.iinc 4 1, 3, [], 0), (.goto (-40), 3, [32], 0)]
theorem a_X6_feed_38 : ck mX6_feed b_X6_feed_38 38 = true := by decide +kernel
def b_X6_feed_75 : List Ent := [(.aload_n 0, 1, [], 0), (.getfield 58, 3, [6, 6, 0, 857], 0), (.ireturn, 1, [0], 0)]
theorem a_X6_feed_75 : ck mX6_feed b_X6_feed_75 75 = true := by decide +kernel
theorem o_X6_fits : MOK mX6_fits 3 := MOK.of 1215 64 (by decide +kernel) (by decide +kernel) (by decide +kernel) (by decide +kernel) (by decide +kernel)
def b_X6_fits_0 : List Ent := [(.iload_n 1, 1, [], 0)]
theorem a_X6_fits_0 : ck mX6_fits b_X6_fits_0 0 = true := by decide +kernel
theorem k_X6_fits_1 : CS mX6_fits 1 mX6_isSheet := CS.of 244 1216 1217 (by decide +kernel) (by decide +kernel) (by decide +kernel)
def b_X6_fits_4 : List Ent := [(.ifCond .eq 21, 3, [25], 0)]
theorem a_X6_fits_4 : ck mX6_fits b_X6_fits_4 4 = true := by decide +kernel
def b_X6_fits_7 : List Ent := [(.aload_n 0, 1, [], 0), (.iload_n 2, 1, [], 0)]
theorem a_X6_fits_7 : ck mX6_fits b_X6_fits_7 7 = true := by decide +kernel
theorem k_X6_fits_9 : CV mX6_fits 9 mX6_isOne := CV.of 162 1028 1030 24 (by decide +kernel) (by decide +kernel) (by decide +kernel) (by decide +kernel)
def b_X6_fits_12 : List Ent := [(.ifCond .eq 13, 3, [25], 0)]
theorem a_X6_fits_12 : ck mX6_fits b_X6_fits_12 12 = true := by decide +kernel
def b_X6_fits_15 : List Ent := [(.iload_n 3, 1, [], 0), (.i2l, 1, [], 0), (.lconst 0, 1, [], 0), (.lconst 1, 1, [], 0)]
theorem a_X6_fits_15 : ck mX6_fits b_X6_fits_15 15 = true := by decide +kernel
theorem k_X6_fits_19 : CS mX6_fits 19 mX6_isIn := CS.of 54 935 936 (by decide +kernel) (by decide +kernel) (by decide +kernel)
def b_X6_fits_22 : List Ent := [(.ifCond .ne 5, 3, [27], 0)]
theorem a_X6_fits_22 : ck mX6_fits b_X6_fits_22 22 = true := by decide +kernel
def b_X6_fits_25 : List Ent := [(.iconst (-1), 1, [], 0), (.ireturn, 1, [0], 0)]
theorem a_X6_fits_25 : ck mX6_fits b_X6_fits_25 25 = true := by decide +kernel
def b_X6_fits_27 : List Ent := [(.aload_n 0, 1, [], 0), (.getfield 28, 3, [6, 14, 7, 865], 0), (.iload_n 1, 1, [], 0), (.iaload, 1, [7], 0), (.ifCond .ge 6, 3, [39], 0)]
theorem a_X6_fits_27 : ck mX6_fits b_X6_fits_27 27 = true := by decide +kernel
def b_X6_fits_36 : List Ent := [(.bipush (-11), 2, [], 0), (.ireturn, 1, [0], 0)]
theorem a_X6_fits_36 : ck mX6_fits b_X6_fits_36 36 = true := by decide +kernel
def b_X6_fits_39 : List Ent := [(.bipush 8, 2, [], 0), (.bipush 6, 2, [], 0), (.iload_n 2, 1, [], 0), (.imul, 1, [], 0), (.iadd, 1, [], 0), (.iconst 2, 1, [], 0), (.iadd, 1, [], 0), (.istore 4, 2, [], 0), (.aload_n 0, 1, [], 0), (.getfield 7, 3, [6, 0, 1, 851], 0), (.iload 4, 2, [], 0), (.iaload, 1, [7], 0), (.istore 5, 2, [], 0), (.iconst 0, 1, [], 0), (.istore 6, 2, [], 0), (.bipush (-3), 2, [], 0), (.istore 7, 2, [], 0), (.bipush 9, 2, [], 0), (.istore 8, 2, [], 0)]
theorem a_X6_fits_39 : ck mX6_fits b_X6_fits_39 39 = true := by decide +kernel
def b_X6_fits_70 : List Ent := [(.iload 8, 2, [], 0), (.ifCond .lt 54, 3, [126], 0)]
theorem a_X6_fits_70 : ck mX6_fits b_X6_fits_70 70 = true := by decide +kernel
def b_X6_fits_75 : List Ent := [(.aload_n 0, 1, [], 0), (.getfield 7, 3, [6, 0, 1, 851], 0), (.iload 4, 2, [], 0), (.iload 8, 2, [], 0), (.iastore, 1, [], 0), (.aload_n 0, 1, [], 0), (.iload_n 1, 1, [], 0)]
theorem a_X6_fits_75 : ck mX6_fits b_X6_fits_75 75 = true := by decide +kernel
theorem k_X6_fits_86 : CV mX6_fits 86 mX6_isTold := CV.of 247 1219 1221 43 (by decide +kernel) (by decide +kernel) (by decide +kernel) (by decide +kernel)
def b_X6_fits_89 : List Ent := [(.istore 9, 2, [], 0), (.iload 6, 2, [], 0), (.iload 9, 2, [], 0), (.ifCond .eq 7, 3, [102], 0)]
theorem a_X6_fits_89 : ck mX6_fits b_X6_fits_89 89 = true := by decide +kernel
def b_X6_fits_98 : List Ent := [(.iconst 1, 1, [], 0), (.goto 4, 3, [103], 0)]
theorem a_X6_fits_98 : ck mX6_fits b_X6_fits_98 98 = true := by decide +kernel
def b_X6_fits_102 : List Ent := [(.iconst 0, 1, [], 0)]
theorem a_X6_fits_102 : ck mX6_fits b_X6_fits_102 102 = true := by decide +kernel
def b_X6_fits_103 : List Ent := [(.iadd, 1, [], 0), (.istore 6, 2, [], 0), (.iload 9, 2, [], 0), (.ifCond .eq 8, 3, [116], 0)]
theorem a_X6_fits_103 : ck mX6_fits b_X6_fits_103 103 = true := by decide +kernel
def b_X6_fits_111 : List Ent := [(.iload 8, 2, [], 0), (.goto 5, 3, [118], 0)]
theorem a_X6_fits_111 : ck mX6_fits b_X6_fits_111 111 = true := by decide +kernel
def b_X6_fits_116 : List Ent := [(.iload 7, 2, [], 0)]
theorem a_X6_fits_116 : ck mX6_fits b_X6_fits_116 116 = true := by decide +kernel
def b_X6_fits_118 : List Ent := [(.istore 7, 2, [], 0), (.iinc 8 (-1), 3, [], 0), (.goto (-53), 3, [70], 0)]
theorem a_X6_fits_118 : ck mX6_fits b_X6_fits_118 118 = true := by decide +kernel
def b_X6_fits_126 : List Ent := [(.aload_n 0, 1, [], 0), (.getfield 7, 3, [6, 0, 1, 851], 0), (.iload 4, 2, [], 0), (.iload 5, 2, [], 0), (.iastore, 1, [], 0), (.iload_n 3, 1, [], 0), (.ifCond .ne 8, 3, [144], 0)]
theorem a_X6_fits_126 : ck mX6_fits b_X6_fits_126 126 = true := by decide +kernel
def b_X6_fits_139 : List Ent := [(.iload 6, 2, [], 0), (.goto 5, 3, [146], 0)]
theorem a_X6_fits_139 : ck mX6_fits b_X6_fits_139 139 = true := by decide +kernel
def b_X6_fits_144 : List Ent := [(.iload 7, 2, [], 0)]
theorem a_X6_fits_144 : ck mX6_fits b_X6_fits_144 144 = true := by decide +kernel
def b_X6_fits_146 : List Ent := [(.ireturn, 1, [0], 0)]
theorem a_X6_fits_146 : ck mX6_fits b_X6_fits_146 146 = true := by decide +kernel
theorem o_X6_forceFor : MOK mX6_forceFor 3 := MOK.of 1198 64 (by decide +kernel) (by decide +kernel) (by decide +kernel) (by decide +kernel) (by decide +kernel)
def b_X6_forceFor_0 : List Ent := [(.aload_n 0, 1, [], 0), (.iload_n 1, 1, [], 0)]
theorem a_X6_forceFor_0 : ck mX6_forceFor b_X6_forceFor_0 0 = true := by decide +kernel
theorem k_X6_forceFor_2 : CV mX6_forceFor 2 mX6_isOne := CV.of 162 1028 1030 24 (by decide +kernel) (by decide +kernel) (by decide +kernel) (by decide +kernel)
def b_X6_forceFor_5 : List Ent := [(.ifCond .eq 22, 3, [27], 0)]
theorem a_X6_forceFor_5 : ck mX6_forceFor b_X6_forceFor_5 5 = true := by decide +kernel
def b_X6_forceFor_8 : List Ent := [(.iload_n 2, 1, [], 0)]
theorem a_X6_forceFor_8 : ck mX6_forceFor b_X6_forceFor_8 8 = true := by decide +kernel
theorem k_X6_forceFor_9 : CS mX6_forceFor 9 mX6_isShort := CS.of 233 1182 1183 (by decide +kernel) (by decide +kernel) (by decide +kernel)
def b_X6_forceFor_12 : List Ent := [(.ifCond .eq 15, 3, [27], 0)]
theorem a_X6_forceFor_12 : ck mX6_forceFor b_X6_forceFor_12 12 = true := by decide +kernel
def b_X6_forceFor_15 : List Ent := [(.iload_n 3, 1, [], 0), (.i2l, 1, [], 0), (.lconst 0, 1, [], 0), (.ldc2_w 238, 3, [0, 1199], 9999)]
theorem a_X6_forceFor_15 : ck mX6_forceFor b_X6_forceFor_15 15 = true := by decide +kernel
theorem k_X6_forceFor_21 : CS mX6_forceFor 21 mX6_isIn := CS.of 54 935 936 (by decide +kernel) (by decide +kernel) (by decide +kernel)
def b_X6_forceFor_24 : List Ent := [(.ifCond .ne 5, 3, [29], 0)]
theorem a_X6_forceFor_24 : ck mX6_forceFor b_X6_forceFor_24 24 = true := by decide +kernel
def b_X6_forceFor_27 : List Ent := [(.iconst (-1), 1, [], 0), (.ireturn, 1, [0], 0)]
theorem a_X6_forceFor_27 : ck mX6_forceFor b_X6_forceFor_27 27 = true := by decide +kernel
def b_X6_forceFor_29 : List Ent := [(.bipush 8, 2, [], 0), (.bipush 6, 2, [], 0), (.iload_n 1, 1, [], 0), (.imul, 1, [], 0), (.iadd, 1, [], 0), (.iconst 2, 1, [], 0), (.iadd, 1, [], 0), (.istore 4, 2, [], 0), (.aload_n 0, 1, [], 0), (.getfield 7, 3, [6, 0, 1, 851], 0), (.iload 4, 2, [], 0), (.iaload, 1, [7], 0), (.istore 5, 2, [], 0), (.bipush (-3), 2, [], 0), (.istore 6, 2, [], 0), (.iconst 0, 1, [], 0), (.istore 7, 2, [], 0)]
theorem a_X6_forceFor_29 : ck mX6_forceFor b_X6_forceFor_29 29 = true := by decide +kernel
def b_X6_forceFor_56 : List Ent := [(.iload 7, 2, [], 0), (.bipush 9, 2, [], 0), (.if_icmp .gt 42, 3, [102], 0)]
theorem a_X6_forceFor_56 : ck mX6_forceFor b_X6_forceFor_56 56 = true := by decide +kernel
def b_X6_forceFor_63 : List Ent := [(.iload 6, 2, [], 0), (.ifCond .ge 37, 3, [102], 0)]
theorem a_X6_forceFor_63 : ck mX6_forceFor b_X6_forceFor_63 63 = true := by decide +kernel
def b_X6_forceFor_68 : List Ent := [(.aload_n 0, 1, [], 0), (.getfield 7, 3, [6, 0, 1, 851], 0), (.iload 4, 2, [], 0), (.iload 7, 2, [], 0), (.iastore, 1, [], 0), (.aload_n 0, 1, [], 0), (.iload_n 2, 1, [], 0), (.iconst 0, 1, [], 0)]
theorem a_X6_forceFor_68 : ck mX6_forceFor b_X6_forceFor_68 68 = true := by decide +kernel
theorem k_X6_forceFor_80 : CV mX6_forceFor 80 mX6_harvestBy := CV.of 224 1162 1164 40 (by decide +kernel) (by decide +kernel) (by decide +kernel) (by decide +kernel)
def b_X6_forceFor_83 : List Ent := [(.iload_n 3, 1, [], 0), (.if_icmp .lt 8, 3, [92], 0)]
theorem a_X6_forceFor_83 : ck mX6_forceFor b_X6_forceFor_83 83 = true := by decide +kernel
def b_X6_forceFor_87 : List Ent := [(.iload 7, 2, [], 0), (.goto 5, 3, [94], 0)]
theorem a_X6_forceFor_87 : ck mX6_forceFor b_X6_forceFor_87 87 = true := by decide +kernel
def b_X6_forceFor_92 : List Ent := [(.bipush (-3), 2, [], 0)]
theorem a_X6_forceFor_92 : ck mX6_forceFor b_X6_forceFor_92 92 = true := by decide +kernel
def b_X6_forceFor_94 : List Ent := [(.istore 6, 2, [], 0), (.iinc 7 1, 3, [], 0), (.goto (-43), 3, [56], 0)]
theorem a_X6_forceFor_94 : ck mX6_forceFor b_X6_forceFor_94 94 = true := by decide +kernel
def b_X6_forceFor_102 : List Ent := [(.aload_n 0, 1, [], 0), (.getfield 7, 3, [6, 0, 1, 851], 0), (.iload 4, 2, [], 0), (.iload 5, 2, [], 0), (.iastore, 1, [], 0), (.iload 6, 2, [], 0), (.ireturn, 1, [0], 0)]
theorem a_X6_forceFor_102 : ck mX6_forceFor b_X6_forceFor_102 102 = true := by decide +kernel
theorem o_X6_forceOfAll : MOK mX6_forceOfAll 0 := MOK.of 1153 64 (by decide +kernel) (by decide +kernel) (by decide +kernel) (by decide +kernel) (by decide +kernel)
def b_X6_forceOfAll_0 : List Ent := [(.iconst 0, 1, [], 0), (.istore_n 1, 1, [], 0), (.iconst 0, 1, [], 0), (.istore_n 2, 1, [], 0)]
theorem a_X6_forceOfAll_0 : ck mX6_forceOfAll b_X6_forceOfAll_0 0 = true := by decide +kernel
def b_X6_forceOfAll_4 : List Ent := [(.iload_n 2, 1, [], 0), (.aload_n 0, 1, [], 0), (.getfield 7, 3, [6, 0, 1, 851], 0), (.iconst 0, 1, [], 0), (.iaload, 1, [7], 0), (.if_icmp .ge 18, 3, [29], 0)]
theorem a_X6_forceOfAll_4 : ck mX6_forceOfAll b_X6_forceOfAll_4 4 = true := by decide +kernel
def b_X6_forceOfAll_14 : List Ent := [(.iload_n 1, 1, [], 0), (.aload_n 0, 1, [], 0), (.iload_n 2, 1, [], 0), (.iconst 2, 1, [], 0)]
theorem a_X6_forceOfAll_14 : ck mX6_forceOfAll b_X6_forceOfAll_14 14 = true := by decide +kernel
theorem k_X6_forceOfAll_18 : CV mX6_forceOfAll 18 mX6_its := CV.of 153 1033 1035 25 (by decide +kernel) (by decide +kernel) (by decide +kernel) (by decide +kernel)
def b_X6_forceOfAll_21 : List Ent := [(.iadd, 1, [], 0), (.istore_n 1, 1, [], 0), (.iinc 2 1, 3, [], 0), (.goto (-22), 3, [4], 0)]
theorem a_X6_forceOfAll_21 : ck mX6_forceOfAll b_X6_forceOfAll_21 21 = true := by decide +kernel
def b_X6_forceOfAll_29 : List Ent := [(.iload_n 1, 1, [], 0), (.ireturn, 1, [0], 0)]
theorem a_X6_forceOfAll_29 : ck mX6_forceOfAll b_X6_forceOfAll_29 29 = true := by decide +kernel
theorem o_X6_freeFor : MOK mX6_freeFor 2 := MOK.of 1207 64 (by decide +kernel) (by decide +kernel) (by decide +kernel) (by decide +kernel) (by decide +kernel)
def b_X6_freeFor_0 : List Ent := [(.aload_n 0, 1, [], 0), (.iload_n 1, 1, [], 0)]
theorem a_X6_freeFor_0 : ck mX6_freeFor b_X6_freeFor_0 0 = true := by decide +kernel
theorem k_X6_freeFor_2 : CV mX6_freeFor 2 mX6_isOne := CV.of 162 1028 1030 24 (by decide +kernel) (by decide +kernel) (by decide +kernel) (by decide +kernel)
def b_X6_freeFor_5 : List Ent := [(.ifCond .eq 15, 3, [20], 0)]
theorem a_X6_freeFor_5 : ck mX6_freeFor b_X6_freeFor_5 5 = true := by decide +kernel
def b_X6_freeFor_8 : List Ent := [(.iload_n 2, 1, [], 0), (.i2l, 1, [], 0), (.lconst 0, 1, [], 0), (.ldc2_w 143, 3, [0, 1009], 99)]
theorem a_X6_freeFor_8 : ck mX6_freeFor b_X6_freeFor_8 8 = true := by decide +kernel
theorem k_X6_freeFor_14 : CS mX6_freeFor 14 mX6_isIn := CS.of 54 935 936 (by decide +kernel) (by decide +kernel) (by decide +kernel)
def b_X6_freeFor_17 : List Ent := [(.ifCond .ne 5, 3, [22], 0)]
theorem a_X6_freeFor_17 : ck mX6_freeFor b_X6_freeFor_17 17 = true := by decide +kernel
def b_X6_freeFor_20 : List Ent := [(.iconst (-1), 1, [], 0), (.ireturn, 1, [0], 0)]
theorem a_X6_freeFor_20 : ck mX6_freeFor b_X6_freeFor_20 20 = true := by decide +kernel
def b_X6_freeFor_22 : List Ent := [(.aload_n 0, 1, [], 0)]
theorem a_X6_freeFor_22 : ck mX6_freeFor b_X6_freeFor_22 22 = true := by decide +kernel
theorem k_X6_freeFor_23 : CV mX6_freeFor 23 mX6_standing := CV.of 172 1054 1056 29 (by decide +kernel) (by decide +kernel) (by decide +kernel) (by decide +kernel)
def b_X6_freeFor_26 : List Ent := [(.iconst 1, 1, [], 0), (.iload_n 1, 1, [], 0), (.ishl, 1, [], 0), (.iconst (-1), 1, [], 0), (.ixor, 1, [], 0), (.iand, 1, [], 0), (.istore_n 3, 1, [], 0), (.bipush (-3), 2, [], 0), (.istore 4, 2, [], 0), (.iconst 0, 1, [], 0), (.istore 5, 2, [], 0)]
theorem a_X6_freeFor_26 : ck mX6_freeFor b_X6_freeFor_26 26 = true := by decide +kernel
def b_X6_freeFor_40 : List Ent := [(.iload 5, 2, [], 0), (.iconst 1, 1, [], 0), (.aload_n 0, 1, [], 0), (.getfield 7, 3, [6, 0, 1, 851], 0), (.iconst 0, 1, [], 0), (.iaload, 1, [7], 0), (.ishl, 1, [], 0), (.if_icmp .ge 68, 3, [118], 0)]
theorem a_X6_freeFor_40 : ck mX6_freeFor b_X6_freeFor_40 40 = true := by decide +kernel
def b_X6_freeFor_53 : List Ent := [(.iload 4, 2, [], 0), (.ifCond .lt 16, 3, [71], 0)]
theorem a_X6_freeFor_53 : ck mX6_freeFor b_X6_freeFor_53 53 = true := by decide +kernel
def b_X6_freeFor_58 : List Ent := [(.iload 5, 2, [], 0)]
theorem a_X6_freeFor_58 : ck mX6_freeFor b_X6_freeFor_58 58 = true := by decide +kernel
theorem k_X6_freeFor_60 : CS mX6_freeFor 60 mX6_size := CS.of 181 1086 1087 (by decide +kernel) (by decide +kernel) (by decide +kernel)
def b_X6_freeFor_63 : List Ent := [(.iload 4, 2, [], 0)]
theorem a_X6_freeFor_63 : ck mX6_freeFor b_X6_freeFor_63 63 = true := by decide +kernel
theorem k_X6_freeFor_65 : CS mX6_freeFor 65 mX6_size := CS.of 181 1086 1087 (by decide +kernel) (by decide +kernel) (by decide +kernel)
def b_X6_freeFor_68 : List Ent := [(.if_icmp .ge 7, 3, [75], 0)]
theorem a_X6_freeFor_68 : ck mX6_freeFor b_X6_freeFor_68 68 = true := by decide +kernel
def b_X6_freeFor_71 : List Ent := [(.iconst 1, 1, [], 0), (.goto 4, 3, [76], 0)]
theorem a_X6_freeFor_71 : ck mX6_freeFor b_X6_freeFor_71 71 = true := by decide +kernel
def b_X6_freeFor_75 : List Ent := [(.iconst 0, 1, [], 0)]
theorem a_X6_freeFor_75 : ck mX6_freeFor b_X6_freeFor_75 75 = true := by decide +kernel
def b_X6_freeFor_76 : List Ent := [(.istore 6, 2, [], 0), (.iload 6, 2, [], 0), (.ifCond .eq 28, 3, [108], 0)]
theorem a_X6_freeFor_76 : ck mX6_freeFor b_X6_freeFor_76 76 = true := by decide +kernel
def b_X6_freeFor_83 : List Ent := [(.iload 5, 2, [], 0), (.iload_n 3, 1, [], 0), (.iconst (-1), 1, [], 0), (.ixor, 1, [], 0), (.iand, 1, [], 0), (.ifCond .ne 19, 3, [108], 0)]
theorem a_X6_freeFor_83 : ck mX6_freeFor b_X6_freeFor_83 83 = true := by decide +kernel
def b_X6_freeFor_92 : List Ent := [(.aload_n 0, 1, [], 0), (.iload_n 1, 1, [], 0), (.iload_n 2, 1, [], 0), (.iload 5, 2, [], 0)]
theorem a_X6_freeFor_92 : ck mX6_freeFor b_X6_freeFor_92 92 = true := by decide +kernel
theorem k_X6_freeFor_97 : CV mX6_freeFor 97 mX6_isFree := CV.of 240 1208 1210 42 (by decide +kernel) (by decide +kernel) (by decide +kernel) (by decide +kernel)
def b_X6_freeFor_100 : List Ent := [(.ifCond .eq 8, 3, [108], 0)]
theorem a_X6_freeFor_100 : ck mX6_freeFor b_X6_freeFor_100 100 = true := by decide +kernel
def b_X6_freeFor_103 : List Ent := [(.iload 5, 2, [], 0), (.goto 5, 3, [110], 0)]
theorem a_X6_freeFor_103 : ck mX6_freeFor b_X6_freeFor_103 103 = true := by decide +kernel
def b_X6_freeFor_108 : List Ent := [(.iload 4, 2, [], 0)]
theorem a_X6_freeFor_108 : ck mX6_freeFor b_X6_freeFor_108 108 = true := by decide +kernel
def b_X6_freeFor_110 : List Ent := [(.istore 4, 2, [], 0), (.iinc 5 1, 3, [], 0), (.goto (-75), 3, [40], 0)]
theorem a_X6_freeFor_110 : ck mX6_freeFor b_X6_freeFor_110 110 = true := by decide +kernel
def b_X6_freeFor_118 : List Ent := [(.iload 4, 2, [], 0), (.ireturn, 1, [0], 0)]
theorem a_X6_freeFor_118 : ck mX6_freeFor b_X6_freeFor_118 118 = true := by decide +kernel
theorem o_X6_gains : MOK mX6_gains 1 := MOK.of 1065 64 (by decide +kernel) (by decide +kernel) (by decide +kernel) (by decide +kernel) (by decide +kernel)
def b_X6_gains_0 : List Ent := [(.aload_n 0, 1, [], 0), (.iload_n 1, 1, [], 0), (.iconst 3, 1, [], 0)]
theorem a_X6_gains_0 : ck mX6_gains b_X6_gains_0 0 = true := by decide +kernel
theorem k_X6_gains_3 : CV mX6_gains 3 mX6_its := CV.of 153 1033 1035 25 (by decide +kernel) (by decide +kernel) (by decide +kernel) (by decide +kernel)
def b_X6_gains_6 : List Ent := [(.bipush 20, 2, [], 0), (.if_icmp .ge 7, 3, [15], 0)]
theorem a_X6_gains_6 : ck mX6_gains b_X6_gains_6 6 = true := by decide +kernel
def b_X6_gains_11 : List Ent := [(.iconst 1, 1, [], 0), (.goto 4, 3, [16], 0)]
theorem a_X6_gains_11 : ck mX6_gains b_X6_gains_11 11 = true := by decide +kernel
def b_X6_gains_15 : List Ent := [(.iconst (-1), 1, [], 0)]
theorem a_X6_gains_15 : ck mX6_gains b_X6_gains_15 15 = true := by decide +kernel
def b_X6_gains_16 : List Ent := [(.istore_n 2, 1, [], 0), (.aload_n 0, 1, [], 0), (.iload_n 1, 1, [], 0), (.iconst 0, 1, [], 0)]
theorem a_X6_gains_16 : ck mX6_gains b_X6_gains_16 16 = true := by decide +kernel
theorem k_X6_gains_20 : CV mX6_gains 20 mX6_its := CV.of 153 1033 1035 25 (by decide +kernel) (by decide +kernel) (by decide +kernel) (by decide +kernel)
def b_X6_gains_23 : List Ent := [(.tableswitch 45 1 5 #[33, 35, 37, 39, 43], 33, [68, 56, 58, 60, 62, 66], 0)]
theorem a_X6_gains_23 : ck mX6_gains b_X6_gains_23 23 = true := by decide +kernel
def b_X6_gains_56 : List Ent := [(.iconst 2, 1, [], 0), (.ireturn, 1, [0], 0)]
theorem a_X6_gains_56 : ck mX6_gains b_X6_gains_56 56 = true := by decide +kernel
def b_X6_gains_58 : List Ent := [(.iload_n 2, 1, [], 0), (.ireturn, 1, [0], 0)]
theorem a_X6_gains_58 : ck mX6_gains b_X6_gains_58 58 = true := by decide +kernel
def b_X6_gains_60 : List Ent := [(.iconst 3, 1, [], 0), (.ireturn, 1, [0], 0)]
theorem a_X6_gains_60 : ck mX6_gains b_X6_gains_60 60 = true := by decide +kernel
def b_X6_gains_62 : List Ent := [(.iconst 2, 1, [], 0), (.iload_n 2, 1, [], 0), (.imul, 1, [], 0), (.ireturn, 1, [0], 0)]
theorem a_X6_gains_62 : ck mX6_gains b_X6_gains_62 62 = true := by decide +kernel
def b_X6_gains_66 : List Ent := [(.iconst 0, 1, [], 0), (.ireturn, 1, [0], 0)]
theorem a_X6_gains_66 : ck mX6_gains b_X6_gains_66 66 = true := by decide +kernel
def b_X6_gains_68 : List Ent := [(.iconst 1, 1, [], 0), (.ireturn, 1, [0], 0)]
theorem a_X6_gains_68 : ck mX6_gains b_X6_gains_68 68 = true := by decide +kernel
theorem o_X6_goesByDraws : MOK mX6_goesByDraws 0 := MOK.of 1131 64 (by decide +kernel) (by decide +kernel) (by decide +kernel) (by decide +kernel) (by decide +kernel)
def b_X6_goesByDraws_0 : List Ent := [(.aload_n 0, 1, [], 0), (.getfield 7, 3, [6, 0, 1, 851], 0), (.iconst 0, 1, [], 0), (.iaload, 1, [7], 0), (.ifCond .le 63, 3, [69], 0)]
theorem a_X6_goesByDraws_0 : ck mX6_goesByDraws b_X6_goesByDraws_0 0 = true := by decide +kernel
def b_X6_goesByDraws_9 : List Ent := [(.bipush 8, 2, [], 0), (.bipush 6, 2, [], 0), (.aload_n 0, 1, [], 0)]
theorem a_X6_goesByDraws_9 : ck mX6_goesByDraws b_X6_goesByDraws_9 9 = true := by decide +kernel
theorem k_X6_goesByDraws_14 : CV mX6_goesByDraws 14 mX6_drawn := CV.of 207 1132 1134 36 (by decide +kernel) (by decide +kernel) (by decide +kernel) (by decide +kernel)
def b_X6_goesByDraws_17 : List Ent := [(.aload_n 0, 1, [], 0), (.getfield 7, 3, [6, 0, 1, 851], 0), (.iconst 0, 1, [], 0), (.iaload, 1, [7], 0), (.irem, 1, [], 0), (.imul, 1, [], 0), (.iadd, 1, [], 0), (.iconst 2, 1, [], 0), (.iadd, 1, [], 0), (.istore_n 1, 1, [], 0), (.aload_n 0, 1, [], 0), (.getfield 7, 3, [6, 0, 1, 851], 0), (.iload_n 1, 1, [], 0), (.aload_n 0, 1, [], 0)]
theorem a_X6_goesByDraws_17 : ck mX6_goesByDraws b_X6_goesByDraws_17 17 = true := by decide +kernel
theorem k_X6_goesByDraws_35 : CV mX6_goesByDraws 35 mX6_drawn := CV.of 207 1132 1134 36 (by decide +kernel) (by decide +kernel) (by decide +kernel) (by decide +kernel)
def b_X6_goesByDraws_38 : List Ent := [(.bipush 100, 2, [], 0), (.irem, 1, [], 0), (.aload_n 0, 1, [], 0), (.getfield 7, 3, [6, 0, 1, 851], 0), (.bipush 7, 2, [], 0), (.iaload, 1, [7], 0), (.if_icmp .ge 14, 3, [62], 0)]
theorem a_X6_goesByDraws_38 : ck mX6_goesByDraws b_X6_goesByDraws_38 38 = true := by decide +kernel
def b_X6_goesByDraws_51 : List Ent := [(.aload_n 0, 1, [], 0), (.getfield 7, 3, [6, 0, 1, 851], 0), (.iload_n 1, 1, [], 0), (.iaload, 1, [7], 0), (.iconst 2, 1, [], 0), (.idiv, 1, [], 0), (.goto 9, 3, [68], 0)]
theorem a_X6_goesByDraws_51 : ck mX6_goesByDraws b_X6_goesByDraws_51 51 = true := by decide +kernel
def b_X6_goesByDraws_62 : List Ent := [(.aload_n 0, 1, [], 0), (.getfield 7, 3, [6, 0, 1, 851], 0), (.iload_n 1, 1, [], 0), (.iaload, 1, [7], 0)]
theorem a_X6_goesByDraws_62 : ck mX6_goesByDraws b_X6_goesByDraws_62 62 = true := by decide +kernel
def b_X6_goesByDraws_68 : List Ent := [(.iastore, 1, [], 0)]
theorem a_X6_goesByDraws_68 : ck mX6_goesByDraws b_X6_goesByDraws_68 68 = true := by decide +kernel
def b_X6_goesByDraws_69 : List Ent := [(.aload_n 0, 1, [], 0)]
theorem a_X6_goesByDraws_69 : ck mX6_goesByDraws b_X6_goesByDraws_69 69 = true := by decide +kernel
theorem k_X6_goesByDraws_70 : CV mX6_goesByDraws 70 mX6_goesOn := CV.of 203 1109 1111 34 (by decide +kernel) (by decide +kernel) (by decide +kernel) (by decide +kernel)
def b_X6_goesByDraws_73 : List Ent := [(.ireturn, 1, [0], 0)]
theorem a_X6_goesByDraws_73 : ck mX6_goesByDraws b_X6_goesByDraws_73 73 = true := by decide +kernel
theorem o_X6_goesOn : MOK mX6_goesOn 0 := MOK.of 1112 64 (by decide +kernel) (by decide +kernel) (by decide +kernel) (by decide +kernel) (by decide +kernel)
def b_X6_goesOn_0 : List Ent := [(.aload_n 0, 1, [], 0)]
theorem a_X6_goesOn_0 : ck mX6_goesOn b_X6_goesOn_0 0 = true := by decide +kernel
theorem k_X6_goesOn_1 : CV mX6_goesOn 1 mX6_standing := CV.of 172 1054 1056 29 (by decide +kernel) (by decide +kernel) (by decide +kernel) (by decide +kernel)
def b_X6_goesOn_4 : List Ent := [(.istore_n 1, 1, [], 0), (.iconst 0, 1, [], 0), (.istore_n 2, 1, [], 0), (.iconst 0, 1, [], 0), (.istore_n 3, 1, [], 0)]
theorem a_X6_goesOn_4 : ck mX6_goesOn b_X6_goesOn_4 4 = true := by decide +kernel
def b_X6_goesOn_9 : List Ent := [(.iload_n 3, 1, [], 0), (.aload_n 0, 1, [], 0), (.getfield 7, 3, [6, 0, 1, 851], 0), (.iconst 0, 1, [], 0), (.iaload, 1, [7], 0), (.if_icmp .ge 40, 3, [56], 0)]
theorem a_X6_goesOn_9 : ck mX6_goesOn b_X6_goesOn_9 9 = true := by decide +kernel
def b_X6_goesOn_19 : List Ent := [(.aload_n 0, 1, [], 0), (.iload_n 3, 1, [], 0), (.iload_n 1, 1, [], 0)]
theorem a_X6_goesOn_19 : ck mX6_goesOn b_X6_goesOn_19 19 = true := by decide +kernel
theorem k_X6_goesOn_22 : CV mX6_goesOn 22 mX6_bears := CV.of 175 1058 1060 30 (by decide +kernel) (by decide +kernel) (by decide +kernel) (by decide +kernel)
def b_X6_goesOn_25 : List Ent := [(.istore 4, 2, [], 0), (.iload_n 2, 1, [], 0), (.iload_n 1, 1, [], 0), (.iload_n 3, 1, [], 0), (.ishr, 1, [], 0), (.iconst 1, 1, [], 0), (.iand, 1, [], 0), (.iconst 1, 1, [], 0), (.if_icmp .ne 13, 3, [47], 0)]
theorem a_X6_goesOn_25 : ck mX6_goesOn b_X6_goesOn_25 25 = true := by decide +kernel
def b_X6_goesOn_37 : List Ent := [(.iload 4, 2, [], 0), (.ifCond .le 8, 3, [47], 0)]
theorem a_X6_goesOn_37 : ck mX6_goesOn b_X6_goesOn_37 37 = true := by decide +kernel
def b_X6_goesOn_42 : List Ent := [(.iload 4, 2, [], 0), (.goto 4, 3, [48], 0)]
theorem a_X6_goesOn_42 : ck mX6_goesOn b_X6_goesOn_42 42 = true := by decide +kernel
def b_X6_goesOn_47 : List Ent := [(.iconst 0, 1, [], 0)]
theorem a_X6_goesOn_47 : ck mX6_goesOn b_X6_goesOn_47 47 = true := by decide +kernel
def b_X6_goesOn_48 : List Ent := [(.iadd, 1, [], 0), (.istore_n 2, 1, [], 0), (.iinc 3 1, 3, [], 0), (.goto (-44), 3, [9], 0)]
theorem a_X6_goesOn_48 : ck mX6_goesOn b_X6_goesOn_48 48 = true := by decide +kernel
def b_X6_goesOn_56 : List Ent := [(.iconst 0, 1, [], 0), (.istore_n 3, 1, [], 0)]
theorem a_X6_goesOn_56 : ck mX6_goesOn b_X6_goesOn_56 56 = true := by decide +kernel
def b_X6_goesOn_58 : List Ent := [(.iload_n 3, 1, [], 0), (.aload_n 0, 1, [], 0), (.getfield 7, 3, [6, 0, 1, 851], 0), (.iconst 0, 1, [], 0), (.iaload, 1, [7], 0), (.if_icmp .ge 121, 3, [186], 0)]
theorem a_X6_goesOn_58 : ck mX6_goesOn b_X6_goesOn_58 58 = true := by decide +kernel
def b_X6_goesOn_68 : List Ent := [(.bipush 8, 2, [], 0), (.bipush 6, 2, [], 0), (.iload_n 3, 1, [], 0), (.imul, 1, [], 0), (.iadd, 1, [], 0), (.istore 4, 2, [], 0), (.iload_n 1, 1, [], 0), (.iload_n 3, 1, [], 0), (.ishr, 1, [], 0), (.iconst 1, 1, [], 0), (.iand, 1, [], 0), (.iconst 1, 1, [], 0), (.if_icmp .ne 55, 3, [138], 0)]
theorem a_X6_goesOn_68 : ck mX6_goesOn b_X6_goesOn_68 68 = true := by decide +kernel
def b_X6_goesOn_86 : List Ent := [(.aload_n 0, 1, [], 0), (.getfield 7, 3, [6, 0, 1, 851], 0), (.iload 4, 2, [], 0), (.iconst 2, 1, [], 0), (.iadd, 1, [], 0), (.aload_n 0, 1, [], 0), (.getfield 7, 3, [6, 0, 1, 851], 0), (.iload 4, 2, [], 0), (.iconst 2, 1, [], 0), (.iadd, 1, [], 0), (.iaload, 1, [7], 0), (.aload_n 0, 1, [], 0), (.iload_n 3, 1, [], 0)]
theorem a_X6_goesOn_86 : ck mX6_goesOn b_X6_goesOn_86 86 = true := by decide +kernel
theorem k_X6_goesOn_105 : CV mX6_goesOn 105 mX6_gains := CV.of 178 1062 1064 31 (by decide +kernel) (by decide +kernel) (by decide +kernel) (by decide +kernel)
def b_X6_goesOn_108 : List Ent := [(.iadd, 1, [], 0)]
theorem a_X6_goesOn_108 : ck mX6_goesOn b_X6_goesOn_108 108 = true := by decide +kernel
theorem k_X6_goesOn_109 : CS mX6_goesOn 109 mX6_within := CS.of 194 1113 1114 (by decide +kernel) (by decide +kernel) (by decide +kernel)
def b_X6_goesOn_112 : List Ent := [(.iastore, 1, [], 0), (.aload_n 0, 1, [], 0), (.getfield 7, 3, [6, 0, 1, 851], 0), (.iload 4, 2, [], 0), (.iconst 3, 1, [], 0), (.iadd, 1, [], 0), (.bipush 99, 2, [], 0), (.aload_n 0, 1, [], 0), (.getfield 7, 3, [6, 0, 1, 851], 0), (.iload 4, 2, [], 0), (.iconst 3, 1, [], 0), (.iadd, 1, [], 0), (.iaload, 1, [7], 0), (.iconst 1, 1, [], 0), (.iadd, 1, [], 0)]
theorem a_X6_goesOn_112 : ck mX6_goesOn b_X6_goesOn_112 112 = true := by decide +kernel
theorem k_X6_goesOn_134 : CS mX6_goesOn 134 mX6_least := CS.of 197 1116 1117 (by decide +kernel) (by decide +kernel) (by decide +kernel)
def b_X6_goesOn_137 : List Ent := [(.iastore, 1, [], 0)]
theorem a_X6_goesOn_137 : ck mX6_goesOn b_X6_goesOn_137 137 = true := by decide +kernel
def b_X6_goesOn_138 : List Ent := [(.aload_n 0, 1, [], 0), (.getfield 7, 3, [6, 0, 1, 851], 0), (.iload 4, 2, [], 0), (.iconst 5, 1, [], 0), (.iadd, 1, [], 0), (.aload_n 0, 1, [], 0), (.getfield 7, 3, [6, 0, 1, 851], 0), (.iload 4, 2, [], 0), (.iconst 4, 1, [], 0), (.iadd, 1, [], 0), (.iaload, 1, [7], 0), (.iconst 1, 1, [], 0), (.if_icmp .ne 22, 3, [178], 0)]
theorem a_X6_goesOn_138 : ck mX6_goesOn b_X6_goesOn_138 138 = true := by decide +kernel
def b_X6_goesOn_159 : List Ent := [(.bipush 9, 2, [], 0), (.aload_n 0, 1, [], 0), (.getfield 7, 3, [6, 0, 1, 851], 0), (.iload 4, 2, [], 0), (.iconst 5, 1, [], 0), (.iadd, 1, [], 0), (.iaload, 1, [7], 0), (.iconst 1, 1, [], 0), (.iadd, 1, [], 0)]
theorem a_X6_goesOn_159 : ck mX6_goesOn b_X6_goesOn_159 159 = true := by decide +kernel
theorem k_X6_goesOn_172 : CS mX6_goesOn 172 mX6_least := CS.of 197 1116 1117 (by decide +kernel) (by decide +kernel) (by decide +kernel)
def b_X6_goesOn_175 : List Ent := [(.goto 4, 3, [179], 0)]
theorem a_X6_goesOn_175 : ck mX6_goesOn b_X6_goesOn_175 175 = true := by decide +kernel
def b_X6_goesOn_178 : List Ent := [(.iconst 0, 1, [], 0)]
theorem a_X6_goesOn_178 : ck mX6_goesOn b_X6_goesOn_178 178 = true := by decide +kernel
def b_X6_goesOn_179 : List Ent := [(.iastore, 1, [], 0), (.iinc 3 1, 3, [], 0), (.goto (-125), 3, [58], 0)]
theorem a_X6_goesOn_179 : ck mX6_goesOn b_X6_goesOn_179 179 = true := by decide +kernel
def b_X6_goesOn_186 : List Ent := [(.aload_n 0, 1, [], 0), (.getfield 7, 3, [6, 0, 1, 851], 0), (.iconst 3, 1, [], 0), (.ldc 200, 2, [0, 1119], 99999), (.aload_n 0, 1, [], 0), (.getfield 7, 3, [6, 0, 1, 851], 0), (.iconst 3, 1, [], 0), (.iaload, 1, [7], 0), (.iload_n 2, 1, [], 0), (.iadd, 1, [], 0)]
theorem a_X6_goesOn_186 : ck mX6_goesOn b_X6_goesOn_186 186 = true := by decide +kernel
theorem k_X6_goesOn_201 : CS mX6_goesOn 201 mX6_least := CS.of 197 1116 1117 (by decide +kernel) (by decide +kernel) (by decide +kernel)
def b_X6_goesOn_204 : List Ent := [(.iastore, 1, [], 0), (.aload_n 0, 1, [], 0), (.getfield 7, 3, [6, 0, 1, 851], 0), (.iconst 1, 1, [], 0), (.dup2, 1, [], 0), (.iaload, 1, [7], 0), (.iconst 1, 1, [], 0), (.iadd, 1, [], 0), (.iastore, 1, [], 0), (.iload_n 2, 1, [], 0), (.ireturn, 1, [0], 0)]
theorem a_X6_goesOn_204 : ck mX6_goesOn b_X6_goesOn_204 204 = true := by decide +kernel
theorem o_X6_graft : MOK mX6_graft 2 := MOK.of 1081 64 (by decide +kernel) (by decide +kernel) (by decide +kernel) (by decide +kernel) (by decide +kernel)
def b_X6_graft_0 : List Ent := [(.aload_n 0, 1, [], 0), (.iload_n 1, 1, [], 0)]
theorem a_X6_graft_0 : ck mX6_graft b_X6_graft_0 0 = true := by decide +kernel
theorem k_X6_graft_2 : CV mX6_graft 2 mX6_isOne := CV.of 162 1028 1030 24 (by decide +kernel) (by decide +kernel) (by decide +kernel) (by decide +kernel)
def b_X6_graft_5 : List Ent := [(.ifCond .eq 31, 3, [36], 0)]
theorem a_X6_graft_5 : ck mX6_graft b_X6_graft_5 5 = true := by decide +kernel
def b_X6_graft_8 : List Ent := [(.iload_n 2, 1, [], 0), (.i2l, 1, [], 0), (.lconst 0, 1, [], 0), (.iload_n 1, 1, [], 0), (.i2l, 1, [], 0)]
theorem a_X6_graft_8 : ck mX6_graft b_X6_graft_8 8 = true := by decide +kernel
theorem k_X6_graft_13 : CS mX6_graft 13 mX6_isIn := CS.of 54 935 936 (by decide +kernel) (by decide +kernel) (by decide +kernel)
def b_X6_graft_16 : List Ent := [(.ifCond .eq 20, 3, [36], 0)]
theorem a_X6_graft_16 : ck mX6_graft b_X6_graft_16 16 = true := by decide +kernel
def b_X6_graft_19 : List Ent := [(.aload_n 0, 1, [], 0), (.bipush 8, 2, [], 0), (.bipush 6, 2, [], 0), (.iload_n 1, 1, [], 0), (.imul, 1, [], 0), (.iadd, 1, [], 0), (.iconst 1, 1, [], 0), (.iadd, 1, [], 0), (.iload_n 2, 1, [], 0)]
theorem a_X6_graft_19 : ck mX6_graft b_X6_graft_19 19 = true := by decide +kernel
theorem k_X6_graft_30 : CV mX6_graft 30 mX6_becomes := CV.of 147 1011 1013 23 (by decide +kernel) (by decide +kernel) (by decide +kernel) (by decide +kernel)
def b_X6_graft_33 : List Ent := [(.goto 4, 3, [37], 0)]
theorem a_X6_graft_33 : ck mX6_graft b_X6_graft_33 33 = true := by decide +kernel
def b_X6_graft_36 : List Ent := [(.iconst (-1), 1, [], 0)]
theorem a_X6_graft_36 : ck mX6_graft b_X6_graft_36 36 = true := by decide +kernel
def b_X6_graft_37 : List Ent := [(.ireturn, 1, [0], 0)]
theorem a_X6_graft_37 : ck mX6_graft b_X6_graft_37 37 = true := by decide +kernel
theorem o_X6_harvest : MOK mX6_harvest 1 := MOK.of 1161 64 (by decide +kernel) (by decide +kernel) (by decide +kernel) (by decide +kernel) (by decide +kernel)
def b_X6_harvest_0 : List Ent := [(.iload_n 1, 1, [], 0), (.i2l, 1, [], 0), (.lconst 0, 1, [], 0), (.ldc2_w 201, 3, [0, 1108], 60)]
theorem a_X6_harvest_0 : ck mX6_harvest b_X6_harvest_0 0 = true := by decide +kernel
theorem k_X6_harvest_6 : CS mX6_harvest 6 mX6_isIn := CS.of 54 935 936 (by decide +kernel) (by decide +kernel) (by decide +kernel)
def b_X6_harvest_9 : List Ent := [(.ifCond .eq 12, 3, [21], 0)]
theorem a_X6_harvest_9 : ck mX6_harvest b_X6_harvest_9 9 = true := by decide +kernel
def b_X6_harvest_12 : List Ent := [(.aload_n 0, 1, [], 0), (.iload_n 1, 1, [], 0), (.iconst 0, 1, [], 0)]
theorem a_X6_harvest_12 : ck mX6_harvest b_X6_harvest_12 12 = true := by decide +kernel
theorem k_X6_harvest_15 : CV mX6_harvest 15 mX6_harvestBy := CV.of 224 1162 1164 40 (by decide +kernel) (by decide +kernel) (by decide +kernel) (by decide +kernel)
def b_X6_harvest_18 : List Ent := [(.goto 4, 3, [22], 0)]
theorem a_X6_harvest_18 : ck mX6_harvest b_X6_harvest_18 18 = true := by decide +kernel
def b_X6_harvest_21 : List Ent := [(.iconst (-1), 1, [], 0)]
theorem a_X6_harvest_21 : ck mX6_harvest b_X6_harvest_21 21 = true := by decide +kernel
def b_X6_harvest_22 : List Ent := [(.ireturn, 1, [0], 0)]
theorem a_X6_harvest_22 : ck mX6_harvest b_X6_harvest_22 22 = true := by decide +kernel
theorem o_X6_harvestBy : MOK mX6_harvestBy 2 := MOK.of 1165 64 (by decide +kernel) (by decide +kernel) (by decide +kernel) (by decide +kernel) (by decide +kernel)
def b_X6_harvestBy_0 : List Ent := [(.aload_n 0, 1, [], 0), (.getfield 7, 3, [6, 0, 1, 851], 0), (.aload_n 0, 1, [], 0), (.getfield 16, 3, [6, 2, 3, 853], 0)]
theorem a_X6_harvestBy_0 : ck mX6_harvestBy b_X6_harvestBy_0 0 = true := by decide +kernel
theorem k_X6_harvestBy_8 : CS mX6_harvestBy 8 mX6_copyRow := CS.of 131 943 944 (by decide +kernel) (by decide +kernel) (by decide +kernel)
def b_X6_harvestBy_11 : List Ent := [(.iconst 0, 1, [], 0), (.istore_n 3, 1, [], 0)]
theorem a_X6_harvestBy_11 : ck mX6_harvestBy b_X6_harvestBy_11 11 = true := by decide +kernel
def b_X6_harvestBy_13 : List Ent := [(.iload_n 3, 1, [], 0), (.aload_n 0, 1, [], 0), (.getfield 7, 3, [6, 0, 1, 851], 0), (.iconst 0, 1, [], 0), (.iaload, 1, [7], 0), (.if_icmp .ge 31, 3, [51], 0)]
theorem a_X6_harvestBy_13 : ck mX6_harvestBy b_X6_harvestBy_13 13 = true := by decide +kernel
def b_X6_harvestBy_23 : List Ent := [(.aload_n 0, 1, [], 0), (.getfield 7, 3, [6, 0, 1, 851], 0), (.bipush 8, 2, [], 0), (.bipush 6, 2, [], 0), (.iload_n 3, 1, [], 0), (.imul, 1, [], 0), (.iadd, 1, [], 0), (.iconst 4, 1, [], 0), (.iadd, 1, [], 0), (.dup2, 1, [], 0), (.iaload, 1, [7], 0), (.iload_n 2, 1, [], 0), (.iload_n 3, 1, [], 0), (.ishr, 1, [], 0), (.iconst 1, 1, [], 0), (.iand, 1, [], 0), (.ior, 1, [], 0), (.iastore, 1, [], 0), (.iinc 3 1, 3, [], 0), (.goto (-35), 3, [13], 0)]
theorem a_X6_harvestBy_23 : ck mX6_harvestBy b_X6_harvestBy_23 23 = true := by decide +kernel
def b_X6_harvestBy_51 : List Ent := [(.iconst 0, 1, [], 0), (.istore_n 3, 1, [], 0), (.iconst 0, 1, [], 0), (.istore 4, 2, [], 0)]
theorem a_X6_harvestBy_51 : ck mX6_harvestBy b_X6_harvestBy_51 51 = true := by decide +kernel
def b_X6_harvestBy_56 : List Ent := [(.iload 4, 2, [], 0), (.iload_n 1, 1, [], 0), (.if_icmp .ge 16, 3, [75], 0)]
theorem a_X6_harvestBy_56 : ck mX6_harvestBy b_X6_harvestBy_56 56 = true := by decide +kernel
def b_X6_harvestBy_62 : List Ent := [(.iload_n 3, 1, [], 0), (.aload_n 0, 1, [], 0)]
theorem a_X6_harvestBy_62 : ck mX6_harvestBy b_X6_harvestBy_62 62 = true := by decide +kernel
theorem k_X6_harvestBy_64 : CV mX6_harvestBy 64 mX6_goesOn := CV.of 203 1109 1111 34 (by decide +kernel) (by decide +kernel) (by decide +kernel) (by decide +kernel)
def b_X6_harvestBy_67 : List Ent := [(.iadd, 1, [], 0), (.istore_n 3, 1, [], 0), (.iinc 4 1, 3, [], 0), (.goto (-16), 3, [56], 0)]
theorem a_X6_harvestBy_67 : ck mX6_harvestBy b_X6_harvestBy_67 67 = true := by decide +kernel
def b_X6_harvestBy_75 : List Ent := [(.aload_n 0, 1, [], 0), (.getfield 16, 3, [6, 2, 3, 853], 0), (.aload_n 0, 1, [], 0), (.getfield 7, 3, [6, 0, 1, 851], 0)]
theorem a_X6_harvestBy_75 : ck mX6_harvestBy b_X6_harvestBy_75 75 = true := by decide +kernel
theorem k_X6_harvestBy_83 : CS mX6_harvestBy 83 mX6_copyRow := CS.of 131 943 944 (by decide +kernel) (by decide +kernel) (by decide +kernel)
def b_X6_harvestBy_86 : List Ent := [(.iload_n 3, 1, [], 0), (.ireturn, 1, [0], 0)]
theorem a_X6_harvestBy_86 : ck mX6_harvestBy b_X6_harvestBy_86 86 = true := by decide +kernel
theorem o_X6_heldOn : MOK mX6_heldOn 1 := MOK.of 1295 64 (by decide +kernel) (by decide +kernel) (by decide +kernel) (by decide +kernel) (by decide +kernel)
def b_X6_heldOn_0 : List Ent := [(.aload_n 0, 1, [], 0), (.getfield 37, 3, [6, 17, 10, 868], 0), (.iload_n 1, 1, [], 0), (.iaload, 1, [7], 0), (.iconst 1, 1, [], 0), (.if_icmp .ne 20, 3, [27], 0)]
theorem a_X6_heldOn_0 : ck mX6_heldOn b_X6_heldOn_0 0 = true := by decide +kernel
def b_X6_heldOn_10 : List Ent := [(.aload_n 0, 1, [], 0), (.aload_n 0, 1, [], 0), (.getfield 40, 3, [6, 18, 11, 869], 0), (.iload_n 1, 1, [], 0), (.iaload, 1, [7], 0)]
theorem a_X6_heldOn_10 : ck mX6_heldOn b_X6_heldOn_10 10 = true := by decide +kernel
theorem k_X6_heldOn_17 : CV mX6_heldOn 17 mX6_isOne := CV.of 162 1028 1030 24 (by decide +kernel) (by decide +kernel) (by decide +kernel) (by decide +kernel)
def b_X6_heldOn_20 : List Ent := [(.ifCond .ne 7, 3, [27], 0)]
theorem a_X6_heldOn_20 : ck mX6_heldOn b_X6_heldOn_20 20 = true := by decide +kernel
def b_X6_heldOn_23 : List Ent := [(.iconst 0, 1, [], 0), (.goto 9, 3, [33], 0)]
theorem a_X6_heldOn_23 : ck mX6_heldOn b_X6_heldOn_23 23 = true := by decide +kernel
def b_X6_heldOn_27 : List Ent := [(.aload_n 0, 1, [], 0), (.getfield 37, 3, [6, 17, 10, 868], 0), (.iload_n 1, 1, [], 0), (.iaload, 1, [7], 0)]
theorem a_X6_heldOn_27 : ck mX6_heldOn b_X6_heldOn_27 27 = true := by decide +kernel
def b_X6_heldOn_33 : List Ent := [(.ireturn, 1, [0], 0)]
theorem a_X6_heldOn_33 : ck mX6_heldOn b_X6_heldOn_33 33 = true := by decide +kernel
theorem o_X6_hinders : MOK mX6_hinders 1 := MOK.of 1053 64 (by decide +kernel) (by decide +kernel) (by decide +kernel) (by decide +kernel) (by decide +kernel)
def b_X6_hinders_0 : List Ent := [(.aload_n 0, 1, [], 0), (.iload_n 1, 1, [], 0), (.iconst 2, 1, [], 0)]
theorem a_X6_hinders_0 : ck mX6_hinders b_X6_hinders_0 0 = true := by decide +kernel
theorem k_X6_hinders_3 : CV mX6_hinders 3 mX6_its := CV.of 153 1033 1035 25 (by decide +kernel) (by decide +kernel) (by decide +kernel) (by decide +kernel)
def b_X6_hinders_6 : List Ent := [(.iconst 3, 1, [], 0), (.idiv, 1, [], 0), (.istore_n 2, 1, [], 0), (.aload_n 0, 1, [], 0), (.iload_n 1, 1, [], 0), (.iconst 0, 1, [], 0)]
theorem a_X6_hinders_6 : ck mX6_hinders b_X6_hinders_6 6 = true := by decide +kernel
theorem k_X6_hinders_12 : CV mX6_hinders 12 mX6_its := CV.of 153 1033 1035 25 (by decide +kernel) (by decide +kernel) (by decide +kernel) (by decide +kernel)
def b_X6_hinders_15 : List Ent := [(.tableswitch 78 1 5 #[33, 37, 46, 65, 76], 33, [93, 48, 52, 61, 80, 91], 0)]
theorem a_X6_hinders_15 : ck mX6_hinders b_X6_hinders_15 15 = true := by decide +kernel
def b_X6_hinders_48 : List Ent := [(.iload_n 2, 1, [], 0), (.iconst 1, 1, [], 0), (.isub, 1, [], 0), (.ireturn, 1, [0], 0)]
theorem a_X6_hinders_48 : ck mX6_hinders b_X6_hinders_48 48 = true := by decide +kernel
def b_X6_hinders_52 : List Ent := [(.iload_n 2, 1, [], 0), (.aload_n 0, 1, [], 0), (.getfield 7, 3, [6, 0, 1, 851], 0), (.iconst 4, 1, [], 0), (.iaload, 1, [7], 0), (.iadd, 1, [], 0), (.ireturn, 1, [0], 0)]
theorem a_X6_hinders_52 : ck mX6_hinders b_X6_hinders_52 52 = true := by decide +kernel
def b_X6_hinders_61 : List Ent := [(.aload_n 0, 1, [], 0), (.getfield 7, 3, [6, 0, 1, 851], 0), (.iconst 1, 1, [], 0), (.iaload, 1, [7], 0), (.iconst 2, 1, [], 0), (.irem, 1, [], 0), (.ifCond .ne 9, 3, [78], 0)]
theorem a_X6_hinders_61 : ck mX6_hinders b_X6_hinders_61 61 = true := by decide +kernel
def b_X6_hinders_72 : List Ent := [(.iload_n 2, 1, [], 0), (.iconst 1, 1, [], 0), (.isub, 1, [], 0), (.goto 4, 3, [79], 0)]
theorem a_X6_hinders_72 : ck mX6_hinders b_X6_hinders_72 72 = true := by decide +kernel
def b_X6_hinders_78 : List Ent := [(.iconst 0, 1, [], 0)]
theorem a_X6_hinders_78 : ck mX6_hinders b_X6_hinders_78 78 = true := by decide +kernel
def b_X6_hinders_79 : List Ent := [(.ireturn, 1, [0], 0)]
theorem a_X6_hinders_79 : ck mX6_hinders b_X6_hinders_79 79 = true := by decide +kernel
def b_X6_hinders_80 : List Ent := [(.iconst 2, 1, [], 0), (.iload_n 2, 1, [], 0), (.aload_n 0, 1, [], 0), (.getfield 7, 3, [6, 0, 1, 851], 0), (.iconst 4, 1, [], 0), (.iaload, 1, [7], 0), (.iadd, 1, [], 0), (.imul, 1, [], 0), (.ireturn, 1, [0], 0)]
theorem a_X6_hinders_80 : ck mX6_hinders b_X6_hinders_80 80 = true := by decide +kernel
def b_X6_hinders_91 : List Ent := [(.iconst 0, 1, [], 0), (.ireturn, 1, [0], 0)]
theorem a_X6_hinders_91 : ck mX6_hinders b_X6_hinders_91 91 = true := by decide +kernel
def b_X6_hinders_93 : List Ent := [(.iload_n 2, 1, [], 0), (.ireturn, 1, [0], 0)]
theorem a_X6_hinders_93 : ck mX6_hinders b_X6_hinders_93 93 = true := by decide +kernel
theorem o_X6_hope : MOK mX6_hope 2 := MOK.of 1238 64 (by decide +kernel) (by decide +kernel) (by decide +kernel) (by decide +kernel) (by decide +kernel)
def b_X6_hope_0 : List Ent := [(.iload_n 1, 1, [], 0), (.i2l, 1, [], 0), (.lconst 0, 1, [], 0), (.ldc2_w 143, 3, [0, 1009], 99)]
theorem a_X6_hope_0 : ck mX6_hope b_X6_hope_0 0 = true := by decide +kernel
theorem k_X6_hope_6 : CS mX6_hope 6 mX6_isIn := CS.of 54 935 936 (by decide +kernel) (by decide +kernel) (by decide +kernel)
def b_X6_hope_9 : List Ent := [(.ifCond .eq 34, 3, [43], 0)]
theorem a_X6_hope_9 : ck mX6_hope b_X6_hope_9 9 = true := by decide +kernel
def b_X6_hope_12 : List Ent := [(.iload_n 2, 1, [], 0), (.i2l, 1, [], 0), (.lconst 0, 1, [], 0), (.lconst 1, 1, [], 0)]
theorem a_X6_hope_12 : ck mX6_hope b_X6_hope_12 12 = true := by decide +kernel
theorem k_X6_hope_16 : CS mX6_hope 16 mX6_isIn := CS.of 54 935 936 (by decide +kernel) (by decide +kernel) (by decide +kernel)
def b_X6_hope_19 : List Ent := [(.ifCond .eq 24, 3, [43], 0)]
theorem a_X6_hope_19 : ck mX6_hope b_X6_hope_19 19 = true := by decide +kernel
def b_X6_hope_22 : List Ent := [(.iload_n 1, 1, [], 0), (.i2l, 1, [], 0), (.aload_n 0, 1, [], 0), (.getfield 7, 3, [6, 0, 1, 851], 0), (.bipush 7, 2, [], 0), (.iaload, 1, [7], 0), (.i2l, 1, [], 0), (.lmul, 1, [], 0), (.ldc2_w 256, 3, [0, 1231], 100), (.iload_n 2, 1, [], 0)]
theorem a_X6_hope_22 : ck mX6_hope b_X6_hope_22 22 = true := by decide +kernel
theorem k_X6_hope_37 : CS mX6_hope 37 mX6_partOf := CS.of 258 1232 1233 (by decide +kernel) (by decide +kernel) (by decide +kernel)
def b_X6_hope_40 : List Ent := [(.goto 6, 3, [46], 0)]
theorem a_X6_hope_40 : ck mX6_hope b_X6_hope_40 40 = true := by decide +kernel
def b_X6_hope_43 : List Ent := [(.ldc2_w 250, 3, [0, 1227], (-1))]
theorem a_X6_hope_43 : ck mX6_hope b_X6_hope_43 43 = true := by decide +kernel
def b_X6_hope_46 : List Ent := [(.lreturn, 1, [], 0)]
theorem a_X6_hope_46 : ck mX6_hope b_X6_hope_46 46 = true := by decide +kernel
theorem o_X6_init : MOK mX6_init 0 := MOK.of 845 64 (by decide +kernel) (by decide +kernel) (by decide +kernel) (by decide +kernel) (by decide +kernel)
theorem o_X6_isAlpha : MOK mX6_isAlpha 1 := MOK.of 956 64 (by decide +kernel) (by decide +kernel) (by decide +kernel) (by decide +kernel) (by decide +kernel)
def b_X6_isAlpha_0 : List Ent := [(.iload_n 0, 1, [], 0), (.bipush 97, 2, [], 0), (.if_icmp .lt 13, 3, [16], 0)]
theorem a_X6_isAlpha_0 : ck mX6_isAlpha b_X6_isAlpha_0 0 = true := by decide +kernel
def b_X6_isAlpha_6 : List Ent := [(.iload_n 0, 1, [], 0), (.bipush 122, 2, [], 0), (.if_icmp .gt 7, 3, [16], 0)]
theorem a_X6_isAlpha_6 : ck mX6_isAlpha b_X6_isAlpha_6 6 = true := by decide +kernel
def b_X6_isAlpha_12 : List Ent := [(.iconst 1, 1, [], 0), (.goto 4, 3, [17], 0)]
theorem a_X6_isAlpha_12 : ck mX6_isAlpha b_X6_isAlpha_12 12 = true := by decide +kernel
def b_X6_isAlpha_16 : List Ent := [(.iconst 0, 1, [], 0)]
theorem a_X6_isAlpha_16 : ck mX6_isAlpha b_X6_isAlpha_16 16 = true := by decide +kernel
def b_X6_isAlpha_17 : List Ent := [(.ireturn, 1, [1], 0)]
theorem a_X6_isAlpha_17 : ck mX6_isAlpha b_X6_isAlpha_17 17 = true := by decide +kernel
theorem o_X6_isBare : MOK mX6_isBare 0 := MOK.of 1173 64 (by decide +kernel) (by decide +kernel) (by decide +kernel) (by decide +kernel) (by decide +kernel)
def b_X6_isBare_0 : List Ent := [(.aload_n 0, 1, [], 0)]
theorem a_X6_isBare_0 : ck mX6_isBare b_X6_isBare_0 0 = true := by decide +kernel
theorem k_X6_isBare_1 : CV mX6_isBare 1 mX6_standing := CV.of 172 1054 1056 29 (by decide +kernel) (by decide +kernel) (by decide +kernel) (by decide +kernel)
def b_X6_isBare_4 : List Ent := [(.istore_n 1, 1, [], 0), (.iconst 1, 1, [], 0), (.istore_n 2, 1, [], 0), (.iconst 0, 1, [], 0), (.istore_n 3, 1, [], 0)]
theorem a_X6_isBare_4 : ck mX6_isBare b_X6_isBare_4 4 = true := by decide +kernel
def b_X6_isBare_9 : List Ent := [(.iload_n 3, 1, [], 0), (.aload_n 0, 1, [], 0), (.getfield 7, 3, [6, 0, 1, 851], 0), (.iconst 0, 1, [], 0), (.iaload, 1, [7], 0), (.if_icmp .ge 34, 3, [50], 0)]
theorem a_X6_isBare_9 : ck mX6_isBare b_X6_isBare_9 9 = true := by decide +kernel
def b_X6_isBare_19 : List Ent := [(.iload_n 2, 1, [], 0), (.iload_n 1, 1, [], 0), (.iload_n 3, 1, [], 0), (.ishr, 1, [], 0), (.iconst 1, 1, [], 0), (.iand, 1, [], 0), (.ifCond .eq 12, 3, [37], 0)]
theorem a_X6_isBare_19 : ck mX6_isBare b_X6_isBare_19 19 = true := by decide +kernel
def b_X6_isBare_28 : List Ent := [(.aload_n 0, 1, [], 0), (.iload_n 3, 1, [], 0), (.iload_n 1, 1, [], 0)]
theorem a_X6_isBare_28 : ck mX6_isBare b_X6_isBare_28 28 = true := by decide +kernel
theorem k_X6_isBare_31 : CV mX6_isBare 31 mX6_bears := CV.of 175 1058 1060 30 (by decide +kernel) (by decide +kernel) (by decide +kernel) (by decide +kernel)
def b_X6_isBare_34 : List Ent := [(.ifCond .gt 7, 3, [41], 0)]
theorem a_X6_isBare_34 : ck mX6_isBare b_X6_isBare_34 34 = true := by decide +kernel
def b_X6_isBare_37 : List Ent := [(.iconst 1, 1, [], 0), (.goto 4, 3, [42], 0)]
theorem a_X6_isBare_37 : ck mX6_isBare b_X6_isBare_37 37 = true := by decide +kernel
def b_X6_isBare_41 : List Ent := [(.iconst 0, 1, [], 0)]
theorem a_X6_isBare_41 : ck mX6_isBare b_X6_isBare_41 41 = true := by decide +kernel
def b_X6_isBare_42 : List Ent := [(.iand, 1, [], 0), (.istore_n 2, 1, [], 0), (.iinc 3 1, 3, [], 0), (.goto (-38), 3, [9], 0)]
theorem a_X6_isBare_42 : ck mX6_isBare b_X6_isBare_42 42 = true := by decide +kernel
def b_X6_isBare_50 : List Ent := [(.iload_n 2, 1, [], 0), (.ireturn, 1, [1], 0)]
theorem a_X6_isBare_50 : ck mX6_isBare b_X6_isBare_50 50 = true := by decide +kernel
theorem o_X6_isBurnt : MOK mX6_isBurnt 2 := MOK.of 1099 64 (by decide +kernel) (by decide +kernel) (by decide +kernel) (by decide +kernel) (by decide +kernel)
def b_X6_isBurnt_0 : List Ent := [(.iload_n 0, 1, [], 0), (.iconst 1, 1, [], 0), (.if_icmp .ne 13, 3, [15], 0)]
theorem a_X6_isBurnt_0 : ck mX6_isBurnt b_X6_isBurnt_0 0 = true := by decide +kernel
def b_X6_isBurnt_5 : List Ent := [(.iload_n 1, 1, [], 0), (.bipush 6, 2, [], 0), (.if_icmp .lt 7, 3, [15], 0)]
theorem a_X6_isBurnt_5 : ck mX6_isBurnt b_X6_isBurnt_5 5 = true := by decide +kernel
def b_X6_isBurnt_11 : List Ent := [(.iconst 1, 1, [], 0), (.goto 4, 3, [16], 0)]
theorem a_X6_isBurnt_11 : ck mX6_isBurnt b_X6_isBurnt_11 11 = true := by decide +kernel
def b_X6_isBurnt_15 : List Ent := [(.iconst 0, 1, [], 0)]
theorem a_X6_isBurnt_15 : ck mX6_isBurnt b_X6_isBurnt_15 15 = true := by decide +kernel
def b_X6_isBurnt_16 : List Ent := [(.ireturn, 1, [1], 0)]
theorem a_X6_isBurnt_16 : ck mX6_isBurnt b_X6_isBurnt_16 16 = true := by decide +kernel
theorem o_X6_isDigit : MOK mX6_isDigit 1 := MOK.of 959 64 (by decide +kernel) (by decide +kernel) (by decide +kernel) (by decide +kernel) (by decide +kernel)
def b_X6_isDigit_0 : List Ent := [(.iload_n 0, 1, [], 0), (.bipush 48, 2, [], 0), (.if_icmp .lt 13, 3, [16], 0)]
theorem a_X6_isDigit_0 : ck mX6_isDigit b_X6_isDigit_0 0 = true := by decide +kernel
def b_X6_isDigit_6 : List Ent := [(.iload_n 0, 1, [], 0), (.bipush 57, 2, [], 0), (.if_icmp .gt 7, 3, [16], 0)]
theorem a_X6_isDigit_6 : ck mX6_isDigit b_X6_isDigit_6 6 = true := by decide +kernel
def b_X6_isDigit_12 : List Ent := [(.iconst 1, 1, [], 0), (.goto 4, 3, [17], 0)]
theorem a_X6_isDigit_12 : ck mX6_isDigit b_X6_isDigit_12 12 = true := by decide +kernel
def b_X6_isDigit_16 : List Ent := [(.iconst 0, 1, [], 0)]
theorem a_X6_isDigit_16 : ck mX6_isDigit b_X6_isDigit_16 16 = true := by decide +kernel
def b_X6_isDigit_17 : List Ent := [(.ireturn, 1, [1], 0)]
theorem a_X6_isDigit_17 : ck mX6_isDigit b_X6_isDigit_17 17 = true := by decide +kernel
theorem o_X6_isFive : MOK mX6_isFive 5 := MOK.of 983 64 (by decide +kernel) (by decide +kernel) (by decide +kernel) (by decide +kernel) (by decide +kernel)
def b_X6_isFive_0 : List Ent := [(.aload_n 0, 1, [], 0), (.iconst 5, 1, [], 0), (.iload_n 1, 1, [], 0), (.iload_n 2, 1, [], 0), (.iload_n 3, 1, [], 0), (.iload 5, 2, [], 0)]
theorem a_X6_isFive_0 : ck mX6_isFive b_X6_isFive_0 0 = true := by decide +kernel
theorem k_X6_isFive_7 : CV mX6_isFive 7 mX6_isName := CV.of 94 968 970 14 (by decide +kernel) (by decide +kernel) (by decide +kernel) (by decide +kernel)
def b_X6_isFive_10 : List Ent := [(.ifCond .eq 22, 3, [32], 0)]
theorem a_X6_isFive_10 : ck mX6_isFive b_X6_isFive_10 10 = true := by decide +kernel
def b_X6_isFive_13 : List Ent := [(.aload_n 0, 1, [], 0), (.aload_n 0, 1, [], 0), (.getfield 67, 3, [6, 8, 0, 859], 0), (.iconst 3, 1, [], 0), (.iadd, 1, [], 0)]
theorem a_X6_isFive_13 : ck mX6_isFive b_X6_isFive_13 13 = true := by decide +kernel
theorem k_X6_isFive_20 : CV mX6_isFive 20 mX6_byteAt := CV.of 70 950 952 11 (by decide +kernel) (by decide +kernel) (by decide +kernel) (by decide +kernel)
def b_X6_isFive_23 : List Ent := [(.iload 4, 2, [], 0), (.if_icmp .ne 7, 3, [32], 0)]
theorem a_X6_isFive_23 : ck mX6_isFive b_X6_isFive_23 23 = true := by decide +kernel
def b_X6_isFive_28 : List Ent := [(.iconst 1, 1, [], 0), (.goto 4, 3, [33], 0)]
theorem a_X6_isFive_28 : ck mX6_isFive b_X6_isFive_28 28 = true := by decide +kernel
def b_X6_isFive_32 : List Ent := [(.iconst 0, 1, [], 0)]
theorem a_X6_isFive_32 : ck mX6_isFive b_X6_isFive_32 32 = true := by decide +kernel
def b_X6_isFive_33 : List Ent := [(.ireturn, 1, [1], 0)]
theorem a_X6_isFive_33 : ck mX6_isFive b_X6_isFive_33 33 = true := by decide +kernel
theorem o_X6_isFour : MOK mX6_isFour 4 := MOK.of 979 64 (by decide +kernel) (by decide +kernel) (by decide +kernel) (by decide +kernel) (by decide +kernel)
def b_X6_isFour_0 : List Ent := [(.aload_n 0, 1, [], 0), (.iconst 4, 1, [], 0), (.iload_n 1, 1, [], 0), (.iload_n 2, 1, [], 0), (.iload_n 3, 1, [], 0), (.iload 4, 2, [], 0)]
theorem a_X6_isFour_0 : ck mX6_isFour b_X6_isFour_0 0 = true := by decide +kernel
theorem k_X6_isFour_7 : CV mX6_isFour 7 mX6_isName := CV.of 94 968 970 14 (by decide +kernel) (by decide +kernel) (by decide +kernel) (by decide +kernel)
def b_X6_isFour_10 : List Ent := [(.ireturn, 1, [1], 0)]
theorem a_X6_isFour_10 : ck mX6_isFour b_X6_isFour_10 10 = true := by decide +kernel
theorem o_X6_isFree : MOK mX6_isFree 3 := MOK.of 1211 64 (by decide +kernel) (by decide +kernel) (by decide +kernel) (by decide +kernel) (by decide +kernel)
def b_X6_isFree_0 : List Ent := [(.aload_n 0, 1, [], 0), (.getfield 7, 3, [6, 0, 1, 851], 0), (.aload_n 0, 1, [], 0), (.getfield 16, 3, [6, 2, 3, 853], 0)]
theorem a_X6_isFree_0 : ck mX6_isFree b_X6_isFree_0 0 = true := by decide +kernel
theorem k_X6_isFree_8 : CS mX6_isFree 8 mX6_copyRow := CS.of 131 943 944 (by decide +kernel) (by decide +kernel) (by decide +kernel)
def b_X6_isFree_11 : List Ent := [(.iconst 0, 1, [], 0), (.istore 4, 2, [], 0)]
theorem a_X6_isFree_11 : ck mX6_isFree b_X6_isFree_11 11 = true := by decide +kernel
def b_X6_isFree_14 : List Ent := [(.iload 4, 2, [], 0), (.aload_n 0, 1, [], 0), (.getfield 7, 3, [6, 0, 1, 851], 0), (.iconst 0, 1, [], 0), (.iaload, 1, [7], 0), (.if_icmp .ge 33, 3, [55], 0)]
theorem a_X6_isFree_14 : ck mX6_isFree b_X6_isFree_14 14 = true := by decide +kernel
def b_X6_isFree_25 : List Ent := [(.aload_n 0, 1, [], 0), (.getfield 7, 3, [6, 0, 1, 851], 0), (.bipush 8, 2, [], 0), (.bipush 6, 2, [], 0), (.iload 4, 2, [], 0), (.imul, 1, [], 0), (.iadd, 1, [], 0), (.iconst 4, 1, [], 0), (.iadd, 1, [], 0), (.dup2, 1, [], 0), (.iaload, 1, [7], 0), (.iload_n 3, 1, [], 0), (.iload 4, 2, [], 0), (.ishr, 1, [], 0), (.iconst 1, 1, [], 0), (.iand, 1, [], 0), (.ior, 1, [], 0), (.iastore, 1, [], 0), (.iinc 4 1, 3, [], 0), (.goto (-38), 3, [14], 0)]
theorem a_X6_isFree_25 : ck mX6_isFree b_X6_isFree_25 25 = true := by decide +kernel
def b_X6_isFree_55 : List Ent := [(.aload_n 0, 1, [], 0), (.iload_n 1, 1, [], 0)]
theorem a_X6_isFree_55 : ck mX6_isFree b_X6_isFree_55 55 = true := by decide +kernel
theorem k_X6_isFree_57 : CV mX6_isFree 57 mX6_stands := CV.of 156 1041 1043 27 (by decide +kernel) (by decide +kernel) (by decide +kernel) (by decide +kernel)
def b_X6_isFree_60 : List Ent := [(.ifCond .eq 20, 3, [80], 0)]
theorem a_X6_isFree_60 : ck mX6_isFree b_X6_isFree_60 60 = true := by decide +kernel
def b_X6_isFree_63 : List Ent := [(.aload_n 0, 1, [], 0), (.iload_n 1, 1, [], 0), (.aload_n 0, 1, [], 0)]
theorem a_X6_isFree_63 : ck mX6_isFree b_X6_isFree_63 63 = true := by decide +kernel
theorem k_X6_isFree_66 : CV mX6_isFree 66 mX6_standing := CV.of 172 1054 1056 29 (by decide +kernel) (by decide +kernel) (by decide +kernel) (by decide +kernel)
theorem k_X6_isFree_69 : CV mX6_isFree 69 mX6_bears := CV.of 175 1058 1060 30 (by decide +kernel) (by decide +kernel) (by decide +kernel) (by decide +kernel)
def b_X6_isFree_72 : List Ent := [(.iload_n 2, 1, [], 0), (.if_icmp .lt 7, 3, [80], 0)]
theorem a_X6_isFree_72 : ck mX6_isFree b_X6_isFree_72 72 = true := by decide +kernel
def b_X6_isFree_76 : List Ent := [(.iconst 1, 1, [], 0), (.goto 4, 3, [81], 0)]
theorem a_X6_isFree_76 : ck mX6_isFree b_X6_isFree_76 76 = true := by decide +kernel
def b_X6_isFree_80 : List Ent := [(.iconst 0, 1, [], 0)]
theorem a_X6_isFree_80 : ck mX6_isFree b_X6_isFree_80 80 = true := by decide +kernel
def b_X6_isFree_81 : List Ent := [(.istore 4, 2, [], 0), (.aload_n 0, 1, [], 0), (.getfield 16, 3, [6, 2, 3, 853], 0), (.aload_n 0, 1, [], 0), (.getfield 7, 3, [6, 0, 1, 851], 0)]
theorem a_X6_isFree_81 : ck mX6_isFree b_X6_isFree_81 81 = true := by decide +kernel
theorem k_X6_isFree_91 : CS mX6_isFree 91 mX6_copyRow := CS.of 131 943 944 (by decide +kernel) (by decide +kernel) (by decide +kernel)
def b_X6_isFree_94 : List Ent := [(.iload 4, 2, [], 0), (.ireturn, 1, [1], 0)]
theorem a_X6_isFree_94 : ck mX6_isFree b_X6_isFree_94 94 = true := by decide +kernel
theorem o_X6_isIn : MOK mX6_isIn 3 := MOK.of 937 64 (by decide +kernel) (by decide +kernel) (by decide +kernel) (by decide +kernel) (by decide +kernel)
def b_X6_isIn_0 : List Ent := [(.lload_n 0, 1, [], 0), (.lload_n 2, 1, [], 0), (.lcmp, 1, [], 0), (.ifCond .lt 14, 3, [17], 0)]
theorem a_X6_isIn_0 : ck mX6_isIn b_X6_isIn_0 0 = true := by decide +kernel
def b_X6_isIn_6 : List Ent := [(.lload_n 0, 1, [], 0), (.lload 4, 2, [], 0), (.lcmp, 1, [], 0), (.ifCond .gt 7, 3, [17], 0)]
theorem a_X6_isIn_6 : ck mX6_isIn b_X6_isIn_6 6 = true := by decide +kernel
def b_X6_isIn_13 : List Ent := [(.iconst 1, 1, [], 0), (.goto 4, 3, [18], 0)]
theorem a_X6_isIn_13 : ck mX6_isIn b_X6_isIn_13 13 = true := by decide +kernel
def b_X6_isIn_17 : List Ent := [(.iconst 0, 1, [], 0)]
theorem a_X6_isIn_17 : ck mX6_isIn b_X6_isIn_17 17 = true := by decide +kernel
def b_X6_isIn_18 : List Ent := [(.ireturn, 1, [1], 0)]
theorem a_X6_isIn_18 : ck mX6_isIn b_X6_isIn_18 18 = true := by decide +kernel
theorem o_X6_isName : MOK mX6_isName 5 := MOK.of 971 64 (by decide +kernel) (by decide +kernel) (by decide +kernel) (by decide +kernel) (by decide +kernel)
def b_X6_isName_0 : List Ent := [(.aload_n 0, 1, [], 0), (.getfield 81, 3, [6, 7, 0, 858], 0), (.iconst 1, 1, [], 0), (.if_icmp .ne 76, 3, [81], 0)]
theorem a_X6_isName_0 : ck mX6_isName b_X6_isName_0 0 = true := by decide +kernel
def b_X6_isName_8 : List Ent := [(.aload_n 0, 1, [], 0), (.getfield 64, 3, [6, 9, 0, 860], 0), (.aload_n 0, 1, [], 0), (.getfield 67, 3, [6, 8, 0, 859], 0), (.isub, 1, [], 0), (.iload_n 1, 1, [], 0), (.if_icmp .ne 63, 3, [81], 0)]
theorem a_X6_isName_8 : ck mX6_isName b_X6_isName_8 8 = true := by decide +kernel
def b_X6_isName_21 : List Ent := [(.aload_n 0, 1, [], 0), (.aload_n 0, 1, [], 0), (.getfield 67, 3, [6, 8, 0, 859], 0)]
theorem a_X6_isName_21 : ck mX6_isName b_X6_isName_21 21 = true := by decide +kernel
theorem k_X6_isName_26 : CV mX6_isName 26 mX6_byteAt := CV.of 70 950 952 11 (by decide +kernel) (by decide +kernel) (by decide +kernel) (by decide +kernel)
def b_X6_isName_29 : List Ent := [(.iload_n 2, 1, [], 0), (.if_icmp .ne 51, 3, [81], 0)]
theorem a_X6_isName_29 : ck mX6_isName b_X6_isName_29 29 = true := by decide +kernel
def b_X6_isName_33 : List Ent := [(.aload_n 0, 1, [], 0), (.aload_n 0, 1, [], 0), (.getfield 67, 3, [6, 8, 0, 859], 0), (.iconst 1, 1, [], 0), (.iadd, 1, [], 0)]
theorem a_X6_isName_33 : ck mX6_isName b_X6_isName_33 33 = true := by decide +kernel
theorem k_X6_isName_40 : CV mX6_isName 40 mX6_byteAt := CV.of 70 950 952 11 (by decide +kernel) (by decide +kernel) (by decide +kernel) (by decide +kernel)
def b_X6_isName_43 : List Ent := [(.iload_n 3, 1, [], 0), (.if_icmp .ne 37, 3, [81], 0)]
theorem a_X6_isName_43 : ck mX6_isName b_X6_isName_43 43 = true := by decide +kernel
def b_X6_isName_47 : List Ent := [(.aload_n 0, 1, [], 0), (.aload_n 0, 1, [], 0), (.getfield 67, 3, [6, 8, 0, 859], 0), (.iconst 2, 1, [], 0), (.iadd, 1, [], 0)]
theorem a_X6_isName_47 : ck mX6_isName b_X6_isName_47 47 = true := by decide +kernel
theorem k_X6_isName_54 : CV mX6_isName 54 mX6_byteAt := CV.of 70 950 952 11 (by decide +kernel) (by decide +kernel) (by decide +kernel) (by decide +kernel)
def b_X6_isName_57 : List Ent := [(.iload 4, 2, [], 0), (.if_icmp .ne 22, 3, [81], 0)]
theorem a_X6_isName_57 : ck mX6_isName b_X6_isName_57 57 = true := by decide +kernel
def b_X6_isName_62 : List Ent := [(.aload_n 0, 1, [], 0), (.aload_n 0, 1, [], 0), (.getfield 64, 3, [6, 9, 0, 860], 0), (.iconst 1, 1, [], 0), (.isub, 1, [], 0)]
theorem a_X6_isName_62 : ck mX6_isName b_X6_isName_62 62 = true := by decide +kernel
theorem k_X6_isName_69 : CV mX6_isName 69 mX6_byteAt := CV.of 70 950 952 11 (by decide +kernel) (by decide +kernel) (by decide +kernel) (by decide +kernel)
def b_X6_isName_72 : List Ent := [(.iload 5, 2, [], 0), (.if_icmp .ne 7, 3, [81], 0)]
theorem a_X6_isName_72 : ck mX6_isName b_X6_isName_72 72 = true := by decide +kernel
def b_X6_isName_77 : List Ent := [(.iconst 1, 1, [], 0), (.goto 4, 3, [82], 0)]
theorem a_X6_isName_77 : ck mX6_isName b_X6_isName_77 77 = true := by decide +kernel
def b_X6_isName_81 : List Ent := [(.iconst 0, 1, [], 0)]
theorem a_X6_isName_81 : ck mX6_isName b_X6_isName_81 81 = true := by decide +kernel
def b_X6_isName_82 : List Ent := [(.ireturn, 1, [1], 0)]
theorem a_X6_isName_82 : ck mX6_isName b_X6_isName_82 82 = true := by decide +kernel
theorem o_X6_isOne : MOK mX6_isOne 1 := MOK.of 1031 64 (by decide +kernel) (by decide +kernel) (by decide +kernel) (by decide +kernel) (by decide +kernel)
def b_X6_isOne_0 : List Ent := [(.iload_n 1, 1, [], 0), (.ifCond .lt 17, 3, [18], 0)]
theorem a_X6_isOne_0 : ck mX6_isOne b_X6_isOne_0 0 = true := by decide +kernel
def b_X6_isOne_4 : List Ent := [(.iload_n 1, 1, [], 0), (.aload_n 0, 1, [], 0), (.getfield 7, 3, [6, 0, 1, 851], 0), (.iconst 0, 1, [], 0), (.iaload, 1, [7], 0), (.if_icmp .ge 7, 3, [18], 0)]
theorem a_X6_isOne_4 : ck mX6_isOne b_X6_isOne_4 4 = true := by decide +kernel
def b_X6_isOne_14 : List Ent := [(.iconst 1, 1, [], 0), (.goto 4, 3, [19], 0)]
theorem a_X6_isOne_14 : ck mX6_isOne b_X6_isOne_14 14 = true := by decide +kernel
def b_X6_isOne_18 : List Ent := [(.iconst 0, 1, [], 0)]
theorem a_X6_isOne_18 : ck mX6_isOne b_X6_isOne_18 18 = true := by decide +kernel
def b_X6_isOne_19 : List Ent := [(.ireturn, 1, [1], 0)]
theorem a_X6_isOne_19 : ck mX6_isOne b_X6_isOne_19 19 = true := by decide +kernel
theorem o_X6_isRow : MOK mX6_isRow 2 := MOK.of 1250 64 (by decide +kernel) (by decide +kernel) (by decide +kernel) (by decide +kernel) (by decide +kernel)
def b_X6_isRow_0 : List Ent := [(.iload_n 1, 1, [], 0), (.i2l, 1, [], 0), (.lconst 0, 1, [], 0), (.aload_n 0, 1, [], 0), (.getfield 138, 3, [6, 13, 0, 864], 0), (.iconst 1, 1, [], 0), (.isub, 1, [], 0), (.i2l, 1, [], 0)]
theorem a_X6_isRow_0 : ck mX6_isRow b_X6_isRow_0 0 = true := by decide +kernel
theorem k_X6_isRow_10 : CS mX6_isRow 10 mX6_isIn := CS.of 54 935 936 (by decide +kernel) (by decide +kernel) (by decide +kernel)
def b_X6_isRow_13 : List Ent := [(.ifCond .eq 19, 3, [32], 0)]
theorem a_X6_isRow_13 : ck mX6_isRow b_X6_isRow_13 13 = true := by decide +kernel
def b_X6_isRow_16 : List Ent := [(.iload_n 2, 1, [], 0), (.i2l, 1, [], 0), (.lconst 0, 1, [], 0), (.ldc2_w 170, 3, [0, 1049], 2)]
theorem a_X6_isRow_16 : ck mX6_isRow b_X6_isRow_16 16 = true := by decide +kernel
theorem k_X6_isRow_22 : CS mX6_isRow 22 mX6_isIn := CS.of 54 935 936 (by decide +kernel) (by decide +kernel) (by decide +kernel)
def b_X6_isRow_25 : List Ent := [(.ifCond .eq 7, 3, [32], 0)]
theorem a_X6_isRow_25 : ck mX6_isRow b_X6_isRow_25 25 = true := by decide +kernel
def b_X6_isRow_28 : List Ent := [(.iconst 1, 1, [], 0), (.goto 4, 3, [33], 0)]
theorem a_X6_isRow_28 : ck mX6_isRow b_X6_isRow_28 28 = true := by decide +kernel
def b_X6_isRow_32 : List Ent := [(.iconst 0, 1, [], 0)]
theorem a_X6_isRow_32 : ck mX6_isRow b_X6_isRow_32 32 = true := by decide +kernel
def b_X6_isRow_33 : List Ent := [(.ireturn, 1, [1], 0)]
theorem a_X6_isRow_33 : ck mX6_isRow b_X6_isRow_33 33 = true := by decide +kernel
theorem o_X6_isSame : MOK mX6_isSame 4 := MOK.of 975 64 (by decide +kernel) (by decide +kernel) (by decide +kernel) (by decide +kernel) (by decide +kernel)
def b_X6_isSame_0 : List Ent := [(.aload_n 0, 1, [], 0), (.aload_n 0, 1, [], 0), (.getfield 67, 3, [6, 8, 0, 859], 0), (.iload_n 1, 1, [], 0), (.iadd, 1, [], 0)]
theorem a_X6_isSame_0 : ck mX6_isSame b_X6_isSame_0 0 = true := by decide +kernel
theorem k_X6_isSame_7 : CV mX6_isSame 7 mX6_byteAt := CV.of 70 950 952 11 (by decide +kernel) (by decide +kernel) (by decide +kernel) (by decide +kernel)
def b_X6_isSame_10 : List Ent := [(.iload_n 2, 1, [], 0), (.if_icmp .ne 40, 3, [51], 0)]
theorem a_X6_isSame_10 : ck mX6_isSame b_X6_isSame_10 10 = true := by decide +kernel
def b_X6_isSame_14 : List Ent := [(.aload_n 0, 1, [], 0), (.aload_n 0, 1, [], 0), (.getfield 67, 3, [6, 8, 0, 859], 0), (.iload_n 1, 1, [], 0), (.iadd, 1, [], 0), (.iconst 1, 1, [], 0), (.iadd, 1, [], 0)]
theorem a_X6_isSame_14 : ck mX6_isSame b_X6_isSame_14 14 = true := by decide +kernel
theorem k_X6_isSame_23 : CV mX6_isSame 23 mX6_byteAt := CV.of 70 950 952 11 (by decide +kernel) (by decide +kernel) (by decide +kernel) (by decide +kernel)
def b_X6_isSame_26 : List Ent := [(.iload_n 3, 1, [], 0), (.if_icmp .ne 24, 3, [51], 0)]
theorem a_X6_isSame_26 : ck mX6_isSame b_X6_isSame_26 26 = true := by decide +kernel
def b_X6_isSame_30 : List Ent := [(.aload_n 0, 1, [], 0), (.aload_n 0, 1, [], 0), (.getfield 67, 3, [6, 8, 0, 859], 0), (.iload_n 1, 1, [], 0), (.iadd, 1, [], 0), (.iconst 2, 1, [], 0), (.iadd, 1, [], 0)]
theorem a_X6_isSame_30 : ck mX6_isSame b_X6_isSame_30 30 = true := by decide +kernel
theorem k_X6_isSame_39 : CV mX6_isSame 39 mX6_byteAt := CV.of 70 950 952 11 (by decide +kernel) (by decide +kernel) (by decide +kernel) (by decide +kernel)
def b_X6_isSame_42 : List Ent := [(.iload 4, 2, [], 0), (.if_icmp .ne 7, 3, [51], 0)]
theorem a_X6_isSame_42 : ck mX6_isSame b_X6_isSame_42 42 = true := by decide +kernel
def b_X6_isSame_47 : List Ent := [(.iconst 1, 1, [], 0), (.goto 4, 3, [52], 0)]
theorem a_X6_isSame_47 : ck mX6_isSame b_X6_isSame_47 47 = true := by decide +kernel
def b_X6_isSame_51 : List Ent := [(.iconst 0, 1, [], 0)]
theorem a_X6_isSame_51 : ck mX6_isSame b_X6_isSame_51 51 = true := by decide +kernel
def b_X6_isSame_52 : List Ent := [(.ireturn, 1, [1], 0)]
theorem a_X6_isSame_52 : ck mX6_isSame b_X6_isSame_52 52 = true := by decide +kernel
theorem o_X6_isSheet : MOK mX6_isSheet 1 := MOK.of 1218 64 (by decide +kernel) (by decide +kernel) (by decide +kernel) (by decide +kernel) (by decide +kernel)
def b_X6_isSheet_0 : List Ent := [(.iload_n 0, 1, [], 0), (.i2l, 1, [], 0), (.lconst 0, 1, [], 0), (.ldc2_w 141, 3, [0, 1008], 3)]
theorem a_X6_isSheet_0 : ck mX6_isSheet b_X6_isSheet_0 0 = true := by decide +kernel
theorem k_X6_isSheet_6 : CS mX6_isSheet 6 mX6_isIn := CS.of 54 935 936 (by decide +kernel) (by decide +kernel) (by decide +kernel)
def b_X6_isSheet_9 : List Ent := [(.ireturn, 1, [1], 0)]
theorem a_X6_isSheet_9 : ck mX6_isSheet b_X6_isSheet_9 9 = true := by decide +kernel
theorem o_X6_isShelf : MOK mX6_isShelf 1 := MOK.of 1285 64 (by decide +kernel) (by decide +kernel) (by decide +kernel) (by decide +kernel) (by decide +kernel)
def b_X6_isShelf_0 : List Ent := [(.iload_n 0, 1, [], 0), (.i2l, 1, [], 0), (.lconst 0, 1, [], 0), (.ldc2_w 141, 3, [0, 1008], 3)]
theorem a_X6_isShelf_0 : ck mX6_isShelf b_X6_isShelf_0 0 = true := by decide +kernel
theorem k_X6_isShelf_6 : CS mX6_isShelf 6 mX6_isIn := CS.of 54 935 936 (by decide +kernel) (by decide +kernel) (by decide +kernel)
def b_X6_isShelf_9 : List Ent := [(.ireturn, 1, [1], 0)]
theorem a_X6_isShelf_9 : ck mX6_isShelf b_X6_isShelf_9 9 = true := by decide +kernel
theorem o_X6_isShort : MOK mX6_isShort 1 := MOK.of 1184 64 (by decide +kernel) (by decide +kernel) (by decide +kernel) (by decide +kernel) (by decide +kernel)
def b_X6_isShort_0 : List Ent := [(.iload_n 0, 1, [], 0), (.i2l, 1, [], 0), (.lconst 1, 1, [], 0), (.ldc2_w 231, 3, [0, 1185], 20)]
theorem a_X6_isShort_0 : ck mX6_isShort b_X6_isShort_0 0 = true := by decide +kernel
theorem k_X6_isShort_6 : CS mX6_isShort 6 mX6_isIn := CS.of 54 935 936 (by decide +kernel) (by decide +kernel) (by decide +kernel)
def b_X6_isShort_9 : List Ent := [(.ireturn, 1, [1], 0)]
theorem a_X6_isShort_9 : ck mX6_isShort b_X6_isShort_9 9 = true := by decide +kernel
theorem o_X6_isTold : MOK mX6_isTold 1 := MOK.of 1222 64 (by decide +kernel) (by decide +kernel) (by decide +kernel) (by decide +kernel) (by decide +kernel)
def b_X6_isTold_0 : List Ent := [(.aload_n 0, 1, [], 0), (.getfield 7, 3, [6, 0, 1, 851], 0), (.aload_n 0, 1, [], 0), (.getfield 16, 3, [6, 2, 3, 853], 0)]
theorem a_X6_isTold_0 : ck mX6_isTold b_X6_isTold_0 0 = true := by decide +kernel
theorem k_X6_isTold_8 : CS mX6_isTold 8 mX6_copyRow := CS.of 131 943 944 (by decide +kernel) (by decide +kernel) (by decide +kernel)
def b_X6_isTold_11 : List Ent := [(.iconst 1, 1, [], 0), (.istore_n 2, 1, [], 0), (.iconst 0, 1, [], 0), (.istore_n 3, 1, [], 0), (.iconst 0, 1, [], 0), (.istore 4, 2, [], 0)]
theorem a_X6_isTold_11 : ck mX6_isTold b_X6_isTold_11 11 = true := by decide +kernel
def b_X6_isTold_18 : List Ent := [(.iload 4, 2, [], 0), (.aload_n 0, 1, [], 0), (.getfield 31, 3, [6, 15, 8, 866], 0), (.iload_n 1, 1, [], 0), (.iaload, 1, [7], 0), (.if_icmp .ge 58, 3, [84], 0)]
theorem a_X6_isTold_18 : ck mX6_isTold b_X6_isTold_18 18 = true := by decide +kernel
def b_X6_isTold_29 : List Ent := [(.iload_n 2, 1, [], 0), (.ifCond .eq 54, 3, [84], 0)]
theorem a_X6_isTold_29 : ck mX6_isTold b_X6_isTold_29 29 = true := by decide +kernel
def b_X6_isTold_33 : List Ent := [(.iload_n 3, 1, [], 0), (.aload_n 0, 1, [], 0)]
theorem a_X6_isTold_33 : ck mX6_isTold b_X6_isTold_33 33 = true := by decide +kernel
theorem k_X6_isTold_35 : CV mX6_isTold 35 mX6_goesOn := CV.of 203 1109 1111 34 (by decide +kernel) (by decide +kernel) (by decide +kernel) (by decide +kernel)
def b_X6_isTold_38 : List Ent := [(.iadd, 1, [], 0), (.istore_n 3, 1, [], 0), (.aload_n 0, 1, [], 0), (.getfield 34, 3, [6, 16, 9, 867], 0), (.bipush 40, 2, [], 0), (.iload_n 1, 1, [], 0), (.imul, 1, [], 0), (.iload 4, 2, [], 0), (.iadd, 1, [], 0), (.iaload, 1, [7], 0), (.iconst (-1), 1, [], 0), (.if_icmp .eq 19, 3, [72], 0)]
theorem a_X6_isTold_38 : ck mX6_isTold b_X6_isTold_38 38 = true := by decide +kernel
def b_X6_isTold_56 : List Ent := [(.aload_n 0, 1, [], 0), (.getfield 34, 3, [6, 16, 9, 867], 0), (.bipush 40, 2, [], 0), (.iload_n 1, 1, [], 0), (.imul, 1, [], 0), (.iload 4, 2, [], 0), (.iadd, 1, [], 0), (.iaload, 1, [7], 0), (.iload_n 3, 1, [], 0), (.if_icmp .ne 7, 3, [76], 0)]
theorem a_X6_isTold_56 : ck mX6_isTold b_X6_isTold_56 56 = true := by decide +kernel
def b_X6_isTold_72 : List Ent := [(.iconst 1, 1, [], 0), (.goto 4, 3, [77], 0)]
theorem a_X6_isTold_72 : ck mX6_isTold b_X6_isTold_72 72 = true := by decide +kernel
def b_X6_isTold_76 : List Ent := [(.iconst 0, 1, [], 0)]
theorem a_X6_isTold_76 : ck mX6_isTold b_X6_isTold_76 76 = true := by decide +kernel
def b_X6_isTold_77 : List Ent := [(.istore_n 2, 1, [], 0), (.iinc 4 1, 3, [], 0), (.goto (-63), 3, [18], 0)]
theorem a_X6_isTold_77 : ck mX6_isTold b_X6_isTold_77 77 = true := by decide +kernel
def b_X6_isTold_84 : List Ent := [(.aload_n 0, 1, [], 0), (.getfield 16, 3, [6, 2, 3, 853], 0), (.aload_n 0, 1, [], 0), (.getfield 7, 3, [6, 0, 1, 851], 0)]
theorem a_X6_isTold_84 : ck mX6_isTold b_X6_isTold_84 84 = true := by decide +kernel
theorem k_X6_isTold_92 : CS mX6_isTold 92 mX6_copyRow := CS.of 131 943 944 (by decide +kernel) (by decide +kernel) (by decide +kernel)
def b_X6_isTold_95 : List Ent := [(.iload_n 2, 1, [], 0), (.ireturn, 1, [1], 0)]
theorem a_X6_isTold_95 : ck mX6_isTold b_X6_isTold_95 95 = true := by decide +kernel
theorem o_X6_isUnder : MOK mX6_isUnder 2 := MOK.of 1298 64 (by decide +kernel) (by decide +kernel) (by decide +kernel) (by decide +kernel) (by decide +kernel)
def b_X6_isUnder_0 : List Ent := [(.iload_n 1, 1, [], 0), (.ifCond .eq 28, 3, [29], 0)]
theorem a_X6_isUnder_0 : ck mX6_isUnder b_X6_isUnder_0 0 = true := by decide +kernel
def b_X6_isUnder_4 : List Ent := [(.iload_n 0, 1, [], 0), (.iload_n 1, 1, [], 0), (.if_icmp .eq 23, 3, [29], 0)]
theorem a_X6_isUnder_4 : ck mX6_isUnder b_X6_isUnder_4 4 = true := by decide +kernel
def b_X6_isUnder_9 : List Ent := [(.iload_n 1, 1, [], 0), (.iconst 1, 1, [], 0), (.if_icmp .ne 8, 3, [19], 0)]
theorem a_X6_isUnder_9 : ck mX6_isUnder b_X6_isUnder_9 9 = true := by decide +kernel
def b_X6_isUnder_14 : List Ent := [(.iload_n 0, 1, [], 0), (.iconst 3, 1, [], 0), (.if_icmp .eq 13, 3, [29], 0)]
theorem a_X6_isUnder_14 : ck mX6_isUnder b_X6_isUnder_14 14 = true := by decide +kernel
def b_X6_isUnder_19 : List Ent := [(.iload_n 1, 1, [], 0), (.iconst 2, 1, [], 0), (.if_icmp .ne 12, 3, [33], 0)]
theorem a_X6_isUnder_19 : ck mX6_isUnder b_X6_isUnder_19 19 = true := by decide +kernel
def b_X6_isUnder_24 : List Ent := [(.iload_n 0, 1, [], 0), (.iconst 4, 1, [], 0), (.if_icmp .ne 7, 3, [33], 0)]
theorem a_X6_isUnder_24 : ck mX6_isUnder b_X6_isUnder_24 24 = true := by decide +kernel
def b_X6_isUnder_29 : List Ent := [(.iconst 1, 1, [], 0), (.goto 4, 3, [34], 0)]
theorem a_X6_isUnder_29 : ck mX6_isUnder b_X6_isUnder_29 29 = true := by decide +kernel
def b_X6_isUnder_33 : List Ent := [(.iconst 0, 1, [], 0)]
theorem a_X6_isUnder_33 : ck mX6_isUnder b_X6_isUnder_33 33 = true := by decide +kernel
def b_X6_isUnder_34 : List Ent := [(.ireturn, 1, [1], 0)]
theorem a_X6_isUnder_34 : ck mX6_isUnder b_X6_isUnder_34 34 = true := by decide +kernel
theorem o_X6_item : MOK mX6_item 3 := MOK.of 1270 64 (by decide +kernel) (by decide +kernel) (by decide +kernel) (by decide +kernel) (by decide +kernel)
def b_X6_item_0 : List Ent := [(.iload_n 1, 1, [], 0)]
theorem a_X6_item_0 : ck mX6_item b_X6_item_0 0 = true := by decide +kernel
theorem k_X6_item_1 : CS mX6_item 1 mX6_isSheet := CS.of 244 1216 1217 (by decide +kernel) (by decide +kernel) (by decide +kernel)
def b_X6_item_4 : List Ent := [(.ifCond .eq 15, 3, [19], 0)]
theorem a_X6_item_4 : ck mX6_item b_X6_item_4 4 = true := by decide +kernel
def b_X6_item_7 : List Ent := [(.iload_n 2, 1, [], 0), (.i2l, 1, [], 0), (.lconst 0, 1, [], 0), (.ldc2_w 141, 3, [0, 1008], 3)]
theorem a_X6_item_7 : ck mX6_item b_X6_item_7 7 = true := by decide +kernel
theorem k_X6_item_13 : CS mX6_item 13 mX6_isIn := CS.of 54 935 936 (by decide +kernel) (by decide +kernel) (by decide +kernel)
def b_X6_item_16 : List Ent := [(.ifCond .ne 5, 3, [21], 0)]
theorem a_X6_item_16 : ck mX6_item b_X6_item_16 16 = true := by decide +kernel
def b_X6_item_19 : List Ent := [(.iconst (-1), 1, [], 0), (.ireturn, 1, [0], 0)]
theorem a_X6_item_19 : ck mX6_item b_X6_item_19 19 = true := by decide +kernel
def b_X6_item_21 : List Ent := [(.aload_n 0, 1, [], 0), (.iload_n 1, 1, [], 0), (.iload_n 2, 1, [], 0)]
theorem a_X6_item_21 : ck mX6_item b_X6_item_21 21 = true := by decide +kernel
theorem k_X6_item_24 : CV mX6_item 24 mX6_lacks := CV.of 265 1271 1273 45 (by decide +kernel) (by decide +kernel) (by decide +kernel) (by decide +kernel)
def b_X6_item_27 : List Ent := [(.ifCond .eq 10, 3, [37], 0)]
theorem a_X6_item_27 : ck mX6_item b_X6_item_27 27 = true := by decide +kernel
def b_X6_item_30 : List Ent := [(.aload_n 0, 1, [], 0), (.iload_n 1, 1, [], 0), (.iload_n 2, 1, [], 0)]
theorem a_X6_item_30 : ck mX6_item b_X6_item_30 30 = true := by decide +kernel
theorem k_X6_item_33 : CV mX6_item 33 mX6_lacks := CV.of 265 1271 1273 45 (by decide +kernel) (by decide +kernel) (by decide +kernel) (by decide +kernel)
def b_X6_item_36 : List Ent := [(.ireturn, 1, [0], 0)]
theorem a_X6_item_36 : ck mX6_item b_X6_item_36 36 = true := by decide +kernel
def b_X6_item_37 : List Ent := [(.iload_n 3, 1, [], 0), (.i2l, 1, [], 0), (.lconst 0, 1, [], 0), (.aload_n 0, 1, [], 0), (.getfield 31, 3, [6, 15, 8, 866], 0), (.iload_n 1, 1, [], 0), (.iaload, 1, [7], 0), (.iconst 1, 1, [], 0), (.isub, 1, [], 0), (.i2l, 1, [], 0)]
theorem a_X6_item_37 : ck mX6_item b_X6_item_37 37 = true := by decide +kernel
theorem k_X6_item_49 : CS mX6_item 49 mX6_isIn := CS.of 54 935 936 (by decide +kernel) (by decide +kernel) (by decide +kernel)
def b_X6_item_52 : List Ent := [(.ifCond .eq 17, 3, [69], 0)]
theorem a_X6_item_52 : ck mX6_item b_X6_item_52 52 = true := by decide +kernel
def b_X6_item_55 : List Ent := [(.aload_n 0, 1, [], 0), (.getfield 34, 3, [6, 16, 9, 867], 0), (.bipush 40, 2, [], 0), (.iload_n 1, 1, [], 0), (.imul, 1, [], 0), (.iload_n 3, 1, [], 0), (.iadd, 1, [], 0), (.iaload, 1, [7], 0), (.goto 5, 3, [71], 0)]
theorem a_X6_item_55 : ck mX6_item b_X6_item_55 55 = true := by decide +kernel
def b_X6_item_69 : List Ent := [(.bipush (-12), 2, [], 0)]
theorem a_X6_item_69 : ck mX6_item b_X6_item_69 69 = true := by decide +kernel
def b_X6_item_71 : List Ent := [(.ireturn, 1, [0], 0)]
theorem a_X6_item_71 : ck mX6_item b_X6_item_71 71 = true := by decide +kernel
theorem o_X6_itemHere : MOK mX6_itemHere 0 := MOK.of 963 64 (by decide +kernel) (by decide +kernel) (by decide +kernel) (by decide +kernel) (by decide +kernel)
def b_X6_itemHere_0 : List Ent := [(.aload_n 0, 1, [], 0)]
theorem a_X6_itemHere_0 : ck mX6_itemHere b_X6_itemHere_0 0 = true := by decide +kernel
theorem k_X6_itemHere_1 : CV mX6_itemHere 1 mX6_kindHere := CV.of 120 964 966 13 (by decide +kernel) (by decide +kernel) (by decide +kernel) (by decide +kernel)
def b_X6_itemHere_4 : List Ent := [(.istore_n 1, 1, [], 0), (.aload_n 0, 1, [], 0)]
theorem a_X6_itemHere_4 : ck mX6_itemHere b_X6_itemHere_4 4 = true := by decide +kernel
theorem k_X6_itemHere_6 : CV mX6_itemHere 6 mX6_lawHere := CV.of 124 984 986 18 (by decide +kernel) (by decide +kernel) (by decide +kernel) (by decide +kernel)
def b_X6_itemHere_9 : List Ent := [(.istore_n 2, 1, [], 0), (.iload_n 1, 1, [], 0), (.ifCond .lt 11, 3, [22], 0)]
theorem a_X6_itemHere_9 : ck mX6_itemHere b_X6_itemHere_9 9 = true := by decide +kernel
def b_X6_itemHere_14 : List Ent := [(.aload_n 0, 1, [], 0), (.iload_n 1, 1, [], 0)]
theorem a_X6_itemHere_14 : ck mX6_itemHere b_X6_itemHere_14 14 = true := by decide +kernel
theorem k_X6_itemHere_16 : CV mX6_itemHere 16 mX6_branchHere := CV.of 127 988 990 19 (by decide +kernel) (by decide +kernel) (by decide +kernel) (by decide +kernel)
def b_X6_itemHere_19 : List Ent := [(.goto 37, 3, [56], 0)]
theorem a_X6_itemHere_19 : ck mX6_itemHere b_X6_itemHere_19 19 = true := by decide +kernel
def b_X6_itemHere_22 : List Ent := [(.iload_n 2, 1, [], 0), (.ifCond .lt 28, 3, [51], 0)]
theorem a_X6_itemHere_22 : ck mX6_itemHere b_X6_itemHere_22 22 = true := by decide +kernel
def b_X6_itemHere_26 : List Ent := [(.aload_n 0, 1, [], 0)]
theorem a_X6_itemHere_26 : ck mX6_itemHere b_X6_itemHere_26 26 = true := by decide +kernel
theorem k_X6_itemHere_27 : CV mX6_itemHere 27 mX6_nextToken := CV.of 91 946 948 10 (by decide +kernel) (by decide +kernel) (by decide +kernel) (by decide +kernel)
def b_X6_itemHere_30 : List Ent := [(.aload_n 0, 1, [], 0), (.iload_n 2, 1, [], 0), (.iload_n 2, 1, [], 0), (.bipush 7, 2, [], 0), (.if_icmp .ne 8, 3, [43], 0)]
theorem a_X6_itemHere_30 : ck mX6_itemHere b_X6_itemHere_30 30 = true := by decide +kernel
def b_X6_itemHere_38 : List Ent := [(.bipush 99, 2, [], 0), (.goto 5, 3, [45], 0)]
theorem a_X6_itemHere_38 : ck mX6_itemHere b_X6_itemHere_38 38 = true := by decide +kernel
def b_X6_itemHere_43 : List Ent := [(.bipush 9, 2, [], 0)]
theorem a_X6_itemHere_43 : ck mX6_itemHere b_X6_itemHere_43 43 = true := by decide +kernel
theorem k_X6_itemHere_45 : CV mX6_itemHere 45 mX6_numberTo := CV.of 112 996 998 21 (by decide +kernel) (by decide +kernel) (by decide +kernel) (by decide +kernel)
def b_X6_itemHere_48 : List Ent := [(.goto 8, 3, [56], 0)]
theorem a_X6_itemHere_48 : ck mX6_itemHere b_X6_itemHere_48 48 = true := by decide +kernel
def b_X6_itemHere_51 : List Ent := [(.aload_n 0, 1, [], 0), (.iconst 0, 1, [], 0)]
theorem a_X6_itemHere_51 : ck mX6_itemHere b_X6_itemHere_51 51 = true := by decide +kernel
theorem k_X6_itemHere_53 : CV mX6_itemHere 53 mX6_needs := CV.of 108 992 994 20 (by decide +kernel) (by decide +kernel) (by decide +kernel) (by decide +kernel)
def b_X6_itemHere_56 : List Ent := [(.aload_n 0, 1, [], 0), (.aload_n 0, 1, [], 0), (.getfield 81, 3, [6, 7, 0, 858], 0), (.iconst 3, 1, [], 0), (.if_icmp .ne 20, 3, [82], 0)]
theorem a_X6_itemHere_56 : ck mX6_itemHere b_X6_itemHere_56 56 = true := by decide +kernel
def b_X6_itemHere_65 : List Ent := [(.aload_n 0, 1, [], 0), (.aload_n 0, 1, [], 0), (.getfield 67, 3, [6, 8, 0, 859], 0)]
theorem a_X6_itemHere_65 : ck mX6_itemHere b_X6_itemHere_65 65 = true := by decide +kernel
theorem k_X6_itemHere_70 : CV mX6_itemHere 70 mX6_byteAt := CV.of 70 950 952 11 (by decide +kernel) (by decide +kernel) (by decide +kernel) (by decide +kernel)
def b_X6_itemHere_73 : List Ent := [(.bipush 59, 2, [], 0), (.if_icmp .ne 7, 3, [82], 0)]
theorem a_X6_itemHere_73 : ck mX6_itemHere b_X6_itemHere_73 73 = true := by decide +kernel
def b_X6_itemHere_78 : List Ent := [(.iconst 1, 1, [], 0), (.goto 4, 3, [83], 0)]
theorem a_X6_itemHere_78 : ck mX6_itemHere b_X6_itemHere_78 78 = true := by decide +kernel
def b_X6_itemHere_82 : List Ent := [(.iconst 0, 1, [], 0)]
theorem a_X6_itemHere_82 : ck mX6_itemHere b_X6_itemHere_82 82 = true := by decide +kernel
theorem k_X6_itemHere_83 : CV mX6_itemHere 83 mX6_needs := CV.of 108 992 994 20 (by decide +kernel) (by decide +kernel) (by decide +kernel) (by decide +kernel)
def b_X6_itemHere_86 : List Ent := [(.return_, 1, [], 0)]
theorem a_X6_itemHere_86 : ck mX6_itemHere b_X6_itemHere_86 86 = true := by decide +kernel
theorem o_X6_its : MOK mX6_its 2 := MOK.of 1036 64 (by decide +kernel) (by decide +kernel) (by decide +kernel) (by decide +kernel) (by decide +kernel)
def b_X6_its_0 : List Ent := [(.aload_n 0, 1, [], 0), (.getfield 7, 3, [6, 0, 1, 851], 0), (.bipush 8, 2, [], 0), (.bipush 6, 2, [], 0), (.iload_n 1, 1, [], 0), (.imul, 1, [], 0), (.iadd, 1, [], 0), (.iload_n 2, 1, [], 0), (.iadd, 1, [], 0), (.iaload, 1, [7], 0), (.ireturn, 1, [0], 0)]
theorem a_X6_its_0 : ck mX6_its b_X6_its_0 0 = true := by decide +kernel
theorem o_X6_judge : MOK mX6_judge 1 := MOK.of 1258 64 (by decide +kernel) (by decide +kernel) (by decide +kernel) (by decide +kernel) (by decide +kernel)
def b_X6_judge_0 : List Ent := [(.aload_n 0, 1, [], 0), (.iload_n 1, 1, [], 0)]
theorem a_X6_judge_0 : ck mX6_judge b_X6_judge_0 0 = true := by decide +kernel
theorem k_X6_judge_2 : CV mX6_judge 2 mX6_isOne := CV.of 162 1028 1030 24 (by decide +kernel) (by decide +kernel) (by decide +kernel) (by decide +kernel)
def b_X6_judge_5 : List Ent := [(.ifCond .ne 5, 3, [10], 0)]
theorem a_X6_judge_5 : ck mX6_judge b_X6_judge_5 5 = true := by decide +kernel
def b_X6_judge_8 : List Ent := [(.iconst (-1), 1, [], 0), (.ireturn, 1, [0], 0)]
theorem a_X6_judge_8 : ck mX6_judge b_X6_judge_8 8 = true := by decide +kernel
def b_X6_judge_10 : List Ent := [(.aload_n 0, 1, [], 0), (.getfield 7, 3, [6, 0, 1, 851], 0), (.aload_n 0, 1, [], 0), (.getfield 16, 3, [6, 2, 3, 853], 0)]
theorem a_X6_judge_10 : ck mX6_judge b_X6_judge_10 10 = true := by decide +kernel
theorem k_X6_judge_18 : CS mX6_judge 18 mX6_copyRow := CS.of 131 943 944 (by decide +kernel) (by decide +kernel) (by decide +kernel)
def b_X6_judge_21 : List Ent := [(.iconst 0, 1, [], 0), (.istore_n 2, 1, [], 0), (.iconst 1, 1, [], 0), (.istore_n 3, 1, [], 0)]
theorem a_X6_judge_21 : ck mX6_judge b_X6_judge_21 21 = true := by decide +kernel
def b_X6_judge_25 : List Ent := [(.iload_n 2, 1, [], 0), (.aload_n 0, 1, [], 0), (.getfield 138, 3, [6, 13, 0, 864], 0), (.if_icmp .ge 79, 3, [109], 0)]
theorem a_X6_judge_25 : ck mX6_judge b_X6_judge_25 25 = true := by decide +kernel
def b_X6_judge_33 : List Ent := [(.iload_n 3, 1, [], 0), (.ifCond .eq 75, 3, [109], 0)]
theorem a_X6_judge_33 : ck mX6_judge b_X6_judge_33 33 = true := by decide +kernel
def b_X6_judge_37 : List Ent := [(.aload_n 0, 1, [], 0), (.getfield 25, 3, [6, 12, 6, 863], 0), (.iconst 3, 1, [], 0), (.iload_n 2, 1, [], 0), (.imul, 1, [], 0), (.iconst 2, 1, [], 0), (.iadd, 1, [], 0), (.iaload, 1, [7], 0), (.aload_n 0, 1, [], 0)]
theorem a_X6_judge_37 : ck mX6_judge b_X6_judge_37 37 = true := by decide +kernel
theorem k_X6_judge_48 : CV mX6_judge 48 mX6_goesOn := CV.of 203 1109 1111 34 (by decide +kernel) (by decide +kernel) (by decide +kernel) (by decide +kernel)
def b_X6_judge_51 : List Ent := [(.if_icmp .ne 50, 3, [101], 0)]
theorem a_X6_judge_51 : ck mX6_judge b_X6_judge_51 51 = true := by decide +kernel
def b_X6_judge_54 : List Ent := [(.aload_n 0, 1, [], 0), (.getfield 25, 3, [6, 12, 6, 863], 0), (.iconst 3, 1, [], 0), (.iload_n 2, 1, [], 0), (.imul, 1, [], 0), (.iaload, 1, [7], 0), (.aload_n 0, 1, [], 0), (.iload_n 1, 1, [], 0), (.iconst 2, 1, [], 0)]
theorem a_X6_judge_54 : ck mX6_judge b_X6_judge_54 54 = true := by decide +kernel
theorem k_X6_judge_65 : CV mX6_judge 65 mX6_its := CV.of 153 1033 1035 25 (by decide +kernel) (by decide +kernel) (by decide +kernel) (by decide +kernel)
def b_X6_judge_68 : List Ent := [(.if_icmp .ne 33, 3, [101], 0)]
theorem a_X6_judge_68 : ck mX6_judge b_X6_judge_68 68 = true := by decide +kernel
def b_X6_judge_71 : List Ent := [(.aload_n 0, 1, [], 0), (.getfield 25, 3, [6, 12, 6, 863], 0), (.iconst 3, 1, [], 0), (.iload_n 2, 1, [], 0), (.imul, 1, [], 0), (.iconst 1, 1, [], 0), (.iadd, 1, [], 0), (.iaload, 1, [7], 0), (.aload_n 0, 1, [], 0), (.iload_n 1, 1, [], 0)]
theorem a_X6_judge_71 : ck mX6_judge b_X6_judge_71 71 = true := by decide +kernel
theorem k_X6_judge_83 : CV mX6_judge 83 mX6_stands := CV.of 156 1041 1043 27 (by decide +kernel) (by decide +kernel) (by decide +kernel) (by decide +kernel)
def b_X6_judge_86 : List Ent := [(.ifCond .eq 7, 3, [93], 0)]
theorem a_X6_judge_86 : ck mX6_judge b_X6_judge_86 86 = true := by decide +kernel
def b_X6_judge_89 : List Ent := [(.iconst 1, 1, [], 0), (.goto 4, 3, [94], 0)]
theorem a_X6_judge_89 : ck mX6_judge b_X6_judge_89 89 = true := by decide +kernel
def b_X6_judge_93 : List Ent := [(.iconst 0, 1, [], 0)]
theorem a_X6_judge_93 : ck mX6_judge b_X6_judge_93 93 = true := by decide +kernel
def b_X6_judge_94 : List Ent := [(.if_icmp .ne 7, 3, [101], 0)]
theorem a_X6_judge_94 : ck mX6_judge b_X6_judge_94 94 = true := by decide +kernel
def b_X6_judge_97 : List Ent := [(.iconst 1, 1, [], 0), (.goto 4, 3, [102], 0)]
theorem a_X6_judge_97 : ck mX6_judge b_X6_judge_97 97 = true := by decide +kernel
def b_X6_judge_101 : List Ent := [(.iconst 0, 1, [], 0)]
theorem a_X6_judge_101 : ck mX6_judge b_X6_judge_101 101 = true := by decide +kernel
def b_X6_judge_102 : List Ent := [(.istore_n 3, 1, [], 0), (.iinc 2 1, 3, [], 0), (.goto (-81), 3, [25], 0)]
theorem a_X6_judge_102 : ck mX6_judge b_X6_judge_102 102 = true := by decide +kernel
def b_X6_judge_109 : List Ent := [(.aload_n 0, 1, [], 0), (.getfield 16, 3, [6, 2, 3, 853], 0), (.aload_n 0, 1, [], 0), (.getfield 7, 3, [6, 0, 1, 851], 0)]
theorem a_X6_judge_109 : ck mX6_judge b_X6_judge_109 109 = true := by decide +kernel
theorem k_X6_judge_117 : CS mX6_judge 117 mX6_copyRow := CS.of 131 943 944 (by decide +kernel) (by decide +kernel) (by decide +kernel)
def b_X6_judge_120 : List Ent := [(.iload_n 3, 1, [], 0), (.ifCond .eq 7, 3, [128], 0)]
theorem a_X6_judge_120 : ck mX6_judge b_X6_judge_120 120 = true := by decide +kernel
def b_X6_judge_124 : List Ent := [(.iconst 0, 1, [], 0), (.goto 4, 3, [129], 0)]
theorem a_X6_judge_124 : ck mX6_judge b_X6_judge_124 124 = true := by decide +kernel
def b_X6_judge_128 : List Ent := [(.iload_n 2, 1, [], 0)]
theorem a_X6_judge_128 : ck mX6_judge b_X6_judge_128 128 = true := by decide +kernel
def b_X6_judge_129 : List Ent := [(.ireturn, 1, [0], 0)]
theorem a_X6_judge_129 : ck mX6_judge b_X6_judge_129 129 = true := by decide +kernel
theorem o_X6_keep : MOK mX6_keep 0 := MOK.of 1354 64 (by decide +kernel) (by decide +kernel) (by decide +kernel) (by decide +kernel) (by decide +kernel)
def b_X6_keep_0 : List Ent := [(.iconst 0, 1, [], 0), (.istore_n 1, 1, [], 0)]
theorem a_X6_keep_0 : ck mX6_keep b_X6_keep_0 0 = true := by decide +kernel
def b_X6_keep_2 : List Ent := [(.iload_n 1, 1, [], 0), (.bipush 56, 2, [], 0), (.if_icmp .ge 21, 3, [26], 0)]
theorem a_X6_keep_2 : ck mX6_keep b_X6_keep_2 2 = true := by decide +kernel
def b_X6_keep_8 : List Ent := [(.aload_n 0, 1, [], 0), (.getfield 13, 3, [6, 1, 2, 852], 0), (.iload_n 1, 1, [], 0), (.aload_n 0, 1, [], 0), (.getfield 7, 3, [6, 0, 1, 851], 0), (.iload_n 1, 1, [], 0), (.iaload, 1, [7], 0), (.iastore, 1, [], 0), (.iinc 1 1, 3, [], 0), (.goto (-21), 3, [2], 0)]
theorem a_X6_keep_8 : ck mX6_keep b_X6_keep_8 8 = true := by decide +kernel
def b_X6_keep_26 : List Ent := [(.aload_n 0, 1, [], 0), (.iconst 1, 1, [], 0), (.putfield 326, 3, [6, 4, 1, 855], 0), (.iconst 1, 1, [], 0), (.ireturn, 1, [0], 0)]
theorem a_X6_keep_26 : ck mX6_keep b_X6_keep_26 26 = true := by decide +kernel
theorem o_X6_kindFor : MOK mX6_kindFor 2 := MOK.of 1194 64 (by decide +kernel) (by decide +kernel) (by decide +kernel) (by decide +kernel) (by decide +kernel)
def b_X6_kindFor_0 : List Ent := [(.aload_n 0, 1, [], 0), (.iload_n 1, 1, [], 0)]
theorem a_X6_kindFor_0 : ck mX6_kindFor b_X6_kindFor_0 0 = true := by decide +kernel
theorem k_X6_kindFor_2 : CV mX6_kindFor 2 mX6_isOne := CV.of 162 1028 1030 24 (by decide +kernel) (by decide +kernel) (by decide +kernel) (by decide +kernel)
def b_X6_kindFor_5 : List Ent := [(.ifCond .eq 10, 3, [15], 0)]
theorem a_X6_kindFor_5 : ck mX6_kindFor b_X6_kindFor_5 5 = true := by decide +kernel
def b_X6_kindFor_8 : List Ent := [(.iload_n 2, 1, [], 0)]
theorem a_X6_kindFor_8 : ck mX6_kindFor b_X6_kindFor_8 8 = true := by decide +kernel
theorem k_X6_kindFor_9 : CS mX6_kindFor 9 mX6_isShort := CS.of 233 1182 1183 (by decide +kernel) (by decide +kernel) (by decide +kernel)
def b_X6_kindFor_12 : List Ent := [(.ifCond .ne 5, 3, [17], 0)]
theorem a_X6_kindFor_12 : ck mX6_kindFor b_X6_kindFor_12 12 = true := by decide +kernel
def b_X6_kindFor_15 : List Ent := [(.iconst (-1), 1, [], 0), (.ireturn, 1, [0], 0)]
theorem a_X6_kindFor_15 : ck mX6_kindFor b_X6_kindFor_15 15 = true := by decide +kernel
def b_X6_kindFor_17 : List Ent := [(.bipush 8, 2, [], 0), (.bipush 6, 2, [], 0), (.iload_n 1, 1, [], 0), (.imul, 1, [], 0), (.iadd, 1, [], 0), (.istore_n 3, 1, [], 0), (.aload_n 0, 1, [], 0), (.getfield 7, 3, [6, 0, 1, 851], 0), (.iload_n 3, 1, [], 0), (.iaload, 1, [7], 0), (.istore 4, 2, [], 0), (.iconst 0, 1, [], 0), (.istore 5, 2, [], 0), (.iconst (-1), 1, [], 0), (.istore 6, 2, [], 0), (.iconst 0, 1, [], 0), (.istore 7, 2, [], 0)]
theorem a_X6_kindFor_17 : ck mX6_kindFor b_X6_kindFor_17 17 = true := by decide +kernel
def b_X6_kindFor_42 : List Ent := [(.iload 7, 2, [], 0), (.iconst 5, 1, [], 0), (.if_icmp .gt 57, 3, [102], 0)]
theorem a_X6_kindFor_42 : ck mX6_kindFor b_X6_kindFor_42 42 = true := by decide +kernel
def b_X6_kindFor_48 : List Ent := [(.aload_n 0, 1, [], 0), (.getfield 7, 3, [6, 0, 1, 851], 0), (.iload_n 3, 1, [], 0), (.iload 7, 2, [], 0), (.iastore, 1, [], 0), (.aload_n 0, 1, [], 0), (.iload_n 2, 1, [], 0), (.iconst 0, 1, [], 0)]
theorem a_X6_kindFor_48 : ck mX6_kindFor b_X6_kindFor_48 48 = true := by decide +kernel
theorem k_X6_kindFor_59 : CV mX6_kindFor 59 mX6_harvestBy := CV.of 224 1162 1164 40 (by decide +kernel) (by decide +kernel) (by decide +kernel) (by decide +kernel)
def b_X6_kindFor_62 : List Ent := [(.istore 8, 2, [], 0), (.iload 8, 2, [], 0), (.iload 6, 2, [], 0), (.if_icmp .le 8, 3, [76], 0)]
theorem a_X6_kindFor_62 : ck mX6_kindFor b_X6_kindFor_62 62 = true := by decide +kernel
def b_X6_kindFor_71 : List Ent := [(.iload 7, 2, [], 0), (.goto 5, 3, [78], 0)]
theorem a_X6_kindFor_71 : ck mX6_kindFor b_X6_kindFor_71 71 = true := by decide +kernel
def b_X6_kindFor_76 : List Ent := [(.iload 5, 2, [], 0)]
theorem a_X6_kindFor_76 : ck mX6_kindFor b_X6_kindFor_76 76 = true := by decide +kernel
def b_X6_kindFor_78 : List Ent := [(.istore 5, 2, [], 0), (.iload 8, 2, [], 0), (.iload 6, 2, [], 0), (.if_icmp .le 8, 3, [92], 0)]
theorem a_X6_kindFor_78 : ck mX6_kindFor b_X6_kindFor_78 78 = true := by decide +kernel
def b_X6_kindFor_87 : List Ent := [(.iload 8, 2, [], 0), (.goto 5, 3, [94], 0)]
theorem a_X6_kindFor_87 : ck mX6_kindFor b_X6_kindFor_87 87 = true := by decide +kernel
def b_X6_kindFor_92 : List Ent := [(.iload 6, 2, [], 0)]
theorem a_X6_kindFor_92 : ck mX6_kindFor b_X6_kindFor_92 92 = true := by decide +kernel
def b_X6_kindFor_94 : List Ent := [(.istore 6, 2, [], 0), (.iinc 7 1, 3, [], 0), (.goto (-57), 3, [42], 0)]
theorem a_X6_kindFor_94 : ck mX6_kindFor b_X6_kindFor_94 94 = true := by decide +kernel
def b_X6_kindFor_102 : List Ent := [(.aload_n 0, 1, [], 0), (.getfield 7, 3, [6, 0, 1, 851], 0), (.iload_n 3, 1, [], 0), (.iload 4, 2, [], 0), (.iastore, 1, [], 0), (.iload 5, 2, [], 0), (.ireturn, 1, [0], 0)]
theorem a_X6_kindFor_102 : ck mX6_kindFor b_X6_kindFor_102 102 = true := by decide +kernel
theorem o_X6_kindHere : MOK mX6_kindHere 0 := MOK.of 967 64 (by decide +kernel) (by decide +kernel) (by decide +kernel) (by decide +kernel) (by decide +kernel)
def b_X6_kindHere_0 : List Ent := [(.aload_n 0, 1, [], 0), (.bipush 6, 2, [], 0), (.bipush 98, 2, [], 0), (.bipush 114, 2, [], 0), (.bipush 97, 2, [], 0), (.bipush 104, 2, [], 0)]
theorem a_X6_kindHere_0 : ck mX6_kindHere b_X6_kindHere_0 0 = true := by decide +kernel
theorem k_X6_kindHere_11 : CV mX6_kindHere 11 mX6_isName := CV.of 94 968 970 14 (by decide +kernel) (by decide +kernel) (by decide +kernel) (by decide +kernel)
def b_X6_kindHere_14 : List Ent := [(.ifCond .eq 19, 3, [33], 0)]
theorem a_X6_kindHere_14 : ck mX6_kindHere b_X6_kindHere_14 14 = true := by decide +kernel
def b_X6_kindHere_17 : List Ent := [(.aload_n 0, 1, [], 0), (.iconst 2, 1, [], 0), (.bipush 97, 2, [], 0), (.bipush 110, 2, [], 0), (.bipush 99, 2, [], 0)]
theorem a_X6_kindHere_17 : ck mX6_kindHere b_X6_kindHere_17 17 = true := by decide +kernel
theorem k_X6_kindHere_25 : CV mX6_kindHere 25 mX6_isSame := CV.of 98 972 974 15 (by decide +kernel) (by decide +kernel) (by decide +kernel) (by decide +kernel)
def b_X6_kindHere_28 : List Ent := [(.ifCond .eq 5, 3, [33], 0)]
theorem a_X6_kindHere_28 : ck mX6_kindHere b_X6_kindHere_28 28 = true := by decide +kernel
def b_X6_kindHere_31 : List Ent := [(.iconst 0, 1, [], 0), (.ireturn, 1, [0], 0)]
theorem a_X6_kindHere_31 : ck mX6_kindHere b_X6_kindHere_31 31 = true := by decide +kernel
def b_X6_kindHere_33 : List Ent := [(.aload_n 0, 1, [], 0), (.bipush 115, 2, [], 0), (.bipush 112, 2, [], 0), (.bipush 117, 2, [], 0), (.bipush 114, 2, [], 0)]
theorem a_X6_kindHere_33 : ck mX6_kindHere b_X6_kindHere_33 33 = true := by decide +kernel
theorem k_X6_kindHere_42 : CV mX6_kindHere 42 mX6_isFour := CV.of 102 976 978 16 (by decide +kernel) (by decide +kernel) (by decide +kernel) (by decide +kernel)
def b_X6_kindHere_45 : List Ent := [(.ifCond .eq 5, 3, [50], 0)]
theorem a_X6_kindHere_45 : ck mX6_kindHere b_X6_kindHere_45 45 = true := by decide +kernel
def b_X6_kindHere_48 : List Ent := [(.iconst 1, 1, [], 0), (.ireturn, 1, [0], 0)]
theorem a_X6_kindHere_48 : ck mX6_kindHere b_X6_kindHere_48 48 = true := by decide +kernel
def b_X6_kindHere_50 : List Ent := [(.aload_n 0, 1, [], 0), (.bipush 98, 2, [], 0), (.bipush 111, 2, [], 0), (.bipush 117, 2, [], 0), (.bipush 103, 2, [], 0), (.bipush 104, 2, [], 0)]
theorem a_X6_kindHere_50 : ck mX6_kindHere b_X6_kindHere_50 50 = true := by decide +kernel
theorem k_X6_kindHere_61 : CV mX6_kindHere 61 mX6_isFive := CV.of 105 980 982 17 (by decide +kernel) (by decide +kernel) (by decide +kernel) (by decide +kernel)
def b_X6_kindHere_64 : List Ent := [(.ifCond .eq 5, 3, [69], 0)]
theorem a_X6_kindHere_64 : ck mX6_kindHere b_X6_kindHere_64 64 = true := by decide +kernel
def b_X6_kindHere_67 : List Ent := [(.iconst 2, 1, [], 0), (.ireturn, 1, [0], 0)]
theorem a_X6_kindHere_67 : ck mX6_kindHere b_X6_kindHere_67 67 = true := by decide +kernel
def b_X6_kindHere_69 : List Ent := [(.aload_n 0, 1, [], 0), (.iconst 3, 1, [], 0), (.bipush 98, 2, [], 0), (.bipush 117, 2, [], 0), (.bipush 100, 2, [], 0), (.bipush 100, 2, [], 0)]
theorem a_X6_kindHere_69 : ck mX6_kindHere b_X6_kindHere_69 69 = true := by decide +kernel
theorem k_X6_kindHere_79 : CV mX6_kindHere 79 mX6_isName := CV.of 94 968 970 14 (by decide +kernel) (by decide +kernel) (by decide +kernel) (by decide +kernel)
def b_X6_kindHere_82 : List Ent := [(.ifCond .eq 5, 3, [87], 0)]
theorem a_X6_kindHere_82 : ck mX6_kindHere b_X6_kindHere_82 82 = true := by decide +kernel
def b_X6_kindHere_85 : List Ent := [(.iconst 3, 1, [], 0), (.ireturn, 1, [0], 0)]
theorem a_X6_kindHere_85 : ck mX6_kindHere b_X6_kindHere_85 85 = true := by decide +kernel
def b_X6_kindHere_87 : List Ent := [(.aload_n 0, 1, [], 0), (.bipush 108, 2, [], 0), (.bipush 105, 2, [], 0), (.bipush 109, 2, [], 0), (.bipush 98, 2, [], 0)]
theorem a_X6_kindHere_87 : ck mX6_kindHere b_X6_kindHere_87 87 = true := by decide +kernel
theorem k_X6_kindHere_96 : CV mX6_kindHere 96 mX6_isFour := CV.of 102 976 978 16 (by decide +kernel) (by decide +kernel) (by decide +kernel) (by decide +kernel)
def b_X6_kindHere_99 : List Ent := [(.ifCond .eq 5, 3, [104], 0)]
theorem a_X6_kindHere_99 : ck mX6_kindHere b_X6_kindHere_99 99 = true := by decide +kernel
def b_X6_kindHere_102 : List Ent := [(.iconst 4, 1, [], 0), (.ireturn, 1, [0], 0)]
theorem a_X6_kindHere_102 : ck mX6_kindHere b_X6_kindHere_102 102 = true := by decide +kernel
def b_X6_kindHere_104 : List Ent := [(.aload_n 0, 1, [], 0), (.bipush 103, 2, [], 0), (.bipush 114, 2, [], 0), (.bipush 97, 2, [], 0), (.bipush 102, 2, [], 0), (.bipush 116, 2, [], 0)]
theorem a_X6_kindHere_104 : ck mX6_kindHere b_X6_kindHere_104 104 = true := by decide +kernel
theorem k_X6_kindHere_115 : CV mX6_kindHere 115 mX6_isFive := CV.of 105 980 982 17 (by decide +kernel) (by decide +kernel) (by decide +kernel) (by decide +kernel)
def b_X6_kindHere_118 : List Ent := [(.ifCond .eq 7, 3, [125], 0)]
theorem a_X6_kindHere_118 : ck mX6_kindHere b_X6_kindHere_118 118 = true := by decide +kernel
def b_X6_kindHere_121 : List Ent := [(.iconst 5, 1, [], 0), (.goto 4, 3, [126], 0)]
theorem a_X6_kindHere_121 : ck mX6_kindHere b_X6_kindHere_121 121 = true := by decide +kernel
def b_X6_kindHere_125 : List Ent := [(.iconst (-1), 1, [], 0)]
theorem a_X6_kindHere_125 : ck mX6_kindHere b_X6_kindHere_125 125 = true := by decide +kernel
def b_X6_kindHere_126 : List Ent := [(.ireturn, 1, [0], 0)]
theorem a_X6_kindHere_126 : ck mX6_kindHere b_X6_kindHere_126 126 = true := by decide +kernel
theorem o_X6_lacks : MOK mX6_lacks 2 := MOK.of 1274 64 (by decide +kernel) (by decide +kernel) (by decide +kernel) (by decide +kernel) (by decide +kernel)
def b_X6_lacks_0 : List Ent := [(.aload_n 0, 1, [], 0), (.getfield 28, 3, [6, 14, 7, 865], 0), (.iload_n 1, 1, [], 0), (.iaload, 1, [7], 0), (.ifCond .ge 8, 3, [14], 0)]
theorem a_X6_lacks_0 : ck mX6_lacks b_X6_lacks_0 0 = true := by decide +kernel
def b_X6_lacks_9 : List Ent := [(.bipush (-11), 2, [], 0), (.goto 19, 3, [30], 0)]
theorem a_X6_lacks_9 : ck mX6_lacks b_X6_lacks_9 9 = true := by decide +kernel
def b_X6_lacks_14 : List Ent := [(.aload_n 0, 1, [], 0), (.getfield 28, 3, [6, 14, 7, 865], 0), (.iload_n 1, 1, [], 0), (.iaload, 1, [7], 0), (.iload_n 2, 1, [], 0), (.if_icmp .eq 8, 3, [29], 0)]
theorem a_X6_lacks_14 : ck mX6_lacks b_X6_lacks_14 14 = true := by decide +kernel
def b_X6_lacks_24 : List Ent := [(.bipush (-13), 2, [], 0), (.goto 4, 3, [30], 0)]
theorem a_X6_lacks_24 : ck mX6_lacks b_X6_lacks_24 24 = true := by decide +kernel
def b_X6_lacks_29 : List Ent := [(.iconst 0, 1, [], 0)]
theorem a_X6_lacks_29 : ck mX6_lacks b_X6_lacks_29 29 = true := by decide +kernel
def b_X6_lacks_30 : List Ent := [(.ireturn, 1, [0], 0)]
theorem a_X6_lacks_30 : ck mX6_lacks b_X6_lacks_30 30 = true := by decide +kernel
theorem o_X6_lawHere : MOK mX6_lawHere 0 := MOK.of 987 64 (by decide +kernel) (by decide +kernel) (by decide +kernel) (by decide +kernel) (by decide +kernel)
def b_X6_lawHere_0 : List Ent := [(.aload_n 0, 1, [], 0), (.bipush 115, 2, [], 0), (.bipush 104, 2, [], 0), (.bipush 97, 2, [], 0), (.bipush 100, 2, [], 0), (.bipush 101, 2, [], 0)]
theorem a_X6_lawHere_0 : ck mX6_lawHere b_X6_lawHere_0 0 = true := by decide +kernel
theorem k_X6_lawHere_11 : CV mX6_lawHere 11 mX6_isFive := CV.of 105 980 982 17 (by decide +kernel) (by decide +kernel) (by decide +kernel) (by decide +kernel)
def b_X6_lawHere_14 : List Ent := [(.ifCond .eq 5, 3, [19], 0)]
theorem a_X6_lawHere_14 : ck mX6_lawHere b_X6_lawHere_14 14 = true := by decide +kernel
def b_X6_lawHere_17 : List Ent := [(.iconst 4, 1, [], 0), (.ireturn, 1, [0], 0)]
theorem a_X6_lawHere_17 : ck mX6_lawHere b_X6_lawHere_17 17 = true := by decide +kernel
def b_X6_lawHere_19 : List Ent := [(.aload_n 0, 1, [], 0), (.iconst 3, 1, [], 0), (.bipush 115, 2, [], 0), (.bipush 117, 2, [], 0), (.bipush 110, 2, [], 0), (.bipush 110, 2, [], 0)]
theorem a_X6_lawHere_19 : ck mX6_lawHere b_X6_lawHere_19 19 = true := by decide +kernel
theorem k_X6_lawHere_29 : CV mX6_lawHere 29 mX6_isName := CV.of 94 968 970 14 (by decide +kernel) (by decide +kernel) (by decide +kernel) (by decide +kernel)
def b_X6_lawHere_32 : List Ent := [(.ifCond .eq 5, 3, [37], 0)]
theorem a_X6_lawHere_32 : ck mX6_lawHere b_X6_lawHere_32 32 = true := by decide +kernel
def b_X6_lawHere_35 : List Ent := [(.iconst 5, 1, [], 0), (.ireturn, 1, [0], 0)]
theorem a_X6_lawHere_35 : ck mX6_lawHere b_X6_lawHere_35 35 = true := by decide +kernel
def b_X6_lawHere_37 : List Ent := [(.aload_n 0, 1, [], 0), (.bipush 114, 2, [], 0), (.bipush 97, 2, [], 0), (.bipush 105, 2, [], 0), (.bipush 110, 2, [], 0)]
theorem a_X6_lawHere_37 : ck mX6_lawHere b_X6_lawHere_37 37 = true := by decide +kernel
theorem k_X6_lawHere_46 : CV mX6_lawHere 46 mX6_isFour := CV.of 102 976 978 16 (by decide +kernel) (by decide +kernel) (by decide +kernel) (by decide +kernel)
def b_X6_lawHere_49 : List Ent := [(.ifCond .eq 6, 3, [55], 0)]
theorem a_X6_lawHere_49 : ck mX6_lawHere b_X6_lawHere_49 49 = true := by decide +kernel
def b_X6_lawHere_52 : List Ent := [(.bipush 6, 2, [], 0), (.ireturn, 1, [0], 0)]
theorem a_X6_lawHere_52 : ck mX6_lawHere b_X6_lawHere_52 52 = true := by decide +kernel
def b_X6_lawHere_55 : List Ent := [(.aload_n 0, 1, [], 0), (.bipush 102, 2, [], 0), (.bipush 114, 2, [], 0), (.bipush 111, 2, [], 0), (.bipush 115, 2, [], 0), (.bipush 116, 2, [], 0)]
theorem a_X6_lawHere_55 : ck mX6_lawHere b_X6_lawHere_55 55 = true := by decide +kernel
theorem k_X6_lawHere_66 : CV mX6_lawHere 66 mX6_isFive := CV.of 105 980 982 17 (by decide +kernel) (by decide +kernel) (by decide +kernel) (by decide +kernel)
def b_X6_lawHere_69 : List Ent := [(.ifCond .eq 8, 3, [77], 0)]
theorem a_X6_lawHere_69 : ck mX6_lawHere b_X6_lawHere_69 69 = true := by decide +kernel
def b_X6_lawHere_72 : List Ent := [(.bipush 7, 2, [], 0), (.goto 4, 3, [78], 0)]
theorem a_X6_lawHere_72 : ck mX6_lawHere b_X6_lawHere_72 72 = true := by decide +kernel
def b_X6_lawHere_77 : List Ent := [(.iconst (-1), 1, [], 0)]
theorem a_X6_lawHere_77 : ck mX6_lawHere b_X6_lawHere_77 77 = true := by decide +kernel
def b_X6_lawHere_78 : List Ent := [(.ireturn, 1, [0], 0)]
theorem a_X6_lawHere_78 : ck mX6_lawHere b_X6_lawHere_78 78 = true := by decide +kernel
theorem o_X6_lawOf : MOK mX6_lawOf 1 := MOK.of 1018 64 (by decide +kernel) (by decide +kernel) (by decide +kernel) (by decide +kernel) (by decide +kernel)
def b_X6_lawOf_0 : List Ent := [(.iload_n 1, 1, [], 0), (.i2l, 1, [], 0), (.lconst 0, 1, [], 0), (.ldc2_w 141, 3, [0, 1008], 3)]
theorem a_X6_lawOf_0 : ck mX6_lawOf b_X6_lawOf_0 0 = true := by decide +kernel
theorem k_X6_lawOf_6 : CS mX6_lawOf 6 mX6_isIn := CS.of 54 935 936 (by decide +kernel) (by decide +kernel) (by decide +kernel)
def b_X6_lawOf_9 : List Ent := [(.ifCond .eq 14, 3, [23], 0)]
theorem a_X6_lawOf_9 : ck mX6_lawOf b_X6_lawOf_9 9 = true := by decide +kernel
def b_X6_lawOf_12 : List Ent := [(.aload_n 0, 1, [], 0), (.getfield 7, 3, [6, 0, 1, 851], 0), (.iconst 4, 1, [], 0), (.iload_n 1, 1, [], 0), (.iadd, 1, [], 0), (.iaload, 1, [7], 0), (.goto 4, 3, [24], 0)]
theorem a_X6_lawOf_12 : ck mX6_lawOf b_X6_lawOf_12 12 = true := by decide +kernel
def b_X6_lawOf_23 : List Ent := [(.iconst (-1), 1, [], 0)]
theorem a_X6_lawOf_23 : ck mX6_lawOf b_X6_lawOf_23 23 = true := by decide +kernel
def b_X6_lawOf_24 : List Ent := [(.ireturn, 1, [0], 0)]
theorem a_X6_lawOf_24 : ck mX6_lawOf b_X6_lawOf_24 24 = true := by decide +kernel
theorem o_X6_leans : MOK mX6_leans 1 := MOK.of 1322 64 (by decide +kernel) (by decide +kernel) (by decide +kernel) (by decide +kernel) (by decide +kernel)
def b_X6_leans_0 : List Ent := [(.aload_n 0, 1, [], 0), (.getfield 293, 3, [6, 22, 0, 873], 0), (.iconst 1, 1, [], 0), (.if_icmp .eq 11, 3, [16], 0)]
theorem a_X6_leans_0 : ck mX6_leans b_X6_leans_0 0 = true := by decide +kernel
def b_X6_leans_8 : List Ent := [(.aload_n 0, 1, [], 0), (.getfield 293, 3, [6, 22, 0, 873], 0), (.iconst 3, 1, [], 0), (.if_icmp .ne 17, 3, [30], 0)]
theorem a_X6_leans_8 : ck mX6_leans b_X6_leans_8 8 = true := by decide +kernel
def b_X6_leans_16 : List Ent := [(.aload_n 0, 1, [], 0), (.bipush 20, 2, [], 0)]
theorem a_X6_leans_16 : ck mX6_leans b_X6_leans_16 16 = true := by decide +kernel
theorem k_X6_leans_19 : CV mX6_leans 19 mX6_runs := CV.of 284 1311 1313 49 (by decide +kernel) (by decide +kernel) (by decide +kernel) (by decide +kernel)
def b_X6_leans_22 : List Ent := [(.aload_n 0, 1, [], 0), (.iload_n 1, 1, [], 0)]
theorem a_X6_leans_22 : ck mX6_leans b_X6_leans_22 22 = true := by decide +kernel
theorem k_X6_leans_24 : CV mX6_leans 24 mX6_leansPlain := CV.of 305 1323 1325 52 (by decide +kernel) (by decide +kernel) (by decide +kernel) (by decide +kernel)
def b_X6_leans_27 : List Ent := [(.iconst 2, 1, [], 0), (.imul, 1, [], 0), (.ireturn, 1, [0], 0)]
theorem a_X6_leans_27 : ck mX6_leans b_X6_leans_27 27 = true := by decide +kernel
def b_X6_leans_30 : List Ent := [(.aload_n 0, 1, [], 0), (.getfield 293, 3, [6, 22, 0, 873], 0), (.iconst 4, 1, [], 0), (.if_icmp .ne 26, 3, [61], 0)]
theorem a_X6_leans_30 : ck mX6_leans b_X6_leans_30 30 = true := by decide +kernel
def b_X6_leans_38 : List Ent := [(.aload_n 0, 1, [], 0), (.bipush 41, 2, [], 0)]
theorem a_X6_leans_38 : ck mX6_leans b_X6_leans_38 38 = true := by decide +kernel
theorem k_X6_leans_41 : CV mX6_leans 41 mX6_runs := CV.of 284 1311 1313 49 (by decide +kernel) (by decide +kernel) (by decide +kernel) (by decide +kernel)
def b_X6_leans_44 : List Ent := [(.aload_n 0, 1, [], 0), (.iload_n 1, 1, [], 0)]
theorem a_X6_leans_44 : ck mX6_leans b_X6_leans_44 44 = true := by decide +kernel
theorem k_X6_leans_46 : CV mX6_leans 46 mX6_leansPlain := CV.of 305 1323 1325 52 (by decide +kernel) (by decide +kernel) (by decide +kernel) (by decide +kernel)
def b_X6_leans_49 : List Ent := [(.istore_n 2, 1, [], 0), (.iload_n 2, 1, [], 0), (.aload_n 0, 1, [], 0), (.aload_n 0, 1, [], 0), (.getfield 302, 3, [6, 24, 0, 875], 0)]
theorem a_X6_leans_49 : ck mX6_leans b_X6_leans_49 49 = true := by decide +kernel
theorem k_X6_leans_56 : CV mX6_leans 56 mX6_buds := CV.of 299 1303 1305 47 (by decide +kernel) (by decide +kernel) (by decide +kernel) (by decide +kernel)
def b_X6_leans_59 : List Ent := [(.ixor, 1, [], 0), (.ireturn, 1, [0], 0)]
theorem a_X6_leans_59 : ck mX6_leans b_X6_leans_59 59 = true := by decide +kernel
def b_X6_leans_61 : List Ent := [(.aload_n 0, 1, [], 0), (.iload_n 1, 1, [], 0)]
theorem a_X6_leans_61 : ck mX6_leans b_X6_leans_61 61 = true := by decide +kernel
theorem k_X6_leans_63 : CV mX6_leans 63 mX6_leansPlain := CV.of 305 1323 1325 52 (by decide +kernel) (by decide +kernel) (by decide +kernel) (by decide +kernel)
def b_X6_leans_66 : List Ent := [(.ireturn, 1, [0], 0)]
theorem a_X6_leans_66 : ck mX6_leans b_X6_leans_66 66 = true := by decide +kernel
theorem o_X6_leansPlain : MOK mX6_leansPlain 1 := MOK.of 1326 64 (by decide +kernel) (by decide +kernel) (by decide +kernel) (by decide +kernel) (by decide +kernel)
def b_X6_leansPlain_0 : List Ent := [(.aload_n 0, 1, [], 0), (.bipush 11, 2, [], 0)]
theorem a_X6_leansPlain_0 : ck mX6_leansPlain b_X6_leansPlain_0 0 = true := by decide +kernel
theorem k_X6_leansPlain_3 : CV mX6_leansPlain 3 mX6_runs := CV.of 284 1311 1313 49 (by decide +kernel) (by decide +kernel) (by decide +kernel) (by decide +kernel)
def b_X6_leansPlain_6 : List Ent := [(.aload_n 0, 1, [], 0), (.iload_n 1, 1, [], 0)]
theorem a_X6_leansPlain_6 : ck mX6_leansPlain b_X6_leansPlain_6 6 = true := by decide +kernel
theorem k_X6_leansPlain_8 : CV mX6_leansPlain 8 mX6_buds := CV.of 299 1303 1305 47 (by decide +kernel) (by decide +kernel) (by decide +kernel) (by decide +kernel)
def b_X6_leansPlain_11 : List Ent := [(.aload_n 0, 1, [], 0), (.getfield 302, 3, [6, 24, 0, 875], 0), (.isub, 1, [], 0), (.ireturn, 1, [0], 0)]
theorem a_X6_leansPlain_11 : ck mX6_leansPlain b_X6_leansPlain_11 11 = true := by decide +kernel
theorem o_X6_least : MOK mX6_least 2 := MOK.of 1118 64 (by decide +kernel) (by decide +kernel) (by decide +kernel) (by decide +kernel) (by decide +kernel)
def b_X6_least_0 : List Ent := [(.iload_n 0, 1, [], 0), (.iload_n 1, 1, [], 0), (.if_icmp .ge 7, 3, [9], 0)]
theorem a_X6_least_0 : ck mX6_least b_X6_least_0 0 = true := by decide +kernel
def b_X6_least_5 : List Ent := [(.iload_n 0, 1, [], 0), (.goto 4, 3, [10], 0)]
theorem a_X6_least_5 : ck mX6_least b_X6_least_5 5 = true := by decide +kernel
def b_X6_least_9 : List Ent := [(.iload_n 1, 1, [], 0)]
theorem a_X6_least_9 : ck mX6_least b_X6_least_9 9 = true := by decide +kernel
def b_X6_least_10 : List Ent := [(.ireturn, 1, [0], 0)]
theorem a_X6_least_10 : ck mX6_least b_X6_least_10 10 = true := by decide +kernel
theorem o_X6_many : MOK mX6_many 1 := MOK.of 1350 64 (by decide +kernel) (by decide +kernel) (by decide +kernel) (by decide +kernel) (by decide +kernel)
def b_X6_many_0 : List Ent := [(.iload_n 1, 1, [], 0), (.tableswitch 89 0 6 #[43, 50, 58, 66, 74, 79, 84], 43, [90, 44, 51, 59, 67, 75, 80, 85], 0)]
theorem a_X6_many_0 : ck mX6_many b_X6_many_0 0 = true := by decide +kernel
def b_X6_many_44 : List Ent := [(.aload_n 0, 1, [], 0), (.getfield 7, 3, [6, 0, 1, 851], 0), (.iconst 0, 1, [], 0), (.iaload, 1, [7], 0), (.ireturn, 1, [0], 0)]
theorem a_X6_many_44 : ck mX6_many b_X6_many_44 44 = true := by decide +kernel
def b_X6_many_51 : List Ent := [(.aload_n 0, 1, [], 0)]
theorem a_X6_many_51 : ck mX6_many b_X6_many_51 51 = true := by decide +kernel
theorem k_X6_many_52 : CV mX6_many 52 mX6_standing := CV.of 172 1054 1056 29 (by decide +kernel) (by decide +kernel) (by decide +kernel) (by decide +kernel)
theorem k_X6_many_55 : CS mX6_many 55 mX6_size := CS.of 181 1086 1087 (by decide +kernel) (by decide +kernel) (by decide +kernel)
def b_X6_many_58 : List Ent := [(.ireturn, 1, [0], 0)]
theorem a_X6_many_58 : ck mX6_many b_X6_many_58 58 = true := by decide +kernel
def b_X6_many_59 : List Ent := [(.aload_n 0, 1, [], 0)]
theorem a_X6_many_59 : ck mX6_many b_X6_many_59 59 = true := by decide +kernel
theorem k_X6_many_60 : CV mX6_many 60 mX6_cutOnes := CV.of 215 1146 1148 37 (by decide +kernel) (by decide +kernel) (by decide +kernel) (by decide +kernel)
theorem k_X6_many_63 : CS mX6_many 63 mX6_size := CS.of 181 1086 1087 (by decide +kernel) (by decide +kernel) (by decide +kernel)
def b_X6_many_66 : List Ent := [(.ireturn, 1, [0], 0)]
theorem a_X6_many_66 : ck mX6_many b_X6_many_66 66 = true := by decide +kernel
def b_X6_many_67 : List Ent := [(.aload_n 0, 1, [], 0)]
theorem a_X6_many_67 : ck mX6_many b_X6_many_67 67 = true := by decide +kernel
theorem k_X6_many_68 : CV mX6_many 68 mX6_burntOnes := CV.of 221 1154 1156 39 (by decide +kernel) (by decide +kernel) (by decide +kernel) (by decide +kernel)
theorem k_X6_many_71 : CS mX6_many 71 mX6_size := CS.of 181 1086 1087 (by decide +kernel) (by decide +kernel) (by decide +kernel)
def b_X6_many_74 : List Ent := [(.ireturn, 1, [0], 0)]
theorem a_X6_many_74 : ck mX6_many b_X6_many_74 74 = true := by decide +kernel
def b_X6_many_75 : List Ent := [(.aload_n 0, 1, [], 0), (.getfield 138, 3, [6, 13, 0, 864], 0), (.ireturn, 1, [0], 0)]
theorem a_X6_many_75 : ck mX6_many b_X6_many_75 75 = true := by decide +kernel
def b_X6_many_80 : List Ent := [(.aload_n 0, 1, [], 0), (.getfield 58, 3, [6, 6, 0, 857], 0), (.ireturn, 1, [0], 0)]
theorem a_X6_many_80 : ck mX6_many b_X6_many_80 80 = true := by decide +kernel
def b_X6_many_85 : List Ent := [(.aload_n 0, 1, [], 0), (.getfield 281, 3, [6, 21, 0, 872], 0), (.ireturn, 1, [0], 0)]
theorem a_X6_many_85 : ck mX6_many b_X6_many_85 85 = true := by decide +kernel
def b_X6_many_90 : List Ent := [(.iconst (-1), 1, [], 0), (.ireturn, 1, [0], 0)]
theorem a_X6_many_90 : ck mX6_many b_X6_many_90 90 = true := by decide +kernel
theorem o_X6_mayBack : MOK mX6_mayBack 1 := MOK.of 1096 64 (by decide +kernel) (by decide +kernel) (by decide +kernel) (by decide +kernel) (by decide +kernel)
def b_X6_mayBack_0 : List Ent := [(.aload_n 0, 1, [], 0), (.iload_n 1, 1, [], 0), (.iconst 4, 1, [], 0)]
theorem a_X6_mayBack_0 : ck mX6_mayBack b_X6_mayBack_0 0 = true := by decide +kernel
theorem k_X6_mayBack_3 : CV mX6_mayBack 3 mX6_its := CV.of 153 1033 1035 25 (by decide +kernel) (by decide +kernel) (by decide +kernel) (by decide +kernel)
def b_X6_mayBack_6 : List Ent := [(.iconst 1, 1, [], 0), (.if_icmp .ne 25, 3, [32], 0)]
theorem a_X6_mayBack_6 : ck mX6_mayBack b_X6_mayBack_6 6 = true := by decide +kernel
def b_X6_mayBack_10 : List Ent := [(.aload_n 0, 1, [], 0), (.iload_n 1, 1, [], 0), (.iconst 4, 1, [], 0)]
theorem a_X6_mayBack_10 : ck mX6_mayBack b_X6_mayBack_10 10 = true := by decide +kernel
theorem k_X6_mayBack_13 : CV mX6_mayBack 13 mX6_its := CV.of 153 1033 1035 25 (by decide +kernel) (by decide +kernel) (by decide +kernel) (by decide +kernel)
def b_X6_mayBack_16 : List Ent := [(.aload_n 0, 1, [], 0), (.iload_n 1, 1, [], 0), (.iconst 5, 1, [], 0)]
theorem a_X6_mayBack_16 : ck mX6_mayBack b_X6_mayBack_16 16 = true := by decide +kernel
theorem k_X6_mayBack_19 : CV mX6_mayBack 19 mX6_its := CV.of 153 1033 1035 25 (by decide +kernel) (by decide +kernel) (by decide +kernel) (by decide +kernel)
theorem k_X6_mayBack_22 : CS mX6_mayBack 22 mX6_isBurnt := CS.of 184 1097 1098 (by decide +kernel) (by decide +kernel) (by decide +kernel)
def b_X6_mayBack_25 : List Ent := [(.ifCond .ne 7, 3, [32], 0)]
theorem a_X6_mayBack_25 : ck mX6_mayBack b_X6_mayBack_25 25 = true := by decide +kernel
def b_X6_mayBack_28 : List Ent := [(.iconst 1, 1, [], 0), (.goto 4, 3, [33], 0)]
theorem a_X6_mayBack_28 : ck mX6_mayBack b_X6_mayBack_28 28 = true := by decide +kernel
def b_X6_mayBack_32 : List Ent := [(.iconst 0, 1, [], 0)]
theorem a_X6_mayBack_32 : ck mX6_mayBack b_X6_mayBack_32 32 = true := by decide +kernel
def b_X6_mayBack_33 : List Ent := [(.ireturn, 1, [1], 0)]
theorem a_X6_mayBack_33 : ck mX6_mayBack b_X6_mayBack_33 33 = true := by decide +kernel
theorem o_X6_mind : MOK mX6_mind 3 := MOK.of 1073 64 (by decide +kernel) (by decide +kernel) (by decide +kernel) (by decide +kernel) (by decide +kernel)
def b_X6_mind_0 : List Ent := [(.aload_n 0, 1, [], 0), (.iload_n 1, 1, [], 0)]
theorem a_X6_mind_0 : ck mX6_mind b_X6_mind_0 0 = true := by decide +kernel
theorem k_X6_mind_2 : CV mX6_mind 2 mX6_isOne := CV.of 162 1028 1030 24 (by decide +kernel) (by decide +kernel) (by decide +kernel) (by decide +kernel)
def b_X6_mind_5 : List Ent := [(.ifCond .eq 27, 3, [32], 0)]
theorem a_X6_mind_5 : ck mX6_mind b_X6_mind_5 5 = true := by decide +kernel
def b_X6_mind_8 : List Ent := [(.iload_n 2, 1, [], 0), (.i2l, 1, [], 0), (.lconst 0, 1, [], 0), (.ldc2_w 151, 3, [0, 1023], 5)]
theorem a_X6_mind_8 : ck mX6_mind b_X6_mind_8 8 = true := by decide +kernel
theorem k_X6_mind_14 : CS mX6_mind 14 mX6_isIn := CS.of 54 935 936 (by decide +kernel) (by decide +kernel) (by decide +kernel)
def b_X6_mind_17 : List Ent := [(.ifCond .eq 15, 3, [32], 0)]
theorem a_X6_mind_17 : ck mX6_mind b_X6_mind_17 17 = true := by decide +kernel
def b_X6_mind_20 : List Ent := [(.iload_n 3, 1, [], 0), (.i2l, 1, [], 0), (.lconst 0, 1, [], 0), (.ldc2_w 145, 3, [0, 1010], 9)]
theorem a_X6_mind_20 : ck mX6_mind b_X6_mind_20 20 = true := by decide +kernel
theorem k_X6_mind_26 : CS mX6_mind 26 mX6_isIn := CS.of 54 935 936 (by decide +kernel) (by decide +kernel) (by decide +kernel)
def b_X6_mind_29 : List Ent := [(.ifCond .ne 5, 3, [34], 0)]
theorem a_X6_mind_29 : ck mX6_mind b_X6_mind_29 29 = true := by decide +kernel
def b_X6_mind_32 : List Ent := [(.iconst (-1), 1, [], 0), (.ireturn, 1, [0], 0)]
theorem a_X6_mind_32 : ck mX6_mind b_X6_mind_32 32 = true := by decide +kernel
def b_X6_mind_34 : List Ent := [(.aload_n 0, 1, [], 0), (.getfield 7, 3, [6, 0, 1, 851], 0), (.bipush 8, 2, [], 0), (.bipush 6, 2, [], 0), (.iload_n 1, 1, [], 0), (.imul, 1, [], 0), (.iadd, 1, [], 0), (.iconst 2, 1, [], 0), (.iadd, 1, [], 0), (.iload_n 3, 1, [], 0), (.iastore, 1, [], 0), (.aload_n 0, 1, [], 0), (.bipush 8, 2, [], 0), (.bipush 6, 2, [], 0), (.iload_n 1, 1, [], 0), (.imul, 1, [], 0), (.iadd, 1, [], 0), (.iload_n 2, 1, [], 0)]
theorem a_X6_mind_34 : ck mX6_mind b_X6_mind_34 34 = true := by decide +kernel
theorem k_X6_mind_58 : CV mX6_mind 58 mX6_becomes := CV.of 147 1011 1013 23 (by decide +kernel) (by decide +kernel) (by decide +kernel) (by decide +kernel)
def b_X6_mind_61 : List Ent := [(.ireturn, 1, [0], 0)]
theorem a_X6_mind_61 : ck mX6_mind b_X6_mind_61 61 = true := by decide +kernel
theorem o_X6_minds : MOK mX6_minds 4 := MOK.of 1278 64 (by decide +kernel) (by decide +kernel) (by decide +kernel) (by decide +kernel) (by decide +kernel)
def b_X6_minds_0 : List Ent := [(.iload_n 1, 1, [], 0)]
theorem a_X6_minds_0 : ck mX6_minds b_X6_minds_0 0 = true := by decide +kernel
theorem k_X6_minds_1 : CS mX6_minds 1 mX6_isSheet := CS.of 244 1216 1217 (by decide +kernel) (by decide +kernel) (by decide +kernel)
def b_X6_minds_4 : List Ent := [(.ifCond .eq 37, 3, [41], 0)]
theorem a_X6_minds_4 : ck mX6_minds b_X6_minds_4 4 = true := by decide +kernel
def b_X6_minds_7 : List Ent := [(.aload_n 0, 1, [], 0), (.iload_n 3, 1, [], 0)]
theorem a_X6_minds_7 : ck mX6_minds b_X6_minds_7 7 = true := by decide +kernel
theorem k_X6_minds_9 : CV mX6_minds 9 mX6_isOne := CV.of 162 1028 1030 24 (by decide +kernel) (by decide +kernel) (by decide +kernel) (by decide +kernel)
def b_X6_minds_12 : List Ent := [(.ifCond .eq 29, 3, [41], 0)]
theorem a_X6_minds_12 : ck mX6_minds b_X6_minds_12 12 = true := by decide +kernel
def b_X6_minds_15 : List Ent := [(.iload 4, 2, [], 0), (.i2l, 1, [], 0), (.lconst 0, 1, [], 0), (.ldc2_w 52, 3, [0, 934], 8)]
theorem a_X6_minds_15 : ck mX6_minds b_X6_minds_15 15 = true := by decide +kernel
theorem k_X6_minds_22 : CS mX6_minds 22 mX6_isIn := CS.of 54 935 936 (by decide +kernel) (by decide +kernel) (by decide +kernel)
def b_X6_minds_25 : List Ent := [(.ifCond .eq 16, 3, [41], 0)]
theorem a_X6_minds_25 : ck mX6_minds b_X6_minds_25 25 = true := by decide +kernel
def b_X6_minds_28 : List Ent := [(.iload_n 3, 1, [], 0), (.iload 4, 2, [], 0), (.iadd, 1, [], 0), (.aload_n 0, 1, [], 0), (.getfield 7, 3, [6, 0, 1, 851], 0), (.iconst 0, 1, [], 0), (.iaload, 1, [7], 0), (.if_icmp .le 5, 3, [43], 0)]
theorem a_X6_minds_28 : ck mX6_minds b_X6_minds_28 28 = true := by decide +kernel
def b_X6_minds_41 : List Ent := [(.iconst (-1), 1, [], 0), (.ireturn, 1, [0], 0)]
theorem a_X6_minds_41 : ck mX6_minds b_X6_minds_41 41 = true := by decide +kernel
def b_X6_minds_43 : List Ent := [(.aload_n 0, 1, [], 0), (.iload_n 1, 1, [], 0), (.iconst 0, 1, [], 0)]
theorem a_X6_minds_43 : ck mX6_minds b_X6_minds_43 43 = true := by decide +kernel
theorem k_X6_minds_46 : CV mX6_minds 46 mX6_lacks := CV.of 265 1271 1273 45 (by decide +kernel) (by decide +kernel) (by decide +kernel) (by decide +kernel)
def b_X6_minds_49 : List Ent := [(.ifCond .eq 10, 3, [59], 0)]
theorem a_X6_minds_49 : ck mX6_minds b_X6_minds_49 49 = true := by decide +kernel
def b_X6_minds_52 : List Ent := [(.aload_n 0, 1, [], 0), (.iload_n 1, 1, [], 0), (.iconst 0, 1, [], 0)]
theorem a_X6_minds_52 : ck mX6_minds b_X6_minds_52 52 = true := by decide +kernel
theorem k_X6_minds_55 : CV mX6_minds 55 mX6_lacks := CV.of 265 1271 1273 45 (by decide +kernel) (by decide +kernel) (by decide +kernel) (by decide +kernel)
def b_X6_minds_58 : List Ent := [(.ireturn, 1, [0], 0)]
theorem a_X6_minds_58 : ck mX6_minds b_X6_minds_58 58 = true := by decide +kernel
def b_X6_minds_59 : List Ent := [(.iload_n 2, 1, [], 0), (.i2l, 1, [], 0), (.lconst 0, 1, [], 0), (.aload_n 0, 1, [], 0), (.getfield 31, 3, [6, 15, 8, 866], 0), (.iload_n 1, 1, [], 0), (.iaload, 1, [7], 0), (.i2l, 1, [], 0)]
theorem a_X6_minds_59 : ck mX6_minds b_X6_minds_59 59 = true := by decide +kernel
theorem k_X6_minds_69 : CS mX6_minds 69 mX6_isIn := CS.of 54 935 936 (by decide +kernel) (by decide +kernel) (by decide +kernel)
def b_X6_minds_72 : List Ent := [(.ifCond .eq 20, 3, [92], 0)]
theorem a_X6_minds_72 : ck mX6_minds b_X6_minds_72 72 = true := by decide +kernel
def b_X6_minds_75 : List Ent := [(.iload_n 2, 1, [], 0), (.i2l, 1, [], 0), (.iload 4, 2, [], 0), (.i2l, 1, [], 0), (.ladd, 1, [], 0), (.aload_n 0, 1, [], 0), (.getfield 31, 3, [6, 15, 8, 866], 0), (.iload_n 1, 1, [], 0), (.iaload, 1, [7], 0), (.i2l, 1, [], 0), (.lcmp, 1, [], 0), (.ifCond .le 6, 3, [95], 0)]
theorem a_X6_minds_75 : ck mX6_minds b_X6_minds_75 75 = true := by decide +kernel
def b_X6_minds_92 : List Ent := [(.bipush (-12), 2, [], 0), (.ireturn, 1, [0], 0)]
theorem a_X6_minds_92 : ck mX6_minds b_X6_minds_92 92 = true := by decide +kernel
def b_X6_minds_95 : List Ent := [(.iconst 0, 1, [], 0), (.istore 5, 2, [], 0)]
theorem a_X6_minds_95 : ck mX6_minds b_X6_minds_95 95 = true := by decide +kernel
def b_X6_minds_98 : List Ent := [(.iload 5, 2, [], 0), (.iload 4, 2, [], 0), (.if_icmp .ge 43, 3, [145], 0)]
theorem a_X6_minds_98 : ck mX6_minds b_X6_minds_98 98 = true := by decide +kernel
def b_X6_minds_105 : List Ent := [(.aload_n 0, 1, [], 0), (.getfield 7, 3, [6, 0, 1, 851], 0), (.bipush 8, 2, [], 0), (.bipush 6, 2, [], 0), (.iload_n 3, 1, [], 0), (.iload 5, 2, [], 0), (.iadd, 1, [], 0), (.imul, 1, [], 0), (.iadd, 1, [], 0), (.iconst 2, 1, [], 0), (.iadd, 1, [], 0), (.aload_n 0, 1, [], 0), (.getfield 34, 3, [6, 16, 9, 867], 0), (.bipush 40, 2, [], 0), (.iload_n 1, 1, [], 0), (.imul, 1, [], 0), (.iload_n 2, 1, [], 0), (.iadd, 1, [], 0), (.iload 5, 2, [], 0), (.iadd, 1, [], 0), (.iaload, 1, [7], 0)]
theorem a_X6_minds_105 : ck mX6_minds b_X6_minds_105 105 = true := by decide +kernel
theorem k_X6_minds_135 : CS mX6_minds 135 mX6_within := CS.of 194 1113 1114 (by decide +kernel) (by decide +kernel) (by decide +kernel)
def b_X6_minds_138 : List Ent := [(.iastore, 1, [], 0), (.iinc 5 1, 3, [], 0), (.goto (-44), 3, [98], 0)]
theorem a_X6_minds_138 : ck mX6_minds b_X6_minds_138 138 = true := by decide +kernel
def b_X6_minds_145 : List Ent := [(.iload 4, 2, [], 0), (.ireturn, 1, [0], 0)]
theorem a_X6_minds_145 : ck mX6_minds b_X6_minds_145 145 = true := by decide +kernel
theorem o_X6_needs : MOK mX6_needs 1 := MOK.of 995 64 (by decide +kernel) (by decide +kernel) (by decide +kernel) (by decide +kernel) (by decide +kernel)
def b_X6_needs_0 : List Ent := [(.aload_n 0, 1, [], 0), (.aload_n 0, 1, [], 0), (.getfield 87, 3, [6, 11, 0, 862], 0), (.ifCond .ne 7, 3, [12], 0)]
theorem a_X6_needs_0 : ck mX6_needs b_X6_needs_0 0 = true := by decide +kernel
def b_X6_needs_8 : List Ent := [(.iload_n 1, 1, [], 0), (.ifCond .ne 7, 3, [16], 0)]
theorem a_X6_needs_8 : ck mX6_needs b_X6_needs_8 8 = true := by decide +kernel
def b_X6_needs_12 : List Ent := [(.iconst 1, 1, [], 0), (.goto 4, 3, [17], 0)]
theorem a_X6_needs_12 : ck mX6_needs b_X6_needs_12 12 = true := by decide +kernel
def b_X6_needs_16 : List Ent := [(.iconst 0, 1, [], 0)]
theorem a_X6_needs_16 : ck mX6_needs b_X6_needs_16 16 = true := by decide +kernel
def b_X6_needs_17 : List Ent := [(.putfield 87, 3, [6, 11, 1, 862], 0), (.aload_n 0, 1, [], 0), (.getfield 87, 3, [6, 11, 0, 862], 0), (.ifCond .ne 7, 3, [31], 0)]
theorem a_X6_needs_17 : ck mX6_needs b_X6_needs_17 17 = true := by decide +kernel
def b_X6_needs_27 : List Ent := [(.aload_n 0, 1, [], 0)]
theorem a_X6_needs_27 : ck mX6_needs b_X6_needs_27 27 = true := by decide +kernel
theorem k_X6_needs_28 : CV mX6_needs 28 mX6_nextToken := CV.of 91 946 948 10 (by decide +kernel) (by decide +kernel) (by decide +kernel) (by decide +kernel)
def b_X6_needs_31 : List Ent := [(.return_, 1, [], 0)]
theorem a_X6_needs_31 : ck mX6_needs b_X6_needs_31 31 = true := by decide +kernel
theorem o_X6_nextToken : MOK mX6_nextToken 0 := MOK.of 949 64 (by decide +kernel) (by decide +kernel) (by decide +kernel) (by decide +kernel) (by decide +kernel)
def b_X6_nextToken_0 : List Ent := [(.aload_n 0, 1, [], 0), (.aload_n 0, 1, [], 0), (.getfield 64, 3, [6, 9, 0, 860], 0), (.putfield 67, 3, [6, 8, 0, 859], 0)]
theorem a_X6_nextToken_0 : ck mX6_nextToken b_X6_nextToken_0 0 = true := by decide +kernel
def b_X6_nextToken_8 : List Ent := [(.aload_n 0, 1, [], 0), (.aload_n 0, 1, [], 0), (.getfield 67, 3, [6, 8, 0, 859], 0)]
theorem a_X6_nextToken_8 : ck mX6_nextToken b_X6_nextToken_8 8 = true := by decide +kernel
theorem k_X6_nextToken_13 : CV mX6_nextToken 13 mX6_byteAt := CV.of 70 950 952 11 (by decide +kernel) (by decide +kernel) (by decide +kernel) (by decide +kernel)
def b_X6_nextToken_16 : List Ent := [(.bipush 32, 2, [], 0), (.if_icmp .ne 16, 3, [34], 0)]
theorem a_X6_nextToken_16 : ck mX6_nextToken b_X6_nextToken_16 16 = true := by decide +kernel
def b_X6_nextToken_21 : List Ent := [(.aload_n 0, 1, [], 0), (.dup, 1, [], 0), (.getfield 67, 3, [6, 8, 0, 859], 0), (.iconst 1, 1, [], 0), (.iadd, 1, [], 0), (.putfield 67, 3, [6, 8, 0, 859], 0), (.goto (-23), 3, [8], 0)]
theorem a_X6_nextToken_21 : ck mX6_nextToken b_X6_nextToken_21 21 = true := by decide +kernel
def b_X6_nextToken_34 : List Ent := [(.aload_n 0, 1, [], 0), (.aload_n 0, 1, [], 0), (.getfield 67, 3, [6, 8, 0, 859], 0), (.putfield 64, 3, [6, 9, 0, 860], 0), (.aload_n 0, 1, [], 0), (.aload_n 0, 1, [], 0), (.getfield 67, 3, [6, 8, 0, 859], 0)]
theorem a_X6_nextToken_34 : ck mX6_nextToken b_X6_nextToken_34 34 = true := by decide +kernel
theorem k_X6_nextToken_47 : CV mX6_nextToken 47 mX6_byteAt := CV.of 70 950 952 11 (by decide +kernel) (by decide +kernel) (by decide +kernel) (by decide +kernel)
def b_X6_nextToken_50 : List Ent := [(.istore_n 1, 1, [], 0), (.aload_n 0, 1, [], 0), (.iload_n 1, 1, [], 0), (.ifCond .ge 7, 3, [60], 0)]
theorem a_X6_nextToken_50 : ck mX6_nextToken b_X6_nextToken_50 50 = true := by decide +kernel
def b_X6_nextToken_56 : List Ent := [(.iconst 0, 1, [], 0), (.goto 26, 3, [83], 0)]
theorem a_X6_nextToken_56 : ck mX6_nextToken b_X6_nextToken_56 56 = true := by decide +kernel
def b_X6_nextToken_60 : List Ent := [(.iload_n 1, 1, [], 0)]
theorem a_X6_nextToken_60 : ck mX6_nextToken b_X6_nextToken_60 60 = true := by decide +kernel
theorem k_X6_nextToken_61 : CS mX6_nextToken 61 mX6_isAlpha := CS.of 74 954 955 (by decide +kernel) (by decide +kernel) (by decide +kernel)
def b_X6_nextToken_64 : List Ent := [(.ifCond .eq 7, 3, [71], 0)]
theorem a_X6_nextToken_64 : ck mX6_nextToken b_X6_nextToken_64 64 = true := by decide +kernel
def b_X6_nextToken_67 : List Ent := [(.iconst 1, 1, [], 0), (.goto 15, 3, [83], 0)]
theorem a_X6_nextToken_67 : ck mX6_nextToken b_X6_nextToken_67 67 = true := by decide +kernel
def b_X6_nextToken_71 : List Ent := [(.iload_n 1, 1, [], 0)]
theorem a_X6_nextToken_71 : ck mX6_nextToken b_X6_nextToken_71 71 = true := by decide +kernel
theorem k_X6_nextToken_72 : CS mX6_nextToken 72 mX6_isDigit := CS.of 78 957 958 (by decide +kernel) (by decide +kernel) (by decide +kernel)
def b_X6_nextToken_75 : List Ent := [(.ifCond .eq 7, 3, [82], 0)]
theorem a_X6_nextToken_75 : ck mX6_nextToken b_X6_nextToken_75 75 = true := by decide +kernel
def b_X6_nextToken_78 : List Ent := [(.iconst 2, 1, [], 0), (.goto 4, 3, [83], 0)]
theorem a_X6_nextToken_78 : ck mX6_nextToken b_X6_nextToken_78 78 = true := by decide +kernel
def b_X6_nextToken_82 : List Ent := [(.iconst 3, 1, [], 0)]
theorem a_X6_nextToken_82 : ck mX6_nextToken b_X6_nextToken_82 82 = true := by decide +kernel
def b_X6_nextToken_83 : List Ent := [(.putfield 81, 3, [6, 7, 0, 858], 0), (.aload_n 0, 1, [], 0), (.iconst 0, 1, [], 0), (.putfield 84, 3, [6, 10, 0, 861], 0)]
theorem a_X6_nextToken_83 : ck mX6_nextToken b_X6_nextToken_83 83 = true := by decide +kernel
def b_X6_nextToken_91 : List Ent := [(.aload_n 0, 1, [], 0), (.getfield 81, 3, [6, 7, 0, 858], 0), (.iconst 1, 1, [], 0), (.if_icmp .ne 30, 3, [126], 0)]
theorem a_X6_nextToken_91 : ck mX6_nextToken b_X6_nextToken_91 91 = true := by decide +kernel
def b_X6_nextToken_99 : List Ent := [(.aload_n 0, 1, [], 0), (.aload_n 0, 1, [], 0), (.getfield 64, 3, [6, 9, 0, 860], 0)]
theorem a_X6_nextToken_99 : ck mX6_nextToken b_X6_nextToken_99 99 = true := by decide +kernel
theorem k_X6_nextToken_104 : CV mX6_nextToken 104 mX6_byteAt := CV.of 70 950 952 11 (by decide +kernel) (by decide +kernel) (by decide +kernel) (by decide +kernel)
theorem k_X6_nextToken_107 : CS mX6_nextToken 107 mX6_isAlpha := CS.of 74 954 955 (by decide +kernel) (by decide +kernel) (by decide +kernel)
def b_X6_nextToken_110 : List Ent := [(.ifCond .eq 16, 3, [126], 0)]
theorem a_X6_nextToken_110 : ck mX6_nextToken b_X6_nextToken_110 110 = true := by decide +kernel
def b_X6_nextToken_113 : List Ent := [(.aload_n 0, 1, [], 0), (.dup, 1, [], 0), (.getfield 64, 3, [6, 9, 0, 860], 0), (.iconst 1, 1, [], 0), (.iadd, 1, [], 0), (.putfield 64, 3, [6, 9, 0, 860], 0), (.goto (-32), 3, [91], 0)]
theorem a_X6_nextToken_113 : ck mX6_nextToken b_X6_nextToken_113 113 = true := by decide +kernel
def b_X6_nextToken_126 : List Ent := [(.aload_n 0, 1, [], 0), (.getfield 81, 3, [6, 7, 0, 858], 0), (.iconst 2, 1, [], 0), (.if_icmp .ne 70, 3, [201], 0)]
theorem a_X6_nextToken_126 : ck mX6_nextToken b_X6_nextToken_126 126 = true := by decide +kernel
def b_X6_nextToken_134 : List Ent := [(.aload_n 0, 1, [], 0), (.aload_n 0, 1, [], 0), (.getfield 64, 3, [6, 9, 0, 860], 0)]
theorem a_X6_nextToken_134 : ck mX6_nextToken b_X6_nextToken_134 134 = true := by decide +kernel
theorem k_X6_nextToken_139 : CV mX6_nextToken 139 mX6_byteAt := CV.of 70 950 952 11 (by decide +kernel) (by decide +kernel) (by decide +kernel) (by decide +kernel)
theorem k_X6_nextToken_142 : CS mX6_nextToken 142 mX6_isDigit := CS.of 78 957 958 (by decide +kernel) (by decide +kernel) (by decide +kernel)
def b_X6_nextToken_145 : List Ent := [(.ifCond .eq 56, 3, [201], 0)]
theorem a_X6_nextToken_145 : ck mX6_nextToken b_X6_nextToken_145 145 = true := by decide +kernel
def b_X6_nextToken_148 : List Ent := [(.aload_n 0, 1, [], 0), (.aload_n 0, 1, [], 0), (.getfield 84, 3, [6, 10, 0, 861], 0), (.sipush 999, 3, [], 0), (.if_icmp .le 10, 3, [166], 0)]
theorem a_X6_nextToken_148 : ck mX6_nextToken b_X6_nextToken_148 148 = true := by decide +kernel
def b_X6_nextToken_159 : List Ent := [(.aload_n 0, 1, [], 0), (.getfield 84, 3, [6, 10, 0, 861], 0), (.goto 22, 3, [185], 0)]
theorem a_X6_nextToken_159 : ck mX6_nextToken b_X6_nextToken_159 159 = true := by decide +kernel
def b_X6_nextToken_166 : List Ent := [(.bipush 10, 2, [], 0), (.aload_n 0, 1, [], 0), (.getfield 84, 3, [6, 10, 0, 861], 0), (.imul, 1, [], 0), (.aload_n 0, 1, [], 0), (.aload_n 0, 1, [], 0), (.getfield 64, 3, [6, 9, 0, 860], 0)]
theorem a_X6_nextToken_166 : ck mX6_nextToken b_X6_nextToken_166 166 = true := by decide +kernel
theorem k_X6_nextToken_178 : CV mX6_nextToken 178 mX6_byteAt := CV.of 70 950 952 11 (by decide +kernel) (by decide +kernel) (by decide +kernel) (by decide +kernel)
def b_X6_nextToken_181 : List Ent := [(.iadd, 1, [], 0), (.bipush 48, 2, [], 0), (.isub, 1, [], 0)]
theorem a_X6_nextToken_181 : ck mX6_nextToken b_X6_nextToken_181 181 = true := by decide +kernel
def b_X6_nextToken_185 : List Ent := [(.putfield 84, 3, [6, 10, 0, 861], 0), (.aload_n 0, 1, [], 0), (.dup, 1, [], 0), (.getfield 64, 3, [6, 9, 0, 860], 0), (.iconst 1, 1, [], 0), (.iadd, 1, [], 0), (.putfield 64, 3, [6, 9, 0, 860], 0), (.goto (-72), 3, [126], 0)]
theorem a_X6_nextToken_185 : ck mX6_nextToken b_X6_nextToken_185 185 = true := by decide +kernel
def b_X6_nextToken_201 : List Ent := [(.aload_n 0, 1, [], 0), (.dup, 1, [], 0), (.getfield 64, 3, [6, 9, 0, 860], 0), (.aload_n 0, 1, [], 0), (.getfield 81, 3, [6, 7, 0, 858], 0), (.iconst 2, 1, [], 0), (.if_icmp .le 7, 3, [218], 0)]
theorem a_X6_nextToken_201 : ck mX6_nextToken b_X6_nextToken_201 201 = true := by decide +kernel
def b_X6_nextToken_214 : List Ent := [(.iconst 1, 1, [], 0), (.goto 4, 3, [219], 0)]
theorem a_X6_nextToken_214 : ck mX6_nextToken b_X6_nextToken_214 214 = true := by decide +kernel
def b_X6_nextToken_218 : List Ent := [(.iconst 0, 1, [], 0)]
theorem a_X6_nextToken_218 : ck mX6_nextToken b_X6_nextToken_218 218 = true := by decide +kernel
def b_X6_nextToken_219 : List Ent := [(.iadd, 1, [], 0), (.putfield 64, 3, [6, 9, 0, 860], 0), (.return_, 1, [], 0)]
theorem a_X6_nextToken_219 : ck mX6_nextToken b_X6_nextToken_219 219 = true := by decide +kernel
theorem o_X6_numberTo : MOK mX6_numberTo 2 := MOK.of 999 64 (by decide +kernel) (by decide +kernel) (by decide +kernel) (by decide +kernel) (by decide +kernel)
def b_X6_numberTo_0 : List Ent := [(.aload_n 0, 1, [], 0), (.getfield 81, 3, [6, 7, 0, 858], 0), (.iconst 2, 1, [], 0), (.if_icmp .ne 28, 3, [33], 0)]
theorem a_X6_numberTo_0 : ck mX6_numberTo b_X6_numberTo_0 0 = true := by decide +kernel
def b_X6_numberTo_8 : List Ent := [(.aload_n 0, 1, [], 0), (.getfield 64, 3, [6, 9, 0, 860], 0), (.aload_n 0, 1, [], 0), (.getfield 67, 3, [6, 8, 0, 859], 0), (.isub, 1, [], 0), (.iconst 3, 1, [], 0), (.if_icmp .gt 15, 3, [33], 0)]
theorem a_X6_numberTo_8 : ck mX6_numberTo b_X6_numberTo_8 8 = true := by decide +kernel
def b_X6_numberTo_21 : List Ent := [(.aload_n 0, 1, [], 0), (.getfield 84, 3, [6, 10, 0, 861], 0), (.iload_n 2, 1, [], 0), (.if_icmp .gt 7, 3, [33], 0)]
theorem a_X6_numberTo_21 : ck mX6_numberTo b_X6_numberTo_21 21 = true := by decide +kernel
def b_X6_numberTo_29 : List Ent := [(.iconst 1, 1, [], 0), (.goto 4, 3, [34], 0)]
theorem a_X6_numberTo_29 : ck mX6_numberTo b_X6_numberTo_29 29 = true := by decide +kernel
def b_X6_numberTo_33 : List Ent := [(.iconst 0, 1, [], 0)]
theorem a_X6_numberTo_33 : ck mX6_numberTo b_X6_numberTo_33 33 = true := by decide +kernel
def b_X6_numberTo_34 : List Ent := [(.istore_n 3, 1, [], 0), (.iload_n 3, 1, [], 0), (.ifCond .eq 20, 3, [56], 0)]
theorem a_X6_numberTo_34 : ck mX6_numberTo b_X6_numberTo_34 34 = true := by decide +kernel
def b_X6_numberTo_39 : List Ent := [(.aload_n 0, 1, [], 0), (.getfield 87, 3, [6, 11, 0, 862], 0), (.ifCond .ne 13, 3, [56], 0)]
theorem a_X6_numberTo_39 : ck mX6_numberTo b_X6_numberTo_39 39 = true := by decide +kernel
def b_X6_numberTo_46 : List Ent := [(.aload_n 0, 1, [], 0), (.getfield 7, 3, [6, 0, 1, 851], 0), (.iload_n 1, 1, [], 0), (.aload_n 0, 1, [], 0), (.getfield 84, 3, [6, 10, 0, 861], 0), (.iastore, 1, [], 0)]
theorem a_X6_numberTo_46 : ck mX6_numberTo b_X6_numberTo_46 46 = true := by decide +kernel
def b_X6_numberTo_56 : List Ent := [(.aload_n 0, 1, [], 0), (.iload_n 3, 1, [], 0)]
theorem a_X6_numberTo_56 : ck mX6_numberTo b_X6_numberTo_56 56 = true := by decide +kernel
theorem k_X6_numberTo_58 : CV mX6_numberTo 58 mX6_needs := CV.of 108 992 994 20 (by decide +kernel) (by decide +kernel) (by decide +kernel) (by decide +kernel)
def b_X6_numberTo_61 : List Ent := [(.return_, 1, [], 0)]
theorem a_X6_numberTo_61 : ck mX6_numberTo b_X6_numberTo_61 61 = true := by decide +kernel
theorem o_X6_odds : MOK mX6_odds 3 := MOK.of 1226 64 (by decide +kernel) (by decide +kernel) (by decide +kernel) (by decide +kernel) (by decide +kernel)
def b_X6_odds_0 : List Ent := [(.iload_n 1, 1, [], 0), (.i2l, 1, [], 0), (.lconst 0, 1, [], 0), (.ldc2_w 52, 3, [0, 934], 8)]
theorem a_X6_odds_0 : ck mX6_odds b_X6_odds_0 0 = true := by decide +kernel
theorem k_X6_odds_6 : CS mX6_odds 6 mX6_isIn := CS.of 54 935 936 (by decide +kernel) (by decide +kernel) (by decide +kernel)
def b_X6_odds_9 : List Ent := [(.ifCond .eq 24, 3, [33], 0)]
theorem a_X6_odds_9 : ck mX6_odds b_X6_odds_9 9 = true := by decide +kernel
def b_X6_odds_12 : List Ent := [(.iload_n 2, 1, [], 0), (.i2l, 1, [], 0), (.lconst 0, 1, [], 0), (.iload_n 1, 1, [], 0), (.i2l, 1, [], 0)]
theorem a_X6_odds_12 : ck mX6_odds b_X6_odds_12 12 = true := by decide +kernel
theorem k_X6_odds_17 : CS mX6_odds 17 mX6_isIn := CS.of 54 935 936 (by decide +kernel) (by decide +kernel) (by decide +kernel)
def b_X6_odds_20 : List Ent := [(.ifCond .eq 13, 3, [33], 0)]
theorem a_X6_odds_20 : ck mX6_odds b_X6_odds_20 20 = true := by decide +kernel
def b_X6_odds_23 : List Ent := [(.iload_n 3, 1, [], 0), (.i2l, 1, [], 0), (.lconst 0, 1, [], 0), (.lconst 1, 1, [], 0)]
theorem a_X6_odds_23 : ck mX6_odds b_X6_odds_23 23 = true := by decide +kernel
theorem k_X6_odds_27 : CS mX6_odds 27 mX6_isIn := CS.of 54 935 936 (by decide +kernel) (by decide +kernel) (by decide +kernel)
def b_X6_odds_30 : List Ent := [(.ifCond .ne 7, 3, [37], 0)]
theorem a_X6_odds_30 : ck mX6_odds b_X6_odds_30 30 = true := by decide +kernel
def b_X6_odds_33 : List Ent := [(.ldc2_w 250, 3, [0, 1227], (-1)), (.lreturn, 1, [], 0)]
theorem a_X6_odds_33 : ck mX6_odds b_X6_odds_33 33 = true := by decide +kernel
def b_X6_odds_37 : List Ent := [(.iload_n 1, 1, [], 0)]
theorem a_X6_odds_37 : ck mX6_odds b_X6_odds_37 37 = true := by decide +kernel
theorem k_X6_odds_38 : CS mX6_odds 38 mX6_product := CS.of 252 1228 1229 (by decide +kernel) (by decide +kernel) (by decide +kernel)
def b_X6_odds_41 : List Ent := [(.iload_n 2, 1, [], 0)]
theorem a_X6_odds_41 : ck mX6_odds b_X6_odds_41 41 = true := by decide +kernel
theorem k_X6_odds_42 : CS mX6_odds 42 mX6_product := CS.of 252 1228 1229 (by decide +kernel) (by decide +kernel) (by decide +kernel)
def b_X6_odds_45 : List Ent := [(.ldiv, 1, [], 0), (.iload_n 1, 1, [], 0), (.iload_n 2, 1, [], 0), (.isub, 1, [], 0)]
theorem a_X6_odds_45 : ck mX6_odds b_X6_odds_45 45 = true := by decide +kernel
theorem k_X6_odds_49 : CS mX6_odds 49 mX6_product := CS.of 252 1228 1229 (by decide +kernel) (by decide +kernel) (by decide +kernel)
def b_X6_odds_52 : List Ent := [(.ldiv, 1, [], 0), (.lstore 4, 2, [], 0), (.lconst 1, 1, [], 0), (.lstore 6, 2, [], 0), (.iconst 0, 1, [], 0), (.istore 8, 2, [], 0)]
theorem a_X6_odds_52 : ck mX6_odds b_X6_odds_52 52 = true := by decide +kernel
def b_X6_odds_61 : List Ent := [(.iload 8, 2, [], 0), (.iload_n 1, 1, [], 0), (.if_icmp .ge 50, 3, [114], 0)]
theorem a_X6_odds_61 : ck mX6_odds b_X6_odds_61 61 = true := by decide +kernel
def b_X6_odds_67 : List Ent := [(.lload 4, 2, [], 0), (.iload 8, 2, [], 0), (.iload_n 2, 1, [], 0), (.if_icmp .ge 14, 3, [86], 0)]
theorem a_X6_odds_67 : ck mX6_odds b_X6_odds_67 67 = true := by decide +kernel
def b_X6_odds_75 : List Ent := [(.aload_n 0, 1, [], 0), (.getfield 7, 3, [6, 0, 1, 851], 0), (.bipush 7, 2, [], 0), (.iaload, 1, [7], 0), (.i2l, 1, [], 0), (.goto 14, 3, [97], 0)]
theorem a_X6_odds_75 : ck mX6_odds b_X6_odds_75 75 = true := by decide +kernel
def b_X6_odds_86 : List Ent := [(.bipush 100, 2, [], 0), (.aload_n 0, 1, [], 0), (.getfield 7, 3, [6, 0, 1, 851], 0), (.bipush 7, 2, [], 0), (.iaload, 1, [7], 0), (.isub, 1, [], 0), (.i2l, 1, [], 0)]
theorem a_X6_odds_86 : ck mX6_odds b_X6_odds_86 86 = true := by decide +kernel
def b_X6_odds_97 : List Ent := [(.lmul, 1, [], 0), (.lstore 4, 2, [], 0), (.lload 6, 2, [], 0), (.ldc2_w 256, 3, [0, 1231], 100), (.lmul, 1, [], 0), (.lstore 6, 2, [], 0), (.iinc 8 1, 3, [], 0), (.goto (-50), 3, [61], 0)]
theorem a_X6_odds_97 : ck mX6_odds b_X6_odds_97 97 = true := by decide +kernel
def b_X6_odds_114 : List Ent := [(.lload 4, 2, [], 0), (.lload 6, 2, [], 0), (.iload_n 3, 1, [], 0)]
theorem a_X6_odds_114 : ck mX6_odds b_X6_odds_114 114 = true := by decide +kernel
theorem k_X6_odds_119 : CS mX6_odds 119 mX6_partOf := CS.of 258 1232 1233 (by decide +kernel) (by decide +kernel) (by decide +kernel)
def b_X6_odds_122 : List Ent := [(.lreturn, 1, [], 0)]
theorem a_X6_odds_122 : ck mX6_odds b_X6_odds_122 122 = true := by decide +kernel
theorem o_X6_of : MOK mX6_of 2 := MOK.of 1027 64 (by decide +kernel) (by decide +kernel) (by decide +kernel) (by decide +kernel) (by decide +kernel)
def b_X6_of_0 : List Ent := [(.aload_n 0, 1, [], 0), (.iload_n 1, 1, [], 0)]
theorem a_X6_of_0 : ck mX6_of b_X6_of_0 0 = true := by decide +kernel
theorem k_X6_of_2 : CV mX6_of 2 mX6_isOne := CV.of 162 1028 1030 24 (by decide +kernel) (by decide +kernel) (by decide +kernel) (by decide +kernel)
def b_X6_of_5 : List Ent := [(.ifCond .eq 15, 3, [20], 0)]
theorem a_X6_of_5 : ck mX6_of b_X6_of_5 5 = true := by decide +kernel
def b_X6_of_8 : List Ent := [(.iload_n 2, 1, [], 0), (.i2l, 1, [], 0), (.lconst 0, 1, [], 0), (.ldc2_w 165, 3, [0, 1032], 7)]
theorem a_X6_of_8 : ck mX6_of b_X6_of_8 8 = true := by decide +kernel
theorem k_X6_of_14 : CS mX6_of 14 mX6_isIn := CS.of 54 935 936 (by decide +kernel) (by decide +kernel) (by decide +kernel)
def b_X6_of_17 : List Ent := [(.ifCond .ne 5, 3, [22], 0)]
theorem a_X6_of_17 : ck mX6_of b_X6_of_17 17 = true := by decide +kernel
def b_X6_of_20 : List Ent := [(.iconst (-1), 1, [], 0), (.ireturn, 1, [0], 0)]
theorem a_X6_of_20 : ck mX6_of b_X6_of_20 20 = true := by decide +kernel
def b_X6_of_22 : List Ent := [(.iload_n 2, 1, [], 0), (.bipush 6, 2, [], 0), (.if_icmp .ge 12, 3, [37], 0)]
theorem a_X6_of_22 : ck mX6_of b_X6_of_22 22 = true := by decide +kernel
def b_X6_of_28 : List Ent := [(.aload_n 0, 1, [], 0), (.iload_n 1, 1, [], 0), (.iload_n 2, 1, [], 0)]
theorem a_X6_of_28 : ck mX6_of b_X6_of_28 28 = true := by decide +kernel
theorem k_X6_of_31 : CV mX6_of 31 mX6_its := CV.of 153 1033 1035 25 (by decide +kernel) (by decide +kernel) (by decide +kernel) (by decide +kernel)
def b_X6_of_34 : List Ent := [(.goto 30, 3, [64], 0)]
theorem a_X6_of_34 : ck mX6_of b_X6_of_34 34 = true := by decide +kernel
def b_X6_of_37 : List Ent := [(.iload_n 2, 1, [], 0), (.bipush 7, 2, [], 0), (.if_icmp .ne 11, 3, [51], 0)]
theorem a_X6_of_37 : ck mX6_of b_X6_of_37 37 = true := by decide +kernel
def b_X6_of_43 : List Ent := [(.aload_n 0, 1, [], 0), (.iload_n 1, 1, [], 0)]
theorem a_X6_of_43 : ck mX6_of b_X6_of_43 43 = true := by decide +kernel
theorem k_X6_of_45 : CV mX6_of 45 mX6_deep := CV.of 167 1037 1039 26 (by decide +kernel) (by decide +kernel) (by decide +kernel) (by decide +kernel)
def b_X6_of_48 : List Ent := [(.goto 16, 3, [64], 0)]
theorem a_X6_of_48 : ck mX6_of b_X6_of_48 48 = true := by decide +kernel
def b_X6_of_51 : List Ent := [(.aload_n 0, 1, [], 0), (.iload_n 1, 1, [], 0)]
theorem a_X6_of_51 : ck mX6_of b_X6_of_51 51 = true := by decide +kernel
theorem k_X6_of_53 : CV mX6_of 53 mX6_stands := CV.of 156 1041 1043 27 (by decide +kernel) (by decide +kernel) (by decide +kernel) (by decide +kernel)
def b_X6_of_56 : List Ent := [(.ifCond .eq 7, 3, [63], 0)]
theorem a_X6_of_56 : ck mX6_of b_X6_of_56 56 = true := by decide +kernel
def b_X6_of_59 : List Ent := [(.iconst 1, 1, [], 0), (.goto 4, 3, [64], 0)]
theorem a_X6_of_59 : ck mX6_of b_X6_of_59 59 = true := by decide +kernel
def b_X6_of_63 : List Ent := [(.iconst 0, 1, [], 0)]
theorem a_X6_of_63 : ck mX6_of b_X6_of_63 63 = true := by decide +kernel
def b_X6_of_64 : List Ent := [(.ireturn, 1, [0], 0)]
theorem a_X6_of_64 : ck mX6_of b_X6_of_64 64 = true := by decide +kernel
theorem o_X6_partOf : MOK mX6_partOf 3 := MOK.of 1234 64 (by decide +kernel) (by decide +kernel) (by decide +kernel) (by decide +kernel) (by decide +kernel)
def b_X6_partOf_0 : List Ent := [(.lload_n 2, 1, [], 0), (.lstore 5, 2, [], 0), (.lload_n 0, 1, [], 0), (.lstore 7, 2, [], 0)]
theorem a_X6_partOf_0 : ck mX6_partOf b_X6_partOf_0 0 = true := by decide +kernel
def b_X6_partOf_6 : List Ent := [(.lload 7, 2, [], 0), (.lconst 0, 1, [], 0), (.lcmp, 1, [], 0), (.ifCond .eq 21, 3, [31], 0)]
theorem a_X6_partOf_6 : ck mX6_partOf b_X6_partOf_6 6 = true := by decide +kernel
def b_X6_partOf_13 : List Ent := [(.lload 5, 2, [], 0), (.lload 7, 2, [], 0), (.lrem, 1, [], 0), (.lstore 9, 2, [], 0), (.lload 7, 2, [], 0), (.lstore 5, 2, [], 0), (.lload 9, 2, [], 0), (.lstore 7, 2, [], 0), (.goto (-22), 3, [6], 0)]
theorem a_X6_partOf_13 : ck mX6_partOf b_X6_partOf_13 13 = true := by decide +kernel
def b_X6_partOf_31 : List Ent := [(.iload 4, 2, [], 0), (.ifCond .ne 10, 3, [43], 0)]
theorem a_X6_partOf_31 : ck mX6_partOf b_X6_partOf_31 31 = true := by decide +kernel
def b_X6_partOf_36 : List Ent := [(.lload_n 0, 1, [], 0), (.lload 5, 2, [], 0), (.ldiv, 1, [], 0), (.goto 7, 3, [47], 0)]
theorem a_X6_partOf_36 : ck mX6_partOf b_X6_partOf_36 36 = true := by decide +kernel
def b_X6_partOf_43 : List Ent := [(.lload_n 2, 1, [], 0), (.lload 5, 2, [], 0), (.ldiv, 1, [], 0)]
theorem a_X6_partOf_43 : ck mX6_partOf b_X6_partOf_43 43 = true := by decide +kernel
def b_X6_partOf_47 : List Ent := [(.lreturn, 1, [], 0)]
theorem a_X6_partOf_47 : ck mX6_partOf b_X6_partOf_47 47 = true := by decide +kernel
theorem o_X6_parts : MOK mX6_parts 1 := MOK.of 1330 64 (by decide +kernel) (by decide +kernel) (by decide +kernel) (by decide +kernel) (by decide +kernel)
def b_X6_parts_0 : List Ent := [(.aload_n 0, 1, [], 0), (.getfield 293, 3, [6, 22, 0, 873], 0), (.iconst 3, 1, [], 0), (.if_icmp .ne 23, 3, [28], 0)]
theorem a_X6_parts_0 : ck mX6_parts b_X6_parts_0 0 = true := by decide +kernel
def b_X6_parts_8 : List Ent := [(.aload_n 0, 1, [], 0), (.bipush 50, 2, [], 0)]
theorem a_X6_parts_8 : ck mX6_parts b_X6_parts_8 8 = true := by decide +kernel
theorem k_X6_parts_11 : CV mX6_parts 11 mX6_runs := CV.of 284 1311 1313 49 (by decide +kernel) (by decide +kernel) (by decide +kernel) (by decide +kernel)
def b_X6_parts_14 : List Ent := [(.aload_n 0, 1, [], 0), (.iload_n 1, 1, [], 0), (.aload_n 0, 1, [], 0), (.getfield 302, 3, [6, 24, 0, 875], 0), (.isub, 1, [], 0)]
theorem a_X6_parts_14 : ck mX6_parts b_X6_parts_14 14 = true := by decide +kernel
theorem k_X6_parts_21 : CV mX6_parts 21 mX6_partsPlain := CV.of 311 1331 1333 54 (by decide +kernel) (by decide +kernel) (by decide +kernel) (by decide +kernel)
def b_X6_parts_24 : List Ent := [(.bipush 9, 2, [], 0), (.iadd, 1, [], 0), (.ireturn, 1, [0], 0)]
theorem a_X6_parts_24 : ck mX6_parts b_X6_parts_24 24 = true := by decide +kernel
def b_X6_parts_28 : List Ent := [(.aload_n 0, 1, [], 0), (.getfield 293, 3, [6, 22, 0, 873], 0), (.iconst 5, 1, [], 0), (.if_icmp .ne 37, 3, [70], 0)]
theorem a_X6_parts_28 : ck mX6_parts b_X6_parts_28 28 = true := by decide +kernel
def b_X6_parts_36 : List Ent := [(.aload_n 0, 1, [], 0), (.bipush 61, 2, [], 0)]
theorem a_X6_parts_36 : ck mX6_parts b_X6_parts_36 36 = true := by decide +kernel
theorem k_X6_parts_39 : CV mX6_parts 39 mX6_runs := CV.of 284 1311 1313 49 (by decide +kernel) (by decide +kernel) (by decide +kernel) (by decide +kernel)
def b_X6_parts_42 : List Ent := [(.aload_n 0, 1, [], 0), (.iload_n 1, 1, [], 0)]
theorem a_X6_parts_42 : ck mX6_parts b_X6_parts_42 42 = true := by decide +kernel
theorem k_X6_parts_44 : CV mX6_parts 44 mX6_partsPlain := CV.of 311 1331 1333 54 (by decide +kernel) (by decide +kernel) (by decide +kernel) (by decide +kernel)
def b_X6_parts_47 : List Ent := [(.istore_n 2, 1, [], 0), (.aload_n 0, 1, [], 0), (.getfield 308, 3, [6, 25, 0, 876], 0), (.ifCond .eq 7, 3, [59], 0)]
theorem a_X6_parts_47 : ck mX6_parts b_X6_parts_47 47 = true := by decide +kernel
def b_X6_parts_55 : List Ent := [(.iconst 0, 1, [], 0), (.goto 13, 3, [69], 0)]
theorem a_X6_parts_55 : ck mX6_parts b_X6_parts_55 55 = true := by decide +kernel
def b_X6_parts_59 : List Ent := [(.iload_n 2, 1, [], 0), (.aload_n 0, 1, [], 0), (.aload_n 0, 1, [], 0), (.getfield 287, 3, [6, 23, 0, 874], 0)]
theorem a_X6_parts_59 : ck mX6_parts b_X6_parts_59 59 = true := by decide +kernel
theorem k_X6_parts_65 : CV mX6_parts 65 mX6_buds := CV.of 299 1303 1305 47 (by decide +kernel) (by decide +kernel) (by decide +kernel) (by decide +kernel)
def b_X6_parts_68 : List Ent := [(.isub, 1, [], 0)]
theorem a_X6_parts_68 : ck mX6_parts b_X6_parts_68 68 = true := by decide +kernel
def b_X6_parts_69 : List Ent := [(.ireturn, 1, [0], 0)]
theorem a_X6_parts_69 : ck mX6_parts b_X6_parts_69 69 = true := by decide +kernel
def b_X6_parts_70 : List Ent := [(.aload_n 0, 1, [], 0), (.iload_n 1, 1, [], 0)]
theorem a_X6_parts_70 : ck mX6_parts b_X6_parts_70 70 = true := by decide +kernel
theorem k_X6_parts_72 : CV mX6_parts 72 mX6_partsPlain := CV.of 311 1331 1333 54 (by decide +kernel) (by decide +kernel) (by decide +kernel) (by decide +kernel)
def b_X6_parts_75 : List Ent := [(.ireturn, 1, [0], 0)]
theorem a_X6_parts_75 : ck mX6_parts b_X6_parts_75 75 = true := by decide +kernel
theorem o_X6_partsPlain : MOK mX6_partsPlain 1 := MOK.of 1334 64 (by decide +kernel) (by decide +kernel) (by decide +kernel) (by decide +kernel) (by decide +kernel)
def b_X6_partsPlain_0 : List Ent := [(.aload_n 0, 1, [], 0), (.bipush 12, 2, [], 0)]
theorem a_X6_partsPlain_0 : ck mX6_partsPlain b_X6_partsPlain_0 0 = true := by decide +kernel
theorem k_X6_partsPlain_3 : CV mX6_partsPlain 3 mX6_runs := CV.of 284 1311 1313 49 (by decide +kernel) (by decide +kernel) (by decide +kernel) (by decide +kernel)
def b_X6_partsPlain_6 : List Ent := [(.aload_n 0, 1, [], 0), (.aload_n 0, 1, [], 0), (.getfield 308, 3, [6, 25, 0, 876], 0), (.ifCond .ne 14, 3, [25], 0)]
theorem a_X6_partsPlain_6 : ck mX6_partsPlain b_X6_partsPlain_6 6 = true := by decide +kernel
def b_X6_partsPlain_14 : List Ent := [(.aload_n 0, 1, [], 0), (.getfield 287, 3, [6, 23, 0, 874], 0), (.aload_n 0, 1, [], 0), (.getfield 302, 3, [6, 24, 0, 875], 0), (.if_icmp .ne 7, 3, [29], 0)]
theorem a_X6_partsPlain_14 : ck mX6_partsPlain b_X6_partsPlain_14 14 = true := by decide +kernel
def b_X6_partsPlain_25 : List Ent := [(.iconst 1, 1, [], 0), (.goto 4, 3, [30], 0)]
theorem a_X6_partsPlain_25 : ck mX6_partsPlain b_X6_partsPlain_25 25 = true := by decide +kernel
def b_X6_partsPlain_29 : List Ent := [(.iconst 0, 1, [], 0)]
theorem a_X6_partsPlain_29 : ck mX6_partsPlain b_X6_partsPlain_29 29 = true := by decide +kernel
def b_X6_partsPlain_30 : List Ent := [(.putfield 308, 3, [6, 25, 1, 876], 0), (.aload_n 0, 1, [], 0), (.getfield 308, 3, [6, 25, 0, 876], 0), (.ifCond .eq 7, 3, [44], 0)]
theorem a_X6_partsPlain_30 : ck mX6_partsPlain b_X6_partsPlain_30 30 = true := by decide +kernel
def b_X6_partsPlain_40 : List Ent := [(.iconst 0, 1, [], 0), (.goto 14, 3, [55], 0)]
theorem a_X6_partsPlain_40 : ck mX6_partsPlain b_X6_partsPlain_40 40 = true := by decide +kernel
def b_X6_partsPlain_44 : List Ent := [(.iload_n 1, 1, [], 0), (.aload_n 0, 1, [], 0), (.getfield 302, 3, [6, 24, 0, 875], 0), (.aload_n 0, 1, [], 0), (.getfield 287, 3, [6, 23, 0, 874], 0), (.isub, 1, [], 0), (.idiv, 1, [], 0)]
theorem a_X6_partsPlain_44 : ck mX6_partsPlain b_X6_partsPlain_44 44 = true := by decide +kernel
def b_X6_partsPlain_55 : List Ent := [(.ireturn, 1, [0], 0)]
theorem a_X6_partsPlain_55 : ck mX6_partsPlain b_X6_partsPlain_55 55 = true := by decide +kernel
theorem o_X6_perhaps : MOK mX6_perhaps 3 := MOK.of 1003 64 (by decide +kernel) (by decide +kernel) (by decide +kernel) (by decide +kernel) (by decide +kernel)
def b_X6_perhaps_0 : List Ent := [(.aload_n 0, 1, [], 0), (.getfield 87, 3, [6, 11, 0, 862], 0), (.ifCond .ne 17, 3, [21], 0)]
theorem a_X6_perhaps_0 : ck mX6_perhaps b_X6_perhaps_0 0 = true := by decide +kernel
def b_X6_perhaps_7 : List Ent := [(.iload_n 1, 1, [], 0), (.ifCond .eq 13, 3, [21], 0)]
theorem a_X6_perhaps_7 : ck mX6_perhaps b_X6_perhaps_7 7 = true := by decide +kernel
def b_X6_perhaps_11 : List Ent := [(.aload_n 0, 1, [], 0)]
theorem a_X6_perhaps_11 : ck mX6_perhaps b_X6_perhaps_11 11 = true := by decide +kernel
theorem k_X6_perhaps_12 : CV mX6_perhaps 12 mX6_nextToken := CV.of 91 946 948 10 (by decide +kernel) (by decide +kernel) (by decide +kernel) (by decide +kernel)
def b_X6_perhaps_15 : List Ent := [(.aload_n 0, 1, [], 0), (.iload_n 2, 1, [], 0), (.iload_n 3, 1, [], 0)]
theorem a_X6_perhaps_15 : ck mX6_perhaps b_X6_perhaps_15 15 = true := by decide +kernel
theorem k_X6_perhaps_18 : CV mX6_perhaps 18 mX6_numberTo := CV.of 112 996 998 21 (by decide +kernel) (by decide +kernel) (by decide +kernel) (by decide +kernel)
def b_X6_perhaps_21 : List Ent := [(.return_, 1, [], 0)]
theorem a_X6_perhaps_21 : ck mX6_perhaps b_X6_perhaps_21 21 = true := by decide +kernel
theorem o_X6_product : MOK mX6_product 1 := MOK.of 1230 64 (by decide +kernel) (by decide +kernel) (by decide +kernel) (by decide +kernel) (by decide +kernel)
def b_X6_product_0 : List Ent := [(.lconst 1, 1, [], 0), (.lstore_n 1, 1, [], 0), (.iconst 2, 1, [], 0), (.istore_n 3, 1, [], 0)]
theorem a_X6_product_0 : ck mX6_product b_X6_product_0 0 = true := by decide +kernel
def b_X6_product_4 : List Ent := [(.iload_n 3, 1, [], 0), (.iload_n 0, 1, [], 0), (.if_icmp .gt 14, 3, [20], 0)]
theorem a_X6_product_4 : ck mX6_product b_X6_product_4 4 = true := by decide +kernel
def b_X6_product_9 : List Ent := [(.lload_n 1, 1, [], 0), (.iload_n 3, 1, [], 0), (.i2l, 1, [], 0), (.lmul, 1, [], 0), (.lstore_n 1, 1, [], 0), (.iinc 3 1, 3, [], 0), (.goto (-13), 3, [4], 0)]
theorem a_X6_product_9 : ck mX6_product b_X6_product_9 9 = true := by decide +kernel
def b_X6_product_20 : List Ent := [(.lload_n 1, 1, [], 0), (.lreturn, 1, [], 0)]
theorem a_X6_product_20 : ck mX6_product b_X6_product_20 20 = true := by decide +kernel
theorem o_X6_prove : MOK mX6_prove 2 := MOK.of 1242 64 (by decide +kernel) (by decide +kernel) (by decide +kernel) (by decide +kernel) (by decide +kernel)
def b_X6_prove_0 : List Ent := [(.aload_n 0, 1, [], 0), (.iload_n 1, 1, [], 0)]
theorem a_X6_prove_0 : ck mX6_prove b_X6_prove_0 0 = true := by decide +kernel
theorem k_X6_prove_2 : CV mX6_prove 2 mX6_isOne := CV.of 162 1028 1030 24 (by decide +kernel) (by decide +kernel) (by decide +kernel) (by decide +kernel)
def b_X6_prove_5 : List Ent := [(.ifCond .eq 15, 3, [20], 0)]
theorem a_X6_prove_5 : ck mX6_prove b_X6_prove_5 5 = true := by decide +kernel
def b_X6_prove_8 : List Ent := [(.iload_n 2, 1, [], 0), (.i2l, 1, [], 0), (.lconst 1, 1, [], 0), (.ldc2_w 236, 3, [0, 1190], 10)]
theorem a_X6_prove_8 : ck mX6_prove b_X6_prove_8 8 = true := by decide +kernel
theorem k_X6_prove_14 : CS mX6_prove 14 mX6_isIn := CS.of 54 935 936 (by decide +kernel) (by decide +kernel) (by decide +kernel)
def b_X6_prove_17 : List Ent := [(.ifCond .ne 5, 3, [22], 0)]
theorem a_X6_prove_17 : ck mX6_prove b_X6_prove_17 17 = true := by decide +kernel
def b_X6_prove_20 : List Ent := [(.iconst (-1), 1, [], 0), (.ireturn, 1, [0], 0)]
theorem a_X6_prove_20 : ck mX6_prove b_X6_prove_20 20 = true := by decide +kernel
def b_X6_prove_22 : List Ent := [(.aload_n 0, 1, [], 0), (.getfield 7, 3, [6, 0, 1, 851], 0), (.aload_n 0, 1, [], 0), (.getfield 16, 3, [6, 2, 3, 853], 0)]
theorem a_X6_prove_22 : ck mX6_prove b_X6_prove_22 22 = true := by decide +kernel
theorem k_X6_prove_30 : CS mX6_prove 30 mX6_copyRow := CS.of 131 943 944 (by decide +kernel) (by decide +kernel) (by decide +kernel)
def b_X6_prove_33 : List Ent := [(.iconst 0, 1, [], 0), (.istore_n 3, 1, [], 0)]
theorem a_X6_prove_33 : ck mX6_prove b_X6_prove_33 33 = true := by decide +kernel
def b_X6_prove_35 : List Ent := [(.iload_n 3, 1, [], 0), (.iload_n 2, 1, [], 0), (.if_icmp .ge 60, 3, [97], 0)]
theorem a_X6_prove_35 : ck mX6_prove b_X6_prove_35 35 = true := by decide +kernel
def b_X6_prove_40 : List Ent := [(.aload_n 0, 1, [], 0), (.getfield 25, 3, [6, 12, 6, 863], 0), (.iconst 3, 1, [], 0), (.iload_n 3, 1, [], 0), (.imul, 1, [], 0), (.iconst 2, 1, [], 0), (.iadd, 1, [], 0), (.aload_n 0, 1, [], 0)]
theorem a_X6_prove_40 : ck mX6_prove b_X6_prove_40 40 = true := by decide +kernel
theorem k_X6_prove_50 : CV mX6_prove 50 mX6_goesOn := CV.of 203 1109 1111 34 (by decide +kernel) (by decide +kernel) (by decide +kernel) (by decide +kernel)
def b_X6_prove_53 : List Ent := [(.iastore, 1, [], 0), (.aload_n 0, 1, [], 0), (.getfield 25, 3, [6, 12, 6, 863], 0), (.iconst 3, 1, [], 0), (.iload_n 3, 1, [], 0), (.imul, 1, [], 0), (.aload_n 0, 1, [], 0), (.iload_n 1, 1, [], 0), (.iconst 2, 1, [], 0)]
theorem a_X6_prove_53 : ck mX6_prove b_X6_prove_53 53 = true := by decide +kernel
theorem k_X6_prove_64 : CV mX6_prove 64 mX6_its := CV.of 153 1033 1035 25 (by decide +kernel) (by decide +kernel) (by decide +kernel) (by decide +kernel)
def b_X6_prove_67 : List Ent := [(.iastore, 1, [], 0), (.aload_n 0, 1, [], 0), (.getfield 25, 3, [6, 12, 6, 863], 0), (.iconst 3, 1, [], 0), (.iload_n 3, 1, [], 0), (.imul, 1, [], 0), (.iconst 1, 1, [], 0), (.iadd, 1, [], 0), (.aload_n 0, 1, [], 0), (.iload_n 1, 1, [], 0)]
theorem a_X6_prove_67 : ck mX6_prove b_X6_prove_67 67 = true := by decide +kernel
theorem k_X6_prove_79 : CV mX6_prove 79 mX6_stands := CV.of 156 1041 1043 27 (by decide +kernel) (by decide +kernel) (by decide +kernel) (by decide +kernel)
def b_X6_prove_82 : List Ent := [(.ifCond .eq 7, 3, [89], 0)]
theorem a_X6_prove_82 : ck mX6_prove b_X6_prove_82 82 = true := by decide +kernel
def b_X6_prove_85 : List Ent := [(.iconst 1, 1, [], 0), (.goto 4, 3, [90], 0)]
theorem a_X6_prove_85 : ck mX6_prove b_X6_prove_85 85 = true := by decide +kernel
def b_X6_prove_89 : List Ent := [(.iconst 0, 1, [], 0)]
theorem a_X6_prove_89 : ck mX6_prove b_X6_prove_89 89 = true := by decide +kernel
def b_X6_prove_90 : List Ent := [(.iastore, 1, [], 0), (.iinc 3 1, 3, [], 0), (.goto (-59), 3, [35], 0)]
theorem a_X6_prove_90 : ck mX6_prove b_X6_prove_90 90 = true := by decide +kernel
def b_X6_prove_97 : List Ent := [(.aload_n 0, 1, [], 0), (.getfield 16, 3, [6, 2, 3, 853], 0), (.aload_n 0, 1, [], 0), (.getfield 7, 3, [6, 0, 1, 851], 0)]
theorem a_X6_prove_97 : ck mX6_prove b_X6_prove_97 97 = true := by decide +kernel
theorem k_X6_prove_105 : CS mX6_prove 105 mX6_copyRow := CS.of 131 943 944 (by decide +kernel) (by decide +kernel) (by decide +kernel)
def b_X6_prove_108 : List Ent := [(.aload_n 0, 1, [], 0), (.iload_n 2, 1, [], 0), (.putfield 138, 3, [6, 13, 0, 864], 0), (.iload_n 2, 1, [], 0), (.ireturn, 1, [0], 0)]
theorem a_X6_prove_108 : ck mX6_prove b_X6_prove_108 108 = true := by decide +kernel
theorem o_X6_put : MOK mX6_put 3 := MOK.of 1266 64 (by decide +kernel) (by decide +kernel) (by decide +kernel) (by decide +kernel) (by decide +kernel)
def b_X6_put_0 : List Ent := [(.iload_n 1, 1, [], 0)]
theorem a_X6_put_0 : ck mX6_put b_X6_put_0 0 = true := by decide +kernel
theorem k_X6_put_1 : CS mX6_put 1 mX6_isSheet := CS.of 244 1216 1217 (by decide +kernel) (by decide +kernel) (by decide +kernel)
def b_X6_put_4 : List Ent := [(.ifCond .ne 5, 3, [9], 0)]
theorem a_X6_put_4 : ck mX6_put b_X6_put_4 4 = true := by decide +kernel
def b_X6_put_7 : List Ent := [(.iconst (-1), 1, [], 0), (.ireturn, 1, [0], 0)]
theorem a_X6_put_7 : ck mX6_put b_X6_put_7 7 = true := by decide +kernel
def b_X6_put_9 : List Ent := [(.aload_n 0, 1, [], 0), (.getfield 28, 3, [6, 14, 7, 865], 0), (.iload_n 1, 1, [], 0), (.iaload, 1, [7], 0), (.ifCond .ge 6, 3, [21], 0)]
theorem a_X6_put_9 : ck mX6_put b_X6_put_9 9 = true := by decide +kernel
def b_X6_put_18 : List Ent := [(.bipush (-11), 2, [], 0), (.ireturn, 1, [0], 0)]
theorem a_X6_put_18 : ck mX6_put b_X6_put_18 18 = true := by decide +kernel
def b_X6_put_21 : List Ent := [(.iload_n 2, 1, [], 0), (.i2l, 1, [], 0), (.lconst 0, 1, [], 0), (.aload_n 0, 1, [], 0), (.getfield 31, 3, [6, 15, 8, 866], 0), (.iload_n 1, 1, [], 0), (.iaload, 1, [7], 0), (.iconst 1, 1, [], 0), (.isub, 1, [], 0), (.i2l, 1, [], 0)]
theorem a_X6_put_21 : ck mX6_put b_X6_put_21 21 = true := by decide +kernel
theorem k_X6_put_33 : CS mX6_put 33 mX6_isIn := CS.of 54 935 936 (by decide +kernel) (by decide +kernel) (by decide +kernel)
def b_X6_put_36 : List Ent := [(.ifCond .ne 6, 3, [42], 0)]
theorem a_X6_put_36 : ck mX6_put b_X6_put_36 36 = true := by decide +kernel
def b_X6_put_39 : List Ent := [(.bipush (-12), 2, [], 0), (.ireturn, 1, [0], 0)]
theorem a_X6_put_39 : ck mX6_put b_X6_put_39 39 = true := by decide +kernel
def b_X6_put_42 : List Ent := [(.aload_n 0, 1, [], 0), (.getfield 34, 3, [6, 16, 9, 867], 0), (.bipush 40, 2, [], 0), (.iload_n 1, 1, [], 0), (.imul, 1, [], 0), (.iload_n 2, 1, [], 0), (.iadd, 1, [], 0), (.aload_n 0, 1, [], 0), (.getfield 28, 3, [6, 14, 7, 865], 0), (.iload_n 1, 1, [], 0), (.iaload, 1, [7], 0), (.ifCond .ne 8, 3, [66], 0)]
theorem a_X6_put_42 : ck mX6_put b_X6_put_42 42 = true := by decide +kernel
def b_X6_put_61 : List Ent := [(.iload_n 3, 1, [], 0), (.i2b, 1, [], 0), (.goto 19, 3, [82], 0)]
theorem a_X6_put_61 : ck mX6_put b_X6_put_61 61 = true := by decide +kernel
def b_X6_put_66 : List Ent := [(.aload_n 0, 1, [], 0), (.getfield 28, 3, [6, 14, 7, 865], 0), (.iload_n 1, 1, [], 0), (.iaload, 1, [7], 0), (.iconst 1, 1, [], 0), (.if_icmp .ne 8, 3, [81], 0)]
theorem a_X6_put_66 : ck mX6_put b_X6_put_66 66 = true := by decide +kernel
def b_X6_put_76 : List Ent := [(.iload_n 3, 1, [], 0), (.i2s, 1, [], 0), (.goto 4, 3, [82], 0)]
theorem a_X6_put_76 : ck mX6_put b_X6_put_76 76 = true := by decide +kernel
def b_X6_put_81 : List Ent := [(.iload_n 3, 1, [], 0)]
theorem a_X6_put_81 : ck mX6_put b_X6_put_81 81 = true := by decide +kernel
def b_X6_put_82 : List Ent := [(.iastore, 1, [], 0), (.iconst 1, 1, [], 0), (.ireturn, 1, [0], 0)]
theorem a_X6_put_82 : ck mX6_put b_X6_put_82 82 = true := by decide +kernel
theorem o_X6_regret : MOK mX6_regret 2 := MOK.of 1203 64 (by decide +kernel) (by decide +kernel) (by decide +kernel) (by decide +kernel) (by decide +kernel)
def b_X6_regret_0 : List Ent := [(.aload_n 0, 1, [], 0), (.iload_n 1, 1, [], 0)]
theorem a_X6_regret_0 : ck mX6_regret b_X6_regret_0 0 = true := by decide +kernel
theorem k_X6_regret_2 : CV mX6_regret 2 mX6_isOne := CV.of 162 1028 1030 24 (by decide +kernel) (by decide +kernel) (by decide +kernel) (by decide +kernel)
def b_X6_regret_5 : List Ent := [(.ifCond .eq 10, 3, [15], 0)]
theorem a_X6_regret_5 : ck mX6_regret b_X6_regret_5 5 = true := by decide +kernel
def b_X6_regret_8 : List Ent := [(.iload_n 2, 1, [], 0)]
theorem a_X6_regret_8 : ck mX6_regret b_X6_regret_8 8 = true := by decide +kernel
theorem k_X6_regret_9 : CS mX6_regret 9 mX6_isShort := CS.of 233 1182 1183 (by decide +kernel) (by decide +kernel) (by decide +kernel)
def b_X6_regret_12 : List Ent := [(.ifCond .ne 5, 3, [17], 0)]
theorem a_X6_regret_12 : ck mX6_regret b_X6_regret_12 12 = true := by decide +kernel
def b_X6_regret_15 : List Ent := [(.iconst (-1), 1, [], 0), (.ireturn, 1, [0], 0)]
theorem a_X6_regret_15 : ck mX6_regret b_X6_regret_15 15 = true := by decide +kernel
def b_X6_regret_17 : List Ent := [(.aload_n 0, 1, [], 0), (.iload_n 1, 1, [], 0)]
theorem a_X6_regret_17 : ck mX6_regret b_X6_regret_17 17 = true := by decide +kernel
theorem k_X6_regret_19 : CV mX6_regret 19 mX6_mayBack := CV.of 188 1093 1095 32 (by decide +kernel) (by decide +kernel) (by decide +kernel) (by decide +kernel)
def b_X6_regret_22 : List Ent := [(.ifCond .ne 6, 3, [28], 0)]
theorem a_X6_regret_22 : ck mX6_regret b_X6_regret_22 22 = true := by decide +kernel
def b_X6_regret_25 : List Ent := [(.bipush (-3), 2, [], 0), (.ireturn, 1, [0], 0)]
theorem a_X6_regret_25 : ck mX6_regret b_X6_regret_25 25 = true := by decide +kernel
def b_X6_regret_28 : List Ent := [(.aload_n 0, 1, [], 0), (.iload_n 2, 1, [], 0), (.iconst 0, 1, [], 0)]
theorem a_X6_regret_28 : ck mX6_regret b_X6_regret_28 28 = true := by decide +kernel
theorem k_X6_regret_31 : CV mX6_regret 31 mX6_harvestBy := CV.of 224 1162 1164 40 (by decide +kernel) (by decide +kernel) (by decide +kernel) (by decide +kernel)
def b_X6_regret_34 : List Ent := [(.istore_n 3, 1, [], 0), (.aload_n 0, 1, [], 0), (.iload_n 1, 1, [], 0), (.iconst 5, 1, [], 0)]
theorem a_X6_regret_34 : ck mX6_regret b_X6_regret_34 34 = true := by decide +kernel
theorem k_X6_regret_38 : CV mX6_regret 38 mX6_its := CV.of 153 1033 1035 25 (by decide +kernel) (by decide +kernel) (by decide +kernel) (by decide +kernel)
def b_X6_regret_41 : List Ent := [(.istore 4, 2, [], 0), (.aload_n 0, 1, [], 0), (.iload_n 1, 1, [], 0)]
theorem a_X6_regret_41 : ck mX6_regret b_X6_regret_41 41 = true := by decide +kernel
theorem k_X6_regret_45 : CV mX6_regret 45 mX6_comesBack := CV.of 191 1100 1102 33 (by decide +kernel) (by decide +kernel) (by decide +kernel) (by decide +kernel)
def b_X6_regret_48 : List Ent := [(.aload_n 0, 1, [], 0), (.iload_n 2, 1, [], 0), (.iconst 0, 1, [], 0)]
theorem a_X6_regret_48 : ck mX6_regret b_X6_regret_48 48 = true := by decide +kernel
theorem k_X6_regret_51 : CV mX6_regret 51 mX6_harvestBy := CV.of 224 1162 1164 40 (by decide +kernel) (by decide +kernel) (by decide +kernel) (by decide +kernel)
def b_X6_regret_54 : List Ent := [(.iload_n 3, 1, [], 0), (.isub, 1, [], 0), (.istore 5, 2, [], 0), (.aload_n 0, 1, [], 0), (.getfield 7, 3, [6, 0, 1, 851], 0), (.bipush 8, 2, [], 0), (.bipush 6, 2, [], 0), (.iload_n 1, 1, [], 0), (.imul, 1, [], 0), (.iadd, 1, [], 0), (.iconst 4, 1, [], 0), (.iadd, 1, [], 0), (.iconst 1, 1, [], 0), (.iastore, 1, [], 0), (.aload_n 0, 1, [], 0), (.getfield 7, 3, [6, 0, 1, 851], 0), (.bipush 8, 2, [], 0), (.bipush 6, 2, [], 0), (.iload_n 1, 1, [], 0), (.imul, 1, [], 0), (.iadd, 1, [], 0), (.iconst 5, 1, [], 0), (.iadd, 1, [], 0), (.iload 4, 2, [], 0), (.iastore, 1, [], 0), (.sipush 10000, 3, [], 0), (.iload 5, 2, [], 0), (.iadd, 1, [], 0), (.ireturn, 1, [0], 0)]
theorem a_X6_regret_54 : ck mX6_regret b_X6_regret_54 54 = true := by decide +kernel
theorem o_X6_ripe : MOK mX6_ripe 1 := MOK.of 1177 64 (by decide +kernel) (by decide +kernel) (by decide +kernel) (by decide +kernel) (by decide +kernel)
def b_X6_ripe_0 : List Ent := [(.aload_n 0, 1, [], 0), (.iload_n 1, 1, [], 0)]
theorem a_X6_ripe_0 : ck mX6_ripe b_X6_ripe_0 0 = true := by decide +kernel
theorem k_X6_ripe_2 : CV mX6_ripe 2 mX6_isOne := CV.of 162 1028 1030 24 (by decide +kernel) (by decide +kernel) (by decide +kernel) (by decide +kernel)
def b_X6_ripe_5 : List Ent := [(.ifCond .ne 5, 3, [10], 0)]
theorem a_X6_ripe_5 : ck mX6_ripe b_X6_ripe_5 5 = true := by decide +kernel
def b_X6_ripe_8 : List Ent := [(.iconst (-1), 1, [], 0), (.ireturn, 1, [0], 0)]
theorem a_X6_ripe_8 : ck mX6_ripe b_X6_ripe_8 8 = true := by decide +kernel
def b_X6_ripe_10 : List Ent := [(.aload_n 0, 1, [], 0), (.getfield 7, 3, [6, 0, 1, 851], 0), (.aload_n 0, 1, [], 0), (.getfield 16, 3, [6, 2, 3, 853], 0)]
theorem a_X6_ripe_10 : ck mX6_ripe b_X6_ripe_10 10 = true := by decide +kernel
theorem k_X6_ripe_18 : CS mX6_ripe 18 mX6_copyRow := CS.of 131 943 944 (by decide +kernel) (by decide +kernel) (by decide +kernel)
def b_X6_ripe_21 : List Ent := [(.iconst 0, 1, [], 0), (.istore_n 2, 1, [], 0)]
theorem a_X6_ripe_21 : ck mX6_ripe b_X6_ripe_21 21 = true := by decide +kernel
def b_X6_ripe_23 : List Ent := [(.iload_n 2, 1, [], 0), (.bipush 60, 2, [], 0), (.if_icmp .gt 25, 3, [51], 0)]
theorem a_X6_ripe_23 : ck mX6_ripe b_X6_ripe_23 23 = true := by decide +kernel
def b_X6_ripe_29 : List Ent := [(.aload_n 0, 1, [], 0), (.iload_n 1, 1, [], 0), (.iconst 2, 1, [], 0)]
theorem a_X6_ripe_29 : ck mX6_ripe b_X6_ripe_29 29 = true := by decide +kernel
theorem k_X6_ripe_32 : CV mX6_ripe 32 mX6_its := CV.of 153 1033 1035 25 (by decide +kernel) (by decide +kernel) (by decide +kernel) (by decide +kernel)
def b_X6_ripe_35 : List Ent := [(.bipush 9, 2, [], 0), (.if_icmp .ge 14, 3, [51], 0)]
theorem a_X6_ripe_35 : ck mX6_ripe b_X6_ripe_35 35 = true := by decide +kernel
def b_X6_ripe_40 : List Ent := [(.aload_n 0, 1, [], 0)]
theorem a_X6_ripe_40 : ck mX6_ripe b_X6_ripe_40 40 = true := by decide +kernel
theorem k_X6_ripe_41 : CV mX6_ripe 41 mX6_goesOn := CV.of 203 1109 1111 34 (by decide +kernel) (by decide +kernel) (by decide +kernel) (by decide +kernel)
def b_X6_ripe_44 : List Ent := [(.istore_n 3, 1, [], 0), (.iinc 2 1, 3, [], 0), (.goto (-25), 3, [23], 0)]
theorem a_X6_ripe_44 : ck mX6_ripe b_X6_ripe_44 44 = true := by decide +kernel
def b_X6_ripe_51 : List Ent := [(.aload_n 0, 1, [], 0), (.getfield 16, 3, [6, 2, 3, 853], 0), (.aload_n 0, 1, [], 0), (.getfield 7, 3, [6, 0, 1, 851], 0)]
theorem a_X6_ripe_51 : ck mX6_ripe b_X6_ripe_51 51 = true := by decide +kernel
theorem k_X6_ripe_59 : CS mX6_ripe 59 mX6_copyRow := CS.of 131 943 944 (by decide +kernel) (by decide +kernel) (by decide +kernel)
def b_X6_ripe_62 : List Ent := [(.iload_n 2, 1, [], 0), (.bipush 60, 2, [], 0), (.if_icmp .gt 7, 3, [72], 0)]
theorem a_X6_ripe_62 : ck mX6_ripe b_X6_ripe_62 62 = true := by decide +kernel
def b_X6_ripe_68 : List Ent := [(.iload_n 2, 1, [], 0), (.goto 5, 3, [74], 0)]
theorem a_X6_ripe_68 : ck mX6_ripe b_X6_ripe_68 68 = true := by decide +kernel
def b_X6_ripe_72 : List Ent := [(.bipush (-3), 2, [], 0)]
theorem a_X6_ripe_72 : ck mX6_ripe b_X6_ripe_72 72 = true := by decide +kernel
def b_X6_ripe_74 : List Ent := [(.ireturn, 1, [0], 0)]
theorem a_X6_ripe_74 : ck mX6_ripe b_X6_ripe_74 74 = true := by decide +kernel
theorem o_X6_row : MOK mX6_row 2 := MOK.of 1246 64 (by decide +kernel) (by decide +kernel) (by decide +kernel) (by decide +kernel) (by decide +kernel)
def b_X6_row_0 : List Ent := [(.aload_n 0, 1, [], 0), (.iload_n 1, 1, [], 0), (.iload_n 2, 1, [], 0)]
theorem a_X6_row_0 : ck mX6_row b_X6_row_0 0 = true := by decide +kernel
theorem k_X6_row_3 : CV mX6_row 3 mX6_isRow := CV.of 262 1247 1249 44 (by decide +kernel) (by decide +kernel) (by decide +kernel) (by decide +kernel)
def b_X6_row_6 : List Ent := [(.ifCond .eq 16, 3, [22], 0)]
theorem a_X6_row_6 : ck mX6_row b_X6_row_6 6 = true := by decide +kernel
def b_X6_row_9 : List Ent := [(.aload_n 0, 1, [], 0), (.getfield 25, 3, [6, 12, 6, 863], 0), (.iconst 3, 1, [], 0), (.iload_n 1, 1, [], 0), (.imul, 1, [], 0), (.iload_n 2, 1, [], 0), (.iadd, 1, [], 0), (.iaload, 1, [7], 0), (.goto 5, 3, [24], 0)]
theorem a_X6_row_9 : ck mX6_row b_X6_row_9 9 = true := by decide +kernel
def b_X6_row_22 : List Ent := [(.bipush (-9), 2, [], 0)]
theorem a_X6_row_22 : ck mX6_row b_X6_row_22 22 = true := by decide +kernel
def b_X6_row_24 : List Ent := [(.ireturn, 1, [0], 0)]
theorem a_X6_row_24 : ck mX6_row b_X6_row_24 24 = true := by decide +kernel
theorem o_X6_runs : MOK mX6_runs 1 := MOK.of 1314 64 (by decide +kernel) (by decide +kernel) (by decide +kernel) (by decide +kernel) (by decide +kernel)
def b_X6_runs_0 : List Ent := [(.aload_n 0, 1, [], 0), (.getfield 281, 3, [6, 21, 0, 872], 0), (.bipush 30, 2, [], 0), (.if_icmp .ge 23, 3, [29], 0)]
theorem a_X6_runs_0 : ck mX6_runs b_X6_runs_0 0 = true := by decide +kernel
def b_X6_runs_9 : List Ent := [(.aload_n 0, 1, [], 0), (.getfield 46, 3, [6, 20, 13, 871], 0), (.aload_n 0, 1, [], 0), (.getfield 281, 3, [6, 21, 0, 872], 0), (.iload_n 1, 1, [], 0), (.iastore, 1, [], 0), (.aload_n 0, 1, [], 0), (.dup, 1, [], 0), (.getfield 281, 3, [6, 21, 0, 872], 0), (.iconst 1, 1, [], 0), (.iadd, 1, [], 0), (.putfield 281, 3, [6, 21, 0, 872], 0)]
theorem a_X6_runs_9 : ck mX6_runs b_X6_runs_9 9 = true := by decide +kernel
def b_X6_runs_29 : List Ent := [(.return_, 1, [], 0)]
theorem a_X6_runs_29 : ck mX6_runs b_X6_runs_29 29 = true := by decide +kernel
theorem o_X6_seed : MOK mX6_seed 1 := MOK.of 1123 64 (by decide +kernel) (by decide +kernel) (by decide +kernel) (by decide +kernel) (by decide +kernel)
def b_X6_seed_0 : List Ent := [(.aload_n 0, 1, [], 0), (.iconst 2, 1, [], 0), (.iload_n 1, 1, [], 0)]
theorem a_X6_seed_0 : ck mX6_seed b_X6_seed_0 0 = true := by decide +kernel
theorem k_X6_seed_3 : CV mX6_seed 3 mX6_becomes := CV.of 147 1011 1013 23 (by decide +kernel) (by decide +kernel) (by decide +kernel) (by decide +kernel)
def b_X6_seed_6 : List Ent := [(.ireturn, 1, [0], 0)]
theorem a_X6_seed_6 : ck mX6_seed b_X6_seed_6 6 = true := by decide +kernel
theorem o_X6_set : MOK mX6_set 2 := MOK.of 1007 64 (by decide +kernel) (by decide +kernel) (by decide +kernel) (by decide +kernel) (by decide +kernel)
def b_X6_set_0 : List Ent := [(.iload_n 1, 1, [], 0), (.i2l, 1, [], 0), (.lconst 0, 1, [], 0), (.ldc2_w 141, 3, [0, 1008], 3)]
theorem a_X6_set_0 : ck mX6_set b_X6_set_0 0 = true := by decide +kernel
theorem k_X6_set_6 : CS mX6_set 6 mX6_isIn := CS.of 54 935 936 (by decide +kernel) (by decide +kernel) (by decide +kernel)
def b_X6_set_9 : List Ent := [(.ifCond .eq 37, 3, [46], 0)]
theorem a_X6_set_9 : ck mX6_set b_X6_set_9 9 = true := by decide +kernel
def b_X6_set_12 : List Ent := [(.iload_n 2, 1, [], 0), (.i2l, 1, [], 0), (.lconst 0, 1, [], 0), (.iload_n 1, 1, [], 0), (.iconst 3, 1, [], 0), (.if_icmp .ne 9, 3, [26], 0)]
theorem a_X6_set_12 : ck mX6_set b_X6_set_12 12 = true := by decide +kernel
def b_X6_set_20 : List Ent := [(.ldc2_w 143, 3, [0, 1009], 99), (.goto 6, 3, [29], 0)]
theorem a_X6_set_20 : ck mX6_set b_X6_set_20 20 = true := by decide +kernel
def b_X6_set_26 : List Ent := [(.ldc2_w 145, 3, [0, 1010], 9)]
theorem a_X6_set_26 : ck mX6_set b_X6_set_26 26 = true := by decide +kernel
theorem k_X6_set_29 : CS mX6_set 29 mX6_isIn := CS.of 54 935 936 (by decide +kernel) (by decide +kernel) (by decide +kernel)
def b_X6_set_32 : List Ent := [(.ifCond .eq 14, 3, [46], 0)]
theorem a_X6_set_32 : ck mX6_set b_X6_set_32 32 = true := by decide +kernel
def b_X6_set_35 : List Ent := [(.aload_n 0, 1, [], 0), (.iconst 4, 1, [], 0), (.iload_n 1, 1, [], 0), (.iadd, 1, [], 0), (.iload_n 2, 1, [], 0)]
theorem a_X6_set_35 : ck mX6_set b_X6_set_35 35 = true := by decide +kernel
theorem k_X6_set_40 : CV mX6_set 40 mX6_becomes := CV.of 147 1011 1013 23 (by decide +kernel) (by decide +kernel) (by decide +kernel) (by decide +kernel)
def b_X6_set_43 : List Ent := [(.goto 4, 3, [47], 0)]
theorem a_X6_set_43 : ck mX6_set b_X6_set_43 43 = true := by decide +kernel
def b_X6_set_46 : List Ent := [(.iconst (-1), 1, [], 0)]
theorem a_X6_set_46 : ck mX6_set b_X6_set_46 46 = true := by decide +kernel
def b_X6_set_47 : List Ent := [(.ireturn, 1, [0], 0)]
theorem a_X6_set_47 : ck mX6_set b_X6_set_47 47 = true := by decide +kernel
theorem o_X6_sheet : MOK mX6_sheet 3 := MOK.of 1262 64 (by decide +kernel) (by decide +kernel) (by decide +kernel) (by decide +kernel) (by decide +kernel)
def b_X6_sheet_0 : List Ent := [(.iload_n 1, 1, [], 0)]
theorem a_X6_sheet_0 : ck mX6_sheet b_X6_sheet_0 0 = true := by decide +kernel
theorem k_X6_sheet_1 : CS mX6_sheet 1 mX6_isSheet := CS.of 244 1216 1217 (by decide +kernel) (by decide +kernel) (by decide +kernel)
def b_X6_sheet_4 : List Ent := [(.ifCond .eq 27, 3, [31], 0)]
theorem a_X6_sheet_4 : ck mX6_sheet b_X6_sheet_4 4 = true := by decide +kernel
def b_X6_sheet_7 : List Ent := [(.iload_n 2, 1, [], 0), (.i2l, 1, [], 0), (.ldc2_w 250, 3, [0, 1227], (-1)), (.ldc2_w 141, 3, [0, 1008], 3)]
theorem a_X6_sheet_7 : ck mX6_sheet b_X6_sheet_7 7 = true := by decide +kernel
theorem k_X6_sheet_15 : CS mX6_sheet 15 mX6_isIn := CS.of 54 935 936 (by decide +kernel) (by decide +kernel) (by decide +kernel)
def b_X6_sheet_18 : List Ent := [(.ifCond .eq 13, 3, [31], 0)]
theorem a_X6_sheet_18 : ck mX6_sheet b_X6_sheet_18 18 = true := by decide +kernel
def b_X6_sheet_21 : List Ent := [(.iload_n 2, 1, [], 0), (.ifCond .lt 11, 3, [33], 0)]
theorem a_X6_sheet_21 : ck mX6_sheet b_X6_sheet_21 21 = true := by decide +kernel
def b_X6_sheet_25 : List Ent := [(.iload_n 3, 1, [], 0), (.bipush 40, 2, [], 0), (.if_icmp .le 5, 3, [33], 0)]
theorem a_X6_sheet_25 : ck mX6_sheet b_X6_sheet_25 25 = true := by decide +kernel
def b_X6_sheet_31 : List Ent := [(.iconst (-1), 1, [], 0), (.ireturn, 1, [0], 0)]
theorem a_X6_sheet_31 : ck mX6_sheet b_X6_sheet_31 31 = true := by decide +kernel
def b_X6_sheet_33 : List Ent := [(.iload_n 2, 1, [], 0), (.ifCond .lt 10, 3, [44], 0)]
theorem a_X6_sheet_33 : ck mX6_sheet b_X6_sheet_33 33 = true := by decide +kernel
def b_X6_sheet_37 : List Ent := [(.iload_n 3, 1, [], 0), (.ifCond .ge 6, 3, [44], 0)]
theorem a_X6_sheet_37 : ck mX6_sheet b_X6_sheet_37 37 = true := by decide +kernel
def b_X6_sheet_41 : List Ent := [(.bipush (-14), 2, [], 0), (.ireturn, 1, [0], 0)]
theorem a_X6_sheet_41 : ck mX6_sheet b_X6_sheet_41 41 = true := by decide +kernel
def b_X6_sheet_44 : List Ent := [(.aload_n 0, 1, [], 0), (.getfield 28, 3, [6, 14, 7, 865], 0), (.iload_n 1, 1, [], 0), (.iload_n 2, 1, [], 0), (.iastore, 1, [], 0), (.aload_n 0, 1, [], 0), (.getfield 31, 3, [6, 15, 8, 866], 0), (.iload_n 1, 1, [], 0), (.iload_n 2, 1, [], 0), (.ifCond .ge 7, 3, [64], 0)]
theorem a_X6_sheet_44 : ck mX6_sheet b_X6_sheet_44 44 = true := by decide +kernel
def b_X6_sheet_60 : List Ent := [(.iconst 0, 1, [], 0), (.goto 4, 3, [65], 0)]
theorem a_X6_sheet_60 : ck mX6_sheet b_X6_sheet_60 60 = true := by decide +kernel
def b_X6_sheet_64 : List Ent := [(.iload_n 3, 1, [], 0)]
theorem a_X6_sheet_64 : ck mX6_sheet b_X6_sheet_64 64 = true := by decide +kernel
def b_X6_sheet_65 : List Ent := [(.iastore, 1, [], 0), (.iconst 0, 1, [], 0), (.istore 4, 2, [], 0)]
theorem a_X6_sheet_65 : ck mX6_sheet b_X6_sheet_65 65 = true := by decide +kernel
def b_X6_sheet_69 : List Ent := [(.iload 4, 2, [], 0), (.bipush 40, 2, [], 0), (.if_icmp .ge 22, 3, [95], 0)]
theorem a_X6_sheet_69 : ck mX6_sheet b_X6_sheet_69 69 = true := by decide +kernel
def b_X6_sheet_76 : List Ent := [(.aload_n 0, 1, [], 0), (.getfield 34, 3, [6, 16, 9, 867], 0), (.bipush 40, 2, [], 0), (.iload_n 1, 1, [], 0), (.imul, 1, [], 0), (.iload 4, 2, [], 0), (.iadd, 1, [], 0), (.iconst 0, 1, [], 0), (.iastore, 1, [], 0), (.iinc 4 1, 3, [], 0), (.goto (-23), 3, [69], 0)]
theorem a_X6_sheet_76 : ck mX6_sheet b_X6_sheet_76 76 = true := by decide +kernel
def b_X6_sheet_95 : List Ent := [(.iconst 1, 1, [], 0), (.ireturn, 1, [0], 0)]
theorem a_X6_sheet_95 : ck mX6_sheet b_X6_sheet_95 95 = true := by decide +kernel
theorem o_X6_shelf : MOK mX6_shelf 3 := MOK.of 1282 64 (by decide +kernel) (by decide +kernel) (by decide +kernel) (by decide +kernel) (by decide +kernel)
def b_X6_shelf_0 : List Ent := [(.iload_n 1, 1, [], 0)]
theorem a_X6_shelf_0 : ck mX6_shelf b_X6_shelf_0 0 = true := by decide +kernel
theorem k_X6_shelf_1 : CS mX6_shelf 1 mX6_isShelf := CS.of 268 1283 1284 (by decide +kernel) (by decide +kernel) (by decide +kernel)
def b_X6_shelf_4 : List Ent := [(.ifCond .eq 39, 3, [43], 0)]
theorem a_X6_shelf_4 : ck mX6_shelf b_X6_shelf_4 4 = true := by decide +kernel
def b_X6_shelf_7 : List Ent := [(.iload_n 2, 1, [], 0), (.i2l, 1, [], 0), (.lconst 0, 1, [], 0), (.ldc2_w 170, 3, [0, 1049], 2)]
theorem a_X6_shelf_7 : ck mX6_shelf b_X6_shelf_7 7 = true := by decide +kernel
theorem k_X6_shelf_13 : CS mX6_shelf 13 mX6_isIn := CS.of 54 935 936 (by decide +kernel) (by decide +kernel) (by decide +kernel)
def b_X6_shelf_16 : List Ent := [(.ifCond .eq 27, 3, [43], 0)]
theorem a_X6_shelf_16 : ck mX6_shelf b_X6_shelf_16 16 = true := by decide +kernel
def b_X6_shelf_19 : List Ent := [(.iload_n 2, 1, [], 0), (.ifCond .ne 11, 3, [31], 0)]
theorem a_X6_shelf_19 : ck mX6_shelf b_X6_shelf_19 19 = true := by decide +kernel
def b_X6_shelf_23 : List Ent := [(.aload_n 0, 1, [], 0), (.iload_n 3, 1, [], 0)]
theorem a_X6_shelf_23 : ck mX6_shelf b_X6_shelf_23 23 = true := by decide +kernel
theorem k_X6_shelf_25 : CV mX6_shelf 25 mX6_isOne := CV.of 162 1028 1030 24 (by decide +kernel) (by decide +kernel) (by decide +kernel) (by decide +kernel)
def b_X6_shelf_28 : List Ent := [(.ifCond .eq 15, 3, [43], 0)]
theorem a_X6_shelf_28 : ck mX6_shelf b_X6_shelf_28 28 = true := by decide +kernel
def b_X6_shelf_31 : List Ent := [(.iload_n 2, 1, [], 0), (.iconst 1, 1, [], 0), (.if_icmp .ne 12, 3, [45], 0)]
theorem a_X6_shelf_31 : ck mX6_shelf b_X6_shelf_31 31 = true := by decide +kernel
def b_X6_shelf_36 : List Ent := [(.iload_n 3, 1, [], 0)]
theorem a_X6_shelf_36 : ck mX6_shelf b_X6_shelf_36 36 = true := by decide +kernel
theorem k_X6_shelf_37 : CS mX6_shelf 37 mX6_isSheet := CS.of 244 1216 1217 (by decide +kernel) (by decide +kernel) (by decide +kernel)
def b_X6_shelf_40 : List Ent := [(.ifCond .ne 5, 3, [45], 0)]
theorem a_X6_shelf_40 : ck mX6_shelf b_X6_shelf_40 40 = true := by decide +kernel
def b_X6_shelf_43 : List Ent := [(.iconst (-1), 1, [], 0), (.ireturn, 1, [0], 0)]
theorem a_X6_shelf_43 : ck mX6_shelf b_X6_shelf_43 43 = true := by decide +kernel
def b_X6_shelf_45 : List Ent := [(.iload_n 2, 1, [], 0), (.iconst 1, 1, [], 0), (.if_icmp .ne 16, 3, [63], 0)]
theorem a_X6_shelf_45 : ck mX6_shelf b_X6_shelf_45 45 = true := by decide +kernel
def b_X6_shelf_50 : List Ent := [(.aload_n 0, 1, [], 0), (.getfield 28, 3, [6, 14, 7, 865], 0), (.iload_n 3, 1, [], 0), (.iaload, 1, [7], 0), (.ifCond .lt 7, 3, [63], 0)]
theorem a_X6_shelf_50 : ck mX6_shelf b_X6_shelf_50 50 = true := by decide +kernel
def b_X6_shelf_59 : List Ent := [(.iconst 1, 1, [], 0), (.goto 4, 3, [64], 0)]
theorem a_X6_shelf_59 : ck mX6_shelf b_X6_shelf_59 59 = true := by decide +kernel
def b_X6_shelf_63 : List Ent := [(.iconst 0, 1, [], 0)]
theorem a_X6_shelf_63 : ck mX6_shelf b_X6_shelf_63 63 = true := by decide +kernel
def b_X6_shelf_64 : List Ent := [(.istore 4, 2, [], 0), (.aload_n 0, 1, [], 0), (.getfield 37, 3, [6, 17, 10, 868], 0), (.iload_n 1, 1, [], 0), (.iload_n 2, 1, [], 0), (.ifCond .ne 7, 3, [79], 0)]
theorem a_X6_shelf_64 : ck mX6_shelf b_X6_shelf_64 64 = true := by decide +kernel
def b_X6_shelf_75 : List Ent := [(.iconst 1, 1, [], 0), (.goto 13, 3, [89], 0)]
theorem a_X6_shelf_75 : ck mX6_shelf b_X6_shelf_75 75 = true := by decide +kernel
def b_X6_shelf_79 : List Ent := [(.iload 4, 2, [], 0), (.ifCond .eq 7, 3, [88], 0)]
theorem a_X6_shelf_79 : ck mX6_shelf b_X6_shelf_79 79 = true := by decide +kernel
def b_X6_shelf_84 : List Ent := [(.iconst 2, 1, [], 0), (.goto 4, 3, [89], 0)]
theorem a_X6_shelf_84 : ck mX6_shelf b_X6_shelf_84 84 = true := by decide +kernel
def b_X6_shelf_88 : List Ent := [(.iconst 0, 1, [], 0)]
theorem a_X6_shelf_88 : ck mX6_shelf b_X6_shelf_88 88 = true := by decide +kernel
def b_X6_shelf_89 : List Ent := [(.iastore, 1, [], 0), (.aload_n 0, 1, [], 0), (.getfield 40, 3, [6, 18, 11, 869], 0), (.iload_n 1, 1, [], 0), (.iload_n 2, 1, [], 0), (.ifCond .ne 7, 3, [103], 0)]
theorem a_X6_shelf_89 : ck mX6_shelf b_X6_shelf_89 89 = true := by decide +kernel
def b_X6_shelf_99 : List Ent := [(.iload_n 3, 1, [], 0), (.goto 18, 3, [118], 0)]
theorem a_X6_shelf_99 : ck mX6_shelf b_X6_shelf_99 99 = true := by decide +kernel
def b_X6_shelf_103 : List Ent := [(.iload 4, 2, [], 0), (.ifCond .eq 12, 3, [117], 0)]
theorem a_X6_shelf_103 : ck mX6_shelf b_X6_shelf_103 103 = true := by decide +kernel
def b_X6_shelf_108 : List Ent := [(.aload_n 0, 1, [], 0), (.getfield 28, 3, [6, 14, 7, 865], 0), (.iload_n 3, 1, [], 0), (.iaload, 1, [7], 0), (.goto 4, 3, [118], 0)]
theorem a_X6_shelf_108 : ck mX6_shelf b_X6_shelf_108 108 = true := by decide +kernel
def b_X6_shelf_117 : List Ent := [(.iconst 0, 1, [], 0)]
theorem a_X6_shelf_117 : ck mX6_shelf b_X6_shelf_117 117 = true := by decide +kernel
def b_X6_shelf_118 : List Ent := [(.iastore, 1, [], 0), (.aload_n 0, 1, [], 0), (.getfield 43, 3, [6, 19, 12, 870], 0), (.iload_n 1, 1, [], 0), (.iload 4, 2, [], 0), (.ifCond .eq 12, 3, [138], 0)]
theorem a_X6_shelf_118 : ck mX6_shelf b_X6_shelf_118 118 = true := by decide +kernel
def b_X6_shelf_129 : List Ent := [(.aload_n 0, 1, [], 0), (.getfield 31, 3, [6, 15, 8, 866], 0), (.iload_n 3, 1, [], 0), (.iaload, 1, [7], 0), (.goto 4, 3, [139], 0)]
theorem a_X6_shelf_129 : ck mX6_shelf b_X6_shelf_129 129 = true := by decide +kernel
def b_X6_shelf_138 : List Ent := [(.iconst 0, 1, [], 0)]
theorem a_X6_shelf_138 : ck mX6_shelf b_X6_shelf_138 138 = true := by decide +kernel
def b_X6_shelf_139 : List Ent := [(.iastore, 1, [], 0), (.iconst 1, 1, [], 0), (.ireturn, 1, [0], 0)]
theorem a_X6_shelf_139 : ck mX6_shelf b_X6_shelf_139 139 = true := by decide +kernel
theorem o_X6_size : MOK mX6_size 1 := MOK.of 1088 64 (by decide +kernel) (by decide +kernel) (by decide +kernel) (by decide +kernel) (by decide +kernel)
def b_X6_size_0 : List Ent := [(.iconst 0, 1, [], 0), (.istore_n 1, 1, [], 0), (.iload_n 0, 1, [], 0), (.istore_n 2, 1, [], 0)]
theorem a_X6_size_0 : ck mX6_size b_X6_size_0 0 = true := by decide +kernel
def b_X6_size_4 : List Ent := [(.iload_n 2, 1, [], 0), (.ifCond .eq 15, 3, [20], 0)]
theorem a_X6_size_4 : ck mX6_size b_X6_size_4 4 = true := by decide +kernel
def b_X6_size_8 : List Ent := [(.iinc 1 1, 3, [], 0), (.iload_n 2, 1, [], 0), (.iload_n 2, 1, [], 0), (.iconst 1, 1, [], 0), (.isub, 1, [], 0), (.iand, 1, [], 0), (.istore_n 2, 1, [], 0), (.goto (-13), 3, [4], 0)]
theorem a_X6_size_8 : ck mX6_size b_X6_size_8 8 = true := by decide +kernel
def b_X6_size_20 : List Ent := [(.iload_n 1, 1, [], 0), (.ireturn, 1, [0], 0)]
theorem a_X6_size_20 : ck mX6_size b_X6_size_20 20 = true := by decide +kernel
theorem o_X6_standing : MOK mX6_standing 0 := MOK.of 1057 64 (by decide +kernel) (by decide +kernel) (by decide +kernel) (by decide +kernel) (by decide +kernel)
def b_X6_standing_0 : List Ent := [(.iconst 0, 1, [], 0), (.istore_n 1, 1, [], 0), (.iconst 0, 1, [], 0), (.istore_n 2, 1, [], 0)]
theorem a_X6_standing_0 : ck mX6_standing b_X6_standing_0 0 = true := by decide +kernel
def b_X6_standing_4 : List Ent := [(.iload_n 2, 1, [], 0), (.aload_n 0, 1, [], 0), (.getfield 7, 3, [6, 0, 1, 851], 0), (.iconst 0, 1, [], 0), (.iaload, 1, [7], 0), (.if_icmp .ge 27, 3, [38], 0)]
theorem a_X6_standing_4 : ck mX6_standing b_X6_standing_4 4 = true := by decide +kernel
def b_X6_standing_14 : List Ent := [(.iload_n 1, 1, [], 0), (.aload_n 0, 1, [], 0), (.iload_n 2, 1, [], 0)]
theorem a_X6_standing_14 : ck mX6_standing b_X6_standing_14 14 = true := by decide +kernel
theorem k_X6_standing_17 : CV mX6_standing 17 mX6_stands := CV.of 156 1041 1043 27 (by decide +kernel) (by decide +kernel) (by decide +kernel) (by decide +kernel)
def b_X6_standing_20 : List Ent := [(.ifCond .eq 9, 3, [29], 0)]
theorem a_X6_standing_20 : ck mX6_standing b_X6_standing_20 20 = true := by decide +kernel
def b_X6_standing_23 : List Ent := [(.iconst 1, 1, [], 0), (.iload_n 2, 1, [], 0), (.ishl, 1, [], 0), (.goto 4, 3, [30], 0)]
theorem a_X6_standing_23 : ck mX6_standing b_X6_standing_23 23 = true := by decide +kernel
def b_X6_standing_29 : List Ent := [(.iconst 0, 1, [], 0)]
theorem a_X6_standing_29 : ck mX6_standing b_X6_standing_29 29 = true := by decide +kernel
def b_X6_standing_30 : List Ent := [(.ior, 1, [], 0), (.istore_n 1, 1, [], 0), (.iinc 2 1, 3, [], 0), (.goto (-31), 3, [4], 0)]
theorem a_X6_standing_30 : ck mX6_standing b_X6_standing_30 30 = true := by decide +kernel
def b_X6_standing_38 : List Ent := [(.iload_n 1, 1, [], 0), (.ireturn, 1, [0], 0)]
theorem a_X6_standing_38 : ck mX6_standing b_X6_standing_38 38 = true := by decide +kernel
theorem o_X6_stands : MOK mX6_stands 1 := MOK.of 1044 64 (by decide +kernel) (by decide +kernel) (by decide +kernel) (by decide +kernel) (by decide +kernel)
def b_X6_stands_0 : List Ent := [(.iload_n 1, 1, [], 0), (.istore_n 2, 1, [], 0)]
theorem a_X6_stands_0 : ck mX6_stands b_X6_stands_0 0 = true := by decide +kernel
def b_X6_stands_2 : List Ent := [(.iload_n 2, 1, [], 0), (.ifCond .lt 24, 3, [27], 0)]
theorem a_X6_stands_2 : ck mX6_stands b_X6_stands_2 2 = true := by decide +kernel
def b_X6_stands_6 : List Ent := [(.aload_n 0, 1, [], 0), (.iload_n 2, 1, [], 0), (.iconst 4, 1, [], 0)]
theorem a_X6_stands_6 : ck mX6_stands b_X6_stands_6 6 = true := by decide +kernel
theorem k_X6_stands_9 : CV mX6_stands 9 mX6_its := CV.of 153 1033 1035 25 (by decide +kernel) (by decide +kernel) (by decide +kernel) (by decide +kernel)
def b_X6_stands_12 : List Ent := [(.ifCond .ne 15, 3, [27], 0)]
theorem a_X6_stands_12 : ck mX6_stands b_X6_stands_12 12 = true := by decide +kernel
def b_X6_stands_15 : List Ent := [(.aload_n 0, 1, [], 0), (.iload_n 2, 1, [], 0), (.iconst 1, 1, [], 0)]
theorem a_X6_stands_15 : ck mX6_stands b_X6_stands_15 15 = true := by decide +kernel
theorem k_X6_stands_18 : CV mX6_stands 18 mX6_its := CV.of 153 1033 1035 25 (by decide +kernel) (by decide +kernel) (by decide +kernel) (by decide +kernel)
def b_X6_stands_21 : List Ent := [(.iconst 1, 1, [], 0), (.isub, 1, [], 0), (.istore_n 2, 1, [], 0), (.goto (-22), 3, [2], 0)]
theorem a_X6_stands_21 : ck mX6_stands b_X6_stands_21 21 = true := by decide +kernel
def b_X6_stands_27 : List Ent := [(.iload_n 2, 1, [], 0), (.ifCond .ge 7, 3, [35], 0)]
theorem a_X6_stands_27 : ck mX6_stands b_X6_stands_27 27 = true := by decide +kernel
def b_X6_stands_31 : List Ent := [(.iconst 1, 1, [], 0), (.goto 4, 3, [36], 0)]
theorem a_X6_stands_31 : ck mX6_stands b_X6_stands_31 31 = true := by decide +kernel
def b_X6_stands_35 : List Ent := [(.iconst 0, 1, [], 0)]
theorem a_X6_stands_35 : ck mX6_stands b_X6_stands_35 35 = true := by decide +kernel
def b_X6_stands_36 : List Ent := [(.ireturn, 1, [1], 0)]
theorem a_X6_stands_36 : ck mX6_stands b_X6_stands_36 36 = true := by decide +kernel
theorem o_X6_state : MOK mX6_state 1 := MOK.of 1145 64 (by decide +kernel) (by decide +kernel) (by decide +kernel) (by decide +kernel) (by decide +kernel)
def b_X6_state_0 : List Ent := [(.iload_n 1, 1, [], 0), (.tableswitch 73 0 5 #[39, 46, 53, 58, 63, 68], 39, [74, 40, 47, 54, 59, 64, 69], 0)]
theorem a_X6_state_0 : ck mX6_state b_X6_state_0 0 = true := by decide +kernel
def b_X6_state_40 : List Ent := [(.aload_n 0, 1, [], 0), (.getfield 7, 3, [6, 0, 1, 851], 0), (.iconst 1, 1, [], 0), (.iaload, 1, [7], 0), (.ireturn, 1, [0], 0)]
theorem a_X6_state_40 : ck mX6_state b_X6_state_40 40 = true := by decide +kernel
def b_X6_state_47 : List Ent := [(.aload_n 0, 1, [], 0), (.getfield 7, 3, [6, 0, 1, 851], 0), (.iconst 3, 1, [], 0), (.iaload, 1, [7], 0), (.ireturn, 1, [0], 0)]
theorem a_X6_state_47 : ck mX6_state b_X6_state_47 47 = true := by decide +kernel
def b_X6_state_54 : List Ent := [(.aload_n 0, 1, [], 0)]
theorem a_X6_state_54 : ck mX6_state b_X6_state_54 54 = true := by decide +kernel
theorem k_X6_state_55 : CV mX6_state 55 mX6_standing := CV.of 172 1054 1056 29 (by decide +kernel) (by decide +kernel) (by decide +kernel) (by decide +kernel)
def b_X6_state_58 : List Ent := [(.ireturn, 1, [0], 0)]
theorem a_X6_state_58 : ck mX6_state b_X6_state_58 58 = true := by decide +kernel
def b_X6_state_59 : List Ent := [(.aload_n 0, 1, [], 0)]
theorem a_X6_state_59 : ck mX6_state b_X6_state_59 59 = true := by decide +kernel
theorem k_X6_state_60 : CV mX6_state 60 mX6_cutOnes := CV.of 215 1146 1148 37 (by decide +kernel) (by decide +kernel) (by decide +kernel) (by decide +kernel)
def b_X6_state_63 : List Ent := [(.ireturn, 1, [0], 0)]
theorem a_X6_state_63 : ck mX6_state b_X6_state_63 63 = true := by decide +kernel
def b_X6_state_64 : List Ent := [(.aload_n 0, 1, [], 0)]
theorem a_X6_state_64 : ck mX6_state b_X6_state_64 64 = true := by decide +kernel
theorem k_X6_state_65 : CV mX6_state 65 mX6_forceOfAll := CV.of 218 1150 1152 38 (by decide +kernel) (by decide +kernel) (by decide +kernel) (by decide +kernel)
def b_X6_state_68 : List Ent := [(.ireturn, 1, [0], 0)]
theorem a_X6_state_68 : ck mX6_state b_X6_state_68 68 = true := by decide +kernel
def b_X6_state_69 : List Ent := [(.aload_n 0, 1, [], 0)]
theorem a_X6_state_69 : ck mX6_state b_X6_state_69 69 = true := by decide +kernel
theorem k_X6_state_70 : CV mX6_state 70 mX6_burntOnes := CV.of 221 1154 1156 39 (by decide +kernel) (by decide +kernel) (by decide +kernel) (by decide +kernel)
def b_X6_state_73 : List Ent := [(.ireturn, 1, [0], 0)]
theorem a_X6_state_73 : ck mX6_state b_X6_state_73 73 = true := by decide +kernel
def b_X6_state_74 : List Ent := [(.iconst (-1), 1, [], 0), (.ireturn, 1, [0], 0)]
theorem a_X6_state_74 : ck mX6_state b_X6_state_74 74 = true := by decide +kernel
theorem o_X6_stem : MOK mX6_stem 1 := MOK.of 1069 64 (by decide +kernel) (by decide +kernel) (by decide +kernel) (by decide +kernel) (by decide +kernel)
def b_X6_stem_0 : List Ent := [(.aload_n 0, 1, [], 0), (.iload_n 1, 1, [], 0)]
theorem a_X6_stem_0 : ck mX6_stem b_X6_stem_0 0 = true := by decide +kernel
theorem k_X6_stem_2 : CV mX6_stem 2 mX6_isOne := CV.of 162 1028 1030 24 (by decide +kernel) (by decide +kernel) (by decide +kernel) (by decide +kernel)
def b_X6_stem_5 : List Ent := [(.ifCond .ne 5, 3, [10], 0)]
theorem a_X6_stem_5 : ck mX6_stem b_X6_stem_5 5 = true := by decide +kernel
def b_X6_stem_8 : List Ent := [(.iconst (-1), 1, [], 0), (.ireturn, 1, [0], 0)]
theorem a_X6_stem_8 : ck mX6_stem b_X6_stem_8 8 = true := by decide +kernel
def b_X6_stem_10 : List Ent := [(.iconst 0, 1, [], 0), (.istore_n 2, 1, [], 0), (.iload_n 1, 1, [], 0), (.iconst 1, 1, [], 0), (.iadd, 1, [], 0), (.istore_n 3, 1, [], 0)]
theorem a_X6_stem_10 : ck mX6_stem b_X6_stem_10 10 = true := by decide +kernel
def b_X6_stem_16 : List Ent := [(.iload_n 3, 1, [], 0), (.aload_n 0, 1, [], 0), (.getfield 7, 3, [6, 0, 1, 851], 0), (.iconst 0, 1, [], 0), (.iaload, 1, [7], 0), (.if_icmp .ge 50, 3, [73], 0)]
theorem a_X6_stem_16 : ck mX6_stem b_X6_stem_16 16 = true := by decide +kernel
def b_X6_stem_26 : List Ent := [(.aload_n 0, 1, [], 0), (.iload_n 3, 1, [], 0), (.iconst 1, 1, [], 0)]
theorem a_X6_stem_26 : ck mX6_stem b_X6_stem_26 26 = true := by decide +kernel
theorem k_X6_stem_29 : CV mX6_stem 29 mX6_its := CV.of 153 1033 1035 25 (by decide +kernel) (by decide +kernel) (by decide +kernel) (by decide +kernel)
def b_X6_stem_32 : List Ent := [(.iconst 1, 1, [], 0), (.isub, 1, [], 0), (.istore 4, 2, [], 0), (.iload_n 2, 1, [], 0), (.iload 4, 2, [], 0), (.iload_n 1, 1, [], 0), (.if_icmp .eq 18, 3, [58], 0)]
theorem a_X6_stem_32 : ck mX6_stem b_X6_stem_32 32 = true := by decide +kernel
def b_X6_stem_43 : List Ent := [(.iload 4, 2, [], 0), (.ifCond .lt 19, 3, [64], 0)]
theorem a_X6_stem_43 : ck mX6_stem b_X6_stem_43 43 = true := by decide +kernel
def b_X6_stem_48 : List Ent := [(.iload_n 2, 1, [], 0), (.iload 4, 2, [], 0), (.ishr, 1, [], 0), (.iconst 1, 1, [], 0), (.iand, 1, [], 0), (.iconst 1, 1, [], 0), (.if_icmp .ne 9, 3, [64], 0)]
theorem a_X6_stem_48 : ck mX6_stem b_X6_stem_48 48 = true := by decide +kernel
def b_X6_stem_58 : List Ent := [(.iconst 1, 1, [], 0), (.iload_n 3, 1, [], 0), (.ishl, 1, [], 0), (.goto 4, 3, [65], 0)]
theorem a_X6_stem_58 : ck mX6_stem b_X6_stem_58 58 = true := by decide +kernel
def b_X6_stem_64 : List Ent := [(.iconst 0, 1, [], 0)]
theorem a_X6_stem_64 : ck mX6_stem b_X6_stem_64 64 = true := by decide +kernel
def b_X6_stem_65 : List Ent := [(.ior, 1, [], 0), (.istore_n 2, 1, [], 0), (.iinc 3 1, 3, [], 0), (.goto (-54), 3, [16], 0)]
theorem a_X6_stem_65 : ck mX6_stem b_X6_stem_65 65 = true := by decide +kernel
def b_X6_stem_73 : List Ent := [(.iload_n 2, 1, [], 0), (.ireturn, 1, [0], 0)]
theorem a_X6_stem_73 : ck mX6_stem b_X6_stem_73 73 = true := by decide +kernel
theorem o_X6_taken : MOK mX6_taken 2 := MOK.of 1289 64 (by decide +kernel) (by decide +kernel) (by decide +kernel) (by decide +kernel) (by decide +kernel)
def b_X6_taken_0 : List Ent := [(.iload_n 1, 1, [], 0)]
theorem a_X6_taken_0 : ck mX6_taken b_X6_taken_0 0 = true := by decide +kernel
theorem k_X6_taken_1 : CS mX6_taken 1 mX6_isShelf := CS.of 268 1283 1284 (by decide +kernel) (by decide +kernel) (by decide +kernel)
def b_X6_taken_4 : List Ent := [(.ifCond .eq 29, 3, [33], 0)]
theorem a_X6_taken_4 : ck mX6_taken b_X6_taken_4 4 = true := by decide +kernel
def b_X6_taken_7 : List Ent := [(.iload_n 2, 1, [], 0), (.i2l, 1, [], 0), (.lconst 0, 1, [], 0), (.ldc2_w 271, 3, [0, 1290], 13)]
theorem a_X6_taken_7 : ck mX6_taken b_X6_taken_7 7 = true := by decide +kernel
theorem k_X6_taken_13 : CS mX6_taken 13 mX6_isIn := CS.of 54 935 936 (by decide +kernel) (by decide +kernel) (by decide +kernel)
def b_X6_taken_16 : List Ent := [(.ifCond .eq 17, 3, [33], 0)]
theorem a_X6_taken_16 : ck mX6_taken b_X6_taken_16 16 = true := by decide +kernel
def b_X6_taken_19 : List Ent := [(.iload_n 2, 1, [], 0), (.i2l, 1, [], 0), (.ldc2_w 273, 3, [0, 1291], 6), (.ldc2_w 145, 3, [0, 1010], 9)]
theorem a_X6_taken_19 : ck mX6_taken b_X6_taken_19 19 = true := by decide +kernel
theorem k_X6_taken_27 : CS mX6_taken 27 mX6_isIn := CS.of 54 935 936 (by decide +kernel) (by decide +kernel) (by decide +kernel)
def b_X6_taken_30 : List Ent := [(.ifCond .eq 5, 3, [35], 0)]
theorem a_X6_taken_30 : ck mX6_taken b_X6_taken_30 30 = true := by decide +kernel
def b_X6_taken_33 : List Ent := [(.iconst (-1), 1, [], 0), (.ireturn, 1, [0], 0)]
theorem a_X6_taken_33 : ck mX6_taken b_X6_taken_33 33 = true := by decide +kernel
def b_X6_taken_35 : List Ent := [(.aload_n 0, 1, [], 0), (.iload_n 1, 1, [], 0)]
theorem a_X6_taken_35 : ck mX6_taken b_X6_taken_35 35 = true := by decide +kernel
theorem k_X6_taken_37 : CV mX6_taken 37 mX6_heldOn := CV.of 275 1292 1294 46 (by decide +kernel) (by decide +kernel) (by decide +kernel) (by decide +kernel)
def b_X6_taken_40 : List Ent := [(.istore_n 3, 1, [], 0), (.iload_n 3, 1, [], 0), (.ifCond .ne 6, 3, [48], 0)]
theorem a_X6_taken_40 : ck mX6_taken b_X6_taken_40 40 = true := by decide +kernel
def b_X6_taken_45 : List Ent := [(.bipush (-11), 2, [], 0), (.ireturn, 1, [0], 0)]
theorem a_X6_taken_45 : ck mX6_taken b_X6_taken_45 45 = true := by decide +kernel
def b_X6_taken_48 : List Ent := [(.iload_n 2, 1, [], 0), (.bipush 10, 2, [], 0), (.if_icmp .ge 38, 3, [89], 0)]
theorem a_X6_taken_48 : ck mX6_taken b_X6_taken_48 48 = true := by decide +kernel
def b_X6_taken_54 : List Ent := [(.iload_n 3, 1, [], 0), (.iconst 1, 1, [], 0), (.if_icmp .ne 30, 3, [86], 0)]
theorem a_X6_taken_54 : ck mX6_taken b_X6_taken_54 54 = true := by decide +kernel
def b_X6_taken_59 : List Ent := [(.aload_n 0, 1, [], 0), (.aload_n 0, 1, [], 0), (.getfield 40, 3, [6, 18, 11, 869], 0), (.iload_n 1, 1, [], 0), (.iaload, 1, [7], 0), (.iconst 0, 1, [], 0)]
theorem a_X6_taken_59 : ck mX6_taken b_X6_taken_59 59 = true := by decide +kernel
theorem k_X6_taken_67 : CV mX6_taken 67 mX6_its := CV.of 153 1033 1035 25 (by decide +kernel) (by decide +kernel) (by decide +kernel) (by decide +kernel)
def b_X6_taken_70 : List Ent := [(.iload_n 2, 1, [], 0)]
theorem a_X6_taken_70 : ck mX6_taken b_X6_taken_70 70 = true := by decide +kernel
theorem k_X6_taken_71 : CS mX6_taken 71 mX6_isUnder := CS.of 278 1296 1297 (by decide +kernel) (by decide +kernel) (by decide +kernel)
def b_X6_taken_74 : List Ent := [(.ifCond .eq 12, 3, [86], 0)]
theorem a_X6_taken_74 : ck mX6_taken b_X6_taken_74 74 = true := by decide +kernel
def b_X6_taken_77 : List Ent := [(.aload_n 0, 1, [], 0), (.getfield 40, 3, [6, 18, 11, 869], 0), (.iload_n 1, 1, [], 0), (.iaload, 1, [7], 0), (.goto 5, 3, [88], 0)]
theorem a_X6_taken_77 : ck mX6_taken b_X6_taken_77 77 = true := by decide +kernel
def b_X6_taken_86 : List Ent := [(.bipush (-13), 2, [], 0)]
theorem a_X6_taken_86 : ck mX6_taken b_X6_taken_86 86 = true := by decide +kernel
def b_X6_taken_88 : List Ent := [(.ireturn, 1, [0], 0)]
theorem a_X6_taken_88 : ck mX6_taken b_X6_taken_88 88 = true := by decide +kernel
def b_X6_taken_89 : List Ent := [(.iload_n 3, 1, [], 0), (.iconst 2, 1, [], 0), (.if_icmp .ne 25, 3, [116], 0)]
theorem a_X6_taken_89 : ck mX6_taken b_X6_taken_89 89 = true := by decide +kernel
def b_X6_taken_94 : List Ent := [(.aload_n 0, 1, [], 0), (.getfield 40, 3, [6, 18, 11, 869], 0), (.iload_n 1, 1, [], 0), (.iaload, 1, [7], 0), (.iload_n 2, 1, [], 0), (.bipush 10, 2, [], 0), (.isub, 1, [], 0), (.if_icmp .ne 12, 3, [116], 0)]
theorem a_X6_taken_94 : ck mX6_taken b_X6_taken_94 94 = true := by decide +kernel
def b_X6_taken_107 : List Ent := [(.aload_n 0, 1, [], 0), (.getfield 43, 3, [6, 19, 12, 870], 0), (.iload_n 1, 1, [], 0), (.iaload, 1, [7], 0), (.goto 5, 3, [118], 0)]
theorem a_X6_taken_107 : ck mX6_taken b_X6_taken_107 107 = true := by decide +kernel
def b_X6_taken_116 : List Ent := [(.bipush (-13), 2, [], 0)]
theorem a_X6_taken_116 : ck mX6_taken b_X6_taken_116 116 = true := by decide +kernel
def b_X6_taken_118 : List Ent := [(.ireturn, 1, [0], 0)]
theorem a_X6_taken_118 : ck mX6_taken b_X6_taken_118 118 = true := by decide +kernel
theorem o_X6_trace : MOK mX6_trace 1 := MOK.of 1346 64 (by decide +kernel) (by decide +kernel) (by decide +kernel) (by decide +kernel) (by decide +kernel)
def b_X6_trace_0 : List Ent := [(.iload_n 1, 1, [], 0), (.i2l, 1, [], 0), (.lconst 0, 1, [], 0), (.aload_n 0, 1, [], 0), (.getfield 281, 3, [6, 21, 0, 872], 0), (.iconst 1, 1, [], 0), (.isub, 1, [], 0), (.i2l, 1, [], 0)]
theorem a_X6_trace_0 : ck mX6_trace b_X6_trace_0 0 = true := by decide +kernel
theorem k_X6_trace_10 : CS mX6_trace 10 mX6_isIn := CS.of 54 935 936 (by decide +kernel) (by decide +kernel) (by decide +kernel)
def b_X6_trace_13 : List Ent := [(.ifCond .eq 12, 3, [25], 0)]
theorem a_X6_trace_13 : ck mX6_trace b_X6_trace_13 13 = true := by decide +kernel
def b_X6_trace_16 : List Ent := [(.aload_n 0, 1, [], 0), (.getfield 46, 3, [6, 20, 13, 871], 0), (.iload_n 1, 1, [], 0), (.iaload, 1, [7], 0), (.goto 5, 3, [27], 0)]
theorem a_X6_trace_16 : ck mX6_trace b_X6_trace_16 16 = true := by decide +kernel
def b_X6_trace_25 : List Ent := [(.bipush (-3), 2, [], 0)]
theorem a_X6_trace_25 : ck mX6_trace b_X6_trace_25 25 = true := by decide +kernel
def b_X6_trace_27 : List Ent := [(.ireturn, 1, [0], 0)]
theorem a_X6_trace_27 : ck mX6_trace b_X6_trace_27 27 = true := by decide +kernel
theorem o_X6_tree : MOK mX6_tree 0 := MOK.of 942 64 (by decide +kernel) (by decide +kernel) (by decide +kernel) (by decide +kernel) (by decide +kernel)
def b_X6_tree_0 : List Ent := [(.aload_n 0, 1, [], 0), (.getfield 7, 3, [6, 0, 1, 851], 0), (.aload_n 0, 1, [], 0), (.getfield 19, 3, [6, 3, 4, 854], 0)]
theorem a_X6_tree_0 : ck mX6_tree b_X6_tree_0 0 = true := by decide +kernel
theorem k_X6_tree_8 : CS mX6_tree 8 mX6_copyRow := CS.of 131 943 944 (by decide +kernel) (by decide +kernel) (by decide +kernel)
def b_X6_tree_11 : List Ent := [(.aload_n 0, 1, [], 0)]
theorem a_X6_tree_11 : ck mX6_tree b_X6_tree_11 11 = true := by decide +kernel
theorem k_X6_tree_12 : CV mX6_tree 12 mX6_begins := CV.of 49 847 849 9 (by decide +kernel) (by decide +kernel) (by decide +kernel) (by decide +kernel)
def b_X6_tree_15 : List Ent := [(.aload_n 0, 1, [], 0), (.iconst 0, 1, [], 0), (.putfield 64, 3, [6, 9, 0, 860], 0), (.aload_n 0, 1, [], 0), (.iconst 0, 1, [], 0), (.putfield 87, 3, [6, 11, 1, 862], 0), (.aload_n 0, 1, [], 0)]
theorem a_X6_tree_15 : ck mX6_tree b_X6_tree_15 15 = true := by decide +kernel
theorem k_X6_tree_26 : CV mX6_tree 26 mX6_nextToken := CV.of 91 946 948 10 (by decide +kernel) (by decide +kernel) (by decide +kernel) (by decide +kernel)
def b_X6_tree_29 : List Ent := [(.aload_n 0, 1, [], 0), (.getfield 87, 3, [6, 11, 0, 862], 0), (.ifCond .ne 17, 3, [50], 0)]
theorem a_X6_tree_29 : ck mX6_tree b_X6_tree_29 29 = true := by decide +kernel
def b_X6_tree_36 : List Ent := [(.aload_n 0, 1, [], 0), (.getfield 81, 3, [6, 7, 0, 858], 0), (.ifCond .eq 10, 3, [50], 0)]
theorem a_X6_tree_36 : ck mX6_tree b_X6_tree_36 36 = true := by decide +kernel
def b_X6_tree_43 : List Ent := [(.aload_n 0, 1, [], 0)]
theorem a_X6_tree_43 : ck mX6_tree b_X6_tree_43 43 = true := by decide +kernel
theorem k_X6_tree_44 : CV mX6_tree 44 mX6_itemHere := CV.of 135 960 962 12 (by decide +kernel) (by decide +kernel) (by decide +kernel) (by decide +kernel)
def b_X6_tree_47 : List Ent := [(.goto (-18), 3, [29], 0)]
theorem a_X6_tree_47 : ck mX6_tree b_X6_tree_47 47 = true := by decide +kernel
def b_X6_tree_50 : List Ent := [(.aload_n 0, 1, [], 0), (.iconst 0, 1, [], 0), (.putfield 58, 3, [6, 6, 0, 857], 0), (.aload_n 0, 1, [], 0), (.getfield 87, 3, [6, 11, 0, 862], 0), (.ifCond .eq 22, 3, [81], 0)]
theorem a_X6_tree_50 : ck mX6_tree b_X6_tree_50 50 = true := by decide +kernel
def b_X6_tree_62 : List Ent := [(.aload_n 0, 1, [], 0), (.getfield 19, 3, [6, 3, 4, 854], 0), (.aload_n 0, 1, [], 0), (.getfield 7, 3, [6, 0, 1, 851], 0)]
theorem a_X6_tree_62 : ck mX6_tree b_X6_tree_62 62 = true := by decide +kernel
theorem k_X6_tree_70 : CS mX6_tree 70 mX6_copyRow := CS.of 131 943 944 (by decide +kernel) (by decide +kernel) (by decide +kernel)
def b_X6_tree_73 : List Ent := [(.bipush (-100), 2, [], 0), (.aload_n 0, 1, [], 0), (.getfield 67, 3, [6, 8, 0, 859], 0), (.isub, 1, [], 0), (.ireturn, 1, [0], 0)]
theorem a_X6_tree_73 : ck mX6_tree b_X6_tree_73 73 = true := by decide +kernel
def b_X6_tree_81 : List Ent := [(.aload_n 0, 1, [], 0), (.iconst 0, 1, [], 0), (.putfield 138, 3, [6, 13, 0, 864], 0), (.aload_n 0, 1, [], 0), (.getfield 7, 3, [6, 0, 1, 851], 0), (.iconst 0, 1, [], 0), (.iaload, 1, [7], 0), (.ireturn, 1, [0], 0)]
theorem a_X6_tree_81 : ck mX6_tree b_X6_tree_81 81 = true := by decide +kernel
theorem o_X6_winters : MOK mX6_winters 1 := MOK.of 1140 64 (by decide +kernel) (by decide +kernel) (by decide +kernel) (by decide +kernel) (by decide +kernel)
def b_X6_winters_0 : List Ent := [(.iload_n 1, 1, [], 0), (.i2l, 1, [], 0), (.lconst 1, 1, [], 0), (.ldc2_w 213, 3, [0, 1141], 30)]
theorem a_X6_winters_0 : ck mX6_winters b_X6_winters_0 0 = true := by decide +kernel
theorem k_X6_winters_6 : CS mX6_winters 6 mX6_isIn := CS.of 54 935 936 (by decide +kernel) (by decide +kernel) (by decide +kernel)
def b_X6_winters_9 : List Ent := [(.ifCond .ne 5, 3, [14], 0)]
theorem a_X6_winters_9 : ck mX6_winters b_X6_winters_9 9 = true := by decide +kernel
def b_X6_winters_12 : List Ent := [(.iconst (-1), 1, [], 0), (.ireturn, 1, [0], 0)]
theorem a_X6_winters_12 : ck mX6_winters b_X6_winters_12 12 = true := by decide +kernel
def b_X6_winters_14 : List Ent := [(.aload_n 0, 1, [], 0), (.getfield 7, 3, [6, 0, 1, 851], 0), (.aload_n 0, 1, [], 0), (.getfield 16, 3, [6, 2, 3, 853], 0)]
theorem a_X6_winters_14 : ck mX6_winters b_X6_winters_14 14 = true := by decide +kernel
theorem k_X6_winters_22 : CS mX6_winters 22 mX6_copyRow := CS.of 131 943 944 (by decide +kernel) (by decide +kernel) (by decide +kernel)
def b_X6_winters_25 : List Ent := [(.aload_n 0, 1, [], 0)]
theorem a_X6_winters_25 : ck mX6_winters b_X6_winters_25 25 = true := by decide +kernel
theorem k_X6_winters_26 : CV mX6_winters 26 mX6_goesOn := CV.of 203 1109 1111 34 (by decide +kernel) (by decide +kernel) (by decide +kernel) (by decide +kernel)
def b_X6_winters_29 : List Ent := [(.istore_n 2, 1, [], 0), (.aload_n 0, 1, [], 0), (.getfield 16, 3, [6, 2, 3, 853], 0), (.iconst 2, 1, [], 0), (.iaload, 1, [7], 0), (.istore_n 3, 1, [], 0), (.iconst 0, 1, [], 0), (.istore 4, 2, [], 0), (.iconst 0, 1, [], 0), (.istore 5, 2, [], 0)]
theorem a_X6_winters_29 : ck mX6_winters b_X6_winters_29 29 = true := by decide +kernel
def b_X6_winters_43 : List Ent := [(.iload 5, 2, [], 0), (.iload_n 1, 1, [], 0), (.if_icmp .ge 52, 3, [98], 0)]
theorem a_X6_winters_43 : ck mX6_winters b_X6_winters_43 43 = true := by decide +kernel
def b_X6_winters_49 : List Ent := [(.aload_n 0, 1, [], 0), (.getfield 16, 3, [6, 2, 3, 853], 0), (.aload_n 0, 1, [], 0), (.getfield 7, 3, [6, 0, 1, 851], 0)]
theorem a_X6_winters_49 : ck mX6_winters b_X6_winters_49 49 = true := by decide +kernel
theorem k_X6_winters_57 : CS mX6_winters 57 mX6_copyRow := CS.of 131 943 944 (by decide +kernel) (by decide +kernel) (by decide +kernel)
def b_X6_winters_60 : List Ent := [(.aload_n 0, 1, [], 0), (.getfield 7, 3, [6, 0, 1, 851], 0), (.iconst 2, 1, [], 0), (.iload_n 3, 1, [], 0), (.iastore, 1, [], 0), (.iload 4, 2, [], 0), (.aload_n 0, 1, [], 0)]
theorem a_X6_winters_60 : ck mX6_winters b_X6_winters_60 60 = true := by decide +kernel
theorem k_X6_winters_70 : CV mX6_winters 70 mX6_goesByDraws := CV.of 210 1128 1130 35 (by decide +kernel) (by decide +kernel) (by decide +kernel) (by decide +kernel)
def b_X6_winters_73 : List Ent := [(.iload_n 2, 1, [], 0), (.if_icmp .ge 7, 3, [81], 0)]
theorem a_X6_winters_73 : ck mX6_winters b_X6_winters_73 73 = true := by decide +kernel
def b_X6_winters_77 : List Ent := [(.iconst 1, 1, [], 0), (.goto 4, 3, [82], 0)]
theorem a_X6_winters_77 : ck mX6_winters b_X6_winters_77 77 = true := by decide +kernel
def b_X6_winters_81 : List Ent := [(.iconst 0, 1, [], 0)]
theorem a_X6_winters_81 : ck mX6_winters b_X6_winters_81 81 = true := by decide +kernel
def b_X6_winters_82 : List Ent := [(.iadd, 1, [], 0), (.istore 4, 2, [], 0), (.aload_n 0, 1, [], 0), (.getfield 7, 3, [6, 0, 1, 851], 0), (.iconst 2, 1, [], 0), (.iaload, 1, [7], 0), (.istore_n 3, 1, [], 0), (.iinc 5 1, 3, [], 0), (.goto (-52), 3, [43], 0)]
theorem a_X6_winters_82 : ck mX6_winters b_X6_winters_82 82 = true := by decide +kernel
def b_X6_winters_98 : List Ent := [(.aload_n 0, 1, [], 0), (.getfield 16, 3, [6, 2, 3, 853], 0), (.aload_n 0, 1, [], 0), (.getfield 7, 3, [6, 0, 1, 851], 0)]
theorem a_X6_winters_98 : ck mX6_winters b_X6_winters_98 98 = true := by decide +kernel
theorem k_X6_winters_106 : CS mX6_winters 106 mX6_copyRow := CS.of 131 943 944 (by decide +kernel) (by decide +kernel) (by decide +kernel)
def b_X6_winters_109 : List Ent := [(.iload 4, 2, [], 0), (.ireturn, 1, [0], 0)]
theorem a_X6_winters_109 : ck mX6_winters b_X6_winters_109 109 = true := by decide +kernel
theorem o_X6_within : MOK mX6_within 1 := MOK.of 1115 64 (by decide +kernel) (by decide +kernel) (by decide +kernel) (by decide +kernel) (by decide +kernel)
def b_X6_within_0 : List Ent := [(.iload_n 0, 1, [], 0), (.ifCond .ge 7, 3, [8], 0)]
theorem a_X6_within_0 : ck mX6_within b_X6_within_0 0 = true := by decide +kernel
def b_X6_within_4 : List Ent := [(.iconst 0, 1, [], 0), (.goto 15, 3, [20], 0)]
theorem a_X6_within_4 : ck mX6_within b_X6_within_4 4 = true := by decide +kernel
def b_X6_within_8 : List Ent := [(.iload_n 0, 1, [], 0), (.bipush 9, 2, [], 0), (.if_icmp .le 8, 3, [19], 0)]
theorem a_X6_within_8 : ck mX6_within b_X6_within_8 8 = true := by decide +kernel
def b_X6_within_14 : List Ent := [(.bipush 9, 2, [], 0), (.goto 4, 3, [20], 0)]
theorem a_X6_within_14 : ck mX6_within b_X6_within_14 14 = true := by decide +kernel
def b_X6_within_19 : List Ent := [(.iload_n 0, 1, [], 0)]
theorem a_X6_within_19 : ck mX6_within b_X6_within_19 19 = true := by decide +kernel
def b_X6_within_20 : List Ent := [(.ireturn, 1, [0], 0)]
theorem a_X6_within_20 : ck mX6_within b_X6_within_20 20 = true := by decide +kernel
theorem o_X6_year : MOK mX6_year 0 := MOK.of 1127 64 (by decide +kernel) (by decide +kernel) (by decide +kernel) (by decide +kernel) (by decide +kernel)
def b_X6_year_0 : List Ent := [(.aload_n 0, 1, [], 0)]
theorem a_X6_year_0 : ck mX6_year b_X6_year_0 0 = true := by decide +kernel
theorem k_X6_year_1 : CV mX6_year 1 mX6_goesByDraws := CV.of 210 1128 1130 35 (by decide +kernel) (by decide +kernel) (by decide +kernel) (by decide +kernel)
def b_X6_year_4 : List Ent := [(.istore_n 1, 1, [], 0), (.aload_n 0, 1, [], 0), (.getfield 7, 3, [6, 0, 1, 851], 0), (.iconst 3, 1, [], 0), (.iaload, 1, [7], 0), (.ireturn, 1, [0], 0)]
theorem a_X6_year_4 : ck mX6_year b_X6_year_4 4 = true := by decide +kernel
theorem o_X6_years : MOK mX6_years 1 := MOK.of 1107 64 (by decide +kernel) (by decide +kernel) (by decide +kernel) (by decide +kernel) (by decide +kernel)
def b_X6_years_0 : List Ent := [(.iload_n 1, 1, [], 0), (.i2l, 1, [], 0), (.lconst 1, 1, [], 0), (.ldc2_w 201, 3, [0, 1108], 60)]
theorem a_X6_years_0 : ck mX6_years b_X6_years_0 0 = true := by decide +kernel
theorem k_X6_years_6 : CS mX6_years 6 mX6_isIn := CS.of 54 935 936 (by decide +kernel) (by decide +kernel) (by decide +kernel)
def b_X6_years_9 : List Ent := [(.ifCond .ne 5, 3, [14], 0)]
theorem a_X6_years_9 : ck mX6_years b_X6_years_9 9 = true := by decide +kernel
def b_X6_years_12 : List Ent := [(.iconst (-1), 1, [], 0), (.ireturn, 1, [0], 0)]
theorem a_X6_years_12 : ck mX6_years b_X6_years_12 12 = true := by decide +kernel
def b_X6_years_14 : List Ent := [(.iconst 0, 1, [], 0), (.istore_n 2, 1, [], 0)]
theorem a_X6_years_14 : ck mX6_years b_X6_years_14 14 = true := by decide +kernel
def b_X6_years_16 : List Ent := [(.iload_n 2, 1, [], 0), (.iload_n 1, 1, [], 0), (.if_icmp .ge 14, 3, [32], 0)]
theorem a_X6_years_16 : ck mX6_years b_X6_years_16 16 = true := by decide +kernel
def b_X6_years_21 : List Ent := [(.aload_n 0, 1, [], 0)]
theorem a_X6_years_21 : ck mX6_years b_X6_years_21 21 = true := by decide +kernel
theorem k_X6_years_22 : CV mX6_years 22 mX6_goesOn := CV.of 203 1109 1111 34 (by decide +kernel) (by decide +kernel) (by decide +kernel) (by decide +kernel)
def b_X6_years_25 : List Ent := [(.istore_n 3, 1, [], 0), (.iinc 2 1, 3, [], 0), (.goto (-13), 3, [16], 0)]
theorem a_X6_years_25 : ck mX6_years b_X6_years_25 25 = true := by decide +kernel
def b_X6_years_32 : List Ent := [(.aload_n 0, 1, [], 0), (.getfield 7, 3, [6, 0, 1, 851], 0), (.iconst 3, 1, [], 0), (.iaload, 1, [7], 0), (.ireturn, 1, [0], 0)]
theorem a_X6_years_32 : ck mX6_years b_X6_years_32 32 = true := by decide +kernel
