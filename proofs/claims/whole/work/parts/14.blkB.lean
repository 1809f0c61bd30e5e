def bX7_init_0 : List AI := [(.aload_n 0, [], []), (.invokespecial 3, [2, 336, 115, 116], []), (.aload_n 0, [], []), (.bipush 60, [], []), (.newarray .int, [1, 186], []), (.putfield 9, [2, 7, 0, 337], []), (.aload_n 0, [], []), (.sipush 2001, [], []), (.newarray .int, [1, 186], []), (.putfield 15, [2, 7, 2, 339], []), (.return_, [], [])]
theorem kX7_init_0 : chL mX7_init 0 bX7_init_0 = true := by decide +kernel
def bX7_survey_0 : List AI := [(.aload_n 0, [], []), (.aload_n 1, [], []), (.getfield 18, [0, 8, 1, 194], []), (.ifCond .ne 7, [12], []), (.iconst 0, [], []), (.goto 9, [18], [])]
theorem kX7_survey_0 : chL mX7_survey 0 bX7_survey_0 = true := by decide +kernel
def bX7_survey_12 : List AI := [(.aload_n 1, [], []), (.getfield 24, [2, 8, 7, 221], []), (.iconst 0, [], []), (.iaload, [0], []), (.nop, [18], [])]
theorem kX7_survey_12 : chL mX7_survey 12 bX7_survey_12 = true := by decide +kernel
def bX7_survey_18 : List AI := [(.putfield 27, [0, 7, 1, 338], []), (.aload_n 0, [], []), (.getfield 9, [2, 7, 0, 337], []), (.ldc 30, [0, 1048576, 802], []), (.invokestatic 31, [0, 2, 0, 0, 597, 803, 596, 106], [mJ7_fill_53178]), (.aload_n 0, [], []), (.getfield 9, [2, 7, 0, 337], []), (.iconst 0, [], []), (.iconst 0, [], []), (.iastore, [], []), (.iconst 1, [], []), (.istore_n 2, [], []), (.nop, [39], [])]
theorem kX7_survey_18 : chL mX7_survey 18 bX7_survey_18 = true := by decide +kernel
def bX7_survey_39 : List AI := [(.iload_n 2, [], []), (.aload_n 1, [], []), (.getfield 18, [0, 8, 1, 194], []), (.if_icmp .ge 19, [63], []), (.aload_n 0, [], []), (.aload_n 1, [], []), (.getfield 24, [2, 8, 7, 221], []), (.iload_n 2, [], []), (.iaload, [0], []), (.invokevirtual 37, [0, 1, 0, 0, 7, 807, 804, 806, 13, 96], [mX7_admit]), (.iinc 2 1, [], []), (.goto (-21), [39], [])]
theorem kX7_survey_39 : chL mX7_survey 39 bX7_survey_39 = true := by decide +kernel
def bX7_survey_63 : List AI := [(.return_, [], [])]
theorem kX7_survey_63 : chL mX7_survey 63 bX7_survey_63 = true := by decide +kernel
def bX7_admit_0 : List AI := [(.iload_n 1, [], []), (.aload_n 0, [], []), (.getfield 27, [0, 7, 1, 338], []), (.invokestatic 41, [0, 2, 0, 0, 810, 808, 809, 96], [mX7_commonDivisor]), (.istore_n 2, [], []), (.iload_n 2, [], []), (.iconst 1, [], []), (.if_icmp .ge 4, [15], []), (.return_, [], [])]
theorem kX7_admit_0 : chL mX7_admit 0 bX7_admit_0 = true := by decide +kernel
def bX7_admit_15 : List AI := [(.iconst 0, [], []), (.istore_n 3, [], []), (.nop, [17], [])]
theorem kX7_admit_15 : chL mX7_admit 15 bX7_admit_15 = true := by decide +kernel
def bX7_admit_17 : List AI := [(.iload_n 3, [], []), (.iload_n 2, [], []), (.if_icmp .ge 23, [42], []), (.aload_n 0, [], []), (.iload_n 3, [], []), (.iload_n 1, [], []), (.iconst 2, [], []), (.aload_n 0, [], []), (.getfield 27, [0, 7, 1, 338], []), (.iload_n 2, [], []), (.idiv, [], []), (.imul, [], []), (.invokevirtual 45, [0, 3, 0, 0, 7, 814, 811, 813, 14, 96], [mX7_walk]), (.iinc 3 1, [], []), (.goto (-22), [17], [])]
theorem kX7_admit_17 : chL mX7_admit 17 bX7_admit_17 = true := by decide +kernel
def bX7_admit_42 : List AI := [(.return_, [], [])]
theorem kX7_admit_42 : chL mX7_admit 42 bX7_admit_42 = true := by decide +kernel
def bX7_walk_0 : List AI := [(.aload_n 0, [], []), (.getfield 27, [0, 7, 1, 338], []), (.iconst 1, [], []), (.if_icmp .lt 12, [17], []), (.aload_n 0, [], []), (.getfield 27, [0, 7, 1, 338], []), (.bipush 60, [], []), (.if_icmp .le 4, [18], []), (.nop, [17], [])]
theorem kX7_walk_0 : chL mX7_walk 0 bX7_walk_0 = true := by decide +kernel
def bX7_walk_17 : List AI := [(.return_, [], [])]
theorem kX7_walk_17 : chL mX7_walk 17 bX7_walk_17 = true := by decide +kernel
def bX7_walk_18 : List AI := [(.iload_n 1, [], []), (.aload_n 0, [], []), (.getfield 27, [0, 7, 1, 338], []), (.irem, [], []), (.istore 4, [], []), (.iconst 0, [], []), (.istore 5, [], []), (.nop, [29], [])]
theorem kX7_walk_18 : chL mX7_walk 18 bX7_walk_18 = true := by decide +kernel
def bX7_walk_29 : List AI := [(.iload 5, [], []), (.iload_n 3, [], []), (.if_icmp .ge 50, [82], []), (.iload 4, [], []), (.iload_n 2, [], []), (.iadd, [], []), (.aload_n 0, [], []), (.getfield 27, [0, 7, 1, 338], []), (.irem, [], []), (.istore 6, [], []), (.aload_n 0, [], []), (.getfield 9, [2, 7, 0, 337], []), (.iload 6, [], []), (.aload_n 0, [], []), (.getfield 9, [2, 7, 0, 337], []), (.iload 6, [], []), (.iaload, [0], []), (.aload_n 0, [], []), (.getfield 9, [2, 7, 0, 337], []), (.iload 4, [], []), (.iaload, [0], []), (.iload_n 2, [], []), (.iadd, [], []), (.invokestatic 49, [4, 815, 506, 101, 507], []), (.iastore, [], []), (.iload 6, [], []), (.istore 4, [], []), (.iinc 5 1, [], []), (.goto (-50), [29], [])]
theorem kX7_walk_29 : chL mX7_walk 29 bX7_walk_29 = true := by decide +kernel
def bX7_walk_82 : List AI := [(.return_, [], [])]
theorem kX7_walk_82 : chL mX7_walk 82 bX7_walk_82 = true := by decide +kernel
def bX7_commonDivisor_0 : List AI := [(.iload_n 0, [], []), (.istore_n 2, [], []), (.iload_n 1, [], []), (.istore_n 3, [], []), (.iconst 0, [], []), (.istore 4, [], []), (.nop, [7], [])]
theorem kX7_commonDivisor_0 : chL mX7_commonDivisor 0 bX7_commonDivisor_0 = true := by decide +kernel
def bX7_commonDivisor_7 : List AI := [(.iload 4, [], []), (.bipush 60, [], []), (.if_icmp .gt 23, [34], []), (.iload_n 3, [], []), (.ifCond .le 19, [34], []), (.iload_n 2, [], []), (.iload_n 3, [], []), (.irem, [], []), (.istore 5, [], []), (.iload_n 3, [], []), (.istore_n 2, [], []), (.iload 5, [], []), (.istore_n 3, [], []), (.iinc 4 1, [], []), (.goto (-24), [7], [])]
theorem kX7_commonDivisor_7 : chL mX7_commonDivisor 7 bX7_commonDivisor_7 = true := by decide +kernel
def bX7_commonDivisor_34 : List AI := [(.iload_n 2, [], []), (.ireturn, [0], [])]
theorem kX7_commonDivisor_34 : chL mX7_commonDivisor 34 bX7_commonDivisor_34 = true := by decide +kernel
def bX7_isBaked_0 : List AI := [(.aload_n 0, [], []), (.getfield 27, [0, 7, 1, 338], []), (.iconst 1, [], []), (.if_icmp .ge 13, [18], []), (.iload_n 1, [], []), (.ifCond .ne 7, [16], []), (.iconst 1, [], []), (.goto 4, [17], [])]
theorem kX7_isBaked_0 : chL mX7_isBaked 0 bX7_isBaked_0 = true := by decide +kernel
def bX7_isBaked_16 : List AI := [(.iconst 0, [], []), (.nop, [17], [])]
theorem kX7_isBaked_16 : chL mX7_isBaked 16 bX7_isBaked_16 = true := by decide +kernel
def bX7_isBaked_17 : List AI := [(.ireturn, [1], [])]
theorem kX7_isBaked_17 : chL mX7_isBaked 17 bX7_isBaked_17 = true := by decide +kernel
def bX7_isBaked_18 : List AI := [(.aload_n 0, [], []), (.getfield 9, [2, 7, 0, 337], []), (.iload_n 1, [], []), (.aload_n 0, [], []), (.getfield 27, [0, 7, 1, 338], []), (.irem, [], []), (.iaload, [0], []), (.iload_n 1, [], []), (.if_icmp .gt 7, [37], []), (.iconst 1, [], []), (.goto 4, [38], [])]
theorem kX7_isBaked_18 : chL mX7_isBaked 18 bX7_isBaked_18 = true := by decide +kernel
def bX7_isBaked_37 : List AI := [(.iconst 0, [], []), (.nop, [38], [])]
theorem kX7_isBaked_37 : chL mX7_isBaked 37 bX7_isBaked_37 = true := by decide +kernel
def bX7_isBaked_38 : List AI := [(.ireturn, [1], [])]
theorem kX7_isBaked_38 : chL mX7_isBaked 38 bX7_isBaked_38 = true := by decide +kernel
def bX7_greatestGap_0 : List AI := [(.aload_n 0, [], []), (.getfield 27, [0, 7, 1, 338], []), (.iconst 1, [], []), (.if_icmp .ge 6, [11], []), (.bipush (-4), [], []), (.ireturn, [0], [])]
theorem kX7_greatestGap_0 : chL mX7_greatestGap 0 bX7_greatestGap_0 = true := by decide +kernel
def bX7_greatestGap_11 : List AI := [(.iconst 0, [], []), (.istore_n 1, [], []), (.iconst 0, [], []), (.istore_n 2, [], []), (.nop, [15], [])]
theorem kX7_greatestGap_11 : chL mX7_greatestGap 11 bX7_greatestGap_11 = true := by decide +kernel
def bX7_greatestGap_15 : List AI := [(.iload_n 2, [], []), (.aload_n 0, [], []), (.getfield 27, [0, 7, 1, 338], []), (.if_icmp .ge 20, [40], []), (.iload_n 1, [], []), (.aload_n 0, [], []), (.getfield 9, [2, 7, 0, 337], []), (.iload_n 2, [], []), (.iaload, [0], []), (.invokestatic 54, [5, 844, 509, 101, 510], []), (.istore_n 1, [], []), (.iinc 2 1, [], []), (.goto (-22), [15], [])]
theorem kX7_greatestGap_15 : chL mX7_greatestGap 15 bX7_greatestGap_15 = true := by decide +kernel
def bX7_greatestGap_40 : List AI := [(.iload_n 1, [], []), (.ldc 30, [0, 1048576, 802], []), (.if_icmp .lt 6, [49], []), (.bipush (-4), [], []), (.ireturn, [0], [])]
theorem kX7_greatestGap_40 : chL mX7_greatestGap 40 bX7_greatestGap_40 = true := by decide +kernel
def bX7_greatestGap_49 : List AI := [(.iload_n 1, [], []), (.aload_n 0, [], []), (.getfield 27, [0, 7, 1, 338], []), (.if_icmp .le 12, [66], []), (.iload_n 1, [], []), (.aload_n 0, [], []), (.getfield 27, [0, 7, 1, 338], []), (.isub, [], []), (.goto 4, [67], [])]
theorem kX7_greatestGap_49 : chL mX7_greatestGap 49 bX7_greatestGap_49 = true := by decide +kernel
def bX7_greatestGap_66 : List AI := [(.iconst (-1), [], []), (.nop, [67], [])]
theorem kX7_greatestGap_66 : chL mX7_greatestGap 66 bX7_greatestGap_66 = true := by decide +kernel
def bX7_greatestGap_67 : List AI := [(.ireturn, [0], [])]
theorem kX7_greatestGap_67 : chL mX7_greatestGap 67 bX7_greatestGap_67 = true := by decide +kernel
def bX7_leastFrom_0 : List AI := [(.iload_n 1, [], []), (.istore_n 2, [], []), (.nop, [2], [])]
theorem kX7_leastFrom_0 : chL mX7_leastFrom 0 bX7_leastFrom_0 = true := by decide +kernel
def bX7_leastFrom_2 : List AI := [(.iload_n 2, [], []), (.iload_n 1, [], []), (.bipush 60, [], []), (.iadd, [], []), (.if_icmp .gt 19, [26], []), (.aload_n 0, [], []), (.iload_n 2, [], []), (.invokevirtual 57, [0, 1, 0, 0, 7, 819, 853, 817, 818, 96], [mX7_isBaked]), (.ifCond .eq 5, [20], []), (.iload_n 2, [], []), (.ireturn, [0], [])]
theorem kX7_leastFrom_2 : chL mX7_leastFrom 2 bX7_leastFrom_2 = true := by decide +kernel
def bX7_leastFrom_20 : List AI := [(.iinc 2 1, [], []), (.goto (-21), [2], [])]
theorem kX7_leastFrom_20 : chL mX7_leastFrom 20 bX7_leastFrom_20 = true := by decide +kernel
def bX7_leastFrom_26 : List AI := [(.iconst (-1), [], []), (.ireturn, [0], [])]
theorem kX7_leastFrom_26 : chL mX7_leastFrom 26 bX7_leastFrom_26 = true := by decide +kernel
def bX7_fewestFires_0 : List AI := [(.aload_n 0, [], []), (.getfield 15, [2, 7, 2, 339], []), (.iconst 0, [], []), (.iconst 0, [], []), (.iastore, [], []), (.iconst 1, [], []), (.istore_n 3, [], []), (.nop, [9], [])]
theorem kX7_fewestFires_0 : chL mX7_fewestFires 0 bX7_fewestFires_0 = true := by decide +kernel
def bX7_fewestFires_9 : List AI := [(.iload_n 3, [], []), (.iload_n 2, [], []), (.if_icmp .gt 77, [88], []), (.aload_n 0, [], []), (.getfield 15, [2, 7, 2, 339], []), (.iload_n 3, [], []), (.ldc 30, [0, 1048576, 802], []), (.iastore, [], []), (.iconst 0, [], []), (.istore 4, [], []), (.nop, [25], [])]
theorem kX7_fewestFires_9 : chL mX7_fewestFires 9 bX7_fewestFires_9 = true := by decide +kernel
def bX7_fewestFires_25 : List AI := [(.iload 4, [], []), (.aload_n 1, [], []), (.getfield 18, [0, 8, 1, 194], []), (.if_icmp .ge 51, [82], []), (.aload_n 1, [], []), (.getfield 24, [2, 8, 7, 221], []), (.iload 4, [], []), (.iaload, [0], []), (.iload_n 3, [], []), (.if_icmp .gt 34, [76], []), (.aload_n 0, [], []), (.getfield 15, [2, 7, 2, 339], []), (.iload_n 3, [], []), (.aload_n 0, [], []), (.getfield 15, [2, 7, 2, 339], []), (.iload_n 3, [], []), (.iaload, [0], []), (.aload_n 0, [], []), (.getfield 15, [2, 7, 2, 339], []), (.iload_n 3, [], []), (.aload_n 1, [], []), (.getfield 24, [2, 8, 7, 221], []), (.iload 4, [], []), (.iaload, [0], []), (.isub, [], []), (.iaload, [0], []), (.iconst 1, [], []), (.iadd, [], []), (.invokestatic 49, [4, 815, 506, 101, 507], []), (.iastore, [], []), (.nop, [76], [])]
theorem kX7_fewestFires_25 : chL mX7_fewestFires 25 bX7_fewestFires_25 = true := by decide +kernel
def bX7_fewestFires_76 : List AI := [(.iinc 4 1, [], []), (.goto (-54), [25], [])]
theorem kX7_fewestFires_76 : chL mX7_fewestFires 76 bX7_fewestFires_76 = true := by decide +kernel
def bX7_fewestFires_82 : List AI := [(.iinc 3 1, [], []), (.goto (-76), [9], [])]
theorem kX7_fewestFires_82 : chL mX7_fewestFires 82 bX7_fewestFires_82 = true := by decide +kernel
def bX7_fewestFires_88 : List AI := [(.aload_n 0, [], []), (.getfield 15, [2, 7, 2, 339], []), (.iload_n 2, [], []), (.iaload, [0], []), (.ldc 30, [0, 1048576, 802], []), (.if_icmp .lt 7, [103], []), (.iconst (-1), [], []), (.goto 9, [109], [])]
theorem kX7_fewestFires_88 : chL mX7_fewestFires 88 bX7_fewestFires_88 = true := by decide +kernel
def bX7_fewestFires_103 : List AI := [(.aload_n 0, [], []), (.getfield 15, [2, 7, 2, 339], []), (.iload_n 2, [], []), (.iaload, [0], []), (.nop, [109], [])]
theorem kX7_fewestFires_103 : chL mX7_fewestFires 103 bX7_fewestFires_103 = true := by decide +kernel
def bX7_fewestFires_109 : List AI := [(.ireturn, [0], [])]
theorem kX7_fewestFires_109 : chL mX7_fewestFires 109 bX7_fewestFires_109 = true := by decide +kernel
def bX7_countWays_0 : List AI := [(.aload_n 0, [], []), (.getfield 15, [2, 7, 2, 339], []), (.iconst 0, [], []), (.invokestatic 31, [0, 2, 0, 0, 597, 803, 596, 106], [mJ7_fill_53178]), (.aload_n 0, [], []), (.getfield 15, [2, 7, 2, 339], []), (.iconst 0, [], []), (.iconst 1, [], []), (.iastore, [], []), (.iconst 0, [], []), (.istore_n 3, [], []), (.nop, [17], [])]
theorem kX7_countWays_0 : chL mX7_countWays 0 bX7_countWays_0 = true := by decide +kernel
def bX7_countWays_17 : List AI := [(.iload_n 3, [], []), (.aload_n 1, [], []), (.getfield 18, [0, 8, 1, 194], []), (.if_icmp .ge 53, [75], []), (.aload_n 1, [], []), (.getfield 24, [2, 8, 7, 221], []), (.iload_n 3, [], []), (.iaload, [0], []), (.istore 4, [], []), (.iload 4, [], []), (.istore 5, [], []), (.nop, [37], [])]
theorem kX7_countWays_17 : chL mX7_countWays 17 bX7_countWays_17 = true := by decide +kernel
def bX7_countWays_37 : List AI := [(.iload 5, [], []), (.iload_n 2, [], []), (.if_icmp .gt 29, [69], []), (.aload_n 0, [], []), (.getfield 15, [2, 7, 2, 339], []), (.iload 5, [], []), (.dup2, [0], []), (.iaload, [0], []), (.aload_n 0, [], []), (.getfield 15, [2, 7, 2, 339], []), (.iload 5, [], []), (.iload 4, [], []), (.isub, [], []), (.iaload, [0], []), (.iadd, [], []), (.iastore, [], []), (.iinc 5 1, [], []), (.goto (-29), [37], [])]
theorem kX7_countWays_37 : chL mX7_countWays 37 bX7_countWays_37 = true := by decide +kernel
def bX7_countWays_69 : List AI := [(.iinc 3 1, [], []), (.goto (-55), [17], [])]
theorem kX7_countWays_69 : chL mX7_countWays 69 bX7_countWays_69 = true := by decide +kernel
def bX7_countWays_75 : List AI := [(.aload_n 0, [], []), (.getfield 15, [2, 7, 2, 339], []), (.iload_n 2, [], []), (.iaload, [0], []), (.ireturn, [0], [])]
theorem kX7_countWays_75 : chL mX7_countWays 75 bX7_countWays_75 = true := by decide +kernel
def bX3_init_0 : List AI := [(.aload_n 0, [], []), (.invokespecial 3, [2, 352, 115, 116], []), (.aload_n 0, [], []), (.sipush 1024, [], []), (.newarray .int, [1, 186], []), (.putfield 9, [2, 3, 5, 363], []), (.aload_n 0, [], []), (.sipush 1024, [], []), (.newarray .int, [1, 186], []), (.putfield 15, [2, 3, 6, 365], []), (.aload_n 0, [], []), (.sipush 1024, [], []), (.newarray .int, [1, 186], []), (.putfield 18, [2, 3, 8, 368], []), (.aload_n 0, [], []), (.sipush 1024, [], []), (.newarray .boolean, [4, 269], []), (.putfield 21, [2, 3, 10, 370], []), (.return_, [], [])]
theorem kX3_init_0 : chL mX3_init 0 bX3_init_0 = true := by decide +kernel
def bX3_survey_0 : List AI := [(.aload_n 0, [], []), (.iconst 1, [], []), (.aload_n 1, [], []), (.getfield 25, [0, 8, 0, 188], []), (.ishl, [], []), (.iconst 1, [], []), (.isub, [], []), (.putfield 31, [0, 3, 7, 367], []), (.aload_n 0, [], []), (.iconst 0, [], []), (.putfield 34, [0, 3, 0, 353], []), (.aload_n 0, [], []), (.iconst 0, [], []), (.putfield 37, [0, 3, 9, 369], []), (.aload_n 0, [], []), (.getfield 9, [2, 3, 5, 363], []), (.iconst 0, [], []), (.iconst 0, [], []), (.iastore, [], []), (.iconst 0, [], []), (.istore_n 2, [], []), (.nop, [31], [])]
theorem kX3_survey_0 : chL mX3_survey 0 bX3_survey_0 = true := by decide +kernel
def bX3_survey_31 : List AI := [(.iload_n 2, [], []), (.aload_n 1, [], []), (.getfield 25, [0, 8, 0, 188], []), (.if_icmp .ge 109, [145], []), (.aload_n 1, [], []), (.getfield 40, [2, 8, 6, 214], []), (.iload_n 2, [], []), (.aaload, [0], []), (.astore_n 3, [], []), (.iconst 1, [], []), (.iload_n 2, [], []), (.ishl, [], []), (.istore 4, [], []), (.aload_n 3, [], []), (.getfield 44, [0, 2, 2, 139], []), (.ifCond .le 14, [69], []), (.aload_n 0, [], []), (.dup, [], []), (.getfield 34, [0, 3, 0, 353], []), (.iload 4, [], []), (.ior, [], []), (.putfield 34, [0, 3, 0, 353], []), (.nop, [69], [])]
theorem kX3_survey_31 : chL mX3_survey 31 bX3_survey_31 = true := by decide +kernel
def bX3_survey_69 : List AI := [(.iconst 0, [], []), (.istore 5, [], []), (.nop, [72], [])]
theorem kX3_survey_69 : chL mX3_survey 69 bX3_survey_69 = true := by decide +kernel
def bX3_survey_72 : List AI := [(.iload 5, [], []), (.iload 4, [], []), (.if_icmp .ge 63, [139], []), (.aload_n 0, [], []), (.getfield 9, [2, 3, 5, 363], []), (.iload 4, [], []), (.iload 5, [], []), (.iadd, [], []), (.aload_n 0, [], []), (.aload_n 3, [], []), (.iload 5, [], []), (.invokevirtual 49, [0, 2, 0, 0, 3, 865, 862, 864, 15, 97], [mX3_totalWith]), (.iastore, [], []), (.aload_n 0, [], []), (.aload_n 1, [], []), (.iload 4, [], []), (.iload 5, [], []), (.iadd, [], []), (.invokevirtual 53, [0, 2, 0, 0, 3, 869, 866, 867, 868, 97], [mX3_ovensFilled]), (.ifCond .eq 27, [133], []), (.aload_n 0, [], []), (.getfield 18, [2, 3, 8, 368], []), (.aload_n 0, [], []), (.getfield 37, [0, 3, 9, 369], []), (.iload 4, [], []), (.iload 5, [], []), (.iadd, [], []), (.iastore, [], []), (.aload_n 0, [], []), (.dup, [], []), (.getfield 37, [0, 3, 9, 369], []), (.iconst 1, [], []), (.iadd, [], []), (.putfield 37, [0, 3, 9, 369], []), (.nop, [133], [])]
theorem kX3_survey_72 : chL mX3_survey 72 bX3_survey_72 = true := by decide +kernel
def bX3_survey_133 : List AI := [(.iinc 5 1, [], []), (.goto (-64), [72], [])]
theorem kX3_survey_133 : chL mX3_survey 133 bX3_survey_133 = true := by decide +kernel
def bX3_survey_139 : List AI := [(.iinc 2 1, [], []), (.goto (-111), [31], [])]
theorem kX3_survey_139 : chL mX3_survey 139 bX3_survey_139 = true := by decide +kernel
def bX3_survey_145 : List AI := [(.return_, [], [])]
theorem kX3_survey_145 : chL mX3_survey 145 bX3_survey_145 = true := by decide +kernel
def bX3_totalWith_0 : List AI := [(.aload_n 1, [], []), (.getfield 44, [0, 2, 2, 139], []), (.ifCond .le 25, [29], []), (.aload_n 0, [], []), (.getfield 9, [2, 3, 5, 363], []), (.iload_n 2, [], []), (.iaload, [0], []), (.ifCond .lt 16, [29], []), (.aload_n 1, [], []), (.getfield 57, [0, 2, 6, 154], []), (.iload_n 2, [], []), (.iand, [], []), (.ifCond .ne 7, [29], []), (.iconst 1, [], []), (.goto 4, [30], [])]
theorem kX3_totalWith_0 : chL mX3_totalWith 0 bX3_totalWith_0 = true := by decide +kernel
def bX3_totalWith_29 : List AI := [(.iconst 0, [], []), (.nop, [30], [])]
theorem kX3_totalWith_29 : chL mX3_totalWith 29 bX3_totalWith_29 = true := by decide +kernel
def bX3_totalWith_30 : List AI := [(.istore_n 3, [], []), (.iload_n 3, [], []), (.ifCond .eq 17, [49], []), (.aload_n 0, [], []), (.getfield 9, [2, 3, 5, 363], []), (.iload_n 2, [], []), (.iaload, [0], []), (.aload_n 1, [], []), (.getfield 44, [0, 2, 2, 139], []), (.iadd, [], []), (.goto 4, [50], [])]
theorem kX3_totalWith_30 : chL mX3_totalWith 30 bX3_totalWith_30 = true := by decide +kernel
def bX3_totalWith_49 : List AI := [(.iconst (-1), [], []), (.nop, [50], [])]
theorem kX3_totalWith_49 : chL mX3_totalWith 49 bX3_totalWith_49 = true := by decide +kernel
def bX3_totalWith_50 : List AI := [(.ireturn, [0], [])]
theorem kX3_totalWith_50 : chL mX3_totalWith 50 bX3_totalWith_50 = true := by decide +kernel
def bX3_ovensFilled_0 : List AI := [(.iconst 0, [], []), (.istore_n 3, [], []), (.iconst 0, [], []), (.istore 4, [], []), (.nop, [5], [])]
theorem kX3_ovensFilled_0 : chL mX3_ovensFilled 0 bX3_ovensFilled_0 = true := by decide +kernel
def bX3_ovensFilled_5 : List AI := [(.iload 4, [], []), (.aload_n 1, [], []), (.getfield 60, [0, 8, 1, 196], []), (.if_icmp .ge 32, [43], []), (.aload_n 0, [], []), (.getfield 9, [2, 3, 5, 363], []), (.iload_n 2, [], []), (.iaload, [0], []), (.aload_n 1, [], []), (.getfield 63, [2, 8, 7, 223], []), (.iload 4, [], []), (.iaload, [0], []), (.if_icmp .ne 10, [37], []), (.iload_n 3, [], []), (.iconst 1, [], []), (.iload 4, [], []), (.ishl, [], []), (.ior, [], []), (.istore_n 3, [], []), (.nop, [37], [])]
theorem kX3_ovensFilled_5 : chL mX3_ovensFilled 5 bX3_ovensFilled_5 = true := by decide +kernel
def bX3_ovensFilled_37 : List AI := [(.iinc 4 1, [], []), (.goto (-35), [5], [])]
theorem kX3_ovensFilled_37 : chL mX3_ovensFilled 37 bX3_ovensFilled_37 = true := by decide +kernel
def bX3_ovensFilled_43 : List AI := [(.iload_n 3, [], []), (.ireturn, [0], [])]
theorem kX3_ovensFilled_43 : chL mX3_ovensFilled 43 bX3_ovensFilled_43 = true := by decide +kernel
def bX3_pick_0 : List AI := [(.iconst 0, [], []), (.istore 5, [], []), (.iconst 0, [], []), (.istore 6, [], []), (.nop, [6], [])]
theorem kX3_pick_0 : chL mX3_pick 0 bX3_pick_0 = true := by decide +kernel
def bX3_pick_6 : List AI := [(.iload 6, [], []), (.aload_n 0, [], []), (.getfield 37, [0, 3, 9, 369], []), (.if_icmp .ge 91, [103], []), (.aload_n 0, [], []), (.getfield 18, [2, 3, 8, 368], []), (.iload 6, [], []), (.iaload, [0], []), (.istore 7, [], []), (.aload_n 0, [], []), (.getfield 9, [2, 3, 5, 363], []), (.iload 7, [], []), (.iaload, [0], []), (.aload_n 1, [], []), (.getfield 63, [2, 8, 7, 223], []), (.iload_n 2, [], []), (.iaload, [0], []), (.if_icmp .ne 7, [44], []), (.iconst 1, [], []), (.goto 4, [45], [])]
theorem kX3_pick_6 : chL mX3_pick 6 bX3_pick_6 = true := by decide +kernel
def bX3_pick_44 : List AI := [(.iconst 0, [], []), (.nop, [45], [])]
theorem kX3_pick_44 : chL mX3_pick 44 bX3_pick_44 = true := by decide +kernel
def bX3_pick_45 : List AI := [(.istore 8, [], []), (.iload 8, [], []), (.ifCond .eq 26, [75], []), (.iload 4, [], []), (.ifCond .eq 21, [75], []), (.aload_n 0, [], []), (.aload_n 1, [], []), (.iload_n 2, [], []), (.iload 7, [], []), (.invokevirtual 66, [0, 3, 0, 0, 3, 877, 874, 875, 876, 97], [mX3_leavers]), (.ifCond .ne 7, [72], []), (.iconst 1, [], []), (.goto 4, [73], [])]
theorem kX3_pick_45 : chL mX3_pick 45 bX3_pick_45 = true := by decide +kernel
def bX3_pick_72 : List AI := [(.iconst 0, [], []), (.nop, [73], [])]
theorem kX3_pick_72 : chL mX3_pick 72 bX3_pick_72 = true := by decide +kernel
def bX3_pick_73 : List AI := [(.istore 8, [], []), (.nop, [75], [])]
theorem kX3_pick_73 : chL mX3_pick 73 bX3_pick_73 = true := by decide +kernel
def bX3_pick_75 : List AI := [(.iload 8, [], []), (.ifCond .eq 12, [89], []), (.iload 5, [], []), (.iload_n 3, [], []), (.if_icmp .ne 6, [89], []), (.iload 7, [], []), (.ireturn, [0], [])]
theorem kX3_pick_75 : chL mX3_pick 75 bX3_pick_75 = true := by decide +kernel
def bX3_pick_89 : List AI := [(.iload 8, [], []), (.ifCond .eq 6, [97], []), (.iinc 5 1, [], []), (.nop, [97], [])]
theorem kX3_pick_89 : chL mX3_pick 89 bX3_pick_89 = true := by decide +kernel
def bX3_pick_97 : List AI := [(.iinc 6 1, [], []), (.goto (-94), [6], [])]
theorem kX3_pick_97 : chL mX3_pick 97 bX3_pick_97 = true := by decide +kernel
def bX3_pick_103 : List AI := [(.iload_n 3, [], []), (.iconst (-1), [], []), (.if_icmp .ne 8, [113], []), (.iload 5, [], []), (.goto 4, [114], [])]
theorem kX3_pick_103 : chL mX3_pick 103 bX3_pick_103 = true := by decide +kernel
def bX3_pick_113 : List AI := [(.iconst (-1), [], []), (.nop, [114], [])]
theorem kX3_pick_113 : chL mX3_pick 113 bX3_pick_113 = true := by decide +kernel
def bX3_pick_114 : List AI := [(.ireturn, [0], [])]
theorem kX3_pick_114 : chL mX3_pick 114 bX3_pick_114 = true := by decide +kernel
def bX3_leavers_0 : List AI := [(.iconst 0, [], []), (.istore 4, [], []), (.iconst 0, [], []), (.istore 5, [], []), (.nop, [6], [])]
theorem kX3_leavers_0 : chL mX3_leavers 0 bX3_leavers_0 = true := by decide +kernel
def bX3_leavers_6 : List AI := [(.iload 5, [], []), (.aload_n 1, [], []), (.getfield 60, [0, 8, 1, 196], []), (.if_icmp .ge 45, [57], []), (.iload 4, [], []), (.iload_n 3, [], []), (.if_icmp .eq 39, [57], []), (.aload_n 1, [], []), (.getfield 63, [2, 8, 7, 223], []), (.iload 5, [], []), (.iaload, [0], []), (.aload_n 1, [], []), (.getfield 63, [2, 8, 7, 223], []), (.iload_n 2, [], []), (.iaload, [0], []), (.if_icmp .le 17, [51], []), (.iload 4, [], []), (.aload_n 0, [], []), (.aload_n 1, [], []), (.iload 5, [], []), (.iload_n 2, [], []), (.iload_n 3, [], []), (.invokevirtual 70, [0, 4, 0, 0, 3, 881, 878, 880, 16, 97], [mX3_leaversTo]), (.ior, [], []), (.istore 4, [], []), (.nop, [51], [])]
theorem kX3_leavers_6 : chL mX3_leavers 6 bX3_leavers_6 = true := by decide +kernel
def bX3_leavers_51 : List AI := [(.iinc 5 1, [], []), (.goto (-48), [6], [])]
theorem kX3_leavers_51 : chL mX3_leavers 51 bX3_leavers_51 = true := by decide +kernel
def bX3_leavers_57 : List AI := [(.iload 4, [], []), (.ireturn, [0], [])]
theorem kX3_leavers_57 : chL mX3_leavers 57 bX3_leavers_57 = true := by decide +kernel
def bX3_leaversTo_0 : List AI := [(.aload_n 1, [], []), (.iload_n 2, [], []), (.iload_n 3, [], []), (.invokestatic 74, [0, 3, 0, 0, 884, 882, 883, 97], [mX3_cheaperThanIn]), (.iconst (-1), [], []), (.ixor, [], []), (.istore 5, [], []), (.aload_n 1, [], []), (.iload_n 2, [], []), (.invokestatic 77, [0, 2, 0, 0, 888, 886, 887, 97], [mX3_cheaperThanAlone]), (.iconst (-1), [], []), (.ixor, [], []), (.istore 6, [], []), (.iconst 0, [], []), (.istore 7, [], []), (.iconst 0, [], []), (.istore 8, [], []), (.nop, [25], [])]
theorem kX3_leaversTo_0 : chL mX3_leaversTo 0 bX3_leaversTo_0 = true := by decide +kernel
def bX3_leaversTo_25 : List AI := [(.iload 8, [], []), (.aload_n 0, [], []), (.getfield 37, [0, 3, 9, 369], []), (.if_icmp .ge 87, [118], []), (.iload 7, [], []), (.iload 4, [], []), (.if_icmp .eq 80, [118], []), (.aload_n 0, [], []), (.getfield 18, [2, 3, 8, 368], []), (.iload 8, [], []), (.iaload, [0], []), (.istore 9, [], []), (.iload 9, [], []), (.iload 4, [], []), (.iand, [], []), (.iload 5, [], []), (.iand, [], []), (.ifCond .ne 20, [78], []), (.iload 9, [], []), (.iload 4, [], []), (.iconst (-1), [], []), (.ixor, [], []), (.iand, [], []), (.iload 6, [], []), (.iand, [], []), (.ifCond .ne 7, [78], []), (.iconst 1, [], []), (.goto 4, [79], [])]
theorem kX3_leaversTo_25 : chL mX3_leaversTo 25 bX3_leaversTo_25 = true := by decide +kernel
def bX3_leaversTo_78 : List AI := [(.iconst 0, [], []), (.nop, [79], [])]
theorem kX3_leaversTo_78 : chL mX3_leaversTo 78 bX3_leaversTo_78 = true := by decide +kernel
def bX3_leaversTo_79 : List AI := [(.istore 10, [], []), (.iload 10, [], []), (.ifCond .eq 29, [112], []), (.aload_n 0, [], []), (.getfield 9, [2, 3, 5, 363], []), (.iload 9, [], []), (.iaload, [0], []), (.aload_n 1, [], []), (.getfield 63, [2, 8, 7, 223], []), (.iload_n 2, [], []), (.iaload, [0], []), (.if_icmp .ne 13, [112], []), (.iload 7, [], []), (.iload 9, [], []), (.iload 4, [], []), (.iand, [], []), (.ior, [], []), (.istore 7, [], []), (.nop, [112], [])]
theorem kX3_leaversTo_79 : chL mX3_leaversTo 79 bX3_leaversTo_79 = true := by decide +kernel
def bX3_leaversTo_112 : List AI := [(.iinc 8 1, [], []), (.goto (-90), [25], [])]
theorem kX3_leaversTo_112 : chL mX3_leaversTo 112 bX3_leaversTo_112 = true := by decide +kernel
def bX3_leaversTo_118 : List AI := [(.iload 7, [], []), (.ireturn, [0], [])]
theorem kX3_leaversTo_118 : chL mX3_leaversTo 118 bX3_leaversTo_118 = true := by decide +kernel
def bX3_cheaperThanIn_0 : List AI := [(.iconst 0, [], []), (.istore_n 3, [], []), (.iconst 0, [], []), (.istore 4, [], []), (.nop, [5], [])]
theorem kX3_cheaperThanIn_0 : chL mX3_cheaperThanIn 0 bX3_cheaperThanIn_0 = true := by decide +kernel
def bX3_cheaperThanIn_5 : List AI := [(.iload 4, [], []), (.aload_n 0, [], []), (.getfield 25, [0, 8, 0, 188], []), (.if_icmp .ge 45, [56], []), (.aload_n 0, [], []), (.getfield 40, [2, 8, 6, 214], []), (.iload 4, [], []), (.aaload, [0], []), (.getfield 44, [0, 2, 2, 139], []), (.istore 5, [], []), (.aload_n 0, [], []), (.iload 5, [], []), (.iload_n 1, [], []), (.invokevirtual 80, [0, 2, 0, 0, 8, 718, 885, 716, 717, 91], [mX8_fuelFor]), (.aload_n 0, [], []), (.iload 5, [], []), (.iload_n 2, [], []), (.invokevirtual 80, [0, 2, 0, 0, 8, 718, 885, 716, 717, 91], [mX8_fuelFor]), (.if_icmp .ge 10, [50], []), (.iload_n 3, [], []), (.iconst 1, [], []), (.iload 4, [], []), (.ishl, [], []), (.ior, [], []), (.istore_n 3, [], []), (.nop, [50], [])]
theorem kX3_cheaperThanIn_5 : chL mX3_cheaperThanIn 5 bX3_cheaperThanIn_5 = true := by decide +kernel
def bX3_cheaperThanIn_50 : List AI := [(.iinc 4 1, [], []), (.goto (-48), [5], [])]
theorem kX3_cheaperThanIn_50 : chL mX3_cheaperThanIn 50 bX3_cheaperThanIn_50 = true := by decide +kernel
def bX3_cheaperThanIn_56 : List AI := [(.iload_n 3, [], []), (.ireturn, [0], [])]
theorem kX3_cheaperThanIn_56 : chL mX3_cheaperThanIn 56 bX3_cheaperThanIn_56 = true := by decide +kernel
def bX3_cheaperThanAlone_0 : List AI := [(.iconst 0, [], []), (.istore_n 2, [], []), (.iconst 0, [], []), (.istore_n 3, [], []), (.nop, [4], [])]
theorem kX3_cheaperThanAlone_0 : chL mX3_cheaperThanAlone 0 bX3_cheaperThanAlone_0 = true := by decide +kernel
def bX3_cheaperThanAlone_4 : List AI := [(.iload_n 3, [], []), (.aload_n 0, [], []), (.getfield 25, [0, 8, 0, 188], []), (.if_icmp .ge 36, [45], []), (.aload_n 0, [], []), (.aload_n 0, [], []), (.getfield 40, [2, 8, 6, 214], []), (.iload_n 3, [], []), (.aaload, [0], []), (.getfield 44, [0, 2, 2, 139], []), (.iload_n 1, [], []), (.invokevirtual 80, [0, 2, 0, 0, 8, 718, 885, 716, 717, 91], [mX8_fuelFor]), (.aload_n 0, [], []), (.getfield 84, [0, 8, 3, 206], []), (.if_icmp .ge 9, [39], []), (.iload_n 2, [], []), (.iconst 1, [], []), (.iload_n 3, [], []), (.ishl, [], []), (.ior, [], []), (.istore_n 2, [], []), (.nop, [39], [])]
theorem kX3_cheaperThanAlone_4 : chL mX3_cheaperThanAlone 4 bX3_cheaperThanAlone_4 = true := by decide +kernel
def bX3_cheaperThanAlone_39 : List AI := [(.iinc 3 1, [], []), (.goto (-38), [4], [])]
theorem kX3_cheaperThanAlone_39 : chL mX3_cheaperThanAlone 39 bX3_cheaperThanAlone_39 = true := by decide +kernel
def bX3_cheaperThanAlone_45 : List AI := [(.iload_n 2, [], []), (.ireturn, [0], [])]
theorem kX3_cheaperThanAlone_45 : chL mX3_cheaperThanAlone 45 bX3_cheaperThanAlone_45 = true := by decide +kernel
def bX3_findServed_0 : List AI := [(.aload_n 0, [], []), (.invokevirtual 87, [0, 0, 0, 0, 3, 905, 902, 904, 17, 97], [mX3_fitGroups]), (.aload_n 0, [], []), (.iconst 0, [], []), (.invokevirtual 90, [0, 1, 0, 0, 3, 909, 906, 908, 18, 97], [mX3_fillTable]), (.aload_n 0, [], []), (.iconst 0, [], []), (.putfield 94, [0, 3, 1, 355], []), (.iconst 1, [], []), (.istore_n 1, [], []), (.nop, [16], [])]
theorem kX3_findServed_0 : chL mX3_findServed 0 bX3_findServed_0 = true := by decide +kernel
def bX3_findServed_16 : List AI := [(.iload_n 1, [], []), (.aload_n 0, [], []), (.getfield 34, [0, 3, 0, 353], []), (.if_icmp .gt 41, [62], []), (.aload_n 0, [], []), (.iload_n 1, [], []), (.invokevirtual 97, [0, 1, 0, 0, 3, 913, 910, 912, 19, 97], [mX3_isOfWishers]), (.ifCond .eq 27, [56], []), (.aload_n 0, [], []), (.getfield 15, [2, 3, 6, 365], []), (.iload_n 1, [], []), (.iaload, [0], []), (.ldc 101, [0, 1048576, 922], []), (.if_icmp .ge 16, [56], []), (.aload_n 0, [], []), (.iload_n 1, [], []), (.invokevirtual 102, [0, 1, 0, 0, 3, 937, 934, 936, 22, 97], [mX3_servesBetter]), (.ifCond .eq 8, [56], []), (.aload_n 0, [], []), (.iload_n 1, [], []), (.putfield 94, [0, 3, 1, 355], []), (.nop, [56], [])]
theorem kX3_findServed_16 : chL mX3_findServed 16 bX3_findServed_16 = true := by decide +kernel
def bX3_findServed_56 : List AI := [(.iinc 1 1, [], []), (.goto (-43), [16], [])]
theorem kX3_findServed_56 : chL mX3_findServed 56 bX3_findServed_56 = true := by decide +kernel
def bX3_findServed_62 : List AI := [(.return_, [], [])]
theorem kX3_findServed_62 : chL mX3_findServed 62 bX3_findServed_62 = true := by decide +kernel
def bX3_servesBetter_0 : List AI := [(.iload_n 1, [], []), (.invokestatic 105, [0, 1, 0, 0, 929, 927, 928, 108], [mJ6_bitCount_0f7a4]), (.aload_n 0, [], []), (.getfield 94, [0, 3, 1, 355], []), (.invokestatic 105, [0, 1, 0, 0, 929, 927, 928, 108], [mJ6_bitCount_0f7a4]), (.isub, [], []), (.istore_n 2, [], []), (.iload_n 2, [], []), (.ifCond .gt 25, [39], []), (.iload_n 2, [], []), (.ifCond .ne 25, [43], []), (.aload_n 0, [], []), (.getfield 15, [2, 3, 6, 365], []), (.iload_n 1, [], []), (.iaload, [0], []), (.aload_n 0, [], []), (.getfield 15, [2, 3, 6, 365], []), (.aload_n 0, [], []), (.getfield 94, [0, 3, 1, 355], []), (.iaload, [0], []), (.if_icmp .ge 7, [43], []), (.nop, [39], [])]
theorem kX3_servesBetter_0 : chL mX3_servesBetter 0 bX3_servesBetter_0 = true := by decide +kernel
def bX3_servesBetter_39 : List AI := [(.iconst 1, [], []), (.goto 4, [44], [])]
theorem kX3_servesBetter_39 : chL mX3_servesBetter 39 bX3_servesBetter_39 = true := by decide +kernel
def bX3_servesBetter_43 : List AI := [(.iconst 0, [], []), (.nop, [44], [])]
theorem kX3_servesBetter_43 : chL mX3_servesBetter 43 bX3_servesBetter_43 = true := by decide +kernel
def bX3_servesBetter_44 : List AI := [(.ireturn, [1], [])]
theorem kX3_servesBetter_44 : chL mX3_servesBetter 44 bX3_servesBetter_44 = true := by decide +kernel
def bX3_countPartings_0 : List AI := [(.aload_n 0, [], []), (.invokevirtual 87, [0, 0, 0, 0, 3, 905, 902, 904, 17, 97], [mX3_fitGroups]), (.aload_n 0, [], []), (.iconst 1, [], []), (.invokevirtual 90, [0, 1, 0, 0, 3, 909, 906, 908, 18, 97], [mX3_fillTable]), (.aload_n 0, [], []), (.getfield 15, [2, 3, 6, 365], []), (.aload_n 0, [], []), (.getfield 34, [0, 3, 0, 353], []), (.iaload, [0], []), (.ireturn, [0], [])]
theorem kX3_countPartings_0 : chL mX3_countPartings 0 bX3_countPartings_0 = true := by decide +kernel
def bX3_alwaysWith_0 : List AI := [(.iconst 1, [], []), (.iload_n 1, [], []), (.ishl, [], []), (.istore_n 2, [], []), (.aload_n 0, [], []), (.getfield 34, [0, 3, 0, 353], []), (.iload_n 2, [], []), (.iand, [], []), (.ifCond .eq 10, [20], []), (.aload_n 0, [], []), (.invokevirtual 111, [0, 0, 0, 0, 3, 946, 955, 944, 945, 97], [mX3_countPartings]), (.ifCond .ne 5, [22], []), (.nop, [20], [])]
theorem kX3_alwaysWith_0 : chL mX3_alwaysWith 0 bX3_alwaysWith_0 = true := by decide +kernel
def bX3_alwaysWith_20 : List AI := [(.iconst 0, [], []), (.ireturn, [0], [])]
theorem kX3_alwaysWith_20 : chL mX3_alwaysWith 20 bX3_alwaysWith_20 = true := by decide +kernel
def bX3_alwaysWith_22 : List AI := [(.aload_n 0, [], []), (.getfield 34, [0, 3, 0, 353], []), (.istore_n 3, [], []), (.iconst 0, [], []), (.istore 4, [], []), (.nop, [30], [])]
theorem kX3_alwaysWith_22 : chL mX3_alwaysWith 22 bX3_alwaysWith_22 = true := by decide +kernel
def bX3_alwaysWith_30 : List AI := [(.iload 4, [], []), (.aload_n 0, [], []), (.getfield 37, [0, 3, 9, 369], []), (.if_icmp .ge 47, [83], []), (.aload_n 0, [], []), (.getfield 18, [2, 3, 8, 368], []), (.iload 4, [], []), (.iaload, [0], []), (.istore 5, [], []), (.iload 5, [], []), (.iload_n 2, [], []), (.iand, [], []), (.ifCond .eq 25, [77], []), (.aload_n 0, [], []), (.getfield 15, [2, 3, 6, 365], []), (.aload_n 0, [], []), (.getfield 34, [0, 3, 0, 353], []), (.iload 5, [], []), (.iconst (-1), [], []), (.ixor, [], []), (.iand, [], []), (.iaload, [0], []), (.ifCond .le 8, [77], []), (.iload_n 3, [], []), (.iload 5, [], []), (.iand, [], []), (.istore_n 3, [], []), (.nop, [77], [])]
theorem kX3_alwaysWith_30 : chL mX3_alwaysWith 30 bX3_alwaysWith_30 = true := by decide +kernel
def bX3_alwaysWith_77 : List AI := [(.iinc 4 1, [], []), (.goto (-50), [30], [])]
theorem kX3_alwaysWith_77 : chL mX3_alwaysWith 77 bX3_alwaysWith_77 = true := by decide +kernel
def bX3_alwaysWith_83 : List AI := [(.iload_n 3, [], []), (.iload_n 2, [], []), (.iconst (-1), [], []), (.ixor, [], []), (.iand, [], []), (.ireturn, [0], [])]
theorem kX3_alwaysWith_83 : chL mX3_alwaysWith 83 bX3_alwaysWith_83 = true := by decide +kernel
def bX3_fewestFires_0 : List AI := [(.iconst 0, [], []), (.istore_n 2, [], []), (.nop, [2], [])]
theorem kX3_fewestFires_0 : chL mX3_fewestFires 0 bX3_fewestFires_0 = true := by decide +kernel
def bX3_fewestFires_2 : List AI := [(.iload_n 2, [], []), (.aload_n 0, [], []), (.getfield 31, [0, 3, 7, 367], []), (.if_icmp .gt 39, [46], []), (.aload_n 0, [], []), (.getfield 21, [2, 3, 10, 370], []), (.iload_n 2, [], []), (.aload_n 0, [], []), (.getfield 9, [2, 3, 5, 363], []), (.iload_n 2, [], []), (.iaload, [0], []), (.ifCond .lt 17, [38], []), (.aload_n 0, [], []), (.getfield 9, [2, 3, 5, 363], []), (.iload_n 2, [], []), (.iaload, [0], []), (.iload_n 1, [], []), (.if_icmp .gt 7, [38], []), (.iconst 1, [], []), (.goto 4, [39], [])]
theorem kX3_fewestFires_2 : chL mX3_fewestFires 2 bX3_fewestFires_2 = true := by decide +kernel
def bX3_fewestFires_38 : List AI := [(.iconst 0, [], []), (.nop, [39], [])]
theorem kX3_fewestFires_38 : chL mX3_fewestFires 38 bX3_fewestFires_38 = true := by decide +kernel
def bX3_fewestFires_39 : List AI := [(.bastore, [4], []), (.iinc 2 1, [], []), (.goto (-41), [2], [])]
theorem kX3_fewestFires_39 : chL mX3_fewestFires 39 bX3_fewestFires_39 = true := by decide +kernel
def bX3_fewestFires_46 : List AI := [(.aload_n 0, [], []), (.iconst 0, [], []), (.invokevirtual 90, [0, 1, 0, 0, 3, 909, 906, 908, 18, 97], [mX3_fillTable]), (.aload_n 0, [], []), (.getfield 15, [2, 3, 6, 365], []), (.aload_n 0, [], []), (.getfield 34, [0, 3, 0, 353], []), (.iaload, [0], []), (.ireturn, [0], [])]
theorem kX3_fewestFires_46 : chL mX3_fewestFires 46 bX3_fewestFires_46 = true := by decide +kernel
def bX3_findBetter_0 : List AI := [(.aload_n 0, [], []), (.invokevirtual 87, [0, 0, 0, 0, 3, 905, 902, 904, 17, 97], [mX3_fitGroups]), (.aload_n 0, [], []), (.iconst 2, [], []), (.invokevirtual 90, [0, 1, 0, 0, 3, 909, 906, 908, 18, 97], [mX3_fillTable]), (.aload_n 0, [], []), (.iconst (-1), [], []), (.putfield 115, [0, 3, 2, 357], []), (.aload_n 0, [], []), (.iconst (-1), [], []), (.putfield 118, [0, 3, 3, 359], []), (.aload_n 0, [], []), (.aload_n 0, [], []), (.getfield 15, [2, 3, 6, 365], []), (.aload_n 0, [], []), (.getfield 34, [0, 3, 0, 353], []), (.iaload, [0], []), (.putfield 121, [0, 3, 4, 361], []), (.iconst 0, [], []), (.istore_n 2, [], []), (.nop, [34], [])]
theorem kX3_findBetter_0 : chL mX3_findBetter 0 bX3_findBetter_0 = true := by decide +kernel
def bX3_findBetter_34 : List AI := [(.iload_n 2, [], []), (.aload_n 1, [], []), (.getfield 25, [0, 8, 0, 188], []), (.if_icmp .ge 75, [114], []), (.iconst 0, [], []), (.istore_n 3, [], []), (.nop, [44], [])]
theorem kX3_findBetter_34 : chL mX3_findBetter 34 bX3_findBetter_34 = true := by decide +kernel
def bX3_findBetter_44 : List AI := [(.iload_n 3, [], []), (.aload_n 0, [], []), (.getfield 31, [0, 3, 7, 367], []), (.if_icmp .gt 59, [108], []), (.iload_n 3, [], []), (.iload_n 2, [], []), (.ishr, [], []), (.iconst 1, [], []), (.iand, [], []), (.ifCond .ne 21, [78], []), (.iload_n 3, [], []), (.aload_n 1, [], []), (.getfield 40, [2, 8, 6, 214], []), (.iload_n 2, [], []), (.aaload, [0], []), (.getfield 57, [0, 2, 6, 154], []), (.iand, [], []), (.ifCond .ne 7, [78], []), (.iconst 1, [], []), (.goto 4, [79], [])]
theorem kX3_findBetter_44 : chL mX3_findBetter 44 bX3_findBetter_44 = true := by decide +kernel
def bX3_findBetter_78 : List AI := [(.iconst 0, [], []), (.nop, [79], [])]
theorem kX3_findBetter_78 : chL mX3_findBetter 78 bX3_findBetter_78 = true := by decide +kernel
def bX3_findBetter_79 : List AI := [(.istore 4, [], []), (.iload 4, [], []), (.ifCond .eq 19, [102], []), (.aload_n 0, [], []), (.getfield 9, [2, 3, 5, 363], []), (.iload_n 3, [], []), (.iaload, [0], []), (.ifCond .lt 10, [102], []), (.aload_n 0, [], []), (.aload_n 1, [], []), (.iload_n 2, [], []), (.iload_n 3, [], []), (.invokevirtual 124, [0, 3, 0, 0, 3, 993, 990, 992, 23, 97], [mX3_tryWishes]), (.nop, [102], [])]
theorem kX3_findBetter_79 : chL mX3_findBetter 79 bX3_findBetter_79 = true := by decide +kernel
def bX3_findBetter_102 : List AI := [(.iinc 3 1, [], []), (.goto (-61), [44], [])]
theorem kX3_findBetter_102 : chL mX3_findBetter 102 bX3_findBetter_102 = true := by decide +kernel
def bX3_findBetter_108 : List AI := [(.iinc 2 1, [], []), (.goto (-77), [34], [])]
theorem kX3_findBetter_108 : chL mX3_findBetter 108 bX3_findBetter_108 = true := by decide +kernel
def bX3_findBetter_114 : List AI := [(.return_, [], [])]
theorem kX3_findBetter_114 : chL mX3_findBetter 114 bX3_findBetter_114 = true := by decide +kernel
def bX3_tryWishes_0 : List AI := [(.iconst 1, [], []), (.iload_n 3, [], []), (.invokestatic 105, [0, 1, 0, 0, 929, 927, 928, 108], [mJ6_bitCount_0f7a4]), (.iadd, [], []), (.aload_n 0, [], []), (.getfield 15, [2, 3, 6, 365], []), (.aload_n 0, [], []), (.getfield 34, [0, 3, 0, 353], []), (.iload_n 3, [], []), (.iconst (-1), [], []), (.ixor, [], []), (.iand, [], []), (.iconst 1, [], []), (.iload_n 2, [], []), (.ishl, [], []), (.iconst (-1), [], []), (.ixor, [], []), (.iand, [], []), (.iaload, [0], []), (.iadd, [], []), (.istore 4, [], []), (.iload 4, [], []), (.aload_n 0, [], []), (.getfield 121, [0, 3, 4, 361], []), (.if_icmp .ge 4, [38], []), (.return_, [], [])]
theorem kX3_tryWishes_0 : chL mX3_tryWishes 0 bX3_tryWishes_0 = true := by decide +kernel
def bX3_tryWishes_38 : List AI := [(.iconst 0, [], []), (.istore 5, [], []), (.nop, [41], [])]
theorem kX3_tryWishes_38 : chL mX3_tryWishes 38 bX3_tryWishes_38 = true := by decide +kernel
def bX3_tryWishes_41 : List AI := [(.iload 5, [], []), (.aload_n 1, [], []), (.getfield 60, [0, 8, 1, 196], []), (.if_icmp .ge 114, [161], []), (.aload_n 1, [], []), (.getfield 63, [2, 8, 7, 223], []), (.iload 5, [], []), (.iaload, [0], []), (.aload_n 0, [], []), (.getfield 9, [2, 3, 5, 363], []), (.iload_n 3, [], []), (.iaload, [0], []), (.isub, [], []), (.istore 6, [], []), (.iload 6, [], []), (.iconst 1, [], []), (.if_icmp .lt 14, [83], []), (.iload 6, [], []), (.bipush 99, [], []), (.if_icmp .gt 7, [83], []), (.iconst 1, [], []), (.goto 4, [84], [])]
theorem kX3_tryWishes_41 : chL mX3_tryWishes 41 bX3_tryWishes_41 = true := by decide +kernel
def bX3_tryWishes_83 : List AI := [(.iconst 0, [], []), (.nop, [84], [])]
theorem kX3_tryWishes_83 : chL mX3_tryWishes 83 bX3_tryWishes_83 = true := by decide +kernel
def bX3_tryWishes_84 : List AI := [(.istore 7, [], []), (.iload 4, [], []), (.aload_n 0, [], []), (.getfield 121, [0, 3, 4, 361], []), (.if_icmp .ne 24, [116], []), (.iload_n 2, [], []), (.aload_n 0, [], []), (.getfield 115, [0, 3, 2, 357], []), (.if_icmp .ne 16, [116], []), (.iload 6, [], []), (.aload_n 0, [], []), (.getfield 118, [0, 3, 3, 359], []), (.if_icmp .ge 7, [116], []), (.iconst 1, [], []), (.goto 4, [117], [])]
theorem kX3_tryWishes_84 : chL mX3_tryWishes 84 bX3_tryWishes_84 = true := by decide +kernel
def bX3_tryWishes_116 : List AI := [(.iconst 0, [], []), (.nop, [117], [])]
theorem kX3_tryWishes_116 : chL mX3_tryWishes 116 bX3_tryWishes_116 = true := by decide +kernel
def bX3_tryWishes_117 : List AI := [(.istore 8, [], []), (.iload 7, [], []), (.ifCond .eq 34, [155], []), (.iload 4, [], []), (.aload_n 0, [], []), (.getfield 121, [0, 3, 4, 361], []), (.if_icmp .gt 8, [138], []), (.iload 8, [], []), (.ifCond .eq 20, [155], []), (.nop, [138], [])]
theorem kX3_tryWishes_117 : chL mX3_tryWishes 117 bX3_tryWishes_117 = true := by decide +kernel
def bX3_tryWishes_138 : List AI := [(.aload_n 0, [], []), (.iload_n 2, [], []), (.putfield 115, [0, 3, 2, 357], []), (.aload_n 0, [], []), (.iload 6, [], []), (.putfield 118, [0, 3, 3, 359], []), (.aload_n 0, [], []), (.iload 4, [], []), (.putfield 121, [0, 3, 4, 361], []), (.nop, [155], [])]
theorem kX3_tryWishes_138 : chL mX3_tryWishes 138 bX3_tryWishes_138 = true := by decide +kernel
def bX3_tryWishes_155 : List AI := [(.iinc 5 1, [], []), (.goto (-117), [41], [])]
theorem kX3_tryWishes_155 : chL mX3_tryWishes 155 bX3_tryWishes_155 = true := by decide +kernel
def bX3_tryWishes_161 : List AI := [(.return_, [], [])]
theorem kX3_tryWishes_161 : chL mX3_tryWishes 161 bX3_tryWishes_161 = true := by decide +kernel
def bX3_fitGroups_0 : List AI := [(.iconst 0, [], []), (.istore_n 1, [], []), (.nop, [2], [])]
theorem kX3_fitGroups_0 : chL mX3_fitGroups 0 bX3_fitGroups_0 = true := by decide +kernel
def bX3_fitGroups_2 : List AI := [(.iload_n 1, [], []), (.aload_n 0, [], []), (.getfield 31, [0, 3, 7, 367], []), (.if_icmp .gt 16, [23], []), (.aload_n 0, [], []), (.getfield 21, [2, 3, 10, 370], []), (.iload_n 1, [], []), (.iconst 0, [], []), (.bastore, [4], []), (.iinc 1 1, [], []), (.goto (-18), [2], [])]
theorem kX3_fitGroups_2 : chL mX3_fitGroups 2 bX3_fitGroups_2 = true := by decide +kernel
def bX3_fitGroups_23 : List AI := [(.iconst 0, [], []), (.istore_n 1, [], []), (.nop, [25], [])]
theorem kX3_fitGroups_23 : chL mX3_fitGroups 23 bX3_fitGroups_23 = true := by decide +kernel
def bX3_fitGroups_25 : List AI := [(.iload_n 1, [], []), (.aload_n 0, [], []), (.getfield 37, [0, 3, 9, 369], []), (.if_icmp .ge 21, [51], []), (.aload_n 0, [], []), (.getfield 21, [2, 3, 10, 370], []), (.aload_n 0, [], []), (.getfield 18, [2, 3, 8, 368], []), (.iload_n 1, [], []), (.iaload, [0], []), (.iconst 1, [], []), (.bastore, [4], []), (.iinc 1 1, [], []), (.goto (-23), [25], [])]
theorem kX3_fitGroups_25 : chL mX3_fitGroups 25 bX3_fitGroups_25 = true := by decide +kernel
def bX3_fitGroups_51 : List AI := [(.return_, [], [])]
theorem kX3_fitGroups_51 : chL mX3_fitGroups 51 bX3_fitGroups_51 = true := by decide +kernel
def bX3_isOfWishers_0 : List AI := [(.iload_n 1, [], []), (.aload_n 0, [], []), (.getfield 34, [0, 3, 0, 353], []), (.iconst (-1), [], []), (.ixor, [], []), (.iand, [], []), (.ifCond .ne 7, [15], []), (.iconst 1, [], []), (.goto 4, [16], [])]
theorem kX3_isOfWishers_0 : chL mX3_isOfWishers 0 bX3_isOfWishers_0 = true := by decide +kernel
def bX3_isOfWishers_15 : List AI := [(.iconst 0, [], []), (.nop, [16], [])]
theorem kX3_isOfWishers_15 : chL mX3_isOfWishers 15 bX3_isOfWishers_15 = true := by decide +kernel
def bX3_isOfWishers_16 : List AI := [(.ireturn, [1], [])]
theorem kX3_isOfWishers_16 : chL mX3_isOfWishers 16 bX3_isOfWishers_16 = true := by decide +kernel
def bX3_fillTable_0 : List AI := [(.aload_n 0, [], []), (.getfield 15, [2, 3, 6, 365], []), (.iconst 0, [], []), (.iload_n 1, [], []), (.iconst 1, [], []), (.if_icmp .ne 7, [14], []), (.iconst 1, [], []), (.goto 4, [15], [])]
theorem kX3_fillTable_0 : chL mX3_fillTable 0 bX3_fillTable_0 = true := by decide +kernel
def bX3_fillTable_14 : List AI := [(.iconst 0, [], []), (.nop, [15], [])]
theorem kX3_fillTable_14 : chL mX3_fillTable 14 bX3_fillTable_14 = true := by decide +kernel
def bX3_fillTable_15 : List AI := [(.iastore, [], []), (.iconst 1, [], []), (.istore_n 2, [], []), (.nop, [18], [])]
theorem kX3_fillTable_15 : chL mX3_fillTable 15 bX3_fillTable_15 = true := by decide +kernel
def bX3_fillTable_18 : List AI := [(.iload_n 2, [], []), (.aload_n 0, [], []), (.getfield 34, [0, 3, 0, 353], []), (.if_icmp .gt 29, [52], []), (.aload_n 0, [], []), (.iload_n 2, [], []), (.invokevirtual 97, [0, 1, 0, 0, 3, 913, 910, 912, 19, 97], [mX3_isOfWishers]), (.ifCond .eq 15, [46], []), (.aload_n 0, [], []), (.getfield 15, [2, 3, 6, 365], []), (.iload_n 2, [], []), (.aload_n 0, [], []), (.iload_n 1, [], []), (.iload_n 2, [], []), (.invokevirtual 128, [0, 2, 0, 0, 3, 917, 914, 916, 20, 97], [mX3_cell]), (.iastore, [], []), (.nop, [46], [])]
theorem kX3_fillTable_18 : chL mX3_fillTable 18 bX3_fillTable_18 = true := by decide +kernel
def bX3_fillTable_46 : List AI := [(.iinc 2 1, [], []), (.goto (-31), [18], [])]
theorem kX3_fillTable_46 : chL mX3_fillTable 46 bX3_fillTable_46 = true := by decide +kernel
def bX3_fillTable_52 : List AI := [(.return_, [], [])]
theorem kX3_fillTable_52 : chL mX3_fillTable 52 bX3_fillTable_52 = true := by decide +kernel
def bX3_cell_0 : List AI := [(.iload_n 2, [], []), (.iload_n 2, [], []), (.ineg, [], []), (.iand, [], []), (.istore_n 3, [], []), (.iload_n 2, [], []), (.iload_n 3, [], []), (.ixor, [], []), (.istore 4, [], []), (.aload_n 0, [], []), (.iload_n 1, [], []), (.iload 4, [], []), (.invokevirtual 131, [0, 2, 0, 0, 3, 921, 918, 920, 21, 97], [mX3_startOf]), (.istore 5, [], []), (.iload 4, [], []), (.istore 6, [], []), (.iconst 0, [], []), (.istore 7, [], []), (.nop, [26], [])]
theorem kX3_cell_0 : chL mX3_cell 0 bX3_cell_0 = true := by decide +kernel
def bX3_cell_26 : List AI := [(.iload 7, [], []), (.sipush 1024, [], []), (.if_icmp .ge 62, [93], []), (.aload_n 0, [], []), (.getfield 21, [2, 3, 10, 370], []), (.iload_n 3, [], []), (.iload 6, [], []), (.ior, [], []), (.baload, [4], []), (.ifCond .eq 27, [70], []), (.iload_n 1, [], []), (.iload 5, [], []), (.iload_n 3, [], []), (.iload 6, [], []), (.ior, [], []), (.aload_n 0, [], []), (.getfield 15, [2, 3, 6, 365], []), (.iload 4, [], []), (.iload 6, [], []), (.iconst (-1), [], []), (.ixor, [], []), (.iand, [], []), (.iaload, [0], []), (.invokestatic 134, [0, 4, 0, 0, 925, 923, 924, 97], [mX3_joined]), (.istore 5, [], []), (.nop, [70], [])]
theorem kX3_cell_26 : chL mX3_cell 26 bX3_cell_26 = true := by decide +kernel
def bX3_cell_70 : List AI := [(.iload 6, [], []), (.ifCond .ne 6, [78], []), (.goto 18, [93], [])]
theorem kX3_cell_70 : chL mX3_cell 70 bX3_cell_70 = true := by decide +kernel
def bX3_cell_78 : List AI := [(.iload 6, [], []), (.iconst 1, [], []), (.isub, [], []), (.iload 4, [], []), (.iand, [], []), (.istore 6, [], []), (.iinc 7 1, [], []), (.goto (-64), [26], [])]
theorem kX3_cell_78 : chL mX3_cell 78 bX3_cell_78 = true := by decide +kernel
def bX3_cell_93 : List AI := [(.iload 5, [], []), (.ireturn, [0], [])]
theorem kX3_cell_93 : chL mX3_cell 93 bX3_cell_93 = true := by decide +kernel
def bX3_startOf_0 : List AI := [(.iload_n 1, [], []), (.lookupswitch 32 #[(0, 27), (1, 30)], [33, 28, 31], [])]
theorem kX3_startOf_0 : chL mX3_startOf 0 bX3_startOf_0 = true := by decide +kernel
def bX3_startOf_28 : List AI := [(.ldc 101, [0, 1048576, 922], []), (.ireturn, [0], [])]
theorem kX3_startOf_28 : chL mX3_startOf 28 bX3_startOf_28 = true := by decide +kernel
def bX3_startOf_31 : List AI := [(.iconst 0, [], []), (.ireturn, [0], [])]
theorem kX3_startOf_31 : chL mX3_startOf 31 bX3_startOf_31 = true := by decide +kernel
def bX3_startOf_33 : List AI := [(.aload_n 0, [], []), (.getfield 15, [2, 3, 6, 365], []), (.iload_n 2, [], []), (.iaload, [0], []), (.ireturn, [0], [])]
theorem kX3_startOf_33 : chL mX3_startOf 33 bX3_startOf_33 = true := by decide +kernel
def bX3_joined_0 : List AI := [(.iload_n 0, [], []), (.lookupswitch 39 #[(0, 27), (1, 35)], [40, 28, 36], [])]
theorem kX3_joined_0 : chL mX3_joined 0 bX3_joined_0 = true := by decide +kernel
def bX3_joined_28 : List AI := [(.iload_n 1, [], []), (.iload_n 3, [], []), (.iconst 1, [], []), (.iadd, [], []), (.invokestatic 138, [4, 926, 506, 101, 507], []), (.ireturn, [0], [])]
theorem kX3_joined_28 : chL mX3_joined 28 bX3_joined_28 = true := by decide +kernel
def bX3_joined_36 : List AI := [(.iload_n 1, [], []), (.iload_n 3, [], []), (.iadd, [], []), (.ireturn, [0], [])]
theorem kX3_joined_36 : chL mX3_joined 36 bX3_joined_36 = true := by decide +kernel
def bX3_joined_40 : List AI := [(.iload_n 1, [], []), (.iload_n 3, [], []), (.iload_n 2, [], []), (.invokestatic 105, [0, 1, 0, 0, 929, 927, 928, 108], [mJ6_bitCount_0f7a4]), (.iadd, [], []), (.invokestatic 143, [5, 933, 509, 101, 510], []), (.ireturn, [0], [])]
theorem kX3_joined_40 : chL mX3_joined 40 bX3_joined_40 = true := by decide +kernel
def bX1_init_0 : List AI := [(.aload_n 0, [], []), (.invokespecial 3, [2, 399, 115, 116], []), (.aload_n 0, [], []), (.bipush 10, [], []), (.newarray .int, [1, 186], []), (.putfield 9, [2, 1, 1, 402], []), (.aload_n 0, [], []), (.bipush 10, [], []), (.newarray .int, [1, 186], []), (.putfield 15, [2, 1, 2, 404], []), (.aload_n 0, [], []), (.bipush 10, [], []), (.newarray .int, [1, 186], []), (.putfield 18, [2, 1, 3, 405], []), (.aload_n 0, [], []), (.sipush 1024, [], []), (.newarray .int, [1, 186], []), (.putfield 21, [2, 1, 4, 406], []), (.aload_n 0, [], []), (.sipush 1024, [], []), (.newarray .int, [1, 186], []), (.putfield 24, [2, 1, 5, 407], []), (.return_, [], [])]
theorem kX1_init_0 : chL mX1_init 0 bX1_init_0 = true := by decide +kernel
def bX1_findRing_0 : List AI := [(.aload_n 0, [], []), (.aload_n 1, [], []), (.invokevirtual 27, [0, 1, 0, 0, 1, 1018, 1015, 1017, 24, 98], [mX1_gatherCreditors]), (.aload_n 0, [], []), (.iconst 0, [], []), (.putfield 31, [0, 1, 0, 400], []), (.iconst 0, [], []), (.istore_n 2, [], []), (.nop, [12], [])]
theorem kX1_findRing_0 : chL mX1_findRing 0 bX1_findRing_0 = true := by decide +kernel
def bX1_findRing_12 : List AI := [(.iload_n 2, [], []), (.aload_n 1, [], []), (.getfield 35, [0, 8, 0, 189], []), (.if_icmp .ge 34, [51], []), (.aload_n 0, [], []), (.getfield 31, [0, 1, 0, 400], []), (.ifCond .ne 27, [51], []), (.aload_n 0, [], []), (.aload_n 1, [], []), (.getfield 35, [0, 8, 0, 189], []), (.iload_n 2, [], []), (.invokevirtual 40, [0, 2, 0, 0, 1, 1022, 1019, 1021, 25, 98], [mX1_measure]), (.aload_n 0, [], []), (.aload_n 1, [], []), (.getfield 35, [0, 8, 0, 189], []), (.iload_n 2, [], []), (.invokevirtual 44, [0, 2, 0, 0, 1, 1028, 1025, 1027, 26, 98], [mX1_traceFrom]), (.iinc 2 1, [], []), (.goto (-36), [12], [])]
theorem kX1_findRing_12 : chL mX1_findRing 12 bX1_findRing_12 = true := by decide +kernel
def bX1_findRing_51 : List AI := [(.return_, [], [])]
theorem kX1_findRing_51 : chL mX1_findRing 51 bX1_findRing_51 = true := by decide +kernel
def bX1_gatherCreditors_0 : List AI := [(.iconst 0, [], []), (.istore_n 2, [], []), (.nop, [2], [])]
theorem kX1_gatherCreditors_0 : chL mX1_gatherCreditors 0 bX1_gatherCreditors_0 = true := by decide +kernel
def bX1_gatherCreditors_2 : List AI := [(.iload_n 2, [], []), (.aload_n 1, [], []), (.getfield 35, [0, 8, 0, 189], []), (.if_icmp .ge 58, [65], []), (.aload_n 0, [], []), (.getfield 15, [2, 1, 2, 404], []), (.iload_n 2, [], []), (.iconst 0, [], []), (.iastore, [], []), (.iconst 0, [], []), (.istore_n 3, [], []), (.nop, [19], [])]
theorem kX1_gatherCreditors_2 : chL mX1_gatherCreditors 2 bX1_gatherCreditors_2 = true := by decide +kernel
def bX1_gatherCreditors_19 : List AI := [(.iload_n 3, [], []), (.aload_n 1, [], []), (.getfield 35, [0, 8, 0, 189], []), (.if_icmp .ge 35, [59], []), (.aload_n 1, [], []), (.getfield 47, [2, 8, 6, 216], []), (.iload_n 2, [], []), (.aaload, [0], []), (.getfield 51, [2, 2, 8, 164], []), (.iload_n 3, [], []), (.iaload, [0], []), (.ifCond .le 15, [53], []), (.aload_n 0, [], []), (.getfield 15, [2, 1, 2, 404], []), (.iload_n 2, [], []), (.dup2, [0], []), (.iaload, [0], []), (.iconst 1, [], []), (.iload_n 3, [], []), (.ishl, [], []), (.ior, [], []), (.iastore, [], []), (.nop, [53], [])]
theorem kX1_gatherCreditors_19 : chL mX1_gatherCreditors 19 bX1_gatherCreditors_19 = true := by decide +kernel
def bX1_gatherCreditors_53 : List AI := [(.iinc 3 1, [], []), (.goto (-37), [19], [])]
theorem kX1_gatherCreditors_53 : chL mX1_gatherCreditors 53 bX1_gatherCreditors_53 = true := by decide +kernel
def bX1_gatherCreditors_59 : List AI := [(.iinc 2 1, [], []), (.goto (-60), [2], [])]
theorem kX1_gatherCreditors_59 : chL mX1_gatherCreditors 59 bX1_gatherCreditors_59 = true := by decide +kernel
def bX1_gatherCreditors_65 : List AI := [(.return_, [], [])]
theorem kX1_gatherCreditors_65 : chL mX1_gatherCreditors 65 bX1_gatherCreditors_65 = true := by decide +kernel
def bX1_measure_0 : List AI := [(.aload_n 0, [], []), (.getfield 18, [2, 1, 3, 405], []), (.ldc 56, [0, 1048576, 1023], []), (.invokestatic 57, [0, 2, 0, 0, 597, 1024, 596, 106], [mJ7_fill_53178]), (.aload_n 0, [], []), (.getfield 18, [2, 1, 3, 405], []), (.iload_n 2, [], []), (.iconst 0, [], []), (.iastore, [], []), (.iconst 1, [], []), (.iload_n 2, [], []), (.ishl, [], []), (.istore_n 3, [], []), (.iload_n 3, [], []), (.istore 4, [], []), (.iconst 1, [], []), (.istore 5, [], []), (.nop, [26], [])]
theorem kX1_measure_0 : chL mX1_measure 0 bX1_measure_0 = true := by decide +kernel
def bX1_measure_26 : List AI := [(.iload 5, [], []), (.iload_n 1, [], []), (.if_icmp .ge 81, [110], []), (.iload 4, [], []), (.ifCond .eq 76, [110], []), (.iconst 0, [], []), (.istore 6, [], []), (.iconst 0, [], []), (.istore 7, [], []), (.nop, [43], [])]
theorem kX1_measure_26 : chL mX1_measure 26 bX1_measure_26 = true := by decide +kernel
def bX1_measure_43 : List AI := [(.iload 7, [], []), (.iload_n 1, [], []), (.if_icmp .ge 49, [95], []), (.iload_n 3, [], []), (.iload 7, [], []), (.ishr, [], []), (.iconst 1, [], []), (.iand, [], []), (.ifCond .ne 34, [89], []), (.aload_n 0, [], []), (.getfield 15, [2, 1, 2, 404], []), (.iload 7, [], []), (.iaload, [0], []), (.iload 4, [], []), (.iand, [], []), (.ifCond .eq 21, [89], []), (.aload_n 0, [], []), (.getfield 18, [2, 1, 3, 405], []), (.iload 7, [], []), (.iload 5, [], []), (.iastore, [], []), (.iload 6, [], []), (.iconst 1, [], []), (.iload 7, [], []), (.ishl, [], []), (.ior, [], []), (.istore 6, [], []), (.nop, [89], [])]
theorem kX1_measure_43 : chL mX1_measure 43 bX1_measure_43 = true := by decide +kernel
def bX1_measure_89 : List AI := [(.iinc 7 1, [], []), (.goto (-49), [43], [])]
theorem kX1_measure_89 : chL mX1_measure 89 bX1_measure_89 = true := by decide +kernel
def bX1_measure_95 : List AI := [(.iload_n 3, [], []), (.iload 6, [], []), (.ior, [], []), (.istore_n 3, [], []), (.iload 6, [], []), (.istore 4, [], []), (.iinc 5 1, [], []), (.goto (-81), [26], [])]
theorem kX1_measure_95 : chL mX1_measure 95 bX1_measure_95 = true := by decide +kernel
def bX1_measure_110 : List AI := [(.return_, [], [])]
theorem kX1_measure_110 : chL mX1_measure 110 bX1_measure_110 = true := by decide +kernel
def bX1_traceFrom_0 : List AI := [(.ldc 56, [0, 1048576, 1023], []), (.istore_n 3, [], []), (.iconst 0, [], []), (.istore 4, [], []), (.nop, [6], [])]
theorem kX1_traceFrom_0 : chL mX1_traceFrom 0 bX1_traceFrom_0 = true := by decide +kernel
def bX1_traceFrom_6 : List AI := [(.iload 4, [], []), (.iload_n 1, [], []), (.if_icmp .ge 35, [44], []), (.aload_n 0, [], []), (.getfield 15, [2, 1, 2, 404], []), (.iload_n 2, [], []), (.iaload, [0], []), (.iload 4, [], []), (.ishr, [], []), (.iconst 1, [], []), (.iand, [], []), (.ifCond .eq 15, [38], []), (.iload_n 3, [], []), (.aload_n 0, [], []), (.getfield 18, [2, 1, 3, 405], []), (.iload 4, [], []), (.iaload, [0], []), (.invokestatic 63, [4, 1029, 506, 101, 507], []), (.istore_n 3, [], []), (.nop, [38], [])]
theorem kX1_traceFrom_6 : chL mX1_traceFrom 6 bX1_traceFrom_6 = true := by decide +kernel
def bX1_traceFrom_38 : List AI := [(.iinc 4 1, [], []), (.goto (-35), [6], [])]
theorem kX1_traceFrom_38 : chL mX1_traceFrom 38 bX1_traceFrom_38 = true := by decide +kernel
def bX1_traceFrom_44 : List AI := [(.iload_n 3, [], []), (.ldc 56, [0, 1048576, 1023], []), (.if_icmp .ge 8, [55], []), (.iload_n 3, [], []), (.iload_n 1, [], []), (.if_icmp .lt 4, [56], []), (.nop, [55], [])]
theorem kX1_traceFrom_44 : chL mX1_traceFrom 44 bX1_traceFrom_44 = true := by decide +kernel
def bX1_traceFrom_55 : List AI := [(.return_, [], [])]
theorem kX1_traceFrom_55 : chL mX1_traceFrom 55 bX1_traceFrom_55 = true := by decide +kernel
def bX1_traceFrom_56 : List AI := [(.aload_n 0, [], []), (.iload_n 3, [], []), (.iconst 1, [], []), (.iadd, [], []), (.putfield 31, [0, 1, 0, 400], []), (.aload_n 0, [], []), (.getfield 9, [2, 1, 1, 402], []), (.iconst 0, [], []), (.iload_n 2, [], []), (.iastore, [], []), (.iconst 1, [], []), (.istore 4, [], []), (.nop, [73], [])]
theorem kX1_traceFrom_56 : chL mX1_traceFrom 56 bX1_traceFrom_56 = true := by decide +kernel
def bX1_traceFrom_73 : List AI := [(.iload 4, [], []), (.aload_n 0, [], []), (.getfield 31, [0, 1, 0, 400], []), (.if_icmp .ge 37, [116], []), (.aload_n 0, [], []), (.getfield 9, [2, 1, 1, 402], []), (.iload 4, [], []), (.aload_n 0, [], []), (.iload_n 1, [], []), (.aload_n 0, [], []), (.getfield 9, [2, 1, 1, 402], []), (.iload 4, [], []), (.iconst 1, [], []), (.isub, [], []), (.iaload, [0], []), (.aload_n 0, [], []), (.getfield 31, [0, 1, 0, 400], []), (.iload 4, [], []), (.isub, [], []), (.invokevirtual 69, [0, 3, 0, 0, 1, 1033, 1030, 1032, 27, 98], [mX1_nextOn]), (.iastore, [], []), (.iinc 4 1, [], []), (.goto (-40), [73], [])]
theorem kX1_traceFrom_73 : chL mX1_traceFrom 73 bX1_traceFrom_73 = true := by decide +kernel
def bX1_traceFrom_116 : List AI := [(.return_, [], [])]
theorem kX1_traceFrom_116 : chL mX1_traceFrom 116 bX1_traceFrom_116 = true := by decide +kernel
def bX1_nextOn_0 : List AI := [(.iconst 0, [], []), (.istore 4, [], []), (.nop, [3], [])]
theorem kX1_nextOn_0 : chL mX1_nextOn 0 bX1_nextOn_0 = true := by decide +kernel
def bX1_nextOn_3 : List AI := [(.iload 4, [], []), (.iload_n 1, [], []), (.if_icmp .ge 37, [43], []), (.aload_n 0, [], []), (.getfield 15, [2, 1, 2, 404], []), (.iload_n 2, [], []), (.iaload, [0], []), (.iload 4, [], []), (.ishr, [], []), (.iconst 1, [], []), (.iand, [], []), (.ifCond .eq 17, [37], []), (.aload_n 0, [], []), (.getfield 18, [2, 1, 3, 405], []), (.iload 4, [], []), (.iaload, [0], []), (.iload_n 3, [], []), (.if_icmp .ne 6, [37], []), (.iload 4, [], []), (.ireturn, [0], [])]
theorem kX1_nextOn_3 : chL mX1_nextOn 3 bX1_nextOn_3 = true := by decide +kernel
def bX1_nextOn_37 : List AI := [(.iinc 4 1, [], []), (.goto (-37), [3], [])]
theorem kX1_nextOn_37 : chL mX1_nextOn 37 bX1_nextOn_37 = true := by decide +kernel
def bX1_nextOn_43 : List AI := [(.iconst 0, [], []), (.ireturn, [0], [])]
theorem kX1_nextOn_43 : chL mX1_nextOn 43 bX1_nextOn_43 = true := by decide +kernel
def bX1_clearRings_0 : List AI := [(.iconst 0, [], []), (.istore_n 2, [], []), (.iconst 0, [], []), (.istore_n 3, [], []), (.nop, [4], [])]
theorem kX1_clearRings_0 : chL mX1_clearRings 0 bX1_clearRings_0 = true := by decide +kernel
def bX1_clearRings_4 : List AI := [(.iload_n 3, [], []), (.bipush 100, [], []), (.if_icmp .ge 37, [44], []), (.aload_n 0, [], []), (.aload_n 1, [], []), (.invokevirtual 73, [0, 1, 0, 0, 1, 1014, 1042, 1012, 1013, 98], [mX1_findRing]), (.aload_n 0, [], []), (.getfield 31, [0, 1, 0, 400], []), (.ifCond .ne 6, [25], []), (.goto 22, [44], [])]
theorem kX1_clearRings_4 : chL mX1_clearRings 4 bX1_clearRings_4 = true := by decide +kernel
def bX1_clearRings_25 : List AI := [(.aload_n 0, [], []), (.aload_n 1, [], []), (.aload_n 0, [], []), (.aload_n 1, [], []), (.invokevirtual 76, [0, 1, 0, 0, 1, 1046, 1043, 1045, 28, 98], [mX1_leastDebt]), (.invokevirtual 80, [0, 2, 0, 0, 1, 1054, 1051, 1053, 30, 98], [mX1_takeOff]), (.iinc 2 1, [], []), (.iinc 3 1, [], []), (.goto (-37), [4], [])]
theorem kX1_clearRings_25 : chL mX1_clearRings 25 bX1_clearRings_25 = true := by decide +kernel
def bX1_clearRings_44 : List AI := [(.iload_n 2, [], []), (.ireturn, [0], [])]
theorem kX1_clearRings_44 : chL mX1_clearRings 44 bX1_clearRings_44 = true := by decide +kernel
def bX1_nextInChain_0 : List AI := [(.iload_n 1, [], []), (.iconst 1, [], []), (.iadd, [], []), (.aload_n 0, [], []), (.getfield 31, [0, 1, 0, 400], []), (.if_icmp .ge 14, [21], []), (.aload_n 0, [], []), (.getfield 9, [2, 1, 1, 402], []), (.iload_n 1, [], []), (.iconst 1, [], []), (.iadd, [], []), (.iaload, [0], []), (.goto 9, [27], [])]
theorem kX1_nextInChain_0 : chL mX1_nextInChain 0 bX1_nextInChain_0 = true := by decide +kernel
def bX1_nextInChain_21 : List AI := [(.aload_n 0, [], []), (.getfield 9, [2, 1, 1, 402], []), (.iconst 0, [], []), (.iaload, [0], []), (.nop, [27], [])]
theorem kX1_nextInChain_21 : chL mX1_nextInChain 21 bX1_nextInChain_21 = true := by decide +kernel
def bX1_nextInChain_27 : List AI := [(.ireturn, [0], [])]
theorem kX1_nextInChain_27 : chL mX1_nextInChain 27 bX1_nextInChain_27 = true := by decide +kernel
def bX1_leastDebt_0 : List AI := [(.aload_n 1, [], []), (.getfield 47, [2, 8, 6, 216], []), (.aload_n 0, [], []), (.getfield 9, [2, 1, 1, 402], []), (.iconst 0, [], []), (.iaload, [0], []), (.aaload, [0], []), (.getfield 51, [2, 2, 8, 164], []), (.aload_n 0, [], []), (.iconst 0, [], []), (.invokevirtual 84, [0, 1, 0, 0, 1, 1050, 1047, 1049, 29, 98], [mX1_nextInChain]), (.iaload, [0], []), (.istore_n 2, [], []), (.iconst 1, [], []), (.istore_n 3, [], []), (.nop, [23], [])]
theorem kX1_leastDebt_0 : chL mX1_leastDebt 0 bX1_leastDebt_0 = true := by decide +kernel
def bX1_leastDebt_23 : List AI := [(.iload_n 3, [], []), (.aload_n 0, [], []), (.getfield 31, [0, 1, 0, 400], []), (.if_icmp .ge 34, [62], []), (.iload_n 2, [], []), (.aload_n 1, [], []), (.getfield 47, [2, 8, 6, 216], []), (.aload_n 0, [], []), (.getfield 9, [2, 1, 1, 402], []), (.iload_n 3, [], []), (.iaload, [0], []), (.aaload, [0], []), (.getfield 51, [2, 2, 8, 164], []), (.aload_n 0, [], []), (.iload_n 3, [], []), (.invokevirtual 84, [0, 1, 0, 0, 1, 1050, 1047, 1049, 29, 98], [mX1_nextInChain]), (.iaload, [0], []), (.invokestatic 63, [4, 1029, 506, 101, 507], []), (.istore_n 2, [], []), (.iinc 3 1, [], []), (.goto (-36), [23], [])]
theorem kX1_leastDebt_23 : chL mX1_leastDebt 23 bX1_leastDebt_23 = true := by decide +kernel
def bX1_leastDebt_62 : List AI := [(.iload_n 2, [], []), (.ireturn, [0], [])]
theorem kX1_leastDebt_62 : chL mX1_leastDebt 62 bX1_leastDebt_62 = true := by decide +kernel
def bX1_takeOff_0 : List AI := [(.iconst 0, [], []), (.istore_n 3, [], []), (.nop, [2], [])]
theorem kX1_takeOff_0 : chL mX1_takeOff 0 bX1_takeOff_0 = true := by decide +kernel
def bX1_takeOff_2 : List AI := [(.iload_n 3, [], []), (.aload_n 0, [], []), (.getfield 31, [0, 1, 0, 400], []), (.if_icmp .ge 33, [40], []), (.aload_n 1, [], []), (.getfield 47, [2, 8, 6, 216], []), (.aload_n 0, [], []), (.getfield 9, [2, 1, 1, 402], []), (.iload_n 3, [], []), (.iaload, [0], []), (.aaload, [0], []), (.getfield 51, [2, 2, 8, 164], []), (.aload_n 0, [], []), (.iload_n 3, [], []), (.invokevirtual 84, [0, 1, 0, 0, 1, 1050, 1047, 1049, 29, 98], [mX1_nextInChain]), (.dup2, [0], []), (.iaload, [0], []), (.iload_n 2, [], []), (.isub, [], []), (.iastore, [], []), (.iinc 3 1, [], []), (.goto (-35), [2], [])]
theorem kX1_takeOff_2 : chL mX1_takeOff 2 bX1_takeOff_2 = true := by decide +kernel
def bX1_takeOff_40 : List AI := [(.return_, [], [])]
theorem kX1_takeOff_40 : chL mX1_takeOff 40 bX1_takeOff_40 = true := by decide +kernel
def bX1_fewestPayments_0 : List AI := [(.iconst 1, [], []), (.aload_n 1, [], []), (.getfield 35, [0, 8, 0, 189], []), (.ishl, [], []), (.iconst 1, [], []), (.isub, [], []), (.istore_n 2, [], []), (.aload_n 0, [], []), (.getfield 21, [2, 1, 4, 406], []), (.iconst 0, [], []), (.iconst 0, [], []), (.iastore, [], []), (.aload_n 0, [], []), (.getfield 24, [2, 1, 5, 407], []), (.iconst 0, [], []), (.iconst 0, [], []), (.iastore, [], []), (.iconst 0, [], []), (.istore_n 3, [], []), (.nop, [25], [])]
theorem kX1_fewestPayments_0 : chL mX1_fewestPayments 0 bX1_fewestPayments_0 = true := by decide +kernel
def bX1_fewestPayments_25 : List AI := [(.iload_n 3, [], []), (.aload_n 1, [], []), (.getfield 35, [0, 8, 0, 189], []), (.if_icmp .ge 80, [110], []), (.iconst 1, [], []), (.iload_n 3, [], []), (.ishl, [], []), (.istore 4, [], []), (.aload_n 1, [], []), (.iload_n 3, [], []), (.invokevirtual 88, [0, 1, 0, 0, 8, 656, 1063, 654, 655, 91], [mX8_balance]), (.istore 5, [], []), (.iconst 0, [], []), (.istore 6, [], []), (.nop, [48], [])]
theorem kX1_fewestPayments_25 : chL mX1_fewestPayments 25 bX1_fewestPayments_25 = true := by decide +kernel
def bX1_fewestPayments_48 : List AI := [(.iload 6, [], []), (.iload 4, [], []), (.if_icmp .ge 52, [104], []), (.aload_n 0, [], []), (.getfield 21, [2, 1, 4, 406], []), (.iload 4, [], []), (.iload 6, [], []), (.iadd, [], []), (.aload_n 0, [], []), (.getfield 21, [2, 1, 4, 406], []), (.iload 6, [], []), (.iaload, [0], []), (.iload 5, [], []), (.iadd, [], []), (.iastore, [], []), (.aload_n 0, [], []), (.getfield 24, [2, 1, 5, 407], []), (.iload 4, [], []), (.iload 6, [], []), (.iadd, [], []), (.aload_n 0, [], []), (.aload_n 1, [], []), (.getfield 35, [0, 8, 0, 189], []), (.iload 4, [], []), (.iload 6, [], []), (.iadd, [], []), (.invokevirtual 91, [0, 2, 0, 0, 1, 1067, 1064, 1066, 31, 98], [mX1_mostParts]), (.iastore, [], []), (.iinc 6 1, [], []), (.goto (-53), [48], [])]
theorem kX1_fewestPayments_48 : chL mX1_fewestPayments 48 bX1_fewestPayments_48 = true := by decide +kernel
def bX1_fewestPayments_104 : List AI := [(.iinc 3 1, [], []), (.goto (-82), [25], [])]
theorem kX1_fewestPayments_104 : chL mX1_fewestPayments 104 bX1_fewestPayments_104 = true := by decide +kernel
def bX1_fewestPayments_110 : List AI := [(.aload_n 1, [], []), (.getfield 35, [0, 8, 0, 189], []), (.aload_n 0, [], []), (.getfield 24, [2, 1, 5, 407], []), (.iload_n 2, [], []), (.iaload, [0], []), (.isub, [], []), (.ireturn, [0], [])]
theorem kX1_fewestPayments_110 : chL mX1_fewestPayments 110 bX1_fewestPayments_110 = true := by decide +kernel
def bX1_mostParts_0 : List AI := [(.iconst 0, [], []), (.istore_n 3, [], []), (.iconst 0, [], []), (.istore 4, [], []), (.nop, [5], [])]
theorem kX1_mostParts_0 : chL mX1_mostParts 0 bX1_mostParts_0 = true := by decide +kernel
def bX1_mostParts_5 : List AI := [(.iload 4, [], []), (.iload_n 1, [], []), (.if_icmp .ge 36, [44], []), (.iload_n 2, [], []), (.iload 4, [], []), (.ishr, [], []), (.iconst 1, [], []), (.iand, [], []), (.ifCond .eq 21, [38], []), (.iload_n 3, [], []), (.aload_n 0, [], []), (.getfield 24, [2, 1, 5, 407], []), (.iload_n 2, [], []), (.iconst 1, [], []), (.iload 4, [], []), (.ishl, [], []), (.iconst (-1), [], []), (.ixor, [], []), (.iand, [], []), (.iaload, [0], []), (.invokestatic 94, [5, 1068, 509, 101, 510], []), (.istore_n 3, [], []), (.nop, [38], [])]
theorem kX1_mostParts_5 : chL mX1_mostParts 5 bX1_mostParts_5 = true := by decide +kernel
def bX1_mostParts_38 : List AI := [(.iinc 4 1, [], []), (.goto (-36), [5], [])]
theorem kX1_mostParts_38 : chL mX1_mostParts 38 bX1_mostParts_38 = true := by decide +kernel
def bX1_mostParts_44 : List AI := [(.aload_n 0, [], []), (.getfield 21, [2, 1, 4, 406], []), (.iload_n 2, [], []), (.iaload, [0], []), (.ifCond .ne 9, [59], []), (.iload_n 3, [], []), (.iconst 1, [], []), (.iadd, [], []), (.goto 4, [60], [])]
theorem kX1_mostParts_44 : chL mX1_mostParts 44 bX1_mostParts_44 = true := by decide +kernel
def bX1_mostParts_59 : List AI := [(.iload_n 3, [], []), (.nop, [60], [])]
theorem kX1_mostParts_59 : chL mX1_mostParts 59 bX1_mostParts_59 = true := by decide +kernel
def bX1_mostParts_60 : List AI := [(.ireturn, [0], [])]
theorem kX1_mostParts_60 : chL mX1_mostParts 60 bX1_mostParts_60 = true := by decide +kernel
def bX4_init_0 : List AI := [(.aload_n 0, [], []), (.invokespecial 3, [2, 426, 115, 116], []), (.aload_n 0, [], []), (.bipush 7, [], []), (.newarray .int, [1, 186], []), (.putfield 9, [2, 4, 0, 429], []), (.aload_n 0, [], []), (.bipush 7, [], []), (.newarray .int, [1, 186], []), (.putfield 15, [2, 4, 1, 431], []), (.aload_n 0, [], []), (.bipush 8, [], []), (.anewarray 18, [5, 2, 427, 124], []), (.putfield 20, [2, 4, 2, 432], []), (.iconst 0, [], []), (.istore_n 1, [], []), (.nop, [31], [])]
theorem kX4_init_0 : chL mX4_init 0 bX4_init_0 = true := by decide +kernel
def bX4_init_31 : List AI := [(.iload_n 1, [], []), (.bipush 7, [], []), (.if_icmp .gt 22, [56], []), (.aload_n 0, [], []), (.getfield 20, [2, 4, 2, 432], []), (.iload_n 1, [], []), (.new 18, [2, 427, 125, 92], []), (.dup, [], []), (.invokespecial 24, [1, 0, 2, 15, 128, 7, 127, 92], [mX2_init]), (.aastore, [0], []), (.iinc 1 1, [], []), (.goto (-22), [31], [])]
theorem kX4_init_31 : chL mX4_init 31 bX4_init_31 = true := by decide +kernel
def bX4_init_56 : List AI := [(.return_, [], [])]
theorem kX4_init_56 : chL mX4_init 56 bX4_init_56 = true := by decide +kernel
def bX4_look_0 : List AI := [(.aload_n 0, [], []), (.iconst 0, [], []), (.iload_n 2, [], []), (.bipush 7, [], []), (.invokestatic 25, [4, 1077, 506, 101, 507], []), (.invokestatic 31, [5, 1078, 509, 101, 510], []), (.putfield 34, [0, 4, 3, 433], []), (.aload_n 0, [], []), (.aload_n 1, [], []), (.getfield 38, [0, 8, 2, 201], []), (.putfield 43, [0, 4, 4, 434], []), (.aload_n 0, [], []), (.aload_n 1, [], []), (.getfield 44, [2, 8, 7, 222], []), (.iconst 0, [], []), (.iaload, [0], []), (.putfield 47, [0, 4, 5, 435], []), (.aload_n 0, [], []), (.iload_n 3, [], []), (.putfield 50, [3, 4, 6, 436], []), (.aload_n 0, [], []), (.ldc2_w 54, [4611686018427387904, 1079], []), (.putfield 56, [1, 4, 7, 437], []), (.aload_n 0, [], []), (.aload_n 1, [], []), (.invokevirtual 60, [0, 1, 0, 0, 4, 1083, 1080, 1082, 32, 99], [mX4_gather]), (.aload_n 0, [], []), (.iconst 0, [], []), (.lconst 0, [], []), (.invokevirtual 64, [0, 2, 0, 0, 4, 1088, 1085, 1087, 33, 99], [mX4_search]), (.return_, [], [])]
theorem kX4_look_0 : chL mX4_look 0 bX4_look_0 = true := by decide +kernel
def bX4_leastHunger_0 : List AI := [(.aload_n 0, [], []), (.getfield 56, [1, 4, 7, 437], []), (.bipush 40, [], []), (.lshr, [], []), (.l2i, [], []), (.ireturn, [0], [])]
theorem kX4_leastHunger_0 : chL mX4_leastHunger 0 bX4_leastHunger_0 = true := by decide +kernel
def bX4_leastStale_0 : List AI := [(.aload_n 0, [], []), (.getfield 56, [1, 4, 7, 437], []), (.bipush 40, [], []), (.lshr, [], []), (.bipush 40, [], []), (.lshl, [], []), (.lstore_n 1, [], []), (.aload_n 0, [], []), (.getfield 56, [1, 4, 7, 437], []), (.lload_n 1, [], []), (.lsub, [], []), (.iconst 4, [], []), (.lshr, [], []), (.l2i, [], []), (.ireturn, [0], [])]
theorem kX4_leastStale_0 : chL mX4_leastStale 0 bX4_leastStale_0 = true := by decide +kernel
def bX4_fewestFires_0 : List AI := [(.aload_n 0, [], []), (.getfield 56, [1, 4, 7, 437], []), (.ldc2_w 68, [15, 1108], []), (.land, [], []), (.l2i, [], []), (.ireturn, [0], [])]
theorem kX4_fewestFires_0 : chL mX4_fewestFires 0 bX4_fewestFires_0 = true := by decide +kernel
def bX4_gather_0 : List AI := [(.aload_n 0, [], []), (.getfield 20, [2, 4, 2, 432], []), (.iconst 0, [], []), (.aaload, [0], []), (.astore_n 2, [], []), (.aload_n 2, [], []), (.iconst 0, [], []), (.putfield 70, [0, 2, 0, 133], []), (.aload_n 2, [], []), (.getfield 73, [2, 2, 7, 160], []), (.iconst 0, [], []), (.invokestatic 76, [0, 2, 0, 0, 597, 1084, 596, 106], [mJ7_fill_53178]), (.iconst 0, [], []), (.istore_n 3, [], []), (.nop, [22], [])]
theorem kX4_gather_0 : chL mX4_gather 0 bX4_gather_0 = true := by decide +kernel
def bX4_gather_22 : List AI := [(.iload_n 3, [], []), (.aload_n 1, [], []), (.getfield 82, [0, 8, 0, 192], []), (.if_icmp .ge 64, [91], []), (.aload_n 2, [], []), (.dup, [], []), (.getfield 70, [0, 2, 0, 133], []), (.aload_n 1, [], []), (.getfield 85, [2, 8, 6, 219], []), (.iload_n 3, [], []), (.aaload, [0], []), (.getfield 70, [0, 2, 0, 133], []), (.iadd, [], []), (.putfield 70, [0, 2, 0, 133], []), (.iconst 0, [], []), (.istore 4, [], []), (.nop, [51], [])]
theorem kX4_gather_22 : chL mX4_gather 22 bX4_gather_22 = true := by decide +kernel
def bX4_gather_51 : List AI := [(.iload 4, [], []), (.iconst 5, [], []), (.if_icmp .ge 31, [85], []), (.aload_n 2, [], []), (.getfield 73, [2, 2, 7, 160], []), (.iload 4, [], []), (.dup2, [0], []), (.iaload, [0], []), (.aload_n 1, [], []), (.getfield 85, [2, 8, 6, 219], []), (.iload_n 3, [], []), (.aaload, [0], []), (.getfield 73, [2, 2, 7, 160], []), (.iload 4, [], []), (.iaload, [0], []), (.iadd, [], []), (.iastore, [], []), (.iinc 4 1, [], []), (.goto (-31), [51], [])]
theorem kX4_gather_51 : chL mX4_gather 51 bX4_gather_51 = true := by decide +kernel
def bX4_gather_85 : List AI := [(.iinc 3 1, [], []), (.goto (-66), [22], [])]
theorem kX4_gather_85 : chL mX4_gather 85 bX4_gather_85 = true := by decide +kernel
def bX4_gather_91 : List AI := [(.return_, [], [])]
theorem kX4_gather_91 : chL mX4_gather 91 bX4_gather_91 = true := by decide +kernel
def bX4_search_0 : List AI := [(.lload_n 2, [], []), (.aload_n 0, [], []), (.getfield 56, [1, 4, 7, 437], []), (.lcmp, [], []), (.ifCond .lt 4, [10], []), (.return_, [], [])]
theorem kX4_search_0 : chL mX4_search 0 bX4_search_0 = true := by decide +kernel
def bX4_search_10 : List AI := [(.iload_n 1, [], []), (.aload_n 0, [], []), (.getfield 34, [0, 4, 3, 433], []), (.if_icmp .ge 9, [24], []), (.iload_n 1, [], []), (.bipush 7, [], []), (.if_icmp .lt 24, [45], []), (.nop, [24], [])]
theorem kX4_search_10 : chL mX4_search 10 bX4_search_10 = true := by decide +kernel
def bX4_search_24 : List AI := [(.aload_n 0, [], []), (.lload_n 2, [], []), (.putfield 56, [1, 4, 7, 437], []), (.aload_n 0, [], []), (.getfield 15, [2, 4, 1, 431], []), (.iconst 0, [], []), (.aload_n 0, [], []), (.getfield 9, [2, 4, 0, 429], []), (.iconst 0, [], []), (.bipush 7, [], []), (.invokestatic 88, [1, 1089, 631, 630, 107], []), (.return_, [], [])]
theorem kX4_search_24 : chL mX4_search 24 bX4_search_24 = true := by decide +kernel
def bX4_search_45 : List AI := [(.iconst 0, [], []), (.istore 4, [], []), (.nop, [48], [])]
theorem kX4_search_45 : chL mX4_search 45 bX4_search_45 = true := by decide +kernel
def bX4_search_48 : List AI := [(.iload 4, [], []), (.iconst 2, [], []), (.if_icmp .gt 33, [84], []), (.aload_n 0, [], []), (.getfield 15, [2, 4, 1, 431], []), (.iload_n 1, [], []), (.iload 4, [], []), (.iastore, [], []), (.aload_n 0, [], []), (.iload_n 1, [], []), (.iconst 1, [], []), (.iadd, [], []), (.lload_n 2, [], []), (.aload_n 0, [], []), (.iload_n 1, [], []), (.iload 4, [], []), (.invokevirtual 94, [0, 2, 0, 0, 4, 1093, 1090, 1092, 34, 99], [mX4_scoreOfDay]), (.ladd, [], []), (.invokevirtual 64, [0, 2, 0, 0, 4, 1088, 1085, 1087, 33, 99], [mX4_search]), (.iinc 4 1, [], []), (.goto (-33), [48], [])]
theorem kX4_search_48 : chL mX4_search 48 bX4_search_48 = true := by decide +kernel
def bX4_search_84 : List AI := [(.return_, [], [])]
theorem kX4_search_84 : chL mX4_search 84 bX4_search_84 = true := by decide +kernel
def bX4_scoreOfDay_0 : List AI := [(.aload_n 0, [], []), (.getfield 20, [2, 4, 2, 432], []), (.iload_n 1, [], []), (.iconst 1, [], []), (.iadd, [], []), (.aaload, [0], []), (.astore_n 3, [], []), (.aload_n 3, [], []), (.aload_n 0, [], []), (.getfield 20, [2, 4, 2, 432], []), (.iload_n 1, [], []), (.aaload, [0], []), (.getfield 70, [0, 2, 0, 133], []), (.putfield 70, [0, 2, 0, 133], []), (.aload_n 0, [], []), (.getfield 20, [2, 4, 2, 432], []), (.iload_n 1, [], []), (.aaload, [0], []), (.getfield 73, [2, 2, 7, 160], []), (.iconst 0, [], []), (.aload_n 3, [], []), (.getfield 73, [2, 2, 7, 160], []), (.iconst 0, [], []), (.iconst 5, [], []), (.invokestatic 88, [1, 1089, 631, 630, 107], []), (.aload_n 3, [], []), (.getfield 73, [2, 2, 7, 160], []), (.iconst 0, [], []), (.dup2, [0], []), (.iaload, [0], []), (.iload_n 2, [], []), (.aload_n 0, [], []), (.getfield 47, [0, 4, 5, 435], []), (.imul, [], []), (.iadd, [], []), (.iastore, [], []), (.aload_n 3, [], []), (.invokevirtual 98, [0, 0, 0, 0, 2, 765, 1094, 763, 764, 92], [mX2_eat]), (.i2l, [], []), (.lstore 4, [], []), (.aload_n 3, [], []), (.aload_n 0, [], []), (.getfield 43, [0, 4, 4, 434], []), (.invokevirtual 102, [0, 1, 0, 0, 2, 770, 1095, 768, 769, 92], [mX2_ageBread]), (.i2l, [], []), (.lstore 6, [], []), (.lload 4, [], []), (.bipush 40, [], []), (.lshl, [], []), (.aload_n 0, [], []), (.getfield 50, [0, 4, 6, 436], []), (.ifCond .eq 10, [93], []), (.lload 6, [], []), (.iconst 4, [], []), (.lshl, [], []), (.goto 4, [94], [])]
theorem kX4_scoreOfDay_0 : chL mX4_scoreOfDay 0 bX4_scoreOfDay_0 = true := by decide +kernel
def bX4_scoreOfDay_93 : List AI := [(.lconst 0, [], []), (.nop, [94], [])]
theorem kX4_scoreOfDay_93 : chL mX4_scoreOfDay 93 bX4_scoreOfDay_93 = true := by decide +kernel
def bX4_scoreOfDay_94 : List AI := [(.ladd, [], []), (.iload_n 2, [], []), (.i2l, [], []), (.ladd, [], []), (.lreturn, [], [])]
theorem kX4_scoreOfDay_94 : chL mX4_scoreOfDay 94 bX4_scoreOfDay_94 = true := by decide +kernel
def bX5_init_0 : List AI := [(.aload_n 0, [], []), (.invokespecial 3, [2, 276, 115, 116], []), (.aload_n 0, [], []), (.iconst (-1), [], []), (.putfield 9, [0, 5, 2, 281], []), (.aload_n 0, [], []), (.sipush 900, [], []), (.newarray .byte, [3, 308], []), (.putfield 15, [2, 5, 3, 283], []), (.return_, [], [])]
theorem kX5_init_0 : chL mX5_init 0 bX5_init_0 = true := by decide +kernel
def bX5_putBytes_0 : List AI := [(.bipush 24, [], []), (.istore_n 2, [], []), (.nop, [3], [])]
theorem kX5_putBytes_0 : chL mX5_putBytes 0 bX5_putBytes_0 = true := by decide +kernel
def bX5_putBytes_3 : List AI := [(.iload_n 2, [], []), (.ifCond .lt 42, [46], []), (.aload_n 0, [], []), (.getfield 19, [0, 5, 0, 278], []), (.sipush 900, [], []), (.if_icmp .ge 32, [46], []), (.aload_n 0, [], []), (.getfield 15, [2, 5, 3, 283], []), (.aload_n 0, [], []), (.getfield 19, [0, 5, 0, 278], []), (.iload_n 1, [], []), (.iload_n 2, [], []), (.ishr, [], []), (.i2b, [], []), (.bastore, [3], []), (.aload_n 0, [], []), (.dup, [], []), (.getfield 19, [0, 5, 0, 278], []), (.iconst 1, [], []), (.iadd, [], []), (.putfield 19, [0, 5, 0, 278], []), (.iinc 2 (-8), [], []), (.goto (-40), [3], [])]
theorem kX5_putBytes_3 : chL mX5_putBytes 3 bX5_putBytes_3 = true := by decide +kernel
def bX5_putBytes_46 : List AI := [(.return_, [], [])]
theorem kX5_putBytes_46 : chL mX5_putBytes 46 bX5_putBytes_46 = true := by decide +kernel
def bX5_read_0 : List AI := [(.aload_n 0, [], []), (.iconst 0, [], []), (.iload_n 1, [], []), (.aload_n 0, [], []), (.getfield 19, [0, 5, 0, 278], []), (.invokestatic 22, [4, 505, 506, 101, 507], []), (.invokestatic 28, [5, 508, 509, 101, 510], []), (.putfield 31, [0, 5, 4, 284], []), (.aload_n 0, [], []), (.iconst 0, [], []), (.putfield 19, [0, 5, 0, 278], []), (.aload_n 0, [], []), (.iconst 0, [], []), (.putfield 34, [0, 5, 1, 279], []), (.aload_n 0, [], []), (.iconst (-1), [], []), (.putfield 9, [0, 5, 2, 281], []), (.aload_n 0, [], []), (.iconst 0, [], []), (.putfield 37, [0, 5, 8, 288], []), (.aload_n 2, [], []), (.invokevirtual 40, [0, 0, 0, 0, 8, 514, 511, 512, 513, 91], [mX8_reset]), (.aload_n 0, [], []), (.invokevirtual 45, [0, 0, 0, 0, 5, 518, 515, 517, 0, 94], [mX5_advance]), (.iconst 0, [], []), (.istore_n 3, [], []), (.nop, [46], [])]
theorem kX5_read_0 : chL mX5_read 0 bX5_read_0 = true := by decide +kernel
def bX5_read_46 : List AI := [(.iload_n 3, [], []), (.aload_n 0, [], []), (.getfield 31, [0, 5, 4, 284], []), (.if_icmp .gt 38, [89], []), (.aload_n 0, [], []), (.getfield 48, [0, 5, 5, 285], []), (.ifCond .eq 31, [89], []), (.aload_n 0, [], []), (.getfield 34, [0, 5, 1, 279], []), (.ifCond .ne 24, [89], []), (.aload_n 0, [], []), (.aload_n 2, [], []), (.invokevirtual 51, [0, 1, 0, 0, 5, 529, 526, 528, 2, 94], [mX5_readLine]), (.aload_n 2, [], []), (.dup, [], []), (.getfield 55, [0, 8, 5, 212], []), (.iconst 1, [], []), (.iadd, [], []), (.putfield 55, [0, 8, 5, 212], []), (.iinc 3 1, [], []), (.goto (-40), [46], [])]
theorem kX5_read_46 : chL mX5_read 46 bX5_read_46 = true := by decide +kernel
def bX5_read_89 : List AI := [(.return_, [], [])]
theorem kX5_read_89 : chL mX5_read 89 bX5_read_89 = true := by decide +kernel
def bX5_readLine_0 : List AI := [(.aload_n 0, [], []), (.ldc 58, [1, 0], []), (.invokevirtual 60, [0, 1, 0, 0, 5, 534, 531, 533, 3, 94], [mX5_isWord]), (.ifCond .eq 11, [17], []), (.aload_n 0, [], []), (.aload_n 1, [], []), (.invokevirtual 64, [0, 1, 0, 0, 5, 586, 583, 585, 4, 94], [mX5_readFamily]), (.goto 87, [101], [])]
theorem kX5_readLine_0 : chL mX5_readLine 0 bX5_readLine_0 = true := by decide +kernel
def bX5_readLine_17 : List AI := [(.aload_n 0, [], []), (.ldc 67, [1, 4], []), (.invokevirtual 60, [0, 1, 0, 0, 5, 534, 531, 533, 3, 94], [mX5_isWord]), (.ifCond .eq 11, [34], []), (.aload_n 0, [], []), (.aload_n 1, [], []), (.invokevirtual 69, [0, 1, 0, 0, 5, 613, 610, 612, 8, 94], [mX5_readOven]), (.goto 70, [101], [])]
theorem kX5_readLine_17 : chL mX5_readLine 17 bX5_readLine_17 = true := by decide +kernel
def bX5_readLine_34 : List AI := [(.aload_n 0, [], []), (.ldc 72, [1, 5], []), (.invokevirtual 60, [0, 1, 0, 0, 5, 534, 531, 533, 3, 94], [mX5_isWord]), (.ifCond .eq 11, [51], []), (.aload_n 0, [], []), (.aload_n 1, [], []), (.invokevirtual 74, [0, 1, 0, 0, 5, 618, 615, 617, 9, 94], [mX5_readQuarrel]), (.goto 53, [101], [])]
theorem kX5_readLine_34 : chL mX5_readLine 34 bX5_readLine_34 = true := by decide +kernel
def bX5_readLine_51 : List AI := [(.aload_n 0, [], []), (.ldc 77, [1, 6], []), (.invokevirtual 60, [0, 1, 0, 0, 5, 534, 531, 533, 3, 94], [mX5_isWord]), (.ifCond .eq 11, [68], []), (.aload_n 0, [], []), (.aload_n 1, [], []), (.invokevirtual 79, [0, 1, 0, 0, 5, 623, 620, 622, 10, 94], [mX5_readKeep]), (.goto 36, [101], [])]
theorem kX5_readLine_51 : chL mX5_readLine 51 bX5_readLine_51 = true := by decide +kernel
def bX5_readLine_68 : List AI := [(.aload_n 0, [], []), (.ldc 82, [1, 7], []), (.invokevirtual 60, [0, 1, 0, 0, 5, 534, 531, 533, 3, 94], [mX5_isWord]), (.ifCond .eq 22, [96], []), (.aload_n 0, [], []), (.invokevirtual 45, [0, 0, 0, 0, 5, 518, 515, 517, 0, 94], [mX5_advance]), (.aload_n 1, [], []), (.aload_n 0, [], []), (.iconst 0, [], []), (.sipush 999, [], []), (.invokevirtual 84, [0, 2, 0, 0, 5, 601, 598, 600, 6, 94], [mX5_readNumber]), (.putfield 87, [0, 8, 3, 205], []), (.goto 8, [101], [])]
theorem kX5_readLine_68 : chL mX5_readLine 68 bX5_readLine_68 = true := by decide +kernel
def bX5_readLine_96 : List AI := [(.aload_n 0, [], []), (.iconst 2, [], []), (.invokevirtual 89, [0, 1, 0, 0, 5, 590, 587, 589, 5, 94], [mX5_blame]), (.nop, [101], [])]
theorem kX5_readLine_96 : chL mX5_readLine 96 bX5_readLine_96 = true := by decide +kernel
def bX5_readLine_101 : List AI := [(.aload_n 0, [], []), (.getfield 48, [0, 5, 5, 285], []), (.iconst 4, [], []), (.if_icmp .ne 10, [116], []), (.aload_n 0, [], []), (.invokevirtual 45, [0, 0, 0, 0, 5, 518, 515, 517, 0, 94], [mX5_advance]), (.goto 8, [121], [])]
theorem kX5_readLine_101 : chL mX5_readLine 101 bX5_readLine_101 = true := by decide +kernel
def bX5_readLine_116 : List AI := [(.aload_n 0, [], []), (.iconst 2, [], []), (.invokevirtual 89, [0, 1, 0, 0, 5, 590, 587, 589, 5, 94], [mX5_blame]), (.nop, [121], [])]
theorem kX5_readLine_116 : chL mX5_readLine 116 bX5_readLine_116 = true := by decide +kernel
def bX5_readLine_121 : List AI := [(.return_, [], [])]
theorem kX5_readLine_121 : chL mX5_readLine 121 bX5_readLine_121 = true := by decide +kernel
def bX5_readFamily_0 : List AI := [(.aload_n 1, [], []), (.getfield 93, [0, 8, 0, 191], []), (.bipush 10, [], []), (.if_icmp .lt 9, [15], []), (.aload_n 0, [], []), (.iconst 4, [], []), (.invokevirtual 89, [0, 1, 0, 0, 5, 590, 587, 589, 5, 94], [mX5_blame]), (.return_, [], [])]
theorem kX5_readFamily_0 : chL mX5_readFamily 0 bX5_readFamily_0 = true := by decide +kernel
def bX5_readFamily_15 : List AI := [(.aload_n 1, [], []), (.getfield 96, [2, 8, 6, 217], []), (.aload_n 1, [], []), (.getfield 93, [0, 8, 0, 191], []), (.aaload, [0], []), (.astore_n 2, [], []), (.aload_n 1, [], []), (.dup, [], []), (.getfield 93, [0, 8, 0, 191], []), (.iconst 1, [], []), (.iadd, [], []), (.putfield 93, [0, 8, 0, 191], []), (.aload_n 2, [], []), (.invokevirtual 100, [0, 0, 0, 0, 2, 594, 591, 592, 593, 92], [mX2_reset]), (.aload_n 0, [], []), (.invokevirtual 45, [0, 0, 0, 0, 5, 518, 515, 517, 0, 94], [mX5_advance]), (.aload_n 2, [], []), (.aload_n 0, [], []), (.iconst 0, [], []), (.bipush 30, [], []), (.invokevirtual 84, [0, 2, 0, 0, 5, 601, 598, 600, 6, 94], [mX5_readNumber]), (.putfield 103, [0, 2, 0, 131], []), (.aload_n 0, [], []), (.ldc 106, [1, 1], []), (.invokevirtual 60, [0, 1, 0, 0, 5, 534, 531, 533, 3, 94], [mX5_isWord]), (.ifCond .eq 19, [79], []), (.aload_n 0, [], []), (.invokevirtual 45, [0, 0, 0, 0, 5, 518, 515, 517, 0, 94], [mX5_advance]), (.aload_n 2, [], []), (.aload_n 0, [], []), (.iconst 0, [], []), (.sipush 999, [], []), (.invokevirtual 84, [0, 2, 0, 0, 5, 601, 598, 600, 6, 94], [mX5_readNumber]), (.putfield 108, [0, 2, 1, 135], []), (.nop, [79], [])]
theorem kX5_readFamily_15 : chL mX5_readFamily 15 bX5_readFamily_15 = true := by decide +kernel
def bX5_readFamily_79 : List AI := [(.aload_n 0, [], []), (.ldc 110, [1, 2], []), (.invokevirtual 60, [0, 1, 0, 0, 5, 534, 531, 533, 3, 94], [mX5_isWord]), (.ifCond .eq 16, [101], []), (.aload_n 0, [], []), (.invokevirtual 45, [0, 0, 0, 0, 5, 518, 515, 517, 0, 94], [mX5_advance]), (.aload_n 0, [], []), (.aload_n 2, [], []), (.aload_n 1, [], []), (.getfield 112, [0, 8, 2, 202], []), (.invokevirtual 114, [0, 2, 0, 0, 5, 607, 604, 606, 7, 94], [mX5_readBread]), (.nop, [101], [])]
theorem kX5_readFamily_79 : chL mX5_readFamily 79 bX5_readFamily_79 = true := by decide +kernel
def bX5_readFamily_101 : List AI := [(.aload_n 0, [], []), (.ldc 118, [1, 3], []), (.invokevirtual 60, [0, 1, 0, 0, 5, 534, 531, 533, 3, 94], [mX5_isWord]), (.ifCond .eq 18, [125], []), (.aload_n 0, [], []), (.invokevirtual 45, [0, 0, 0, 0, 5, 518, 515, 517, 0, 94], [mX5_advance]), (.aload_n 2, [], []), (.aload_n 0, [], []), (.iconst 0, [], []), (.bipush 99, [], []), (.invokevirtual 84, [0, 2, 0, 0, 5, 601, 598, 600, 6, 94], [mX5_readNumber]), (.putfield 120, [0, 2, 2, 142], []), (.nop, [125], [])]
theorem kX5_readFamily_101 : chL mX5_readFamily 101 bX5_readFamily_101 = true := by decide +kernel
def bX5_readFamily_125 : List AI := [(.return_, [], [])]
theorem kX5_readFamily_125 : chL mX5_readFamily 125 bX5_readFamily_125 = true := by decide +kernel
def bX5_readBread_0 : List AI := [(.aload_n 1, [], []), (.getfield 122, [2, 2, 7, 159], []), (.iconst 0, [], []), (.aload_n 0, [], []), (.iconst 0, [], []), (.bipush 99, [], []), (.invokevirtual 84, [0, 2, 0, 0, 5, 601, 598, 600, 6, 94], [mX5_readNumber]), (.iastore, [], []), (.iconst 1, [], []), (.istore_n 3, [], []), (.nop, [15], [])]
theorem kX5_readBread_0 : chL mX5_readBread 0 bX5_readBread_0 = true := by decide +kernel
def bX5_readBread_15 : List AI := [(.iload_n 3, [], []), (.aload_n 0, [], []), (.getfield 31, [0, 5, 4, 284], []), (.if_icmp .ge 82, [102], []), (.aload_n 0, [], []), (.getfield 48, [0, 5, 5, 285], []), (.iconst 3, [], []), (.if_icmp .ne 74, [102], []), (.aload_n 0, [], []), (.getfield 34, [0, 5, 1, 279], []), (.ifCond .ne 67, [102], []), (.iload_n 3, [], []), (.iload_n 2, [], []), (.if_icmp .ge 12, [52], []), (.iload_n 3, [], []), (.iconst 5, [], []), (.if_icmp .ge 7, [52], []), (.iconst 1, [], []), (.goto 4, [53], [])]
theorem kX5_readBread_15 : chL mX5_readBread 15 bX5_readBread_15 = true := by decide +kernel
def bX5_readBread_52 : List AI := [(.iconst 0, [], []), (.nop, [53], [])]
theorem kX5_readBread_52 : chL mX5_readBread 52 bX5_readBread_52 = true := by decide +kernel
def bX5_readBread_53 : List AI := [(.istore 4, [], []), (.iload 4, [], []), (.ifCond .ne 17, [74], []), (.aload_n 0, [], []), (.getfield 125, [0, 5, 6, 286], []), (.bipush 99, [], []), (.if_icmp .gt 8, [74], []), (.aload_n 0, [], []), (.iconst 4, [], []), (.invokevirtual 89, [0, 1, 0, 0, 5, 590, 587, 589, 5, 94], [mX5_blame]), (.nop, [74], [])]
theorem kX5_readBread_53 : chL mX5_readBread 53 bX5_readBread_53 = true := by decide +kernel
def bX5_readBread_74 : List AI := [(.aload_n 0, [], []), (.iconst 0, [], []), (.bipush 99, [], []), (.invokevirtual 84, [0, 2, 0, 0, 5, 601, 598, 600, 6, 94], [mX5_readNumber]), (.istore 5, [], []), (.iload 4, [], []), (.ifCond .eq 11, [96], []), (.aload_n 1, [], []), (.getfield 122, [2, 2, 7, 159], []), (.iload_n 3, [], []), (.iload 5, [], []), (.iastore, [], []), (.nop, [96], [])]
theorem kX5_readBread_74 : chL mX5_readBread 74 bX5_readBread_74 = true := by decide +kernel
def bX5_readBread_96 : List AI := [(.iinc 3 1, [], []), (.goto (-84), [15], [])]
theorem kX5_readBread_96 : chL mX5_readBread 96 bX5_readBread_96 = true := by decide +kernel
def bX5_readBread_102 : List AI := [(.return_, [], [])]
theorem kX5_readBread_102 : chL mX5_readBread 102 bX5_readBread_102 = true := by decide +kernel
def bX5_readOven_0 : List AI := [(.aload_n 1, [], []), (.getfield 128, [0, 8, 1, 198], []), (.iconst 3, [], []), (.if_icmp .lt 9, [14], []), (.aload_n 0, [], []), (.iconst 4, [], []), (.invokevirtual 89, [0, 1, 0, 0, 5, 590, 587, 589, 5, 94], [mX5_blame]), (.return_, [], [])]
theorem kX5_readOven_0 : chL mX5_readOven 0 bX5_readOven_0 = true := by decide +kernel
def bX5_readOven_14 : List AI := [(.aload_n 0, [], []), (.invokevirtual 45, [0, 0, 0, 0, 5, 518, 515, 517, 0, 94], [mX5_advance]), (.aload_n 1, [], []), (.getfield 131, [2, 8, 7, 226], []), (.aload_n 1, [], []), (.getfield 128, [0, 8, 1, 198], []), (.aload_n 0, [], []), (.iconst 1, [], []), (.bipush 60, [], []), (.invokevirtual 84, [0, 2, 0, 0, 5, 601, 598, 600, 6, 94], [mX5_readNumber]), (.iastore, [], []), (.aload_n 1, [], []), (.dup, [], []), (.getfield 128, [0, 8, 1, 198], []), (.iconst 1, [], []), (.iadd, [], []), (.putfield 128, [0, 8, 1, 198], []), (.return_, [], [])]
theorem kX5_readOven_14 : chL mX5_readOven 14 bX5_readOven_14 = true := by decide +kernel
def bX5_readQuarrel_0 : List AI := [(.aload_n 0, [], []), (.invokevirtual 45, [0, 0, 0, 0, 5, 518, 515, 517, 0, 94], [mX5_advance]), (.aload_n 0, [], []), (.iconst 0, [], []), (.aload_n 1, [], []), (.getfield 93, [0, 8, 0, 191], []), (.iconst 1, [], []), (.isub, [], []), (.invokevirtual 84, [0, 2, 0, 0, 5, 601, 598, 600, 6, 94], [mX5_readNumber]), (.istore_n 2, [], []), (.aload_n 0, [], []), (.getfield 48, [0, 5, 5, 285], []), (.iconst 3, [], []), (.if_icmp .ne 16, [37], []), (.aload_n 0, [], []), (.getfield 125, [0, 5, 6, 286], []), (.iload_n 2, [], []), (.if_icmp .ne 8, [37], []), (.aload_n 0, [], []), (.iconst 3, [], []), (.invokevirtual 89, [0, 1, 0, 0, 5, 590, 587, 589, 5, 94], [mX5_blame]), (.nop, [37], [])]
theorem kX5_readQuarrel_0 : chL mX5_readQuarrel 0 bX5_readQuarrel_0 = true := by decide +kernel
def bX5_readQuarrel_37 : List AI := [(.aload_n 0, [], []), (.iconst 0, [], []), (.aload_n 1, [], []), (.getfield 93, [0, 8, 0, 191], []), (.iconst 1, [], []), (.isub, [], []), (.invokevirtual 84, [0, 2, 0, 0, 5, 601, 598, 600, 6, 94], [mX5_readNumber]), (.istore_n 3, [], []), (.aload_n 0, [], []), (.getfield 34, [0, 5, 1, 279], []), (.ifCond .ne 37, [90], []), (.aload_n 1, [], []), (.getfield 96, [2, 8, 6, 217], []), (.iload_n 2, [], []), (.aaload, [0], []), (.dup, [], []), (.getfield 134, [0, 2, 6, 156], []), (.iconst 1, [], []), (.iload_n 3, [], []), (.ishl, [], []), (.ior, [], []), (.putfield 134, [0, 2, 6, 156], []), (.aload_n 1, [], []), (.getfield 96, [2, 8, 6, 217], []), (.iload_n 3, [], []), (.aaload, [0], []), (.dup, [], []), (.getfield 134, [0, 2, 6, 156], []), (.iconst 1, [], []), (.iload_n 2, [], []), (.ishl, [], []), (.ior, [], []), (.putfield 134, [0, 2, 6, 156], []), (.nop, [90], [])]
theorem kX5_readQuarrel_37 : chL mX5_readQuarrel 37 bX5_readQuarrel_37 = true := by decide +kernel
def bX5_readQuarrel_90 : List AI := [(.return_, [], [])]
theorem kX5_readQuarrel_90 : chL mX5_readQuarrel 90 bX5_readQuarrel_90 = true := by decide +kernel
def bX5_readKeep_0 : List AI := [(.aload_n 1, [], []), (.getfield 93, [0, 8, 0, 191], []), (.ifCond .le 9, [13], []), (.aload_n 0, [], []), (.iconst 2, [], []), (.invokevirtual 89, [0, 1, 0, 0, 5, 590, 587, 589, 5, 94], [mX5_blame]), (.return_, [], [])]
theorem kX5_readKeep_0 : chL mX5_readKeep 0 bX5_readKeep_0 = true := by decide +kernel
def bX5_readKeep_13 : List AI := [(.aload_n 0, [], []), (.invokevirtual 45, [0, 0, 0, 0, 5, 518, 515, 517, 0, 94], [mX5_advance]), (.aload_n 1, [], []), (.aload_n 0, [], []), (.iconst 1, [], []), (.iconst 5, [], []), (.invokevirtual 84, [0, 2, 0, 0, 5, 601, 598, 600, 6, 94], [mX5_readNumber]), (.putfield 112, [0, 8, 2, 202], []), (.return_, [], [])]
theorem kX5_readKeep_13 : chL mX5_readKeep 13 bX5_readKeep_13 = true := by decide +kernel
def bX5_readNumber_0 : List AI := [(.aload_n 0, [], []), (.getfield 48, [0, 5, 5, 285], []), (.iconst 3, [], []), (.if_icmp .eq 10, [15], []), (.aload_n 0, [], []), (.iconst 2, [], []), (.invokevirtual 89, [0, 1, 0, 0, 5, 590, 587, 589, 5, 94], [mX5_blame]), (.iconst 0, [], []), (.ireturn, [0], [])]
theorem kX5_readNumber_0 : chL mX5_readNumber 0 bX5_readNumber_0 = true := by decide +kernel
def bX5_readNumber_15 : List AI := [(.aload_n 0, [], []), (.getfield 125, [0, 5, 6, 286], []), (.iload_n 1, [], []), (.if_icmp .lt 11, [31], []), (.aload_n 0, [], []), (.getfield 125, [0, 5, 6, 286], []), (.iload_n 2, [], []), (.if_icmp .le 10, [38], []), (.nop, [31], [])]
theorem kX5_readNumber_15 : chL mX5_readNumber 15 bX5_readNumber_15 = true := by decide +kernel
def bX5_readNumber_31 : List AI := [(.aload_n 0, [], []), (.iconst 3, [], []), (.invokevirtual 89, [0, 1, 0, 0, 5, 590, 587, 589, 5, 94], [mX5_blame]), (.iconst 0, [], []), (.ireturn, [0], [])]
theorem kX5_readNumber_31 : chL mX5_readNumber 31 bX5_readNumber_31 = true := by decide +kernel
def bX5_readNumber_38 : List AI := [(.aload_n 0, [], []), (.getfield 125, [0, 5, 6, 286], []), (.istore_n 3, [], []), (.aload_n 0, [], []), (.invokevirtual 45, [0, 0, 0, 0, 5, 518, 515, 517, 0, 94], [mX5_advance]), (.iload_n 3, [], []), (.ireturn, [0], [])]
theorem kX5_readNumber_38 : chL mX5_readNumber 38 bX5_readNumber_38 = true := by decide +kernel
def bX5_blame_0 : List AI := [(.aload_n 0, [], []), (.getfield 34, [0, 5, 1, 279], []), (.ifCond .ne 28, [32], []), (.aload_n 0, [], []), (.aload_n 0, [], []), (.getfield 48, [0, 5, 5, 285], []), (.iconst 5, [], []), (.if_icmp .ne 7, [20], []), (.iconst 1, [], []), (.goto 4, [21], [])]
theorem kX5_blame_0 : chL mX5_blame 0 bX5_blame_0 = true := by decide +kernel
def bX5_blame_20 : List AI := [(.iload_n 1, [], []), (.nop, [21], [])]
theorem kX5_blame_20 : chL mX5_blame 20 bX5_blame_20 = true := by decide +kernel
def bX5_blame_21 : List AI := [(.putfield 34, [0, 5, 1, 279], []), (.aload_n 0, [], []), (.aload_n 0, [], []), (.getfield 137, [0, 5, 7, 287], []), (.putfield 9, [0, 5, 2, 281], []), (.nop, [32], [])]
theorem kX5_blame_21 : chL mX5_blame 21 bX5_blame_21 = true := by decide +kernel
def bX5_blame_32 : List AI := [(.return_, [], [])]
theorem kX5_blame_32 : chL mX5_blame 32 bX5_blame_32 = true := by decide +kernel
def bX5_advance_0 : List AI := [(.aload_n 0, [], []), (.aload_n 0, [], []), (.getfield 37, [0, 5, 8, 288], []), (.putfield 137, [0, 5, 7, 287], []), (.nop, [8], [])]
theorem kX5_advance_0 : chL mX5_advance 0 bX5_advance_0 = true := by decide +kernel
def bX5_advance_8 : List AI := [(.aload_n 0, [], []), (.getfield 137, [0, 5, 7, 287], []), (.aload_n 0, [], []), (.getfield 31, [0, 5, 4, 284], []), (.if_icmp .ge 32, [48], []), (.aload_n 0, [], []), (.getfield 15, [2, 5, 3, 283], []), (.aload_n 0, [], []), (.getfield 137, [0, 5, 7, 287], []), (.baload, [3], []), (.invokestatic 140, [0, 1, 0, 0, 521, 519, 520, 94], [mX5_kindOf]), (.iconst 1, [], []), (.if_icmp .ne 16, [48], []), (.aload_n 0, [], []), (.dup, [], []), (.getfield 137, [0, 5, 7, 287], []), (.iconst 1, [], []), (.iadd, [], []), (.putfield 137, [0, 5, 7, 287], []), (.goto (-37), [8], [])]
theorem kX5_advance_8 : chL mX5_advance 8 bX5_advance_8 = true := by decide +kernel
def bX5_advance_48 : List AI := [(.aload_n 0, [], []), (.aload_n 0, [], []), (.getfield 137, [0, 5, 7, 287], []), (.putfield 37, [0, 5, 8, 288], []), (.aload_n 0, [], []), (.getfield 137, [0, 5, 7, 287], []), (.aload_n 0, [], []), (.getfield 31, [0, 5, 4, 284], []), (.if_icmp .lt 9, [73], []), (.aload_n 0, [], []), (.iconst 0, [], []), (.putfield 48, [0, 5, 5, 285], []), (.return_, [], [])]
theorem kX5_advance_48 : chL mX5_advance 48 bX5_advance_48 = true := by decide +kernel
def bX5_advance_73 : List AI := [(.aload_n 0, [], []), (.aload_n 0, [], []), (.getfield 15, [2, 5, 3, 283], []), (.aload_n 0, [], []), (.getfield 137, [0, 5, 7, 287], []), (.baload, [3], []), (.invokestatic 140, [0, 1, 0, 0, 521, 519, 520, 94], [mX5_kindOf]), (.putfield 48, [0, 5, 5, 285], []), (.aload_n 0, [], []), (.dup, [], []), (.getfield 37, [0, 5, 8, 288], []), (.iconst 1, [], []), (.iadd, [], []), (.putfield 37, [0, 5, 8, 288], []), (.aload_n 0, [], []), (.getfield 48, [0, 5, 5, 285], []), (.iconst 2, [], []), (.if_icmp .eq 11, [115], []), (.aload_n 0, [], []), (.getfield 48, [0, 5, 5, 285], []), (.iconst 3, [], []), (.if_icmp .ne 46, [158], []), (.nop, [115], [])]
theorem kX5_advance_73 : chL mX5_advance 73 bX5_advance_73 = true := by decide +kernel
def bX5_advance_115 : List AI := [(.aload_n 0, [], []), (.getfield 37, [0, 5, 8, 288], []), (.aload_n 0, [], []), (.getfield 31, [0, 5, 4, 284], []), (.if_icmp .ge 35, [158], []), (.aload_n 0, [], []), (.getfield 15, [2, 5, 3, 283], []), (.aload_n 0, [], []), (.getfield 37, [0, 5, 8, 288], []), (.baload, [3], []), (.invokestatic 140, [0, 1, 0, 0, 521, 519, 520, 94], [mX5_kindOf]), (.aload_n 0, [], []), (.getfield 48, [0, 5, 5, 285], []), (.if_icmp .ne 16, [158], []), (.aload_n 0, [], []), (.dup, [], []), (.getfield 37, [0, 5, 8, 288], []), (.iconst 1, [], []), (.iadd, [], []), (.putfield 37, [0, 5, 8, 288], []), (.goto (-40), [115], [])]
theorem kX5_advance_115 : chL mX5_advance 115 bX5_advance_115 = true := by decide +kernel
def bX5_advance_158 : List AI := [(.aload_n 0, [], []), (.getfield 48, [0, 5, 5, 285], []), (.iconst 3, [], []), (.if_icmp .ne 7, [170], []), (.aload_n 0, [], []), (.invokevirtual 144, [0, 0, 0, 0, 5, 525, 522, 524, 1, 94], [mX5_takeValue]), (.nop, [170], [])]
theorem kX5_advance_158 : chL mX5_advance 158 bX5_advance_158 = true := by decide +kernel
def bX5_advance_170 : List AI := [(.return_, [], [])]
theorem kX5_advance_170 : chL mX5_advance 170 bX5_advance_170 = true := by decide +kernel
def bX5_takeValue_0 : List AI := [(.aload_n 0, [], []), (.getfield 37, [0, 5, 8, 288], []), (.aload_n 0, [], []), (.getfield 137, [0, 5, 7, 287], []), (.isub, [], []), (.iconst 3, [], []), (.if_icmp .le 9, [19], []), (.aload_n 0, [], []), (.iconst 5, [], []), (.putfield 48, [0, 5, 5, 285], []), (.return_, [], [])]
theorem kX5_takeValue_0 : chL mX5_takeValue 0 bX5_takeValue_0 = true := by decide +kernel
def bX5_takeValue_19 : List AI := [(.aload_n 0, [], []), (.iconst 0, [], []), (.putfield 125, [0, 5, 6, 286], []), (.aload_n 0, [], []), (.getfield 137, [0, 5, 7, 287], []), (.istore_n 1, [], []), (.nop, [29], [])]
theorem kX5_takeValue_19 : chL mX5_takeValue 19 bX5_takeValue_19 = true := by decide +kernel
def bX5_takeValue_29 : List AI := [(.iload_n 1, [], []), (.aload_n 0, [], []), (.getfield 37, [0, 5, 8, 288], []), (.if_icmp .ge 30, [64], []), (.aload_n 0, [], []), (.aload_n 0, [], []), (.getfield 125, [0, 5, 6, 286], []), (.bipush 10, [], []), (.imul, [], []), (.aload_n 0, [], []), (.getfield 15, [2, 5, 3, 283], []), (.iload_n 1, [], []), (.baload, [3], []), (.iadd, [], []), (.bipush 48, [], []), (.isub, [], []), (.putfield 125, [0, 5, 6, 286], []), (.iinc 1 1, [], []), (.goto (-32), [29], [])]
theorem kX5_takeValue_29 : chL mX5_takeValue 29 bX5_takeValue_29 = true := by decide +kernel
def bX5_takeValue_64 : List AI := [(.return_, [], [])]
theorem kX5_takeValue_64 : chL mX5_takeValue 64 bX5_takeValue_64 = true := by decide +kernel
def bX5_isWord_0 : List AI := [(.aload_n 0, [], []), (.getfield 48, [0, 5, 5, 285], []), (.iconst 2, [], []), (.if_icmp .ne 19, [24], []), (.aload_n 0, [], []), (.getfield 37, [0, 5, 8, 288], []), (.aload_n 0, [], []), (.getfield 137, [0, 5, 7, 287], []), (.isub, [], []), (.aload_n 1, [], []), (.invokevirtual 147, [1, 0, 0, 0, 0, 538, 535, 536, 537, 102], [mJ0_length_8abf5]), (.if_icmp .eq 5, [26], []), (.nop, [24], [])]
theorem kX5_isWord_0 : chL mX5_isWord 0 bX5_isWord_0 = true := by decide +kernel
def bX5_isWord_24 : List AI := [(.iconst 0, [], []), (.ireturn, [1], [])]
theorem kX5_isWord_24 : chL mX5_isWord 24 bX5_isWord_24 = true := by decide +kernel
def bX5_isWord_26 : List AI := [(.iconst 0, [], []), (.istore_n 2, [], []), (.nop, [28], [])]
theorem kX5_isWord_26 : chL mX5_isWord 26 bX5_isWord_26 = true := by decide +kernel
def bX5_isWord_28 : List AI := [(.iload_n 2, [], []), (.aload_n 1, [], []), (.invokevirtual 147, [1, 0, 0, 0, 0, 538, 535, 536, 537, 102], [mJ0_length_8abf5]), (.if_icmp .ge 30, [63], []), (.aload_n 0, [], []), (.getfield 15, [2, 5, 3, 283], []), (.aload_n 0, [], []), (.getfield 137, [0, 5, 7, 287], []), (.iload_n 2, [], []), (.iadd, [], []), (.baload, [3], []), (.aload_n 1, [], []), (.iload_n 2, [], []), (.invokevirtual 152, [1, 1, 0, 0, 0, 548, 545, 546, 547, 102], [mJ0_charAt_5068e]), (.if_icmp .eq 5, [57], []), (.iconst 0, [], []), (.ireturn, [1], [])]
theorem kX5_isWord_28 : chL mX5_isWord 28 bX5_isWord_28 = true := by decide +kernel
def bX5_isWord_57 : List AI := [(.iinc 2 1, [], []), (.goto (-32), [28], [])]
theorem kX5_isWord_57 : chL mX5_isWord 57 bX5_isWord_57 = true := by decide +kernel
def bX5_isWord_63 : List AI := [(.iconst 1, [], []), (.ireturn, [1], [])]
theorem kX5_isWord_63 : chL mX5_isWord 63 bX5_isWord_63 = true := by decide +kernel
def bX5_kindOf_0 : List AI := [(.iload_n 0, [], []), (.bipush 10, [], []), (.if_icmp .eq 9, [12], []), (.iload_n 0, [], []), (.bipush 32, [], []), (.if_icmp .ne 5, [14], []), (.nop, [12], [])]
theorem kX5_kindOf_0 : chL mX5_kindOf 0 bX5_kindOf_0 = true := by decide +kernel
def bX5_kindOf_12 : List AI := [(.iconst 1, [], []), (.ireturn, [0], [])]
theorem kX5_kindOf_12 : chL mX5_kindOf 12 bX5_kindOf_12 = true := by decide +kernel
def bX5_kindOf_14 : List AI := [(.iload_n 0, [], []), (.bipush 97, [], []), (.if_icmp .lt 11, [28], []), (.iload_n 0, [], []), (.bipush 122, [], []), (.if_icmp .gt 5, [28], []), (.iconst 2, [], []), (.ireturn, [0], [])]
theorem kX5_kindOf_14 : chL mX5_kindOf 14 bX5_kindOf_14 = true := by decide +kernel
def bX5_kindOf_28 : List AI := [(.iload_n 0, [], []), (.bipush 48, [], []), (.if_icmp .lt 11, [42], []), (.iload_n 0, [], []), (.bipush 57, [], []), (.if_icmp .gt 5, [42], []), (.iconst 3, [], []), (.ireturn, [0], [])]
theorem kX5_kindOf_28 : chL mX5_kindOf 28 bX5_kindOf_28 = true := by decide +kernel
def bX5_kindOf_42 : List AI := [(.iload_n 0, [], []), (.bipush 59, [], []), (.if_icmp .ne 7, [52], []), (.iconst 4, [], []), (.goto 4, [53], [])]
theorem kX5_kindOf_42 : chL mX5_kindOf 42 bX5_kindOf_42 = true := by decide +kernel
def bX5_kindOf_52 : List AI := [(.iconst 5, [], []), (.nop, [53], [])]
theorem kX5_kindOf_52 : chL mX5_kindOf 52 bX5_kindOf_52 = true := by decide +kernel
def bX5_kindOf_53 : List AI := [(.ireturn, [0], [])]
theorem kX5_kindOf_53 : chL mX5_kindOf 53 bX5_kindOf_53 = true := by decide +kernel
