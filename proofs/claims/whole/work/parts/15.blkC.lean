def bX9_init_0 : List AI := [(.aload_n 0, [], []), (.invokespecial 3, [2, 117, 118, 119], []), (.aload_n 0, [], []), (.sipush 900, [], []), (.newarray .byte, [3, 189], []), (.putfield 9, [2, 9, 0, 454], []), (.aload_n 0, [], []), (.iconst 0, [], []), (.putfield 13, [0, 9, 1, 455], []), (.aload_n 0, [], []), (.iconst 0, [], []), (.putfield 17, [0, 9, 2, 456], []), (.aload_n 0, [], []), (.iconst (-1), [], []), (.putfield 20, [0, 9, 3, 457], []), (.aload_n 0, [], []), (.new 23, [8, 120, 121, 94], []), (.dup, [], []), (.invokespecial 25, [0, 0, 32, 253, 124, 122, 123, 94], [mX8_init]), (.putfield 26, [2, 9, 4, 458], []), (.aload_n 0, [], []), (.new 23, [8, 120, 121, 94], []), (.dup, [], []), (.invokespecial 25, [0, 0, 32, 253, 124, 122, 123, 94], [mX8_init]), (.putfield 30, [2, 9, 5, 459], []), (.aload_n 0, [], []), (.iconst 2, [], []), (.anewarray 23, [7, 8, 120, 248], []), (.putfield 33, [2, 9, 6, 460], []), (.aload_n 0, [], []), (.iconst 2, [], []), (.newarray .boolean, [4, 273], []), (.putfield 37, [2, 9, 7, 461], []), (.iconst 0, [], []), (.istore_n 1, [], []), (.nop, [67], [])]
theorem kX9_init_0 : chL mX9_init 0 bX9_init_0 = true := by decide +kernel
def bX9_init_67 : List AI := [(.iload_n 1, [], []), (.iconst 2, [], []), (.if_icmp .ge 22, [91], []), (.aload_n 0, [], []), (.getfield 33, [2, 9, 6, 460], []), (.iload_n 1, [], []), (.new 23, [8, 120, 121, 94], []), (.dup, [], []), (.invokespecial 25, [0, 0, 32, 253, 124, 122, 123, 94], [mX8_init]), (.aastore, [2], []), (.iinc 1 1, [], []), (.goto (-21), [67], [])]
theorem kX9_init_67 : chL mX9_init 67 bX9_init_67 = true := by decide +kernel
def bX9_init_91 : List AI := [(.aload_n 0, [], []), (.iconst 4, [], []), (.anewarray 41, [6, 6, 249, 250], []), (.putfield 43, [2, 9, 8, 462], []), (.iconst 0, [], []), (.istore_n 1, [], []), (.nop, [101], [])]
theorem kX9_init_91 : chL mX9_init 91 bX9_init_91 = true := by decide +kernel
def bX9_init_101 : List AI := [(.iload_n 1, [], []), (.iconst 4, [], []), (.if_icmp .ge 22, [125], []), (.aload_n 0, [], []), (.getfield 43, [2, 9, 8, 462], []), (.iload_n 1, [], []), (.new 41, [6, 249, 251, 96], []), (.dup, [], []), (.invokespecial 47, [1, 0, 1, 40, 254, 1, 253, 96], [mX6_init]), (.aastore, [1], []), (.iinc 1 1, [], []), (.goto (-21), [101], [])]
theorem kX9_init_101 : chL mX9_init 101 bX9_init_101 = true := by decide +kernel
def bX9_init_125 : List AI := [(.aload_n 0, [], []), (.new 48, [5, 275, 276, 97], []), (.dup, [], []), (.invokespecial 50, [1, 0, 1, 900, 279, 2, 278, 97], [mX5_init]), (.putfield 51, [2, 9, 9, 463], []), (.aload_n 0, [], []), (.new 55, [0, 308, 309, 98], []), (.dup, [], []), (.invokespecial 57, [1, 0, 1, 10, 312, 3, 311, 98], [mX0_init]), (.putfield 58, [2, 9, 10, 464], []), (.aload_n 0, [], []), (.new 62, [7, 330, 331, 99], []), (.dup, [], []), (.invokespecial 64, [1, 0, 2, 2061, 334, 4, 333, 99], [mX7_init]), (.putfield 65, [2, 9, 11, 465], []), (.aload_n 0, [], []), (.new 69, [3, 346, 347, 100], []), (.dup, [], []), (.invokespecial 71, [1, 0, 4, 4096, 350, 5, 349, 100], [mX3_init]), (.putfield 72, [2, 9, 12, 466], []), (.aload_n 0, [], []), (.new 76, [1, 393, 394, 101], []), (.dup, [], []), (.invokespecial 78, [1, 0, 5, 2078, 397, 6, 396, 101], [mX1_init]), (.putfield 79, [2, 9, 13, 467], []), (.aload_n 0, [], []), (.new 83, [4, 420, 421, 102], []), (.dup, [], []), (.invokespecial 85, [0, 0, 27, 214, 424, 422, 423, 102], [mX4_init]), (.putfield 86, [2, 9, 14, 468], []), (.return_, [], [])]
theorem kX9_init_125 : chL mX9_init 125 bX9_init_125 = true := by decide +kernel
def bX9_feed_0 : List AI := [(.aload_n 0, [], []), (.getfield 13, [0, 9, 1, 455], []), (.bipush 20, [], []), (.iadd, [], []), (.sipush 900, [], []), (.if_icmp .le 6, [16], []), (.bipush (-5), [], []), (.ireturn, [0], [])]
theorem kX9_feed_0 : chL mX9_feed 0 bX9_feed_0 = true := by decide +kernel
def bX9_feed_16 : List AI := [(.aload_n 0, [], []), (.iload_n 1, [], []), (.invokevirtual 90, [0, 1, 0, 0, 9, 507, 504, 506, 0, 93], [mX9_putBytes]), (.aload_n 0, [], []), (.iload_n 2, [], []), (.invokevirtual 90, [0, 1, 0, 0, 9, 507, 504, 506, 0, 93], [mX9_putBytes]), (.aload_n 0, [], []), (.iload_n 3, [], []), (.invokevirtual 90, [0, 1, 0, 0, 9, 507, 504, 506, 0, 93], [mX9_putBytes]), (.aload_n 0, [], []), (.iload 4, [], []), (.invokevirtual 90, [0, 1, 0, 0, 9, 507, 504, 506, 0, 93], [mX9_putBytes]), (.aload_n 0, [], []), (.iload 5, [], []), (.invokevirtual 90, [0, 1, 0, 0, 9, 507, 504, 506, 0, 93], [mX9_putBytes]), (.aload_n 0, [], []), (.getfield 13, [0, 9, 1, 455], []), (.ireturn, [0], [])]
theorem kX9_feed_16 : chL mX9_feed 16 bX9_feed_16 = true := by decide +kernel
def bX9_putBytes_0 : List AI := [(.bipush 24, [], []), (.istore_n 2, [], []), (.nop, [3], [])]
theorem kX9_putBytes_0 : chL mX9_putBytes 0 bX9_putBytes_0 = true := by decide +kernel
def bX9_putBytes_3 : List AI := [(.iload_n 2, [], []), (.ifCond .lt 42, [46], []), (.aload_n 0, [], []), (.getfield 13, [0, 9, 1, 455], []), (.sipush 900, [], []), (.if_icmp .ge 32, [46], []), (.aload_n 0, [], []), (.getfield 9, [2, 9, 0, 454], []), (.aload_n 0, [], []), (.getfield 13, [0, 9, 1, 455], []), (.iload_n 1, [], []), (.iload_n 2, [], []), (.ishr, [], []), (.i2b, [], []), (.bastore, [3], []), (.aload_n 0, [], []), (.dup, [], []), (.getfield 13, [0, 9, 1, 455], []), (.iconst 1, [], []), (.iadd, [], []), (.putfield 13, [0, 9, 1, 455], []), (.iinc 2 (-8), [], []), (.goto (-40), [3], [])]
theorem kX9_putBytes_3 : chL mX9_putBytes 3 bX9_putBytes_3 = true := by decide +kernel
def bX9_putBytes_46 : List AI := [(.return_, [], [])]
theorem kX9_putBytes_46 : chL mX9_putBytes 46 bX9_putBytes_46 = true := by decide +kernel
def bX9_village_0 : List AI := [(.iload_n 1, [], []), (.ifCond .lt 11, [12], []), (.iload_n 1, [], []), (.aload_n 0, [], []), (.getfield 13, [0, 9, 1, 455], []), (.if_icmp .le 6, [15], []), (.nop, [12], [])]
theorem kX9_village_0 : chL mX9_village 0 bX9_village_0 = true := by decide +kernel
def bX9_village_12 : List AI := [(.bipush (-3), [], []), (.ireturn, [0], [])]
theorem kX9_village_12 : chL mX9_village 12 bX9_village_12 = true := by decide +kernel
def bX9_village_15 : List AI := [(.aload_n 0, [], []), (.iconst 0, [], []), (.putfield 13, [0, 9, 1, 455], []), (.aload_n 0, [], []), (.getfield 51, [2, 9, 9, 463], []), (.aload_n 0, [], []), (.getfield 9, [2, 9, 0, 454], []), (.iload_n 1, [], []), (.aload_n 0, [], []), (.getfield 30, [2, 9, 5, 459], []), (.invokevirtual 94, [0, 3, 0, 0, 5, 515, 512, 513, 514, 97], [mX5_read]), (.aload_n 0, [], []), (.aload_n 0, [], []), (.getfield 51, [2, 9, 9, 463], []), (.getfield 98, [0, 5, 0, 282], []), (.putfield 17, [0, 9, 2, 456], []), (.aload_n 0, [], []), (.aload_n 0, [], []), (.getfield 51, [2, 9, 9, 463], []), (.getfield 99, [0, 5, 1, 284], []), (.putfield 20, [0, 9, 3, 457], []), (.aload_n 0, [], []), (.getfield 17, [0, 9, 2, 456], []), (.ifCond .eq 11, [73], []), (.bipush (-30), [], []), (.aload_n 0, [], []), (.getfield 17, [0, 9, 2, 456], []), (.isub, [], []), (.ireturn, [0], [])]
theorem kX9_village_15 : chL mX9_village 15 bX9_village_15 = true := by decide +kernel
def bX9_village_73 : List AI := [(.aload_n 0, [], []), (.getfield 26, [2, 9, 4, 458], []), (.aload_n 0, [], []), (.getfield 30, [2, 9, 5, 459], []), (.invokevirtual 100, [0, 1, 0, 0, 8, 656, 653, 654, 655, 94], [mX8_become]), (.aload_n 0, [], []), (.getfield 26, [2, 9, 4, 458], []), (.getfield 104, [0, 8, 5, 216], []), (.ireturn, [0], [])]
theorem kX9_village_73 : chL mX9_village 73 bX9_village_73 = true := by decide +kernel
def bX9_fault_0 : List AI := [(.iload_n 1, [], []), (.lookupswitch 37 #[(0, 27), (1, 32)], [38, 28, 33], [])]
theorem kX9_fault_0 : chL mX9_fault 0 bX9_fault_0 = true := by decide +kernel
def bX9_fault_28 : List AI := [(.aload_n 0, [], []), (.getfield 17, [0, 9, 2, 456], []), (.ireturn, [0], [])]
theorem kX9_fault_28 : chL mX9_fault 28 bX9_fault_28 = true := by decide +kernel
def bX9_fault_33 : List AI := [(.aload_n 0, [], []), (.getfield 20, [0, 9, 3, 457], []), (.ireturn, [0], [])]
theorem kX9_fault_33 : chL mX9_fault 33 bX9_fault_33 = true := by decide +kernel
def bX9_fault_38 : List AI := [(.iconst (-1), [], []), (.ireturn, [0], [])]
theorem kX9_fault_38 : chL mX9_fault 38 bX9_fault_38 = true := by decide +kernel
def bX9_family_0 : List AI := [(.aload_n 0, [], []), (.getfield 26, [2, 9, 4, 458], []), (.iload_n 1, [], []), (.invokevirtual 107, [0, 1, 0, 0, 8, 674, 671, 672, 673, 94], [mX8_hasFamily]), (.ifCond .ne 6, [14], []), (.bipush (-2), [], []), (.ireturn, [0], [])]
theorem kX9_family_0 : chL mX9_family 0 bX9_family_0 = true := by decide +kernel
def bX9_family_14 : List AI := [(.aload_n 0, [], []), (.getfield 26, [2, 9, 4, 458], []), (.getfield 111, [2, 8, 6, 222], []), (.iload_n 1, [], []), (.aaload, [0], []), (.astore_n 3, [], []), (.iload_n 2, [], []), (.tableswitch 91 0 7 #[47, 52, 57, 62, 67, 72, 77, 82], [116, 72, 77, 82, 87, 92, 97, 102, 107], [])]
theorem kX9_family_14 : chL mX9_family 14 bX9_family_14 = true := by decide +kernel
def bX9_family_72 : List AI := [(.aload_n 3, [], []), (.getfield 115, [0, 2, 0, 136], []), (.ireturn, [0], [])]
theorem kX9_family_72 : chL mX9_family 72 bX9_family_72 = true := by decide +kernel
def bX9_family_77 : List AI := [(.aload_n 3, [], []), (.getfield 120, [0, 2, 1, 139], []), (.ireturn, [0], [])]
theorem kX9_family_77 : chL mX9_family 77 bX9_family_77 = true := by decide +kernel
def bX9_family_82 : List AI := [(.aload_n 3, [], []), (.invokevirtual 123, [0, 0, 0, 0, 2, 678, 675, 676, 677, 95], [mX2_allBread]), (.ireturn, [0], [])]
theorem kX9_family_82 : chL mX9_family 82 bX9_family_82 = true := by decide +kernel
def bX9_family_87 : List AI := [(.aload_n 3, [], []), (.getfield 127, [0, 2, 2, 145], []), (.ireturn, [0], [])]
theorem kX9_family_87 : chL mX9_family 87 bX9_family_87 = true := by decide +kernel
def bX9_family_92 : List AI := [(.aload_n 3, [], []), (.getfield 130, [0, 2, 3, 148], []), (.ireturn, [0], [])]
theorem kX9_family_92 : chL mX9_family 92 bX9_family_92 = true := by decide +kernel
def bX9_family_97 : List AI := [(.aload_n 3, [], []), (.getfield 133, [0, 2, 4, 151], []), (.ireturn, [0], [])]
theorem kX9_family_97 : chL mX9_family 97 bX9_family_97 = true := by decide +kernel
def bX9_family_102 : List AI := [(.aload_n 3, [], []), (.getfield 136, [0, 2, 5, 154], []), (.ireturn, [0], [])]
theorem kX9_family_102 : chL mX9_family 102 bX9_family_102 = true := by decide +kernel
def bX9_family_107 : List AI := [(.aload_n 0, [], []), (.getfield 26, [2, 9, 4, 458], []), (.iload_n 1, [], []), (.invokevirtual 139, [0, 1, 0, 0, 8, 682, 679, 680, 681, 94], [mX8_balance]), (.ireturn, [0], [])]
theorem kX9_family_107 : chL mX9_family 107 bX9_family_107 = true := by decide +kernel
def bX9_family_116 : List AI := [(.aload_n 0, [], []), (.aload_n 3, [], []), (.iload_n 2, [], []), (.invokevirtual 143, [0, 2, 0, 0, 9, 690, 687, 689, 14, 93], [mX9_breadOfAge]), (.ireturn, [0], [])]
theorem kX9_family_116 : chL mX9_family 116 bX9_family_116 = true := by decide +kernel
def bX9_breadOfAge_0 : List AI := [(.iload_n 2, [], []), (.bipush 10, [], []), (.if_icmp .lt 17, [20], []), (.iload_n 2, [], []), (.bipush 10, [], []), (.aload_n 0, [], []), (.getfield 26, [2, 9, 4, 458], []), (.getfield 147, [0, 8, 2, 207], []), (.iadd, [], []), (.if_icmp .lt 6, [23], []), (.nop, [20], [])]
theorem kX9_breadOfAge_0 : chL mX9_breadOfAge 0 bX9_breadOfAge_0 = true := by decide +kernel
def bX9_breadOfAge_20 : List AI := [(.bipush (-2), [], []), (.ireturn, [0], [])]
theorem kX9_breadOfAge_20 : chL mX9_breadOfAge 20 bX9_breadOfAge_20 = true := by decide +kernel
def bX9_breadOfAge_23 : List AI := [(.aload_n 1, [], []), (.getfield 150, [2, 2, 7, 164], []), (.iload_n 2, [], []), (.bipush 10, [], []), (.isub, [], []), (.iaload, [0], []), (.ireturn, [0], [])]
theorem kX9_breadOfAge_23 : chL mX9_breadOfAge 23 bX9_breadOfAge_23 = true := by decide +kernel
def bX9_oven_0 : List AI := [(.aload_n 0, [], []), (.getfield 26, [2, 9, 4, 458], []), (.iload_n 1, [], []), (.invokevirtual 154, [0, 1, 0, 0, 8, 698, 695, 696, 697, 94], [mX8_hasOven]), (.ifCond .eq 15, [23], []), (.aload_n 0, [], []), (.getfield 26, [2, 9, 4, 458], []), (.getfield 157, [2, 8, 7, 230], []), (.iload_n 1, [], []), (.iaload, [0], []), (.goto 5, [25], [])]
theorem kX9_oven_0 : chL mX9_oven 0 bX9_oven_0 = true := by decide +kernel
def bX9_oven_23 : List AI := [(.bipush (-2), [], []), (.nop, [25], [])]
theorem kX9_oven_23 : chL mX9_oven 23 bX9_oven_23 = true := by decide +kernel
def bX9_oven_25 : List AI := [(.ireturn, [0], [])]
theorem kX9_oven_25 : chL mX9_oven 25 bX9_oven_25 = true := by decide +kernel
def bX9_quarrel_0 : List AI := [(.aload_n 0, [], []), (.getfield 26, [2, 9, 4, 458], []), (.iload_n 1, [], []), (.invokevirtual 107, [0, 1, 0, 0, 8, 674, 671, 672, 673, 94], [mX8_hasFamily]), (.ifCond .eq 14, [22], []), (.aload_n 0, [], []), (.getfield 26, [2, 9, 4, 458], []), (.iload_n 2, [], []), (.invokevirtual 107, [0, 1, 0, 0, 8, 674, 671, 672, 673, 94], [mX8_hasFamily]), (.ifCond .ne 6, [25], []), (.nop, [22], [])]
theorem kX9_quarrel_0 : chL mX9_quarrel 0 bX9_quarrel_0 = true := by decide +kernel
def bX9_quarrel_22 : List AI := [(.bipush (-2), [], []), (.ireturn, [0], [])]
theorem kX9_quarrel_22 : chL mX9_quarrel 22 bX9_quarrel_22 = true := by decide +kernel
def bX9_quarrel_25 : List AI := [(.aload_n 0, [], []), (.getfield 26, [2, 9, 4, 458], []), (.getfield 111, [2, 8, 6, 222], []), (.iload_n 1, [], []), (.aaload, [0], []), (.getfield 160, [0, 2, 6, 159], []), (.iload_n 2, [], []), (.ishr, [], []), (.iconst 1, [], []), (.iand, [], []), (.ireturn, [0], [])]
theorem kX9_quarrel_25 : chL mX9_quarrel 25 bX9_quarrel_25 = true := by decide +kernel
def bX9_fallOut_0 : List AI := [(.aload_n 0, [], []), (.getfield 26, [2, 9, 4, 458], []), (.iload_n 1, [], []), (.iload_n 2, [], []), (.invokevirtual 163, [0, 2, 0, 0, 8, 710, 707, 708, 709, 94], [mX8_hasPair]), (.ifCond .ne 6, [15], []), (.bipush (-2), [], []), (.ireturn, [0], [])]
theorem kX9_fallOut_0 : chL mX9_fallOut 0 bX9_fallOut_0 = true := by decide +kernel
def bX9_fallOut_15 : List AI := [(.aload_n 0, [], []), (.getfield 26, [2, 9, 4, 458], []), (.getfield 111, [2, 8, 6, 222], []), (.iload_n 1, [], []), (.aaload, [0], []), (.dup, [], []), (.getfield 160, [0, 2, 6, 159], []), (.iconst 1, [], []), (.iload_n 2, [], []), (.ishl, [], []), (.ixor, [], []), (.putfield 160, [0, 2, 6, 159], []), (.aload_n 0, [], []), (.getfield 26, [2, 9, 4, 458], []), (.getfield 111, [2, 8, 6, 222], []), (.iload_n 2, [], []), (.aaload, [0], []), (.dup, [], []), (.getfield 160, [0, 2, 6, 159], []), (.iconst 1, [], []), (.iload_n 1, [], []), (.ishl, [], []), (.ixor, [], []), (.putfield 160, [0, 2, 6, 159], []), (.aload_n 0, [], []), (.getfield 26, [2, 9, 4, 458], []), (.getfield 111, [2, 8, 6, 222], []), (.iload_n 1, [], []), (.aaload, [0], []), (.getfield 160, [0, 2, 6, 159], []), (.iload_n 2, [], []), (.ishr, [], []), (.iconst 1, [], []), (.iand, [], []), (.ireturn, [0], [])]
theorem kX9_fallOut_15 : chL mX9_fallOut 15 bX9_fallOut_15 = true := by decide +kernel
def bX9_wish_0 : List AI := [(.aload_n 0, [], []), (.getfield 26, [2, 9, 4, 458], []), (.iload_n 1, [], []), (.invokevirtual 107, [0, 1, 0, 0, 8, 674, 671, 672, 673, 94], [mX8_hasFamily]), (.ifCond .ne 6, [14], []), (.bipush (-2), [], []), (.ireturn, [0], [])]
theorem kX9_wish_0 : chL mX9_wish 0 bX9_wish_0 = true := by decide +kernel
def bX9_wish_14 : List AI := [(.iload_n 2, [], []), (.ifCond .lt 9, [24], []), (.iload_n 2, [], []), (.bipush 99, [], []), (.if_icmp .le 6, [27], []), (.nop, [24], [])]
theorem kX9_wish_14 : chL mX9_wish 14 bX9_wish_14 = true := by decide +kernel
def bX9_wish_24 : List AI := [(.bipush (-3), [], []), (.ireturn, [0], [])]
theorem kX9_wish_24 : chL mX9_wish 24 bX9_wish_24 = true := by decide +kernel
def bX9_wish_27 : List AI := [(.aload_n 0, [], []), (.getfield 26, [2, 9, 4, 458], []), (.getfield 111, [2, 8, 6, 222], []), (.iload_n 1, [], []), (.aaload, [0], []), (.getfield 127, [0, 2, 2, 145], []), (.istore_n 3, [], []), (.aload_n 0, [], []), (.getfield 26, [2, 9, 4, 458], []), (.getfield 111, [2, 8, 6, 222], []), (.iload_n 1, [], []), (.aaload, [0], []), (.iload_n 2, [], []), (.putfield 127, [0, 2, 2, 145], []), (.iload_n 3, [], []), (.ireturn, [0], [])]
theorem kX9_wish_27 : chL mX9_wish 27 bX9_wish_27 = true := by decide +kernel
def bX9_mill_0 : List AI := [(.aload_n 0, [], []), (.getfield 26, [2, 9, 4, 458], []), (.iload_n 1, [], []), (.invokevirtual 107, [0, 1, 0, 0, 8, 674, 671, 672, 673, 94], [mX8_hasFamily]), (.ifCond .ne 6, [14], []), (.bipush (-2), [], []), (.ireturn, [0], [])]
theorem kX9_mill_0 : chL mX9_mill 0 bX9_mill_0 = true := by decide +kernel
def bX9_mill_14 : List AI := [(.iload_n 2, [], []), (.ifCond .lt 10, [25], []), (.iload_n 2, [], []), (.sipush 999, [], []), (.if_icmp .le 6, [28], []), (.nop, [25], [])]
theorem kX9_mill_14 : chL mX9_mill 14 bX9_mill_14 = true := by decide +kernel
def bX9_mill_25 : List AI := [(.bipush (-3), [], []), (.ireturn, [0], [])]
theorem kX9_mill_25 : chL mX9_mill 25 bX9_mill_25 = true := by decide +kernel
def bX9_mill_28 : List AI := [(.aload_n 0, [], []), (.getfield 26, [2, 9, 4, 458], []), (.getfield 111, [2, 8, 6, 222], []), (.iload_n 1, [], []), (.aaload, [0], []), (.astore_n 3, [], []), (.aload_n 3, [], []), (.sipush 999, [], []), (.aload_n 3, [], []), (.getfield 120, [0, 2, 1, 139], []), (.iload_n 2, [], []), (.iadd, [], []), (.invokestatic 167, [4, 720, 517, 104, 518], []), (.putfield 120, [0, 2, 1, 139], []), (.aload_n 3, [], []), (.getfield 120, [0, 2, 1, 139], []), (.ireturn, [0], [])]
theorem kX9_mill_28 : chL mX9_mill 28 bX9_mill_28 = true := by decide +kernel
def bX9_fire_0 : List AI := [(.aload_n 0, [], []), (.getfield 26, [2, 9, 4, 458], []), (.iload_n 1, [], []), (.invokevirtual 154, [0, 1, 0, 0, 8, 698, 695, 696, 697, 94], [mX8_hasOven]), (.ifCond .eq 10, [18], []), (.iload_n 2, [], []), (.invokestatic 173, [0, 1, 0, 0, 727, 725, 726, 93], [mX9_isRow]), (.ifCond .ne 6, [21], []), (.nop, [18], [])]
theorem kX9_fire_0 : chL mX9_fire 0 bX9_fire_0 = true := by decide +kernel
def bX9_fire_18 : List AI := [(.bipush (-2), [], []), (.ireturn, [0], [])]
theorem kX9_fire_18 : chL mX9_fire 18 bX9_fire_18 = true := by decide +kernel
def bX9_fire_21 : List AI := [(.aload_n 0, [], []), (.getfield 43, [2, 9, 8, 462], []), (.iload_n 2, [], []), (.aaload, [1], []), (.getfield 176, [0, 6, 0, 257], []), (.ifCond .ne 6, [36], []), (.bipush (-6), [], []), (.ireturn, [0], [])]
theorem kX9_fire_21 : chL mX9_fire 21 bX9_fire_21 = true := by decide +kernel
def bX9_fire_36 : List AI := [(.aload_n 0, [], []), (.getfield 43, [2, 9, 8, 462], []), (.iload_n 2, [], []), (.aaload, [1], []), (.getfield 180, [0, 6, 2, 261], []), (.aload_n 0, [], []), (.getfield 26, [2, 9, 4, 458], []), (.getfield 183, [0, 8, 0, 197], []), (.if_icmp .eq 6, [58], []), (.bipush (-7), [], []), (.ireturn, [0], [])]
theorem kX9_fire_36 : chL mX9_fire 36 bX9_fire_36 = true := by decide +kernel
def bX9_fire_58 : List AI := [(.aload_n 0, [], []), (.getfield 58, [2, 9, 10, 464], []), (.aload_n 0, [], []), (.getfield 26, [2, 9, 4, 458], []), (.iload_n 1, [], []), (.aload_n 0, [], []), (.getfield 43, [2, 9, 8, 462], []), (.iload_n 2, [], []), (.aaload, [1], []), (.invokevirtual 186, [0, 3, 0, 0, 0, 731, 728, 729, 730, 98], [mX0_bakeRow]), (.ireturn, [0], [])]
theorem kX9_fire_58 : chL mX9_fire 58 bX9_fire_58 = true := by decide +kernel
def bX9_fireWishes_0 : List AI := [(.aload_n 0, [], []), (.getfield 26, [2, 9, 4, 458], []), (.iload_n 1, [], []), (.invokevirtual 154, [0, 1, 0, 0, 8, 698, 695, 696, 697, 94], [mX8_hasOven]), (.ifCond .ne 6, [14], []), (.bipush (-2), [], []), (.ireturn, [0], [])]
theorem kX9_fireWishes_0 : chL mX9_fireWishes 0 bX9_fireWishes_0 = true := by decide +kernel
def bX9_fireWishes_14 : List AI := [(.aload_n 0, [], []), (.getfield 26, [2, 9, 4, 458], []), (.iload_n 2, [], []), (.invokevirtual 190, [0, 1, 0, 0, 8, 752, 749, 750, 751, 94], [mX8_hasSet]), (.ifCond .ne 6, [28], []), (.bipush (-3), [], []), (.ireturn, [0], [])]
theorem kX9_fireWishes_14 : chL mX9_fireWishes 14 bX9_fireWishes_14 = true := by decide +kernel
def bX9_fireWishes_28 : List AI := [(.aload_n 0, [], []), (.getfield 58, [2, 9, 10, 464], []), (.aload_n 0, [], []), (.getfield 26, [2, 9, 4, 458], []), (.iload_n 1, [], []), (.iload_n 2, [], []), (.invokevirtual 193, [0, 3, 0, 0, 0, 756, 753, 754, 755, 98], [mX0_bakeWishes]), (.ireturn, [0], [])]
theorem kX9_fireWishes_28 : chL mX9_fireWishes 28 bX9_fireWishes_28 = true := by decide +kernel
def bX9_judge_0 : List AI := [(.iload_n 1, [], []), (.invokestatic 173, [0, 1, 0, 0, 727, 725, 726, 93], [mX9_isRow]), (.ifCond .eq 12, [16], []), (.iload_n 2, [], []), (.ifCond .lt 8, [16], []), (.iload_n 2, [], []), (.iconst 2, [], []), (.if_icmp .le 6, [19], []), (.nop, [16], [])]
theorem kX9_judge_0 : chL mX9_judge 0 bX9_judge_0 = true := by decide +kernel
def bX9_judge_16 : List AI := [(.bipush (-2), [], []), (.ireturn, [0], [])]
theorem kX9_judge_16 : chL mX9_judge 16 bX9_judge_16 = true := by decide +kernel
def bX9_judge_19 : List AI := [(.aload_n 0, [], []), (.getfield 43, [2, 9, 8, 462], []), (.iload_n 1, [], []), (.aaload, [1], []), (.getfield 176, [0, 6, 0, 257], []), (.ifCond .ne 6, [34], []), (.bipush (-6), [], []), (.ireturn, [0], [])]
theorem kX9_judge_19 : chL mX9_judge 19 bX9_judge_19 = true := by decide +kernel
def bX9_judge_34 : List AI := [(.aload_n 0, [], []), (.getfield 30, [2, 9, 5, 459], []), (.aload_n 0, [], []), (.getfield 26, [2, 9, 4, 458], []), (.invokevirtual 100, [0, 1, 0, 0, 8, 656, 653, 654, 655, 94], [mX8_become]), (.aload_n 0, [], []), (.getfield 58, [2, 9, 10, 464], []), (.aload_n 0, [], []), (.getfield 30, [2, 9, 5, 459], []), (.aload_n 0, [], []), (.getfield 43, [2, 9, 8, 462], []), (.iload_n 1, [], []), (.aaload, [1], []), (.invokevirtual 197, [0, 2, 0, 0, 0, 768, 765, 766, 767, 98], [mX0_bakeAll]), (.iload_n 2, [], []), (.lookupswitch 55 #[(0, 25), (1, 47)], [118, 88, 110], [])]
theorem kX9_judge_34 : chL mX9_judge 34 bX9_judge_34 = true := by decide +kernel
def bX9_judge_88 : List AI := [(.aload_n 0, [], []), (.getfield 58, [2, 9, 10, 464], []), (.getfield 201, [0, 0, 1, 317], []), (.ifCond .ne 7, [102], []), (.iconst (-1), [], []), (.goto 10, [109], [])]
theorem kX9_judge_88 : chL mX9_judge 88 bX9_judge_88 = true := by decide +kernel
def bX9_judge_102 : List AI := [(.aload_n 0, [], []), (.getfield 58, [2, 9, 10, 464], []), (.getfield 204, [0, 0, 0, 315], []), (.nop, [109], [])]
theorem kX9_judge_102 : chL mX9_judge 102 bX9_judge_102 = true := by decide +kernel
def bX9_judge_109 : List AI := [(.ireturn, [0], [])]
theorem kX9_judge_109 : chL mX9_judge 109 bX9_judge_109 = true := by decide +kernel
def bX9_judge_110 : List AI := [(.aload_n 0, [], []), (.getfield 58, [2, 9, 10, 464], []), (.getfield 201, [0, 0, 1, 317], []), (.ireturn, [0], [])]
theorem kX9_judge_110 : chL mX9_judge 110 bX9_judge_110 = true := by decide +kernel
def bX9_judge_118 : List AI := [(.aload_n 0, [], []), (.getfield 58, [2, 9, 10, 464], []), (.getfield 207, [0, 0, 2, 319], []), (.ireturn, [0], [])]
theorem kX9_judge_118 : chL mX9_judge 118 bX9_judge_118 = true := by decide +kernel
def bX9_perform_0 : List AI := [(.iload_n 1, [], []), (.invokestatic 173, [0, 1, 0, 0, 727, 725, 726, 93], [mX9_isRow]), (.ifCond .ne 6, [10], []), (.bipush (-2), [], []), (.ireturn, [0], [])]
theorem kX9_perform_0 : chL mX9_perform 0 bX9_perform_0 = true := by decide +kernel
def bX9_perform_10 : List AI := [(.aload_n 0, [], []), (.getfield 43, [2, 9, 8, 462], []), (.iload_n 1, [], []), (.aaload, [1], []), (.getfield 176, [0, 6, 0, 257], []), (.ifCond .ne 6, [25], []), (.bipush (-6), [], []), (.ireturn, [0], [])]
theorem kX9_perform_10 : chL mX9_perform 10 bX9_perform_10 = true := by decide +kernel
def bX9_perform_25 : List AI := [(.aload_n 0, [], []), (.getfield 58, [2, 9, 10, 464], []), (.aload_n 0, [], []), (.getfield 26, [2, 9, 4, 458], []), (.aload_n 0, [], []), (.getfield 43, [2, 9, 8, 462], []), (.iload_n 1, [], []), (.aaload, [1], []), (.invokevirtual 197, [0, 2, 0, 0, 0, 768, 765, 766, 767, 98], [mX0_bakeAll]), (.aload_n 0, [], []), (.getfield 58, [2, 9, 10, 464], []), (.getfield 204, [0, 0, 0, 315], []), (.ireturn, [0], [])]
theorem kX9_perform_25 : chL mX9_perform 25 bX9_perform_25 = true := by decide +kernel
def bX9_day_0 : List AI := [(.aload_n 0, [], []), (.getfield 26, [2, 9, 4, 458], []), (.getfield 210, [0, 8, 4, 213], []), (.sipush 999, [], []), (.if_icmp .lt 8, [18], []), (.bipush (-5), [], []), (.goto 10, [25], [])]
theorem kX9_day_0 : chL mX9_day 0 bX9_day_0 = true := by decide +kernel
def bX9_day_18 : List AI := [(.aload_n 0, [], []), (.getfield 26, [2, 9, 4, 458], []), (.invokevirtual 213, [0, 0, 0, 0, 8, 787, 784, 785, 786, 94], [mX8_endDay]), (.nop, [25], [])]
theorem kX9_day_18 : chL mX9_day 18 bX9_day_18 = true := by decide +kernel
def bX9_day_25 : List AI := [(.ireturn, [0], [])]
theorem kX9_day_25 : chL mX9_day 25 bX9_day_25 = true := by decide +kernel
def bX9_drawn_0 : List AI := [(.iload_n 2, [], []), (.iconst 1, [], []), (.if_icmp .lt 9, [11], []), (.iload_n 2, [], []), (.bipush 30, [], []), (.if_icmp .le 6, [14], []), (.nop, [11], [])]
theorem kX9_drawn_0 : chL mX9_drawn 0 bX9_drawn_0 = true := by decide +kernel
def bX9_drawn_11 : List AI := [(.bipush (-3), [], []), (.ireturn, [0], [])]
theorem kX9_drawn_11 : chL mX9_drawn 11 bX9_drawn_11 = true := by decide +kernel
def bX9_drawn_14 : List AI := [(.aload_n 0, [], []), (.getfield 26, [2, 9, 4, 458], []), (.getfield 183, [0, 8, 0, 197], []), (.ifCond .eq 18, [39], []), (.aload_n 0, [], []), (.getfield 26, [2, 9, 4, 458], []), (.getfield 210, [0, 8, 4, 213], []), (.iload_n 2, [], []), (.iadd, [], []), (.sipush 999, [], []), (.if_icmp .le 6, [42], []), (.nop, [39], [])]
theorem kX9_drawn_14 : chL mX9_drawn 14 bX9_drawn_14 = true := by decide +kernel
def bX9_drawn_39 : List AI := [(.bipush (-5), [], []), (.ireturn, [0], [])]
theorem kX9_drawn_39 : chL mX9_drawn 39 bX9_drawn_39 = true := by decide +kernel
def bX9_drawn_42 : List AI := [(.iload_n 1, [], []), (.istore_n 3, [], []), (.iconst 0, [], []), (.istore 4, [], []), (.iconst 0, [], []), (.istore 5, [], []), (.nop, [50], [])]
theorem kX9_drawn_42 : chL mX9_drawn 42 bX9_drawn_42 = true := by decide +kernel
def bX9_drawn_50 : List AI := [(.iload 5, [], []), (.iload_n 2, [], []), (.if_icmp .ge 64, [117], []), (.iload_n 3, [], []), (.invokestatic 216, [0, 1, 0, 0, 804, 802, 803, 93], [mX9_nextDraw]), (.istore_n 3, [], []), (.iload_n 3, [], []), (.bipush 16, [], []), (.iushr, [], []), (.aload_n 0, [], []), (.getfield 26, [2, 9, 4, 458], []), (.getfield 183, [0, 8, 0, 197], []), (.irem, [], []), (.istore 6, [], []), (.iload_n 3, [], []), (.invokestatic 216, [0, 1, 0, 0, 804, 802, 803, 93], [mX9_nextDraw]), (.istore_n 3, [], []), (.aload_n 0, [], []), (.getfield 26, [2, 9, 4, 458], []), (.getfield 111, [2, 8, 6, 222], []), (.iload 6, [], []), (.aaload, [0], []), (.iload_n 3, [], []), (.bipush 16, [], []), (.iushr, [], []), (.iconst 3, [], []), (.irem, [], []), (.invokevirtual 219, [0, 1, 0, 0, 2, 809, 806, 807, 808, 95], [mX2_changeEats]), (.iload 4, [], []), (.aload_n 0, [], []), (.getfield 26, [2, 9, 4, 458], []), (.invokevirtual 213, [0, 0, 0, 0, 8, 787, 784, 785, 786, 94], [mX8_endDay]), (.iadd, [], []), (.istore 4, [], []), (.iinc 5 1, [], []), (.goto (-64), [50], [])]
theorem kX9_drawn_50 : chL mX9_drawn 50 bX9_drawn_50 = true := by decide +kernel
def bX9_drawn_117 : List AI := [(.iload 4, [], []), (.ireturn, [0], [])]
theorem kX9_drawn_117 : chL mX9_drawn 117 bX9_drawn_117 = true := by decide +kernel
def bX9_nextDraw_0 : List AI := [(.ldc 222, [0, 1103515245, 805], []), (.iload_n 0, [], []), (.imul, [], []), (.sipush 12345, [], []), (.iadd, [], []), (.ireturn, [0], [])]
theorem kX9_nextDraw_0 : chL mX9_nextDraw 0 bX9_nextDraw_0 = true := by decide +kernel
def bX9_lasts_0 : List AI := [(.aload_n 0, [], []), (.getfield 26, [2, 9, 4, 458], []), (.iload_n 1, [], []), (.invokevirtual 107, [0, 1, 0, 0, 8, 674, 671, 672, 673, 94], [mX8_hasFamily]), (.ifCond .ne 6, [14], []), (.bipush (-2), [], []), (.ireturn, [0], [])]
theorem kX9_lasts_0 : chL mX9_lasts 0 bX9_lasts_0 = true := by decide +kernel
def bX9_lasts_14 : List AI := [(.aload_n 0, [], []), (.getfield 30, [2, 9, 5, 459], []), (.getfield 111, [2, 8, 6, 222], []), (.iconst 0, [], []), (.aaload, [0], []), (.astore_n 2, [], []), (.aload_n 2, [], []), (.aload_n 0, [], []), (.getfield 26, [2, 9, 4, 458], []), (.getfield 111, [2, 8, 6, 222], []), (.iload_n 1, [], []), (.aaload, [0], []), (.invokevirtual 223, [0, 1, 0, 0, 2, 661, 814, 659, 660, 95], [mX2_become]), (.iconst 0, [], []), (.istore_n 3, [], []), (.nop, [39], [])]
theorem kX9_lasts_14 : chL mX9_lasts 14 bX9_lasts_14 = true := by decide +kernel
def bX9_lasts_39 : List AI := [(.iload_n 3, [], []), (.bipush 99, [], []), (.if_icmp .gt 30, [72], []), (.aload_n 2, [], []), (.invokevirtual 226, [0, 0, 0, 0, 2, 791, 815, 789, 790, 95], [mX2_eat]), (.ifCond .le 5, [54], []), (.iload_n 3, [], []), (.ireturn, [0], [])]
theorem kX9_lasts_39 : chL mX9_lasts 39 bX9_lasts_39 = true := by decide +kernel
def bX9_lasts_54 : List AI := [(.aload_n 2, [], []), (.aload_n 0, [], []), (.getfield 26, [2, 9, 4, 458], []), (.getfield 147, [0, 8, 2, 207], []), (.invokevirtual 229, [0, 1, 0, 0, 2, 796, 816, 794, 795, 95], [mX2_ageBread]), (.pop, [], []), (.iinc 3 1, [], []), (.goto (-30), [39], [])]
theorem kX9_lasts_54 : chL mX9_lasts 54 bX9_lasts_54 = true := by decide +kernel
def bX9_lasts_72 : List AI := [(.iconst (-1), [], []), (.ireturn, [0], [])]
theorem kX9_lasts_72 : chL mX9_lasts 72 bX9_lasts_72 = true := by decide +kernel
def bX9_isSum_0 : List AI := [(.iload_n 0, [], []), (.ifCond .lt 14, [15], []), (.iload_n 0, [], []), (.sipush 2000, [], []), (.if_icmp .gt 7, [15], []), (.iconst 1, [], []), (.goto 4, [16], [])]
theorem kX9_isSum_0 : chL mX9_isSum 0 bX9_isSum_0 = true := by decide +kernel
def bX9_isSum_15 : List AI := [(.iconst 0, [], []), (.nop, [16], [])]
theorem kX9_isSum_15 : chL mX9_isSum 15 bX9_isSum_15 = true := by decide +kernel
def bX9_isSum_16 : List AI := [(.ireturn, [1], [])]
theorem kX9_isSum_16 : chL mX9_isSum 16 bX9_isSum_16 = true := by decide +kernel
def bX9_canBake_0 : List AI := [(.iload_n 1, [], []), (.invokestatic 232, [0, 1, 0, 0, 823, 821, 822, 93], [mX9_isSum]), (.ifCond .ne 6, [10], []), (.bipush (-3), [], []), (.ireturn, [0], [])]
theorem kX9_canBake_0 : chL mX9_canBake 0 bX9_canBake_0 = true := by decide +kernel
def bX9_canBake_10 : List AI := [(.aload_n 0, [], []), (.getfield 65, [2, 9, 11, 465], []), (.aload_n 0, [], []), (.getfield 26, [2, 9, 4, 458], []), (.invokevirtual 235, [0, 1, 0, 0, 7, 827, 824, 825, 826, 99], [mX7_survey]), (.aload_n 0, [], []), (.getfield 65, [2, 9, 11, 465], []), (.iload_n 1, [], []), (.invokevirtual 238, [0, 1, 0, 0, 7, 845, 842, 843, 844, 99], [mX7_isBaked]), (.ifCond .eq 7, [36], []), (.iconst 1, [], []), (.goto 4, [37], [])]
theorem kX9_canBake_10 : chL mX9_canBake 10 bX9_canBake_10 = true := by decide +kernel
def bX9_canBake_36 : List AI := [(.iconst 0, [], []), (.nop, [37], [])]
theorem kX9_canBake_36 : chL mX9_canBake 36 bX9_canBake_36 = true := by decide +kernel
def bX9_canBake_37 : List AI := [(.ireturn, [0], [])]
theorem kX9_canBake_37 : chL mX9_canBake 37 bX9_canBake_37 = true := by decide +kernel
def bX9_fires_0 : List AI := [(.iload_n 1, [], []), (.invokestatic 232, [0, 1, 0, 0, 823, 821, 822, 93], [mX9_isSum]), (.ifCond .eq 18, [22], []), (.aload_n 0, [], []), (.getfield 65, [2, 9, 11, 465], []), (.aload_n 0, [], []), (.getfield 26, [2, 9, 4, 458], []), (.iload_n 1, [], []), (.invokevirtual 241, [0, 2, 0, 0, 7, 853, 850, 851, 852, 99], [mX7_fewestFires]), (.goto 5, [24], [])]
theorem kX9_fires_0 : chL mX9_fires 0 bX9_fires_0 = true := by decide +kernel
def bX9_fires_22 : List AI := [(.bipush (-3), [], []), (.nop, [24], [])]
theorem kX9_fires_22 : chL mX9_fires 22 bX9_fires_22 = true := by decide +kernel
def bX9_fires_24 : List AI := [(.ireturn, [0], [])]
theorem kX9_fires_24 : chL mX9_fires 24 bX9_fires_24 = true := by decide +kernel
def bX9_ways_0 : List AI := [(.iload_n 1, [], []), (.invokestatic 232, [0, 1, 0, 0, 823, 821, 822, 93], [mX9_isSum]), (.ifCond .eq 18, [22], []), (.aload_n 0, [], []), (.getfield 65, [2, 9, 11, 465], []), (.aload_n 0, [], []), (.getfield 26, [2, 9, 4, 458], []), (.iload_n 1, [], []), (.invokevirtual 245, [0, 2, 0, 0, 7, 861, 858, 859, 860, 99], [mX7_countWays]), (.goto 5, [24], [])]
theorem kX9_ways_0 : chL mX9_ways 0 bX9_ways_0 = true := by decide +kernel
def bX9_ways_22 : List AI := [(.bipush (-3), [], []), (.nop, [24], [])]
theorem kX9_ways_22 : chL mX9_ways 22 bX9_ways_22 = true := by decide +kernel
def bX9_ways_24 : List AI := [(.ireturn, [0], [])]
theorem kX9_ways_24 : chL mX9_ways 24 bX9_ways_24 = true := by decide +kernel
def bX9_gap_0 : List AI := [(.aload_n 0, [], []), (.getfield 65, [2, 9, 11, 465], []), (.aload_n 0, [], []), (.getfield 26, [2, 9, 4, 458], []), (.invokevirtual 235, [0, 1, 0, 0, 7, 827, 824, 825, 826, 99], [mX7_survey]), (.aload_n 0, [], []), (.getfield 65, [2, 9, 11, 465], []), (.invokevirtual 248, [0, 0, 0, 0, 7, 869, 866, 867, 868, 99], [mX7_greatestGap]), (.ireturn, [0], [])]
theorem kX9_gap_0 : chL mX9_gap 0 bX9_gap_0 = true := by decide +kernel
def bX9_upTo_0 : List AI := [(.iload_n 1, [], []), (.ifCond .lt 10, [11], []), (.iload_n 1, [], []), (.sipush 1900, [], []), (.if_icmp .le 6, [14], []), (.nop, [11], [])]
theorem kX9_upTo_0 : chL mX9_upTo 0 bX9_upTo_0 = true := by decide +kernel
def bX9_upTo_11 : List AI := [(.bipush (-3), [], []), (.ireturn, [0], [])]
theorem kX9_upTo_11 : chL mX9_upTo 11 bX9_upTo_11 = true := by decide +kernel
def bX9_upTo_14 : List AI := [(.aload_n 0, [], []), (.getfield 65, [2, 9, 11, 465], []), (.aload_n 0, [], []), (.getfield 26, [2, 9, 4, 458], []), (.invokevirtual 235, [0, 1, 0, 0, 7, 827, 824, 825, 826, 99], [mX7_survey]), (.aload_n 0, [], []), (.getfield 65, [2, 9, 11, 465], []), (.iload_n 1, [], []), (.invokevirtual 251, [0, 1, 0, 0, 7, 878, 875, 876, 877, 99], [mX7_leastFrom]), (.ireturn, [0], [])]
theorem kX9_upTo_14 : chL mX9_upTo 14 bX9_upTo_14 = true := by decide +kernel
def bX9_group_0 : List AI := [(.aload_n 0, [], []), (.getfield 26, [2, 9, 4, 458], []), (.iload_n 1, [], []), (.invokevirtual 154, [0, 1, 0, 0, 8, 698, 695, 696, 697, 94], [mX8_hasOven]), (.ifCond .ne 6, [14], []), (.bipush (-2), [], []), (.ireturn, [0], [])]
theorem kX9_group_0 : chL mX9_group 0 bX9_group_0 = true := by decide +kernel
def bX9_group_14 : List AI := [(.aload_n 0, [], []), (.getfield 72, [2, 9, 12, 466], []), (.aload_n 0, [], []), (.getfield 26, [2, 9, 4, 458], []), (.invokevirtual 254, [0, 1, 0, 0, 3, 887, 884, 885, 886, 100], [mX3_survey]), (.aload_n 0, [], []), (.getfield 72, [2, 9, 12, 466], []), (.aload_n 0, [], []), (.getfield 26, [2, 9, 4, 458], []), (.iload_n 1, [], []), (.iload_n 2, [], []), (.iconst 0, [], []), (.invokevirtual 255, [0, 4, 0, 0, 3, 899, 896, 897, 898, 100], [mX3_pick]), (.ireturn, [0], [])]
theorem kX9_group_14 : chL mX9_group 14 bX9_group_14 = true := by decide +kernel
def bX9_fills_0 : List AI := [(.aload_n 0, [], []), (.getfield 26, [2, 9, 4, 458], []), (.iload_n 1, [], []), (.invokevirtual 190, [0, 1, 0, 0, 8, 752, 749, 750, 751, 94], [mX8_hasSet]), (.ifCond .ne 6, [14], []), (.bipush (-3), [], []), (.ireturn, [0], [])]
theorem kX9_fills_0 : chL mX9_fills 0 bX9_fills_0 = true := by decide +kernel
def bX9_fills_14 : List AI := [(.aload_n 0, [], []), (.getfield 72, [2, 9, 12, 466], []), (.aload_n 0, [], []), (.getfield 26, [2, 9, 4, 458], []), (.invokevirtual 254, [0, 1, 0, 0, 3, 887, 884, 885, 886, 100], [mX3_survey]), (.aload_n 0, [], []), (.getfield 72, [2, 9, 12, 466], []), (.aload_n 0, [], []), (.getfield 26, [2, 9, 4, 458], []), (.iload_n 1, [], []), (.invokevirtual 259, [0, 2, 0, 0, 3, 895, 919, 893, 894, 100], [mX3_ovensFilled]), (.ireturn, [0], [])]
theorem kX9_fills_14 : chL mX9_fills 14 bX9_fills_14 = true := by decide +kernel
def bX9_served_0 : List AI := [(.iload_n 1, [], []), (.ifCond .lt 8, [9], []), (.iload_n 1, [], []), (.iconst 2, [], []), (.if_icmp .le 6, [12], []), (.nop, [9], [])]
theorem kX9_served_0 : chL mX9_served 0 bX9_served_0 = true := by decide +kernel
def bX9_served_9 : List AI := [(.bipush (-2), [], []), (.ireturn, [0], [])]
theorem kX9_served_9 : chL mX9_served 9 bX9_served_9 = true := by decide +kernel
def bX9_served_12 : List AI := [(.aload_n 0, [], []), (.getfield 72, [2, 9, 12, 466], []), (.aload_n 0, [], []), (.getfield 26, [2, 9, 4, 458], []), (.invokevirtual 254, [0, 1, 0, 0, 3, 887, 884, 885, 886, 100], [mX3_survey]), (.aload_n 0, [], []), (.getfield 72, [2, 9, 12, 466], []), (.invokevirtual 262, [0, 0, 0, 0, 3, 927, 924, 925, 926, 100], [mX3_findServed]), (.iload_n 1, [], []), (.lookupswitch 52 #[(0, 25), (1, 36)], [83, 56, 67], [])]
theorem kX9_served_12 : chL mX9_served 12 bX9_served_12 = true := by decide +kernel
def bX9_served_56 : List AI := [(.aload_n 0, [], []), (.getfield 72, [2, 9, 12, 466], []), (.getfield 265, [0, 3, 1, 355], []), (.invokestatic 268, [0, 1, 0, 0, 955, 964, 954, 111], [mJ6_bitCount_0f7a4]), (.ireturn, [0], [])]
theorem kX9_served_56 : chL mX9_served 56 bX9_served_56 = true := by decide +kernel
def bX9_served_67 : List AI := [(.aload_n 0, [], []), (.getfield 72, [2, 9, 12, 466], []), (.getfield 273, [2, 3, 6, 365], []), (.aload_n 0, [], []), (.getfield 72, [2, 9, 12, 466], []), (.getfield 265, [0, 3, 1, 355], []), (.iaload, [0], []), (.ireturn, [0], [])]
theorem kX9_served_67 : chL mX9_served 67 bX9_served_67 = true := by decide +kernel
def bX9_served_83 : List AI := [(.aload_n 0, [], []), (.getfield 72, [2, 9, 12, 466], []), (.getfield 265, [0, 3, 1, 355], []), (.ireturn, [0], [])]
theorem kX9_served_83 : chL mX9_served 83 bX9_served_83 = true := by decide +kernel
def bX9_parted_0 : List AI := [(.aload_n 0, [], []), (.getfield 72, [2, 9, 12, 466], []), (.aload_n 0, [], []), (.getfield 26, [2, 9, 4, 458], []), (.invokevirtual 254, [0, 1, 0, 0, 3, 887, 884, 885, 886, 100], [mX3_survey]), (.aload_n 0, [], []), (.getfield 72, [2, 9, 12, 466], []), (.getfield 276, [0, 3, 0, 353], []), (.invokestatic 268, [0, 1, 0, 0, 955, 964, 954, 111], [mJ6_bitCount_0f7a4]), (.bipush 8, [], []), (.if_icmp .le 8, [31], []), (.bipush (-4), [], []), (.goto 10, [38], [])]
theorem kX9_parted_0 : chL mX9_parted 0 bX9_parted_0 = true := by decide +kernel
def bX9_parted_31 : List AI := [(.aload_n 0, [], []), (.getfield 72, [2, 9, 12, 466], []), (.invokevirtual 279, [0, 0, 0, 0, 3, 972, 969, 970, 971, 100], [mX3_countPartings]), (.nop, [38], [])]
theorem kX9_parted_31 : chL mX9_parted 31 bX9_parted_31 = true := by decide +kernel
def bX9_parted_38 : List AI := [(.ireturn, [0], [])]
theorem kX9_parted_38 : chL mX9_parted 38 bX9_parted_38 = true := by decide +kernel
def bX9_together_0 : List AI := [(.aload_n 0, [], []), (.getfield 26, [2, 9, 4, 458], []), (.iload_n 1, [], []), (.invokevirtual 107, [0, 1, 0, 0, 8, 674, 671, 672, 673, 94], [mX8_hasFamily]), (.ifCond .ne 6, [14], []), (.bipush (-2), [], []), (.ireturn, [0], [])]
theorem kX9_together_0 : chL mX9_together 0 bX9_together_0 = true := by decide +kernel
def bX9_together_14 : List AI := [(.aload_n 0, [], []), (.getfield 72, [2, 9, 12, 466], []), (.aload_n 0, [], []), (.getfield 26, [2, 9, 4, 458], []), (.invokevirtual 254, [0, 1, 0, 0, 3, 887, 884, 885, 886, 100], [mX3_survey]), (.aload_n 0, [], []), (.getfield 72, [2, 9, 12, 466], []), (.getfield 276, [0, 3, 0, 353], []), (.invokestatic 268, [0, 1, 0, 0, 955, 964, 954, 111], [mJ6_bitCount_0f7a4]), (.bipush 8, [], []), (.if_icmp .le 6, [43], []), (.bipush (-4), [], []), (.ireturn, [0], [])]
theorem kX9_together_14 : chL mX9_together 14 bX9_together_14 = true := by decide +kernel
def bX9_together_43 : List AI := [(.aload_n 0, [], []), (.getfield 72, [2, 9, 12, 466], []), (.iload_n 1, [], []), (.invokevirtual 282, [0, 1, 0, 0, 3, 980, 977, 978, 979, 100], [mX3_alwaysWith]), (.ireturn, [0], [])]
theorem kX9_together_43 : chL mX9_together 43 bX9_together_43 = true := by decide +kernel
def bX9_stones_0 : List AI := [(.aload_n 0, [], []), (.getfield 26, [2, 9, 4, 458], []), (.iload_n 1, [], []), (.invokevirtual 154, [0, 1, 0, 0, 8, 698, 695, 696, 697, 94], [mX8_hasOven]), (.ifCond .eq 12, [20], []), (.iload_n 2, [], []), (.ifCond .lt 8, [20], []), (.iload_n 2, [], []), (.iconst 1, [], []), (.if_icmp .le 6, [23], []), (.nop, [20], [])]
theorem kX9_stones_0 : chL mX9_stones 0 bX9_stones_0 = true := by decide +kernel
def bX9_stones_20 : List AI := [(.bipush (-2), [], []), (.ireturn, [0], [])]
theorem kX9_stones_20 : chL mX9_stones 20 bX9_stones_20 = true := by decide +kernel
def bX9_stones_23 : List AI := [(.aload_n 0, [], []), (.getfield 26, [2, 9, 4, 458], []), (.getfield 157, [2, 8, 7, 230], []), (.iload_n 1, [], []), (.iaload, [0], []), (.istore_n 3, [], []), (.aload_n 0, [], []), (.getfield 26, [2, 9, 4, 458], []), (.invokevirtual 285, [0, 0, 0, 0, 8, 989, 986, 987, 988, 94], [mX8_greatestWish]), (.iload_n 3, [], []), (.if_icmp .le 5, [46], []), (.iconst (-1), [], []), (.ireturn, [0], [])]
theorem kX9_stones_23 : chL mX9_stones 23 bX9_stones_23 = true := by decide +kernel
def bX9_stones_46 : List AI := [(.aload_n 0, [], []), (.getfield 72, [2, 9, 12, 466], []), (.aload_n 0, [], []), (.getfield 26, [2, 9, 4, 458], []), (.invokevirtual 254, [0, 1, 0, 0, 3, 887, 884, 885, 886, 100], [mX3_survey]), (.aload_n 0, [], []), (.getfield 72, [2, 9, 12, 466], []), (.iload_n 3, [], []), (.invokevirtual 288, [0, 1, 0, 0, 3, 994, 991, 992, 993, 100], [mX3_fewestFires]), (.istore 4, [], []), (.iload_n 2, [], []), (.ifCond .ne 8, [76], []), (.iload 4, [], []), (.goto 15, [88], [])]
theorem kX9_stones_46 : chL mX9_stones 46 bX9_stones_46 = true := by decide +kernel
def bX9_stones_76 : List AI := [(.iload 4, [], []), (.iload_n 3, [], []), (.imul, [], []), (.aload_n 0, [], []), (.getfield 26, [2, 9, 4, 458], []), (.invokevirtual 290, [0, 0, 0, 0, 8, 998, 995, 996, 997, 94], [mX8_allWishes]), (.isub, [], []), (.nop, [88], [])]
theorem kX9_stones_76 : chL mX9_stones 76 bX9_stones_76 = true := by decide +kernel
def bX9_stones_88 : List AI := [(.ireturn, [0], [])]
theorem kX9_stones_88 : chL mX9_stones 88 bX9_stones_88 = true := by decide +kernel
def bX9_leaves_0 : List AI := [(.aload_n 0, [], []), (.getfield 26, [2, 9, 4, 458], []), (.iload_n 1, [], []), (.invokevirtual 154, [0, 1, 0, 0, 8, 698, 695, 696, 697, 94], [mX8_hasOven]), (.ifCond .ne 6, [14], []), (.bipush (-2), [], []), (.ireturn, [0], [])]
theorem kX9_leaves_0 : chL mX9_leaves 0 bX9_leaves_0 = true := by decide +kernel
def bX9_leaves_14 : List AI := [(.aload_n 0, [], []), (.getfield 72, [2, 9, 12, 466], []), (.aload_n 0, [], []), (.getfield 26, [2, 9, 4, 458], []), (.invokevirtual 254, [0, 1, 0, 0, 3, 887, 884, 885, 886, 100], [mX3_survey]), (.aload_n 0, [], []), (.getfield 26, [2, 9, 4, 458], []), (.iload_n 2, [], []), (.invokevirtual 190, [0, 1, 0, 0, 8, 752, 749, 750, 751, 94], [mX8_hasSet]), (.ifCond .eq 24, [57], []), (.aload_n 0, [], []), (.getfield 72, [2, 9, 12, 466], []), (.getfield 293, [2, 3, 5, 363], []), (.iload_n 2, [], []), (.iaload, [0], []), (.aload_n 0, [], []), (.getfield 26, [2, 9, 4, 458], []), (.getfield 157, [2, 8, 7, 230], []), (.iload_n 1, [], []), (.iaload, [0], []), (.if_icmp .eq 6, [60], []), (.nop, [57], [])]
theorem kX9_leaves_14 : chL mX9_leaves 14 bX9_leaves_14 = true := by decide +kernel
def bX9_leaves_57 : List AI := [(.bipush (-5), [], []), (.ireturn, [0], [])]
theorem kX9_leaves_57 : chL mX9_leaves 57 bX9_leaves_57 = true := by decide +kernel
def bX9_leaves_60 : List AI := [(.aload_n 0, [], []), (.getfield 72, [2, 9, 12, 466], []), (.aload_n 0, [], []), (.getfield 26, [2, 9, 4, 458], []), (.iload_n 1, [], []), (.iload_n 2, [], []), (.invokevirtual 296, [0, 3, 0, 0, 3, 903, 1003, 901, 902, 100], [mX3_leavers]), (.ireturn, [0], [])]
theorem kX9_leaves_60 : chL mX9_leaves 60 bX9_leaves_60 = true := by decide +kernel
def bX9_stable_0 : List AI := [(.aload_n 0, [], []), (.getfield 26, [2, 9, 4, 458], []), (.iload_n 1, [], []), (.invokevirtual 154, [0, 1, 0, 0, 8, 698, 695, 696, 697, 94], [mX8_hasOven]), (.ifCond .ne 6, [14], []), (.bipush (-2), [], []), (.ireturn, [0], [])]
theorem kX9_stable_0 : chL mX9_stable 0 bX9_stable_0 = true := by decide +kernel
def bX9_stable_14 : List AI := [(.aload_n 0, [], []), (.getfield 72, [2, 9, 12, 466], []), (.aload_n 0, [], []), (.getfield 26, [2, 9, 4, 458], []), (.invokevirtual 254, [0, 1, 0, 0, 3, 887, 884, 885, 886, 100], [mX3_survey]), (.aload_n 0, [], []), (.getfield 72, [2, 9, 12, 466], []), (.aload_n 0, [], []), (.getfield 26, [2, 9, 4, 458], []), (.iload_n 1, [], []), (.iload_n 2, [], []), (.iconst 1, [], []), (.invokevirtual 255, [0, 4, 0, 0, 3, 899, 896, 897, 898, 100], [mX3_pick]), (.ireturn, [0], [])]
theorem kX9_stable_14 : chL mX9_stable 14 bX9_stable_14 = true := by decide +kernel
def bX9_better_0 : List AI := [(.iload_n 1, [], []), (.ifCond .lt 8, [9], []), (.iload_n 1, [], []), (.iconst 2, [], []), (.if_icmp .le 6, [12], []), (.nop, [9], [])]
theorem kX9_better_0 : chL mX9_better 0 bX9_better_0 = true := by decide +kernel
def bX9_better_9 : List AI := [(.bipush (-2), [], []), (.ireturn, [0], [])]
theorem kX9_better_9 : chL mX9_better 9 bX9_better_9 = true := by decide +kernel
def bX9_better_12 : List AI := [(.aload_n 0, [], []), (.getfield 72, [2, 9, 12, 466], []), (.aload_n 0, [], []), (.getfield 26, [2, 9, 4, 458], []), (.invokevirtual 254, [0, 1, 0, 0, 3, 887, 884, 885, 886, 100], [mX3_survey]), (.aload_n 0, [], []), (.getfield 72, [2, 9, 12, 466], []), (.aload_n 0, [], []), (.getfield 26, [2, 9, 4, 458], []), (.invokevirtual 299, [0, 1, 0, 0, 3, 1015, 1012, 1013, 1014, 100], [mX3_findBetter]), (.iload_n 1, [], []), (.lookupswitch 41 #[(0, 25), (1, 33)], [76, 60, 68], [])]
theorem kX9_better_12 : chL mX9_better 12 bX9_better_12 = true := by decide +kernel
def bX9_better_60 : List AI := [(.aload_n 0, [], []), (.getfield 72, [2, 9, 12, 466], []), (.getfield 302, [0, 3, 2, 357], []), (.ireturn, [0], [])]
theorem kX9_better_60 : chL mX9_better 60 bX9_better_60 = true := by decide +kernel
def bX9_better_68 : List AI := [(.aload_n 0, [], []), (.getfield 72, [2, 9, 12, 466], []), (.getfield 305, [0, 3, 3, 359], []), (.ireturn, [0], [])]
theorem kX9_better_68 : chL mX9_better 68 bX9_better_68 = true := by decide +kernel
def bX9_better_76 : List AI := [(.aload_n 0, [], []), (.getfield 72, [2, 9, 12, 466], []), (.getfield 308, [0, 3, 4, 361], []), (.ireturn, [0], [])]
theorem kX9_better_76 : chL mX9_better 76 bX9_better_76 = true := by decide +kernel
def bX9_lend_0 : List AI := [(.aload_n 0, [], []), (.getfield 26, [2, 9, 4, 458], []), (.iload_n 1, [], []), (.iload_n 2, [], []), (.invokevirtual 163, [0, 2, 0, 0, 8, 710, 707, 708, 709, 94], [mX8_hasPair]), (.ifCond .ne 6, [15], []), (.bipush (-2), [], []), (.ireturn, [0], [])]
theorem kX9_lend_0 : chL mX9_lend 0 bX9_lend_0 = true := by decide +kernel
def bX9_lend_15 : List AI := [(.iload_n 3, [], []), (.iconst 1, [], []), (.if_icmp .lt 19, [36], []), (.iload_n 3, [], []), (.aload_n 0, [], []), (.getfield 26, [2, 9, 4, 458], []), (.getfield 111, [2, 8, 6, 222], []), (.iload_n 1, [], []), (.aaload, [0], []), (.getfield 120, [0, 2, 1, 139], []), (.if_icmp .le 6, [39], []), (.nop, [36], [])]
theorem kX9_lend_15 : chL mX9_lend 15 bX9_lend_15 = true := by decide +kernel
def bX9_lend_36 : List AI := [(.bipush (-3), [], []), (.ireturn, [0], [])]
theorem kX9_lend_36 : chL mX9_lend 36 bX9_lend_36 = true := by decide +kernel
def bX9_lend_39 : List AI := [(.aload_n 0, [], []), (.getfield 26, [2, 9, 4, 458], []), (.getfield 111, [2, 8, 6, 222], []), (.iload_n 2, [], []), (.aaload, [0], []), (.getfield 120, [0, 2, 1, 139], []), (.iload_n 3, [], []), (.iadd, [], []), (.sipush 999, [], []), (.if_icmp .le 6, [62], []), (.bipush (-4), [], []), (.ireturn, [0], [])]
theorem kX9_lend_39 : chL mX9_lend 39 bX9_lend_39 = true := by decide +kernel
def bX9_lend_62 : List AI := [(.aload_n 0, [], []), (.getfield 26, [2, 9, 4, 458], []), (.iload_n 1, [], []), (.iload_n 2, [], []), (.iload_n 3, [], []), (.invokevirtual 311, [0, 3, 0, 0, 8, 1027, 1024, 1025, 1026, 94], [mX8_giveFlour]), (.ireturn, [0], [])]
theorem kX9_lend_62 : chL mX9_lend 62 bX9_lend_62 = true := by decide +kernel
def bX9_owed_0 : List AI := [(.aload_n 0, [], []), (.getfield 26, [2, 9, 4, 458], []), (.iload_n 1, [], []), (.invokevirtual 107, [0, 1, 0, 0, 8, 674, 671, 672, 673, 94], [mX8_hasFamily]), (.ifCond .eq 14, [22], []), (.aload_n 0, [], []), (.getfield 26, [2, 9, 4, 458], []), (.iload_n 2, [], []), (.invokevirtual 107, [0, 1, 0, 0, 8, 674, 671, 672, 673, 94], [mX8_hasFamily]), (.ifCond .ne 6, [25], []), (.nop, [22], [])]
theorem kX9_owed_0 : chL mX9_owed 0 bX9_owed_0 = true := by decide +kernel
def bX9_owed_22 : List AI := [(.bipush (-2), [], []), (.ireturn, [0], [])]
theorem kX9_owed_22 : chL mX9_owed 22 bX9_owed_22 = true := by decide +kernel
def bX9_owed_25 : List AI := [(.aload_n 0, [], []), (.getfield 26, [2, 9, 4, 458], []), (.getfield 111, [2, 8, 6, 222], []), (.iload_n 1, [], []), (.aaload, [0], []), (.getfield 315, [2, 2, 8, 169], []), (.iload_n 2, [], []), (.iaload, [0], []), (.ireturn, [0], [])]
theorem kX9_owed_25 : chL mX9_owed 25 bX9_owed_25 = true := by decide +kernel
def bX9_ring_0 : List AI := [(.aload_n 0, [], []), (.getfield 79, [2, 9, 13, 467], []), (.aload_n 0, [], []), (.getfield 26, [2, 9, 4, 458], []), (.invokevirtual 318, [0, 1, 0, 0, 1, 1040, 1037, 1038, 1039, 101], [mX1_findRing]), (.aload_n 0, [], []), (.getfield 79, [2, 9, 13, 467], []), (.getfield 321, [0, 1, 0, 400], []), (.ifCond .ne 5, [23], []), (.iconst (-1), [], []), (.ireturn, [0], [])]
theorem kX9_ring_0 : chL mX9_ring 0 bX9_ring_0 = true := by decide +kernel
def bX9_ring_23 : List AI := [(.iload_n 1, [], []), (.iconst (-1), [], []), (.if_icmp .ne 11, [36], []), (.aload_n 0, [], []), (.getfield 79, [2, 9, 13, 467], []), (.getfield 321, [0, 1, 0, 400], []), (.ireturn, [0], [])]
theorem kX9_ring_23 : chL mX9_ring 23 bX9_ring_23 = true := by decide +kernel
def bX9_ring_36 : List AI := [(.iload_n 1, [], []), (.ifCond .lt 14, [51], []), (.iload_n 1, [], []), (.aload_n 0, [], []), (.getfield 79, [2, 9, 13, 467], []), (.getfield 321, [0, 1, 0, 400], []), (.if_icmp .lt 7, [55], []), (.nop, [51], [])]
theorem kX9_ring_36 : chL mX9_ring 36 bX9_ring_36 = true := by decide +kernel
def bX9_ring_51 : List AI := [(.iconst (-1), [], []), (.goto 12, [64], [])]
theorem kX9_ring_51 : chL mX9_ring 51 bX9_ring_51 = true := by decide +kernel
def bX9_ring_55 : List AI := [(.aload_n 0, [], []), (.getfield 79, [2, 9, 13, 467], []), (.getfield 322, [2, 1, 1, 402], []), (.iload_n 1, [], []), (.iaload, [0], []), (.nop, [64], [])]
theorem kX9_ring_55 : chL mX9_ring 55 bX9_ring_55 = true := by decide +kernel
def bX9_ring_64 : List AI := [(.ireturn, [0], [])]
theorem kX9_ring_64 : chL mX9_ring 64 bX9_ring_64 = true := by decide +kernel
def bX9_clear_0 : List AI := [(.aload_n 0, [], []), (.getfield 79, [2, 9, 13, 467], []), (.aload_n 0, [], []), (.getfield 26, [2, 9, 4, 458], []), (.invokevirtual 325, [0, 1, 0, 0, 1, 1067, 1064, 1065, 1066, 101], [mX1_clearRings]), (.ireturn, [0], [])]
theorem kX9_clear_0 : chL mX9_clear 0 bX9_clear_0 = true := by decide +kernel
def bX9_payments_0 : List AI := [(.aload_n 0, [], []), (.getfield 79, [2, 9, 13, 467], []), (.aload_n 0, [], []), (.getfield 26, [2, 9, 4, 458], []), (.invokevirtual 329, [0, 1, 0, 0, 1, 1088, 1085, 1086, 1087, 101], [mX1_fewestPayments]), (.ireturn, [0], [])]
theorem kX9_payments_0 : chL mX9_payments 0 bX9_payments_0 = true := by decide +kernel
def bX9_ahead_0 : List AI := [(.iload_n 2, [], []), (.bipush 10, [], []), (.if_icmp .lt 13, [16], []), (.iload_n 2, [], []), (.bipush 17, [], []), (.if_icmp .ge 7, [16], []), (.iconst 1, [], []), (.goto 4, [17], [])]
theorem kX9_ahead_0 : chL mX9_ahead 0 bX9_ahead_0 = true := by decide +kernel
def bX9_ahead_16 : List AI := [(.iconst 0, [], []), (.nop, [17], [])]
theorem kX9_ahead_16 : chL mX9_ahead 16 bX9_ahead_16 = true := by decide +kernel
def bX9_ahead_17 : List AI := [(.istore_n 3, [], []), (.iload_n 3, [], []), (.ifCond .ne 15, [34], []), (.iload_n 2, [], []), (.ifCond .lt 8, [31], []), (.iload_n 2, [], []), (.iconst 2, [], []), (.if_icmp .le 6, [34], []), (.nop, [31], [])]
theorem kX9_ahead_17 : chL mX9_ahead 17 bX9_ahead_17 = true := by decide +kernel
def bX9_ahead_31 : List AI := [(.bipush (-2), [], []), (.ireturn, [0], [])]
theorem kX9_ahead_31 : chL mX9_ahead 31 bX9_ahead_31 = true := by decide +kernel
def bX9_ahead_34 : List AI := [(.iload_n 1, [], []), (.iconst 1, [], []), (.if_icmp .lt 9, [45], []), (.iload_n 1, [], []), (.bipush 7, [], []), (.if_icmp .le 6, [48], []), (.nop, [45], [])]
theorem kX9_ahead_34 : chL mX9_ahead 34 bX9_ahead_34 = true := by decide +kernel
def bX9_ahead_45 : List AI := [(.bipush (-3), [], []), (.ireturn, [0], [])]
theorem kX9_ahead_45 : chL mX9_ahead 45 bX9_ahead_45 = true := by decide +kernel
def bX9_ahead_48 : List AI := [(.aload_n 0, [], []), (.getfield 26, [2, 9, 4, 458], []), (.getfield 332, [0, 8, 1, 203], []), (.ifCond .ne 6, [61], []), (.bipush (-5), [], []), (.ireturn, [0], [])]
theorem kX9_ahead_48 : chL mX9_ahead 48 bX9_ahead_48 = true := by decide +kernel
def bX9_ahead_61 : List AI := [(.iload_n 3, [], []), (.ifCond .eq 13, [75], []), (.iload_n 2, [], []), (.bipush 10, [], []), (.isub, [], []), (.iload_n 1, [], []), (.if_icmp .lt 5, [75], []), (.iconst (-1), [], []), (.ireturn, [0], [])]
theorem kX9_ahead_61 : chL mX9_ahead 61 bX9_ahead_61 = true := by decide +kernel
def bX9_ahead_75 : List AI := [(.aload_n 0, [], []), (.getfield 86, [2, 9, 14, 468], []), (.aload_n 0, [], []), (.getfield 26, [2, 9, 4, 458], []), (.iload_n 1, [], []), (.iconst 1, [], []), (.invokevirtual 335, [0, 3, 0, 0, 4, 1102, 1099, 1100, 1101, 102], [mX4_look]), (.iload_n 2, [], []), (.tableswitch 51 0 2 #[27, 35, 43], [140, 116, 124, 132], [])]
theorem kX9_ahead_75 : chL mX9_ahead 75 bX9_ahead_75 = true := by decide +kernel
def bX9_ahead_116 : List AI := [(.aload_n 0, [], []), (.getfield 86, [2, 9, 14, 468], []), (.invokevirtual 339, [0, 0, 0, 0, 4, 1125, 1122, 1123, 1124, 102], [mX4_leastHunger]), (.ireturn, [0], [])]
theorem kX9_ahead_116 : chL mX9_ahead 116 bX9_ahead_116 = true := by decide +kernel
def bX9_ahead_124 : List AI := [(.aload_n 0, [], []), (.getfield 86, [2, 9, 14, 468], []), (.invokevirtual 342, [0, 0, 0, 0, 4, 1129, 1126, 1127, 1128, 102], [mX4_leastStale]), (.ireturn, [0], [])]
theorem kX9_ahead_124 : chL mX9_ahead 124 bX9_ahead_124 = true := by decide +kernel
def bX9_ahead_132 : List AI := [(.aload_n 0, [], []), (.getfield 86, [2, 9, 14, 468], []), (.invokevirtual 345, [0, 0, 0, 0, 4, 1133, 1130, 1131, 1132, 102], [mX4_fewestFires]), (.ireturn, [0], [])]
theorem kX9_ahead_132 : chL mX9_ahead 132 bX9_ahead_132 = true := by decide +kernel
def bX9_ahead_140 : List AI := [(.aload_n 0, [], []), (.getfield 86, [2, 9, 14, 468], []), (.getfield 347, [2, 4, 0, 429], []), (.iload_n 2, [], []), (.bipush 10, [], []), (.isub, [], []), (.iaload, [0], []), (.ireturn, [0], [])]
theorem kX9_ahead_140 : chL mX9_ahead 140 bX9_ahead_140 = true := by decide +kernel
def bX9_enough_0 : List AI := [(.iload_n 1, [], []), (.iconst 1, [], []), (.if_icmp .lt 9, [11], []), (.iload_n 1, [], []), (.bipush 7, [], []), (.if_icmp .le 6, [14], []), (.nop, [11], [])]
theorem kX9_enough_0 : chL mX9_enough 0 bX9_enough_0 = true := by decide +kernel
def bX9_enough_11 : List AI := [(.bipush (-3), [], []), (.ireturn, [0], [])]
theorem kX9_enough_11 : chL mX9_enough 11 bX9_enough_11 = true := by decide +kernel
def bX9_enough_14 : List AI := [(.aload_n 0, [], []), (.getfield 26, [2, 9, 4, 458], []), (.getfield 332, [0, 8, 1, 203], []), (.ifCond .ne 6, [27], []), (.bipush (-5), [], []), (.ireturn, [0], [])]
theorem kX9_enough_14 : chL mX9_enough 14 bX9_enough_14 = true := by decide +kernel
def bX9_enough_27 : List AI := [(.aload_n 0, [], []), (.getfield 86, [2, 9, 14, 468], []), (.aload_n 0, [], []), (.getfield 26, [2, 9, 4, 458], []), (.iload_n 1, [], []), (.iconst 0, [], []), (.invokevirtual 335, [0, 3, 0, 0, 4, 1102, 1099, 1100, 1101, 102], [mX4_look]), (.aload_n 0, [], []), (.getfield 86, [2, 9, 14, 468], []), (.invokevirtual 339, [0, 0, 0, 0, 4, 1125, 1122, 1123, 1124, 102], [mX4_leastHunger]), (.ifCond .le 7, [54], []), (.iconst (-1), [], []), (.goto 10, [61], [])]
theorem kX9_enough_27 : chL mX9_enough 27 bX9_enough_27 = true := by decide +kernel
def bX9_enough_54 : List AI := [(.aload_n 0, [], []), (.getfield 86, [2, 9, 14, 468], []), (.invokevirtual 345, [0, 0, 0, 0, 4, 1133, 1130, 1131, 1132, 102], [mX4_fewestFires]), (.nop, [61], [])]
theorem kX9_enough_54 : chL mX9_enough 54 bX9_enough_54 = true := by decide +kernel
def bX9_enough_61 : List AI := [(.ireturn, [0], [])]
theorem kX9_enough_61 : chL mX9_enough 61 bX9_enough_61 = true := by decide +kernel
def bX9_marry_0 : List AI := [(.aload_n 0, [], []), (.getfield 26, [2, 9, 4, 458], []), (.iload_n 1, [], []), (.iload_n 2, [], []), (.invokevirtual 163, [0, 2, 0, 0, 8, 710, 707, 708, 709, 94], [mX8_hasPair]), (.ifCond .ne 6, [15], []), (.bipush (-2), [], []), (.ireturn, [0], [])]
theorem kX9_marry_0 : chL mX9_marry 0 bX9_marry_0 = true := by decide +kernel
def bX9_marry_15 : List AI := [(.aload_n 0, [], []), (.getfield 26, [2, 9, 4, 458], []), (.getfield 111, [2, 8, 6, 222], []), (.iload_n 1, [], []), (.aaload, [0], []), (.getfield 160, [0, 2, 6, 159], []), (.iload_n 2, [], []), (.ishr, [], []), (.iconst 1, [], []), (.iand, [], []), (.ifCond .eq 6, [37], []), (.bipush (-5), [], []), (.ireturn, [0], [])]
theorem kX9_marry_15 : chL mX9_marry 15 bX9_marry_15 = true := by decide +kernel
def bX9_marry_37 : List AI := [(.aload_n 0, [], []), (.getfield 26, [2, 9, 4, 458], []), (.iload_n 1, [], []), (.iload_n 2, [], []), (.invokestatic 167, [4, 720, 517, 104, 518], []), (.iload_n 1, [], []), (.iload_n 2, [], []), (.invokestatic 350, [5, 1143, 520, 104, 521], []), (.invokevirtual 353, [0, 2, 0, 0, 8, 1147, 1144, 1145, 1146, 94], [mX8_unite]), (.aload_n 0, [], []), (.getfield 26, [2, 9, 4, 458], []), (.getfield 183, [0, 8, 0, 197], []), (.ireturn, [0], [])]
theorem kX9_marry_37 : chL mX9_marry 37 bX9_marry_37 = true := by decide +kernel
def bX9_isRow_0 : List AI := [(.iload_n 0, [], []), (.ifCond .lt 12, [13], []), (.iload_n 0, [], []), (.iconst 4, [], []), (.if_icmp .ge 7, [13], []), (.iconst 1, [], []), (.goto 4, [14], [])]
theorem kX9_isRow_0 : chL mX9_isRow 0 bX9_isRow_0 = true := by decide +kernel
def bX9_isRow_13 : List AI := [(.iconst 0, [], []), (.nop, [14], [])]
theorem kX9_isRow_13 : chL mX9_isRow 13 bX9_isRow_13 = true := by decide +kernel
def bX9_isRow_14 : List AI := [(.ireturn, [1], [])]
theorem kX9_isRow_14 : chL mX9_isRow 14 bX9_isRow_14 = true := by decide +kernel
def bX9_isImage_0 : List AI := [(.iload_n 0, [], []), (.ifCond .lt 12, [13], []), (.iload_n 0, [], []), (.iconst 2, [], []), (.if_icmp .ge 7, [13], []), (.iconst 1, [], []), (.goto 4, [14], [])]
theorem kX9_isImage_0 : chL mX9_isImage 0 bX9_isImage_0 = true := by decide +kernel
def bX9_isImage_13 : List AI := [(.iconst 0, [], []), (.nop, [14], [])]
theorem kX9_isImage_13 : chL mX9_isImage 13 bX9_isImage_13 = true := by decide +kernel
def bX9_isImage_14 : List AI := [(.ireturn, [1], [])]
theorem kX9_isImage_14 : chL mX9_isImage 14 bX9_isImage_14 = true := by decide +kernel
def bX9_numbers_0 : List AI := [(.iload_n 1, [], []), (.invokestatic 173, [0, 1, 0, 0, 727, 725, 726, 93], [mX9_isRow]), (.ifCond .eq 12, [16], []), (.iload_n 2, [], []), (.ifCond .lt 8, [16], []), (.iload_n 2, [], []), (.iconst 4, [], []), (.if_icmp .lt 6, [19], []), (.nop, [16], [])]
theorem kX9_numbers_0 : chL mX9_numbers 0 bX9_numbers_0 = true := by decide +kernel
def bX9_numbers_16 : List AI := [(.bipush (-2), [], []), (.ireturn, [0], [])]
theorem kX9_numbers_16 : chL mX9_numbers 16 bX9_numbers_16 = true := by decide +kernel
def bX9_numbers_19 : List AI := [(.iload_n 3, [], []), (.ifCond .lt 9, [29], []), (.iload_n 3, [], []), (.bipush 40, [], []), (.if_icmp .le 6, [32], []), (.nop, [29], [])]
theorem kX9_numbers_19 : chL mX9_numbers 19 bX9_numbers_19 = true := by decide +kernel
def bX9_numbers_29 : List AI := [(.bipush (-3), [], []), (.ireturn, [0], [])]
theorem kX9_numbers_29 : chL mX9_numbers 29 bX9_numbers_29 = true := by decide +kernel
def bX9_numbers_32 : List AI := [(.aload_n 0, [], []), (.getfield 43, [2, 9, 8, 462], []), (.iload_n 1, [], []), (.aaload, [1], []), (.iload_n 2, [], []), (.iload_n 3, [], []), (.invokevirtual 357, [0, 2, 0, 0, 6, 1163, 1160, 1161, 1162, 96], [mX6_make]), (.iconst 0, [], []), (.ireturn, [0], [])]
theorem kX9_numbers_32 : chL mX9_numbers 32 bX9_numbers_32 = true := by decide +kernel
def bX9_write_0 : List AI := [(.iload_n 1, [], []), (.invokestatic 173, [0, 1, 0, 0, 727, 725, 726, 93], [mX9_isRow]), (.ifCond .ne 7, [11], []), (.ldc2_w 360, [18446744073709551614, 1171], []), (.lreturn, [], [])]
theorem kX9_write_0 : chL mX9_write 0 bX9_write_0 = true := by decide +kernel
def bX9_write_11 : List AI := [(.aload_n 0, [], []), (.getfield 43, [2, 9, 8, 462], []), (.iload_n 1, [], []), (.aaload, [1], []), (.getfield 176, [0, 6, 0, 257], []), (.ifCond .ne 7, [27], []), (.ldc2_w 362, [18446744073709551610, 1172], []), (.lreturn, [], [])]
theorem kX9_write_11 : chL mX9_write 11 bX9_write_11 = true := by decide +kernel
def bX9_write_27 : List AI := [(.iload_n 2, [], []), (.ifCond .lt 16, [44], []), (.iload_n 2, [], []), (.aload_n 0, [], []), (.getfield 43, [2, 9, 8, 462], []), (.iload_n 1, [], []), (.aaload, [1], []), (.getfield 180, [0, 6, 2, 261], []), (.if_icmp .lt 7, [48], []), (.nop, [44], [])]
theorem kX9_write_27 : chL mX9_write 27 bX9_write_27 = true := by decide +kernel
def bX9_write_44 : List AI := [(.ldc2_w 364, [18446744073709551609, 1173], []), (.lreturn, [], [])]
theorem kX9_write_44 : chL mX9_write 44 bX9_write_44 = true := by decide +kernel
def bX9_write_48 : List AI := [(.aload_n 0, [], []), (.getfield 43, [2, 9, 8, 462], []), (.iload_n 1, [], []), (.aaload, [1], []), (.iload_n 2, [], []), (.lload_n 3, [], []), (.invokevirtual 366, [0, 2, 0, 0, 6, 1177, 1174, 1175, 1176, 96], [mX6_put]), (.lreturn, [], [])]
theorem kX9_write_48 : chL mX9_write 48 bX9_write_48 = true := by decide +kernel
def bX9_copy_0 : List AI := [(.iload_n 1, [], []), (.invokestatic 173, [0, 1, 0, 0, 727, 725, 726, 93], [mX9_isRow]), (.ifCond .ne 6, [10], []), (.bipush (-2), [], []), (.ireturn, [0], [])]
theorem kX9_copy_0 : chL mX9_copy 0 bX9_copy_0 = true := by decide +kernel
def bX9_copy_10 : List AI := [(.aload_n 0, [], []), (.getfield 43, [2, 9, 8, 462], []), (.iload_n 1, [], []), (.aaload, [1], []), (.getfield 176, [0, 6, 0, 257], []), (.ifCond .ne 6, [25], []), (.bipush (-6), [], []), (.ireturn, [0], [])]
theorem kX9_copy_10 : chL mX9_copy 10 bX9_copy_10 = true := by decide +kernel
def bX9_copy_25 : List AI := [(.aload_n 0, [], []), (.getfield 43, [2, 9, 8, 462], []), (.iload_n 1, [], []), (.aaload, [1], []), (.getfield 180, [0, 6, 2, 261], []), (.aload_n 0, [], []), (.getfield 26, [2, 9, 4, 458], []), (.getfield 183, [0, 8, 0, 197], []), (.if_icmp .ge 6, [47], []), (.bipush (-7), [], []), (.ireturn, [0], [])]
theorem kX9_copy_25 : chL mX9_copy 25 bX9_copy_25 = true := by decide +kernel
def bX9_copy_47 : List AI := [(.iconst 0, [], []), (.istore_n 2, [], []), (.nop, [49], [])]
theorem kX9_copy_47 : chL mX9_copy 47 bX9_copy_47 = true := by decide +kernel
def bX9_copy_49 : List AI := [(.iload_n 2, [], []), (.aload_n 0, [], []), (.getfield 26, [2, 9, 4, 458], []), (.getfield 183, [0, 8, 0, 197], []), (.if_icmp .ge 33, [90], []), (.aload_n 0, [], []), (.getfield 43, [2, 9, 8, 462], []), (.iload_n 1, [], []), (.aaload, [1], []), (.iload_n 2, [], []), (.aload_n 0, [], []), (.getfield 26, [2, 9, 4, 458], []), (.getfield 111, [2, 8, 6, 222], []), (.iload_n 2, [], []), (.aaload, [0], []), (.getfield 127, [0, 2, 2, 145], []), (.i2l, [], []), (.invokevirtual 366, [0, 2, 0, 0, 6, 1177, 1174, 1175, 1176, 96], [mX6_put]), (.pop2, [1], []), (.iinc 2 1, [], []), (.goto (-38), [49], [])]
theorem kX9_copy_49 : chL mX9_copy 49 bX9_copy_49 = true := by decide +kernel
def bX9_copy_90 : List AI := [(.aload_n 0, [], []), (.getfield 26, [2, 9, 4, 458], []), (.getfield 183, [0, 8, 0, 197], []), (.ireturn, [0], [])]
theorem kX9_copy_90 : chL mX9_copy 90 bX9_copy_90 = true := by decide +kernel
def bX9_image_0 : List AI := [(.iload_n 1, [], []), (.invokestatic 370, [0, 1, 0, 0, 1192, 1190, 1191, 93], [mX9_isImage]), (.ifCond .ne 6, [10], []), (.bipush (-2), [], []), (.ireturn, [0], [])]
theorem kX9_image_0 : chL mX9_image 0 bX9_image_0 = true := by decide +kernel
def bX9_image_10 : List AI := [(.aload_n 0, [], []), (.getfield 33, [2, 9, 6, 460], []), (.iload_n 1, [], []), (.aaload, [2], []), (.aload_n 0, [], []), (.getfield 26, [2, 9, 4, 458], []), (.invokevirtual 100, [0, 1, 0, 0, 8, 656, 653, 654, 655, 94], [mX8_become]), (.aload_n 0, [], []), (.getfield 37, [2, 9, 7, 461], []), (.iload_n 1, [], []), (.iconst 1, [], []), (.bastore, [4], []), (.iconst 0, [], []), (.ireturn, [0], [])]
theorem kX9_image_10 : chL mX9_image 10 bX9_image_10 = true := by decide +kernel
def bX9_restore_0 : List AI := [(.iload_n 1, [], []), (.invokestatic 370, [0, 1, 0, 0, 1192, 1190, 1191, 93], [mX9_isImage]), (.ifCond .ne 6, [10], []), (.bipush (-2), [], []), (.ireturn, [0], [])]
theorem kX9_restore_0 : chL mX9_restore 0 bX9_restore_0 = true := by decide +kernel
def bX9_restore_10 : List AI := [(.aload_n 0, [], []), (.getfield 37, [2, 9, 7, 461], []), (.iload_n 1, [], []), (.baload, [4], []), (.ifCond .ne 6, [22], []), (.bipush (-5), [], []), (.ireturn, [0], [])]
theorem kX9_restore_10 : chL mX9_restore 10 bX9_restore_10 = true := by decide +kernel
def bX9_restore_22 : List AI := [(.aload_n 0, [], []), (.getfield 26, [2, 9, 4, 458], []), (.aload_n 0, [], []), (.getfield 33, [2, 9, 6, 460], []), (.iload_n 1, [], []), (.aaload, [2], []), (.invokevirtual 100, [0, 1, 0, 0, 8, 656, 653, 654, 655, 94], [mX8_become]), (.iconst 0, [], []), (.ireturn, [0], [])]
theorem kX9_restore_22 : chL mX9_restore 22 bX9_restore_22 = true := by decide +kernel
def bX9_count_0 : List AI := [(.iload_n 1, [], []), (.tableswitch 120 0 12 #[67, 75, 83, 91, 99, 120, 120, 120, 120, 120, 120, 107, 112], [121, 68, 76, 84, 92, 100, 121, 121, 121, 121, 121, 121, 108, 113], [])]
theorem kX9_count_0 : chL mX9_count 0 bX9_count_0 = true := by decide +kernel
def bX9_count_68 : List AI := [(.aload_n 0, [], []), (.getfield 26, [2, 9, 4, 458], []), (.getfield 183, [0, 8, 0, 197], []), (.ireturn, [0], [])]
theorem kX9_count_68 : chL mX9_count 68 bX9_count_68 = true := by decide +kernel
def bX9_count_76 : List AI := [(.aload_n 0, [], []), (.getfield 26, [2, 9, 4, 458], []), (.getfield 332, [0, 8, 1, 203], []), (.ireturn, [0], [])]
theorem kX9_count_76 : chL mX9_count 76 bX9_count_76 = true := by decide +kernel
def bX9_count_84 : List AI := [(.aload_n 0, [], []), (.getfield 26, [2, 9, 4, 458], []), (.getfield 210, [0, 8, 4, 213], []), (.ireturn, [0], [])]
theorem kX9_count_84 : chL mX9_count 84 bX9_count_84 = true := by decide +kernel
def bX9_count_92 : List AI := [(.aload_n 0, [], []), (.getfield 26, [2, 9, 4, 458], []), (.getfield 147, [0, 8, 2, 207], []), (.ireturn, [0], [])]
theorem kX9_count_92 : chL mX9_count 92 bX9_count_92 = true := by decide +kernel
def bX9_count_100 : List AI := [(.aload_n 0, [], []), (.getfield 26, [2, 9, 4, 458], []), (.getfield 373, [0, 8, 3, 211], []), (.ireturn, [0], [])]
theorem kX9_count_100 : chL mX9_count 100 bX9_count_100 = true := by decide +kernel
def bX9_count_108 : List AI := [(.aload_n 0, [], []), (.getfield 13, [0, 9, 1, 455], []), (.ireturn, [0], [])]
theorem kX9_count_108 : chL mX9_count 108 bX9_count_108 = true := by decide +kernel
def bX9_count_113 : List AI := [(.aload_n 0, [], []), (.getfield 26, [2, 9, 4, 458], []), (.getfield 104, [0, 8, 5, 216], []), (.ireturn, [0], [])]
theorem kX9_count_113 : chL mX9_count 113 bX9_count_113 = true := by decide +kernel
def bX9_count_121 : List AI := [(.aload_n 0, [], []), (.iload_n 1, [], []), (.invokevirtual 376, [0, 1, 0, 0, 9, 1204, 1201, 1203, 39, 93], [mX9_countOfAll]), (.ireturn, [0], [])]
theorem kX9_count_121 : chL mX9_count 121 bX9_count_121 = true := by decide +kernel
def bX9_countOfAll_0 : List AI := [(.iload_n 1, [], []), (.iconst 5, [], []), (.if_icmp .lt 9, [11], []), (.iload_n 1, [], []), (.bipush 13, [], []), (.if_icmp .le 5, [13], []), (.nop, [11], [])]
theorem kX9_countOfAll_0 : chL mX9_countOfAll 0 bX9_countOfAll_0 = true := by decide +kernel
def bX9_countOfAll_11 : List AI := [(.iconst (-1), [], []), (.ireturn, [0], [])]
theorem kX9_countOfAll_11 : chL mX9_countOfAll 11 bX9_countOfAll_11 = true := by decide +kernel
def bX9_countOfAll_13 : List AI := [(.iconst 0, [], []), (.istore_n 2, [], []), (.iconst 0, [], []), (.istore_n 3, [], []), (.nop, [17], [])]
theorem kX9_countOfAll_13 : chL mX9_countOfAll 13 bX9_countOfAll_13 = true := by decide +kernel
def bX9_countOfAll_17 : List AI := [(.iload_n 3, [], []), (.aload_n 0, [], []), (.getfield 26, [2, 9, 4, 458], []), (.getfield 183, [0, 8, 0, 197], []), (.if_icmp .ge 25, [50], []), (.iload_n 2, [], []), (.aload_n 0, [], []), (.getfield 26, [2, 9, 4, 458], []), (.getfield 111, [2, 8, 6, 222], []), (.iload_n 3, [], []), (.aaload, [0], []), (.iload_n 1, [], []), (.invokestatic 379, [0, 2, 0, 0, 1207, 1205, 1206, 93], [mX9_countOfOne]), (.iadd, [], []), (.istore_n 2, [], []), (.iinc 3 1, [], []), (.goto (-30), [17], [])]
theorem kX9_countOfAll_17 : chL mX9_countOfAll 17 bX9_countOfAll_17 = true := by decide +kernel
def bX9_countOfAll_50 : List AI := [(.iload_n 2, [], []), (.ireturn, [0], [])]
theorem kX9_countOfAll_50 : chL mX9_countOfAll 50 bX9_countOfAll_50 = true := by decide +kernel
def bX9_countOfOne_0 : List AI := [(.iload_n 1, [], []), (.tableswitch 69 5 10 #[39, 44, 49, 54, 59, 64], [70, 40, 45, 50, 55, 60, 65], [])]
theorem kX9_countOfOne_0 : chL mX9_countOfOne 0 bX9_countOfOne_0 = true := by decide +kernel
def bX9_countOfOne_40 : List AI := [(.aload_n 0, [], []), (.getfield 120, [0, 2, 1, 139], []), (.ireturn, [0], [])]
theorem kX9_countOfOne_40 : chL mX9_countOfOne 40 bX9_countOfOne_40 = true := by decide +kernel
def bX9_countOfOne_45 : List AI := [(.aload_n 0, [], []), (.invokevirtual 123, [0, 0, 0, 0, 2, 678, 675, 676, 677, 95], [mX2_allBread]), (.ireturn, [0], [])]
theorem kX9_countOfOne_45 : chL mX9_countOfOne 45 bX9_countOfOne_45 = true := by decide +kernel
def bX9_countOfOne_50 : List AI := [(.aload_n 0, [], []), (.getfield 127, [0, 2, 2, 145], []), (.ireturn, [0], [])]
theorem kX9_countOfOne_50 : chL mX9_countOfOne 50 bX9_countOfOne_50 = true := by decide +kernel
def bX9_countOfOne_55 : List AI := [(.aload_n 0, [], []), (.getfield 133, [0, 2, 4, 151], []), (.ireturn, [0], [])]
theorem kX9_countOfOne_55 : chL mX9_countOfOne 55 bX9_countOfOne_55 = true := by decide +kernel
def bX9_countOfOne_60 : List AI := [(.aload_n 0, [], []), (.getfield 136, [0, 2, 5, 154], []), (.ireturn, [0], [])]
theorem kX9_countOfOne_60 : chL mX9_countOfOne 60 bX9_countOfOne_60 = true := by decide +kernel
def bX9_countOfOne_65 : List AI := [(.aload_n 0, [], []), (.getfield 115, [0, 2, 0, 136], []), (.ireturn, [0], [])]
theorem kX9_countOfOne_65 : chL mX9_countOfOne 65 bX9_countOfOne_65 = true := by decide +kernel
def bX9_countOfOne_70 : List AI := [(.aload_n 0, [], []), (.invokevirtual 382, [0, 0, 0, 0, 2, 686, 1208, 684, 685, 95], [mX2_allOwed]), (.ireturn, [0], [])]
theorem kX9_countOfOne_70 : chL mX9_countOfOne 70 bX9_countOfOne_70 = true := by decide +kernel
def bL_law_0 : List AI := [(.new 7, [9, 112, 113, 93], []), (.dup, [], []), (.invokespecial 9, [0, 0, 190, 11527, 116, 114, 115, 93], [mX9_init]), (.astore_n 1, [], []), (.new 10, [10, 1209, 1210, 103], []), (.dup, [], []), (.invokespecial 12, [0, 0, 22, 14830, 1213, 1211, 1212, 103], [mX10_init]), (.astore_n 2, [], []), (.iconst 0, [], []), (.istore_n 3, [], []), (.nop, [18], [])]
theorem kL_law_0 : chL mL_law 0 bL_law_0 = true := by decide +kernel
def bL_law_18 : List AI := [(.iload_n 3, [], []), (.aload_n 0, [], []), (.arraylength, [1], []), (.bipush 6, [], []), (.isub, [], []), (.if_icmp .gt 1459, [1483], []), (.aload_n 0, [], []), (.iload_n 3, [], []), (.iaload, [9], []), (.bipush 63, [], []), (.iand, [], []), (.tableswitch 1444 0 43 #[191, 254, 277, 300, 333, 356, 389, 422, 455, 488, 521, 554, 587, 610, 623, 656, 679, 702, 725, 748, 761, 784, 817, 840, 863, 876, 899, 932, 965, 998, 1021, 1064, 1097, 1120, 1133, 1146, 1179, 1202, 1235, 1278, 1352, 1375, 1398, 1421], [1477, 224, 287, 310, 333, 366, 389, 422, 455, 488, 521, 554, 587, 620, 643, 656, 689, 712, 735, 758, 781, 794, 817, 850, 873, 896, 909, 932, 965, 998, 1031, 1054, 1097, 1130, 1153, 1166, 1179, 1212, 1235, 1268, 1311, 1385, 1408, 1431, 1454], [])]
theorem kL_law_18 : chL mL_law 18 bL_law_18 = true := by decide +kernel
def bL_law_224 : List AI := [(.aload_n 1, [], []), (.aload_n 0, [], []), (.iload_n 3, [], []), (.iconst 1, [], []), (.iadd, [], []), (.iaload, [9], []), (.aload_n 0, [], []), (.iload_n 3, [], []), (.iconst 2, [], []), (.iadd, [], []), (.iaload, [9], []), (.aload_n 0, [], []), (.iload_n 3, [], []), (.iconst 3, [], []), (.iadd, [], []), (.iaload, [9], []), (.aload_n 0, [], []), (.iload_n 3, [], []), (.iconst 4, [], []), (.iadd, [], []), (.iaload, [9], []), (.aload_n 0, [], []), (.iload_n 3, [], []), (.iconst 5, [], []), (.iadd, [], []), (.iaload, [9], []), (.invokevirtual 13, [0, 5, 0, 0, 9, 503, 500, 501, 502, 93], [mX9_feed]), (.aload_n 2, [], []), (.aload_n 0, [], []), (.iload_n 3, [], []), (.iconst 1, [], []), (.iadd, [], []), (.iaload, [9], []), (.aload_n 0, [], []), (.iload_n 3, [], []), (.iconst 2, [], []), (.iadd, [], []), (.iaload, [9], []), (.aload_n 0, [], []), (.iload_n 3, [], []), (.iconst 3, [], []), (.iadd, [], []), (.iaload, [9], []), (.aload_n 0, [], []), (.iload_n 3, [], []), (.iconst 4, [], []), (.iadd, [], []), (.iaload, [9], []), (.aload_n 0, [], []), (.iload_n 3, [], []), (.iconst 5, [], []), (.iadd, [], []), (.iaload, [9], []), (.invokevirtual 17, [0, 5, 0, 0, 10, 1351, 1348, 1349, 1350, 103], [mX10_feed]), (.if_icmp .eq 1195, [1477], []), (.iconst 0, [], []), (.ireturn, [1], [])]
theorem kL_law_224 : chL mL_law 224 bL_law_224 = true := by decide +kernel
def bL_law_287 : List AI := [(.aload_n 1, [], []), (.aload_n 0, [], []), (.iload_n 3, [], []), (.iconst 1, [], []), (.iadd, [], []), (.iaload, [9], []), (.invokevirtual 18, [0, 1, 0, 0, 9, 511, 508, 509, 510, 93], [mX9_village]), (.aload_n 2, [], []), (.aload_n 0, [], []), (.iload_n 3, [], []), (.iconst 1, [], []), (.iadd, [], []), (.iaload, [9], []), (.invokevirtual 22, [0, 1, 0, 0, 10, 1355, 1352, 1353, 1354, 103], [mX10_village]), (.if_icmp .eq 1172, [1477], []), (.iconst 0, [], []), (.ireturn, [1], [])]
theorem kL_law_287 : chL mL_law 287 bL_law_287 = true := by decide +kernel
def bL_law_310 : List AI := [(.aload_n 1, [], []), (.aload_n 0, [], []), (.iload_n 3, [], []), (.iconst 1, [], []), (.iadd, [], []), (.iaload, [9], []), (.invokevirtual 23, [0, 1, 0, 0, 9, 666, 663, 664, 665, 93], [mX9_fault]), (.aload_n 2, [], []), (.aload_n 0, [], []), (.iload_n 3, [], []), (.iconst 1, [], []), (.iadd, [], []), (.iaload, [9], []), (.invokevirtual 26, [0, 1, 0, 0, 10, 1423, 1420, 1421, 1422, 103], [mX10_fault]), (.if_icmp .eq 1149, [1477], []), (.iconst 0, [], []), (.ireturn, [1], [])]
theorem kL_law_310 : chL mL_law 310 bL_law_310 = true := by decide +kernel
def bL_law_333 : List AI := [(.aload_n 1, [], []), (.aload_n 0, [], []), (.iload_n 3, [], []), (.iconst 1, [], []), (.iadd, [], []), (.iaload, [9], []), (.aload_n 0, [], []), (.iload_n 3, [], []), (.iconst 2, [], []), (.iadd, [], []), (.iaload, [9], []), (.invokevirtual 27, [0, 2, 0, 0, 9, 670, 667, 668, 669, 93], [mX9_family]), (.aload_n 2, [], []), (.aload_n 0, [], []), (.iload_n 3, [], []), (.iconst 1, [], []), (.iadd, [], []), (.iaload, [9], []), (.aload_n 0, [], []), (.iload_n 3, [], []), (.iconst 2, [], []), (.iadd, [], []), (.iaload, [9], []), (.invokevirtual 31, [0, 2, 0, 0, 10, 1427, 1424, 1425, 1426, 103], [mX10_family]), (.if_icmp .eq 1116, [1477], []), (.iconst 0, [], []), (.ireturn, [1], [])]
theorem kL_law_333 : chL mL_law 333 bL_law_333 = true := by decide +kernel
def bL_law_366 : List AI := [(.aload_n 1, [], []), (.aload_n 0, [], []), (.iload_n 3, [], []), (.iconst 1, [], []), (.iadd, [], []), (.iaload, [9], []), (.invokevirtual 32, [0, 1, 0, 0, 9, 694, 691, 692, 693, 93], [mX9_oven]), (.aload_n 2, [], []), (.aload_n 0, [], []), (.iload_n 3, [], []), (.iconst 1, [], []), (.iadd, [], []), (.iaload, [9], []), (.invokevirtual 35, [0, 1, 0, 0, 10, 1448, 1445, 1446, 1447, 103], [mX10_oven]), (.if_icmp .eq 1093, [1477], []), (.iconst 0, [], []), (.ireturn, [1], [])]
theorem kL_law_366 : chL mL_law 366 bL_law_366 = true := by decide +kernel
def bL_law_389 : List AI := [(.aload_n 1, [], []), (.aload_n 0, [], []), (.iload_n 3, [], []), (.iconst 1, [], []), (.iadd, [], []), (.iaload, [9], []), (.aload_n 0, [], []), (.iload_n 3, [], []), (.iconst 2, [], []), (.iadd, [], []), (.iaload, [9], []), (.invokevirtual 36, [0, 2, 0, 0, 9, 702, 699, 700, 701, 93], [mX9_quarrel]), (.aload_n 2, [], []), (.aload_n 0, [], []), (.iload_n 3, [], []), (.iconst 1, [], []), (.iadd, [], []), (.iaload, [9], []), (.aload_n 0, [], []), (.iload_n 3, [], []), (.iconst 2, [], []), (.iadd, [], []), (.iaload, [9], []), (.invokevirtual 39, [0, 2, 0, 0, 10, 1456, 1453, 1454, 1455, 103], [mX10_quarrel]), (.if_icmp .eq 1060, [1477], []), (.iconst 0, [], []), (.ireturn, [1], [])]
theorem kL_law_389 : chL mL_law 389 bL_law_389 = true := by decide +kernel
def bL_law_422 : List AI := [(.aload_n 1, [], []), (.aload_n 0, [], []), (.iload_n 3, [], []), (.iconst 1, [], []), (.iadd, [], []), (.iaload, [9], []), (.aload_n 0, [], []), (.iload_n 3, [], []), (.iconst 2, [], []), (.iadd, [], []), (.iaload, [9], []), (.invokevirtual 40, [0, 2, 0, 0, 9, 706, 703, 704, 705, 93], [mX9_fallOut]), (.aload_n 2, [], []), (.aload_n 0, [], []), (.iload_n 3, [], []), (.iconst 1, [], []), (.iadd, [], []), (.iaload, [9], []), (.aload_n 0, [], []), (.iload_n 3, [], []), (.iconst 2, [], []), (.iadd, [], []), (.iaload, [9], []), (.invokevirtual 43, [0, 2, 0, 0, 10, 1464, 1461, 1462, 1463, 103], [mX10_fallOut]), (.if_icmp .eq 1027, [1477], []), (.iconst 0, [], []), (.ireturn, [1], [])]
theorem kL_law_422 : chL mL_law 422 bL_law_422 = true := by decide +kernel
def bL_law_455 : List AI := [(.aload_n 1, [], []), (.aload_n 0, [], []), (.iload_n 3, [], []), (.iconst 1, [], []), (.iadd, [], []), (.iaload, [9], []), (.aload_n 0, [], []), (.iload_n 3, [], []), (.iconst 2, [], []), (.iadd, [], []), (.iaload, [9], []), (.invokevirtual 44, [0, 2, 0, 0, 9, 715, 712, 713, 714, 93], [mX9_wish]), (.aload_n 2, [], []), (.aload_n 0, [], []), (.iload_n 3, [], []), (.iconst 1, [], []), (.iadd, [], []), (.iaload, [9], []), (.aload_n 0, [], []), (.iload_n 3, [], []), (.iconst 2, [], []), (.iadd, [], []), (.iaload, [9], []), (.invokevirtual 47, [0, 2, 0, 0, 10, 1472, 1469, 1470, 1471, 103], [mX10_wish]), (.if_icmp .eq 994, [1477], []), (.iconst 0, [], []), (.ireturn, [1], [])]
theorem kL_law_455 : chL mL_law 455 bL_law_455 = true := by decide +kernel
def bL_law_488 : List AI := [(.aload_n 1, [], []), (.aload_n 0, [], []), (.iload_n 3, [], []), (.iconst 1, [], []), (.iadd, [], []), (.iaload, [9], []), (.aload_n 0, [], []), (.iload_n 3, [], []), (.iconst 2, [], []), (.iadd, [], []), (.iaload, [9], []), (.invokevirtual 48, [0, 2, 0, 0, 9, 719, 716, 717, 718, 93], [mX9_mill]), (.aload_n 2, [], []), (.aload_n 0, [], []), (.iload_n 3, [], []), (.iconst 1, [], []), (.iadd, [], []), (.iaload, [9], []), (.aload_n 0, [], []), (.iload_n 3, [], []), (.iconst 2, [], []), (.iadd, [], []), (.iaload, [9], []), (.invokevirtual 51, [0, 2, 0, 0, 10, 1476, 1473, 1474, 1475, 103], [mX10_mill]), (.if_icmp .eq 961, [1477], []), (.iconst 0, [], []), (.ireturn, [1], [])]
theorem kL_law_488 : chL mL_law 488 bL_law_488 = true := by decide +kernel
def bL_law_521 : List AI := [(.aload_n 1, [], []), (.aload_n 0, [], []), (.iload_n 3, [], []), (.iconst 1, [], []), (.iadd, [], []), (.iaload, [9], []), (.aload_n 0, [], []), (.iload_n 3, [], []), (.iconst 2, [], []), (.iadd, [], []), (.iaload, [9], []), (.invokevirtual 52, [0, 2, 0, 0, 9, 724, 721, 722, 723, 93], [mX9_fire]), (.aload_n 2, [], []), (.aload_n 0, [], []), (.iload_n 3, [], []), (.iconst 1, [], []), (.iadd, [], []), (.iaload, [9], []), (.aload_n 0, [], []), (.iload_n 3, [], []), (.iconst 2, [], []), (.iadd, [], []), (.iaload, [9], []), (.invokevirtual 55, [0, 2, 0, 0, 10, 1481, 1478, 1479, 1480, 103], [mX10_fire]), (.if_icmp .eq 928, [1477], []), (.iconst 0, [], []), (.ireturn, [1], [])]
theorem kL_law_521 : chL mL_law 521 bL_law_521 = true := by decide +kernel
def bL_law_554 : List AI := [(.aload_n 1, [], []), (.aload_n 0, [], []), (.iload_n 3, [], []), (.iconst 1, [], []), (.iadd, [], []), (.iaload, [9], []), (.aload_n 0, [], []), (.iload_n 3, [], []), (.iconst 2, [], []), (.iadd, [], []), (.iaload, [9], []), (.invokevirtual 56, [0, 2, 0, 0, 9, 748, 745, 746, 747, 93], [mX9_fireWishes]), (.aload_n 2, [], []), (.aload_n 0, [], []), (.iload_n 3, [], []), (.iconst 1, [], []), (.iadd, [], []), (.iaload, [9], []), (.aload_n 0, [], []), (.iload_n 3, [], []), (.iconst 2, [], []), (.iadd, [], []), (.iaload, [9], []), (.invokevirtual 59, [0, 2, 0, 0, 10, 1494, 1491, 1492, 1493, 103], [mX10_fireWishes]), (.if_icmp .eq 895, [1477], []), (.iconst 0, [], []), (.ireturn, [1], [])]
theorem kL_law_554 : chL mL_law 554 bL_law_554 = true := by decide +kernel
def bL_law_587 : List AI := [(.aload_n 1, [], []), (.aload_n 0, [], []), (.iload_n 3, [], []), (.iconst 1, [], []), (.iadd, [], []), (.iaload, [9], []), (.aload_n 0, [], []), (.iload_n 3, [], []), (.iconst 2, [], []), (.iadd, [], []), (.iaload, [9], []), (.invokevirtual 60, [0, 2, 0, 0, 9, 764, 761, 762, 763, 93], [mX9_judge]), (.aload_n 2, [], []), (.aload_n 0, [], []), (.iload_n 3, [], []), (.iconst 1, [], []), (.iadd, [], []), (.iaload, [9], []), (.aload_n 0, [], []), (.iload_n 3, [], []), (.iconst 2, [], []), (.iadd, [], []), (.iaload, [9], []), (.invokevirtual 63, [0, 2, 0, 0, 10, 1513, 1510, 1511, 1512, 103], [mX10_judge]), (.if_icmp .eq 862, [1477], []), (.iconst 0, [], []), (.ireturn, [1], [])]
theorem kL_law_587 : chL mL_law 587 bL_law_587 = true := by decide +kernel
def bL_law_620 : List AI := [(.aload_n 1, [], []), (.aload_n 0, [], []), (.iload_n 3, [], []), (.iconst 1, [], []), (.iadd, [], []), (.iaload, [9], []), (.invokevirtual 64, [0, 1, 0, 0, 9, 779, 776, 777, 778, 93], [mX9_perform]), (.aload_n 2, [], []), (.aload_n 0, [], []), (.iload_n 3, [], []), (.iconst 1, [], []), (.iadd, [], []), (.iaload, [9], []), (.invokevirtual 67, [0, 1, 0, 0, 10, 1531, 1528, 1529, 1530, 103], [mX10_perform]), (.if_icmp .eq 839, [1477], []), (.iconst 0, [], []), (.ireturn, [1], [])]
theorem kL_law_620 : chL mL_law 620 bL_law_620 = true := by decide +kernel
def bL_law_643 : List AI := [(.aload_n 1, [], []), (.invokevirtual 68, [0, 0, 0, 0, 9, 783, 780, 781, 782, 93], [mX9_day]), (.aload_n 2, [], []), (.invokevirtual 72, [0, 0, 0, 0, 10, 1535, 1532, 1533, 1534, 103], [mX10_day]), (.if_icmp .eq 826, [1477], []), (.iconst 0, [], []), (.ireturn, [1], [])]
theorem kL_law_643 : chL mL_law 643 bL_law_643 = true := by decide +kernel
def bL_law_656 : List AI := [(.aload_n 1, [], []), (.aload_n 0, [], []), (.iload_n 3, [], []), (.iconst 1, [], []), (.iadd, [], []), (.iaload, [9], []), (.aload_n 0, [], []), (.iload_n 3, [], []), (.iconst 2, [], []), (.iadd, [], []), (.iaload, [9], []), (.invokevirtual 73, [0, 2, 0, 0, 9, 801, 798, 799, 800, 93], [mX9_drawn]), (.aload_n 2, [], []), (.aload_n 0, [], []), (.iload_n 3, [], []), (.iconst 1, [], []), (.iadd, [], []), (.iaload, [9], []), (.aload_n 0, [], []), (.iload_n 3, [], []), (.iconst 2, [], []), (.iadd, [], []), (.iaload, [9], []), (.invokevirtual 76, [0, 2, 0, 0, 10, 1551, 1548, 1549, 1550, 103], [mX10_drawn]), (.if_icmp .eq 793, [1477], []), (.iconst 0, [], []), (.ireturn, [1], [])]
theorem kL_law_656 : chL mL_law 656 bL_law_656 = true := by decide +kernel
def bL_law_689 : List AI := [(.aload_n 1, [], []), (.aload_n 0, [], []), (.iload_n 3, [], []), (.iconst 1, [], []), (.iadd, [], []), (.iaload, [9], []), (.invokevirtual 77, [0, 1, 0, 0, 9, 813, 810, 811, 812, 93], [mX9_lasts]), (.aload_n 2, [], []), (.aload_n 0, [], []), (.iload_n 3, [], []), (.iconst 1, [], []), (.iadd, [], []), (.iaload, [9], []), (.invokevirtual 80, [0, 1, 0, 0, 10, 1557, 1554, 1555, 1556, 103], [mX10_lasts]), (.if_icmp .eq 770, [1477], []), (.iconst 0, [], []), (.ireturn, [1], [])]
theorem kL_law_689 : chL mL_law 689 bL_law_689 = true := by decide +kernel
def bL_law_712 : List AI := [(.aload_n 1, [], []), (.aload_n 0, [], []), (.iload_n 3, [], []), (.iconst 1, [], []), (.iadd, [], []), (.iaload, [9], []), (.invokevirtual 81, [0, 1, 0, 0, 9, 820, 817, 818, 819, 93], [mX9_canBake]), (.aload_n 2, [], []), (.aload_n 0, [], []), (.iload_n 3, [], []), (.iconst 1, [], []), (.iadd, [], []), (.iaload, [9], []), (.invokevirtual 84, [0, 1, 0, 0, 10, 1561, 1558, 1559, 1560, 103], [mX10_canBake]), (.if_icmp .eq 747, [1477], []), (.iconst 0, [], []), (.ireturn, [1], [])]
theorem kL_law_712 : chL mL_law 712 bL_law_712 = true := by decide +kernel
def bL_law_735 : List AI := [(.aload_n 1, [], []), (.aload_n 0, [], []), (.iload_n 3, [], []), (.iconst 1, [], []), (.iadd, [], []), (.iaload, [9], []), (.invokevirtual 85, [0, 1, 0, 0, 9, 849, 846, 847, 848, 93], [mX9_fires]), (.aload_n 2, [], []), (.aload_n 0, [], []), (.iload_n 3, [], []), (.iconst 1, [], []), (.iadd, [], []), (.iaload, [9], []), (.invokevirtual 88, [0, 1, 0, 0, 10, 1570, 1567, 1568, 1569, 103], [mX10_fires]), (.if_icmp .eq 724, [1477], []), (.iconst 0, [], []), (.ireturn, [1], [])]
theorem kL_law_735 : chL mL_law 735 bL_law_735 = true := by decide +kernel
def bL_law_758 : List AI := [(.aload_n 1, [], []), (.aload_n 0, [], []), (.iload_n 3, [], []), (.iconst 1, [], []), (.iadd, [], []), (.iaload, [9], []), (.invokevirtual 89, [0, 1, 0, 0, 9, 857, 854, 855, 856, 93], [mX9_ways]), (.aload_n 2, [], []), (.aload_n 0, [], []), (.iload_n 3, [], []), (.iconst 1, [], []), (.iadd, [], []), (.iaload, [9], []), (.invokevirtual 92, [0, 1, 0, 0, 10, 1574, 1571, 1572, 1573, 103], [mX10_ways]), (.if_icmp .eq 701, [1477], []), (.iconst 0, [], []), (.ireturn, [1], [])]
theorem kL_law_758 : chL mL_law 758 bL_law_758 = true := by decide +kernel
def bL_law_781 : List AI := [(.aload_n 1, [], []), (.invokevirtual 93, [0, 0, 0, 0, 9, 865, 862, 863, 864, 93], [mX9_gap]), (.aload_n 2, [], []), (.invokevirtual 96, [0, 0, 0, 0, 10, 1578, 1575, 1576, 1577, 103], [mX10_gap]), (.if_icmp .eq 688, [1477], []), (.iconst 0, [], []), (.ireturn, [1], [])]
theorem kL_law_781 : chL mL_law 781 bL_law_781 = true := by decide +kernel
def bL_law_794 : List AI := [(.aload_n 1, [], []), (.aload_n 0, [], []), (.iload_n 3, [], []), (.iconst 1, [], []), (.iadd, [], []), (.iaload, [9], []), (.invokevirtual 97, [0, 1, 0, 0, 9, 874, 871, 872, 873, 93], [mX9_upTo]), (.aload_n 2, [], []), (.aload_n 0, [], []), (.iload_n 3, [], []), (.iconst 1, [], []), (.iadd, [], []), (.iaload, [9], []), (.invokevirtual 100, [0, 1, 0, 0, 10, 1585, 1582, 1583, 1584, 103], [mX10_upTo]), (.if_icmp .eq 665, [1477], []), (.iconst 0, [], []), (.ireturn, [1], [])]
theorem kL_law_794 : chL mL_law 794 bL_law_794 = true := by decide +kernel
def bL_law_817 : List AI := [(.aload_n 1, [], []), (.aload_n 0, [], []), (.iload_n 3, [], []), (.iconst 1, [], []), (.iadd, [], []), (.iaload, [9], []), (.aload_n 0, [], []), (.iload_n 3, [], []), (.iconst 2, [], []), (.iadd, [], []), (.iaload, [9], []), (.invokevirtual 101, [0, 2, 0, 0, 9, 883, 880, 881, 882, 93], [mX9_group]), (.aload_n 2, [], []), (.aload_n 0, [], []), (.iload_n 3, [], []), (.iconst 1, [], []), (.iadd, [], []), (.iaload, [9], []), (.aload_n 0, [], []), (.iload_n 3, [], []), (.iconst 2, [], []), (.iadd, [], []), (.iaload, [9], []), (.invokevirtual 104, [0, 2, 0, 0, 10, 1590, 1587, 1588, 1589, 103], [mX10_group]), (.if_icmp .eq 632, [1477], []), (.iconst 0, [], []), (.ireturn, [1], [])]
theorem kL_law_817 : chL mL_law 817 bL_law_817 = true := by decide +kernel
def bL_law_850 : List AI := [(.aload_n 1, [], []), (.aload_n 0, [], []), (.iload_n 3, [], []), (.iconst 1, [], []), (.iadd, [], []), (.iaload, [9], []), (.invokevirtual 105, [0, 1, 0, 0, 9, 918, 915, 916, 917, 93], [mX9_fills]), (.aload_n 2, [], []), (.aload_n 0, [], []), (.iload_n 3, [], []), (.iconst 1, [], []), (.iadd, [], []), (.iaload, [9], []), (.invokevirtual 108, [0, 1, 0, 0, 10, 1598, 1595, 1596, 1597, 103], [mX10_fills]), (.if_icmp .eq 609, [1477], []), (.iconst 0, [], []), (.ireturn, [1], [])]
theorem kL_law_850 : chL mL_law 850 bL_law_850 = true := by decide +kernel
def bL_law_873 : List AI := [(.aload_n 1, [], []), (.aload_n 0, [], []), (.iload_n 3, [], []), (.iconst 1, [], []), (.iadd, [], []), (.iaload, [9], []), (.invokevirtual 109, [0, 1, 0, 0, 9, 923, 920, 921, 922, 93], [mX9_served]), (.aload_n 2, [], []), (.aload_n 0, [], []), (.iload_n 3, [], []), (.iconst 1, [], []), (.iadd, [], []), (.iaload, [9], []), (.invokevirtual 112, [0, 1, 0, 0, 10, 1602, 1599, 1600, 1601, 103], [mX10_served]), (.if_icmp .eq 586, [1477], []), (.iconst 0, [], []), (.ireturn, [1], [])]
theorem kL_law_873 : chL mL_law 873 bL_law_873 = true := by decide +kernel
def bL_law_896 : List AI := [(.aload_n 1, [], []), (.invokevirtual 113, [0, 0, 0, 0, 9, 968, 965, 966, 967, 93], [mX9_parted]), (.aload_n 2, [], []), (.invokevirtual 116, [0, 0, 0, 0, 10, 1613, 1610, 1611, 1612, 103], [mX10_parted]), (.if_icmp .eq 573, [1477], []), (.iconst 0, [], []), (.ireturn, [1], [])]
theorem kL_law_896 : chL mL_law 896 bL_law_896 = true := by decide +kernel
def bL_law_909 : List AI := [(.aload_n 1, [], []), (.aload_n 0, [], []), (.iload_n 3, [], []), (.iconst 1, [], []), (.iadd, [], []), (.iaload, [9], []), (.invokevirtual 117, [0, 1, 0, 0, 9, 976, 973, 974, 975, 93], [mX9_together]), (.aload_n 2, [], []), (.aload_n 0, [], []), (.iload_n 3, [], []), (.iconst 1, [], []), (.iadd, [], []), (.iaload, [9], []), (.invokevirtual 120, [0, 1, 0, 0, 10, 1629, 1626, 1627, 1628, 103], [mX10_together]), (.if_icmp .eq 550, [1477], []), (.iconst 0, [], []), (.ireturn, [1], [])]
theorem kL_law_909 : chL mL_law 909 bL_law_909 = true := by decide +kernel
def bL_law_932 : List AI := [(.aload_n 1, [], []), (.aload_n 0, [], []), (.iload_n 3, [], []), (.iconst 1, [], []), (.iadd, [], []), (.iaload, [9], []), (.aload_n 0, [], []), (.iload_n 3, [], []), (.iconst 2, [], []), (.iadd, [], []), (.iaload, [9], []), (.invokevirtual 121, [0, 2, 0, 0, 9, 985, 982, 983, 984, 93], [mX9_stones]), (.aload_n 2, [], []), (.aload_n 0, [], []), (.iload_n 3, [], []), (.iconst 1, [], []), (.iadd, [], []), (.iaload, [9], []), (.aload_n 0, [], []), (.iload_n 3, [], []), (.iconst 2, [], []), (.iadd, [], []), (.iaload, [9], []), (.invokevirtual 124, [0, 2, 0, 0, 10, 1633, 1630, 1631, 1632, 103], [mX10_stones]), (.if_icmp .eq 517, [1477], []), (.iconst 0, [], []), (.ireturn, [1], [])]
theorem kL_law_932 : chL mL_law 932 bL_law_932 = true := by decide +kernel
def bL_law_965 : List AI := [(.aload_n 1, [], []), (.aload_n 0, [], []), (.iload_n 3, [], []), (.iconst 1, [], []), (.iadd, [], []), (.iaload, [9], []), (.aload_n 0, [], []), (.iload_n 3, [], []), (.iconst 2, [], []), (.iadd, [], []), (.iaload, [9], []), (.invokevirtual 125, [0, 2, 0, 0, 9, 1002, 999, 1000, 1001, 93], [mX9_leaves]), (.aload_n 2, [], []), (.aload_n 0, [], []), (.iload_n 3, [], []), (.iconst 1, [], []), (.iadd, [], []), (.iaload, [9], []), (.aload_n 0, [], []), (.iload_n 3, [], []), (.iconst 2, [], []), (.iadd, [], []), (.iaload, [9], []), (.invokevirtual 128, [0, 2, 0, 0, 10, 1637, 1634, 1635, 1636, 103], [mX10_leaves]), (.if_icmp .eq 484, [1477], []), (.iconst 0, [], []), (.ireturn, [1], [])]
theorem kL_law_965 : chL mL_law 965 bL_law_965 = true := by decide +kernel
def bL_law_998 : List AI := [(.aload_n 1, [], []), (.aload_n 0, [], []), (.iload_n 3, [], []), (.iconst 1, [], []), (.iadd, [], []), (.iaload, [9], []), (.aload_n 0, [], []), (.iload_n 3, [], []), (.iconst 2, [], []), (.iadd, [], []), (.iaload, [9], []), (.invokevirtual 129, [0, 2, 0, 0, 9, 1007, 1004, 1005, 1006, 93], [mX9_stable]), (.aload_n 2, [], []), (.aload_n 0, [], []), (.iload_n 3, [], []), (.iconst 1, [], []), (.iadd, [], []), (.iaload, [9], []), (.aload_n 0, [], []), (.iload_n 3, [], []), (.iconst 2, [], []), (.iadd, [], []), (.iaload, [9], []), (.invokevirtual 132, [0, 2, 0, 0, 10, 1653, 1650, 1651, 1652, 103], [mX10_stable]), (.if_icmp .eq 451, [1477], []), (.iconst 0, [], []), (.ireturn, [1], [])]
theorem kL_law_998 : chL mL_law 998 bL_law_998 = true := by decide +kernel
def bL_law_1031 : List AI := [(.aload_n 1, [], []), (.aload_n 0, [], []), (.iload_n 3, [], []), (.iconst 1, [], []), (.iadd, [], []), (.iaload, [9], []), (.invokevirtual 133, [0, 1, 0, 0, 9, 1011, 1008, 1009, 1010, 93], [mX9_better]), (.aload_n 2, [], []), (.aload_n 0, [], []), (.iload_n 3, [], []), (.iconst 1, [], []), (.iadd, [], []), (.iaload, [9], []), (.invokevirtual 136, [0, 1, 0, 0, 10, 1657, 1654, 1655, 1656, 103], [mX10_better]), (.if_icmp .eq 428, [1477], []), (.iconst 0, [], []), (.ireturn, [1], [])]
theorem kL_law_1031 : chL mL_law 1031 bL_law_1031 = true := by decide +kernel
def bL_law_1054 : List AI := [(.aload_n 1, [], []), (.aload_n 0, [], []), (.iload_n 3, [], []), (.iconst 1, [], []), (.iadd, [], []), (.iaload, [9], []), (.aload_n 0, [], []), (.iload_n 3, [], []), (.iconst 2, [], []), (.iadd, [], []), (.iaload, [9], []), (.aload_n 0, [], []), (.iload_n 3, [], []), (.iconst 3, [], []), (.iadd, [], []), (.iaload, [9], []), (.invokevirtual 137, [0, 3, 0, 0, 9, 1023, 1020, 1021, 1022, 93], [mX9_lend]), (.aload_n 2, [], []), (.aload_n 0, [], []), (.iload_n 3, [], []), (.iconst 1, [], []), (.iadd, [], []), (.iaload, [9], []), (.aload_n 0, [], []), (.iload_n 3, [], []), (.iconst 2, [], []), (.iadd, [], []), (.iaload, [9], []), (.aload_n 0, [], []), (.iload_n 3, [], []), (.iconst 3, [], []), (.iadd, [], []), (.iaload, [9], []), (.invokevirtual 141, [0, 3, 0, 0, 10, 1661, 1658, 1659, 1660, 103], [mX10_lend]), (.if_icmp .eq 385, [1477], []), (.iconst 0, [], []), (.ireturn, [1], [])]
theorem kL_law_1054 : chL mL_law 1054 bL_law_1054 = true := by decide +kernel
def bL_law_1097 : List AI := [(.aload_n 1, [], []), (.aload_n 0, [], []), (.iload_n 3, [], []), (.iconst 1, [], []), (.iadd, [], []), (.iaload, [9], []), (.aload_n 0, [], []), (.iload_n 3, [], []), (.iconst 2, [], []), (.iadd, [], []), (.iaload, [9], []), (.invokevirtual 142, [0, 2, 0, 0, 9, 1032, 1029, 1030, 1031, 93], [mX9_owed]), (.aload_n 2, [], []), (.aload_n 0, [], []), (.iload_n 3, [], []), (.iconst 1, [], []), (.iadd, [], []), (.iaload, [9], []), (.aload_n 0, [], []), (.iload_n 3, [], []), (.iconst 2, [], []), (.iadd, [], []), (.iaload, [9], []), (.invokevirtual 145, [0, 2, 0, 0, 10, 1665, 1662, 1663, 1664, 103], [mX10_owed]), (.if_icmp .eq 352, [1477], []), (.iconst 0, [], []), (.ireturn, [1], [])]
theorem kL_law_1097 : chL mL_law 1097 bL_law_1097 = true := by decide +kernel
def bL_law_1130 : List AI := [(.aload_n 1, [], []), (.aload_n 0, [], []), (.iload_n 3, [], []), (.iconst 1, [], []), (.iadd, [], []), (.iaload, [9], []), (.invokevirtual 146, [0, 1, 0, 0, 9, 1036, 1033, 1034, 1035, 93], [mX9_ring]), (.aload_n 2, [], []), (.aload_n 0, [], []), (.iload_n 3, [], []), (.iconst 1, [], []), (.iadd, [], []), (.iaload, [9], []), (.invokevirtual 149, [0, 1, 0, 0, 10, 1669, 1666, 1667, 1668, 103], [mX10_ring]), (.if_icmp .eq 329, [1477], []), (.iconst 0, [], []), (.ireturn, [1], [])]
theorem kL_law_1130 : chL mL_law 1130 bL_law_1130 = true := by decide +kernel
def bL_law_1153 : List AI := [(.aload_n 1, [], []), (.invokevirtual 150, [0, 0, 0, 0, 9, 1063, 1060, 1061, 1062, 93], [mX9_clear]), (.aload_n 2, [], []), (.invokevirtual 153, [0, 0, 0, 0, 10, 1681, 1678, 1679, 1680, 103], [mX10_clear]), (.if_icmp .eq 316, [1477], []), (.iconst 0, [], []), (.ireturn, [1], [])]
theorem kL_law_1153 : chL mL_law 1153 bL_law_1153 = true := by decide +kernel
def bL_law_1166 : List AI := [(.aload_n 1, [], []), (.invokevirtual 154, [0, 0, 0, 0, 9, 1084, 1081, 1082, 1083, 93], [mX9_payments]), (.aload_n 2, [], []), (.invokevirtual 157, [0, 0, 0, 0, 10, 1685, 1682, 1683, 1684, 103], [mX10_payments]), (.if_icmp .eq 303, [1477], []), (.iconst 0, [], []), (.ireturn, [1], [])]
theorem kL_law_1166 : chL mL_law 1166 bL_law_1166 = true := by decide +kernel
def bL_law_1179 : List AI := [(.aload_n 1, [], []), (.aload_n 0, [], []), (.iload_n 3, [], []), (.iconst 1, [], []), (.iadd, [], []), (.iaload, [9], []), (.aload_n 0, [], []), (.iload_n 3, [], []), (.iconst 2, [], []), (.iadd, [], []), (.iaload, [9], []), (.invokevirtual 158, [0, 2, 0, 0, 9, 1098, 1095, 1096, 1097, 93], [mX9_ahead]), (.aload_n 2, [], []), (.aload_n 0, [], []), (.iload_n 3, [], []), (.iconst 1, [], []), (.iadd, [], []), (.iaload, [9], []), (.aload_n 0, [], []), (.iload_n 3, [], []), (.iconst 2, [], []), (.iadd, [], []), (.iaload, [9], []), (.invokevirtual 161, [0, 2, 0, 0, 10, 1689, 1686, 1687, 1688, 103], [mX10_ahead]), (.if_icmp .eq 270, [1477], []), (.iconst 0, [], []), (.ireturn, [1], [])]
theorem kL_law_1179 : chL mL_law 1179 bL_law_1179 = true := by decide +kernel
def bL_law_1212 : List AI := [(.aload_n 1, [], []), (.aload_n 0, [], []), (.iload_n 3, [], []), (.iconst 1, [], []), (.iadd, [], []), (.iaload, [9], []), (.invokevirtual 162, [0, 1, 0, 0, 9, 1138, 1135, 1136, 1137, 93], [mX9_enough]), (.aload_n 2, [], []), (.aload_n 0, [], []), (.iload_n 3, [], []), (.iconst 1, [], []), (.iadd, [], []), (.iaload, [9], []), (.invokevirtual 165, [0, 1, 0, 0, 10, 1715, 1712, 1713, 1714, 103], [mX10_enough]), (.if_icmp .eq 247, [1477], []), (.iconst 0, [], []), (.ireturn, [1], [])]
theorem kL_law_1212 : chL mL_law 1212 bL_law_1212 = true := by decide +kernel
def bL_law_1235 : List AI := [(.aload_n 1, [], []), (.aload_n 0, [], []), (.iload_n 3, [], []), (.iconst 1, [], []), (.iadd, [], []), (.iaload, [9], []), (.aload_n 0, [], []), (.iload_n 3, [], []), (.iconst 2, [], []), (.iadd, [], []), (.iaload, [9], []), (.invokevirtual 166, [0, 2, 0, 0, 9, 1142, 1139, 1140, 1141, 93], [mX9_marry]), (.aload_n 2, [], []), (.aload_n 0, [], []), (.iload_n 3, [], []), (.iconst 1, [], []), (.iadd, [], []), (.iaload, [9], []), (.aload_n 0, [], []), (.iload_n 3, [], []), (.iconst 2, [], []), (.iadd, [], []), (.iaload, [9], []), (.invokevirtual 169, [0, 2, 0, 0, 10, 1719, 1716, 1717, 1718, 103], [mX10_marry]), (.if_icmp .eq 214, [1477], []), (.iconst 0, [], []), (.ireturn, [1], [])]
theorem kL_law_1235 : chL mL_law 1235 bL_law_1235 = true := by decide +kernel
def bL_law_1268 : List AI := [(.aload_n 1, [], []), (.aload_n 0, [], []), (.iload_n 3, [], []), (.iconst 1, [], []), (.iadd, [], []), (.iaload, [9], []), (.aload_n 0, [], []), (.iload_n 3, [], []), (.iconst 2, [], []), (.iadd, [], []), (.iaload, [9], []), (.aload_n 0, [], []), (.iload_n 3, [], []), (.iconst 3, [], []), (.iadd, [], []), (.iaload, [9], []), (.invokevirtual 170, [0, 3, 0, 0, 9, 1159, 1156, 1157, 1158, 93], [mX9_numbers]), (.aload_n 2, [], []), (.aload_n 0, [], []), (.iload_n 3, [], []), (.iconst 1, [], []), (.iadd, [], []), (.iaload, [9], []), (.aload_n 0, [], []), (.iload_n 3, [], []), (.iconst 2, [], []), (.iadd, [], []), (.iaload, [9], []), (.aload_n 0, [], []), (.iload_n 3, [], []), (.iconst 3, [], []), (.iadd, [], []), (.iaload, [9], []), (.invokevirtual 173, [0, 3, 0, 0, 10, 1739, 1736, 1737, 1738, 103], [mX10_numbers]), (.if_icmp .eq 171, [1477], []), (.iconst 0, [], []), (.ireturn, [1], [])]
theorem kL_law_1268 : chL mL_law 1268 bL_law_1268 = true := by decide +kernel
def bL_law_1311 : List AI := [(.aload_n 1, [], []), (.aload_n 0, [], []), (.iload_n 3, [], []), (.iconst 1, [], []), (.iadd, [], []), (.iaload, [9], []), (.aload_n 0, [], []), (.iload_n 3, [], []), (.iconst 2, [], []), (.iadd, [], []), (.iaload, [9], []), (.aload_n 0, [], []), (.iload_n 3, [], []), (.iconst 3, [], []), (.iadd, [], []), (.iaload, [9], []), (.i2l, [], []), (.bipush 32, [], []), (.lshl, [], []), (.aload_n 0, [], []), (.iload_n 3, [], []), (.iconst 4, [], []), (.iadd, [], []), (.iaload, [9], []), (.i2l, [], []), (.ldc2_w 174, [4294967295, 1775], []), (.land, [], []), (.lor, [], []), (.invokevirtual 176, [0, 3, 0, 0, 9, 1170, 1167, 1168, 1169, 93], [mX9_write]), (.aload_n 2, [], []), (.aload_n 0, [], []), (.iload_n 3, [], []), (.iconst 1, [], []), (.iadd, [], []), (.iaload, [9], []), (.aload_n 0, [], []), (.iload_n 3, [], []), (.iconst 2, [], []), (.iadd, [], []), (.iaload, [9], []), (.aload_n 0, [], []), (.iload_n 3, [], []), (.iconst 3, [], []), (.iadd, [], []), (.iaload, [9], []), (.i2l, [], []), (.bipush 32, [], []), (.lshl, [], []), (.aload_n 0, [], []), (.iload_n 3, [], []), (.iconst 4, [], []), (.iadd, [], []), (.iaload, [9], []), (.i2l, [], []), (.ldc2_w 174, [4294967295, 1775], []), (.land, [], []), (.lor, [], []), (.invokevirtual 180, [0, 3, 0, 0, 10, 1744, 1741, 1742, 1743, 103], [mX10_write]), (.lcmp, [], []), (.ifCond .eq 97, [1477], []), (.iconst 0, [], []), (.ireturn, [1], [])]
theorem kL_law_1311 : chL mL_law 1311 bL_law_1311 = true := by decide +kernel
def bL_law_1385 : List AI := [(.aload_n 1, [], []), (.aload_n 0, [], []), (.iload_n 3, [], []), (.iconst 1, [], []), (.iadd, [], []), (.iaload, [9], []), (.invokevirtual 181, [0, 1, 0, 0, 9, 1185, 1182, 1183, 1184, 93], [mX9_copy]), (.aload_n 2, [], []), (.aload_n 0, [], []), (.iload_n 3, [], []), (.iconst 1, [], []), (.iadd, [], []), (.iaload, [9], []), (.invokevirtual 184, [0, 1, 0, 0, 10, 1754, 1751, 1752, 1753, 103], [mX10_copy]), (.if_icmp .eq 74, [1477], []), (.iconst 0, [], []), (.ireturn, [1], [])]
theorem kL_law_1385 : chL mL_law 1385 bL_law_1385 = true := by decide +kernel
def bL_law_1408 : List AI := [(.aload_n 1, [], []), (.aload_n 0, [], []), (.iload_n 3, [], []), (.iconst 1, [], []), (.iadd, [], []), (.iaload, [9], []), (.invokevirtual 185, [0, 1, 0, 0, 9, 1189, 1186, 1187, 1188, 93], [mX9_image]), (.aload_n 2, [], []), (.aload_n 0, [], []), (.iload_n 3, [], []), (.iconst 1, [], []), (.iadd, [], []), (.iaload, [9], []), (.invokevirtual 188, [0, 1, 0, 0, 10, 1758, 1755, 1756, 1757, 103], [mX10_image]), (.if_icmp .eq 51, [1477], []), (.iconst 0, [], []), (.ireturn, [1], [])]
theorem kL_law_1408 : chL mL_law 1408 bL_law_1408 = true := by decide +kernel
def bL_law_1431 : List AI := [(.aload_n 1, [], []), (.aload_n 0, [], []), (.iload_n 3, [], []), (.iconst 1, [], []), (.iadd, [], []), (.iaload, [9], []), (.invokevirtual 189, [0, 1, 0, 0, 9, 1196, 1193, 1194, 1195, 93], [mX9_restore]), (.aload_n 2, [], []), (.aload_n 0, [], []), (.iload_n 3, [], []), (.iconst 1, [], []), (.iadd, [], []), (.iaload, [9], []), (.invokevirtual 192, [0, 1, 0, 0, 10, 1762, 1759, 1760, 1761, 103], [mX10_restore]), (.if_icmp .eq 28, [1477], []), (.iconst 0, [], []), (.ireturn, [1], [])]
theorem kL_law_1431 : chL mL_law 1431 bL_law_1431 = true := by decide +kernel
def bL_law_1454 : List AI := [(.aload_n 1, [], []), (.aload_n 0, [], []), (.iload_n 3, [], []), (.iconst 1, [], []), (.iadd, [], []), (.iaload, [9], []), (.invokevirtual 193, [0, 1, 0, 0, 9, 1200, 1197, 1198, 1199, 93], [mX9_count]), (.aload_n 2, [], []), (.aload_n 0, [], []), (.iload_n 3, [], []), (.iconst 1, [], []), (.iadd, [], []), (.iaload, [9], []), (.invokevirtual 196, [0, 1, 0, 0, 10, 1766, 1763, 1764, 1765, 103], [mX10_count]), (.if_icmp .eq 5, [1477], []), (.iconst 0, [], []), (.ireturn, [1], [])]
theorem kL_law_1454 : chL mL_law 1454 bL_law_1454 = true := by decide +kernel
def bL_law_1477 : List AI := [(.iinc 3 6, [], []), (.goto (-1462), [18], [])]
theorem kL_law_1477 : chL mL_law 1477 bL_law_1477 = true := by decide +kernel
def bL_law_1483 : List AI := [(.iconst 1, [], []), (.ireturn, [1], [])]
theorem kL_law_1483 : chL mL_law 1483 bL_law_1483 = true := by decide +kernel
