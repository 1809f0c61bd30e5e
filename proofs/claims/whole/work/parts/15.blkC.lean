def bX9_init_0 : List AI := [(.aload_n 0, [], []), (.invokespecial 3, [2, 115, 116, 117], []), (.aload_n 0, [], []), (.sipush 900, [], []), (.newarray .byte, [3, 187], []), (.putfield 9, [2, 9, 0, 452], []), (.aload_n 0, [], []), (.iconst 0, [], []), (.putfield 13, [0, 9, 1, 453], []), (.aload_n 0, [], []), (.iconst 0, [], []), (.putfield 17, [0, 9, 2, 454], []), (.aload_n 0, [], []), (.iconst (-1), [], []), (.putfield 20, [0, 9, 3, 455], []), (.aload_n 0, [], []), (.new 23, [8, 118, 119, 92], []), (.dup, [], []), (.invokespecial 25, [0, 0, 32, 253, 122, 120, 121, 92], [mX8_init]), (.putfield 26, [2, 9, 4, 456], []), (.aload_n 0, [], []), (.new 23, [8, 118, 119, 92], []), (.dup, [], []), (.invokespecial 25, [0, 0, 32, 253, 122, 120, 121, 92], [mX8_init]), (.putfield 30, [2, 9, 5, 457], []), (.aload_n 0, [], []), (.iconst 2, [], []), (.anewarray 23, [7, 8, 118, 246], []), (.putfield 33, [2, 9, 6, 458], []), (.aload_n 0, [], []), (.iconst 2, [], []), (.newarray .boolean, [4, 271], []), (.putfield 37, [2, 9, 7, 459], []), (.iconst 0, [], []), (.istore_n 1, [], []), (.nop, [67], [])]
theorem kX9_init_0 : chL mX9_init 0 bX9_init_0 = true := by decide +kernel
def bX9_init_67 : List AI := [(.iload_n 1, [], []), (.iconst 2, [], []), (.if_icmp .ge 22, [91], []), (.aload_n 0, [], []), (.getfield 33, [2, 9, 6, 458], []), (.iload_n 1, [], []), (.new 23, [8, 118, 119, 92], []), (.dup, [], []), (.invokespecial 25, [0, 0, 32, 253, 122, 120, 121, 92], [mX8_init]), (.aastore, [2], []), (.iinc 1 1, [], []), (.goto (-21), [67], [])]
theorem kX9_init_67 : chL mX9_init 67 bX9_init_67 = true := by decide +kernel
def bX9_init_91 : List AI := [(.aload_n 0, [], []), (.iconst 4, [], []), (.anewarray 41, [6, 6, 247, 248], []), (.putfield 43, [2, 9, 8, 460], []), (.iconst 0, [], []), (.istore_n 1, [], []), (.nop, [101], [])]
theorem kX9_init_91 : chL mX9_init 91 bX9_init_91 = true := by decide +kernel
def bX9_init_101 : List AI := [(.iload_n 1, [], []), (.iconst 4, [], []), (.if_icmp .ge 22, [125], []), (.aload_n 0, [], []), (.getfield 43, [2, 9, 8, 460], []), (.iload_n 1, [], []), (.new 41, [6, 247, 249, 94], []), (.dup, [], []), (.invokespecial 47, [1, 0, 1, 40, 252, 1, 251, 94], [mX6_init]), (.aastore, [1], []), (.iinc 1 1, [], []), (.goto (-21), [101], [])]
theorem kX9_init_101 : chL mX9_init 101 bX9_init_101 = true := by decide +kernel
def bX9_init_125 : List AI := [(.aload_n 0, [], []), (.new 48, [5, 273, 274, 95], []), (.dup, [], []), (.aload_n 0, [], []), (.getfield 9, [2, 9, 0, 452], []), (.invokespecial 50, [0, 1, 0, 0, 277, 275, 276, 95], [mX5_init]), (.putfield 53, [2, 9, 9, 461], []), (.aload_n 0, [], []), (.new 57, [0, 306, 307, 96], []), (.dup, [], []), (.invokespecial 59, [1, 0, 1, 10, 310, 2, 309, 96], [mX0_init]), (.putfield 60, [2, 9, 10, 462], []), (.aload_n 0, [], []), (.new 64, [7, 328, 329, 97], []), (.dup, [], []), (.invokespecial 66, [1, 0, 2, 2061, 332, 3, 331, 97], [mX7_init]), (.putfield 67, [2, 9, 11, 463], []), (.aload_n 0, [], []), (.new 71, [3, 344, 345, 98], []), (.dup, [], []), (.invokespecial 73, [1, 0, 4, 4096, 348, 4, 347, 98], [mX3_init]), (.putfield 74, [2, 9, 12, 464], []), (.aload_n 0, [], []), (.new 78, [1, 391, 392, 99], []), (.dup, [], []), (.invokespecial 80, [1, 0, 5, 2078, 395, 5, 394, 99], [mX1_init]), (.putfield 81, [2, 9, 13, 465], []), (.aload_n 0, [], []), (.new 85, [4, 418, 419, 100], []), (.dup, [], []), (.invokespecial 87, [0, 0, 27, 214, 422, 420, 421, 100], [mX4_init]), (.putfield 88, [2, 9, 14, 466], []), (.return_, [], [])]
theorem kX9_init_125 : chL mX9_init 125 bX9_init_125 = true := by decide +kernel
def bX9_feed_0 : List AI := [(.aload_n 0, [], []), (.getfield 13, [0, 9, 1, 453], []), (.bipush 20, [], []), (.iadd, [], []), (.sipush 900, [], []), (.if_icmp .le 6, [16], []), (.bipush (-5), [], []), (.ireturn, [0], [])]
theorem kX9_feed_0 : chL mX9_feed 0 bX9_feed_0 = true := by decide +kernel
def bX9_feed_16 : List AI := [(.aload_n 0, [], []), (.iload_n 1, [], []), (.invokevirtual 92, [0, 1, 0, 0, 9, 505, 502, 504, 0, 91], [mX9_putBytes]), (.aload_n 0, [], []), (.iload_n 2, [], []), (.invokevirtual 92, [0, 1, 0, 0, 9, 505, 502, 504, 0, 91], [mX9_putBytes]), (.aload_n 0, [], []), (.iload_n 3, [], []), (.invokevirtual 92, [0, 1, 0, 0, 9, 505, 502, 504, 0, 91], [mX9_putBytes]), (.aload_n 0, [], []), (.iload 4, [], []), (.invokevirtual 92, [0, 1, 0, 0, 9, 505, 502, 504, 0, 91], [mX9_putBytes]), (.aload_n 0, [], []), (.iload 5, [], []), (.invokevirtual 92, [0, 1, 0, 0, 9, 505, 502, 504, 0, 91], [mX9_putBytes]), (.aload_n 0, [], []), (.getfield 13, [0, 9, 1, 453], []), (.ireturn, [0], [])]
theorem kX9_feed_16 : chL mX9_feed 16 bX9_feed_16 = true := by decide +kernel
def bX9_putBytes_0 : List AI := [(.bipush 24, [], []), (.istore_n 2, [], []), (.nop, [3], [])]
theorem kX9_putBytes_0 : chL mX9_putBytes 0 bX9_putBytes_0 = true := by decide +kernel
def bX9_putBytes_3 : List AI := [(.iload_n 2, [], []), (.ifCond .lt 42, [46], []), (.aload_n 0, [], []), (.getfield 13, [0, 9, 1, 453], []), (.sipush 900, [], []), (.if_icmp .ge 32, [46], []), (.aload_n 0, [], []), (.getfield 9, [2, 9, 0, 452], []), (.aload_n 0, [], []), (.getfield 13, [0, 9, 1, 453], []), (.iload_n 1, [], []), (.iload_n 2, [], []), (.ishr, [], []), (.i2b, [], []), (.bastore, [3], []), (.aload_n 0, [], []), (.dup, [], []), (.getfield 13, [0, 9, 1, 453], []), (.iconst 1, [], []), (.iadd, [], []), (.putfield 13, [0, 9, 1, 453], []), (.iinc 2 (-8), [], []), (.goto (-40), [3], [])]
theorem kX9_putBytes_3 : chL mX9_putBytes 3 bX9_putBytes_3 = true := by decide +kernel
def bX9_putBytes_46 : List AI := [(.return_, [], [])]
theorem kX9_putBytes_46 : chL mX9_putBytes 46 bX9_putBytes_46 = true := by decide +kernel
def bX9_village_0 : List AI := [(.iload_n 1, [], []), (.ifCond .lt 11, [12], []), (.iload_n 1, [], []), (.aload_n 0, [], []), (.getfield 13, [0, 9, 1, 453], []), (.if_icmp .le 6, [15], []), (.nop, [12], [])]
theorem kX9_village_0 : chL mX9_village 0 bX9_village_0 = true := by decide +kernel
def bX9_village_12 : List AI := [(.bipush (-3), [], []), (.ireturn, [0], [])]
theorem kX9_village_12 : chL mX9_village 12 bX9_village_12 = true := by decide +kernel
def bX9_village_15 : List AI := [(.aload_n 0, [], []), (.iconst 0, [], []), (.putfield 13, [0, 9, 1, 453], []), (.aload_n 0, [], []), (.getfield 53, [2, 9, 9, 461], []), (.iload_n 1, [], []), (.aload_n 0, [], []), (.getfield 30, [2, 9, 5, 457], []), (.invokevirtual 96, [0, 2, 0, 0, 5, 513, 510, 511, 512, 95], [mX5_read]), (.aload_n 0, [], []), (.aload_n 0, [], []), (.getfield 53, [2, 9, 9, 461], []), (.getfield 100, [0, 5, 0, 280], []), (.putfield 17, [0, 9, 2, 454], []), (.aload_n 0, [], []), (.aload_n 0, [], []), (.getfield 53, [2, 9, 9, 461], []), (.getfield 101, [0, 5, 1, 282], []), (.putfield 20, [0, 9, 3, 455], []), (.aload_n 0, [], []), (.getfield 17, [0, 9, 2, 454], []), (.ifCond .eq 11, [69], []), (.bipush (-30), [], []), (.aload_n 0, [], []), (.getfield 17, [0, 9, 2, 454], []), (.isub, [], []), (.ireturn, [0], [])]
theorem kX9_village_15 : chL mX9_village 15 bX9_village_15 = true := by decide +kernel
def bX9_village_69 : List AI := [(.aload_n 0, [], []), (.getfield 26, [2, 9, 4, 456], []), (.aload_n 0, [], []), (.getfield 30, [2, 9, 5, 457], []), (.invokevirtual 102, [0, 1, 0, 0, 8, 637, 634, 635, 636, 92], [mX8_become]), (.aload_n 0, [], []), (.getfield 26, [2, 9, 4, 456], []), (.getfield 106, [0, 8, 5, 214], []), (.ireturn, [0], [])]
theorem kX9_village_69 : chL mX9_village 69 bX9_village_69 = true := by decide +kernel
def bX9_fault_0 : List AI := [(.iload_n 1, [], []), (.lookupswitch 37 #[(0, 27), (1, 32)], [38, 28, 33], [])]
theorem kX9_fault_0 : chL mX9_fault 0 bX9_fault_0 = true := by decide +kernel
def bX9_fault_28 : List AI := [(.aload_n 0, [], []), (.getfield 17, [0, 9, 2, 454], []), (.ireturn, [0], [])]
theorem kX9_fault_28 : chL mX9_fault 28 bX9_fault_28 = true := by decide +kernel
def bX9_fault_33 : List AI := [(.aload_n 0, [], []), (.getfield 20, [0, 9, 3, 455], []), (.ireturn, [0], [])]
theorem kX9_fault_33 : chL mX9_fault 33 bX9_fault_33 = true := by decide +kernel
def bX9_fault_38 : List AI := [(.iconst (-1), [], []), (.ireturn, [0], [])]
theorem kX9_fault_38 : chL mX9_fault 38 bX9_fault_38 = true := by decide +kernel
def bX9_family_0 : List AI := [(.aload_n 0, [], []), (.getfield 26, [2, 9, 4, 456], []), (.iload_n 1, [], []), (.invokevirtual 109, [0, 1, 0, 0, 8, 657, 654, 655, 656, 92], [mX8_hasFamily]), (.ifCond .ne 6, [14], []), (.bipush (-2), [], []), (.ireturn, [0], [])]
theorem kX9_family_0 : chL mX9_family 0 bX9_family_0 = true := by decide +kernel
def bX9_family_14 : List AI := [(.aload_n 0, [], []), (.getfield 26, [2, 9, 4, 456], []), (.getfield 113, [2, 8, 6, 220], []), (.iload_n 1, [], []), (.aaload, [0], []), (.astore_n 3, [], []), (.iload_n 2, [], []), (.tableswitch 91 0 7 #[47, 52, 57, 62, 67, 72, 77, 82], [116, 72, 77, 82, 87, 92, 97, 102, 107], [])]
theorem kX9_family_14 : chL mX9_family 14 bX9_family_14 = true := by decide +kernel
def bX9_family_72 : List AI := [(.aload_n 3, [], []), (.getfield 117, [0, 2, 0, 134], []), (.ireturn, [0], [])]
theorem kX9_family_72 : chL mX9_family 72 bX9_family_72 = true := by decide +kernel
def bX9_family_77 : List AI := [(.aload_n 3, [], []), (.getfield 122, [0, 2, 1, 137], []), (.ireturn, [0], [])]
theorem kX9_family_77 : chL mX9_family 77 bX9_family_77 = true := by decide +kernel
def bX9_family_82 : List AI := [(.aload_n 3, [], []), (.invokevirtual 125, [0, 0, 0, 0, 2, 661, 658, 659, 660, 93], [mX2_allBread]), (.ireturn, [0], [])]
theorem kX9_family_82 : chL mX9_family 82 bX9_family_82 = true := by decide +kernel
def bX9_family_87 : List AI := [(.aload_n 3, [], []), (.getfield 129, [0, 2, 2, 143], []), (.ireturn, [0], [])]
theorem kX9_family_87 : chL mX9_family 87 bX9_family_87 = true := by decide +kernel
def bX9_family_92 : List AI := [(.aload_n 3, [], []), (.getfield 132, [0, 2, 3, 146], []), (.ireturn, [0], [])]
theorem kX9_family_92 : chL mX9_family 92 bX9_family_92 = true := by decide +kernel
def bX9_family_97 : List AI := [(.aload_n 3, [], []), (.getfield 135, [0, 2, 4, 149], []), (.ireturn, [0], [])]
theorem kX9_family_97 : chL mX9_family 97 bX9_family_97 = true := by decide +kernel
def bX9_family_102 : List AI := [(.aload_n 3, [], []), (.getfield 138, [0, 2, 5, 152], []), (.ireturn, [0], [])]
theorem kX9_family_102 : chL mX9_family 102 bX9_family_102 = true := by decide +kernel
def bX9_family_107 : List AI := [(.aload_n 0, [], []), (.getfield 26, [2, 9, 4, 456], []), (.iload_n 1, [], []), (.invokevirtual 141, [0, 1, 0, 0, 8, 665, 662, 663, 664, 92], [mX8_balance]), (.ireturn, [0], [])]
theorem kX9_family_107 : chL mX9_family 107 bX9_family_107 = true := by decide +kernel
def bX9_family_116 : List AI := [(.aload_n 0, [], []), (.aload_n 3, [], []), (.iload_n 2, [], []), (.invokevirtual 145, [0, 2, 0, 0, 9, 673, 670, 672, 12, 91], [mX9_breadOfAge]), (.ireturn, [0], [])]
theorem kX9_family_116 : chL mX9_family 116 bX9_family_116 = true := by decide +kernel
def bX9_breadOfAge_0 : List AI := [(.iload_n 2, [], []), (.bipush 10, [], []), (.if_icmp .lt 17, [20], []), (.iload_n 2, [], []), (.bipush 10, [], []), (.aload_n 0, [], []), (.getfield 26, [2, 9, 4, 456], []), (.getfield 149, [0, 8, 2, 205], []), (.iadd, [], []), (.if_icmp .lt 6, [23], []), (.nop, [20], [])]
theorem kX9_breadOfAge_0 : chL mX9_breadOfAge 0 bX9_breadOfAge_0 = true := by decide +kernel
def bX9_breadOfAge_20 : List AI := [(.bipush (-2), [], []), (.ireturn, [0], [])]
theorem kX9_breadOfAge_20 : chL mX9_breadOfAge 20 bX9_breadOfAge_20 = true := by decide +kernel
def bX9_breadOfAge_23 : List AI := [(.aload_n 1, [], []), (.getfield 152, [2, 2, 7, 162], []), (.iload_n 2, [], []), (.bipush 10, [], []), (.isub, [], []), (.iaload, [0], []), (.ireturn, [0], [])]
theorem kX9_breadOfAge_23 : chL mX9_breadOfAge 23 bX9_breadOfAge_23 = true := by decide +kernel
def bX9_oven_0 : List AI := [(.aload_n 0, [], []), (.getfield 26, [2, 9, 4, 456], []), (.iload_n 1, [], []), (.invokevirtual 156, [0, 1, 0, 0, 8, 681, 678, 679, 680, 92], [mX8_hasOven]), (.ifCond .eq 15, [23], []), (.aload_n 0, [], []), (.getfield 26, [2, 9, 4, 456], []), (.getfield 159, [2, 8, 7, 228], []), (.iload_n 1, [], []), (.iaload, [0], []), (.goto 5, [25], [])]
theorem kX9_oven_0 : chL mX9_oven 0 bX9_oven_0 = true := by decide +kernel
def bX9_oven_23 : List AI := [(.bipush (-2), [], []), (.nop, [25], [])]
theorem kX9_oven_23 : chL mX9_oven 23 bX9_oven_23 = true := by decide +kernel
def bX9_oven_25 : List AI := [(.ireturn, [0], [])]
theorem kX9_oven_25 : chL mX9_oven 25 bX9_oven_25 = true := by decide +kernel
def bX9_quarrel_0 : List AI := [(.aload_n 0, [], []), (.getfield 26, [2, 9, 4, 456], []), (.iload_n 1, [], []), (.invokevirtual 109, [0, 1, 0, 0, 8, 657, 654, 655, 656, 92], [mX8_hasFamily]), (.ifCond .eq 14, [22], []), (.aload_n 0, [], []), (.getfield 26, [2, 9, 4, 456], []), (.iload_n 2, [], []), (.invokevirtual 109, [0, 1, 0, 0, 8, 657, 654, 655, 656, 92], [mX8_hasFamily]), (.ifCond .ne 6, [25], []), (.nop, [22], [])]
theorem kX9_quarrel_0 : chL mX9_quarrel 0 bX9_quarrel_0 = true := by decide +kernel
def bX9_quarrel_22 : List AI := [(.bipush (-2), [], []), (.ireturn, [0], [])]
theorem kX9_quarrel_22 : chL mX9_quarrel 22 bX9_quarrel_22 = true := by decide +kernel
def bX9_quarrel_25 : List AI := [(.aload_n 0, [], []), (.getfield 26, [2, 9, 4, 456], []), (.getfield 113, [2, 8, 6, 220], []), (.iload_n 1, [], []), (.aaload, [0], []), (.getfield 162, [0, 2, 6, 157], []), (.iload_n 2, [], []), (.ishr, [], []), (.iconst 1, [], []), (.iand, [], []), (.ireturn, [0], [])]
theorem kX9_quarrel_25 : chL mX9_quarrel 25 bX9_quarrel_25 = true := by decide +kernel
def bX9_fallOut_0 : List AI := [(.aload_n 0, [], []), (.getfield 26, [2, 9, 4, 456], []), (.iload_n 1, [], []), (.iload_n 2, [], []), (.invokevirtual 165, [0, 2, 0, 0, 8, 693, 690, 691, 692, 92], [mX8_hasPair]), (.ifCond .ne 6, [15], []), (.bipush (-2), [], []), (.ireturn, [0], [])]
theorem kX9_fallOut_0 : chL mX9_fallOut 0 bX9_fallOut_0 = true := by decide +kernel
def bX9_fallOut_15 : List AI := [(.aload_n 0, [], []), (.getfield 26, [2, 9, 4, 456], []), (.getfield 113, [2, 8, 6, 220], []), (.iload_n 1, [], []), (.aaload, [0], []), (.dup, [], []), (.getfield 162, [0, 2, 6, 157], []), (.iconst 1, [], []), (.iload_n 2, [], []), (.ishl, [], []), (.ixor, [], []), (.putfield 162, [0, 2, 6, 157], []), (.aload_n 0, [], []), (.getfield 26, [2, 9, 4, 456], []), (.getfield 113, [2, 8, 6, 220], []), (.iload_n 2, [], []), (.aaload, [0], []), (.dup, [], []), (.getfield 162, [0, 2, 6, 157], []), (.iconst 1, [], []), (.iload_n 1, [], []), (.ishl, [], []), (.ixor, [], []), (.putfield 162, [0, 2, 6, 157], []), (.aload_n 0, [], []), (.getfield 26, [2, 9, 4, 456], []), (.getfield 113, [2, 8, 6, 220], []), (.iload_n 1, [], []), (.aaload, [0], []), (.getfield 162, [0, 2, 6, 157], []), (.iload_n 2, [], []), (.ishr, [], []), (.iconst 1, [], []), (.iand, [], []), (.ireturn, [0], [])]
theorem kX9_fallOut_15 : chL mX9_fallOut 15 bX9_fallOut_15 = true := by decide +kernel
def bX9_wish_0 : List AI := [(.aload_n 0, [], []), (.getfield 26, [2, 9, 4, 456], []), (.iload_n 1, [], []), (.invokevirtual 109, [0, 1, 0, 0, 8, 657, 654, 655, 656, 92], [mX8_hasFamily]), (.ifCond .ne 6, [14], []), (.bipush (-2), [], []), (.ireturn, [0], [])]
theorem kX9_wish_0 : chL mX9_wish 0 bX9_wish_0 = true := by decide +kernel
def bX9_wish_14 : List AI := [(.iload_n 2, [], []), (.ifCond .lt 9, [24], []), (.iload_n 2, [], []), (.bipush 99, [], []), (.if_icmp .le 6, [27], []), (.nop, [24], [])]
theorem kX9_wish_14 : chL mX9_wish 14 bX9_wish_14 = true := by decide +kernel
def bX9_wish_24 : List AI := [(.bipush (-3), [], []), (.ireturn, [0], [])]
theorem kX9_wish_24 : chL mX9_wish 24 bX9_wish_24 = true := by decide +kernel
def bX9_wish_27 : List AI := [(.aload_n 0, [], []), (.getfield 26, [2, 9, 4, 456], []), (.getfield 113, [2, 8, 6, 220], []), (.iload_n 1, [], []), (.aaload, [0], []), (.getfield 129, [0, 2, 2, 143], []), (.istore_n 3, [], []), (.aload_n 0, [], []), (.getfield 26, [2, 9, 4, 456], []), (.getfield 113, [2, 8, 6, 220], []), (.iload_n 1, [], []), (.aaload, [0], []), (.iload_n 2, [], []), (.putfield 129, [0, 2, 2, 143], []), (.iload_n 3, [], []), (.ireturn, [0], [])]
theorem kX9_wish_27 : chL mX9_wish 27 bX9_wish_27 = true := by decide +kernel
def bX9_mill_0 : List AI := [(.aload_n 0, [], []), (.getfield 26, [2, 9, 4, 456], []), (.iload_n 1, [], []), (.invokevirtual 109, [0, 1, 0, 0, 8, 657, 654, 655, 656, 92], [mX8_hasFamily]), (.ifCond .ne 6, [14], []), (.bipush (-2), [], []), (.ireturn, [0], [])]
theorem kX9_mill_0 : chL mX9_mill 0 bX9_mill_0 = true := by decide +kernel
def bX9_mill_14 : List AI := [(.iload_n 2, [], []), (.ifCond .lt 10, [25], []), (.iload_n 2, [], []), (.sipush 999, [], []), (.if_icmp .le 6, [28], []), (.nop, [25], [])]
theorem kX9_mill_14 : chL mX9_mill 14 bX9_mill_14 = true := by decide +kernel
def bX9_mill_25 : List AI := [(.bipush (-3), [], []), (.ireturn, [0], [])]
theorem kX9_mill_25 : chL mX9_mill 25 bX9_mill_25 = true := by decide +kernel
def bX9_mill_28 : List AI := [(.aload_n 0, [], []), (.getfield 26, [2, 9, 4, 456], []), (.getfield 113, [2, 8, 6, 220], []), (.iload_n 1, [], []), (.aaload, [0], []), (.astore_n 3, [], []), (.aload_n 3, [], []), (.sipush 999, [], []), (.aload_n 3, [], []), (.getfield 122, [0, 2, 1, 137], []), (.iload_n 2, [], []), (.iadd, [], []), (.invokestatic 169, [4, 703, 515, 102, 516], []), (.putfield 122, [0, 2, 1, 137], []), (.aload_n 3, [], []), (.getfield 122, [0, 2, 1, 137], []), (.ireturn, [0], [])]
theorem kX9_mill_28 : chL mX9_mill 28 bX9_mill_28 = true := by decide +kernel
def bX9_fire_0 : List AI := [(.aload_n 0, [], []), (.getfield 26, [2, 9, 4, 456], []), (.iload_n 1, [], []), (.invokevirtual 156, [0, 1, 0, 0, 8, 681, 678, 679, 680, 92], [mX8_hasOven]), (.ifCond .eq 10, [18], []), (.iload_n 2, [], []), (.invokestatic 175, [0, 1, 0, 0, 710, 708, 709, 91], [mX9_isRow]), (.ifCond .ne 6, [21], []), (.nop, [18], [])]
theorem kX9_fire_0 : chL mX9_fire 0 bX9_fire_0 = true := by decide +kernel
def bX9_fire_18 : List AI := [(.bipush (-2), [], []), (.ireturn, [0], [])]
theorem kX9_fire_18 : chL mX9_fire 18 bX9_fire_18 = true := by decide +kernel
def bX9_fire_21 : List AI := [(.aload_n 0, [], []), (.getfield 43, [2, 9, 8, 460], []), (.iload_n 2, [], []), (.aaload, [1], []), (.getfield 178, [0, 6, 0, 255], []), (.ifCond .ne 6, [36], []), (.bipush (-6), [], []), (.ireturn, [0], [])]
theorem kX9_fire_21 : chL mX9_fire 21 bX9_fire_21 = true := by decide +kernel
def bX9_fire_36 : List AI := [(.aload_n 0, [], []), (.getfield 43, [2, 9, 8, 460], []), (.iload_n 2, [], []), (.aaload, [1], []), (.getfield 182, [0, 6, 2, 259], []), (.aload_n 0, [], []), (.getfield 26, [2, 9, 4, 456], []), (.getfield 185, [0, 8, 0, 195], []), (.if_icmp .eq 6, [58], []), (.bipush (-7), [], []), (.ireturn, [0], [])]
theorem kX9_fire_36 : chL mX9_fire 36 bX9_fire_36 = true := by decide +kernel
def bX9_fire_58 : List AI := [(.aload_n 0, [], []), (.getfield 60, [2, 9, 10, 462], []), (.aload_n 0, [], []), (.getfield 26, [2, 9, 4, 456], []), (.iload_n 1, [], []), (.aload_n 0, [], []), (.getfield 43, [2, 9, 8, 460], []), (.iload_n 2, [], []), (.aaload, [1], []), (.invokevirtual 188, [0, 3, 0, 0, 0, 714, 711, 712, 713, 96], [mX0_bakeRow]), (.ireturn, [0], [])]
theorem kX9_fire_58 : chL mX9_fire 58 bX9_fire_58 = true := by decide +kernel
def bX9_fireWishes_0 : List AI := [(.aload_n 0, [], []), (.getfield 26, [2, 9, 4, 456], []), (.iload_n 1, [], []), (.invokevirtual 156, [0, 1, 0, 0, 8, 681, 678, 679, 680, 92], [mX8_hasOven]), (.ifCond .ne 6, [14], []), (.bipush (-2), [], []), (.ireturn, [0], [])]
theorem kX9_fireWishes_0 : chL mX9_fireWishes 0 bX9_fireWishes_0 = true := by decide +kernel
def bX9_fireWishes_14 : List AI := [(.aload_n 0, [], []), (.getfield 26, [2, 9, 4, 456], []), (.iload_n 2, [], []), (.invokevirtual 192, [0, 1, 0, 0, 8, 735, 732, 733, 734, 92], [mX8_hasSet]), (.ifCond .ne 6, [28], []), (.bipush (-3), [], []), (.ireturn, [0], [])]
theorem kX9_fireWishes_14 : chL mX9_fireWishes 14 bX9_fireWishes_14 = true := by decide +kernel
def bX9_fireWishes_28 : List AI := [(.aload_n 0, [], []), (.getfield 60, [2, 9, 10, 462], []), (.aload_n 0, [], []), (.getfield 26, [2, 9, 4, 456], []), (.iload_n 1, [], []), (.iload_n 2, [], []), (.invokevirtual 195, [0, 3, 0, 0, 0, 739, 736, 737, 738, 96], [mX0_bakeWishes]), (.ireturn, [0], [])]
theorem kX9_fireWishes_28 : chL mX9_fireWishes 28 bX9_fireWishes_28 = true := by decide +kernel
def bX9_judge_0 : List AI := [(.iload_n 1, [], []), (.invokestatic 175, [0, 1, 0, 0, 710, 708, 709, 91], [mX9_isRow]), (.ifCond .eq 12, [16], []), (.iload_n 2, [], []), (.ifCond .lt 8, [16], []), (.iload_n 2, [], []), (.iconst 2, [], []), (.if_icmp .le 6, [19], []), (.nop, [16], [])]
theorem kX9_judge_0 : chL mX9_judge 0 bX9_judge_0 = true := by decide +kernel
def bX9_judge_16 : List AI := [(.bipush (-2), [], []), (.ireturn, [0], [])]
theorem kX9_judge_16 : chL mX9_judge 16 bX9_judge_16 = true := by decide +kernel
def bX9_judge_19 : List AI := [(.aload_n 0, [], []), (.getfield 43, [2, 9, 8, 460], []), (.iload_n 1, [], []), (.aaload, [1], []), (.getfield 178, [0, 6, 0, 255], []), (.ifCond .ne 6, [34], []), (.bipush (-6), [], []), (.ireturn, [0], [])]
theorem kX9_judge_19 : chL mX9_judge 19 bX9_judge_19 = true := by decide +kernel
def bX9_judge_34 : List AI := [(.aload_n 0, [], []), (.getfield 30, [2, 9, 5, 457], []), (.aload_n 0, [], []), (.getfield 26, [2, 9, 4, 456], []), (.invokevirtual 102, [0, 1, 0, 0, 8, 637, 634, 635, 636, 92], [mX8_become]), (.aload_n 0, [], []), (.getfield 60, [2, 9, 10, 462], []), (.aload_n 0, [], []), (.getfield 30, [2, 9, 5, 457], []), (.aload_n 0, [], []), (.getfield 43, [2, 9, 8, 460], []), (.iload_n 1, [], []), (.aaload, [1], []), (.invokevirtual 199, [0, 2, 0, 0, 0, 751, 748, 749, 750, 96], [mX0_bakeAll]), (.iload_n 2, [], []), (.lookupswitch 55 #[(0, 25), (1, 47)], [118, 88, 110], [])]
theorem kX9_judge_34 : chL mX9_judge 34 bX9_judge_34 = true := by decide +kernel
def bX9_judge_88 : List AI := [(.aload_n 0, [], []), (.getfield 60, [2, 9, 10, 462], []), (.getfield 203, [0, 0, 1, 315], []), (.ifCond .ne 7, [102], []), (.iconst (-1), [], []), (.goto 10, [109], [])]
theorem kX9_judge_88 : chL mX9_judge 88 bX9_judge_88 = true := by decide +kernel
def bX9_judge_102 : List AI := [(.aload_n 0, [], []), (.getfield 60, [2, 9, 10, 462], []), (.getfield 206, [0, 0, 0, 313], []), (.nop, [109], [])]
theorem kX9_judge_102 : chL mX9_judge 102 bX9_judge_102 = true := by decide +kernel
def bX9_judge_109 : List AI := [(.ireturn, [0], [])]
theorem kX9_judge_109 : chL mX9_judge 109 bX9_judge_109 = true := by decide +kernel
def bX9_judge_110 : List AI := [(.aload_n 0, [], []), (.getfield 60, [2, 9, 10, 462], []), (.getfield 203, [0, 0, 1, 315], []), (.ireturn, [0], [])]
theorem kX9_judge_110 : chL mX9_judge 110 bX9_judge_110 = true := by decide +kernel
def bX9_judge_118 : List AI := [(.aload_n 0, [], []), (.getfield 60, [2, 9, 10, 462], []), (.getfield 209, [0, 0, 2, 317], []), (.ireturn, [0], [])]
theorem kX9_judge_118 : chL mX9_judge 118 bX9_judge_118 = true := by decide +kernel
def bX9_perform_0 : List AI := [(.iload_n 1, [], []), (.invokestatic 175, [0, 1, 0, 0, 710, 708, 709, 91], [mX9_isRow]), (.ifCond .ne 6, [10], []), (.bipush (-2), [], []), (.ireturn, [0], [])]
theorem kX9_perform_0 : chL mX9_perform 0 bX9_perform_0 = true := by decide +kernel
def bX9_perform_10 : List AI := [(.aload_n 0, [], []), (.getfield 43, [2, 9, 8, 460], []), (.iload_n 1, [], []), (.aaload, [1], []), (.getfield 178, [0, 6, 0, 255], []), (.ifCond .ne 6, [25], []), (.bipush (-6), [], []), (.ireturn, [0], [])]
theorem kX9_perform_10 : chL mX9_perform 10 bX9_perform_10 = true := by decide +kernel
def bX9_perform_25 : List AI := [(.aload_n 0, [], []), (.getfield 60, [2, 9, 10, 462], []), (.aload_n 0, [], []), (.getfield 26, [2, 9, 4, 456], []), (.aload_n 0, [], []), (.getfield 43, [2, 9, 8, 460], []), (.iload_n 1, [], []), (.aaload, [1], []), (.invokevirtual 199, [0, 2, 0, 0, 0, 751, 748, 749, 750, 96], [mX0_bakeAll]), (.aload_n 0, [], []), (.getfield 60, [2, 9, 10, 462], []), (.getfield 206, [0, 0, 0, 313], []), (.ireturn, [0], [])]
theorem kX9_perform_25 : chL mX9_perform 25 bX9_perform_25 = true := by decide +kernel
def bX9_day_0 : List AI := [(.aload_n 0, [], []), (.getfield 26, [2, 9, 4, 456], []), (.getfield 212, [0, 8, 4, 211], []), (.sipush 999, [], []), (.if_icmp .lt 8, [18], []), (.bipush (-5), [], []), (.goto 10, [25], [])]
theorem kX9_day_0 : chL mX9_day 0 bX9_day_0 = true := by decide +kernel
def bX9_day_18 : List AI := [(.aload_n 0, [], []), (.getfield 26, [2, 9, 4, 456], []), (.invokevirtual 215, [0, 0, 0, 0, 8, 770, 767, 768, 769, 92], [mX8_endDay]), (.nop, [25], [])]
theorem kX9_day_18 : chL mX9_day 18 bX9_day_18 = true := by decide +kernel
def bX9_day_25 : List AI := [(.ireturn, [0], [])]
theorem kX9_day_25 : chL mX9_day 25 bX9_day_25 = true := by decide +kernel
def bX9_drawn_0 : List AI := [(.iload_n 2, [], []), (.iconst 1, [], []), (.if_icmp .lt 9, [11], []), (.iload_n 2, [], []), (.bipush 30, [], []), (.if_icmp .le 6, [14], []), (.nop, [11], [])]
theorem kX9_drawn_0 : chL mX9_drawn 0 bX9_drawn_0 = true := by decide +kernel
def bX9_drawn_11 : List AI := [(.bipush (-3), [], []), (.ireturn, [0], [])]
theorem kX9_drawn_11 : chL mX9_drawn 11 bX9_drawn_11 = true := by decide +kernel
def bX9_drawn_14 : List AI := [(.aload_n 0, [], []), (.getfield 26, [2, 9, 4, 456], []), (.getfield 185, [0, 8, 0, 195], []), (.ifCond .eq 18, [39], []), (.aload_n 0, [], []), (.getfield 26, [2, 9, 4, 456], []), (.getfield 212, [0, 8, 4, 211], []), (.iload_n 2, [], []), (.iadd, [], []), (.sipush 999, [], []), (.if_icmp .le 6, [42], []), (.nop, [39], [])]
theorem kX9_drawn_14 : chL mX9_drawn 14 bX9_drawn_14 = true := by decide +kernel
def bX9_drawn_39 : List AI := [(.bipush (-5), [], []), (.ireturn, [0], [])]
theorem kX9_drawn_39 : chL mX9_drawn 39 bX9_drawn_39 = true := by decide +kernel
def bX9_drawn_42 : List AI := [(.iload_n 1, [], []), (.istore_n 3, [], []), (.iconst 0, [], []), (.istore 4, [], []), (.iconst 0, [], []), (.istore 5, [], []), (.nop, [50], [])]
theorem kX9_drawn_42 : chL mX9_drawn 42 bX9_drawn_42 = true := by decide +kernel
def bX9_drawn_50 : List AI := [(.iload 5, [], []), (.iload_n 2, [], []), (.if_icmp .ge 64, [117], []), (.iload_n 3, [], []), (.invokestatic 218, [0, 1, 0, 0, 787, 785, 786, 91], [mX9_nextDraw]), (.istore_n 3, [], []), (.iload_n 3, [], []), (.bipush 16, [], []), (.iushr, [], []), (.aload_n 0, [], []), (.getfield 26, [2, 9, 4, 456], []), (.getfield 185, [0, 8, 0, 195], []), (.irem, [], []), (.istore 6, [], []), (.iload_n 3, [], []), (.invokestatic 218, [0, 1, 0, 0, 787, 785, 786, 91], [mX9_nextDraw]), (.istore_n 3, [], []), (.aload_n 0, [], []), (.getfield 26, [2, 9, 4, 456], []), (.getfield 113, [2, 8, 6, 220], []), (.iload 6, [], []), (.aaload, [0], []), (.iload_n 3, [], []), (.bipush 16, [], []), (.iushr, [], []), (.iconst 3, [], []), (.irem, [], []), (.invokevirtual 221, [0, 1, 0, 0, 2, 792, 789, 790, 791, 93], [mX2_changeEats]), (.iload 4, [], []), (.aload_n 0, [], []), (.getfield 26, [2, 9, 4, 456], []), (.invokevirtual 215, [0, 0, 0, 0, 8, 770, 767, 768, 769, 92], [mX8_endDay]), (.iadd, [], []), (.istore 4, [], []), (.iinc 5 1, [], []), (.goto (-64), [50], [])]
theorem kX9_drawn_50 : chL mX9_drawn 50 bX9_drawn_50 = true := by decide +kernel
def bX9_drawn_117 : List AI := [(.iload 4, [], []), (.ireturn, [0], [])]
theorem kX9_drawn_117 : chL mX9_drawn 117 bX9_drawn_117 = true := by decide +kernel
def bX9_nextDraw_0 : List AI := [(.ldc 224, [0, 1103515245, 788], []), (.iload_n 0, [], []), (.imul, [], []), (.sipush 12345, [], []), (.iadd, [], []), (.ireturn, [0], [])]
theorem kX9_nextDraw_0 : chL mX9_nextDraw 0 bX9_nextDraw_0 = true := by decide +kernel
def bX9_lasts_0 : List AI := [(.aload_n 0, [], []), (.getfield 26, [2, 9, 4, 456], []), (.iload_n 1, [], []), (.invokevirtual 109, [0, 1, 0, 0, 8, 657, 654, 655, 656, 92], [mX8_hasFamily]), (.ifCond .ne 6, [14], []), (.bipush (-2), [], []), (.ireturn, [0], [])]
theorem kX9_lasts_0 : chL mX9_lasts 0 bX9_lasts_0 = true := by decide +kernel
def bX9_lasts_14 : List AI := [(.aload_n 0, [], []), (.getfield 30, [2, 9, 5, 457], []), (.getfield 113, [2, 8, 6, 220], []), (.iconst 0, [], []), (.aaload, [0], []), (.astore_n 2, [], []), (.aload_n 2, [], []), (.aload_n 0, [], []), (.getfield 26, [2, 9, 4, 456], []), (.getfield 113, [2, 8, 6, 220], []), (.iload_n 1, [], []), (.aaload, [0], []), (.invokevirtual 225, [0, 1, 0, 0, 2, 644, 797, 642, 643, 93], [mX2_become]), (.iconst 0, [], []), (.istore_n 3, [], []), (.nop, [39], [])]
theorem kX9_lasts_14 : chL mX9_lasts 14 bX9_lasts_14 = true := by decide +kernel
def bX9_lasts_39 : List AI := [(.iload_n 3, [], []), (.bipush 99, [], []), (.if_icmp .gt 30, [72], []), (.aload_n 2, [], []), (.invokevirtual 228, [0, 0, 0, 0, 2, 774, 798, 772, 773, 93], [mX2_eat]), (.ifCond .le 5, [54], []), (.iload_n 3, [], []), (.ireturn, [0], [])]
theorem kX9_lasts_39 : chL mX9_lasts 39 bX9_lasts_39 = true := by decide +kernel
def bX9_lasts_54 : List AI := [(.aload_n 2, [], []), (.aload_n 0, [], []), (.getfield 26, [2, 9, 4, 456], []), (.getfield 149, [0, 8, 2, 205], []), (.invokevirtual 231, [0, 1, 0, 0, 2, 779, 799, 777, 778, 93], [mX2_ageBread]), (.pop, [], []), (.iinc 3 1, [], []), (.goto (-30), [39], [])]
theorem kX9_lasts_54 : chL mX9_lasts 54 bX9_lasts_54 = true := by decide +kernel
def bX9_lasts_72 : List AI := [(.iconst (-1), [], []), (.ireturn, [0], [])]
theorem kX9_lasts_72 : chL mX9_lasts 72 bX9_lasts_72 = true := by decide +kernel
def bX9_isSum_0 : List AI := [(.iload_n 0, [], []), (.ifCond .lt 14, [15], []), (.iload_n 0, [], []), (.sipush 2000, [], []), (.if_icmp .gt 7, [15], []), (.iconst 1, [], []), (.goto 4, [16], [])]
theorem kX9_isSum_0 : chL mX9_isSum 0 bX9_isSum_0 = true := by decide +kernel
def bX9_isSum_15 : List AI := [(.iconst 0, [], []), (.nop, [16], [])]
theorem kX9_isSum_15 : chL mX9_isSum 15 bX9_isSum_15 = true := by decide +kernel
def bX9_isSum_16 : List AI := [(.ireturn, [1], [])]
theorem kX9_isSum_16 : chL mX9_isSum 16 bX9_isSum_16 = true := by decide +kernel
def bX9_canBake_0 : List AI := [(.iload_n 1, [], []), (.invokestatic 234, [0, 1, 0, 0, 806, 804, 805, 91], [mX9_isSum]), (.ifCond .ne 6, [10], []), (.bipush (-3), [], []), (.ireturn, [0], [])]
theorem kX9_canBake_0 : chL mX9_canBake 0 bX9_canBake_0 = true := by decide +kernel
def bX9_canBake_10 : List AI := [(.aload_n 0, [], []), (.getfield 67, [2, 9, 11, 463], []), (.aload_n 0, [], []), (.getfield 26, [2, 9, 4, 456], []), (.invokevirtual 237, [0, 1, 0, 0, 7, 810, 807, 808, 809, 97], [mX7_survey]), (.aload_n 0, [], []), (.getfield 67, [2, 9, 11, 463], []), (.iload_n 1, [], []), (.invokevirtual 240, [0, 1, 0, 0, 7, 828, 825, 826, 827, 97], [mX7_isBaked]), (.ifCond .eq 7, [36], []), (.iconst 1, [], []), (.goto 4, [37], [])]
theorem kX9_canBake_10 : chL mX9_canBake 10 bX9_canBake_10 = true := by decide +kernel
def bX9_canBake_36 : List AI := [(.iconst 0, [], []), (.nop, [37], [])]
theorem kX9_canBake_36 : chL mX9_canBake 36 bX9_canBake_36 = true := by decide +kernel
def bX9_canBake_37 : List AI := [(.ireturn, [0], [])]
theorem kX9_canBake_37 : chL mX9_canBake 37 bX9_canBake_37 = true := by decide +kernel
def bX9_fires_0 : List AI := [(.iload_n 1, [], []), (.invokestatic 234, [0, 1, 0, 0, 806, 804, 805, 91], [mX9_isSum]), (.ifCond .eq 18, [22], []), (.aload_n 0, [], []), (.getfield 67, [2, 9, 11, 463], []), (.aload_n 0, [], []), (.getfield 26, [2, 9, 4, 456], []), (.iload_n 1, [], []), (.invokevirtual 243, [0, 2, 0, 0, 7, 836, 833, 834, 835, 97], [mX7_fewestFires]), (.goto 5, [24], [])]
theorem kX9_fires_0 : chL mX9_fires 0 bX9_fires_0 = true := by decide +kernel
def bX9_fires_22 : List AI := [(.bipush (-3), [], []), (.nop, [24], [])]
theorem kX9_fires_22 : chL mX9_fires 22 bX9_fires_22 = true := by decide +kernel
def bX9_fires_24 : List AI := [(.ireturn, [0], [])]
theorem kX9_fires_24 : chL mX9_fires 24 bX9_fires_24 = true := by decide +kernel
def bX9_ways_0 : List AI := [(.iload_n 1, [], []), (.invokestatic 234, [0, 1, 0, 0, 806, 804, 805, 91], [mX9_isSum]), (.ifCond .eq 18, [22], []), (.aload_n 0, [], []), (.getfield 67, [2, 9, 11, 463], []), (.aload_n 0, [], []), (.getfield 26, [2, 9, 4, 456], []), (.iload_n 1, [], []), (.invokevirtual 247, [0, 2, 0, 0, 7, 844, 841, 842, 843, 97], [mX7_countWays]), (.goto 5, [24], [])]
theorem kX9_ways_0 : chL mX9_ways 0 bX9_ways_0 = true := by decide +kernel
def bX9_ways_22 : List AI := [(.bipush (-3), [], []), (.nop, [24], [])]
theorem kX9_ways_22 : chL mX9_ways 22 bX9_ways_22 = true := by decide +kernel
def bX9_ways_24 : List AI := [(.ireturn, [0], [])]
theorem kX9_ways_24 : chL mX9_ways 24 bX9_ways_24 = true := by decide +kernel
def bX9_gap_0 : List AI := [(.aload_n 0, [], []), (.getfield 67, [2, 9, 11, 463], []), (.aload_n 0, [], []), (.getfield 26, [2, 9, 4, 456], []), (.invokevirtual 237, [0, 1, 0, 0, 7, 810, 807, 808, 809, 97], [mX7_survey]), (.aload_n 0, [], []), (.getfield 67, [2, 9, 11, 463], []), (.invokevirtual 250, [0, 0, 0, 0, 7, 852, 849, 850, 851, 97], [mX7_greatestGap]), (.ireturn, [0], [])]
theorem kX9_gap_0 : chL mX9_gap 0 bX9_gap_0 = true := by decide +kernel
def bX9_upTo_0 : List AI := [(.iload_n 1, [], []), (.ifCond .lt 10, [11], []), (.iload_n 1, [], []), (.sipush 1900, [], []), (.if_icmp .le 6, [14], []), (.nop, [11], [])]
theorem kX9_upTo_0 : chL mX9_upTo 0 bX9_upTo_0 = true := by decide +kernel
def bX9_upTo_11 : List AI := [(.bipush (-3), [], []), (.ireturn, [0], [])]
theorem kX9_upTo_11 : chL mX9_upTo 11 bX9_upTo_11 = true := by decide +kernel
def bX9_upTo_14 : List AI := [(.aload_n 0, [], []), (.getfield 67, [2, 9, 11, 463], []), (.aload_n 0, [], []), (.getfield 26, [2, 9, 4, 456], []), (.invokevirtual 237, [0, 1, 0, 0, 7, 810, 807, 808, 809, 97], [mX7_survey]), (.aload_n 0, [], []), (.getfield 67, [2, 9, 11, 463], []), (.iload_n 1, [], []), (.invokevirtual 253, [0, 1, 0, 0, 7, 861, 858, 859, 860, 97], [mX7_leastFrom]), (.ireturn, [0], [])]
theorem kX9_upTo_14 : chL mX9_upTo 14 bX9_upTo_14 = true := by decide +kernel
def bX9_group_0 : List AI := [(.aload_n 0, [], []), (.getfield 26, [2, 9, 4, 456], []), (.iload_n 1, [], []), (.invokevirtual 156, [0, 1, 0, 0, 8, 681, 678, 679, 680, 92], [mX8_hasOven]), (.ifCond .ne 6, [14], []), (.bipush (-2), [], []), (.ireturn, [0], [])]
theorem kX9_group_0 : chL mX9_group 0 bX9_group_0 = true := by decide +kernel
def bX9_group_14 : List AI := [(.aload_n 0, [], []), (.getfield 74, [2, 9, 12, 464], []), (.aload_n 0, [], []), (.getfield 26, [2, 9, 4, 456], []), (.invokevirtual 256, [0, 1, 0, 0, 3, 870, 867, 868, 869, 98], [mX3_survey]), (.aload_n 0, [], []), (.getfield 74, [2, 9, 12, 464], []), (.aload_n 0, [], []), (.getfield 26, [2, 9, 4, 456], []), (.iload_n 1, [], []), (.iload_n 2, [], []), (.iconst 0, [], []), (.invokevirtual 257, [0, 4, 0, 0, 3, 882, 879, 880, 881, 98], [mX3_pick]), (.ireturn, [0], [])]
theorem kX9_group_14 : chL mX9_group 14 bX9_group_14 = true := by decide +kernel
def bX9_fills_0 : List AI := [(.aload_n 0, [], []), (.getfield 26, [2, 9, 4, 456], []), (.iload_n 1, [], []), (.invokevirtual 192, [0, 1, 0, 0, 8, 735, 732, 733, 734, 92], [mX8_hasSet]), (.ifCond .ne 6, [14], []), (.bipush (-3), [], []), (.ireturn, [0], [])]
theorem kX9_fills_0 : chL mX9_fills 0 bX9_fills_0 = true := by decide +kernel
def bX9_fills_14 : List AI := [(.aload_n 0, [], []), (.getfield 74, [2, 9, 12, 464], []), (.aload_n 0, [], []), (.getfield 26, [2, 9, 4, 456], []), (.invokevirtual 256, [0, 1, 0, 0, 3, 870, 867, 868, 869, 98], [mX3_survey]), (.aload_n 0, [], []), (.getfield 74, [2, 9, 12, 464], []), (.aload_n 0, [], []), (.getfield 26, [2, 9, 4, 456], []), (.iload_n 1, [], []), (.invokevirtual 261, [0, 2, 0, 0, 3, 878, 902, 876, 877, 98], [mX3_ovensFilled]), (.ireturn, [0], [])]
theorem kX9_fills_14 : chL mX9_fills 14 bX9_fills_14 = true := by decide +kernel
def bX9_served_0 : List AI := [(.iload_n 1, [], []), (.ifCond .lt 8, [9], []), (.iload_n 1, [], []), (.iconst 2, [], []), (.if_icmp .le 6, [12], []), (.nop, [9], [])]
theorem kX9_served_0 : chL mX9_served 0 bX9_served_0 = true := by decide +kernel
def bX9_served_9 : List AI := [(.bipush (-2), [], []), (.ireturn, [0], [])]
theorem kX9_served_9 : chL mX9_served 9 bX9_served_9 = true := by decide +kernel
def bX9_served_12 : List AI := [(.aload_n 0, [], []), (.getfield 74, [2, 9, 12, 464], []), (.aload_n 0, [], []), (.getfield 26, [2, 9, 4, 456], []), (.invokevirtual 256, [0, 1, 0, 0, 3, 870, 867, 868, 869, 98], [mX3_survey]), (.aload_n 0, [], []), (.getfield 74, [2, 9, 12, 464], []), (.invokevirtual 264, [0, 0, 0, 0, 3, 910, 907, 908, 909, 98], [mX3_findServed]), (.iload_n 1, [], []), (.lookupswitch 52 #[(0, 25), (1, 36)], [83, 56, 67], [])]
theorem kX9_served_12 : chL mX9_served 12 bX9_served_12 = true := by decide +kernel
def bX9_served_56 : List AI := [(.aload_n 0, [], []), (.getfield 74, [2, 9, 12, 464], []), (.getfield 267, [0, 3, 1, 353], []), (.invokestatic 270, [0, 1, 0, 0, 938, 947, 937, 109], [mJ6_bitCount_0f7a4]), (.ireturn, [0], [])]
theorem kX9_served_56 : chL mX9_served 56 bX9_served_56 = true := by decide +kernel
def bX9_served_67 : List AI := [(.aload_n 0, [], []), (.getfield 74, [2, 9, 12, 464], []), (.getfield 275, [2, 3, 6, 363], []), (.aload_n 0, [], []), (.getfield 74, [2, 9, 12, 464], []), (.getfield 267, [0, 3, 1, 353], []), (.iaload, [0], []), (.ireturn, [0], [])]
theorem kX9_served_67 : chL mX9_served 67 bX9_served_67 = true := by decide +kernel
def bX9_served_83 : List AI := [(.aload_n 0, [], []), (.getfield 74, [2, 9, 12, 464], []), (.getfield 267, [0, 3, 1, 353], []), (.ireturn, [0], [])]
theorem kX9_served_83 : chL mX9_served 83 bX9_served_83 = true := by decide +kernel
def bX9_parted_0 : List AI := [(.aload_n 0, [], []), (.getfield 74, [2, 9, 12, 464], []), (.aload_n 0, [], []), (.getfield 26, [2, 9, 4, 456], []), (.invokevirtual 256, [0, 1, 0, 0, 3, 870, 867, 868, 869, 98], [mX3_survey]), (.aload_n 0, [], []), (.getfield 74, [2, 9, 12, 464], []), (.getfield 278, [0, 3, 0, 351], []), (.invokestatic 270, [0, 1, 0, 0, 938, 947, 937, 109], [mJ6_bitCount_0f7a4]), (.bipush 8, [], []), (.if_icmp .le 8, [31], []), (.bipush (-4), [], []), (.goto 10, [38], [])]
theorem kX9_parted_0 : chL mX9_parted 0 bX9_parted_0 = true := by decide +kernel
def bX9_parted_31 : List AI := [(.aload_n 0, [], []), (.getfield 74, [2, 9, 12, 464], []), (.invokevirtual 281, [0, 0, 0, 0, 3, 955, 952, 953, 954, 98], [mX3_countPartings]), (.nop, [38], [])]
theorem kX9_parted_31 : chL mX9_parted 31 bX9_parted_31 = true := by decide +kernel
def bX9_parted_38 : List AI := [(.ireturn, [0], [])]
theorem kX9_parted_38 : chL mX9_parted 38 bX9_parted_38 = true := by decide +kernel
def bX9_together_0 : List AI := [(.aload_n 0, [], []), (.getfield 26, [2, 9, 4, 456], []), (.iload_n 1, [], []), (.invokevirtual 109, [0, 1, 0, 0, 8, 657, 654, 655, 656, 92], [mX8_hasFamily]), (.ifCond .ne 6, [14], []), (.bipush (-2), [], []), (.ireturn, [0], [])]
theorem kX9_together_0 : chL mX9_together 0 bX9_together_0 = true := by decide +kernel
def bX9_together_14 : List AI := [(.aload_n 0, [], []), (.getfield 74, [2, 9, 12, 464], []), (.aload_n 0, [], []), (.getfield 26, [2, 9, 4, 456], []), (.invokevirtual 256, [0, 1, 0, 0, 3, 870, 867, 868, 869, 98], [mX3_survey]), (.aload_n 0, [], []), (.getfield 74, [2, 9, 12, 464], []), (.getfield 278, [0, 3, 0, 351], []), (.invokestatic 270, [0, 1, 0, 0, 938, 947, 937, 109], [mJ6_bitCount_0f7a4]), (.bipush 8, [], []), (.if_icmp .le 6, [43], []), (.bipush (-4), [], []), (.ireturn, [0], [])]
theorem kX9_together_14 : chL mX9_together 14 bX9_together_14 = true := by decide +kernel
def bX9_together_43 : List AI := [(.aload_n 0, [], []), (.getfield 74, [2, 9, 12, 464], []), (.iload_n 1, [], []), (.invokevirtual 284, [0, 1, 0, 0, 3, 963, 960, 961, 962, 98], [mX3_alwaysWith]), (.ireturn, [0], [])]
theorem kX9_together_43 : chL mX9_together 43 bX9_together_43 = true := by decide +kernel
def bX9_stones_0 : List AI := [(.aload_n 0, [], []), (.getfield 26, [2, 9, 4, 456], []), (.iload_n 1, [], []), (.invokevirtual 156, [0, 1, 0, 0, 8, 681, 678, 679, 680, 92], [mX8_hasOven]), (.ifCond .eq 12, [20], []), (.iload_n 2, [], []), (.ifCond .lt 8, [20], []), (.iload_n 2, [], []), (.iconst 1, [], []), (.if_icmp .le 6, [23], []), (.nop, [20], [])]
theorem kX9_stones_0 : chL mX9_stones 0 bX9_stones_0 = true := by decide +kernel
def bX9_stones_20 : List AI := [(.bipush (-2), [], []), (.ireturn, [0], [])]
theorem kX9_stones_20 : chL mX9_stones 20 bX9_stones_20 = true := by decide +kernel
def bX9_stones_23 : List AI := [(.aload_n 0, [], []), (.getfield 26, [2, 9, 4, 456], []), (.getfield 159, [2, 8, 7, 228], []), (.iload_n 1, [], []), (.iaload, [0], []), (.istore_n 3, [], []), (.aload_n 0, [], []), (.getfield 26, [2, 9, 4, 456], []), (.invokevirtual 287, [0, 0, 0, 0, 8, 972, 969, 970, 971, 92], [mX8_greatestWish]), (.iload_n 3, [], []), (.if_icmp .le 5, [46], []), (.iconst (-1), [], []), (.ireturn, [0], [])]
theorem kX9_stones_23 : chL mX9_stones 23 bX9_stones_23 = true := by decide +kernel
def bX9_stones_46 : List AI := [(.aload_n 0, [], []), (.getfield 74, [2, 9, 12, 464], []), (.aload_n 0, [], []), (.getfield 26, [2, 9, 4, 456], []), (.invokevirtual 256, [0, 1, 0, 0, 3, 870, 867, 868, 869, 98], [mX3_survey]), (.aload_n 0, [], []), (.getfield 74, [2, 9, 12, 464], []), (.iload_n 3, [], []), (.invokevirtual 290, [0, 1, 0, 0, 3, 977, 974, 975, 976, 98], [mX3_fewestFires]), (.istore 4, [], []), (.iload_n 2, [], []), (.ifCond .ne 8, [76], []), (.iload 4, [], []), (.goto 15, [88], [])]
theorem kX9_stones_46 : chL mX9_stones 46 bX9_stones_46 = true := by decide +kernel
def bX9_stones_76 : List AI := [(.iload 4, [], []), (.iload_n 3, [], []), (.imul, [], []), (.aload_n 0, [], []), (.getfield 26, [2, 9, 4, 456], []), (.invokevirtual 292, [0, 0, 0, 0, 8, 981, 978, 979, 980, 92], [mX8_allWishes]), (.isub, [], []), (.nop, [88], [])]
theorem kX9_stones_76 : chL mX9_stones 76 bX9_stones_76 = true := by decide +kernel
def bX9_stones_88 : List AI := [(.ireturn, [0], [])]
theorem kX9_stones_88 : chL mX9_stones 88 bX9_stones_88 = true := by decide +kernel
def bX9_leaves_0 : List AI := [(.aload_n 0, [], []), (.getfield 26, [2, 9, 4, 456], []), (.iload_n 1, [], []), (.invokevirtual 156, [0, 1, 0, 0, 8, 681, 678, 679, 680, 92], [mX8_hasOven]), (.ifCond .ne 6, [14], []), (.bipush (-2), [], []), (.ireturn, [0], [])]
theorem kX9_leaves_0 : chL mX9_leaves 0 bX9_leaves_0 = true := by decide +kernel
def bX9_leaves_14 : List AI := [(.aload_n 0, [], []), (.getfield 74, [2, 9, 12, 464], []), (.aload_n 0, [], []), (.getfield 26, [2, 9, 4, 456], []), (.invokevirtual 256, [0, 1, 0, 0, 3, 870, 867, 868, 869, 98], [mX3_survey]), (.aload_n 0, [], []), (.getfield 26, [2, 9, 4, 456], []), (.iload_n 2, [], []), (.invokevirtual 192, [0, 1, 0, 0, 8, 735, 732, 733, 734, 92], [mX8_hasSet]), (.ifCond .eq 24, [57], []), (.aload_n 0, [], []), (.getfield 74, [2, 9, 12, 464], []), (.getfield 295, [2, 3, 5, 361], []), (.iload_n 2, [], []), (.iaload, [0], []), (.aload_n 0, [], []), (.getfield 26, [2, 9, 4, 456], []), (.getfield 159, [2, 8, 7, 228], []), (.iload_n 1, [], []), (.iaload, [0], []), (.if_icmp .eq 6, [60], []), (.nop, [57], [])]
theorem kX9_leaves_14 : chL mX9_leaves 14 bX9_leaves_14 = true := by decide +kernel
def bX9_leaves_57 : List AI := [(.bipush (-5), [], []), (.ireturn, [0], [])]
theorem kX9_leaves_57 : chL mX9_leaves 57 bX9_leaves_57 = true := by decide +kernel
def bX9_leaves_60 : List AI := [(.aload_n 0, [], []), (.getfield 74, [2, 9, 12, 464], []), (.aload_n 0, [], []), (.getfield 26, [2, 9, 4, 456], []), (.iload_n 1, [], []), (.iload_n 2, [], []), (.invokevirtual 298, [0, 3, 0, 0, 3, 886, 986, 884, 885, 98], [mX3_leavers]), (.ireturn, [0], [])]
theorem kX9_leaves_60 : chL mX9_leaves 60 bX9_leaves_60 = true := by decide +kernel
def bX9_stable_0 : List AI := [(.aload_n 0, [], []), (.getfield 26, [2, 9, 4, 456], []), (.iload_n 1, [], []), (.invokevirtual 156, [0, 1, 0, 0, 8, 681, 678, 679, 680, 92], [mX8_hasOven]), (.ifCond .ne 6, [14], []), (.bipush (-2), [], []), (.ireturn, [0], [])]
theorem kX9_stable_0 : chL mX9_stable 0 bX9_stable_0 = true := by decide +kernel
def bX9_stable_14 : List AI := [(.aload_n 0, [], []), (.getfield 74, [2, 9, 12, 464], []), (.aload_n 0, [], []), (.getfield 26, [2, 9, 4, 456], []), (.invokevirtual 256, [0, 1, 0, 0, 3, 870, 867, 868, 869, 98], [mX3_survey]), (.aload_n 0, [], []), (.getfield 74, [2, 9, 12, 464], []), (.aload_n 0, [], []), (.getfield 26, [2, 9, 4, 456], []), (.iload_n 1, [], []), (.iload_n 2, [], []), (.iconst 1, [], []), (.invokevirtual 257, [0, 4, 0, 0, 3, 882, 879, 880, 881, 98], [mX3_pick]), (.ireturn, [0], [])]
theorem kX9_stable_14 : chL mX9_stable 14 bX9_stable_14 = true := by decide +kernel
def bX9_better_0 : List AI := [(.iload_n 1, [], []), (.ifCond .lt 8, [9], []), (.iload_n 1, [], []), (.iconst 2, [], []), (.if_icmp .le 6, [12], []), (.nop, [9], [])]
theorem kX9_better_0 : chL mX9_better 0 bX9_better_0 = true := by decide +kernel
def bX9_better_9 : List AI := [(.bipush (-2), [], []), (.ireturn, [0], [])]
theorem kX9_better_9 : chL mX9_better 9 bX9_better_9 = true := by decide +kernel
def bX9_better_12 : List AI := [(.aload_n 0, [], []), (.getfield 74, [2, 9, 12, 464], []), (.aload_n 0, [], []), (.getfield 26, [2, 9, 4, 456], []), (.invokevirtual 256, [0, 1, 0, 0, 3, 870, 867, 868, 869, 98], [mX3_survey]), (.aload_n 0, [], []), (.getfield 74, [2, 9, 12, 464], []), (.aload_n 0, [], []), (.getfield 26, [2, 9, 4, 456], []), (.invokevirtual 301, [0, 1, 0, 0, 3, 998, 995, 996, 997, 98], [mX3_findBetter]), (.iload_n 1, [], []), (.lookupswitch 41 #[(0, 25), (1, 33)], [76, 60, 68], [])]
theorem kX9_better_12 : chL mX9_better 12 bX9_better_12 = true := by decide +kernel
def bX9_better_60 : List AI := [(.aload_n 0, [], []), (.getfield 74, [2, 9, 12, 464], []), (.getfield 304, [0, 3, 2, 355], []), (.ireturn, [0], [])]
theorem kX9_better_60 : chL mX9_better 60 bX9_better_60 = true := by decide +kernel
def bX9_better_68 : List AI := [(.aload_n 0, [], []), (.getfield 74, [2, 9, 12, 464], []), (.getfield 307, [0, 3, 3, 357], []), (.ireturn, [0], [])]
theorem kX9_better_68 : chL mX9_better 68 bX9_better_68 = true := by decide +kernel
def bX9_better_76 : List AI := [(.aload_n 0, [], []), (.getfield 74, [2, 9, 12, 464], []), (.getfield 310, [0, 3, 4, 359], []), (.ireturn, [0], [])]
theorem kX9_better_76 : chL mX9_better 76 bX9_better_76 = true := by decide +kernel
def bX9_lend_0 : List AI := [(.aload_n 0, [], []), (.getfield 26, [2, 9, 4, 456], []), (.iload_n 1, [], []), (.iload_n 2, [], []), (.invokevirtual 165, [0, 2, 0, 0, 8, 693, 690, 691, 692, 92], [mX8_hasPair]), (.ifCond .ne 6, [15], []), (.bipush (-2), [], []), (.ireturn, [0], [])]
theorem kX9_lend_0 : chL mX9_lend 0 bX9_lend_0 = true := by decide +kernel
def bX9_lend_15 : List AI := [(.iload_n 3, [], []), (.iconst 1, [], []), (.if_icmp .lt 19, [36], []), (.iload_n 3, [], []), (.aload_n 0, [], []), (.getfield 26, [2, 9, 4, 456], []), (.getfield 113, [2, 8, 6, 220], []), (.iload_n 1, [], []), (.aaload, [0], []), (.getfield 122, [0, 2, 1, 137], []), (.if_icmp .le 6, [39], []), (.nop, [36], [])]
theorem kX9_lend_15 : chL mX9_lend 15 bX9_lend_15 = true := by decide +kernel
def bX9_lend_36 : List AI := [(.bipush (-3), [], []), (.ireturn, [0], [])]
theorem kX9_lend_36 : chL mX9_lend 36 bX9_lend_36 = true := by decide +kernel
def bX9_lend_39 : List AI := [(.aload_n 0, [], []), (.getfield 26, [2, 9, 4, 456], []), (.getfield 113, [2, 8, 6, 220], []), (.iload_n 2, [], []), (.aaload, [0], []), (.getfield 122, [0, 2, 1, 137], []), (.iload_n 3, [], []), (.iadd, [], []), (.sipush 999, [], []), (.if_icmp .le 6, [62], []), (.bipush (-4), [], []), (.ireturn, [0], [])]
theorem kX9_lend_39 : chL mX9_lend 39 bX9_lend_39 = true := by decide +kernel
def bX9_lend_62 : List AI := [(.aload_n 0, [], []), (.getfield 26, [2, 9, 4, 456], []), (.iload_n 1, [], []), (.iload_n 2, [], []), (.iload_n 3, [], []), (.invokevirtual 313, [0, 3, 0, 0, 8, 1010, 1007, 1008, 1009, 92], [mX8_giveFlour]), (.ireturn, [0], [])]
theorem kX9_lend_62 : chL mX9_lend 62 bX9_lend_62 = true := by decide +kernel
def bX9_owed_0 : List AI := [(.aload_n 0, [], []), (.getfield 26, [2, 9, 4, 456], []), (.iload_n 1, [], []), (.invokevirtual 109, [0, 1, 0, 0, 8, 657, 654, 655, 656, 92], [mX8_hasFamily]), (.ifCond .eq 14, [22], []), (.aload_n 0, [], []), (.getfield 26, [2, 9, 4, 456], []), (.iload_n 2, [], []), (.invokevirtual 109, [0, 1, 0, 0, 8, 657, 654, 655, 656, 92], [mX8_hasFamily]), (.ifCond .ne 6, [25], []), (.nop, [22], [])]
theorem kX9_owed_0 : chL mX9_owed 0 bX9_owed_0 = true := by decide +kernel
def bX9_owed_22 : List AI := [(.bipush (-2), [], []), (.ireturn, [0], [])]
theorem kX9_owed_22 : chL mX9_owed 22 bX9_owed_22 = true := by decide +kernel
def bX9_owed_25 : List AI := [(.aload_n 0, [], []), (.getfield 26, [2, 9, 4, 456], []), (.getfield 113, [2, 8, 6, 220], []), (.iload_n 1, [], []), (.aaload, [0], []), (.getfield 317, [2, 2, 8, 167], []), (.iload_n 2, [], []), (.iaload, [0], []), (.ireturn, [0], [])]
theorem kX9_owed_25 : chL mX9_owed 25 bX9_owed_25 = true := by decide +kernel
def bX9_ring_0 : List AI := [(.aload_n 0, [], []), (.getfield 81, [2, 9, 13, 465], []), (.aload_n 0, [], []), (.getfield 26, [2, 9, 4, 456], []), (.invokevirtual 320, [0, 1, 0, 0, 1, 1023, 1020, 1021, 1022, 99], [mX1_findRing]), (.aload_n 0, [], []), (.getfield 81, [2, 9, 13, 465], []), (.getfield 323, [0, 1, 0, 398], []), (.ifCond .ne 5, [23], []), (.iconst (-1), [], []), (.ireturn, [0], [])]
theorem kX9_ring_0 : chL mX9_ring 0 bX9_ring_0 = true := by decide +kernel
def bX9_ring_23 : List AI := [(.iload_n 1, [], []), (.iconst (-1), [], []), (.if_icmp .ne 11, [36], []), (.aload_n 0, [], []), (.getfield 81, [2, 9, 13, 465], []), (.getfield 323, [0, 1, 0, 398], []), (.ireturn, [0], [])]
theorem kX9_ring_23 : chL mX9_ring 23 bX9_ring_23 = true := by decide +kernel
def bX9_ring_36 : List AI := [(.iload_n 1, [], []), (.ifCond .lt 14, [51], []), (.iload_n 1, [], []), (.aload_n 0, [], []), (.getfield 81, [2, 9, 13, 465], []), (.getfield 323, [0, 1, 0, 398], []), (.if_icmp .lt 7, [55], []), (.nop, [51], [])]
theorem kX9_ring_36 : chL mX9_ring 36 bX9_ring_36 = true := by decide +kernel
def bX9_ring_51 : List AI := [(.iconst (-1), [], []), (.goto 12, [64], [])]
theorem kX9_ring_51 : chL mX9_ring 51 bX9_ring_51 = true := by decide +kernel
def bX9_ring_55 : List AI := [(.aload_n 0, [], []), (.getfield 81, [2, 9, 13, 465], []), (.getfield 324, [2, 1, 1, 400], []), (.iload_n 1, [], []), (.iaload, [0], []), (.nop, [64], [])]
theorem kX9_ring_55 : chL mX9_ring 55 bX9_ring_55 = true := by decide +kernel
def bX9_ring_64 : List AI := [(.ireturn, [0], [])]
theorem kX9_ring_64 : chL mX9_ring 64 bX9_ring_64 = true := by decide +kernel
def bX9_clear_0 : List AI := [(.aload_n 0, [], []), (.getfield 81, [2, 9, 13, 465], []), (.aload_n 0, [], []), (.getfield 26, [2, 9, 4, 456], []), (.invokevirtual 327, [0, 1, 0, 0, 1, 1050, 1047, 1048, 1049, 99], [mX1_clearRings]), (.ireturn, [0], [])]
theorem kX9_clear_0 : chL mX9_clear 0 bX9_clear_0 = true := by decide +kernel
def bX9_payments_0 : List AI := [(.aload_n 0, [], []), (.getfield 81, [2, 9, 13, 465], []), (.aload_n 0, [], []), (.getfield 26, [2, 9, 4, 456], []), (.invokevirtual 331, [0, 1, 0, 0, 1, 1071, 1068, 1069, 1070, 99], [mX1_fewestPayments]), (.ireturn, [0], [])]
theorem kX9_payments_0 : chL mX9_payments 0 bX9_payments_0 = true := by decide +kernel
def bX9_ahead_0 : List AI := [(.iload_n 2, [], []), (.bipush 10, [], []), (.if_icmp .lt 13, [16], []), (.iload_n 2, [], []), (.bipush 17, [], []), (.if_icmp .ge 7, [16], []), (.iconst 1, [], []), (.goto 4, [17], [])]
theorem kX9_ahead_0 : chL mX9_ahead 0 bX9_ahead_0 = true := by decide +kernel
def bX9_ahead_16 : List AI := [(.iconst 0, [], []), (.nop, [17], [])]
theorem kX9_ahead_16 : chL mX9_ahead 16 bX9_ahead_16 = true := by decide +kernel
def bX9_ahead_17 : List AI := [(.istore_n 3, [], []), (.iload_n 3, [], []), (.ifCond .ne 15, [34], []), (.iload_n 2, [], []), (.ifCond .lt 8, [31], []), (.iload_n 2, [], []), (.iconst 2, [], []), (.if_icmp .le 6, [34], []), (.nop, [31], [])]
theorem kX9_ahead_17 : chL mX9_ahead 17 bX9_ahead_17 = true := by decide +kernel
def bX9_ahead_31 : List AI := [(.bipush (-2), [], []), (.ireturn, [0], [])]
theorem kX9_ahead_31 : chL mX9_ahead 31 bX9_ahead_31 = true := by decide +kernel
def bX9_ahead_34 : List AI := [(.iload_n 1, [], []), (.iconst 1, [], []), (.if_icmp .lt 9, [45], []), (.iload_n 1, [], []), (.bipush 7, [], []), (.if_icmp .le 6, [48], []), (.nop, [45], [])]
theorem kX9_ahead_34 : chL mX9_ahead 34 bX9_ahead_34 = true := by decide +kernel
def bX9_ahead_45 : List AI := [(.bipush (-3), [], []), (.ireturn, [0], [])]
theorem kX9_ahead_45 : chL mX9_ahead 45 bX9_ahead_45 = true := by decide +kernel
def bX9_ahead_48 : List AI := [(.aload_n 0, [], []), (.getfield 26, [2, 9, 4, 456], []), (.getfield 334, [0, 8, 1, 201], []), (.ifCond .ne 6, [61], []), (.bipush (-5), [], []), (.ireturn, [0], [])]
theorem kX9_ahead_48 : chL mX9_ahead 48 bX9_ahead_48 = true := by decide +kernel
def bX9_ahead_61 : List AI := [(.iload_n 3, [], []), (.ifCond .eq 13, [75], []), (.iload_n 2, [], []), (.bipush 10, [], []), (.isub, [], []), (.iload_n 1, [], []), (.if_icmp .lt 5, [75], []), (.iconst (-1), [], []), (.ireturn, [0], [])]
theorem kX9_ahead_61 : chL mX9_ahead 61 bX9_ahead_61 = true := by decide +kernel
def bX9_ahead_75 : List AI := [(.aload_n 0, [], []), (.getfield 88, [2, 9, 14, 466], []), (.aload_n 0, [], []), (.getfield 26, [2, 9, 4, 456], []), (.iload_n 1, [], []), (.iconst 1, [], []), (.invokevirtual 337, [0, 3, 0, 0, 4, 1085, 1082, 1083, 1084, 100], [mX4_look]), (.iload_n 2, [], []), (.tableswitch 51 0 2 #[27, 35, 43], [140, 116, 124, 132], [])]
theorem kX9_ahead_75 : chL mX9_ahead 75 bX9_ahead_75 = true := by decide +kernel
def bX9_ahead_116 : List AI := [(.aload_n 0, [], []), (.getfield 88, [2, 9, 14, 466], []), (.invokevirtual 341, [0, 0, 0, 0, 4, 1108, 1105, 1106, 1107, 100], [mX4_leastHunger]), (.ireturn, [0], [])]
theorem kX9_ahead_116 : chL mX9_ahead 116 bX9_ahead_116 = true := by decide +kernel
def bX9_ahead_124 : List AI := [(.aload_n 0, [], []), (.getfield 88, [2, 9, 14, 466], []), (.invokevirtual 344, [0, 0, 0, 0, 4, 1112, 1109, 1110, 1111, 100], [mX4_leastStale]), (.ireturn, [0], [])]
theorem kX9_ahead_124 : chL mX9_ahead 124 bX9_ahead_124 = true := by decide +kernel
def bX9_ahead_132 : List AI := [(.aload_n 0, [], []), (.getfield 88, [2, 9, 14, 466], []), (.invokevirtual 347, [0, 0, 0, 0, 4, 1116, 1113, 1114, 1115, 100], [mX4_fewestFires]), (.ireturn, [0], [])]
theorem kX9_ahead_132 : chL mX9_ahead 132 bX9_ahead_132 = true := by decide +kernel
def bX9_ahead_140 : List AI := [(.aload_n 0, [], []), (.getfield 88, [2, 9, 14, 466], []), (.getfield 349, [2, 4, 0, 427], []), (.iload_n 2, [], []), (.bipush 10, [], []), (.isub, [], []), (.iaload, [0], []), (.ireturn, [0], [])]
theorem kX9_ahead_140 : chL mX9_ahead 140 bX9_ahead_140 = true := by decide +kernel
def bX9_enough_0 : List AI := [(.iload_n 1, [], []), (.iconst 1, [], []), (.if_icmp .lt 9, [11], []), (.iload_n 1, [], []), (.bipush 7, [], []), (.if_icmp .le 6, [14], []), (.nop, [11], [])]
theorem kX9_enough_0 : chL mX9_enough 0 bX9_enough_0 = true := by decide +kernel
def bX9_enough_11 : List AI := [(.bipush (-3), [], []), (.ireturn, [0], [])]
theorem kX9_enough_11 : chL mX9_enough 11 bX9_enough_11 = true := by decide +kernel
def bX9_enough_14 : List AI := [(.aload_n 0, [], []), (.getfield 26, [2, 9, 4, 456], []), (.getfield 334, [0, 8, 1, 201], []), (.ifCond .ne 6, [27], []), (.bipush (-5), [], []), (.ireturn, [0], [])]
theorem kX9_enough_14 : chL mX9_enough 14 bX9_enough_14 = true := by decide +kernel
def bX9_enough_27 : List AI := [(.aload_n 0, [], []), (.getfield 88, [2, 9, 14, 466], []), (.aload_n 0, [], []), (.getfield 26, [2, 9, 4, 456], []), (.iload_n 1, [], []), (.iconst 0, [], []), (.invokevirtual 337, [0, 3, 0, 0, 4, 1085, 1082, 1083, 1084, 100], [mX4_look]), (.aload_n 0, [], []), (.getfield 88, [2, 9, 14, 466], []), (.invokevirtual 341, [0, 0, 0, 0, 4, 1108, 1105, 1106, 1107, 100], [mX4_leastHunger]), (.ifCond .le 7, [54], []), (.iconst (-1), [], []), (.goto 10, [61], [])]
theorem kX9_enough_27 : chL mX9_enough 27 bX9_enough_27 = true := by decide +kernel
def bX9_enough_54 : List AI := [(.aload_n 0, [], []), (.getfield 88, [2, 9, 14, 466], []), (.invokevirtual 347, [0, 0, 0, 0, 4, 1116, 1113, 1114, 1115, 100], [mX4_fewestFires]), (.nop, [61], [])]
theorem kX9_enough_54 : chL mX9_enough 54 bX9_enough_54 = true := by decide +kernel
def bX9_enough_61 : List AI := [(.ireturn, [0], [])]
theorem kX9_enough_61 : chL mX9_enough 61 bX9_enough_61 = true := by decide +kernel
def bX9_marry_0 : List AI := [(.aload_n 0, [], []), (.getfield 26, [2, 9, 4, 456], []), (.iload_n 1, [], []), (.iload_n 2, [], []), (.invokevirtual 165, [0, 2, 0, 0, 8, 693, 690, 691, 692, 92], [mX8_hasPair]), (.ifCond .ne 6, [15], []), (.bipush (-2), [], []), (.ireturn, [0], [])]
theorem kX9_marry_0 : chL mX9_marry 0 bX9_marry_0 = true := by decide +kernel
def bX9_marry_15 : List AI := [(.aload_n 0, [], []), (.getfield 26, [2, 9, 4, 456], []), (.getfield 113, [2, 8, 6, 220], []), (.iload_n 1, [], []), (.aaload, [0], []), (.getfield 162, [0, 2, 6, 157], []), (.iload_n 2, [], []), (.ishr, [], []), (.iconst 1, [], []), (.iand, [], []), (.ifCond .eq 6, [37], []), (.bipush (-5), [], []), (.ireturn, [0], [])]
theorem kX9_marry_15 : chL mX9_marry 15 bX9_marry_15 = true := by decide +kernel
def bX9_marry_37 : List AI := [(.aload_n 0, [], []), (.getfield 26, [2, 9, 4, 456], []), (.iload_n 1, [], []), (.iload_n 2, [], []), (.invokestatic 169, [4, 703, 515, 102, 516], []), (.iload_n 1, [], []), (.iload_n 2, [], []), (.invokestatic 352, [5, 1126, 518, 102, 519], []), (.invokevirtual 355, [0, 2, 0, 0, 8, 1130, 1127, 1128, 1129, 92], [mX8_unite]), (.aload_n 0, [], []), (.getfield 26, [2, 9, 4, 456], []), (.getfield 185, [0, 8, 0, 195], []), (.ireturn, [0], [])]
theorem kX9_marry_37 : chL mX9_marry 37 bX9_marry_37 = true := by decide +kernel
def bX9_isRow_0 : List AI := [(.iload_n 0, [], []), (.ifCond .lt 12, [13], []), (.iload_n 0, [], []), (.iconst 4, [], []), (.if_icmp .ge 7, [13], []), (.iconst 1, [], []), (.goto 4, [14], [])]
theorem kX9_isRow_0 : chL mX9_isRow 0 bX9_isRow_0 = true := by decide +kernel
def bX9_isRow_13 : List AI := [(.iconst 0, [], []), (.nop, [14], [])]
theorem kX9_isRow_13 : chL mX9_isRow 13 bX9_isRow_13 = true := by decide +kernel
def bX9_isRow_14 : List AI := [(.ireturn, [1], [])]
theorem kX9_isRow_14 : chL mX9_isRow 14 bX9_isRow_14 = true := by decide +kernel
def bX9_isImage_0 : List AI := [(.iload_n 0, [], []), (.ifCond .lt 12, [13], []), (.iload_n 0, [], []), (.iconst 2, [], []), (.if_icmp .ge 7, [13], []), (.iconst 1, [], []), (.goto 4, [14], [])]
theorem kX9_isImage_0 : chL mX9_isImage 0 bX9_isImage_0 = true := by decide +kernel
def bX9_isImage_13 : List AI := [(.iconst 0, [], []), (.nop, [14], [])]
theorem kX9_isImage_13 : chL mX9_isImage 13 bX9_isImage_13 = true := by decide +kernel
def bX9_isImage_14 : List AI := [(.ireturn, [1], [])]
theorem kX9_isImage_14 : chL mX9_isImage 14 bX9_isImage_14 = true := by decide +kernel
def bX9_numbers_0 : List AI := [(.iload_n 1, [], []), (.invokestatic 175, [0, 1, 0, 0, 710, 708, 709, 91], [mX9_isRow]), (.ifCond .eq 12, [16], []), (.iload_n 2, [], []), (.ifCond .lt 8, [16], []), (.iload_n 2, [], []), (.iconst 4, [], []), (.if_icmp .lt 6, [19], []), (.nop, [16], [])]
theorem kX9_numbers_0 : chL mX9_numbers 0 bX9_numbers_0 = true := by decide +kernel
def bX9_numbers_16 : List AI := [(.bipush (-2), [], []), (.ireturn, [0], [])]
theorem kX9_numbers_16 : chL mX9_numbers 16 bX9_numbers_16 = true := by decide +kernel
def bX9_numbers_19 : List AI := [(.iload_n 3, [], []), (.ifCond .lt 9, [29], []), (.iload_n 3, [], []), (.bipush 40, [], []), (.if_icmp .le 6, [32], []), (.nop, [29], [])]
theorem kX9_numbers_19 : chL mX9_numbers 19 bX9_numbers_19 = true := by decide +kernel
def bX9_numbers_29 : List AI := [(.bipush (-3), [], []), (.ireturn, [0], [])]
theorem kX9_numbers_29 : chL mX9_numbers 29 bX9_numbers_29 = true := by decide +kernel
def bX9_numbers_32 : List AI := [(.aload_n 0, [], []), (.getfield 43, [2, 9, 8, 460], []), (.iload_n 1, [], []), (.aaload, [1], []), (.iload_n 2, [], []), (.iload_n 3, [], []), (.invokevirtual 359, [0, 2, 0, 0, 6, 1146, 1143, 1144, 1145, 94], [mX6_make]), (.iconst 0, [], []), (.ireturn, [0], [])]
theorem kX9_numbers_32 : chL mX9_numbers 32 bX9_numbers_32 = true := by decide +kernel
def bX9_write_0 : List AI := [(.iload_n 1, [], []), (.invokestatic 175, [0, 1, 0, 0, 710, 708, 709, 91], [mX9_isRow]), (.ifCond .ne 7, [11], []), (.ldc2_w 362, [18446744073709551614, 1154], []), (.lreturn, [], [])]
theorem kX9_write_0 : chL mX9_write 0 bX9_write_0 = true := by decide +kernel
def bX9_write_11 : List AI := [(.aload_n 0, [], []), (.getfield 43, [2, 9, 8, 460], []), (.iload_n 1, [], []), (.aaload, [1], []), (.getfield 178, [0, 6, 0, 255], []), (.ifCond .ne 7, [27], []), (.ldc2_w 364, [18446744073709551610, 1155], []), (.lreturn, [], [])]
theorem kX9_write_11 : chL mX9_write 11 bX9_write_11 = true := by decide +kernel
def bX9_write_27 : List AI := [(.iload_n 2, [], []), (.ifCond .lt 16, [44], []), (.iload_n 2, [], []), (.aload_n 0, [], []), (.getfield 43, [2, 9, 8, 460], []), (.iload_n 1, [], []), (.aaload, [1], []), (.getfield 182, [0, 6, 2, 259], []), (.if_icmp .lt 7, [48], []), (.nop, [44], [])]
theorem kX9_write_27 : chL mX9_write 27 bX9_write_27 = true := by decide +kernel
def bX9_write_44 : List AI := [(.ldc2_w 366, [18446744073709551609, 1156], []), (.lreturn, [], [])]
theorem kX9_write_44 : chL mX9_write 44 bX9_write_44 = true := by decide +kernel
def bX9_write_48 : List AI := [(.aload_n 0, [], []), (.getfield 43, [2, 9, 8, 460], []), (.iload_n 1, [], []), (.aaload, [1], []), (.iload_n 2, [], []), (.lload_n 3, [], []), (.invokevirtual 368, [0, 2, 0, 0, 6, 1160, 1157, 1158, 1159, 94], [mX6_put]), (.lreturn, [], [])]
theorem kX9_write_48 : chL mX9_write 48 bX9_write_48 = true := by decide +kernel
def bX9_copy_0 : List AI := [(.iload_n 1, [], []), (.invokestatic 175, [0, 1, 0, 0, 710, 708, 709, 91], [mX9_isRow]), (.ifCond .ne 6, [10], []), (.bipush (-2), [], []), (.ireturn, [0], [])]
theorem kX9_copy_0 : chL mX9_copy 0 bX9_copy_0 = true := by decide +kernel
def bX9_copy_10 : List AI := [(.aload_n 0, [], []), (.getfield 43, [2, 9, 8, 460], []), (.iload_n 1, [], []), (.aaload, [1], []), (.getfield 178, [0, 6, 0, 255], []), (.ifCond .ne 6, [25], []), (.bipush (-6), [], []), (.ireturn, [0], [])]
theorem kX9_copy_10 : chL mX9_copy 10 bX9_copy_10 = true := by decide +kernel
def bX9_copy_25 : List AI := [(.aload_n 0, [], []), (.getfield 43, [2, 9, 8, 460], []), (.iload_n 1, [], []), (.aaload, [1], []), (.getfield 182, [0, 6, 2, 259], []), (.aload_n 0, [], []), (.getfield 26, [2, 9, 4, 456], []), (.getfield 185, [0, 8, 0, 195], []), (.if_icmp .ge 6, [47], []), (.bipush (-7), [], []), (.ireturn, [0], [])]
theorem kX9_copy_25 : chL mX9_copy 25 bX9_copy_25 = true := by decide +kernel
def bX9_copy_47 : List AI := [(.iconst 0, [], []), (.istore_n 2, [], []), (.nop, [49], [])]
theorem kX9_copy_47 : chL mX9_copy 47 bX9_copy_47 = true := by decide +kernel
def bX9_copy_49 : List AI := [(.iload_n 2, [], []), (.aload_n 0, [], []), (.getfield 26, [2, 9, 4, 456], []), (.getfield 185, [0, 8, 0, 195], []), (.if_icmp .ge 33, [90], []), (.aload_n 0, [], []), (.getfield 43, [2, 9, 8, 460], []), (.iload_n 1, [], []), (.aaload, [1], []), (.iload_n 2, [], []), (.aload_n 0, [], []), (.getfield 26, [2, 9, 4, 456], []), (.getfield 113, [2, 8, 6, 220], []), (.iload_n 2, [], []), (.aaload, [0], []), (.getfield 129, [0, 2, 2, 143], []), (.i2l, [], []), (.invokevirtual 368, [0, 2, 0, 0, 6, 1160, 1157, 1158, 1159, 94], [mX6_put]), (.pop2, [1], []), (.iinc 2 1, [], []), (.goto (-38), [49], [])]
theorem kX9_copy_49 : chL mX9_copy 49 bX9_copy_49 = true := by decide +kernel
def bX9_copy_90 : List AI := [(.aload_n 0, [], []), (.getfield 26, [2, 9, 4, 456], []), (.getfield 185, [0, 8, 0, 195], []), (.ireturn, [0], [])]
theorem kX9_copy_90 : chL mX9_copy 90 bX9_copy_90 = true := by decide +kernel
def bX9_image_0 : List AI := [(.iload_n 1, [], []), (.invokestatic 372, [0, 1, 0, 0, 1175, 1173, 1174, 91], [mX9_isImage]), (.ifCond .ne 6, [10], []), (.bipush (-2), [], []), (.ireturn, [0], [])]
theorem kX9_image_0 : chL mX9_image 0 bX9_image_0 = true := by decide +kernel
def bX9_image_10 : List AI := [(.aload_n 0, [], []), (.getfield 33, [2, 9, 6, 458], []), (.iload_n 1, [], []), (.aaload, [2], []), (.aload_n 0, [], []), (.getfield 26, [2, 9, 4, 456], []), (.invokevirtual 102, [0, 1, 0, 0, 8, 637, 634, 635, 636, 92], [mX8_become]), (.aload_n 0, [], []), (.getfield 37, [2, 9, 7, 459], []), (.iload_n 1, [], []), (.iconst 1, [], []), (.bastore, [4], []), (.iconst 0, [], []), (.ireturn, [0], [])]
theorem kX9_image_10 : chL mX9_image 10 bX9_image_10 = true := by decide +kernel
def bX9_restore_0 : List AI := [(.iload_n 1, [], []), (.invokestatic 372, [0, 1, 0, 0, 1175, 1173, 1174, 91], [mX9_isImage]), (.ifCond .ne 6, [10], []), (.bipush (-2), [], []), (.ireturn, [0], [])]
theorem kX9_restore_0 : chL mX9_restore 0 bX9_restore_0 = true := by decide +kernel
def bX9_restore_10 : List AI := [(.aload_n 0, [], []), (.getfield 37, [2, 9, 7, 459], []), (.iload_n 1, [], []), (.baload, [4], []), (.ifCond .ne 6, [22], []), (.bipush (-5), [], []), (.ireturn, [0], [])]
theorem kX9_restore_10 : chL mX9_restore 10 bX9_restore_10 = true := by decide +kernel
def bX9_restore_22 : List AI := [(.aload_n 0, [], []), (.getfield 26, [2, 9, 4, 456], []), (.aload_n 0, [], []), (.getfield 33, [2, 9, 6, 458], []), (.iload_n 1, [], []), (.aaload, [2], []), (.invokevirtual 102, [0, 1, 0, 0, 8, 637, 634, 635, 636, 92], [mX8_become]), (.iconst 0, [], []), (.ireturn, [0], [])]
theorem kX9_restore_22 : chL mX9_restore 22 bX9_restore_22 = true := by decide +kernel
def bX9_count_0 : List AI := [(.iload_n 1, [], []), (.tableswitch 120 0 12 #[67, 75, 83, 91, 99, 120, 120, 120, 120, 120, 120, 107, 112], [121, 68, 76, 84, 92, 100, 121, 121, 121, 121, 121, 121, 108, 113], [])]
theorem kX9_count_0 : chL mX9_count 0 bX9_count_0 = true := by decide +kernel
def bX9_count_68 : List AI := [(.aload_n 0, [], []), (.getfield 26, [2, 9, 4, 456], []), (.getfield 185, [0, 8, 0, 195], []), (.ireturn, [0], [])]
theorem kX9_count_68 : chL mX9_count 68 bX9_count_68 = true := by decide +kernel
def bX9_count_76 : List AI := [(.aload_n 0, [], []), (.getfield 26, [2, 9, 4, 456], []), (.getfield 334, [0, 8, 1, 201], []), (.ireturn, [0], [])]
theorem kX9_count_76 : chL mX9_count 76 bX9_count_76 = true := by decide +kernel
def bX9_count_84 : List AI := [(.aload_n 0, [], []), (.getfield 26, [2, 9, 4, 456], []), (.getfield 212, [0, 8, 4, 211], []), (.ireturn, [0], [])]
theorem kX9_count_84 : chL mX9_count 84 bX9_count_84 = true := by decide +kernel
def bX9_count_92 : List AI := [(.aload_n 0, [], []), (.getfield 26, [2, 9, 4, 456], []), (.getfield 149, [0, 8, 2, 205], []), (.ireturn, [0], [])]
theorem kX9_count_92 : chL mX9_count 92 bX9_count_92 = true := by decide +kernel
def bX9_count_100 : List AI := [(.aload_n 0, [], []), (.getfield 26, [2, 9, 4, 456], []), (.getfield 375, [0, 8, 3, 209], []), (.ireturn, [0], [])]
theorem kX9_count_100 : chL mX9_count 100 bX9_count_100 = true := by decide +kernel
def bX9_count_108 : List AI := [(.aload_n 0, [], []), (.getfield 13, [0, 9, 1, 453], []), (.ireturn, [0], [])]
theorem kX9_count_108 : chL mX9_count 108 bX9_count_108 = true := by decide +kernel
def bX9_count_113 : List AI := [(.aload_n 0, [], []), (.getfield 26, [2, 9, 4, 456], []), (.getfield 106, [0, 8, 5, 214], []), (.ireturn, [0], [])]
theorem kX9_count_113 : chL mX9_count 113 bX9_count_113 = true := by decide +kernel
def bX9_count_121 : List AI := [(.aload_n 0, [], []), (.iload_n 1, [], []), (.invokevirtual 378, [0, 1, 0, 0, 9, 1187, 1184, 1186, 37, 91], [mX9_countOfAll]), (.ireturn, [0], [])]
theorem kX9_count_121 : chL mX9_count 121 bX9_count_121 = true := by decide +kernel
def bX9_countOfAll_0 : List AI := [(.iload_n 1, [], []), (.iconst 5, [], []), (.if_icmp .lt 9, [11], []), (.iload_n 1, [], []), (.bipush 13, [], []), (.if_icmp .le 5, [13], []), (.nop, [11], [])]
theorem kX9_countOfAll_0 : chL mX9_countOfAll 0 bX9_countOfAll_0 = true := by decide +kernel
def bX9_countOfAll_11 : List AI := [(.iconst (-1), [], []), (.ireturn, [0], [])]
theorem kX9_countOfAll_11 : chL mX9_countOfAll 11 bX9_countOfAll_11 = true := by decide +kernel
def bX9_countOfAll_13 : List AI := [(.iconst 0, [], []), (.istore_n 2, [], []), (.iconst 0, [], []), (.istore_n 3, [], []), (.nop, [17], [])]
theorem kX9_countOfAll_13 : chL mX9_countOfAll 13 bX9_countOfAll_13 = true := by decide +kernel
def bX9_countOfAll_17 : List AI := [(.iload_n 3, [], []), (.aload_n 0, [], []), (.getfield 26, [2, 9, 4, 456], []), (.getfield 185, [0, 8, 0, 195], []), (.if_icmp .ge 25, [50], []), (.iload_n 2, [], []), (.aload_n 0, [], []), (.getfield 26, [2, 9, 4, 456], []), (.getfield 113, [2, 8, 6, 220], []), (.iload_n 3, [], []), (.aaload, [0], []), (.iload_n 1, [], []), (.invokestatic 381, [0, 2, 0, 0, 1190, 1188, 1189, 91], [mX9_countOfOne]), (.iadd, [], []), (.istore_n 2, [], []), (.iinc 3 1, [], []), (.goto (-30), [17], [])]
theorem kX9_countOfAll_17 : chL mX9_countOfAll 17 bX9_countOfAll_17 = true := by decide +kernel
def bX9_countOfAll_50 : List AI := [(.iload_n 2, [], []), (.ireturn, [0], [])]
theorem kX9_countOfAll_50 : chL mX9_countOfAll 50 bX9_countOfAll_50 = true := by decide +kernel
def bX9_countOfOne_0 : List AI := [(.iload_n 1, [], []), (.tableswitch 69 5 10 #[39, 44, 49, 54, 59, 64], [70, 40, 45, 50, 55, 60, 65], [])]
theorem kX9_countOfOne_0 : chL mX9_countOfOne 0 bX9_countOfOne_0 = true := by decide +kernel
def bX9_countOfOne_40 : List AI := [(.aload_n 0, [], []), (.getfield 122, [0, 2, 1, 137], []), (.ireturn, [0], [])]
theorem kX9_countOfOne_40 : chL mX9_countOfOne 40 bX9_countOfOne_40 = true := by decide +kernel
def bX9_countOfOne_45 : List AI := [(.aload_n 0, [], []), (.invokevirtual 125, [0, 0, 0, 0, 2, 661, 658, 659, 660, 93], [mX2_allBread]), (.ireturn, [0], [])]
theorem kX9_countOfOne_45 : chL mX9_countOfOne 45 bX9_countOfOne_45 = true := by decide +kernel
def bX9_countOfOne_50 : List AI := [(.aload_n 0, [], []), (.getfield 129, [0, 2, 2, 143], []), (.ireturn, [0], [])]
theorem kX9_countOfOne_50 : chL mX9_countOfOne 50 bX9_countOfOne_50 = true := by decide +kernel
def bX9_countOfOne_55 : List AI := [(.aload_n 0, [], []), (.getfield 135, [0, 2, 4, 149], []), (.ireturn, [0], [])]
theorem kX9_countOfOne_55 : chL mX9_countOfOne 55 bX9_countOfOne_55 = true := by decide +kernel
def bX9_countOfOne_60 : List AI := [(.aload_n 0, [], []), (.getfield 138, [0, 2, 5, 152], []), (.ireturn, [0], [])]
theorem kX9_countOfOne_60 : chL mX9_countOfOne 60 bX9_countOfOne_60 = true := by decide +kernel
def bX9_countOfOne_65 : List AI := [(.aload_n 0, [], []), (.getfield 117, [0, 2, 0, 134], []), (.ireturn, [0], [])]
theorem kX9_countOfOne_65 : chL mX9_countOfOne 65 bX9_countOfOne_65 = true := by decide +kernel
def bX9_countOfOne_70 : List AI := [(.aload_n 0, [], []), (.invokevirtual 384, [0, 0, 0, 0, 2, 669, 1191, 667, 668, 93], [mX2_allOwed]), (.ireturn, [0], [])]
theorem kX9_countOfOne_70 : chL mX9_countOfOne 70 bX9_countOfOne_70 = true := by decide +kernel
def bL_law_0 : List AI := [(.new 7, [9, 110, 111, 91], []), (.dup, [], []), (.invokespecial 9, [0, 0, 189, 10627, 114, 112, 113, 91], [mX9_init]), (.astore_n 1, [], []), (.new 10, [10, 1192, 1193, 101], []), (.dup, [], []), (.invokespecial 12, [0, 0, 22, 14830, 1196, 1194, 1195, 101], [mX10_init]), (.astore_n 2, [], []), (.iconst 0, [], []), (.istore_n 3, [], []), (.nop, [18], [])]
theorem kL_law_0 : chL mL_law 0 bL_law_0 = true := by decide +kernel
def bL_law_18 : List AI := [(.iload_n 3, [], []), (.aload_n 0, [], []), (.arraylength, [1], []), (.bipush 6, [], []), (.isub, [], []), (.if_icmp .gt 1459, [1483], []), (.aload_n 0, [], []), (.iload_n 3, [], []), (.iaload, [9], []), (.bipush 63, [], []), (.iand, [], []), (.tableswitch 1444 0 43 #[191, 254, 277, 300, 333, 356, 389, 422, 455, 488, 521, 554, 587, 610, 623, 656, 679, 702, 725, 748, 761, 784, 817, 840, 863, 876, 899, 932, 965, 998, 1021, 1064, 1097, 1120, 1133, 1146, 1179, 1202, 1235, 1278, 1352, 1375, 1398, 1421], [1477, 224, 287, 310, 333, 366, 389, 422, 455, 488, 521, 554, 587, 620, 643, 656, 689, 712, 735, 758, 781, 794, 817, 850, 873, 896, 909, 932, 965, 998, 1031, 1054, 1097, 1130, 1153, 1166, 1179, 1212, 1235, 1268, 1311, 1385, 1408, 1431, 1454], [])]
theorem kL_law_18 : chL mL_law 18 bL_law_18 = true := by decide +kernel
def bL_law_224 : List AI := [(.aload_n 1, [], []), (.aload_n 0, [], []), (.iload_n 3, [], []), (.iconst 1, [], []), (.iadd, [], []), (.iaload, [9], []), (.aload_n 0, [], []), (.iload_n 3, [], []), (.iconst 2, [], []), (.iadd, [], []), (.iaload, [9], []), (.aload_n 0, [], []), (.iload_n 3, [], []), (.iconst 3, [], []), (.iadd, [], []), (.iaload, [9], []), (.aload_n 0, [], []), (.iload_n 3, [], []), (.iconst 4, [], []), (.iadd, [], []), (.iaload, [9], []), (.aload_n 0, [], []), (.iload_n 3, [], []), (.iconst 5, [], []), (.iadd, [], []), (.iaload, [9], []), (.invokevirtual 13, [0, 5, 0, 0, 9, 501, 498, 499, 500, 91], [mX9_feed]), (.aload_n 2, [], []), (.aload_n 0, [], []), (.iload_n 3, [], []), (.iconst 1, [], []), (.iadd, [], []), (.iaload, [9], []), (.aload_n 0, [], []), (.iload_n 3, [], []), (.iconst 2, [], []), (.iadd, [], []), (.iaload, [9], []), (.aload_n 0, [], []), (.iload_n 3, [], []), (.iconst 3, [], []), (.iadd, [], []), (.iaload, [9], []), (.aload_n 0, [], []), (.iload_n 3, [], []), (.iconst 4, [], []), (.iadd, [], []), (.iaload, [9], []), (.aload_n 0, [], []), (.iload_n 3, [], []), (.iconst 5, [], []), (.iadd, [], []), (.iaload, [9], []), (.invokevirtual 17, [0, 5, 0, 0, 10, 1334, 1331, 1332, 1333, 101], [mX10_feed]), (.if_icmp .eq 1195, [1477], []), (.iconst 0, [], []), (.ireturn, [1], [])]
theorem kL_law_224 : chL mL_law 224 bL_law_224 = true := by decide +kernel
def bL_law_287 : List AI := [(.aload_n 1, [], []), (.aload_n 0, [], []), (.iload_n 3, [], []), (.iconst 1, [], []), (.iadd, [], []), (.iaload, [9], []), (.invokevirtual 18, [0, 1, 0, 0, 9, 509, 506, 507, 508, 91], [mX9_village]), (.aload_n 2, [], []), (.aload_n 0, [], []), (.iload_n 3, [], []), (.iconst 1, [], []), (.iadd, [], []), (.iaload, [9], []), (.invokevirtual 22, [0, 1, 0, 0, 10, 1338, 1335, 1336, 1337, 101], [mX10_village]), (.if_icmp .eq 1172, [1477], []), (.iconst 0, [], []), (.ireturn, [1], [])]
theorem kL_law_287 : chL mL_law 287 bL_law_287 = true := by decide +kernel
def bL_law_310 : List AI := [(.aload_n 1, [], []), (.aload_n 0, [], []), (.iload_n 3, [], []), (.iconst 1, [], []), (.iadd, [], []), (.iaload, [9], []), (.invokevirtual 23, [0, 1, 0, 0, 9, 649, 646, 647, 648, 91], [mX9_fault]), (.aload_n 2, [], []), (.aload_n 0, [], []), (.iload_n 3, [], []), (.iconst 1, [], []), (.iadd, [], []), (.iaload, [9], []), (.invokevirtual 26, [0, 1, 0, 0, 10, 1406, 1403, 1404, 1405, 101], [mX10_fault]), (.if_icmp .eq 1149, [1477], []), (.iconst 0, [], []), (.ireturn, [1], [])]
theorem kL_law_310 : chL mL_law 310 bL_law_310 = true := by decide +kernel
def bL_law_333 : List AI := [(.aload_n 1, [], []), (.aload_n 0, [], []), (.iload_n 3, [], []), (.iconst 1, [], []), (.iadd, [], []), (.iaload, [9], []), (.aload_n 0, [], []), (.iload_n 3, [], []), (.iconst 2, [], []), (.iadd, [], []), (.iaload, [9], []), (.invokevirtual 27, [0, 2, 0, 0, 9, 653, 650, 651, 652, 91], [mX9_family]), (.aload_n 2, [], []), (.aload_n 0, [], []), (.iload_n 3, [], []), (.iconst 1, [], []), (.iadd, [], []), (.iaload, [9], []), (.aload_n 0, [], []), (.iload_n 3, [], []), (.iconst 2, [], []), (.iadd, [], []), (.iaload, [9], []), (.invokevirtual 31, [0, 2, 0, 0, 10, 1410, 1407, 1408, 1409, 101], [mX10_family]), (.if_icmp .eq 1116, [1477], []), (.iconst 0, [], []), (.ireturn, [1], [])]
theorem kL_law_333 : chL mL_law 333 bL_law_333 = true := by decide +kernel
def bL_law_366 : List AI := [(.aload_n 1, [], []), (.aload_n 0, [], []), (.iload_n 3, [], []), (.iconst 1, [], []), (.iadd, [], []), (.iaload, [9], []), (.invokevirtual 32, [0, 1, 0, 0, 9, 677, 674, 675, 676, 91], [mX9_oven]), (.aload_n 2, [], []), (.aload_n 0, [], []), (.iload_n 3, [], []), (.iconst 1, [], []), (.iadd, [], []), (.iaload, [9], []), (.invokevirtual 35, [0, 1, 0, 0, 10, 1431, 1428, 1429, 1430, 101], [mX10_oven]), (.if_icmp .eq 1093, [1477], []), (.iconst 0, [], []), (.ireturn, [1], [])]
theorem kL_law_366 : chL mL_law 366 bL_law_366 = true := by decide +kernel
def bL_law_389 : List AI := [(.aload_n 1, [], []), (.aload_n 0, [], []), (.iload_n 3, [], []), (.iconst 1, [], []), (.iadd, [], []), (.iaload, [9], []), (.aload_n 0, [], []), (.iload_n 3, [], []), (.iconst 2, [], []), (.iadd, [], []), (.iaload, [9], []), (.invokevirtual 36, [0, 2, 0, 0, 9, 685, 682, 683, 684, 91], [mX9_quarrel]), (.aload_n 2, [], []), (.aload_n 0, [], []), (.iload_n 3, [], []), (.iconst 1, [], []), (.iadd, [], []), (.iaload, [9], []), (.aload_n 0, [], []), (.iload_n 3, [], []), (.iconst 2, [], []), (.iadd, [], []), (.iaload, [9], []), (.invokevirtual 39, [0, 2, 0, 0, 10, 1439, 1436, 1437, 1438, 101], [mX10_quarrel]), (.if_icmp .eq 1060, [1477], []), (.iconst 0, [], []), (.ireturn, [1], [])]
theorem kL_law_389 : chL mL_law 389 bL_law_389 = true := by decide +kernel
def bL_law_422 : List AI := [(.aload_n 1, [], []), (.aload_n 0, [], []), (.iload_n 3, [], []), (.iconst 1, [], []), (.iadd, [], []), (.iaload, [9], []), (.aload_n 0, [], []), (.iload_n 3, [], []), (.iconst 2, [], []), (.iadd, [], []), (.iaload, [9], []), (.invokevirtual 40, [0, 2, 0, 0, 9, 689, 686, 687, 688, 91], [mX9_fallOut]), (.aload_n 2, [], []), (.aload_n 0, [], []), (.iload_n 3, [], []), (.iconst 1, [], []), (.iadd, [], []), (.iaload, [9], []), (.aload_n 0, [], []), (.iload_n 3, [], []), (.iconst 2, [], []), (.iadd, [], []), (.iaload, [9], []), (.invokevirtual 43, [0, 2, 0, 0, 10, 1447, 1444, 1445, 1446, 101], [mX10_fallOut]), (.if_icmp .eq 1027, [1477], []), (.iconst 0, [], []), (.ireturn, [1], [])]
theorem kL_law_422 : chL mL_law 422 bL_law_422 = true := by decide +kernel
def bL_law_455 : List AI := [(.aload_n 1, [], []), (.aload_n 0, [], []), (.iload_n 3, [], []), (.iconst 1, [], []), (.iadd, [], []), (.iaload, [9], []), (.aload_n 0, [], []), (.iload_n 3, [], []), (.iconst 2, [], []), (.iadd, [], []), (.iaload, [9], []), (.invokevirtual 44, [0, 2, 0, 0, 9, 698, 695, 696, 697, 91], [mX9_wish]), (.aload_n 2, [], []), (.aload_n 0, [], []), (.iload_n 3, [], []), (.iconst 1, [], []), (.iadd, [], []), (.iaload, [9], []), (.aload_n 0, [], []), (.iload_n 3, [], []), (.iconst 2, [], []), (.iadd, [], []), (.iaload, [9], []), (.invokevirtual 47, [0, 2, 0, 0, 10, 1455, 1452, 1453, 1454, 101], [mX10_wish]), (.if_icmp .eq 994, [1477], []), (.iconst 0, [], []), (.ireturn, [1], [])]
theorem kL_law_455 : chL mL_law 455 bL_law_455 = true := by decide +kernel
def bL_law_488 : List AI := [(.aload_n 1, [], []), (.aload_n 0, [], []), (.iload_n 3, [], []), (.iconst 1, [], []), (.iadd, [], []), (.iaload, [9], []), (.aload_n 0, [], []), (.iload_n 3, [], []), (.iconst 2, [], []), (.iadd, [], []), (.iaload, [9], []), (.invokevirtual 48, [0, 2, 0, 0, 9, 702, 699, 700, 701, 91], [mX9_mill]), (.aload_n 2, [], []), (.aload_n 0, [], []), (.iload_n 3, [], []), (.iconst 1, [], []), (.iadd, [], []), (.iaload, [9], []), (.aload_n 0, [], []), (.iload_n 3, [], []), (.iconst 2, [], []), (.iadd, [], []), (.iaload, [9], []), (.invokevirtual 51, [0, 2, 0, 0, 10, 1459, 1456, 1457, 1458, 101], [mX10_mill]), (.if_icmp .eq 961, [1477], []), (.iconst 0, [], []), (.ireturn, [1], [])]
theorem kL_law_488 : chL mL_law 488 bL_law_488 = true := by decide +kernel
def bL_law_521 : List AI := [(.aload_n 1, [], []), (.aload_n 0, [], []), (.iload_n 3, [], []), (.iconst 1, [], []), (.iadd, [], []), (.iaload, [9], []), (.aload_n 0, [], []), (.iload_n 3, [], []), (.iconst 2, [], []), (.iadd, [], []), (.iaload, [9], []), (.invokevirtual 52, [0, 2, 0, 0, 9, 707, 704, 705, 706, 91], [mX9_fire]), (.aload_n 2, [], []), (.aload_n 0, [], []), (.iload_n 3, [], []), (.iconst 1, [], []), (.iadd, [], []), (.iaload, [9], []), (.aload_n 0, [], []), (.iload_n 3, [], []), (.iconst 2, [], []), (.iadd, [], []), (.iaload, [9], []), (.invokevirtual 55, [0, 2, 0, 0, 10, 1464, 1461, 1462, 1463, 101], [mX10_fire]), (.if_icmp .eq 928, [1477], []), (.iconst 0, [], []), (.ireturn, [1], [])]
theorem kL_law_521 : chL mL_law 521 bL_law_521 = true := by decide +kernel
def bL_law_554 : List AI := [(.aload_n 1, [], []), (.aload_n 0, [], []), (.iload_n 3, [], []), (.iconst 1, [], []), (.iadd, [], []), (.iaload, [9], []), (.aload_n 0, [], []), (.iload_n 3, [], []), (.iconst 2, [], []), (.iadd, [], []), (.iaload, [9], []), (.invokevirtual 56, [0, 2, 0, 0, 9, 731, 728, 729, 730, 91], [mX9_fireWishes]), (.aload_n 2, [], []), (.aload_n 0, [], []), (.iload_n 3, [], []), (.iconst 1, [], []), (.iadd, [], []), (.iaload, [9], []), (.aload_n 0, [], []), (.iload_n 3, [], []), (.iconst 2, [], []), (.iadd, [], []), (.iaload, [9], []), (.invokevirtual 59, [0, 2, 0, 0, 10, 1477, 1474, 1475, 1476, 101], [mX10_fireWishes]), (.if_icmp .eq 895, [1477], []), (.iconst 0, [], []), (.ireturn, [1], [])]
theorem kL_law_554 : chL mL_law 554 bL_law_554 = true := by decide +kernel
def bL_law_587 : List AI := [(.aload_n 1, [], []), (.aload_n 0, [], []), (.iload_n 3, [], []), (.iconst 1, [], []), (.iadd, [], []), (.iaload, [9], []), (.aload_n 0, [], []), (.iload_n 3, [], []), (.iconst 2, [], []), (.iadd, [], []), (.iaload, [9], []), (.invokevirtual 60, [0, 2, 0, 0, 9, 747, 744, 745, 746, 91], [mX9_judge]), (.aload_n 2, [], []), (.aload_n 0, [], []), (.iload_n 3, [], []), (.iconst 1, [], []), (.iadd, [], []), (.iaload, [9], []), (.aload_n 0, [], []), (.iload_n 3, [], []), (.iconst 2, [], []), (.iadd, [], []), (.iaload, [9], []), (.invokevirtual 63, [0, 2, 0, 0, 10, 1496, 1493, 1494, 1495, 101], [mX10_judge]), (.if_icmp .eq 862, [1477], []), (.iconst 0, [], []), (.ireturn, [1], [])]
theorem kL_law_587 : chL mL_law 587 bL_law_587 = true := by decide +kernel
def bL_law_620 : List AI := [(.aload_n 1, [], []), (.aload_n 0, [], []), (.iload_n 3, [], []), (.iconst 1, [], []), (.iadd, [], []), (.iaload, [9], []), (.invokevirtual 64, [0, 1, 0, 0, 9, 762, 759, 760, 761, 91], [mX9_perform]), (.aload_n 2, [], []), (.aload_n 0, [], []), (.iload_n 3, [], []), (.iconst 1, [], []), (.iadd, [], []), (.iaload, [9], []), (.invokevirtual 67, [0, 1, 0, 0, 10, 1514, 1511, 1512, 1513, 101], [mX10_perform]), (.if_icmp .eq 839, [1477], []), (.iconst 0, [], []), (.ireturn, [1], [])]
theorem kL_law_620 : chL mL_law 620 bL_law_620 = true := by decide +kernel
def bL_law_643 : List AI := [(.aload_n 1, [], []), (.invokevirtual 68, [0, 0, 0, 0, 9, 766, 763, 764, 765, 91], [mX9_day]), (.aload_n 2, [], []), (.invokevirtual 72, [0, 0, 0, 0, 10, 1518, 1515, 1516, 1517, 101], [mX10_day]), (.if_icmp .eq 826, [1477], []), (.iconst 0, [], []), (.ireturn, [1], [])]
theorem kL_law_643 : chL mL_law 643 bL_law_643 = true := by decide +kernel
def bL_law_656 : List AI := [(.aload_n 1, [], []), (.aload_n 0, [], []), (.iload_n 3, [], []), (.iconst 1, [], []), (.iadd, [], []), (.iaload, [9], []), (.aload_n 0, [], []), (.iload_n 3, [], []), (.iconst 2, [], []), (.iadd, [], []), (.iaload, [9], []), (.invokevirtual 73, [0, 2, 0, 0, 9, 784, 781, 782, 783, 91], [mX9_drawn]), (.aload_n 2, [], []), (.aload_n 0, [], []), (.iload_n 3, [], []), (.iconst 1, [], []), (.iadd, [], []), (.iaload, [9], []), (.aload_n 0, [], []), (.iload_n 3, [], []), (.iconst 2, [], []), (.iadd, [], []), (.iaload, [9], []), (.invokevirtual 76, [0, 2, 0, 0, 10, 1534, 1531, 1532, 1533, 101], [mX10_drawn]), (.if_icmp .eq 793, [1477], []), (.iconst 0, [], []), (.ireturn, [1], [])]
theorem kL_law_656 : chL mL_law 656 bL_law_656 = true := by decide +kernel
def bL_law_689 : List AI := [(.aload_n 1, [], []), (.aload_n 0, [], []), (.iload_n 3, [], []), (.iconst 1, [], []), (.iadd, [], []), (.iaload, [9], []), (.invokevirtual 77, [0, 1, 0, 0, 9, 796, 793, 794, 795, 91], [mX9_lasts]), (.aload_n 2, [], []), (.aload_n 0, [], []), (.iload_n 3, [], []), (.iconst 1, [], []), (.iadd, [], []), (.iaload, [9], []), (.invokevirtual 80, [0, 1, 0, 0, 10, 1540, 1537, 1538, 1539, 101], [mX10_lasts]), (.if_icmp .eq 770, [1477], []), (.iconst 0, [], []), (.ireturn, [1], [])]
theorem kL_law_689 : chL mL_law 689 bL_law_689 = true := by decide +kernel
def bL_law_712 : List AI := [(.aload_n 1, [], []), (.aload_n 0, [], []), (.iload_n 3, [], []), (.iconst 1, [], []), (.iadd, [], []), (.iaload, [9], []), (.invokevirtual 81, [0, 1, 0, 0, 9, 803, 800, 801, 802, 91], [mX9_canBake]), (.aload_n 2, [], []), (.aload_n 0, [], []), (.iload_n 3, [], []), (.iconst 1, [], []), (.iadd, [], []), (.iaload, [9], []), (.invokevirtual 84, [0, 1, 0, 0, 10, 1544, 1541, 1542, 1543, 101], [mX10_canBake]), (.if_icmp .eq 747, [1477], []), (.iconst 0, [], []), (.ireturn, [1], [])]
theorem kL_law_712 : chL mL_law 712 bL_law_712 = true := by decide +kernel
def bL_law_735 : List AI := [(.aload_n 1, [], []), (.aload_n 0, [], []), (.iload_n 3, [], []), (.iconst 1, [], []), (.iadd, [], []), (.iaload, [9], []), (.invokevirtual 85, [0, 1, 0, 0, 9, 832, 829, 830, 831, 91], [mX9_fires]), (.aload_n 2, [], []), (.aload_n 0, [], []), (.iload_n 3, [], []), (.iconst 1, [], []), (.iadd, [], []), (.iaload, [9], []), (.invokevirtual 88, [0, 1, 0, 0, 10, 1553, 1550, 1551, 1552, 101], [mX10_fires]), (.if_icmp .eq 724, [1477], []), (.iconst 0, [], []), (.ireturn, [1], [])]
theorem kL_law_735 : chL mL_law 735 bL_law_735 = true := by decide +kernel
def bL_law_758 : List AI := [(.aload_n 1, [], []), (.aload_n 0, [], []), (.iload_n 3, [], []), (.iconst 1, [], []), (.iadd, [], []), (.iaload, [9], []), (.invokevirtual 89, [0, 1, 0, 0, 9, 840, 837, 838, 839, 91], [mX9_ways]), (.aload_n 2, [], []), (.aload_n 0, [], []), (.iload_n 3, [], []), (.iconst 1, [], []), (.iadd, [], []), (.iaload, [9], []), (.invokevirtual 92, [0, 1, 0, 0, 10, 1557, 1554, 1555, 1556, 101], [mX10_ways]), (.if_icmp .eq 701, [1477], []), (.iconst 0, [], []), (.ireturn, [1], [])]
theorem kL_law_758 : chL mL_law 758 bL_law_758 = true := by decide +kernel
def bL_law_781 : List AI := [(.aload_n 1, [], []), (.invokevirtual 93, [0, 0, 0, 0, 9, 848, 845, 846, 847, 91], [mX9_gap]), (.aload_n 2, [], []), (.invokevirtual 96, [0, 0, 0, 0, 10, 1561, 1558, 1559, 1560, 101], [mX10_gap]), (.if_icmp .eq 688, [1477], []), (.iconst 0, [], []), (.ireturn, [1], [])]
theorem kL_law_781 : chL mL_law 781 bL_law_781 = true := by decide +kernel
def bL_law_794 : List AI := [(.aload_n 1, [], []), (.aload_n 0, [], []), (.iload_n 3, [], []), (.iconst 1, [], []), (.iadd, [], []), (.iaload, [9], []), (.invokevirtual 97, [0, 1, 0, 0, 9, 857, 854, 855, 856, 91], [mX9_upTo]), (.aload_n 2, [], []), (.aload_n 0, [], []), (.iload_n 3, [], []), (.iconst 1, [], []), (.iadd, [], []), (.iaload, [9], []), (.invokevirtual 100, [0, 1, 0, 0, 10, 1568, 1565, 1566, 1567, 101], [mX10_upTo]), (.if_icmp .eq 665, [1477], []), (.iconst 0, [], []), (.ireturn, [1], [])]
theorem kL_law_794 : chL mL_law 794 bL_law_794 = true := by decide +kernel
def bL_law_817 : List AI := [(.aload_n 1, [], []), (.aload_n 0, [], []), (.iload_n 3, [], []), (.iconst 1, [], []), (.iadd, [], []), (.iaload, [9], []), (.aload_n 0, [], []), (.iload_n 3, [], []), (.iconst 2, [], []), (.iadd, [], []), (.iaload, [9], []), (.invokevirtual 101, [0, 2, 0, 0, 9, 866, 863, 864, 865, 91], [mX9_group]), (.aload_n 2, [], []), (.aload_n 0, [], []), (.iload_n 3, [], []), (.iconst 1, [], []), (.iadd, [], []), (.iaload, [9], []), (.aload_n 0, [], []), (.iload_n 3, [], []), (.iconst 2, [], []), (.iadd, [], []), (.iaload, [9], []), (.invokevirtual 104, [0, 2, 0, 0, 10, 1573, 1570, 1571, 1572, 101], [mX10_group]), (.if_icmp .eq 632, [1477], []), (.iconst 0, [], []), (.ireturn, [1], [])]
theorem kL_law_817 : chL mL_law 817 bL_law_817 = true := by decide +kernel
def bL_law_850 : List AI := [(.aload_n 1, [], []), (.aload_n 0, [], []), (.iload_n 3, [], []), (.iconst 1, [], []), (.iadd, [], []), (.iaload, [9], []), (.invokevirtual 105, [0, 1, 0, 0, 9, 901, 898, 899, 900, 91], [mX9_fills]), (.aload_n 2, [], []), (.aload_n 0, [], []), (.iload_n 3, [], []), (.iconst 1, [], []), (.iadd, [], []), (.iaload, [9], []), (.invokevirtual 108, [0, 1, 0, 0, 10, 1581, 1578, 1579, 1580, 101], [mX10_fills]), (.if_icmp .eq 609, [1477], []), (.iconst 0, [], []), (.ireturn, [1], [])]
theorem kL_law_850 : chL mL_law 850 bL_law_850 = true := by decide +kernel
def bL_law_873 : List AI := [(.aload_n 1, [], []), (.aload_n 0, [], []), (.iload_n 3, [], []), (.iconst 1, [], []), (.iadd, [], []), (.iaload, [9], []), (.invokevirtual 109, [0, 1, 0, 0, 9, 906, 903, 904, 905, 91], [mX9_served]), (.aload_n 2, [], []), (.aload_n 0, [], []), (.iload_n 3, [], []), (.iconst 1, [], []), (.iadd, [], []), (.iaload, [9], []), (.invokevirtual 112, [0, 1, 0, 0, 10, 1585, 1582, 1583, 1584, 101], [mX10_served]), (.if_icmp .eq 586, [1477], []), (.iconst 0, [], []), (.ireturn, [1], [])]
theorem kL_law_873 : chL mL_law 873 bL_law_873 = true := by decide +kernel
def bL_law_896 : List AI := [(.aload_n 1, [], []), (.invokevirtual 113, [0, 0, 0, 0, 9, 951, 948, 949, 950, 91], [mX9_parted]), (.aload_n 2, [], []), (.invokevirtual 116, [0, 0, 0, 0, 10, 1596, 1593, 1594, 1595, 101], [mX10_parted]), (.if_icmp .eq 573, [1477], []), (.iconst 0, [], []), (.ireturn, [1], [])]
theorem kL_law_896 : chL mL_law 896 bL_law_896 = true := by decide +kernel
def bL_law_909 : List AI := [(.aload_n 1, [], []), (.aload_n 0, [], []), (.iload_n 3, [], []), (.iconst 1, [], []), (.iadd, [], []), (.iaload, [9], []), (.invokevirtual 117, [0, 1, 0, 0, 9, 959, 956, 957, 958, 91], [mX9_together]), (.aload_n 2, [], []), (.aload_n 0, [], []), (.iload_n 3, [], []), (.iconst 1, [], []), (.iadd, [], []), (.iaload, [9], []), (.invokevirtual 120, [0, 1, 0, 0, 10, 1612, 1609, 1610, 1611, 101], [mX10_together]), (.if_icmp .eq 550, [1477], []), (.iconst 0, [], []), (.ireturn, [1], [])]
theorem kL_law_909 : chL mL_law 909 bL_law_909 = true := by decide +kernel
def bL_law_932 : List AI := [(.aload_n 1, [], []), (.aload_n 0, [], []), (.iload_n 3, [], []), (.iconst 1, [], []), (.iadd, [], []), (.iaload, [9], []), (.aload_n 0, [], []), (.iload_n 3, [], []), (.iconst 2, [], []), (.iadd, [], []), (.iaload, [9], []), (.invokevirtual 121, [0, 2, 0, 0, 9, 968, 965, 966, 967, 91], [mX9_stones]), (.aload_n 2, [], []), (.aload_n 0, [], []), (.iload_n 3, [], []), (.iconst 1, [], []), (.iadd, [], []), (.iaload, [9], []), (.aload_n 0, [], []), (.iload_n 3, [], []), (.iconst 2, [], []), (.iadd, [], []), (.iaload, [9], []), (.invokevirtual 124, [0, 2, 0, 0, 10, 1616, 1613, 1614, 1615, 101], [mX10_stones]), (.if_icmp .eq 517, [1477], []), (.iconst 0, [], []), (.ireturn, [1], [])]
theorem kL_law_932 : chL mL_law 932 bL_law_932 = true := by decide +kernel
def bL_law_965 : List AI := [(.aload_n 1, [], []), (.aload_n 0, [], []), (.iload_n 3, [], []), (.iconst 1, [], []), (.iadd, [], []), (.iaload, [9], []), (.aload_n 0, [], []), (.iload_n 3, [], []), (.iconst 2, [], []), (.iadd, [], []), (.iaload, [9], []), (.invokevirtual 125, [0, 2, 0, 0, 9, 985, 982, 983, 984, 91], [mX9_leaves]), (.aload_n 2, [], []), (.aload_n 0, [], []), (.iload_n 3, [], []), (.iconst 1, [], []), (.iadd, [], []), (.iaload, [9], []), (.aload_n 0, [], []), (.iload_n 3, [], []), (.iconst 2, [], []), (.iadd, [], []), (.iaload, [9], []), (.invokevirtual 128, [0, 2, 0, 0, 10, 1620, 1617, 1618, 1619, 101], [mX10_leaves]), (.if_icmp .eq 484, [1477], []), (.iconst 0, [], []), (.ireturn, [1], [])]
theorem kL_law_965 : chL mL_law 965 bL_law_965 = true := by decide +kernel
def bL_law_998 : List AI := [(.aload_n 1, [], []), (.aload_n 0, [], []), (.iload_n 3, [], []), (.iconst 1, [], []), (.iadd, [], []), (.iaload, [9], []), (.aload_n 0, [], []), (.iload_n 3, [], []), (.iconst 2, [], []), (.iadd, [], []), (.iaload, [9], []), (.invokevirtual 129, [0, 2, 0, 0, 9, 990, 987, 988, 989, 91], [mX9_stable]), (.aload_n 2, [], []), (.aload_n 0, [], []), (.iload_n 3, [], []), (.iconst 1, [], []), (.iadd, [], []), (.iaload, [9], []), (.aload_n 0, [], []), (.iload_n 3, [], []), (.iconst 2, [], []), (.iadd, [], []), (.iaload, [9], []), (.invokevirtual 132, [0, 2, 0, 0, 10, 1636, 1633, 1634, 1635, 101], [mX10_stable]), (.if_icmp .eq 451, [1477], []), (.iconst 0, [], []), (.ireturn, [1], [])]
theorem kL_law_998 : chL mL_law 998 bL_law_998 = true := by decide +kernel
def bL_law_1031 : List AI := [(.aload_n 1, [], []), (.aload_n 0, [], []), (.iload_n 3, [], []), (.iconst 1, [], []), (.iadd, [], []), (.iaload, [9], []), (.invokevirtual 133, [0, 1, 0, 0, 9, 994, 991, 992, 993, 91], [mX9_better]), (.aload_n 2, [], []), (.aload_n 0, [], []), (.iload_n 3, [], []), (.iconst 1, [], []), (.iadd, [], []), (.iaload, [9], []), (.invokevirtual 136, [0, 1, 0, 0, 10, 1640, 1637, 1638, 1639, 101], [mX10_better]), (.if_icmp .eq 428, [1477], []), (.iconst 0, [], []), (.ireturn, [1], [])]
theorem kL_law_1031 : chL mL_law 1031 bL_law_1031 = true := by decide +kernel
def bL_law_1054 : List AI := [(.aload_n 1, [], []), (.aload_n 0, [], []), (.iload_n 3, [], []), (.iconst 1, [], []), (.iadd, [], []), (.iaload, [9], []), (.aload_n 0, [], []), (.iload_n 3, [], []), (.iconst 2, [], []), (.iadd, [], []), (.iaload, [9], []), (.aload_n 0, [], []), (.iload_n 3, [], []), (.iconst 3, [], []), (.iadd, [], []), (.iaload, [9], []), (.invokevirtual 137, [0, 3, 0, 0, 9, 1006, 1003, 1004, 1005, 91], [mX9_lend]), (.aload_n 2, [], []), (.aload_n 0, [], []), (.iload_n 3, [], []), (.iconst 1, [], []), (.iadd, [], []), (.iaload, [9], []), (.aload_n 0, [], []), (.iload_n 3, [], []), (.iconst 2, [], []), (.iadd, [], []), (.iaload, [9], []), (.aload_n 0, [], []), (.iload_n 3, [], []), (.iconst 3, [], []), (.iadd, [], []), (.iaload, [9], []), (.invokevirtual 141, [0, 3, 0, 0, 10, 1644, 1641, 1642, 1643, 101], [mX10_lend]), (.if_icmp .eq 385, [1477], []), (.iconst 0, [], []), (.ireturn, [1], [])]
theorem kL_law_1054 : chL mL_law 1054 bL_law_1054 = true := by decide +kernel
def bL_law_1097 : List AI := [(.aload_n 1, [], []), (.aload_n 0, [], []), (.iload_n 3, [], []), (.iconst 1, [], []), (.iadd, [], []), (.iaload, [9], []), (.aload_n 0, [], []), (.iload_n 3, [], []), (.iconst 2, [], []), (.iadd, [], []), (.iaload, [9], []), (.invokevirtual 142, [0, 2, 0, 0, 9, 1015, 1012, 1013, 1014, 91], [mX9_owed]), (.aload_n 2, [], []), (.aload_n 0, [], []), (.iload_n 3, [], []), (.iconst 1, [], []), (.iadd, [], []), (.iaload, [9], []), (.aload_n 0, [], []), (.iload_n 3, [], []), (.iconst 2, [], []), (.iadd, [], []), (.iaload, [9], []), (.invokevirtual 145, [0, 2, 0, 0, 10, 1648, 1645, 1646, 1647, 101], [mX10_owed]), (.if_icmp .eq 352, [1477], []), (.iconst 0, [], []), (.ireturn, [1], [])]
theorem kL_law_1097 : chL mL_law 1097 bL_law_1097 = true := by decide +kernel
def bL_law_1130 : List AI := [(.aload_n 1, [], []), (.aload_n 0, [], []), (.iload_n 3, [], []), (.iconst 1, [], []), (.iadd, [], []), (.iaload, [9], []), (.invokevirtual 146, [0, 1, 0, 0, 9, 1019, 1016, 1017, 1018, 91], [mX9_ring]), (.aload_n 2, [], []), (.aload_n 0, [], []), (.iload_n 3, [], []), (.iconst 1, [], []), (.iadd, [], []), (.iaload, [9], []), (.invokevirtual 149, [0, 1, 0, 0, 10, 1652, 1649, 1650, 1651, 101], [mX10_ring]), (.if_icmp .eq 329, [1477], []), (.iconst 0, [], []), (.ireturn, [1], [])]
theorem kL_law_1130 : chL mL_law 1130 bL_law_1130 = true := by decide +kernel
def bL_law_1153 : List AI := [(.aload_n 1, [], []), (.invokevirtual 150, [0, 0, 0, 0, 9, 1046, 1043, 1044, 1045, 91], [mX9_clear]), (.aload_n 2, [], []), (.invokevirtual 153, [0, 0, 0, 0, 10, 1664, 1661, 1662, 1663, 101], [mX10_clear]), (.if_icmp .eq 316, [1477], []), (.iconst 0, [], []), (.ireturn, [1], [])]
theorem kL_law_1153 : chL mL_law 1153 bL_law_1153 = true := by decide +kernel
def bL_law_1166 : List AI := [(.aload_n 1, [], []), (.invokevirtual 154, [0, 0, 0, 0, 9, 1067, 1064, 1065, 1066, 91], [mX9_payments]), (.aload_n 2, [], []), (.invokevirtual 157, [0, 0, 0, 0, 10, 1668, 1665, 1666, 1667, 101], [mX10_payments]), (.if_icmp .eq 303, [1477], []), (.iconst 0, [], []), (.ireturn, [1], [])]
theorem kL_law_1166 : chL mL_law 1166 bL_law_1166 = true := by decide +kernel
def bL_law_1179 : List AI := [(.aload_n 1, [], []), (.aload_n 0, [], []), (.iload_n 3, [], []), (.iconst 1, [], []), (.iadd, [], []), (.iaload, [9], []), (.aload_n 0, [], []), (.iload_n 3, [], []), (.iconst 2, [], []), (.iadd, [], []), (.iaload, [9], []), (.invokevirtual 158, [0, 2, 0, 0, 9, 1081, 1078, 1079, 1080, 91], [mX9_ahead]), (.aload_n 2, [], []), (.aload_n 0, [], []), (.iload_n 3, [], []), (.iconst 1, [], []), (.iadd, [], []), (.iaload, [9], []), (.aload_n 0, [], []), (.iload_n 3, [], []), (.iconst 2, [], []), (.iadd, [], []), (.iaload, [9], []), (.invokevirtual 161, [0, 2, 0, 0, 10, 1672, 1669, 1670, 1671, 101], [mX10_ahead]), (.if_icmp .eq 270, [1477], []), (.iconst 0, [], []), (.ireturn, [1], [])]
theorem kL_law_1179 : chL mL_law 1179 bL_law_1179 = true := by decide +kernel
def bL_law_1212 : List AI := [(.aload_n 1, [], []), (.aload_n 0, [], []), (.iload_n 3, [], []), (.iconst 1, [], []), (.iadd, [], []), (.iaload, [9], []), (.invokevirtual 162, [0, 1, 0, 0, 9, 1121, 1118, 1119, 1120, 91], [mX9_enough]), (.aload_n 2, [], []), (.aload_n 0, [], []), (.iload_n 3, [], []), (.iconst 1, [], []), (.iadd, [], []), (.iaload, [9], []), (.invokevirtual 165, [0, 1, 0, 0, 10, 1698, 1695, 1696, 1697, 101], [mX10_enough]), (.if_icmp .eq 247, [1477], []), (.iconst 0, [], []), (.ireturn, [1], [])]
theorem kL_law_1212 : chL mL_law 1212 bL_law_1212 = true := by decide +kernel
def bL_law_1235 : List AI := [(.aload_n 1, [], []), (.aload_n 0, [], []), (.iload_n 3, [], []), (.iconst 1, [], []), (.iadd, [], []), (.iaload, [9], []), (.aload_n 0, [], []), (.iload_n 3, [], []), (.iconst 2, [], []), (.iadd, [], []), (.iaload, [9], []), (.invokevirtual 166, [0, 2, 0, 0, 9, 1125, 1122, 1123, 1124, 91], [mX9_marry]), (.aload_n 2, [], []), (.aload_n 0, [], []), (.iload_n 3, [], []), (.iconst 1, [], []), (.iadd, [], []), (.iaload, [9], []), (.aload_n 0, [], []), (.iload_n 3, [], []), (.iconst 2, [], []), (.iadd, [], []), (.iaload, [9], []), (.invokevirtual 169, [0, 2, 0, 0, 10, 1702, 1699, 1700, 1701, 101], [mX10_marry]), (.if_icmp .eq 214, [1477], []), (.iconst 0, [], []), (.ireturn, [1], [])]
theorem kL_law_1235 : chL mL_law 1235 bL_law_1235 = true := by decide +kernel
def bL_law_1268 : List AI := [(.aload_n 1, [], []), (.aload_n 0, [], []), (.iload_n 3, [], []), (.iconst 1, [], []), (.iadd, [], []), (.iaload, [9], []), (.aload_n 0, [], []), (.iload_n 3, [], []), (.iconst 2, [], []), (.iadd, [], []), (.iaload, [9], []), (.aload_n 0, [], []), (.iload_n 3, [], []), (.iconst 3, [], []), (.iadd, [], []), (.iaload, [9], []), (.invokevirtual 170, [0, 3, 0, 0, 9, 1142, 1139, 1140, 1141, 91], [mX9_numbers]), (.aload_n 2, [], []), (.aload_n 0, [], []), (.iload_n 3, [], []), (.iconst 1, [], []), (.iadd, [], []), (.iaload, [9], []), (.aload_n 0, [], []), (.iload_n 3, [], []), (.iconst 2, [], []), (.iadd, [], []), (.iaload, [9], []), (.aload_n 0, [], []), (.iload_n 3, [], []), (.iconst 3, [], []), (.iadd, [], []), (.iaload, [9], []), (.invokevirtual 173, [0, 3, 0, 0, 10, 1722, 1719, 1720, 1721, 101], [mX10_numbers]), (.if_icmp .eq 171, [1477], []), (.iconst 0, [], []), (.ireturn, [1], [])]
theorem kL_law_1268 : chL mL_law 1268 bL_law_1268 = true := by decide +kernel
def bL_law_1311 : List AI := [(.aload_n 1, [], []), (.aload_n 0, [], []), (.iload_n 3, [], []), (.iconst 1, [], []), (.iadd, [], []), (.iaload, [9], []), (.aload_n 0, [], []), (.iload_n 3, [], []), (.iconst 2, [], []), (.iadd, [], []), (.iaload, [9], []), (.aload_n 0, [], []), (.iload_n 3, [], []), (.iconst 3, [], []), (.iadd, [], []), (.iaload, [9], []), (.i2l, [], []), (.bipush 32, [], []), (.lshl, [], []), (.aload_n 0, [], []), (.iload_n 3, [], []), (.iconst 4, [], []), (.iadd, [], []), (.iaload, [9], []), (.i2l, [], []), (.ldc2_w 174, [4294967295, 1758], []), (.land, [], []), (.lor, [], []), (.invokevirtual 176, [0, 3, 0, 0, 9, 1153, 1150, 1151, 1152, 91], [mX9_write]), (.aload_n 2, [], []), (.aload_n 0, [], []), (.iload_n 3, [], []), (.iconst 1, [], []), (.iadd, [], []), (.iaload, [9], []), (.aload_n 0, [], []), (.iload_n 3, [], []), (.iconst 2, [], []), (.iadd, [], []), (.iaload, [9], []), (.aload_n 0, [], []), (.iload_n 3, [], []), (.iconst 3, [], []), (.iadd, [], []), (.iaload, [9], []), (.i2l, [], []), (.bipush 32, [], []), (.lshl, [], []), (.aload_n 0, [], []), (.iload_n 3, [], []), (.iconst 4, [], []), (.iadd, [], []), (.iaload, [9], []), (.i2l, [], []), (.ldc2_w 174, [4294967295, 1758], []), (.land, [], []), (.lor, [], []), (.invokevirtual 180, [0, 3, 0, 0, 10, 1727, 1724, 1725, 1726, 101], [mX10_write]), (.lcmp, [], []), (.ifCond .eq 97, [1477], []), (.iconst 0, [], []), (.ireturn, [1], [])]
theorem kL_law_1311 : chL mL_law 1311 bL_law_1311 = true := by decide +kernel
def bL_law_1385 : List AI := [(.aload_n 1, [], []), (.aload_n 0, [], []), (.iload_n 3, [], []), (.iconst 1, [], []), (.iadd, [], []), (.iaload, [9], []), (.invokevirtual 181, [0, 1, 0, 0, 9, 1168, 1165, 1166, 1167, 91], [mX9_copy]), (.aload_n 2, [], []), (.aload_n 0, [], []), (.iload_n 3, [], []), (.iconst 1, [], []), (.iadd, [], []), (.iaload, [9], []), (.invokevirtual 184, [0, 1, 0, 0, 10, 1737, 1734, 1735, 1736, 101], [mX10_copy]), (.if_icmp .eq 74, [1477], []), (.iconst 0, [], []), (.ireturn, [1], [])]
theorem kL_law_1385 : chL mL_law 1385 bL_law_1385 = true := by decide +kernel
def bL_law_1408 : List AI := [(.aload_n 1, [], []), (.aload_n 0, [], []), (.iload_n 3, [], []), (.iconst 1, [], []), (.iadd, [], []), (.iaload, [9], []), (.invokevirtual 185, [0, 1, 0, 0, 9, 1172, 1169, 1170, 1171, 91], [mX9_image]), (.aload_n 2, [], []), (.aload_n 0, [], []), (.iload_n 3, [], []), (.iconst 1, [], []), (.iadd, [], []), (.iaload, [9], []), (.invokevirtual 188, [0, 1, 0, 0, 10, 1741, 1738, 1739, 1740, 101], [mX10_image]), (.if_icmp .eq 51, [1477], []), (.iconst 0, [], []), (.ireturn, [1], [])]
theorem kL_law_1408 : chL mL_law 1408 bL_law_1408 = true := by decide +kernel
def bL_law_1431 : List AI := [(.aload_n 1, [], []), (.aload_n 0, [], []), (.iload_n 3, [], []), (.iconst 1, [], []), (.iadd, [], []), (.iaload, [9], []), (.invokevirtual 189, [0, 1, 0, 0, 9, 1179, 1176, 1177, 1178, 91], [mX9_restore]), (.aload_n 2, [], []), (.aload_n 0, [], []), (.iload_n 3, [], []), (.iconst 1, [], []), (.iadd, [], []), (.iaload, [9], []), (.invokevirtual 192, [0, 1, 0, 0, 10, 1745, 1742, 1743, 1744, 101], [mX10_restore]), (.if_icmp .eq 28, [1477], []), (.iconst 0, [], []), (.ireturn, [1], [])]
theorem kL_law_1431 : chL mL_law 1431 bL_law_1431 = true := by decide +kernel
def bL_law_1454 : List AI := [(.aload_n 1, [], []), (.aload_n 0, [], []), (.iload_n 3, [], []), (.iconst 1, [], []), (.iadd, [], []), (.iaload, [9], []), (.invokevirtual 193, [0, 1, 0, 0, 9, 1183, 1180, 1181, 1182, 91], [mX9_count]), (.aload_n 2, [], []), (.aload_n 0, [], []), (.iload_n 3, [], []), (.iconst 1, [], []), (.iadd, [], []), (.iaload, [9], []), (.invokevirtual 196, [0, 1, 0, 0, 10, 1749, 1746, 1747, 1748, 101], [mX10_count]), (.if_icmp .eq 5, [1477], []), (.iconst 0, [], []), (.ireturn, [1], [])]
theorem kL_law_1454 : chL mL_law 1454 bL_law_1454 = true := by decide +kernel
def bL_law_1477 : List AI := [(.iinc 3 6, [], []), (.goto (-1462), [18], [])]
theorem kL_law_1477 : chL mL_law 1477 bL_law_1477 = true := by decide +kernel
def bL_law_1483 : List AI := [(.iconst 1, [], []), (.ireturn, [1], [])]
theorem kL_law_1483 : chL mL_law 1483 bL_law_1483 = true := by decide +kernel
