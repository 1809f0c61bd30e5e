def bX9_init_0 : List AI := [(.aload_n 0, [], []), (.invokespecial 3, [2, 114, 115, 116], []), (.aload_n 0, [], []), (.new 9, [8, 117, 118, 91], []), (.dup, [], []), (.invokespecial 11, [0, 0, 32, 253, 121, 119, 120, 91], [mX8_init]), (.putfield 12, [2, 9, 0, 455], []), (.aload_n 0, [], []), (.new 9, [8, 117, 118, 91], []), (.dup, [], []), (.invokespecial 11, [0, 0, 32, 253, 121, 119, 120, 91], [mX8_init]), (.putfield 16, [2, 9, 1, 456], []), (.aload_n 0, [], []), (.iconst 2, [], []), (.anewarray 9, [7, 8, 117, 244], []), (.putfield 19, [2, 9, 2, 457], []), (.aload_n 0, [], []), (.iconst 2, [], []), (.newarray .boolean, [4, 269], []), (.putfield 23, [2, 9, 3, 458], []), (.iconst 0, [], []), (.istore_n 1, [], []), (.nop, [43], [])]
theorem kX9_init_0 : chL mX9_init 0 bX9_init_0 = true := by decide +kernel
def bX9_init_43 : List AI := [(.iload_n 1, [], []), (.iconst 2, [], []), (.if_icmp .ge 22, [67], []), (.aload_n 0, [], []), (.getfield 19, [2, 9, 2, 457], []), (.iload_n 1, [], []), (.new 9, [8, 117, 118, 91], []), (.dup, [], []), (.invokespecial 11, [0, 0, 32, 253, 121, 119, 120, 91], [mX8_init]), (.aastore, [2], []), (.iinc 1 1, [], []), (.goto (-21), [43], [])]
theorem kX9_init_43 : chL mX9_init 43 bX9_init_43 = true := by decide +kernel
def bX9_init_67 : List AI := [(.aload_n 0, [], []), (.iconst 4, [], []), (.anewarray 27, [6, 6, 245, 246], []), (.putfield 29, [2, 9, 4, 459], []), (.iconst 0, [], []), (.istore_n 1, [], []), (.nop, [77], [])]
theorem kX9_init_67 : chL mX9_init 67 bX9_init_67 = true := by decide +kernel
def bX9_init_77 : List AI := [(.iload_n 1, [], []), (.iconst 4, [], []), (.if_icmp .ge 22, [101], []), (.aload_n 0, [], []), (.getfield 29, [2, 9, 4, 459], []), (.iload_n 1, [], []), (.new 27, [6, 245, 247, 93], []), (.dup, [], []), (.invokespecial 33, [1, 0, 1, 40, 250, 1, 249, 93], [mX6_init]), (.aastore, [1], []), (.iinc 1 1, [], []), (.goto (-21), [77], [])]
theorem kX9_init_77 : chL mX9_init 77 bX9_init_77 = true := by decide +kernel
def bX9_init_101 : List AI := [(.aload_n 0, [], []), (.new 34, [5, 271, 272, 94], []), (.dup, [], []), (.invokespecial 36, [1, 0, 1, 900, 275, 2, 274, 94], [mX5_init]), (.putfield 37, [2, 9, 5, 460], []), (.aload_n 0, [], []), (.new 41, [0, 309, 310, 95], []), (.dup, [], []), (.invokespecial 43, [1, 0, 1, 10, 313, 3, 312, 95], [mX0_init]), (.putfield 44, [2, 9, 6, 461], []), (.aload_n 0, [], []), (.new 48, [7, 331, 332, 96], []), (.dup, [], []), (.invokespecial 50, [1, 0, 2, 2061, 335, 4, 334, 96], [mX7_init]), (.putfield 51, [2, 9, 7, 462], []), (.aload_n 0, [], []), (.new 55, [3, 347, 348, 97], []), (.dup, [], []), (.invokespecial 57, [1, 0, 4, 4096, 351, 5, 350, 97], [mX3_init]), (.putfield 58, [2, 9, 8, 463], []), (.aload_n 0, [], []), (.new 62, [1, 394, 395, 98], []), (.dup, [], []), (.invokespecial 64, [1, 0, 5, 2078, 398, 6, 397, 98], [mX1_init]), (.putfield 65, [2, 9, 9, 464], []), (.aload_n 0, [], []), (.new 69, [4, 421, 422, 99], []), (.dup, [], []), (.invokespecial 71, [0, 0, 27, 214, 425, 423, 424, 99], [mX4_init]), (.putfield 72, [2, 9, 10, 465], []), (.return_, [], [])]
theorem kX9_init_101 : chL mX9_init 101 bX9_init_101 = true := by decide +kernel
def bX9_feed_0 : List AI := [(.aload_n 0, [], []), (.getfield 37, [2, 9, 5, 460], []), (.getfield 76, [0, 5, 0, 277], []), (.bipush 20, [], []), (.iadd, [], []), (.sipush 900, [], []), (.if_icmp .le 6, [19], []), (.bipush (-5), [], []), (.ireturn, [0], [])]
theorem kX9_feed_0 : chL mX9_feed 0 bX9_feed_0 = true := by decide +kernel
def bX9_feed_19 : List AI := [(.aload_n 0, [], []), (.getfield 37, [2, 9, 5, 460], []), (.iload_n 1, [], []), (.invokevirtual 80, [0, 1, 0, 0, 5, 496, 493, 494, 495, 94], [mX5_putBytes]), (.aload_n 0, [], []), (.getfield 37, [2, 9, 5, 460], []), (.iload_n 2, [], []), (.invokevirtual 80, [0, 1, 0, 0, 5, 496, 493, 494, 495, 94], [mX5_putBytes]), (.aload_n 0, [], []), (.getfield 37, [2, 9, 5, 460], []), (.iload_n 3, [], []), (.invokevirtual 80, [0, 1, 0, 0, 5, 496, 493, 494, 495, 94], [mX5_putBytes]), (.aload_n 0, [], []), (.getfield 37, [2, 9, 5, 460], []), (.iload 4, [], []), (.invokevirtual 80, [0, 1, 0, 0, 5, 496, 493, 494, 495, 94], [mX5_putBytes]), (.aload_n 0, [], []), (.getfield 37, [2, 9, 5, 460], []), (.iload 5, [], []), (.invokevirtual 80, [0, 1, 0, 0, 5, 496, 493, 494, 495, 94], [mX5_putBytes]), (.aload_n 0, [], []), (.getfield 37, [2, 9, 5, 460], []), (.getfield 76, [0, 5, 0, 277], []), (.ireturn, [0], [])]
theorem kX9_feed_19 : chL mX9_feed 19 bX9_feed_19 = true := by decide +kernel
def bX9_village_0 : List AI := [(.iload_n 1, [], []), (.ifCond .lt 14, [15], []), (.iload_n 1, [], []), (.aload_n 0, [], []), (.getfield 37, [2, 9, 5, 460], []), (.getfield 76, [0, 5, 0, 277], []), (.if_icmp .le 6, [18], []), (.nop, [15], [])]
theorem kX9_village_0 : chL mX9_village 0 bX9_village_0 = true := by decide +kernel
def bX9_village_15 : List AI := [(.bipush (-3), [], []), (.ireturn, [0], [])]
theorem kX9_village_15 : chL mX9_village 15 bX9_village_15 = true := by decide +kernel
def bX9_village_18 : List AI := [(.aload_n 0, [], []), (.getfield 37, [2, 9, 5, 460], []), (.iload_n 1, [], []), (.aload_n 0, [], []), (.getfield 16, [2, 9, 1, 456], []), (.invokevirtual 84, [0, 2, 0, 0, 5, 504, 501, 502, 503, 94], [mX5_read]), (.aload_n 0, [], []), (.getfield 37, [2, 9, 5, 460], []), (.getfield 88, [0, 5, 1, 280], []), (.ifCond .eq 14, [51], []), (.bipush (-30), [], []), (.aload_n 0, [], []), (.getfield 37, [2, 9, 5, 460], []), (.getfield 88, [0, 5, 1, 280], []), (.isub, [], []), (.ireturn, [0], [])]
theorem kX9_village_18 : chL mX9_village 18 bX9_village_18 = true := by decide +kernel
def bX9_village_51 : List AI := [(.aload_n 0, [], []), (.getfield 12, [2, 9, 0, 455], []), (.aload_n 0, [], []), (.getfield 16, [2, 9, 1, 456], []), (.invokevirtual 91, [0, 1, 0, 0, 8, 628, 625, 626, 627, 91], [mX8_become]), (.aload_n 0, [], []), (.getfield 12, [2, 9, 0, 455], []), (.getfield 95, [0, 8, 5, 211], []), (.ireturn, [0], [])]
theorem kX9_village_51 : chL mX9_village 51 bX9_village_51 = true := by decide +kernel
def bX9_fault_0 : List AI := [(.iload_n 1, [], []), (.lookupswitch 43 #[(0, 27), (1, 35)], [44, 28, 36], [])]
theorem kX9_fault_0 : chL mX9_fault 0 bX9_fault_0 = true := by decide +kernel
def bX9_fault_28 : List AI := [(.aload_n 0, [], []), (.getfield 37, [2, 9, 5, 460], []), (.getfield 88, [0, 5, 1, 280], []), (.ireturn, [0], [])]
theorem kX9_fault_28 : chL mX9_fault 28 bX9_fault_28 = true := by decide +kernel
def bX9_fault_36 : List AI := [(.aload_n 0, [], []), (.getfield 37, [2, 9, 5, 460], []), (.getfield 98, [0, 5, 2, 282], []), (.ireturn, [0], [])]
theorem kX9_fault_36 : chL mX9_fault 36 bX9_fault_36 = true := by decide +kernel
def bX9_fault_44 : List AI := [(.iconst (-1), [], []), (.ireturn, [0], [])]
theorem kX9_fault_44 : chL mX9_fault 44 bX9_fault_44 = true := by decide +kernel
def bX9_family_0 : List AI := [(.aload_n 0, [], []), (.getfield 12, [2, 9, 0, 455], []), (.iload_n 1, [], []), (.invokevirtual 101, [0, 1, 0, 0, 8, 648, 645, 646, 647, 91], [mX8_hasFamily]), (.ifCond .ne 6, [14], []), (.bipush (-2), [], []), (.ireturn, [0], [])]
theorem kX9_family_0 : chL mX9_family 0 bX9_family_0 = true := by decide +kernel
def bX9_family_14 : List AI := [(.aload_n 0, [], []), (.getfield 12, [2, 9, 0, 455], []), (.getfield 105, [2, 8, 6, 218], []), (.iload_n 1, [], []), (.aaload, [0], []), (.astore_n 3, [], []), (.iload_n 2, [], []), (.tableswitch 91 0 7 #[47, 52, 57, 62, 67, 72, 77, 82], [116, 72, 77, 82, 87, 92, 97, 102, 107], [])]
theorem kX9_family_14 : chL mX9_family 14 bX9_family_14 = true := by decide +kernel
def bX9_family_72 : List AI := [(.aload_n 3, [], []), (.getfield 109, [0, 2, 0, 132], []), (.ireturn, [0], [])]
theorem kX9_family_72 : chL mX9_family 72 bX9_family_72 = true := by decide +kernel
def bX9_family_77 : List AI := [(.aload_n 3, [], []), (.getfield 114, [0, 2, 1, 136], []), (.ireturn, [0], [])]
theorem kX9_family_77 : chL mX9_family 77 bX9_family_77 = true := by decide +kernel
def bX9_family_82 : List AI := [(.aload_n 3, [], []), (.invokevirtual 117, [0, 0, 0, 0, 2, 652, 649, 650, 651, 92], [mX2_allBread]), (.ireturn, [0], [])]
theorem kX9_family_82 : chL mX9_family 82 bX9_family_82 = true := by decide +kernel
def bX9_family_87 : List AI := [(.aload_n 3, [], []), (.getfield 121, [0, 2, 2, 141], []), (.ireturn, [0], [])]
theorem kX9_family_87 : chL mX9_family 87 bX9_family_87 = true := by decide +kernel
def bX9_family_92 : List AI := [(.aload_n 3, [], []), (.getfield 124, [0, 2, 3, 145], []), (.ireturn, [0], [])]
theorem kX9_family_92 : chL mX9_family 92 bX9_family_92 = true := by decide +kernel
def bX9_family_97 : List AI := [(.aload_n 3, [], []), (.getfield 127, [0, 2, 4, 148], []), (.ireturn, [0], [])]
theorem kX9_family_97 : chL mX9_family 97 bX9_family_97 = true := by decide +kernel
def bX9_family_102 : List AI := [(.aload_n 3, [], []), (.getfield 130, [0, 2, 5, 151], []), (.ireturn, [0], [])]
theorem kX9_family_102 : chL mX9_family 102 bX9_family_102 = true := by decide +kernel
def bX9_family_107 : List AI := [(.aload_n 0, [], []), (.getfield 12, [2, 9, 0, 455], []), (.iload_n 1, [], []), (.invokevirtual 133, [0, 1, 0, 0, 8, 656, 653, 654, 655, 91], [mX8_balance]), (.ireturn, [0], [])]
theorem kX9_family_107 : chL mX9_family 107 bX9_family_107 = true := by decide +kernel
def bX9_family_116 : List AI := [(.aload_n 0, [], []), (.aload_n 3, [], []), (.iload_n 2, [], []), (.invokevirtual 137, [0, 2, 0, 0, 9, 664, 661, 663, 11, 90], [mX9_breadOfAge]), (.ireturn, [0], [])]
theorem kX9_family_116 : chL mX9_family 116 bX9_family_116 = true := by decide +kernel
def bX9_breadOfAge_0 : List AI := [(.iload_n 2, [], []), (.bipush 10, [], []), (.if_icmp .lt 17, [20], []), (.iload_n 2, [], []), (.bipush 10, [], []), (.aload_n 0, [], []), (.getfield 12, [2, 9, 0, 455], []), (.getfield 141, [0, 8, 2, 203], []), (.iadd, [], []), (.if_icmp .lt 6, [23], []), (.nop, [20], [])]
theorem kX9_breadOfAge_0 : chL mX9_breadOfAge 0 bX9_breadOfAge_0 = true := by decide +kernel
def bX9_breadOfAge_20 : List AI := [(.bipush (-2), [], []), (.ireturn, [0], [])]
theorem kX9_breadOfAge_20 : chL mX9_breadOfAge 20 bX9_breadOfAge_20 = true := by decide +kernel
def bX9_breadOfAge_23 : List AI := [(.aload_n 1, [], []), (.getfield 144, [2, 2, 7, 161], []), (.iload_n 2, [], []), (.bipush 10, [], []), (.isub, [], []), (.iaload, [0], []), (.ireturn, [0], [])]
theorem kX9_breadOfAge_23 : chL mX9_breadOfAge 23 bX9_breadOfAge_23 = true := by decide +kernel
def bX9_oven_0 : List AI := [(.aload_n 0, [], []), (.getfield 12, [2, 9, 0, 455], []), (.iload_n 1, [], []), (.invokevirtual 148, [0, 1, 0, 0, 8, 672, 669, 670, 671, 91], [mX8_hasOven]), (.ifCond .eq 15, [23], []), (.aload_n 0, [], []), (.getfield 12, [2, 9, 0, 455], []), (.getfield 151, [2, 8, 7, 225], []), (.iload_n 1, [], []), (.iaload, [0], []), (.goto 5, [25], [])]
theorem kX9_oven_0 : chL mX9_oven 0 bX9_oven_0 = true := by decide +kernel
def bX9_oven_23 : List AI := [(.bipush (-2), [], []), (.nop, [25], [])]
theorem kX9_oven_23 : chL mX9_oven 23 bX9_oven_23 = true := by decide +kernel
def bX9_oven_25 : List AI := [(.ireturn, [0], [])]
theorem kX9_oven_25 : chL mX9_oven 25 bX9_oven_25 = true := by decide +kernel
def bX9_quarrel_0 : List AI := [(.aload_n 0, [], []), (.getfield 12, [2, 9, 0, 455], []), (.iload_n 1, [], []), (.invokevirtual 101, [0, 1, 0, 0, 8, 648, 645, 646, 647, 91], [mX8_hasFamily]), (.ifCond .eq 14, [22], []), (.aload_n 0, [], []), (.getfield 12, [2, 9, 0, 455], []), (.iload_n 2, [], []), (.invokevirtual 101, [0, 1, 0, 0, 8, 648, 645, 646, 647, 91], [mX8_hasFamily]), (.ifCond .ne 6, [25], []), (.nop, [22], [])]
theorem kX9_quarrel_0 : chL mX9_quarrel 0 bX9_quarrel_0 = true := by decide +kernel
def bX9_quarrel_22 : List AI := [(.bipush (-2), [], []), (.ireturn, [0], [])]
theorem kX9_quarrel_22 : chL mX9_quarrel 22 bX9_quarrel_22 = true := by decide +kernel
def bX9_quarrel_25 : List AI := [(.aload_n 0, [], []), (.getfield 12, [2, 9, 0, 455], []), (.getfield 105, [2, 8, 6, 218], []), (.iload_n 1, [], []), (.aaload, [0], []), (.getfield 154, [0, 2, 6, 155], []), (.iload_n 2, [], []), (.ishr, [], []), (.iconst 1, [], []), (.iand, [], []), (.ireturn, [0], [])]
theorem kX9_quarrel_25 : chL mX9_quarrel 25 bX9_quarrel_25 = true := by decide +kernel
def bX9_fallOut_0 : List AI := [(.aload_n 0, [], []), (.getfield 12, [2, 9, 0, 455], []), (.iload_n 1, [], []), (.iload_n 2, [], []), (.invokevirtual 157, [0, 2, 0, 0, 8, 684, 681, 682, 683, 91], [mX8_hasPair]), (.ifCond .ne 6, [15], []), (.bipush (-2), [], []), (.ireturn, [0], [])]
theorem kX9_fallOut_0 : chL mX9_fallOut 0 bX9_fallOut_0 = true := by decide +kernel
def bX9_fallOut_15 : List AI := [(.aload_n 0, [], []), (.getfield 12, [2, 9, 0, 455], []), (.getfield 105, [2, 8, 6, 218], []), (.iload_n 1, [], []), (.aaload, [0], []), (.dup, [], []), (.getfield 154, [0, 2, 6, 155], []), (.iconst 1, [], []), (.iload_n 2, [], []), (.ishl, [], []), (.ixor, [], []), (.putfield 154, [0, 2, 6, 155], []), (.aload_n 0, [], []), (.getfield 12, [2, 9, 0, 455], []), (.getfield 105, [2, 8, 6, 218], []), (.iload_n 2, [], []), (.aaload, [0], []), (.dup, [], []), (.getfield 154, [0, 2, 6, 155], []), (.iconst 1, [], []), (.iload_n 1, [], []), (.ishl, [], []), (.ixor, [], []), (.putfield 154, [0, 2, 6, 155], []), (.aload_n 0, [], []), (.getfield 12, [2, 9, 0, 455], []), (.getfield 105, [2, 8, 6, 218], []), (.iload_n 1, [], []), (.aaload, [0], []), (.getfield 154, [0, 2, 6, 155], []), (.iload_n 2, [], []), (.ishr, [], []), (.iconst 1, [], []), (.iand, [], []), (.ireturn, [0], [])]
theorem kX9_fallOut_15 : chL mX9_fallOut 15 bX9_fallOut_15 = true := by decide +kernel
def bX9_wish_0 : List AI := [(.aload_n 0, [], []), (.getfield 12, [2, 9, 0, 455], []), (.iload_n 1, [], []), (.invokevirtual 101, [0, 1, 0, 0, 8, 648, 645, 646, 647, 91], [mX8_hasFamily]), (.ifCond .ne 6, [14], []), (.bipush (-2), [], []), (.ireturn, [0], [])]
theorem kX9_wish_0 : chL mX9_wish 0 bX9_wish_0 = true := by decide +kernel
def bX9_wish_14 : List AI := [(.iload_n 2, [], []), (.ifCond .lt 9, [24], []), (.iload_n 2, [], []), (.bipush 99, [], []), (.if_icmp .le 6, [27], []), (.nop, [24], [])]
theorem kX9_wish_14 : chL mX9_wish 14 bX9_wish_14 = true := by decide +kernel
def bX9_wish_24 : List AI := [(.bipush (-3), [], []), (.ireturn, [0], [])]
theorem kX9_wish_24 : chL mX9_wish 24 bX9_wish_24 = true := by decide +kernel
def bX9_wish_27 : List AI := [(.aload_n 0, [], []), (.getfield 12, [2, 9, 0, 455], []), (.getfield 105, [2, 8, 6, 218], []), (.iload_n 1, [], []), (.aaload, [0], []), (.getfield 121, [0, 2, 2, 141], []), (.istore_n 3, [], []), (.aload_n 0, [], []), (.getfield 12, [2, 9, 0, 455], []), (.getfield 105, [2, 8, 6, 218], []), (.iload_n 1, [], []), (.aaload, [0], []), (.iload_n 2, [], []), (.putfield 121, [0, 2, 2, 141], []), (.iload_n 3, [], []), (.ireturn, [0], [])]
theorem kX9_wish_27 : chL mX9_wish 27 bX9_wish_27 = true := by decide +kernel
def bX9_mill_0 : List AI := [(.aload_n 0, [], []), (.getfield 12, [2, 9, 0, 455], []), (.iload_n 1, [], []), (.invokevirtual 101, [0, 1, 0, 0, 8, 648, 645, 646, 647, 91], [mX8_hasFamily]), (.ifCond .ne 6, [14], []), (.bipush (-2), [], []), (.ireturn, [0], [])]
theorem kX9_mill_0 : chL mX9_mill 0 bX9_mill_0 = true := by decide +kernel
def bX9_mill_14 : List AI := [(.iload_n 2, [], []), (.ifCond .lt 10, [25], []), (.iload_n 2, [], []), (.sipush 999, [], []), (.if_icmp .le 6, [28], []), (.nop, [25], [])]
theorem kX9_mill_14 : chL mX9_mill 14 bX9_mill_14 = true := by decide +kernel
def bX9_mill_25 : List AI := [(.bipush (-3), [], []), (.ireturn, [0], [])]
theorem kX9_mill_25 : chL mX9_mill 25 bX9_mill_25 = true := by decide +kernel
def bX9_mill_28 : List AI := [(.aload_n 0, [], []), (.getfield 12, [2, 9, 0, 455], []), (.getfield 105, [2, 8, 6, 218], []), (.iload_n 1, [], []), (.aaload, [0], []), (.astore_n 3, [], []), (.aload_n 3, [], []), (.sipush 999, [], []), (.aload_n 3, [], []), (.getfield 114, [0, 2, 1, 136], []), (.iload_n 2, [], []), (.iadd, [], []), (.invokestatic 161, [4, 694, 506, 101, 507], []), (.putfield 114, [0, 2, 1, 136], []), (.aload_n 3, [], []), (.getfield 114, [0, 2, 1, 136], []), (.ireturn, [0], [])]
theorem kX9_mill_28 : chL mX9_mill 28 bX9_mill_28 = true := by decide +kernel
def bX9_fire_0 : List AI := [(.aload_n 0, [], []), (.getfield 12, [2, 9, 0, 455], []), (.iload_n 1, [], []), (.invokevirtual 148, [0, 1, 0, 0, 8, 672, 669, 670, 671, 91], [mX8_hasOven]), (.ifCond .eq 10, [18], []), (.iload_n 2, [], []), (.invokestatic 167, [0, 1, 0, 0, 701, 699, 700, 90], [mX9_isRow]), (.ifCond .ne 6, [21], []), (.nop, [18], [])]
theorem kX9_fire_0 : chL mX9_fire 0 bX9_fire_0 = true := by decide +kernel
def bX9_fire_18 : List AI := [(.bipush (-2), [], []), (.ireturn, [0], [])]
theorem kX9_fire_18 : chL mX9_fire 18 bX9_fire_18 = true := by decide +kernel
def bX9_fire_21 : List AI := [(.aload_n 0, [], []), (.getfield 29, [2, 9, 4, 459], []), (.iload_n 2, [], []), (.aaload, [1], []), (.getfield 170, [0, 6, 0, 253], []), (.ifCond .ne 6, [36], []), (.bipush (-6), [], []), (.ireturn, [0], [])]
theorem kX9_fire_21 : chL mX9_fire 21 bX9_fire_21 = true := by decide +kernel
def bX9_fire_36 : List AI := [(.aload_n 0, [], []), (.getfield 29, [2, 9, 4, 459], []), (.iload_n 2, [], []), (.aaload, [1], []), (.getfield 174, [0, 6, 2, 257], []), (.aload_n 0, [], []), (.getfield 12, [2, 9, 0, 455], []), (.getfield 177, [0, 8, 0, 193], []), (.if_icmp .eq 6, [58], []), (.bipush (-7), [], []), (.ireturn, [0], [])]
theorem kX9_fire_36 : chL mX9_fire 36 bX9_fire_36 = true := by decide +kernel
def bX9_fire_58 : List AI := [(.aload_n 0, [], []), (.getfield 44, [2, 9, 6, 461], []), (.aload_n 0, [], []), (.getfield 12, [2, 9, 0, 455], []), (.iload_n 1, [], []), (.aload_n 0, [], []), (.getfield 29, [2, 9, 4, 459], []), (.iload_n 2, [], []), (.aaload, [1], []), (.invokevirtual 180, [0, 3, 0, 0, 0, 705, 702, 703, 704, 95], [mX0_bakeRow]), (.ireturn, [0], [])]
theorem kX9_fire_58 : chL mX9_fire 58 bX9_fire_58 = true := by decide +kernel
def bX9_fireWishes_0 : List AI := [(.aload_n 0, [], []), (.getfield 12, [2, 9, 0, 455], []), (.iload_n 1, [], []), (.invokevirtual 148, [0, 1, 0, 0, 8, 672, 669, 670, 671, 91], [mX8_hasOven]), (.ifCond .ne 6, [14], []), (.bipush (-2), [], []), (.ireturn, [0], [])]
theorem kX9_fireWishes_0 : chL mX9_fireWishes 0 bX9_fireWishes_0 = true := by decide +kernel
def bX9_fireWishes_14 : List AI := [(.aload_n 0, [], []), (.getfield 12, [2, 9, 0, 455], []), (.iload_n 2, [], []), (.invokevirtual 184, [0, 1, 0, 0, 8, 726, 723, 724, 725, 91], [mX8_hasSet]), (.ifCond .ne 6, [28], []), (.bipush (-3), [], []), (.ireturn, [0], [])]
theorem kX9_fireWishes_14 : chL mX9_fireWishes 14 bX9_fireWishes_14 = true := by decide +kernel
def bX9_fireWishes_28 : List AI := [(.aload_n 0, [], []), (.getfield 44, [2, 9, 6, 461], []), (.aload_n 0, [], []), (.getfield 12, [2, 9, 0, 455], []), (.iload_n 1, [], []), (.iload_n 2, [], []), (.invokevirtual 187, [0, 3, 0, 0, 0, 730, 727, 728, 729, 95], [mX0_bakeWishes]), (.ireturn, [0], [])]
theorem kX9_fireWishes_28 : chL mX9_fireWishes 28 bX9_fireWishes_28 = true := by decide +kernel
def bX9_judge_0 : List AI := [(.iload_n 1, [], []), (.invokestatic 167, [0, 1, 0, 0, 701, 699, 700, 90], [mX9_isRow]), (.ifCond .eq 12, [16], []), (.iload_n 2, [], []), (.ifCond .lt 8, [16], []), (.iload_n 2, [], []), (.iconst 2, [], []), (.if_icmp .le 6, [19], []), (.nop, [16], [])]
theorem kX9_judge_0 : chL mX9_judge 0 bX9_judge_0 = true := by decide +kernel
def bX9_judge_16 : List AI := [(.bipush (-2), [], []), (.ireturn, [0], [])]
theorem kX9_judge_16 : chL mX9_judge 16 bX9_judge_16 = true := by decide +kernel
def bX9_judge_19 : List AI := [(.aload_n 0, [], []), (.getfield 29, [2, 9, 4, 459], []), (.iload_n 1, [], []), (.aaload, [1], []), (.getfield 170, [0, 6, 0, 253], []), (.ifCond .ne 6, [34], []), (.bipush (-6), [], []), (.ireturn, [0], [])]
theorem kX9_judge_19 : chL mX9_judge 19 bX9_judge_19 = true := by decide +kernel
def bX9_judge_34 : List AI := [(.aload_n 0, [], []), (.getfield 16, [2, 9, 1, 456], []), (.aload_n 0, [], []), (.getfield 12, [2, 9, 0, 455], []), (.invokevirtual 91, [0, 1, 0, 0, 8, 628, 625, 626, 627, 91], [mX8_become]), (.aload_n 0, [], []), (.getfield 44, [2, 9, 6, 461], []), (.aload_n 0, [], []), (.getfield 16, [2, 9, 1, 456], []), (.aload_n 0, [], []), (.getfield 29, [2, 9, 4, 459], []), (.iload_n 1, [], []), (.aaload, [1], []), (.invokevirtual 191, [0, 2, 0, 0, 0, 742, 739, 740, 741, 95], [mX0_bakeAll]), (.iload_n 2, [], []), (.lookupswitch 55 #[(0, 25), (1, 47)], [118, 88, 110], [])]
theorem kX9_judge_34 : chL mX9_judge 34 bX9_judge_34 = true := by decide +kernel
def bX9_judge_88 : List AI := [(.aload_n 0, [], []), (.getfield 44, [2, 9, 6, 461], []), (.getfield 195, [0, 0, 1, 318], []), (.ifCond .ne 7, [102], []), (.iconst (-1), [], []), (.goto 10, [109], [])]
theorem kX9_judge_88 : chL mX9_judge 88 bX9_judge_88 = true := by decide +kernel
def bX9_judge_102 : List AI := [(.aload_n 0, [], []), (.getfield 44, [2, 9, 6, 461], []), (.getfield 198, [0, 0, 0, 316], []), (.nop, [109], [])]
theorem kX9_judge_102 : chL mX9_judge 102 bX9_judge_102 = true := by decide +kernel
def bX9_judge_109 : List AI := [(.ireturn, [0], [])]
theorem kX9_judge_109 : chL mX9_judge 109 bX9_judge_109 = true := by decide +kernel
def bX9_judge_110 : List AI := [(.aload_n 0, [], []), (.getfield 44, [2, 9, 6, 461], []), (.getfield 195, [0, 0, 1, 318], []), (.ireturn, [0], [])]
theorem kX9_judge_110 : chL mX9_judge 110 bX9_judge_110 = true := by decide +kernel
def bX9_judge_118 : List AI := [(.aload_n 0, [], []), (.getfield 44, [2, 9, 6, 461], []), (.getfield 201, [0, 0, 2, 320], []), (.ireturn, [0], [])]
theorem kX9_judge_118 : chL mX9_judge 118 bX9_judge_118 = true := by decide +kernel
def bX9_perform_0 : List AI := [(.iload_n 1, [], []), (.invokestatic 167, [0, 1, 0, 0, 701, 699, 700, 90], [mX9_isRow]), (.ifCond .ne 6, [10], []), (.bipush (-2), [], []), (.ireturn, [0], [])]
theorem kX9_perform_0 : chL mX9_perform 0 bX9_perform_0 = true := by decide +kernel
def bX9_perform_10 : List AI := [(.aload_n 0, [], []), (.getfield 29, [2, 9, 4, 459], []), (.iload_n 1, [], []), (.aaload, [1], []), (.getfield 170, [0, 6, 0, 253], []), (.ifCond .ne 6, [25], []), (.bipush (-6), [], []), (.ireturn, [0], [])]
theorem kX9_perform_10 : chL mX9_perform 10 bX9_perform_10 = true := by decide +kernel
def bX9_perform_25 : List AI := [(.aload_n 0, [], []), (.getfield 44, [2, 9, 6, 461], []), (.aload_n 0, [], []), (.getfield 12, [2, 9, 0, 455], []), (.aload_n 0, [], []), (.getfield 29, [2, 9, 4, 459], []), (.iload_n 1, [], []), (.aaload, [1], []), (.invokevirtual 191, [0, 2, 0, 0, 0, 742, 739, 740, 741, 95], [mX0_bakeAll]), (.aload_n 0, [], []), (.getfield 44, [2, 9, 6, 461], []), (.getfield 198, [0, 0, 0, 316], []), (.ireturn, [0], [])]
theorem kX9_perform_25 : chL mX9_perform 25 bX9_perform_25 = true := by decide +kernel
def bX9_day_0 : List AI := [(.aload_n 0, [], []), (.getfield 12, [2, 9, 0, 455], []), (.getfield 204, [0, 8, 4, 209], []), (.sipush 999, [], []), (.if_icmp .lt 8, [18], []), (.bipush (-5), [], []), (.goto 10, [25], [])]
theorem kX9_day_0 : chL mX9_day 0 bX9_day_0 = true := by decide +kernel
def bX9_day_18 : List AI := [(.aload_n 0, [], []), (.getfield 12, [2, 9, 0, 455], []), (.invokevirtual 207, [0, 0, 0, 0, 8, 761, 758, 759, 760, 91], [mX8_endDay]), (.nop, [25], [])]
theorem kX9_day_18 : chL mX9_day 18 bX9_day_18 = true := by decide +kernel
def bX9_day_25 : List AI := [(.ireturn, [0], [])]
theorem kX9_day_25 : chL mX9_day 25 bX9_day_25 = true := by decide +kernel
def bX9_drawn_0 : List AI := [(.iload_n 2, [], []), (.iconst 1, [], []), (.if_icmp .lt 9, [11], []), (.iload_n 2, [], []), (.bipush 30, [], []), (.if_icmp .le 6, [14], []), (.nop, [11], [])]
theorem kX9_drawn_0 : chL mX9_drawn 0 bX9_drawn_0 = true := by decide +kernel
def bX9_drawn_11 : List AI := [(.bipush (-3), [], []), (.ireturn, [0], [])]
theorem kX9_drawn_11 : chL mX9_drawn 11 bX9_drawn_11 = true := by decide +kernel
def bX9_drawn_14 : List AI := [(.aload_n 0, [], []), (.getfield 12, [2, 9, 0, 455], []), (.getfield 177, [0, 8, 0, 193], []), (.ifCond .eq 18, [39], []), (.aload_n 0, [], []), (.getfield 12, [2, 9, 0, 455], []), (.getfield 204, [0, 8, 4, 209], []), (.iload_n 2, [], []), (.iadd, [], []), (.sipush 999, [], []), (.if_icmp .le 6, [42], []), (.nop, [39], [])]
theorem kX9_drawn_14 : chL mX9_drawn 14 bX9_drawn_14 = true := by decide +kernel
def bX9_drawn_39 : List AI := [(.bipush (-5), [], []), (.ireturn, [0], [])]
theorem kX9_drawn_39 : chL mX9_drawn 39 bX9_drawn_39 = true := by decide +kernel
def bX9_drawn_42 : List AI := [(.iload_n 1, [], []), (.istore_n 3, [], []), (.iconst 0, [], []), (.istore 4, [], []), (.iconst 0, [], []), (.istore 5, [], []), (.nop, [50], [])]
theorem kX9_drawn_42 : chL mX9_drawn 42 bX9_drawn_42 = true := by decide +kernel
def bX9_drawn_50 : List AI := [(.iload 5, [], []), (.iload_n 2, [], []), (.if_icmp .ge 64, [117], []), (.iload_n 3, [], []), (.invokestatic 210, [0, 1, 0, 0, 778, 776, 777, 90], [mX9_nextDraw]), (.istore_n 3, [], []), (.iload_n 3, [], []), (.bipush 16, [], []), (.iushr, [], []), (.aload_n 0, [], []), (.getfield 12, [2, 9, 0, 455], []), (.getfield 177, [0, 8, 0, 193], []), (.irem, [], []), (.istore 6, [], []), (.iload_n 3, [], []), (.invokestatic 210, [0, 1, 0, 0, 778, 776, 777, 90], [mX9_nextDraw]), (.istore_n 3, [], []), (.aload_n 0, [], []), (.getfield 12, [2, 9, 0, 455], []), (.getfield 105, [2, 8, 6, 218], []), (.iload 6, [], []), (.aaload, [0], []), (.iload_n 3, [], []), (.bipush 16, [], []), (.iushr, [], []), (.iconst 3, [], []), (.irem, [], []), (.invokevirtual 213, [0, 1, 0, 0, 2, 783, 780, 781, 782, 92], [mX2_changeEats]), (.iload 4, [], []), (.aload_n 0, [], []), (.getfield 12, [2, 9, 0, 455], []), (.invokevirtual 207, [0, 0, 0, 0, 8, 761, 758, 759, 760, 91], [mX8_endDay]), (.iadd, [], []), (.istore 4, [], []), (.iinc 5 1, [], []), (.goto (-64), [50], [])]
theorem kX9_drawn_50 : chL mX9_drawn 50 bX9_drawn_50 = true := by decide +kernel
def bX9_drawn_117 : List AI := [(.iload 4, [], []), (.ireturn, [0], [])]
theorem kX9_drawn_117 : chL mX9_drawn 117 bX9_drawn_117 = true := by decide +kernel
def bX9_nextDraw_0 : List AI := [(.ldc 216, [0, 1103515245, 779], []), (.iload_n 0, [], []), (.imul, [], []), (.sipush 12345, [], []), (.iadd, [], []), (.ireturn, [0], [])]
theorem kX9_nextDraw_0 : chL mX9_nextDraw 0 bX9_nextDraw_0 = true := by decide +kernel
def bX9_lasts_0 : List AI := [(.aload_n 0, [], []), (.getfield 12, [2, 9, 0, 455], []), (.iload_n 1, [], []), (.invokevirtual 101, [0, 1, 0, 0, 8, 648, 645, 646, 647, 91], [mX8_hasFamily]), (.ifCond .ne 6, [14], []), (.bipush (-2), [], []), (.ireturn, [0], [])]
theorem kX9_lasts_0 : chL mX9_lasts 0 bX9_lasts_0 = true := by decide +kernel
def bX9_lasts_14 : List AI := [(.aload_n 0, [], []), (.getfield 16, [2, 9, 1, 456], []), (.getfield 105, [2, 8, 6, 218], []), (.iconst 0, [], []), (.aaload, [0], []), (.astore_n 2, [], []), (.aload_n 2, [], []), (.aload_n 0, [], []), (.getfield 12, [2, 9, 0, 455], []), (.getfield 105, [2, 8, 6, 218], []), (.iload_n 1, [], []), (.aaload, [0], []), (.invokevirtual 217, [0, 1, 0, 0, 2, 635, 788, 633, 634, 92], [mX2_become]), (.iconst 0, [], []), (.istore_n 3, [], []), (.nop, [39], [])]
theorem kX9_lasts_14 : chL mX9_lasts 14 bX9_lasts_14 = true := by decide +kernel
def bX9_lasts_39 : List AI := [(.iload_n 3, [], []), (.bipush 99, [], []), (.if_icmp .gt 30, [72], []), (.aload_n 2, [], []), (.invokevirtual 220, [0, 0, 0, 0, 2, 765, 789, 763, 764, 92], [mX2_eat]), (.ifCond .le 5, [54], []), (.iload_n 3, [], []), (.ireturn, [0], [])]
theorem kX9_lasts_39 : chL mX9_lasts 39 bX9_lasts_39 = true := by decide +kernel
def bX9_lasts_54 : List AI := [(.aload_n 2, [], []), (.aload_n 0, [], []), (.getfield 12, [2, 9, 0, 455], []), (.getfield 141, [0, 8, 2, 203], []), (.invokevirtual 223, [0, 1, 0, 0, 2, 770, 790, 768, 769, 92], [mX2_ageBread]), (.pop, [], []), (.iinc 3 1, [], []), (.goto (-30), [39], [])]
theorem kX9_lasts_54 : chL mX9_lasts 54 bX9_lasts_54 = true := by decide +kernel
def bX9_lasts_72 : List AI := [(.iconst (-1), [], []), (.ireturn, [0], [])]
theorem kX9_lasts_72 : chL mX9_lasts 72 bX9_lasts_72 = true := by decide +kernel
def bX9_isSum_0 : List AI := [(.iload_n 0, [], []), (.ifCond .lt 14, [15], []), (.iload_n 0, [], []), (.sipush 2000, [], []), (.if_icmp .gt 7, [15], []), (.iconst 1, [], []), (.goto 4, [16], [])]
theorem kX9_isSum_0 : chL mX9_isSum 0 bX9_isSum_0 = true := by decide +kernel
def bX9_isSum_15 : List AI := [(.iconst 0, [], []), (.nop, [16], [])]
theorem kX9_isSum_15 : chL mX9_isSum 15 bX9_isSum_15 = true := by decide +kernel
def bX9_isSum_16 : List AI := [(.ireturn, [1], [])]
theorem kX9_isSum_16 : chL mX9_isSum 16 bX9_isSum_16 = true := by decide +kernel
def bX9_canBake_0 : List AI := [(.iload_n 1, [], []), (.invokestatic 226, [0, 1, 0, 0, 797, 795, 796, 90], [mX9_isSum]), (.ifCond .ne 6, [10], []), (.bipush (-3), [], []), (.ireturn, [0], [])]
theorem kX9_canBake_0 : chL mX9_canBake 0 bX9_canBake_0 = true := by decide +kernel
def bX9_canBake_10 : List AI := [(.aload_n 0, [], []), (.getfield 51, [2, 9, 7, 462], []), (.aload_n 0, [], []), (.getfield 12, [2, 9, 0, 455], []), (.invokevirtual 229, [0, 1, 0, 0, 7, 801, 798, 799, 800, 96], [mX7_survey]), (.aload_n 0, [], []), (.getfield 51, [2, 9, 7, 462], []), (.iload_n 1, [], []), (.invokevirtual 232, [0, 1, 0, 0, 7, 819, 816, 817, 818, 96], [mX7_isBaked]), (.ifCond .eq 7, [36], []), (.iconst 1, [], []), (.goto 4, [37], [])]
theorem kX9_canBake_10 : chL mX9_canBake 10 bX9_canBake_10 = true := by decide +kernel
def bX9_canBake_36 : List AI := [(.iconst 0, [], []), (.nop, [37], [])]
theorem kX9_canBake_36 : chL mX9_canBake 36 bX9_canBake_36 = true := by decide +kernel
def bX9_canBake_37 : List AI := [(.ireturn, [0], [])]
theorem kX9_canBake_37 : chL mX9_canBake 37 bX9_canBake_37 = true := by decide +kernel
def bX9_fires_0 : List AI := [(.iload_n 1, [], []), (.invokestatic 226, [0, 1, 0, 0, 797, 795, 796, 90], [mX9_isSum]), (.ifCond .eq 18, [22], []), (.aload_n 0, [], []), (.getfield 51, [2, 9, 7, 462], []), (.aload_n 0, [], []), (.getfield 12, [2, 9, 0, 455], []), (.iload_n 1, [], []), (.invokevirtual 235, [0, 2, 0, 0, 7, 827, 824, 825, 826, 96], [mX7_fewestFires]), (.goto 5, [24], [])]
theorem kX9_fires_0 : chL mX9_fires 0 bX9_fires_0 = true := by decide +kernel
def bX9_fires_22 : List AI := [(.bipush (-3), [], []), (.nop, [24], [])]
theorem kX9_fires_22 : chL mX9_fires 22 bX9_fires_22 = true := by decide +kernel
def bX9_fires_24 : List AI := [(.ireturn, [0], [])]
theorem kX9_fires_24 : chL mX9_fires 24 bX9_fires_24 = true := by decide +kernel
def bX9_ways_0 : List AI := [(.iload_n 1, [], []), (.invokestatic 226, [0, 1, 0, 0, 797, 795, 796, 90], [mX9_isSum]), (.ifCond .eq 18, [22], []), (.aload_n 0, [], []), (.getfield 51, [2, 9, 7, 462], []), (.aload_n 0, [], []), (.getfield 12, [2, 9, 0, 455], []), (.iload_n 1, [], []), (.invokevirtual 239, [0, 2, 0, 0, 7, 835, 832, 833, 834, 96], [mX7_countWays]), (.goto 5, [24], [])]
theorem kX9_ways_0 : chL mX9_ways 0 bX9_ways_0 = true := by decide +kernel
def bX9_ways_22 : List AI := [(.bipush (-3), [], []), (.nop, [24], [])]
theorem kX9_ways_22 : chL mX9_ways 22 bX9_ways_22 = true := by decide +kernel
def bX9_ways_24 : List AI := [(.ireturn, [0], [])]
theorem kX9_ways_24 : chL mX9_ways 24 bX9_ways_24 = true := by decide +kernel
def bX9_gap_0 : List AI := [(.aload_n 0, [], []), (.getfield 51, [2, 9, 7, 462], []), (.aload_n 0, [], []), (.getfield 12, [2, 9, 0, 455], []), (.invokevirtual 229, [0, 1, 0, 0, 7, 801, 798, 799, 800, 96], [mX7_survey]), (.aload_n 0, [], []), (.getfield 51, [2, 9, 7, 462], []), (.invokevirtual 242, [0, 0, 0, 0, 7, 843, 840, 841, 842, 96], [mX7_greatestGap]), (.ireturn, [0], [])]
theorem kX9_gap_0 : chL mX9_gap 0 bX9_gap_0 = true := by decide +kernel
def bX9_upTo_0 : List AI := [(.iload_n 1, [], []), (.ifCond .lt 10, [11], []), (.iload_n 1, [], []), (.sipush 1900, [], []), (.if_icmp .le 6, [14], []), (.nop, [11], [])]
theorem kX9_upTo_0 : chL mX9_upTo 0 bX9_upTo_0 = true := by decide +kernel
def bX9_upTo_11 : List AI := [(.bipush (-3), [], []), (.ireturn, [0], [])]
theorem kX9_upTo_11 : chL mX9_upTo 11 bX9_upTo_11 = true := by decide +kernel
def bX9_upTo_14 : List AI := [(.aload_n 0, [], []), (.getfield 51, [2, 9, 7, 462], []), (.aload_n 0, [], []), (.getfield 12, [2, 9, 0, 455], []), (.invokevirtual 229, [0, 1, 0, 0, 7, 801, 798, 799, 800, 96], [mX7_survey]), (.aload_n 0, [], []), (.getfield 51, [2, 9, 7, 462], []), (.iload_n 1, [], []), (.invokevirtual 245, [0, 1, 0, 0, 7, 852, 849, 850, 851, 96], [mX7_leastFrom]), (.ireturn, [0], [])]
theorem kX9_upTo_14 : chL mX9_upTo 14 bX9_upTo_14 = true := by decide +kernel
def bX9_group_0 : List AI := [(.aload_n 0, [], []), (.getfield 12, [2, 9, 0, 455], []), (.iload_n 1, [], []), (.invokevirtual 148, [0, 1, 0, 0, 8, 672, 669, 670, 671, 91], [mX8_hasOven]), (.ifCond .ne 6, [14], []), (.bipush (-2), [], []), (.ireturn, [0], [])]
theorem kX9_group_0 : chL mX9_group 0 bX9_group_0 = true := by decide +kernel
def bX9_group_14 : List AI := [(.aload_n 0, [], []), (.getfield 58, [2, 9, 8, 463], []), (.aload_n 0, [], []), (.getfield 12, [2, 9, 0, 455], []), (.invokevirtual 248, [0, 1, 0, 0, 3, 861, 858, 859, 860, 97], [mX3_survey]), (.aload_n 0, [], []), (.getfield 58, [2, 9, 8, 463], []), (.aload_n 0, [], []), (.getfield 12, [2, 9, 0, 455], []), (.iload_n 1, [], []), (.iload_n 2, [], []), (.iconst 0, [], []), (.invokevirtual 249, [0, 4, 0, 0, 3, 873, 870, 871, 872, 97], [mX3_pick]), (.ireturn, [0], [])]
theorem kX9_group_14 : chL mX9_group 14 bX9_group_14 = true := by decide +kernel
def bX9_fills_0 : List AI := [(.aload_n 0, [], []), (.getfield 12, [2, 9, 0, 455], []), (.iload_n 1, [], []), (.invokevirtual 184, [0, 1, 0, 0, 8, 726, 723, 724, 725, 91], [mX8_hasSet]), (.ifCond .ne 6, [14], []), (.bipush (-3), [], []), (.ireturn, [0], [])]
theorem kX9_fills_0 : chL mX9_fills 0 bX9_fills_0 = true := by decide +kernel
def bX9_fills_14 : List AI := [(.aload_n 0, [], []), (.getfield 58, [2, 9, 8, 463], []), (.aload_n 0, [], []), (.getfield 12, [2, 9, 0, 455], []), (.invokevirtual 248, [0, 1, 0, 0, 3, 861, 858, 859, 860, 97], [mX3_survey]), (.aload_n 0, [], []), (.getfield 58, [2, 9, 8, 463], []), (.aload_n 0, [], []), (.getfield 12, [2, 9, 0, 455], []), (.iload_n 1, [], []), (.invokevirtual 253, [0, 2, 0, 0, 3, 869, 893, 867, 868, 97], [mX3_ovensFilled]), (.ireturn, [0], [])]
theorem kX9_fills_14 : chL mX9_fills 14 bX9_fills_14 = true := by decide +kernel
def bX9_served_0 : List AI := [(.iload_n 1, [], []), (.ifCond .lt 8, [9], []), (.iload_n 1, [], []), (.iconst 2, [], []), (.if_icmp .le 6, [12], []), (.nop, [9], [])]
theorem kX9_served_0 : chL mX9_served 0 bX9_served_0 = true := by decide +kernel
def bX9_served_9 : List AI := [(.bipush (-2), [], []), (.ireturn, [0], [])]
theorem kX9_served_9 : chL mX9_served 9 bX9_served_9 = true := by decide +kernel
def bX9_served_12 : List AI := [(.aload_n 0, [], []), (.getfield 58, [2, 9, 8, 463], []), (.aload_n 0, [], []), (.getfield 12, [2, 9, 0, 455], []), (.invokevirtual 248, [0, 1, 0, 0, 3, 861, 858, 859, 860, 97], [mX3_survey]), (.aload_n 0, [], []), (.getfield 58, [2, 9, 8, 463], []), (.invokevirtual 256, [0, 0, 0, 0, 3, 901, 898, 899, 900, 97], [mX3_findServed]), (.iload_n 1, [], []), (.lookupswitch 52 #[(0, 25), (1, 36)], [83, 56, 67], [])]
theorem kX9_served_12 : chL mX9_served 12 bX9_served_12 = true := by decide +kernel
def bX9_served_56 : List AI := [(.aload_n 0, [], []), (.getfield 58, [2, 9, 8, 463], []), (.getfield 259, [0, 3, 1, 356], []), (.invokestatic 262, [0, 1, 0, 0, 929, 938, 928, 108], [mJ6_bitCount_0f7a4]), (.ireturn, [0], [])]
theorem kX9_served_56 : chL mX9_served 56 bX9_served_56 = true := by decide +kernel
def bX9_served_67 : List AI := [(.aload_n 0, [], []), (.getfield 58, [2, 9, 8, 463], []), (.getfield 267, [2, 3, 6, 366], []), (.aload_n 0, [], []), (.getfield 58, [2, 9, 8, 463], []), (.getfield 259, [0, 3, 1, 356], []), (.iaload, [0], []), (.ireturn, [0], [])]
theorem kX9_served_67 : chL mX9_served 67 bX9_served_67 = true := by decide +kernel
def bX9_served_83 : List AI := [(.aload_n 0, [], []), (.getfield 58, [2, 9, 8, 463], []), (.getfield 259, [0, 3, 1, 356], []), (.ireturn, [0], [])]
theorem kX9_served_83 : chL mX9_served 83 bX9_served_83 = true := by decide +kernel
def bX9_parted_0 : List AI := [(.aload_n 0, [], []), (.getfield 58, [2, 9, 8, 463], []), (.aload_n 0, [], []), (.getfield 12, [2, 9, 0, 455], []), (.invokevirtual 248, [0, 1, 0, 0, 3, 861, 858, 859, 860, 97], [mX3_survey]), (.aload_n 0, [], []), (.getfield 58, [2, 9, 8, 463], []), (.getfield 270, [0, 3, 0, 354], []), (.invokestatic 262, [0, 1, 0, 0, 929, 938, 928, 108], [mJ6_bitCount_0f7a4]), (.bipush 8, [], []), (.if_icmp .le 8, [31], []), (.bipush (-4), [], []), (.goto 10, [38], [])]
theorem kX9_parted_0 : chL mX9_parted 0 bX9_parted_0 = true := by decide +kernel
def bX9_parted_31 : List AI := [(.aload_n 0, [], []), (.getfield 58, [2, 9, 8, 463], []), (.invokevirtual 273, [0, 0, 0, 0, 3, 946, 943, 944, 945, 97], [mX3_countPartings]), (.nop, [38], [])]
theorem kX9_parted_31 : chL mX9_parted 31 bX9_parted_31 = true := by decide +kernel
def bX9_parted_38 : List AI := [(.ireturn, [0], [])]
theorem kX9_parted_38 : chL mX9_parted 38 bX9_parted_38 = true := by decide +kernel
def bX9_together_0 : List AI := [(.aload_n 0, [], []), (.getfield 12, [2, 9, 0, 455], []), (.iload_n 1, [], []), (.invokevirtual 101, [0, 1, 0, 0, 8, 648, 645, 646, 647, 91], [mX8_hasFamily]), (.ifCond .ne 6, [14], []), (.bipush (-2), [], []), (.ireturn, [0], [])]
theorem kX9_together_0 : chL mX9_together 0 bX9_together_0 = true := by decide +kernel
def bX9_together_14 : List AI := [(.aload_n 0, [], []), (.getfield 58, [2, 9, 8, 463], []), (.aload_n 0, [], []), (.getfield 12, [2, 9, 0, 455], []), (.invokevirtual 248, [0, 1, 0, 0, 3, 861, 858, 859, 860, 97], [mX3_survey]), (.aload_n 0, [], []), (.getfield 58, [2, 9, 8, 463], []), (.getfield 270, [0, 3, 0, 354], []), (.invokestatic 262, [0, 1, 0, 0, 929, 938, 928, 108], [mJ6_bitCount_0f7a4]), (.bipush 8, [], []), (.if_icmp .le 6, [43], []), (.bipush (-4), [], []), (.ireturn, [0], [])]
theorem kX9_together_14 : chL mX9_together 14 bX9_together_14 = true := by decide +kernel
def bX9_together_43 : List AI := [(.aload_n 0, [], []), (.getfield 58, [2, 9, 8, 463], []), (.iload_n 1, [], []), (.invokevirtual 276, [0, 1, 0, 0, 3, 954, 951, 952, 953, 97], [mX3_alwaysWith]), (.ireturn, [0], [])]
theorem kX9_together_43 : chL mX9_together 43 bX9_together_43 = true := by decide +kernel
def bX9_stones_0 : List AI := [(.aload_n 0, [], []), (.getfield 12, [2, 9, 0, 455], []), (.iload_n 1, [], []), (.invokevirtual 148, [0, 1, 0, 0, 8, 672, 669, 670, 671, 91], [mX8_hasOven]), (.ifCond .eq 12, [20], []), (.iload_n 2, [], []), (.ifCond .lt 8, [20], []), (.iload_n 2, [], []), (.iconst 1, [], []), (.if_icmp .le 6, [23], []), (.nop, [20], [])]
theorem kX9_stones_0 : chL mX9_stones 0 bX9_stones_0 = true := by decide +kernel
def bX9_stones_20 : List AI := [(.bipush (-2), [], []), (.ireturn, [0], [])]
theorem kX9_stones_20 : chL mX9_stones 20 bX9_stones_20 = true := by decide +kernel
def bX9_stones_23 : List AI := [(.aload_n 0, [], []), (.getfield 12, [2, 9, 0, 455], []), (.getfield 151, [2, 8, 7, 225], []), (.iload_n 1, [], []), (.iaload, [0], []), (.istore_n 3, [], []), (.aload_n 0, [], []), (.getfield 12, [2, 9, 0, 455], []), (.invokevirtual 279, [0, 0, 0, 0, 8, 963, 960, 961, 962, 91], [mX8_greatestWish]), (.iload_n 3, [], []), (.if_icmp .le 5, [46], []), (.iconst (-1), [], []), (.ireturn, [0], [])]
theorem kX9_stones_23 : chL mX9_stones 23 bX9_stones_23 = true := by decide +kernel
def bX9_stones_46 : List AI := [(.aload_n 0, [], []), (.getfield 58, [2, 9, 8, 463], []), (.aload_n 0, [], []), (.getfield 12, [2, 9, 0, 455], []), (.invokevirtual 248, [0, 1, 0, 0, 3, 861, 858, 859, 860, 97], [mX3_survey]), (.aload_n 0, [], []), (.getfield 58, [2, 9, 8, 463], []), (.iload_n 3, [], []), (.invokevirtual 282, [0, 1, 0, 0, 3, 968, 965, 966, 967, 97], [mX3_fewestFires]), (.istore 4, [], []), (.iload_n 2, [], []), (.ifCond .ne 8, [76], []), (.iload 4, [], []), (.goto 15, [88], [])]
theorem kX9_stones_46 : chL mX9_stones 46 bX9_stones_46 = true := by decide +kernel
def bX9_stones_76 : List AI := [(.iload 4, [], []), (.iload_n 3, [], []), (.imul, [], []), (.aload_n 0, [], []), (.getfield 12, [2, 9, 0, 455], []), (.invokevirtual 284, [0, 0, 0, 0, 8, 972, 969, 970, 971, 91], [mX8_allWishes]), (.isub, [], []), (.nop, [88], [])]
theorem kX9_stones_76 : chL mX9_stones 76 bX9_stones_76 = true := by decide +kernel
def bX9_stones_88 : List AI := [(.ireturn, [0], [])]
theorem kX9_stones_88 : chL mX9_stones 88 bX9_stones_88 = true := by decide +kernel
def bX9_leaves_0 : List AI := [(.aload_n 0, [], []), (.getfield 12, [2, 9, 0, 455], []), (.iload_n 1, [], []), (.invokevirtual 148, [0, 1, 0, 0, 8, 672, 669, 670, 671, 91], [mX8_hasOven]), (.ifCond .ne 6, [14], []), (.bipush (-2), [], []), (.ireturn, [0], [])]
theorem kX9_leaves_0 : chL mX9_leaves 0 bX9_leaves_0 = true := by decide +kernel
def bX9_leaves_14 : List AI := [(.aload_n 0, [], []), (.getfield 58, [2, 9, 8, 463], []), (.aload_n 0, [], []), (.getfield 12, [2, 9, 0, 455], []), (.invokevirtual 248, [0, 1, 0, 0, 3, 861, 858, 859, 860, 97], [mX3_survey]), (.aload_n 0, [], []), (.getfield 12, [2, 9, 0, 455], []), (.iload_n 2, [], []), (.invokevirtual 184, [0, 1, 0, 0, 8, 726, 723, 724, 725, 91], [mX8_hasSet]), (.ifCond .eq 24, [57], []), (.aload_n 0, [], []), (.getfield 58, [2, 9, 8, 463], []), (.getfield 287, [2, 3, 5, 364], []), (.iload_n 2, [], []), (.iaload, [0], []), (.aload_n 0, [], []), (.getfield 12, [2, 9, 0, 455], []), (.getfield 151, [2, 8, 7, 225], []), (.iload_n 1, [], []), (.iaload, [0], []), (.if_icmp .eq 6, [60], []), (.nop, [57], [])]
theorem kX9_leaves_14 : chL mX9_leaves 14 bX9_leaves_14 = true := by decide +kernel
def bX9_leaves_57 : List AI := [(.bipush (-5), [], []), (.ireturn, [0], [])]
theorem kX9_leaves_57 : chL mX9_leaves 57 bX9_leaves_57 = true := by decide +kernel
def bX9_leaves_60 : List AI := [(.aload_n 0, [], []), (.getfield 58, [2, 9, 8, 463], []), (.aload_n 0, [], []), (.getfield 12, [2, 9, 0, 455], []), (.iload_n 1, [], []), (.iload_n 2, [], []), (.invokevirtual 290, [0, 3, 0, 0, 3, 877, 977, 875, 876, 97], [mX3_leavers]), (.ireturn, [0], [])]
theorem kX9_leaves_60 : chL mX9_leaves 60 bX9_leaves_60 = true := by decide +kernel
def bX9_stable_0 : List AI := [(.aload_n 0, [], []), (.getfield 12, [2, 9, 0, 455], []), (.iload_n 1, [], []), (.invokevirtual 148, [0, 1, 0, 0, 8, 672, 669, 670, 671, 91], [mX8_hasOven]), (.ifCond .ne 6, [14], []), (.bipush (-2), [], []), (.ireturn, [0], [])]
theorem kX9_stable_0 : chL mX9_stable 0 bX9_stable_0 = true := by decide +kernel
def bX9_stable_14 : List AI := [(.aload_n 0, [], []), (.getfield 58, [2, 9, 8, 463], []), (.aload_n 0, [], []), (.getfield 12, [2, 9, 0, 455], []), (.invokevirtual 248, [0, 1, 0, 0, 3, 861, 858, 859, 860, 97], [mX3_survey]), (.aload_n 0, [], []), (.getfield 58, [2, 9, 8, 463], []), (.aload_n 0, [], []), (.getfield 12, [2, 9, 0, 455], []), (.iload_n 1, [], []), (.iload_n 2, [], []), (.iconst 1, [], []), (.invokevirtual 249, [0, 4, 0, 0, 3, 873, 870, 871, 872, 97], [mX3_pick]), (.ireturn, [0], [])]
theorem kX9_stable_14 : chL mX9_stable 14 bX9_stable_14 = true := by decide +kernel
def bX9_better_0 : List AI := [(.iload_n 1, [], []), (.ifCond .lt 8, [9], []), (.iload_n 1, [], []), (.iconst 2, [], []), (.if_icmp .le 6, [12], []), (.nop, [9], [])]
theorem kX9_better_0 : chL mX9_better 0 bX9_better_0 = true := by decide +kernel
def bX9_better_9 : List AI := [(.bipush (-2), [], []), (.ireturn, [0], [])]
theorem kX9_better_9 : chL mX9_better 9 bX9_better_9 = true := by decide +kernel
def bX9_better_12 : List AI := [(.aload_n 0, [], []), (.getfield 58, [2, 9, 8, 463], []), (.aload_n 0, [], []), (.getfield 12, [2, 9, 0, 455], []), (.invokevirtual 248, [0, 1, 0, 0, 3, 861, 858, 859, 860, 97], [mX3_survey]), (.aload_n 0, [], []), (.getfield 58, [2, 9, 8, 463], []), (.aload_n 0, [], []), (.getfield 12, [2, 9, 0, 455], []), (.invokevirtual 293, [0, 1, 0, 0, 3, 989, 986, 987, 988, 97], [mX3_findBetter]), (.iload_n 1, [], []), (.lookupswitch 41 #[(0, 25), (1, 33)], [76, 60, 68], [])]
theorem kX9_better_12 : chL mX9_better 12 bX9_better_12 = true := by decide +kernel
def bX9_better_60 : List AI := [(.aload_n 0, [], []), (.getfield 58, [2, 9, 8, 463], []), (.getfield 296, [0, 3, 2, 358], []), (.ireturn, [0], [])]
theorem kX9_better_60 : chL mX9_better 60 bX9_better_60 = true := by decide +kernel
def bX9_better_68 : List AI := [(.aload_n 0, [], []), (.getfield 58, [2, 9, 8, 463], []), (.getfield 299, [0, 3, 3, 360], []), (.ireturn, [0], [])]
theorem kX9_better_68 : chL mX9_better 68 bX9_better_68 = true := by decide +kernel
def bX9_better_76 : List AI := [(.aload_n 0, [], []), (.getfield 58, [2, 9, 8, 463], []), (.getfield 302, [0, 3, 4, 362], []), (.ireturn, [0], [])]
theorem kX9_better_76 : chL mX9_better 76 bX9_better_76 = true := by decide +kernel
def bX9_lend_0 : List AI := [(.aload_n 0, [], []), (.getfield 12, [2, 9, 0, 455], []), (.iload_n 1, [], []), (.iload_n 2, [], []), (.invokevirtual 157, [0, 2, 0, 0, 8, 684, 681, 682, 683, 91], [mX8_hasPair]), (.ifCond .ne 6, [15], []), (.bipush (-2), [], []), (.ireturn, [0], [])]
theorem kX9_lend_0 : chL mX9_lend 0 bX9_lend_0 = true := by decide +kernel
def bX9_lend_15 : List AI := [(.iload_n 3, [], []), (.iconst 1, [], []), (.if_icmp .lt 19, [36], []), (.iload_n 3, [], []), (.aload_n 0, [], []), (.getfield 12, [2, 9, 0, 455], []), (.getfield 105, [2, 8, 6, 218], []), (.iload_n 1, [], []), (.aaload, [0], []), (.getfield 114, [0, 2, 1, 136], []), (.if_icmp .le 6, [39], []), (.nop, [36], [])]
theorem kX9_lend_15 : chL mX9_lend 15 bX9_lend_15 = true := by decide +kernel
def bX9_lend_36 : List AI := [(.bipush (-3), [], []), (.ireturn, [0], [])]
theorem kX9_lend_36 : chL mX9_lend 36 bX9_lend_36 = true := by decide +kernel
def bX9_lend_39 : List AI := [(.aload_n 0, [], []), (.getfield 12, [2, 9, 0, 455], []), (.getfield 105, [2, 8, 6, 218], []), (.iload_n 2, [], []), (.aaload, [0], []), (.getfield 114, [0, 2, 1, 136], []), (.iload_n 3, [], []), (.iadd, [], []), (.sipush 999, [], []), (.if_icmp .le 6, [62], []), (.bipush (-4), [], []), (.ireturn, [0], [])]
theorem kX9_lend_39 : chL mX9_lend 39 bX9_lend_39 = true := by decide +kernel
def bX9_lend_62 : List AI := [(.aload_n 0, [], []), (.getfield 12, [2, 9, 0, 455], []), (.iload_n 1, [], []), (.iload_n 2, [], []), (.iload_n 3, [], []), (.invokevirtual 305, [0, 3, 0, 0, 8, 1001, 998, 999, 1000, 91], [mX8_giveFlour]), (.ireturn, [0], [])]
theorem kX9_lend_62 : chL mX9_lend 62 bX9_lend_62 = true := by decide +kernel
def bX9_owed_0 : List AI := [(.aload_n 0, [], []), (.getfield 12, [2, 9, 0, 455], []), (.iload_n 1, [], []), (.invokevirtual 101, [0, 1, 0, 0, 8, 648, 645, 646, 647, 91], [mX8_hasFamily]), (.ifCond .eq 14, [22], []), (.aload_n 0, [], []), (.getfield 12, [2, 9, 0, 455], []), (.iload_n 2, [], []), (.invokevirtual 101, [0, 1, 0, 0, 8, 648, 645, 646, 647, 91], [mX8_hasFamily]), (.ifCond .ne 6, [25], []), (.nop, [22], [])]
theorem kX9_owed_0 : chL mX9_owed 0 bX9_owed_0 = true := by decide +kernel
def bX9_owed_22 : List AI := [(.bipush (-2), [], []), (.ireturn, [0], [])]
theorem kX9_owed_22 : chL mX9_owed 22 bX9_owed_22 = true := by decide +kernel
def bX9_owed_25 : List AI := [(.aload_n 0, [], []), (.getfield 12, [2, 9, 0, 455], []), (.getfield 105, [2, 8, 6, 218], []), (.iload_n 1, [], []), (.aaload, [0], []), (.getfield 309, [2, 2, 8, 166], []), (.iload_n 2, [], []), (.iaload, [0], []), (.ireturn, [0], [])]
theorem kX9_owed_25 : chL mX9_owed 25 bX9_owed_25 = true := by decide +kernel
def bX9_ring_0 : List AI := [(.aload_n 0, [], []), (.getfield 65, [2, 9, 9, 464], []), (.aload_n 0, [], []), (.getfield 12, [2, 9, 0, 455], []), (.invokevirtual 312, [0, 1, 0, 0, 1, 1014, 1011, 1012, 1013, 98], [mX1_findRing]), (.aload_n 0, [], []), (.getfield 65, [2, 9, 9, 464], []), (.getfield 315, [0, 1, 0, 401], []), (.ifCond .ne 5, [23], []), (.iconst (-1), [], []), (.ireturn, [0], [])]
theorem kX9_ring_0 : chL mX9_ring 0 bX9_ring_0 = true := by decide +kernel
def bX9_ring_23 : List AI := [(.iload_n 1, [], []), (.iconst (-1), [], []), (.if_icmp .ne 11, [36], []), (.aload_n 0, [], []), (.getfield 65, [2, 9, 9, 464], []), (.getfield 315, [0, 1, 0, 401], []), (.ireturn, [0], [])]
theorem kX9_ring_23 : chL mX9_ring 23 bX9_ring_23 = true := by decide +kernel
def bX9_ring_36 : List AI := [(.iload_n 1, [], []), (.ifCond .lt 14, [51], []), (.iload_n 1, [], []), (.aload_n 0, [], []), (.getfield 65, [2, 9, 9, 464], []), (.getfield 315, [0, 1, 0, 401], []), (.if_icmp .lt 7, [55], []), (.nop, [51], [])]
theorem kX9_ring_36 : chL mX9_ring 36 bX9_ring_36 = true := by decide +kernel
def bX9_ring_51 : List AI := [(.iconst (-1), [], []), (.goto 12, [64], [])]
theorem kX9_ring_51 : chL mX9_ring 51 bX9_ring_51 = true := by decide +kernel
def bX9_ring_55 : List AI := [(.aload_n 0, [], []), (.getfield 65, [2, 9, 9, 464], []), (.getfield 316, [2, 1, 1, 403], []), (.iload_n 1, [], []), (.iaload, [0], []), (.nop, [64], [])]
theorem kX9_ring_55 : chL mX9_ring 55 bX9_ring_55 = true := by decide +kernel
def bX9_ring_64 : List AI := [(.ireturn, [0], [])]
theorem kX9_ring_64 : chL mX9_ring 64 bX9_ring_64 = true := by decide +kernel
def bX9_clear_0 : List AI := [(.aload_n 0, [], []), (.getfield 65, [2, 9, 9, 464], []), (.aload_n 0, [], []), (.getfield 12, [2, 9, 0, 455], []), (.invokevirtual 319, [0, 1, 0, 0, 1, 1041, 1038, 1039, 1040, 98], [mX1_clearRings]), (.ireturn, [0], [])]
theorem kX9_clear_0 : chL mX9_clear 0 bX9_clear_0 = true := by decide +kernel
def bX9_payments_0 : List AI := [(.aload_n 0, [], []), (.getfield 65, [2, 9, 9, 464], []), (.aload_n 0, [], []), (.getfield 12, [2, 9, 0, 455], []), (.invokevirtual 323, [0, 1, 0, 0, 1, 1062, 1059, 1060, 1061, 98], [mX1_fewestPayments]), (.ireturn, [0], [])]
theorem kX9_payments_0 : chL mX9_payments 0 bX9_payments_0 = true := by decide +kernel
def bX9_ahead_0 : List AI := [(.iload_n 2, [], []), (.bipush 10, [], []), (.if_icmp .lt 13, [16], []), (.iload_n 2, [], []), (.bipush 17, [], []), (.if_icmp .ge 7, [16], []), (.iconst 1, [], []), (.goto 4, [17], [])]
theorem kX9_ahead_0 : chL mX9_ahead 0 bX9_ahead_0 = true := by decide +kernel
def bX9_ahead_16 : List AI := [(.iconst 0, [], []), (.nop, [17], [])]
theorem kX9_ahead_16 : chL mX9_ahead 16 bX9_ahead_16 = true := by decide +kernel
def bX9_ahead_17 : List AI := [(.istore_n 3, [], []), (.iload_n 3, [], []), (.ifCond .ne 15, [34], []), (.iload_n 2, [], []), (.ifCond .lt 8, [31], []), (.iload_n 2, [], []), (.iconst 2, [], []), (.if_icmp .le 6, [34], []), (.nop, [31], [])]
theorem kX9_ahead_17 : chL mX9_ahead 17 bX9_ahead_17 = true := by decide +kernel
def bX9_ahead_31 : List AI := [(.bipush (-2), [], []), (.ireturn, [0], [])]
theorem kX9_ahead_31 : chL mX9_ahead 31 bX9_ahead_31 = true := by decide +kernel
def bX9_ahead_34 : List AI := [(.iload_n 1, [], []), (.iconst 1, [], []), (.if_icmp .lt 9, [45], []), (.iload_n 1, [], []), (.bipush 7, [], []), (.if_icmp .le 6, [48], []), (.nop, [45], [])]
theorem kX9_ahead_34 : chL mX9_ahead 34 bX9_ahead_34 = true := by decide +kernel
def bX9_ahead_45 : List AI := [(.bipush (-3), [], []), (.ireturn, [0], [])]
theorem kX9_ahead_45 : chL mX9_ahead 45 bX9_ahead_45 = true := by decide +kernel
def bX9_ahead_48 : List AI := [(.aload_n 0, [], []), (.getfield 12, [2, 9, 0, 455], []), (.getfield 326, [0, 8, 1, 199], []), (.ifCond .ne 6, [61], []), (.bipush (-5), [], []), (.ireturn, [0], [])]
theorem kX9_ahead_48 : chL mX9_ahead 48 bX9_ahead_48 = true := by decide +kernel
def bX9_ahead_61 : List AI := [(.iload_n 3, [], []), (.ifCond .eq 13, [75], []), (.iload_n 2, [], []), (.bipush 10, [], []), (.isub, [], []), (.iload_n 1, [], []), (.if_icmp .lt 5, [75], []), (.iconst (-1), [], []), (.ireturn, [0], [])]
theorem kX9_ahead_61 : chL mX9_ahead 61 bX9_ahead_61 = true := by decide +kernel
def bX9_ahead_75 : List AI := [(.aload_n 0, [], []), (.getfield 72, [2, 9, 10, 465], []), (.aload_n 0, [], []), (.getfield 12, [2, 9, 0, 455], []), (.iload_n 1, [], []), (.iconst 1, [], []), (.invokevirtual 329, [0, 3, 0, 0, 4, 1076, 1073, 1074, 1075, 99], [mX4_look]), (.iload_n 2, [], []), (.tableswitch 51 0 2 #[27, 35, 43], [140, 116, 124, 132], [])]
theorem kX9_ahead_75 : chL mX9_ahead 75 bX9_ahead_75 = true := by decide +kernel
def bX9_ahead_116 : List AI := [(.aload_n 0, [], []), (.getfield 72, [2, 9, 10, 465], []), (.invokevirtual 333, [0, 0, 0, 0, 4, 1099, 1096, 1097, 1098, 99], [mX4_leastHunger]), (.ireturn, [0], [])]
theorem kX9_ahead_116 : chL mX9_ahead 116 bX9_ahead_116 = true := by decide +kernel
def bX9_ahead_124 : List AI := [(.aload_n 0, [], []), (.getfield 72, [2, 9, 10, 465], []), (.invokevirtual 336, [0, 0, 0, 0, 4, 1103, 1100, 1101, 1102, 99], [mX4_leastStale]), (.ireturn, [0], [])]
theorem kX9_ahead_124 : chL mX9_ahead 124 bX9_ahead_124 = true := by decide +kernel
def bX9_ahead_132 : List AI := [(.aload_n 0, [], []), (.getfield 72, [2, 9, 10, 465], []), (.invokevirtual 339, [0, 0, 0, 0, 4, 1107, 1104, 1105, 1106, 99], [mX4_fewestFires]), (.ireturn, [0], [])]
theorem kX9_ahead_132 : chL mX9_ahead 132 bX9_ahead_132 = true := by decide +kernel
def bX9_ahead_140 : List AI := [(.aload_n 0, [], []), (.getfield 72, [2, 9, 10, 465], []), (.getfield 341, [2, 4, 0, 430], []), (.iload_n 2, [], []), (.bipush 10, [], []), (.isub, [], []), (.iaload, [0], []), (.ireturn, [0], [])]
theorem kX9_ahead_140 : chL mX9_ahead 140 bX9_ahead_140 = true := by decide +kernel
def bX9_enough_0 : List AI := [(.iload_n 1, [], []), (.iconst 1, [], []), (.if_icmp .lt 9, [11], []), (.iload_n 1, [], []), (.bipush 7, [], []), (.if_icmp .le 6, [14], []), (.nop, [11], [])]
theorem kX9_enough_0 : chL mX9_enough 0 bX9_enough_0 = true := by decide +kernel
def bX9_enough_11 : List AI := [(.bipush (-3), [], []), (.ireturn, [0], [])]
theorem kX9_enough_11 : chL mX9_enough 11 bX9_enough_11 = true := by decide +kernel
def bX9_enough_14 : List AI := [(.aload_n 0, [], []), (.getfield 12, [2, 9, 0, 455], []), (.getfield 326, [0, 8, 1, 199], []), (.ifCond .ne 6, [27], []), (.bipush (-5), [], []), (.ireturn, [0], [])]
theorem kX9_enough_14 : chL mX9_enough 14 bX9_enough_14 = true := by decide +kernel
def bX9_enough_27 : List AI := [(.aload_n 0, [], []), (.getfield 72, [2, 9, 10, 465], []), (.aload_n 0, [], []), (.getfield 12, [2, 9, 0, 455], []), (.iload_n 1, [], []), (.iconst 0, [], []), (.invokevirtual 329, [0, 3, 0, 0, 4, 1076, 1073, 1074, 1075, 99], [mX4_look]), (.aload_n 0, [], []), (.getfield 72, [2, 9, 10, 465], []), (.invokevirtual 333, [0, 0, 0, 0, 4, 1099, 1096, 1097, 1098, 99], [mX4_leastHunger]), (.ifCond .le 7, [54], []), (.iconst (-1), [], []), (.goto 10, [61], [])]
theorem kX9_enough_27 : chL mX9_enough 27 bX9_enough_27 = true := by decide +kernel
def bX9_enough_54 : List AI := [(.aload_n 0, [], []), (.getfield 72, [2, 9, 10, 465], []), (.invokevirtual 339, [0, 0, 0, 0, 4, 1107, 1104, 1105, 1106, 99], [mX4_fewestFires]), (.nop, [61], [])]
theorem kX9_enough_54 : chL mX9_enough 54 bX9_enough_54 = true := by decide +kernel
def bX9_enough_61 : List AI := [(.ireturn, [0], [])]
theorem kX9_enough_61 : chL mX9_enough 61 bX9_enough_61 = true := by decide +kernel
def bX9_marry_0 : List AI := [(.aload_n 0, [], []), (.getfield 12, [2, 9, 0, 455], []), (.iload_n 1, [], []), (.iload_n 2, [], []), (.invokevirtual 157, [0, 2, 0, 0, 8, 684, 681, 682, 683, 91], [mX8_hasPair]), (.ifCond .ne 6, [15], []), (.bipush (-2), [], []), (.ireturn, [0], [])]
theorem kX9_marry_0 : chL mX9_marry 0 bX9_marry_0 = true := by decide +kernel
def bX9_marry_15 : List AI := [(.aload_n 0, [], []), (.getfield 12, [2, 9, 0, 455], []), (.getfield 105, [2, 8, 6, 218], []), (.iload_n 1, [], []), (.aaload, [0], []), (.getfield 154, [0, 2, 6, 155], []), (.iload_n 2, [], []), (.ishr, [], []), (.iconst 1, [], []), (.iand, [], []), (.ifCond .eq 6, [37], []), (.bipush (-5), [], []), (.ireturn, [0], [])]
theorem kX9_marry_15 : chL mX9_marry 15 bX9_marry_15 = true := by decide +kernel
def bX9_marry_37 : List AI := [(.aload_n 0, [], []), (.getfield 12, [2, 9, 0, 455], []), (.iload_n 1, [], []), (.iload_n 2, [], []), (.invokestatic 161, [4, 694, 506, 101, 507], []), (.iload_n 1, [], []), (.iload_n 2, [], []), (.invokestatic 344, [5, 1117, 509, 101, 510], []), (.invokevirtual 347, [0, 2, 0, 0, 8, 1121, 1118, 1119, 1120, 91], [mX8_unite]), (.aload_n 0, [], []), (.getfield 12, [2, 9, 0, 455], []), (.getfield 177, [0, 8, 0, 193], []), (.ireturn, [0], [])]
theorem kX9_marry_37 : chL mX9_marry 37 bX9_marry_37 = true := by decide +kernel
def bX9_isRow_0 : List AI := [(.iload_n 0, [], []), (.ifCond .lt 12, [13], []), (.iload_n 0, [], []), (.iconst 4, [], []), (.if_icmp .ge 7, [13], []), (.iconst 1, [], []), (.goto 4, [14], [])]
theorem kX9_isRow_0 : chL mX9_isRow 0 bX9_isRow_0 = true := by decide +kernel
def bX9_isRow_13 : List AI := [(.iconst 0, [], []), (.nop, [14], [])]
theorem kX9_isRow_13 : chL mX9_isRow 13 bX9_isRow_13 = true := by decide +kernel
def bX9_isRow_14 : List AI := [(.ireturn, [1], [])]
theorem kX9_isRow_14 : chL mX9_isRow 14 bX9_isRow_14 = true := by decide +kernel
def bX9_isImage_0 : List AI := [(.iload_n 0, [], []), (.ifCond .lt 12, [13], []), (.iload_n 0, [], []), (.iconst 2, [], []), (.if_icmp .ge 7, [13], []), (.iconst 1, [], []), (.goto 4, [14], [])]
theorem kX9_isImage_0 : chL mX9_isImage 0 bX9_isImage_0 = true := by decide +kernel
def bX9_isImage_13 : List AI := [(.iconst 0, [], []), (.nop, [14], [])]
theorem kX9_isImage_13 : chL mX9_isImage 13 bX9_isImage_13 = true := by decide +kernel
def bX9_isImage_14 : List AI := [(.ireturn, [1], [])]
theorem kX9_isImage_14 : chL mX9_isImage 14 bX9_isImage_14 = true := by decide +kernel
def bX9_numbers_0 : List AI := [(.iload_n 1, [], []), (.invokestatic 167, [0, 1, 0, 0, 701, 699, 700, 90], [mX9_isRow]), (.ifCond .eq 12, [16], []), (.iload_n 2, [], []), (.ifCond .lt 8, [16], []), (.iload_n 2, [], []), (.iconst 4, [], []), (.if_icmp .lt 6, [19], []), (.nop, [16], [])]
theorem kX9_numbers_0 : chL mX9_numbers 0 bX9_numbers_0 = true := by decide +kernel
def bX9_numbers_16 : List AI := [(.bipush (-2), [], []), (.ireturn, [0], [])]
theorem kX9_numbers_16 : chL mX9_numbers 16 bX9_numbers_16 = true := by decide +kernel
def bX9_numbers_19 : List AI := [(.iload_n 3, [], []), (.ifCond .lt 9, [29], []), (.iload_n 3, [], []), (.bipush 40, [], []), (.if_icmp .le 6, [32], []), (.nop, [29], [])]
theorem kX9_numbers_19 : chL mX9_numbers 19 bX9_numbers_19 = true := by decide +kernel
def bX9_numbers_29 : List AI := [(.bipush (-3), [], []), (.ireturn, [0], [])]
theorem kX9_numbers_29 : chL mX9_numbers 29 bX9_numbers_29 = true := by decide +kernel
def bX9_numbers_32 : List AI := [(.aload_n 0, [], []), (.getfield 29, [2, 9, 4, 459], []), (.iload_n 1, [], []), (.aaload, [1], []), (.iload_n 2, [], []), (.iload_n 3, [], []), (.invokevirtual 351, [0, 2, 0, 0, 6, 1137, 1134, 1135, 1136, 93], [mX6_make]), (.iconst 0, [], []), (.ireturn, [0], [])]
theorem kX9_numbers_32 : chL mX9_numbers 32 bX9_numbers_32 = true := by decide +kernel
def bX9_write_0 : List AI := [(.iload_n 1, [], []), (.invokestatic 167, [0, 1, 0, 0, 701, 699, 700, 90], [mX9_isRow]), (.ifCond .ne 7, [11], []), (.ldc2_w 354, [18446744073709551614, 1145], []), (.lreturn, [], [])]
theorem kX9_write_0 : chL mX9_write 0 bX9_write_0 = true := by decide +kernel
def bX9_write_11 : List AI := [(.aload_n 0, [], []), (.getfield 29, [2, 9, 4, 459], []), (.iload_n 1, [], []), (.aaload, [1], []), (.getfield 170, [0, 6, 0, 253], []), (.ifCond .ne 7, [27], []), (.ldc2_w 356, [18446744073709551610, 1146], []), (.lreturn, [], [])]
theorem kX9_write_11 : chL mX9_write 11 bX9_write_11 = true := by decide +kernel
def bX9_write_27 : List AI := [(.iload_n 2, [], []), (.ifCond .lt 16, [44], []), (.iload_n 2, [], []), (.aload_n 0, [], []), (.getfield 29, [2, 9, 4, 459], []), (.iload_n 1, [], []), (.aaload, [1], []), (.getfield 174, [0, 6, 2, 257], []), (.if_icmp .lt 7, [48], []), (.nop, [44], [])]
theorem kX9_write_27 : chL mX9_write 27 bX9_write_27 = true := by decide +kernel
def bX9_write_44 : List AI := [(.ldc2_w 358, [18446744073709551609, 1147], []), (.lreturn, [], [])]
theorem kX9_write_44 : chL mX9_write 44 bX9_write_44 = true := by decide +kernel
def bX9_write_48 : List AI := [(.aload_n 0, [], []), (.getfield 29, [2, 9, 4, 459], []), (.iload_n 1, [], []), (.aaload, [1], []), (.iload_n 2, [], []), (.lload_n 3, [], []), (.invokevirtual 360, [0, 2, 0, 0, 6, 1151, 1148, 1149, 1150, 93], [mX6_put]), (.lreturn, [], [])]
theorem kX9_write_48 : chL mX9_write 48 bX9_write_48 = true := by decide +kernel
def bX9_copy_0 : List AI := [(.iload_n 1, [], []), (.invokestatic 167, [0, 1, 0, 0, 701, 699, 700, 90], [mX9_isRow]), (.ifCond .ne 6, [10], []), (.bipush (-2), [], []), (.ireturn, [0], [])]
theorem kX9_copy_0 : chL mX9_copy 0 bX9_copy_0 = true := by decide +kernel
def bX9_copy_10 : List AI := [(.aload_n 0, [], []), (.getfield 29, [2, 9, 4, 459], []), (.iload_n 1, [], []), (.aaload, [1], []), (.getfield 170, [0, 6, 0, 253], []), (.ifCond .ne 6, [25], []), (.bipush (-6), [], []), (.ireturn, [0], [])]
theorem kX9_copy_10 : chL mX9_copy 10 bX9_copy_10 = true := by decide +kernel
def bX9_copy_25 : List AI := [(.aload_n 0, [], []), (.getfield 29, [2, 9, 4, 459], []), (.iload_n 1, [], []), (.aaload, [1], []), (.getfield 174, [0, 6, 2, 257], []), (.aload_n 0, [], []), (.getfield 12, [2, 9, 0, 455], []), (.getfield 177, [0, 8, 0, 193], []), (.if_icmp .ge 6, [47], []), (.bipush (-7), [], []), (.ireturn, [0], [])]
theorem kX9_copy_25 : chL mX9_copy 25 bX9_copy_25 = true := by decide +kernel
def bX9_copy_47 : List AI := [(.iconst 0, [], []), (.istore_n 2, [], []), (.nop, [49], [])]
theorem kX9_copy_47 : chL mX9_copy 47 bX9_copy_47 = true := by decide +kernel
def bX9_copy_49 : List AI := [(.iload_n 2, [], []), (.aload_n 0, [], []), (.getfield 12, [2, 9, 0, 455], []), (.getfield 177, [0, 8, 0, 193], []), (.if_icmp .ge 33, [90], []), (.aload_n 0, [], []), (.getfield 29, [2, 9, 4, 459], []), (.iload_n 1, [], []), (.aaload, [1], []), (.iload_n 2, [], []), (.aload_n 0, [], []), (.getfield 12, [2, 9, 0, 455], []), (.getfield 105, [2, 8, 6, 218], []), (.iload_n 2, [], []), (.aaload, [0], []), (.getfield 121, [0, 2, 2, 141], []), (.i2l, [], []), (.invokevirtual 360, [0, 2, 0, 0, 6, 1151, 1148, 1149, 1150, 93], [mX6_put]), (.pop2, [1], []), (.iinc 2 1, [], []), (.goto (-38), [49], [])]
theorem kX9_copy_49 : chL mX9_copy 49 bX9_copy_49 = true := by decide +kernel
def bX9_copy_90 : List AI := [(.aload_n 0, [], []), (.getfield 12, [2, 9, 0, 455], []), (.getfield 177, [0, 8, 0, 193], []), (.ireturn, [0], [])]
theorem kX9_copy_90 : chL mX9_copy 90 bX9_copy_90 = true := by decide +kernel
def bX9_image_0 : List AI := [(.iload_n 1, [], []), (.invokestatic 364, [0, 1, 0, 0, 1166, 1164, 1165, 90], [mX9_isImage]), (.ifCond .ne 6, [10], []), (.bipush (-2), [], []), (.ireturn, [0], [])]
theorem kX9_image_0 : chL mX9_image 0 bX9_image_0 = true := by decide +kernel
def bX9_image_10 : List AI := [(.aload_n 0, [], []), (.getfield 19, [2, 9, 2, 457], []), (.iload_n 1, [], []), (.aaload, [2], []), (.aload_n 0, [], []), (.getfield 12, [2, 9, 0, 455], []), (.invokevirtual 91, [0, 1, 0, 0, 8, 628, 625, 626, 627, 91], [mX8_become]), (.aload_n 0, [], []), (.getfield 23, [2, 9, 3, 458], []), (.iload_n 1, [], []), (.iconst 1, [], []), (.bastore, [4], []), (.iconst 0, [], []), (.ireturn, [0], [])]
theorem kX9_image_10 : chL mX9_image 10 bX9_image_10 = true := by decide +kernel
def bX9_restore_0 : List AI := [(.iload_n 1, [], []), (.invokestatic 364, [0, 1, 0, 0, 1166, 1164, 1165, 90], [mX9_isImage]), (.ifCond .ne 6, [10], []), (.bipush (-2), [], []), (.ireturn, [0], [])]
theorem kX9_restore_0 : chL mX9_restore 0 bX9_restore_0 = true := by decide +kernel
def bX9_restore_10 : List AI := [(.aload_n 0, [], []), (.getfield 23, [2, 9, 3, 458], []), (.iload_n 1, [], []), (.baload, [4], []), (.ifCond .ne 6, [22], []), (.bipush (-5), [], []), (.ireturn, [0], [])]
theorem kX9_restore_10 : chL mX9_restore 10 bX9_restore_10 = true := by decide +kernel
def bX9_restore_22 : List AI := [(.aload_n 0, [], []), (.getfield 12, [2, 9, 0, 455], []), (.aload_n 0, [], []), (.getfield 19, [2, 9, 2, 457], []), (.iload_n 1, [], []), (.aaload, [2], []), (.invokevirtual 91, [0, 1, 0, 0, 8, 628, 625, 626, 627, 91], [mX8_become]), (.iconst 0, [], []), (.ireturn, [0], [])]
theorem kX9_restore_22 : chL mX9_restore 22 bX9_restore_22 = true := by decide +kernel
def bX9_count_0 : List AI := [(.iload_n 1, [], []), (.tableswitch 123 0 12 #[67, 75, 83, 91, 99, 123, 123, 123, 123, 123, 123, 107, 115], [124, 68, 76, 84, 92, 100, 124, 124, 124, 124, 124, 124, 108, 116], [])]
theorem kX9_count_0 : chL mX9_count 0 bX9_count_0 = true := by decide +kernel
def bX9_count_68 : List AI := [(.aload_n 0, [], []), (.getfield 12, [2, 9, 0, 455], []), (.getfield 177, [0, 8, 0, 193], []), (.ireturn, [0], [])]
theorem kX9_count_68 : chL mX9_count 68 bX9_count_68 = true := by decide +kernel
def bX9_count_76 : List AI := [(.aload_n 0, [], []), (.getfield 12, [2, 9, 0, 455], []), (.getfield 326, [0, 8, 1, 199], []), (.ireturn, [0], [])]
theorem kX9_count_76 : chL mX9_count 76 bX9_count_76 = true := by decide +kernel
def bX9_count_84 : List AI := [(.aload_n 0, [], []), (.getfield 12, [2, 9, 0, 455], []), (.getfield 204, [0, 8, 4, 209], []), (.ireturn, [0], [])]
theorem kX9_count_84 : chL mX9_count 84 bX9_count_84 = true := by decide +kernel
def bX9_count_92 : List AI := [(.aload_n 0, [], []), (.getfield 12, [2, 9, 0, 455], []), (.getfield 141, [0, 8, 2, 203], []), (.ireturn, [0], [])]
theorem kX9_count_92 : chL mX9_count 92 bX9_count_92 = true := by decide +kernel
def bX9_count_100 : List AI := [(.aload_n 0, [], []), (.getfield 12, [2, 9, 0, 455], []), (.getfield 367, [0, 8, 3, 207], []), (.ireturn, [0], [])]
theorem kX9_count_100 : chL mX9_count 100 bX9_count_100 = true := by decide +kernel
def bX9_count_108 : List AI := [(.aload_n 0, [], []), (.getfield 37, [2, 9, 5, 460], []), (.getfield 76, [0, 5, 0, 277], []), (.ireturn, [0], [])]
theorem kX9_count_108 : chL mX9_count 108 bX9_count_108 = true := by decide +kernel
def bX9_count_116 : List AI := [(.aload_n 0, [], []), (.getfield 12, [2, 9, 0, 455], []), (.getfield 95, [0, 8, 5, 211], []), (.ireturn, [0], [])]
theorem kX9_count_116 : chL mX9_count 116 bX9_count_116 = true := by decide +kernel
def bX9_count_124 : List AI := [(.aload_n 0, [], []), (.iload_n 1, [], []), (.invokevirtual 370, [0, 1, 0, 0, 9, 1178, 1175, 1177, 36, 90], [mX9_countOfAll]), (.ireturn, [0], [])]
theorem kX9_count_124 : chL mX9_count 124 bX9_count_124 = true := by decide +kernel
def bX9_countOfAll_0 : List AI := [(.iload_n 1, [], []), (.iconst 5, [], []), (.if_icmp .lt 9, [11], []), (.iload_n 1, [], []), (.bipush 13, [], []), (.if_icmp .le 5, [13], []), (.nop, [11], [])]
theorem kX9_countOfAll_0 : chL mX9_countOfAll 0 bX9_countOfAll_0 = true := by decide +kernel
def bX9_countOfAll_11 : List AI := [(.iconst (-1), [], []), (.ireturn, [0], [])]
theorem kX9_countOfAll_11 : chL mX9_countOfAll 11 bX9_countOfAll_11 = true := by decide +kernel
def bX9_countOfAll_13 : List AI := [(.iconst 0, [], []), (.istore_n 2, [], []), (.iconst 0, [], []), (.istore_n 3, [], []), (.nop, [17], [])]
theorem kX9_countOfAll_13 : chL mX9_countOfAll 13 bX9_countOfAll_13 = true := by decide +kernel
def bX9_countOfAll_17 : List AI := [(.iload_n 3, [], []), (.aload_n 0, [], []), (.getfield 12, [2, 9, 0, 455], []), (.getfield 177, [0, 8, 0, 193], []), (.if_icmp .ge 25, [50], []), (.iload_n 2, [], []), (.aload_n 0, [], []), (.getfield 12, [2, 9, 0, 455], []), (.getfield 105, [2, 8, 6, 218], []), (.iload_n 3, [], []), (.aaload, [0], []), (.iload_n 1, [], []), (.invokestatic 373, [0, 2, 0, 0, 1181, 1179, 1180, 90], [mX9_countOfOne]), (.iadd, [], []), (.istore_n 2, [], []), (.iinc 3 1, [], []), (.goto (-30), [17], [])]
theorem kX9_countOfAll_17 : chL mX9_countOfAll 17 bX9_countOfAll_17 = true := by decide +kernel
def bX9_countOfAll_50 : List AI := [(.iload_n 2, [], []), (.ireturn, [0], [])]
theorem kX9_countOfAll_50 : chL mX9_countOfAll 50 bX9_countOfAll_50 = true := by decide +kernel
def bX9_countOfOne_0 : List AI := [(.iload_n 1, [], []), (.tableswitch 69 5 10 #[39, 44, 49, 54, 59, 64], [70, 40, 45, 50, 55, 60, 65], [])]
theorem kX9_countOfOne_0 : chL mX9_countOfOne 0 bX9_countOfOne_0 = true := by decide +kernel
def bX9_countOfOne_40 : List AI := [(.aload_n 0, [], []), (.getfield 114, [0, 2, 1, 136], []), (.ireturn, [0], [])]
theorem kX9_countOfOne_40 : chL mX9_countOfOne 40 bX9_countOfOne_40 = true := by decide +kernel
def bX9_countOfOne_45 : List AI := [(.aload_n 0, [], []), (.invokevirtual 117, [0, 0, 0, 0, 2, 652, 649, 650, 651, 92], [mX2_allBread]), (.ireturn, [0], [])]
theorem kX9_countOfOne_45 : chL mX9_countOfOne 45 bX9_countOfOne_45 = true := by decide +kernel
def bX9_countOfOne_50 : List AI := [(.aload_n 0, [], []), (.getfield 121, [0, 2, 2, 141], []), (.ireturn, [0], [])]
theorem kX9_countOfOne_50 : chL mX9_countOfOne 50 bX9_countOfOne_50 = true := by decide +kernel
def bX9_countOfOne_55 : List AI := [(.aload_n 0, [], []), (.getfield 127, [0, 2, 4, 148], []), (.ireturn, [0], [])]
theorem kX9_countOfOne_55 : chL mX9_countOfOne 55 bX9_countOfOne_55 = true := by decide +kernel
def bX9_countOfOne_60 : List AI := [(.aload_n 0, [], []), (.getfield 130, [0, 2, 5, 151], []), (.ireturn, [0], [])]
theorem kX9_countOfOne_60 : chL mX9_countOfOne 60 bX9_countOfOne_60 = true := by decide +kernel
def bX9_countOfOne_65 : List AI := [(.aload_n 0, [], []), (.getfield 109, [0, 2, 0, 132], []), (.ireturn, [0], [])]
theorem kX9_countOfOne_65 : chL mX9_countOfOne 65 bX9_countOfOne_65 = true := by decide +kernel
def bX9_countOfOne_70 : List AI := [(.aload_n 0, [], []), (.invokevirtual 376, [0, 0, 0, 0, 2, 660, 1182, 658, 659, 92], [mX2_allOwed]), (.ireturn, [0], [])]
theorem kX9_countOfOne_70 : chL mX9_countOfOne 70 bX9_countOfOne_70 = true := by decide +kernel
def bL_law_0 : List AI := [(.new 7, [9, 109, 110, 90], []), (.dup, [], []), (.invokespecial 9, [0, 0, 189, 10628, 113, 111, 112, 90], [mX9_init]), (.astore_n 1, [], []), (.new 10, [10, 1183, 1184, 100], []), (.dup, [], []), (.invokespecial 12, [0, 0, 22, 14830, 1187, 1185, 1186, 100], [mX10_init]), (.astore_n 2, [], []), (.iconst 0, [], []), (.istore_n 3, [], []), (.nop, [18], [])]
theorem kL_law_0 : chL mL_law 0 bL_law_0 = true := by decide +kernel
def bL_law_18 : List AI := [(.iload_n 3, [], []), (.aload_n 0, [], []), (.arraylength, [1], []), (.bipush 6, [], []), (.isub, [], []), (.if_icmp .gt 1459, [1483], []), (.aload_n 0, [], []), (.iload_n 3, [], []), (.iaload, [9], []), (.bipush 63, [], []), (.iand, [], []), (.tableswitch 1444 0 43 #[191, 254, 277, 300, 333, 356, 389, 422, 455, 488, 521, 554, 587, 610, 623, 656, 679, 702, 725, 748, 761, 784, 817, 840, 863, 876, 899, 932, 965, 998, 1021, 1064, 1097, 1120, 1133, 1146, 1179, 1202, 1235, 1278, 1352, 1375, 1398, 1421], [1477, 224, 287, 310, 333, 366, 389, 422, 455, 488, 521, 554, 587, 620, 643, 656, 689, 712, 735, 758, 781, 794, 817, 850, 873, 896, 909, 932, 965, 998, 1031, 1054, 1097, 1130, 1153, 1166, 1179, 1212, 1235, 1268, 1311, 1385, 1408, 1431, 1454], [])]
theorem kL_law_18 : chL mL_law 18 bL_law_18 = true := by decide +kernel
def bL_law_224 : List AI := [(.aload_n 1, [], []), (.aload_n 0, [], []), (.iload_n 3, [], []), (.iconst 1, [], []), (.iadd, [], []), (.iaload, [9], []), (.aload_n 0, [], []), (.iload_n 3, [], []), (.iconst 2, [], []), (.iadd, [], []), (.iaload, [9], []), (.aload_n 0, [], []), (.iload_n 3, [], []), (.iconst 3, [], []), (.iadd, [], []), (.iaload, [9], []), (.aload_n 0, [], []), (.iload_n 3, [], []), (.iconst 4, [], []), (.iadd, [], []), (.iaload, [9], []), (.aload_n 0, [], []), (.iload_n 3, [], []), (.iconst 5, [], []), (.iadd, [], []), (.iaload, [9], []), (.invokevirtual 13, [0, 5, 0, 0, 9, 492, 489, 490, 491, 90], [mX9_feed]), (.aload_n 2, [], []), (.aload_n 0, [], []), (.iload_n 3, [], []), (.iconst 1, [], []), (.iadd, [], []), (.iaload, [9], []), (.aload_n 0, [], []), (.iload_n 3, [], []), (.iconst 2, [], []), (.iadd, [], []), (.iaload, [9], []), (.aload_n 0, [], []), (.iload_n 3, [], []), (.iconst 3, [], []), (.iadd, [], []), (.iaload, [9], []), (.aload_n 0, [], []), (.iload_n 3, [], []), (.iconst 4, [], []), (.iadd, [], []), (.iaload, [9], []), (.aload_n 0, [], []), (.iload_n 3, [], []), (.iconst 5, [], []), (.iadd, [], []), (.iaload, [9], []), (.invokevirtual 17, [0, 5, 0, 0, 10, 1325, 1322, 1323, 1324, 100], [mX10_feed]), (.if_icmp .eq 1195, [1477], []), (.iconst 0, [], []), (.ireturn, [1], [])]
theorem kL_law_224 : chL mL_law 224 bL_law_224 = true := by decide +kernel
def bL_law_287 : List AI := [(.aload_n 1, [], []), (.aload_n 0, [], []), (.iload_n 3, [], []), (.iconst 1, [], []), (.iadd, [], []), (.iaload, [9], []), (.invokevirtual 18, [0, 1, 0, 0, 9, 500, 497, 498, 499, 90], [mX9_village]), (.aload_n 2, [], []), (.aload_n 0, [], []), (.iload_n 3, [], []), (.iconst 1, [], []), (.iadd, [], []), (.iaload, [9], []), (.invokevirtual 22, [0, 1, 0, 0, 10, 1329, 1326, 1327, 1328, 100], [mX10_village]), (.if_icmp .eq 1172, [1477], []), (.iconst 0, [], []), (.ireturn, [1], [])]
theorem kL_law_287 : chL mL_law 287 bL_law_287 = true := by decide +kernel
def bL_law_310 : List AI := [(.aload_n 1, [], []), (.aload_n 0, [], []), (.iload_n 3, [], []), (.iconst 1, [], []), (.iadd, [], []), (.iaload, [9], []), (.invokevirtual 23, [0, 1, 0, 0, 9, 640, 637, 638, 639, 90], [mX9_fault]), (.aload_n 2, [], []), (.aload_n 0, [], []), (.iload_n 3, [], []), (.iconst 1, [], []), (.iadd, [], []), (.iaload, [9], []), (.invokevirtual 26, [0, 1, 0, 0, 10, 1397, 1394, 1395, 1396, 100], [mX10_fault]), (.if_icmp .eq 1149, [1477], []), (.iconst 0, [], []), (.ireturn, [1], [])]
theorem kL_law_310 : chL mL_law 310 bL_law_310 = true := by decide +kernel
def bL_law_333 : List AI := [(.aload_n 1, [], []), (.aload_n 0, [], []), (.iload_n 3, [], []), (.iconst 1, [], []), (.iadd, [], []), (.iaload, [9], []), (.aload_n 0, [], []), (.iload_n 3, [], []), (.iconst 2, [], []), (.iadd, [], []), (.iaload, [9], []), (.invokevirtual 27, [0, 2, 0, 0, 9, 644, 641, 642, 643, 90], [mX9_family]), (.aload_n 2, [], []), (.aload_n 0, [], []), (.iload_n 3, [], []), (.iconst 1, [], []), (.iadd, [], []), (.iaload, [9], []), (.aload_n 0, [], []), (.iload_n 3, [], []), (.iconst 2, [], []), (.iadd, [], []), (.iaload, [9], []), (.invokevirtual 31, [0, 2, 0, 0, 10, 1401, 1398, 1399, 1400, 100], [mX10_family]), (.if_icmp .eq 1116, [1477], []), (.iconst 0, [], []), (.ireturn, [1], [])]
theorem kL_law_333 : chL mL_law 333 bL_law_333 = true := by decide +kernel
def bL_law_366 : List AI := [(.aload_n 1, [], []), (.aload_n 0, [], []), (.iload_n 3, [], []), (.iconst 1, [], []), (.iadd, [], []), (.iaload, [9], []), (.invokevirtual 32, [0, 1, 0, 0, 9, 668, 665, 666, 667, 90], [mX9_oven]), (.aload_n 2, [], []), (.aload_n 0, [], []), (.iload_n 3, [], []), (.iconst 1, [], []), (.iadd, [], []), (.iaload, [9], []), (.invokevirtual 35, [0, 1, 0, 0, 10, 1422, 1419, 1420, 1421, 100], [mX10_oven]), (.if_icmp .eq 1093, [1477], []), (.iconst 0, [], []), (.ireturn, [1], [])]
theorem kL_law_366 : chL mL_law 366 bL_law_366 = true := by decide +kernel
def bL_law_389 : List AI := [(.aload_n 1, [], []), (.aload_n 0, [], []), (.iload_n 3, [], []), (.iconst 1, [], []), (.iadd, [], []), (.iaload, [9], []), (.aload_n 0, [], []), (.iload_n 3, [], []), (.iconst 2, [], []), (.iadd, [], []), (.iaload, [9], []), (.invokevirtual 36, [0, 2, 0, 0, 9, 676, 673, 674, 675, 90], [mX9_quarrel]), (.aload_n 2, [], []), (.aload_n 0, [], []), (.iload_n 3, [], []), (.iconst 1, [], []), (.iadd, [], []), (.iaload, [9], []), (.aload_n 0, [], []), (.iload_n 3, [], []), (.iconst 2, [], []), (.iadd, [], []), (.iaload, [9], []), (.invokevirtual 39, [0, 2, 0, 0, 10, 1430, 1427, 1428, 1429, 100], [mX10_quarrel]), (.if_icmp .eq 1060, [1477], []), (.iconst 0, [], []), (.ireturn, [1], [])]
theorem kL_law_389 : chL mL_law 389 bL_law_389 = true := by decide +kernel
def bL_law_422 : List AI := [(.aload_n 1, [], []), (.aload_n 0, [], []), (.iload_n 3, [], []), (.iconst 1, [], []), (.iadd, [], []), (.iaload, [9], []), (.aload_n 0, [], []), (.iload_n 3, [], []), (.iconst 2, [], []), (.iadd, [], []), (.iaload, [9], []), (.invokevirtual 40, [0, 2, 0, 0, 9, 680, 677, 678, 679, 90], [mX9_fallOut]), (.aload_n 2, [], []), (.aload_n 0, [], []), (.iload_n 3, [], []), (.iconst 1, [], []), (.iadd, [], []), (.iaload, [9], []), (.aload_n 0, [], []), (.iload_n 3, [], []), (.iconst 2, [], []), (.iadd, [], []), (.iaload, [9], []), (.invokevirtual 43, [0, 2, 0, 0, 10, 1438, 1435, 1436, 1437, 100], [mX10_fallOut]), (.if_icmp .eq 1027, [1477], []), (.iconst 0, [], []), (.ireturn, [1], [])]
theorem kL_law_422 : chL mL_law 422 bL_law_422 = true := by decide +kernel
def bL_law_455 : List AI := [(.aload_n 1, [], []), (.aload_n 0, [], []), (.iload_n 3, [], []), (.iconst 1, [], []), (.iadd, [], []), (.iaload, [9], []), (.aload_n 0, [], []), (.iload_n 3, [], []), (.iconst 2, [], []), (.iadd, [], []), (.iaload, [9], []), (.invokevirtual 44, [0, 2, 0, 0, 9, 689, 686, 687, 688, 90], [mX9_wish]), (.aload_n 2, [], []), (.aload_n 0, [], []), (.iload_n 3, [], []), (.iconst 1, [], []), (.iadd, [], []), (.iaload, [9], []), (.aload_n 0, [], []), (.iload_n 3, [], []), (.iconst 2, [], []), (.iadd, [], []), (.iaload, [9], []), (.invokevirtual 47, [0, 2, 0, 0, 10, 1446, 1443, 1444, 1445, 100], [mX10_wish]), (.if_icmp .eq 994, [1477], []), (.iconst 0, [], []), (.ireturn, [1], [])]
theorem kL_law_455 : chL mL_law 455 bL_law_455 = true := by decide +kernel
def bL_law_488 : List AI := [(.aload_n 1, [], []), (.aload_n 0, [], []), (.iload_n 3, [], []), (.iconst 1, [], []), (.iadd, [], []), (.iaload, [9], []), (.aload_n 0, [], []), (.iload_n 3, [], []), (.iconst 2, [], []), (.iadd, [], []), (.iaload, [9], []), (.invokevirtual 48, [0, 2, 0, 0, 9, 693, 690, 691, 692, 90], [mX9_mill]), (.aload_n 2, [], []), (.aload_n 0, [], []), (.iload_n 3, [], []), (.iconst 1, [], []), (.iadd, [], []), (.iaload, [9], []), (.aload_n 0, [], []), (.iload_n 3, [], []), (.iconst 2, [], []), (.iadd, [], []), (.iaload, [9], []), (.invokevirtual 51, [0, 2, 0, 0, 10, 1450, 1447, 1448, 1449, 100], [mX10_mill]), (.if_icmp .eq 961, [1477], []), (.iconst 0, [], []), (.ireturn, [1], [])]
theorem kL_law_488 : chL mL_law 488 bL_law_488 = true := by decide +kernel
def bL_law_521 : List AI := [(.aload_n 1, [], []), (.aload_n 0, [], []), (.iload_n 3, [], []), (.iconst 1, [], []), (.iadd, [], []), (.iaload, [9], []), (.aload_n 0, [], []), (.iload_n 3, [], []), (.iconst 2, [], []), (.iadd, [], []), (.iaload, [9], []), (.invokevirtual 52, [0, 2, 0, 0, 9, 698, 695, 696, 697, 90], [mX9_fire]), (.aload_n 2, [], []), (.aload_n 0, [], []), (.iload_n 3, [], []), (.iconst 1, [], []), (.iadd, [], []), (.iaload, [9], []), (.aload_n 0, [], []), (.iload_n 3, [], []), (.iconst 2, [], []), (.iadd, [], []), (.iaload, [9], []), (.invokevirtual 55, [0, 2, 0, 0, 10, 1455, 1452, 1453, 1454, 100], [mX10_fire]), (.if_icmp .eq 928, [1477], []), (.iconst 0, [], []), (.ireturn, [1], [])]
theorem kL_law_521 : chL mL_law 521 bL_law_521 = true := by decide +kernel
def bL_law_554 : List AI := [(.aload_n 1, [], []), (.aload_n 0, [], []), (.iload_n 3, [], []), (.iconst 1, [], []), (.iadd, [], []), (.iaload, [9], []), (.aload_n 0, [], []), (.iload_n 3, [], []), (.iconst 2, [], []), (.iadd, [], []), (.iaload, [9], []), (.invokevirtual 56, [0, 2, 0, 0, 9, 722, 719, 720, 721, 90], [mX9_fireWishes]), (.aload_n 2, [], []), (.aload_n 0, [], []), (.iload_n 3, [], []), (.iconst 1, [], []), (.iadd, [], []), (.iaload, [9], []), (.aload_n 0, [], []), (.iload_n 3, [], []), (.iconst 2, [], []), (.iadd, [], []), (.iaload, [9], []), (.invokevirtual 59, [0, 2, 0, 0, 10, 1468, 1465, 1466, 1467, 100], [mX10_fireWishes]), (.if_icmp .eq 895, [1477], []), (.iconst 0, [], []), (.ireturn, [1], [])]
theorem kL_law_554 : chL mL_law 554 bL_law_554 = true := by decide +kernel
def bL_law_587 : List AI := [(.aload_n 1, [], []), (.aload_n 0, [], []), (.iload_n 3, [], []), (.iconst 1, [], []), (.iadd, [], []), (.iaload, [9], []), (.aload_n 0, [], []), (.iload_n 3, [], []), (.iconst 2, [], []), (.iadd, [], []), (.iaload, [9], []), (.invokevirtual 60, [0, 2, 0, 0, 9, 738, 735, 736, 737, 90], [mX9_judge]), (.aload_n 2, [], []), (.aload_n 0, [], []), (.iload_n 3, [], []), (.iconst 1, [], []), (.iadd, [], []), (.iaload, [9], []), (.aload_n 0, [], []), (.iload_n 3, [], []), (.iconst 2, [], []), (.iadd, [], []), (.iaload, [9], []), (.invokevirtual 63, [0, 2, 0, 0, 10, 1487, 1484, 1485, 1486, 100], [mX10_judge]), (.if_icmp .eq 862, [1477], []), (.iconst 0, [], []), (.ireturn, [1], [])]
theorem kL_law_587 : chL mL_law 587 bL_law_587 = true := by decide +kernel
def bL_law_620 : List AI := [(.aload_n 1, [], []), (.aload_n 0, [], []), (.iload_n 3, [], []), (.iconst 1, [], []), (.iadd, [], []), (.iaload, [9], []), (.invokevirtual 64, [0, 1, 0, 0, 9, 753, 750, 751, 752, 90], [mX9_perform]), (.aload_n 2, [], []), (.aload_n 0, [], []), (.iload_n 3, [], []), (.iconst 1, [], []), (.iadd, [], []), (.iaload, [9], []), (.invokevirtual 67, [0, 1, 0, 0, 10, 1505, 1502, 1503, 1504, 100], [mX10_perform]), (.if_icmp .eq 839, [1477], []), (.iconst 0, [], []), (.ireturn, [1], [])]
theorem kL_law_620 : chL mL_law 620 bL_law_620 = true := by decide +kernel
def bL_law_643 : List AI := [(.aload_n 1, [], []), (.invokevirtual 68, [0, 0, 0, 0, 9, 757, 754, 755, 756, 90], [mX9_day]), (.aload_n 2, [], []), (.invokevirtual 72, [0, 0, 0, 0, 10, 1509, 1506, 1507, 1508, 100], [mX10_day]), (.if_icmp .eq 826, [1477], []), (.iconst 0, [], []), (.ireturn, [1], [])]
theorem kL_law_643 : chL mL_law 643 bL_law_643 = true := by decide +kernel
def bL_law_656 : List AI := [(.aload_n 1, [], []), (.aload_n 0, [], []), (.iload_n 3, [], []), (.iconst 1, [], []), (.iadd, [], []), (.iaload, [9], []), (.aload_n 0, [], []), (.iload_n 3, [], []), (.iconst 2, [], []), (.iadd, [], []), (.iaload, [9], []), (.invokevirtual 73, [0, 2, 0, 0, 9, 775, 772, 773, 774, 90], [mX9_drawn]), (.aload_n 2, [], []), (.aload_n 0, [], []), (.iload_n 3, [], []), (.iconst 1, [], []), (.iadd, [], []), (.iaload, [9], []), (.aload_n 0, [], []), (.iload_n 3, [], []), (.iconst 2, [], []), (.iadd, [], []), (.iaload, [9], []), (.invokevirtual 76, [0, 2, 0, 0, 10, 1525, 1522, 1523, 1524, 100], [mX10_drawn]), (.if_icmp .eq 793, [1477], []), (.iconst 0, [], []), (.ireturn, [1], [])]
theorem kL_law_656 : chL mL_law 656 bL_law_656 = true := by decide +kernel
def bL_law_689 : List AI := [(.aload_n 1, [], []), (.aload_n 0, [], []), (.iload_n 3, [], []), (.iconst 1, [], []), (.iadd, [], []), (.iaload, [9], []), (.invokevirtual 77, [0, 1, 0, 0, 9, 787, 784, 785, 786, 90], [mX9_lasts]), (.aload_n 2, [], []), (.aload_n 0, [], []), (.iload_n 3, [], []), (.iconst 1, [], []), (.iadd, [], []), (.iaload, [9], []), (.invokevirtual 80, [0, 1, 0, 0, 10, 1531, 1528, 1529, 1530, 100], [mX10_lasts]), (.if_icmp .eq 770, [1477], []), (.iconst 0, [], []), (.ireturn, [1], [])]
theorem kL_law_689 : chL mL_law 689 bL_law_689 = true := by decide +kernel
def bL_law_712 : List AI := [(.aload_n 1, [], []), (.aload_n 0, [], []), (.iload_n 3, [], []), (.iconst 1, [], []), (.iadd, [], []), (.iaload, [9], []), (.invokevirtual 81, [0, 1, 0, 0, 9, 794, 791, 792, 793, 90], [mX9_canBake]), (.aload_n 2, [], []), (.aload_n 0, [], []), (.iload_n 3, [], []), (.iconst 1, [], []), (.iadd, [], []), (.iaload, [9], []), (.invokevirtual 84, [0, 1, 0, 0, 10, 1535, 1532, 1533, 1534, 100], [mX10_canBake]), (.if_icmp .eq 747, [1477], []), (.iconst 0, [], []), (.ireturn, [1], [])]
theorem kL_law_712 : chL mL_law 712 bL_law_712 = true := by decide +kernel
def bL_law_735 : List AI := [(.aload_n 1, [], []), (.aload_n 0, [], []), (.iload_n 3, [], []), (.iconst 1, [], []), (.iadd, [], []), (.iaload, [9], []), (.invokevirtual 85, [0, 1, 0, 0, 9, 823, 820, 821, 822, 90], [mX9_fires]), (.aload_n 2, [], []), (.aload_n 0, [], []), (.iload_n 3, [], []), (.iconst 1, [], []), (.iadd, [], []), (.iaload, [9], []), (.invokevirtual 88, [0, 1, 0, 0, 10, 1544, 1541, 1542, 1543, 100], [mX10_fires]), (.if_icmp .eq 724, [1477], []), (.iconst 0, [], []), (.ireturn, [1], [])]
theorem kL_law_735 : chL mL_law 735 bL_law_735 = true := by decide +kernel
def bL_law_758 : List AI := [(.aload_n 1, [], []), (.aload_n 0, [], []), (.iload_n 3, [], []), (.iconst 1, [], []), (.iadd, [], []), (.iaload, [9], []), (.invokevirtual 89, [0, 1, 0, 0, 9, 831, 828, 829, 830, 90], [mX9_ways]), (.aload_n 2, [], []), (.aload_n 0, [], []), (.iload_n 3, [], []), (.iconst 1, [], []), (.iadd, [], []), (.iaload, [9], []), (.invokevirtual 92, [0, 1, 0, 0, 10, 1548, 1545, 1546, 1547, 100], [mX10_ways]), (.if_icmp .eq 701, [1477], []), (.iconst 0, [], []), (.ireturn, [1], [])]
theorem kL_law_758 : chL mL_law 758 bL_law_758 = true := by decide +kernel
def bL_law_781 : List AI := [(.aload_n 1, [], []), (.invokevirtual 93, [0, 0, 0, 0, 9, 839, 836, 837, 838, 90], [mX9_gap]), (.aload_n 2, [], []), (.invokevirtual 96, [0, 0, 0, 0, 10, 1552, 1549, 1550, 1551, 100], [mX10_gap]), (.if_icmp .eq 688, [1477], []), (.iconst 0, [], []), (.ireturn, [1], [])]
theorem kL_law_781 : chL mL_law 781 bL_law_781 = true := by decide +kernel
def bL_law_794 : List AI := [(.aload_n 1, [], []), (.aload_n 0, [], []), (.iload_n 3, [], []), (.iconst 1, [], []), (.iadd, [], []), (.iaload, [9], []), (.invokevirtual 97, [0, 1, 0, 0, 9, 848, 845, 846, 847, 90], [mX9_upTo]), (.aload_n 2, [], []), (.aload_n 0, [], []), (.iload_n 3, [], []), (.iconst 1, [], []), (.iadd, [], []), (.iaload, [9], []), (.invokevirtual 100, [0, 1, 0, 0, 10, 1559, 1556, 1557, 1558, 100], [mX10_upTo]), (.if_icmp .eq 665, [1477], []), (.iconst 0, [], []), (.ireturn, [1], [])]
theorem kL_law_794 : chL mL_law 794 bL_law_794 = true := by decide +kernel
def bL_law_817 : List AI := [(.aload_n 1, [], []), (.aload_n 0, [], []), (.iload_n 3, [], []), (.iconst 1, [], []), (.iadd, [], []), (.iaload, [9], []), (.aload_n 0, [], []), (.iload_n 3, [], []), (.iconst 2, [], []), (.iadd, [], []), (.iaload, [9], []), (.invokevirtual 101, [0, 2, 0, 0, 9, 857, 854, 855, 856, 90], [mX9_group]), (.aload_n 2, [], []), (.aload_n 0, [], []), (.iload_n 3, [], []), (.iconst 1, [], []), (.iadd, [], []), (.iaload, [9], []), (.aload_n 0, [], []), (.iload_n 3, [], []), (.iconst 2, [], []), (.iadd, [], []), (.iaload, [9], []), (.invokevirtual 104, [0, 2, 0, 0, 10, 1564, 1561, 1562, 1563, 100], [mX10_group]), (.if_icmp .eq 632, [1477], []), (.iconst 0, [], []), (.ireturn, [1], [])]
theorem kL_law_817 : chL mL_law 817 bL_law_817 = true := by decide +kernel
def bL_law_850 : List AI := [(.aload_n 1, [], []), (.aload_n 0, [], []), (.iload_n 3, [], []), (.iconst 1, [], []), (.iadd, [], []), (.iaload, [9], []), (.invokevirtual 105, [0, 1, 0, 0, 9, 892, 889, 890, 891, 90], [mX9_fills]), (.aload_n 2, [], []), (.aload_n 0, [], []), (.iload_n 3, [], []), (.iconst 1, [], []), (.iadd, [], []), (.iaload, [9], []), (.invokevirtual 108, [0, 1, 0, 0, 10, 1572, 1569, 1570, 1571, 100], [mX10_fills]), (.if_icmp .eq 609, [1477], []), (.iconst 0, [], []), (.ireturn, [1], [])]
theorem kL_law_850 : chL mL_law 850 bL_law_850 = true := by decide +kernel
def bL_law_873 : List AI := [(.aload_n 1, [], []), (.aload_n 0, [], []), (.iload_n 3, [], []), (.iconst 1, [], []), (.iadd, [], []), (.iaload, [9], []), (.invokevirtual 109, [0, 1, 0, 0, 9, 897, 894, 895, 896, 90], [mX9_served]), (.aload_n 2, [], []), (.aload_n 0, [], []), (.iload_n 3, [], []), (.iconst 1, [], []), (.iadd, [], []), (.iaload, [9], []), (.invokevirtual 112, [0, 1, 0, 0, 10, 1576, 1573, 1574, 1575, 100], [mX10_served]), (.if_icmp .eq 586, [1477], []), (.iconst 0, [], []), (.ireturn, [1], [])]
theorem kL_law_873 : chL mL_law 873 bL_law_873 = true := by decide +kernel
def bL_law_896 : List AI := [(.aload_n 1, [], []), (.invokevirtual 113, [0, 0, 0, 0, 9, 942, 939, 940, 941, 90], [mX9_parted]), (.aload_n 2, [], []), (.invokevirtual 116, [0, 0, 0, 0, 10, 1587, 1584, 1585, 1586, 100], [mX10_parted]), (.if_icmp .eq 573, [1477], []), (.iconst 0, [], []), (.ireturn, [1], [])]
theorem kL_law_896 : chL mL_law 896 bL_law_896 = true := by decide +kernel
def bL_law_909 : List AI := [(.aload_n 1, [], []), (.aload_n 0, [], []), (.iload_n 3, [], []), (.iconst 1, [], []), (.iadd, [], []), (.iaload, [9], []), (.invokevirtual 117, [0, 1, 0, 0, 9, 950, 947, 948, 949, 90], [mX9_together]), (.aload_n 2, [], []), (.aload_n 0, [], []), (.iload_n 3, [], []), (.iconst 1, [], []), (.iadd, [], []), (.iaload, [9], []), (.invokevirtual 120, [0, 1, 0, 0, 10, 1603, 1600, 1601, 1602, 100], [mX10_together]), (.if_icmp .eq 550, [1477], []), (.iconst 0, [], []), (.ireturn, [1], [])]
theorem kL_law_909 : chL mL_law 909 bL_law_909 = true := by decide +kernel
def bL_law_932 : List AI := [(.aload_n 1, [], []), (.aload_n 0, [], []), (.iload_n 3, [], []), (.iconst 1, [], []), (.iadd, [], []), (.iaload, [9], []), (.aload_n 0, [], []), (.iload_n 3, [], []), (.iconst 2, [], []), (.iadd, [], []), (.iaload, [9], []), (.invokevirtual 121, [0, 2, 0, 0, 9, 959, 956, 957, 958, 90], [mX9_stones]), (.aload_n 2, [], []), (.aload_n 0, [], []), (.iload_n 3, [], []), (.iconst 1, [], []), (.iadd, [], []), (.iaload, [9], []), (.aload_n 0, [], []), (.iload_n 3, [], []), (.iconst 2, [], []), (.iadd, [], []), (.iaload, [9], []), (.invokevirtual 124, [0, 2, 0, 0, 10, 1607, 1604, 1605, 1606, 100], [mX10_stones]), (.if_icmp .eq 517, [1477], []), (.iconst 0, [], []), (.ireturn, [1], [])]
theorem kL_law_932 : chL mL_law 932 bL_law_932 = true := by decide +kernel
def bL_law_965 : List AI := [(.aload_n 1, [], []), (.aload_n 0, [], []), (.iload_n 3, [], []), (.iconst 1, [], []), (.iadd, [], []), (.iaload, [9], []), (.aload_n 0, [], []), (.iload_n 3, [], []), (.iconst 2, [], []), (.iadd, [], []), (.iaload, [9], []), (.invokevirtual 125, [0, 2, 0, 0, 9, 976, 973, 974, 975, 90], [mX9_leaves]), (.aload_n 2, [], []), (.aload_n 0, [], []), (.iload_n 3, [], []), (.iconst 1, [], []), (.iadd, [], []), (.iaload, [9], []), (.aload_n 0, [], []), (.iload_n 3, [], []), (.iconst 2, [], []), (.iadd, [], []), (.iaload, [9], []), (.invokevirtual 128, [0, 2, 0, 0, 10, 1611, 1608, 1609, 1610, 100], [mX10_leaves]), (.if_icmp .eq 484, [1477], []), (.iconst 0, [], []), (.ireturn, [1], [])]
theorem kL_law_965 : chL mL_law 965 bL_law_965 = true := by decide +kernel
def bL_law_998 : List AI := [(.aload_n 1, [], []), (.aload_n 0, [], []), (.iload_n 3, [], []), (.iconst 1, [], []), (.iadd, [], []), (.iaload, [9], []), (.aload_n 0, [], []), (.iload_n 3, [], []), (.iconst 2, [], []), (.iadd, [], []), (.iaload, [9], []), (.invokevirtual 129, [0, 2, 0, 0, 9, 981, 978, 979, 980, 90], [mX9_stable]), (.aload_n 2, [], []), (.aload_n 0, [], []), (.iload_n 3, [], []), (.iconst 1, [], []), (.iadd, [], []), (.iaload, [9], []), (.aload_n 0, [], []), (.iload_n 3, [], []), (.iconst 2, [], []), (.iadd, [], []), (.iaload, [9], []), (.invokevirtual 132, [0, 2, 0, 0, 10, 1627, 1624, 1625, 1626, 100], [mX10_stable]), (.if_icmp .eq 451, [1477], []), (.iconst 0, [], []), (.ireturn, [1], [])]
theorem kL_law_998 : chL mL_law 998 bL_law_998 = true := by decide +kernel
def bL_law_1031 : List AI := [(.aload_n 1, [], []), (.aload_n 0, [], []), (.iload_n 3, [], []), (.iconst 1, [], []), (.iadd, [], []), (.iaload, [9], []), (.invokevirtual 133, [0, 1, 0, 0, 9, 985, 982, 983, 984, 90], [mX9_better]), (.aload_n 2, [], []), (.aload_n 0, [], []), (.iload_n 3, [], []), (.iconst 1, [], []), (.iadd, [], []), (.iaload, [9], []), (.invokevirtual 136, [0, 1, 0, 0, 10, 1631, 1628, 1629, 1630, 100], [mX10_better]), (.if_icmp .eq 428, [1477], []), (.iconst 0, [], []), (.ireturn, [1], [])]
theorem kL_law_1031 : chL mL_law 1031 bL_law_1031 = true := by decide +kernel
def bL_law_1054 : List AI := [(.aload_n 1, [], []), (.aload_n 0, [], []), (.iload_n 3, [], []), (.iconst 1, [], []), (.iadd, [], []), (.iaload, [9], []), (.aload_n 0, [], []), (.iload_n 3, [], []), (.iconst 2, [], []), (.iadd, [], []), (.iaload, [9], []), (.aload_n 0, [], []), (.iload_n 3, [], []), (.iconst 3, [], []), (.iadd, [], []), (.iaload, [9], []), (.invokevirtual 137, [0, 3, 0, 0, 9, 997, 994, 995, 996, 90], [mX9_lend]), (.aload_n 2, [], []), (.aload_n 0, [], []), (.iload_n 3, [], []), (.iconst 1, [], []), (.iadd, [], []), (.iaload, [9], []), (.aload_n 0, [], []), (.iload_n 3, [], []), (.iconst 2, [], []), (.iadd, [], []), (.iaload, [9], []), (.aload_n 0, [], []), (.iload_n 3, [], []), (.iconst 3, [], []), (.iadd, [], []), (.iaload, [9], []), (.invokevirtual 141, [0, 3, 0, 0, 10, 1635, 1632, 1633, 1634, 100], [mX10_lend]), (.if_icmp .eq 385, [1477], []), (.iconst 0, [], []), (.ireturn, [1], [])]
theorem kL_law_1054 : chL mL_law 1054 bL_law_1054 = true := by decide +kernel
def bL_law_1097 : List AI := [(.aload_n 1, [], []), (.aload_n 0, [], []), (.iload_n 3, [], []), (.iconst 1, [], []), (.iadd, [], []), (.iaload, [9], []), (.aload_n 0, [], []), (.iload_n 3, [], []), (.iconst 2, [], []), (.iadd, [], []), (.iaload, [9], []), (.invokevirtual 142, [0, 2, 0, 0, 9, 1006, 1003, 1004, 1005, 90], [mX9_owed]), (.aload_n 2, [], []), (.aload_n 0, [], []), (.iload_n 3, [], []), (.iconst 1, [], []), (.iadd, [], []), (.iaload, [9], []), (.aload_n 0, [], []), (.iload_n 3, [], []), (.iconst 2, [], []), (.iadd, [], []), (.iaload, [9], []), (.invokevirtual 145, [0, 2, 0, 0, 10, 1639, 1636, 1637, 1638, 100], [mX10_owed]), (.if_icmp .eq 352, [1477], []), (.iconst 0, [], []), (.ireturn, [1], [])]
theorem kL_law_1097 : chL mL_law 1097 bL_law_1097 = true := by decide +kernel
def bL_law_1130 : List AI := [(.aload_n 1, [], []), (.aload_n 0, [], []), (.iload_n 3, [], []), (.iconst 1, [], []), (.iadd, [], []), (.iaload, [9], []), (.invokevirtual 146, [0, 1, 0, 0, 9, 1010, 1007, 1008, 1009, 90], [mX9_ring]), (.aload_n 2, [], []), (.aload_n 0, [], []), (.iload_n 3, [], []), (.iconst 1, [], []), (.iadd, [], []), (.iaload, [9], []), (.invokevirtual 149, [0, 1, 0, 0, 10, 1643, 1640, 1641, 1642, 100], [mX10_ring]), (.if_icmp .eq 329, [1477], []), (.iconst 0, [], []), (.ireturn, [1], [])]
theorem kL_law_1130 : chL mL_law 1130 bL_law_1130 = true := by decide +kernel
def bL_law_1153 : List AI := [(.aload_n 1, [], []), (.invokevirtual 150, [0, 0, 0, 0, 9, 1037, 1034, 1035, 1036, 90], [mX9_clear]), (.aload_n 2, [], []), (.invokevirtual 153, [0, 0, 0, 0, 10, 1655, 1652, 1653, 1654, 100], [mX10_clear]), (.if_icmp .eq 316, [1477], []), (.iconst 0, [], []), (.ireturn, [1], [])]
theorem kL_law_1153 : chL mL_law 1153 bL_law_1153 = true := by decide +kernel
def bL_law_1166 : List AI := [(.aload_n 1, [], []), (.invokevirtual 154, [0, 0, 0, 0, 9, 1058, 1055, 1056, 1057, 90], [mX9_payments]), (.aload_n 2, [], []), (.invokevirtual 157, [0, 0, 0, 0, 10, 1659, 1656, 1657, 1658, 100], [mX10_payments]), (.if_icmp .eq 303, [1477], []), (.iconst 0, [], []), (.ireturn, [1], [])]
theorem kL_law_1166 : chL mL_law 1166 bL_law_1166 = true := by decide +kernel
def bL_law_1179 : List AI := [(.aload_n 1, [], []), (.aload_n 0, [], []), (.iload_n 3, [], []), (.iconst 1, [], []), (.iadd, [], []), (.iaload, [9], []), (.aload_n 0, [], []), (.iload_n 3, [], []), (.iconst 2, [], []), (.iadd, [], []), (.iaload, [9], []), (.invokevirtual 158, [0, 2, 0, 0, 9, 1072, 1069, 1070, 1071, 90], [mX9_ahead]), (.aload_n 2, [], []), (.aload_n 0, [], []), (.iload_n 3, [], []), (.iconst 1, [], []), (.iadd, [], []), (.iaload, [9], []), (.aload_n 0, [], []), (.iload_n 3, [], []), (.iconst 2, [], []), (.iadd, [], []), (.iaload, [9], []), (.invokevirtual 161, [0, 2, 0, 0, 10, 1663, 1660, 1661, 1662, 100], [mX10_ahead]), (.if_icmp .eq 270, [1477], []), (.iconst 0, [], []), (.ireturn, [1], [])]
theorem kL_law_1179 : chL mL_law 1179 bL_law_1179 = true := by decide +kernel
def bL_law_1212 : List AI := [(.aload_n 1, [], []), (.aload_n 0, [], []), (.iload_n 3, [], []), (.iconst 1, [], []), (.iadd, [], []), (.iaload, [9], []), (.invokevirtual 162, [0, 1, 0, 0, 9, 1112, 1109, 1110, 1111, 90], [mX9_enough]), (.aload_n 2, [], []), (.aload_n 0, [], []), (.iload_n 3, [], []), (.iconst 1, [], []), (.iadd, [], []), (.iaload, [9], []), (.invokevirtual 165, [0, 1, 0, 0, 10, 1689, 1686, 1687, 1688, 100], [mX10_enough]), (.if_icmp .eq 247, [1477], []), (.iconst 0, [], []), (.ireturn, [1], [])]
theorem kL_law_1212 : chL mL_law 1212 bL_law_1212 = true := by decide +kernel
def bL_law_1235 : List AI := [(.aload_n 1, [], []), (.aload_n 0, [], []), (.iload_n 3, [], []), (.iconst 1, [], []), (.iadd, [], []), (.iaload, [9], []), (.aload_n 0, [], []), (.iload_n 3, [], []), (.iconst 2, [], []), (.iadd, [], []), (.iaload, [9], []), (.invokevirtual 166, [0, 2, 0, 0, 9, 1116, 1113, 1114, 1115, 90], [mX9_marry]), (.aload_n 2, [], []), (.aload_n 0, [], []), (.iload_n 3, [], []), (.iconst 1, [], []), (.iadd, [], []), (.iaload, [9], []), (.aload_n 0, [], []), (.iload_n 3, [], []), (.iconst 2, [], []), (.iadd, [], []), (.iaload, [9], []), (.invokevirtual 169, [0, 2, 0, 0, 10, 1693, 1690, 1691, 1692, 100], [mX10_marry]), (.if_icmp .eq 214, [1477], []), (.iconst 0, [], []), (.ireturn, [1], [])]
theorem kL_law_1235 : chL mL_law 1235 bL_law_1235 = true := by decide +kernel
def bL_law_1268 : List AI := [(.aload_n 1, [], []), (.aload_n 0, [], []), (.iload_n 3, [], []), (.iconst 1, [], []), (.iadd, [], []), (.iaload, [9], []), (.aload_n 0, [], []), (.iload_n 3, [], []), (.iconst 2, [], []), (.iadd, [], []), (.iaload, [9], []), (.aload_n 0, [], []), (.iload_n 3, [], []), (.iconst 3, [], []), (.iadd, [], []), (.iaload, [9], []), (.invokevirtual 170, [0, 3, 0, 0, 9, 1133, 1130, 1131, 1132, 90], [mX9_numbers]), (.aload_n 2, [], []), (.aload_n 0, [], []), (.iload_n 3, [], []), (.iconst 1, [], []), (.iadd, [], []), (.iaload, [9], []), (.aload_n 0, [], []), (.iload_n 3, [], []), (.iconst 2, [], []), (.iadd, [], []), (.iaload, [9], []), (.aload_n 0, [], []), (.iload_n 3, [], []), (.iconst 3, [], []), (.iadd, [], []), (.iaload, [9], []), (.invokevirtual 173, [0, 3, 0, 0, 10, 1713, 1710, 1711, 1712, 100], [mX10_numbers]), (.if_icmp .eq 171, [1477], []), (.iconst 0, [], []), (.ireturn, [1], [])]
theorem kL_law_1268 : chL mL_law 1268 bL_law_1268 = true := by decide +kernel
def bL_law_1311 : List AI := [(.aload_n 1, [], []), (.aload_n 0, [], []), (.iload_n 3, [], []), (.iconst 1, [], []), (.iadd, [], []), (.iaload, [9], []), (.aload_n 0, [], []), (.iload_n 3, [], []), (.iconst 2, [], []), (.iadd, [], []), (.iaload, [9], []), (.aload_n 0, [], []), (.iload_n 3, [], []), (.iconst 3, [], []), (.iadd, [], []), (.iaload, [9], []), (.i2l, [], []), (.bipush 32, [], []), (.lshl, [], []), (.aload_n 0, [], []), (.iload_n 3, [], []), (.iconst 4, [], []), (.iadd, [], []), (.iaload, [9], []), (.i2l, [], []), (.ldc2_w 174, [4294967295, 1749], []), (.land, [], []), (.lor, [], []), (.invokevirtual 176, [0, 3, 0, 0, 9, 1144, 1141, 1142, 1143, 90], [mX9_write]), (.aload_n 2, [], []), (.aload_n 0, [], []), (.iload_n 3, [], []), (.iconst 1, [], []), (.iadd, [], []), (.iaload, [9], []), (.aload_n 0, [], []), (.iload_n 3, [], []), (.iconst 2, [], []), (.iadd, [], []), (.iaload, [9], []), (.aload_n 0, [], []), (.iload_n 3, [], []), (.iconst 3, [], []), (.iadd, [], []), (.iaload, [9], []), (.i2l, [], []), (.bipush 32, [], []), (.lshl, [], []), (.aload_n 0, [], []), (.iload_n 3, [], []), (.iconst 4, [], []), (.iadd, [], []), (.iaload, [9], []), (.i2l, [], []), (.ldc2_w 174, [4294967295, 1749], []), (.land, [], []), (.lor, [], []), (.invokevirtual 180, [0, 3, 0, 0, 10, 1718, 1715, 1716, 1717, 100], [mX10_write]), (.lcmp, [], []), (.ifCond .eq 97, [1477], []), (.iconst 0, [], []), (.ireturn, [1], [])]
theorem kL_law_1311 : chL mL_law 1311 bL_law_1311 = true := by decide +kernel
def bL_law_1385 : List AI := [(.aload_n 1, [], []), (.aload_n 0, [], []), (.iload_n 3, [], []), (.iconst 1, [], []), (.iadd, [], []), (.iaload, [9], []), (.invokevirtual 181, [0, 1, 0, 0, 9, 1159, 1156, 1157, 1158, 90], [mX9_copy]), (.aload_n 2, [], []), (.aload_n 0, [], []), (.iload_n 3, [], []), (.iconst 1, [], []), (.iadd, [], []), (.iaload, [9], []), (.invokevirtual 184, [0, 1, 0, 0, 10, 1728, 1725, 1726, 1727, 100], [mX10_copy]), (.if_icmp .eq 74, [1477], []), (.iconst 0, [], []), (.ireturn, [1], [])]
theorem kL_law_1385 : chL mL_law 1385 bL_law_1385 = true := by decide +kernel
def bL_law_1408 : List AI := [(.aload_n 1, [], []), (.aload_n 0, [], []), (.iload_n 3, [], []), (.iconst 1, [], []), (.iadd, [], []), (.iaload, [9], []), (.invokevirtual 185, [0, 1, 0, 0, 9, 1163, 1160, 1161, 1162, 90], [mX9_image]), (.aload_n 2, [], []), (.aload_n 0, [], []), (.iload_n 3, [], []), (.iconst 1, [], []), (.iadd, [], []), (.iaload, [9], []), (.invokevirtual 188, [0, 1, 0, 0, 10, 1732, 1729, 1730, 1731, 100], [mX10_image]), (.if_icmp .eq 51, [1477], []), (.iconst 0, [], []), (.ireturn, [1], [])]
theorem kL_law_1408 : chL mL_law 1408 bL_law_1408 = true := by decide +kernel
def bL_law_1431 : List AI := [(.aload_n 1, [], []), (.aload_n 0, [], []), (.iload_n 3, [], []), (.iconst 1, [], []), (.iadd, [], []), (.iaload, [9], []), (.invokevirtual 189, [0, 1, 0, 0, 9, 1170, 1167, 1168, 1169, 90], [mX9_restore]), (.aload_n 2, [], []), (.aload_n 0, [], []), (.iload_n 3, [], []), (.iconst 1, [], []), (.iadd, [], []), (.iaload, [9], []), (.invokevirtual 192, [0, 1, 0, 0, 10, 1736, 1733, 1734, 1735, 100], [mX10_restore]), (.if_icmp .eq 28, [1477], []), (.iconst 0, [], []), (.ireturn, [1], [])]
theorem kL_law_1431 : chL mL_law 1431 bL_law_1431 = true := by decide +kernel
def bL_law_1454 : List AI := [(.aload_n 1, [], []), (.aload_n 0, [], []), (.iload_n 3, [], []), (.iconst 1, [], []), (.iadd, [], []), (.iaload, [9], []), (.invokevirtual 193, [0, 1, 0, 0, 9, 1174, 1171, 1172, 1173, 90], [mX9_count]), (.aload_n 2, [], []), (.aload_n 0, [], []), (.iload_n 3, [], []), (.iconst 1, [], []), (.iadd, [], []), (.iaload, [9], []), (.invokevirtual 196, [0, 1, 0, 0, 10, 1740, 1737, 1738, 1739, 100], [mX10_count]), (.if_icmp .eq 5, [1477], []), (.iconst 0, [], []), (.ireturn, [1], [])]
theorem kL_law_1454 : chL mL_law 1454 bL_law_1454 = true := by decide +kernel
def bL_law_1477 : List AI := [(.iinc 3 6, [], []), (.goto (-1462), [18], [])]
theorem kL_law_1477 : chL mL_law 1477 bL_law_1477 = true := by decide +kernel
def bL_law_1483 : List AI := [(.iconst 1, [], []), (.ireturn, [1], [])]
theorem kL_law_1483 : chL mL_law 1483 bL_law_1483 = true := by decide +kernel
