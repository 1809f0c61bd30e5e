def bJ6_bitCount_0f7a4_0 : List AI := [(.iload_n 0, [], []), (.iload_n 0, [], []), (.iconst 1, [], []), (.iushr, [], []), (.ldc_w 265, [1431655765, 930], []), (.iand, [], []), (.isub, [], []), (.istore_n 0, [], []), (.iload_n 0, [], []), (.ldc_w 266, [858993459, 931], []), (.iand, [], []), (.iload_n 0, [], []), (.iconst 2, [], []), (.iushr, [], []), (.ldc_w 266, [858993459, 931], []), (.iand, [], []), (.iadd, [], []), (.istore_n 0, [], []), (.iload_n 0, [], []), (.iload_n 0, [], []), (.iconst 4, [], []), (.iushr, [], []), (.iadd, [], []), (.ldc_w 267, [252645135, 932], []), (.iand, [], []), (.istore_n 0, [], []), (.iload_n 0, [], []), (.iload_n 0, [], []), (.bipush 8, [], []), (.iushr, [], []), (.iadd, [], []), (.istore_n 0, [], []), (.iload_n 0, [], []), (.iload_n 0, [], []), (.bipush 16, [], []), (.iushr, [], []), (.iadd, [], []), (.istore_n 0, [], []), (.iload_n 0, [], []), (.bipush 63, [], []), (.iand, [], []), (.ireturn, [0], [])]
theorem kJ6_bitCount_0f7a4_0 : chL mJ6_bitCount_0f7a4 0 bJ6_bitCount_0f7a4_0 = true := by decide +kernel
def bJ7_fill_d0a16_0 : List AI := [(.iconst 0, [], []), (.istore_n 3, [], []), (.aload_n 0, [], []), (.arraylength, [0, 2], []), (.istore 4, [], []), (.nop, [6], [])]
theorem kJ7_fill_d0a16_0 : chL mJ7_fill_d0a16 0 bJ7_fill_d0a16_0 = true := by decide +kernel
def bJ7_fill_d0a16_6 : List AI := [(.iload_n 3, [], []), (.iload 4, [], []), (.if_icmp .ge 13, [22], []), (.aload_n 0, [], []), (.iload_n 3, [], []), (.lload_n 1, [], []), (.lastore, [], []), (.iinc 3 1, [], []), (.goto (-13), [6], [])]
theorem kJ7_fill_d0a16_6 : chL mJ7_fill_d0a16 6 bJ7_fill_d0a16_6 = true := by decide +kernel
def bJ7_fill_d0a16_22 : List AI := [(.return_, [], [])]
theorem kJ7_fill_d0a16_22 : chL mJ7_fill_d0a16 22 bJ7_fill_d0a16_22 = true := by decide +kernel
def bJ7_fill_53178_0 : List AI := [(.iconst 0, [], []), (.istore_n 2, [], []), (.aload_n 0, [], []), (.arraylength, [0, 1], []), (.istore_n 3, [], []), (.nop, [5], [])]
theorem kJ7_fill_53178_0 : chL mJ7_fill_53178 0 bJ7_fill_53178_0 = true := by decide +kernel
def bJ7_fill_53178_5 : List AI := [(.iload_n 2, [], []), (.iload_n 3, [], []), (.if_icmp .ge 13, [20], []), (.aload_n 0, [], []), (.iload_n 2, [], []), (.iload_n 1, [], []), (.iastore, [], []), (.iinc 2 1, [], []), (.goto (-12), [5], [])]
theorem kJ7_fill_53178_5 : chL mJ7_fill_53178 5 bJ7_fill_53178_5 = true := by decide +kernel
def bJ7_fill_53178_20 : List AI := [(.return_, [], [])]
theorem kJ7_fill_53178_20 : chL mJ7_fill_53178 20 bJ7_fill_53178_20 = true := by decide +kernel
def bX2_init_0 : List AI := [(.aload_n 0, [], []), (.invokespecial 3, [2, 129, 115, 116], []), (.aload_n 0, [], []), (.iconst 5, [], []), (.newarray .int, [1, 186], []), (.putfield 9, [2, 2, 7, 158], []), (.aload_n 0, [], []), (.bipush 10, [], []), (.newarray .int, [1, 186], []), (.putfield 15, [2, 2, 8, 163], []), (.return_, [], [])]
theorem kX2_init_0 : chL mX2_init 0 bX2_init_0 = true := by decide +kernel
def bX2_reset_0 : List AI := [(.aload_n 0, [], []), (.iconst 0, [], []), (.putfield 18, [0, 2, 0, 130], []), (.aload_n 0, [], []), (.bipush 50, [], []), (.putfield 22, [0, 2, 1, 134], []), (.aload_n 0, [], []), (.iconst 0, [], []), (.putfield 25, [0, 2, 2, 138], []), (.aload_n 0, [], []), (.iconst 0, [], []), (.putfield 28, [0, 2, 3, 144], []), (.aload_n 0, [], []), (.iconst 0, [], []), (.putfield 31, [0, 2, 4, 147], []), (.aload_n 0, [], []), (.iconst 0, [], []), (.putfield 34, [0, 2, 5, 150], []), (.aload_n 0, [], []), (.iconst 0, [], []), (.putfield 37, [0, 2, 6, 153], []), (.aload_n 0, [], []), (.getfield 9, [2, 2, 7, 158], []), (.iconst 0, [], []), (.invokestatic 40, [0, 2, 0, 0, 597, 595, 596, 106], [mJ7_fill_53178]), (.aload_n 0, [], []), (.getfield 15, [2, 2, 8, 163], []), (.iconst 0, [], []), (.invokestatic 40, [0, 2, 0, 0, 597, 595, 596, 106], [mJ7_fill_53178]), (.return_, [], [])]
theorem kX2_reset_0 : chL mX2_reset 0 bX2_reset_0 = true := by decide +kernel
def bX2_become_0 : List AI := [(.aload_n 0, [], []), (.aload_n 1, [], []), (.getfield 18, [0, 2, 0, 130], []), (.putfield 18, [0, 2, 0, 130], []), (.aload_n 0, [], []), (.aload_n 1, [], []), (.getfield 22, [0, 2, 1, 134], []), (.putfield 22, [0, 2, 1, 134], []), (.aload_n 0, [], []), (.aload_n 1, [], []), (.getfield 25, [0, 2, 2, 138], []), (.putfield 25, [0, 2, 2, 138], []), (.aload_n 0, [], []), (.aload_n 1, [], []), (.getfield 28, [0, 2, 3, 144], []), (.putfield 28, [0, 2, 3, 144], []), (.aload_n 0, [], []), (.aload_n 1, [], []), (.getfield 31, [0, 2, 4, 147], []), (.putfield 31, [0, 2, 4, 147], []), (.aload_n 0, [], []), (.aload_n 1, [], []), (.getfield 34, [0, 2, 5, 150], []), (.putfield 34, [0, 2, 5, 150], []), (.aload_n 0, [], []), (.aload_n 1, [], []), (.getfield 37, [0, 2, 6, 153], []), (.putfield 37, [0, 2, 6, 153], []), (.aload_n 1, [], []), (.getfield 9, [2, 2, 7, 158], []), (.iconst 0, [], []), (.aload_n 0, [], []), (.getfield 9, [2, 2, 7, 158], []), (.iconst 0, [], []), (.iconst 5, [], []), (.invokestatic 46, [1, 636, 631, 630, 107], []), (.aload_n 1, [], []), (.getfield 15, [2, 2, 8, 163], []), (.iconst 0, [], []), (.aload_n 0, [], []), (.getfield 15, [2, 2, 8, 163], []), (.iconst 0, [], []), (.bipush 10, [], []), (.invokestatic 46, [1, 636, 631, 630, 107], []), (.return_, [], [])]
theorem kX2_become_0 : chL mX2_become 0 bX2_become_0 = true := by decide +kernel
def bX2_allBread_0 : List AI := [(.iconst 0, [], []), (.istore_n 1, [], []), (.iconst 0, [], []), (.istore_n 2, [], []), (.nop, [4], [])]
theorem kX2_allBread_0 : chL mX2_allBread 0 bX2_allBread_0 = true := by decide +kernel
def bX2_allBread_4 : List AI := [(.iload_n 2, [], []), (.iconst 5, [], []), (.if_icmp .ge 18, [24], []), (.iload_n 1, [], []), (.aload_n 0, [], []), (.getfield 9, [2, 2, 7, 158], []), (.iload_n 2, [], []), (.iaload, [0], []), (.iadd, [], []), (.istore_n 1, [], []), (.iinc 2 1, [], []), (.goto (-17), [4], [])]
theorem kX2_allBread_4 : chL mX2_allBread 4 bX2_allBread_4 = true := by decide +kernel
def bX2_allBread_24 : List AI := [(.iload_n 1, [], []), (.ireturn, [0], [])]
theorem kX2_allBread_24 : chL mX2_allBread 24 bX2_allBread_24 = true := by decide +kernel
def bX2_allOwed_0 : List AI := [(.iconst 0, [], []), (.istore_n 1, [], []), (.iconst 0, [], []), (.istore_n 2, [], []), (.nop, [4], [])]
theorem kX2_allOwed_0 : chL mX2_allOwed 0 bX2_allOwed_0 = true := by decide +kernel
def bX2_allOwed_4 : List AI := [(.iload_n 2, [], []), (.bipush 10, [], []), (.if_icmp .ge 18, [25], []), (.iload_n 1, [], []), (.aload_n 0, [], []), (.getfield 15, [2, 2, 8, 163], []), (.iload_n 2, [], []), (.iaload, [0], []), (.iadd, [], []), (.istore_n 1, [], []), (.iinc 2 1, [], []), (.goto (-18), [4], [])]
theorem kX2_allOwed_4 : chL mX2_allOwed 4 bX2_allOwed_4 = true := by decide +kernel
def bX2_allOwed_25 : List AI := [(.iload_n 1, [], []), (.ireturn, [0], [])]
theorem kX2_allOwed_25 : chL mX2_allOwed 25 bX2_allOwed_25 = true := by decide +kernel
def bX2_changeEats_0 : List AI := [(.iload_n 1, [], []), (.iconst 1, [], []), (.if_icmp .ne 21, [23], []), (.aload_n 0, [], []), (.bipush 30, [], []), (.aload_n 0, [], []), (.getfield 18, [0, 2, 0, 130], []), (.iconst 1, [], []), (.iadd, [], []), (.invokestatic 52, [4, 766, 506, 101, 507], []), (.putfield 18, [0, 2, 0, 130], []), (.goto 22, [42], [])]
theorem kX2_changeEats_0 : chL mX2_changeEats 0 bX2_changeEats_0 = true := by decide +kernel
def bX2_changeEats_23 : List AI := [(.iload_n 1, [], []), (.iconst 2, [], []), (.if_icmp .ne 17, [42], []), (.aload_n 0, [], []), (.iconst 0, [], []), (.aload_n 0, [], []), (.getfield 18, [0, 2, 0, 130], []), (.iconst 1, [], []), (.isub, [], []), (.invokestatic 58, [5, 771, 509, 101, 510], []), (.putfield 18, [0, 2, 0, 130], []), (.nop, [42], [])]
theorem kX2_changeEats_23 : chL mX2_changeEats 23 bX2_changeEats_23 = true := by decide +kernel
def bX2_changeEats_42 : List AI := [(.return_, [], [])]
theorem kX2_changeEats_42 : chL mX2_changeEats 42 bX2_changeEats_42 = true := by decide +kernel
def bX2_eat_0 : List AI := [(.aload_n 0, [], []), (.getfield 18, [0, 2, 0, 130], []), (.istore_n 1, [], []), (.iconst 4, [], []), (.istore_n 2, [], []), (.nop, [7], [])]
theorem kX2_eat_0 : chL mX2_eat 0 bX2_eat_0 = true := by decide +kernel
def bX2_eat_7 : List AI := [(.iload_n 2, [], []), (.ifCond .lt 34, [42], []), (.aload_n 0, [], []), (.getfield 9, [2, 2, 7, 158], []), (.iload_n 2, [], []), (.iaload, [0], []), (.iload_n 1, [], []), (.invokestatic 52, [4, 766, 506, 101, 507], []), (.istore_n 3, [], []), (.aload_n 0, [], []), (.getfield 9, [2, 2, 7, 158], []), (.iload_n 2, [], []), (.dup2, [0], []), (.iaload, [0], []), (.iload_n 3, [], []), (.isub, [], []), (.iastore, [], []), (.iload_n 1, [], []), (.iload_n 3, [], []), (.isub, [], []), (.istore_n 1, [], []), (.iinc 2 (-1), [], []), (.goto (-32), [7], [])]
theorem kX2_eat_7 : chL mX2_eat 7 bX2_eat_7 = true := by decide +kernel
def bX2_eat_42 : List AI := [(.iload_n 1, [], []), (.ireturn, [0], [])]
theorem kX2_eat_42 : chL mX2_eat 42 bX2_eat_42 = true := by decide +kernel
def bX2_ageBread_0 : List AI := [(.iconst 0, [], []), (.iload_n 1, [], []), (.iconst 5, [], []), (.invokestatic 52, [4, 766, 506, 101, 507], []), (.iconst 1, [], []), (.isub, [], []), (.invokestatic 58, [5, 771, 509, 101, 510], []), (.istore_n 2, [], []), (.aload_n 0, [], []), (.getfield 9, [2, 2, 7, 158], []), (.iload_n 2, [], []), (.iaload, [0], []), (.istore_n 3, [], []), (.iload_n 2, [], []), (.istore 4, [], []), (.nop, [22], [])]
theorem kX2_ageBread_0 : chL mX2_ageBread 0 bX2_ageBread_0 = true := by decide +kernel
def bX2_ageBread_22 : List AI := [(.iload 4, [], []), (.ifCond .le 25, [49], []), (.aload_n 0, [], []), (.getfield 9, [2, 2, 7, 158], []), (.iload 4, [], []), (.aload_n 0, [], []), (.getfield 9, [2, 2, 7, 158], []), (.iload 4, [], []), (.iconst 1, [], []), (.isub, [], []), (.iaload, [0], []), (.iastore, [], []), (.iinc 4 (-1), [], []), (.goto (-24), [22], [])]
theorem kX2_ageBread_22 : chL mX2_ageBread 22 bX2_ageBread_22 = true := by decide +kernel
def bX2_ageBread_49 : List AI := [(.aload_n 0, [], []), (.getfield 9, [2, 2, 7, 158], []), (.iconst 0, [], []), (.iconst 0, [], []), (.iastore, [], []), (.iload_n 3, [], []), (.ireturn, [0], [])]
theorem kX2_ageBread_49 : chL mX2_ageBread 49 bX2_ageBread_49 = true := by decide +kernel
def bX2_absorb_0 : List AI := [(.aload_n 0, [], []), (.bipush 30, [], []), (.aload_n 0, [], []), (.getfield 18, [0, 2, 0, 130], []), (.aload_n 1, [], []), (.getfield 18, [0, 2, 0, 130], []), (.iadd, [], []), (.invokestatic 52, [4, 766, 506, 101, 507], []), (.putfield 18, [0, 2, 0, 130], []), (.aload_n 0, [], []), (.sipush 999, [], []), (.aload_n 0, [], []), (.getfield 22, [0, 2, 1, 134], []), (.aload_n 1, [], []), (.getfield 22, [0, 2, 1, 134], []), (.iadd, [], []), (.invokestatic 52, [4, 766, 506, 101, 507], []), (.putfield 22, [0, 2, 1, 134], []), (.aload_n 0, [], []), (.bipush 99, [], []), (.aload_n 0, [], []), (.getfield 25, [0, 2, 2, 138], []), (.aload_n 1, [], []), (.getfield 25, [0, 2, 2, 138], []), (.iadd, [], []), (.invokestatic 52, [4, 766, 506, 101, 507], []), (.putfield 25, [0, 2, 2, 138], []), (.aload_n 0, [], []), (.dup, [], []), (.getfield 28, [0, 2, 3, 144], []), (.aload_n 1, [], []), (.getfield 28, [0, 2, 3, 144], []), (.iadd, [], []), (.putfield 28, [0, 2, 3, 144], []), (.aload_n 0, [], []), (.dup, [], []), (.getfield 31, [0, 2, 4, 147], []), (.aload_n 1, [], []), (.getfield 31, [0, 2, 4, 147], []), (.iadd, [], []), (.putfield 31, [0, 2, 4, 147], []), (.aload_n 0, [], []), (.dup, [], []), (.getfield 34, [0, 2, 5, 150], []), (.aload_n 1, [], []), (.getfield 34, [0, 2, 5, 150], []), (.iadd, [], []), (.putfield 34, [0, 2, 5, 150], []), (.aload_n 0, [], []), (.dup, [], []), (.getfield 37, [0, 2, 6, 153], []), (.aload_n 1, [], []), (.getfield 37, [0, 2, 6, 153], []), (.ior, [], []), (.putfield 37, [0, 2, 6, 153], []), (.iconst 0, [], []), (.istore_n 2, [], []), (.nop, [109], [])]
theorem kX2_absorb_0 : chL mX2_absorb 0 bX2_absorb_0 = true := by decide +kernel
def bX2_absorb_109 : List AI := [(.iload_n 2, [], []), (.iconst 5, [], []), (.if_icmp .ge 33, [144], []), (.aload_n 0, [], []), (.getfield 9, [2, 2, 7, 158], []), (.iload_n 2, [], []), (.bipush 99, [], []), (.aload_n 0, [], []), (.getfield 9, [2, 2, 7, 158], []), (.iload_n 2, [], []), (.iaload, [0], []), (.aload_n 1, [], []), (.getfield 9, [2, 2, 7, 158], []), (.iload_n 2, [], []), (.iaload, [0], []), (.iadd, [], []), (.invokestatic 52, [4, 766, 506, 101, 507], []), (.iastore, [], []), (.iinc 2 1, [], []), (.goto (-32), [109], [])]
theorem kX2_absorb_109 : chL mX2_absorb 109 bX2_absorb_109 = true := by decide +kernel
def bX2_absorb_144 : List AI := [(.iconst 0, [], []), (.istore_n 2, [], []), (.nop, [146], [])]
theorem kX2_absorb_144 : chL mX2_absorb 144 bX2_absorb_144 = true := by decide +kernel
def bX2_absorb_146 : List AI := [(.iload_n 2, [], []), (.bipush 10, [], []), (.if_icmp .ge 24, [173], []), (.aload_n 0, [], []), (.getfield 15, [2, 2, 8, 163], []), (.iload_n 2, [], []), (.dup2, [0], []), (.iaload, [0], []), (.aload_n 1, [], []), (.getfield 15, [2, 2, 8, 163], []), (.iload_n 2, [], []), (.iaload, [0], []), (.iadd, [], []), (.iastore, [], []), (.iinc 2 1, [], []), (.goto (-24), [146], [])]
theorem kX2_absorb_146 : chL mX2_absorb 146 bX2_absorb_146 = true := by decide +kernel
def bX2_absorb_173 : List AI := [(.return_, [], [])]
theorem kX2_absorb_173 : chL mX2_absorb 173 bX2_absorb_173 = true := by decide +kernel
def bX2_turnTo_0 : List AI := [(.aload_n 0, [], []), (.getfield 15, [2, 2, 8, 163], []), (.iload_n 1, [], []), (.dup2, [0], []), (.iaload, [0], []), (.aload_n 0, [], []), (.getfield 15, [2, 2, 8, 163], []), (.iload_n 2, [], []), (.iaload, [0], []), (.iadd, [], []), (.iastore, [], []), (.iload_n 2, [], []), (.istore_n 3, [], []), (.nop, [17], [])]
theorem kX2_turnTo_0 : chL mX2_turnTo 0 bX2_turnTo_0 = true := by decide +kernel
def bX2_turnTo_17 : List AI := [(.iload_n 3, [], []), (.bipush 9, [], []), (.if_icmp .ge 23, [43], []), (.aload_n 0, [], []), (.getfield 15, [2, 2, 8, 163], []), (.iload_n 3, [], []), (.aload_n 0, [], []), (.getfield 15, [2, 2, 8, 163], []), (.iload_n 3, [], []), (.iconst 1, [], []), (.iadd, [], []), (.iaload, [0], []), (.iastore, [], []), (.iinc 3 1, [], []), (.goto (-23), [17], [])]
theorem kX2_turnTo_17 : chL mX2_turnTo 17 bX2_turnTo_17 = true := by decide +kernel
def bX2_turnTo_43 : List AI := [(.aload_n 0, [], []), (.getfield 15, [2, 2, 8, 163], []), (.bipush 9, [], []), (.iconst 0, [], []), (.iastore, [], []), (.aload_n 0, [], []), (.getfield 37, [0, 2, 6, 153], []), (.aload_n 0, [], []), (.getfield 37, [0, 2, 6, 153], []), (.iload_n 2, [], []), (.ishr, [], []), (.iconst 1, [], []), (.iand, [], []), (.iload_n 1, [], []), (.ishl, [], []), (.ior, [], []), (.istore_n 3, [], []), (.iload_n 3, [], []), (.iconst 1, [], []), (.iload_n 2, [], []), (.ishl, [], []), (.iconst 1, [], []), (.isub, [], []), (.iand, [], []), (.istore 4, [], []), (.aload_n 0, [], []), (.iload 4, [], []), (.iload_n 3, [], []), (.iload_n 2, [], []), (.iconst 1, [], []), (.iadd, [], []), (.ishr, [], []), (.iload_n 2, [], []), (.ishl, [], []), (.ior, [], []), (.putfield 37, [0, 2, 6, 153], []), (.return_, [], [])]
theorem kX2_turnTo_43 : chL mX2_turnTo 43 bX2_turnTo_43 = true := by decide +kernel
def bX6_init_0 : List AI := [(.aload_n 0, [], []), (.invokespecial 3, [2, 251, 115, 116], []), (.aload_n 0, [], []), (.bipush 40, [], []), (.newarray .long, [2, 270], []), (.putfield 9, [2, 6, 3, 258], []), (.return_, [], [])]
theorem kX6_init_0 : chL mX6_init 0 bX6_init_0 = true := by decide +kernel
def bX6_make_0 : List AI := [(.aload_n 0, [], []), (.iconst 1, [], []), (.putfield 15, [3, 6, 0, 252], []), (.aload_n 0, [], []), (.iload_n 1, [], []), (.putfield 19, [0, 6, 1, 254], []), (.aload_n 0, [], []), (.iload_n 2, [], []), (.putfield 23, [0, 6, 2, 255], []), (.aload_n 0, [], []), (.getfield 9, [2, 6, 3, 258], []), (.lconst 0, [], []), (.invokestatic 26, [0, 2, 0, 0, 1140, 1138, 1139, 106], [mJ7_fill_d0a16]), (.return_, [], [])]
theorem kX6_make_0 : chL mX6_make 0 bX6_make_0 = true := by decide +kernel
def bX6_put_0 : List AI := [(.aload_n 0, [], []), (.getfield 9, [2, 6, 3, 258], []), (.iload_n 1, [], []), (.aload_n 0, [], []), (.lload_n 2, [], []), (.invokevirtual 32, [0, 1, 0, 0, 6, 1155, 1152, 1154, 35, 93], [mX6_cut]), (.lastore, [], []), (.aload_n 0, [], []), (.getfield 9, [2, 6, 3, 258], []), (.iload_n 1, [], []), (.laload, [], []), (.lreturn, [], [])]
theorem kX6_put_0 : chL mX6_put 0 bX6_put_0 = true := by decide +kernel
def bX6_cut_0 : List AI := [(.aload_n 0, [], []), (.getfield 19, [0, 6, 1, 254], []), (.tableswitch 42 0 2 #[28, 33, 38], [46, 32, 37, 42], [])]
theorem kX6_cut_0 : chL mX6_cut 0 bX6_cut_0 = true := by decide +kernel
def bX6_cut_32 : List AI := [(.lload_n 1, [], []), (.l2i, [], []), (.i2b, [], []), (.i2l, [], []), (.lreturn, [], [])]
theorem kX6_cut_32 : chL mX6_cut 32 bX6_cut_32 = true := by decide +kernel
def bX6_cut_37 : List AI := [(.lload_n 1, [], []), (.l2i, [], []), (.i2s, [], []), (.i2l, [], []), (.lreturn, [], [])]
theorem kX6_cut_37 : chL mX6_cut 37 bX6_cut_37 = true := by decide +kernel
def bX6_cut_42 : List AI := [(.lload_n 1, [], []), (.l2i, [], []), (.i2l, [], []), (.lreturn, [], [])]
theorem kX6_cut_42 : chL mX6_cut 42 bX6_cut_42 = true := by decide +kernel
def bX6_cut_46 : List AI := [(.lload_n 1, [], []), (.lreturn, [], [])]
theorem kX6_cut_46 : chL mX6_cut 46 bX6_cut_46 = true := by decide +kernel
def bX8_init_0 : List AI := [(.aload_n 0, [], []), (.invokespecial 3, [2, 122, 115, 116], []), (.aload_n 0, [], []), (.bipush 10, [], []), (.anewarray 9, [5, 2, 123, 124], []), (.putfield 11, [2, 8, 6, 213], []), (.aload_n 0, [], []), (.iconst 3, [], []), (.newarray .int, [1, 186], []), (.putfield 17, [2, 8, 7, 220], []), (.iconst 0, [], []), (.istore_n 1, [], []), (.nop, [22], [])]
theorem kX8_init_0 : chL mX8_init 0 bX8_init_0 = true := by decide +kernel
def bX8_init_22 : List AI := [(.iload_n 1, [], []), (.bipush 10, [], []), (.if_icmp .ge 22, [47], []), (.aload_n 0, [], []), (.getfield 11, [2, 8, 6, 213], []), (.iload_n 1, [], []), (.new 9, [2, 123, 125, 92], []), (.dup, [], []), (.invokespecial 21, [1, 0, 2, 15, 128, 0, 127, 92], [mX2_init]), (.aastore, [0], []), (.iinc 1 1, [], []), (.goto (-22), [22], [])]
theorem kX8_init_22 : chL mX8_init 22 bX8_init_22 = true := by decide +kernel
def bX8_init_47 : List AI := [(.aload_n 0, [], []), (.iconst 3, [], []), (.putfield 22, [0, 8, 2, 200], []), (.aload_n 0, [], []), (.bipush 20, [], []), (.putfield 26, [0, 8, 3, 204], []), (.return_, [], [])]
theorem kX8_init_47 : chL mX8_init 47 bX8_init_47 = true := by decide +kernel
def bX8_reset_0 : List AI := [(.aload_n 0, [], []), (.iconst 0, [], []), (.putfield 29, [0, 8, 0, 187], []), (.aload_n 0, [], []), (.iconst 0, [], []), (.putfield 32, [0, 8, 1, 195], []), (.aload_n 0, [], []), (.iconst 3, [], []), (.putfield 22, [0, 8, 2, 200], []), (.aload_n 0, [], []), (.bipush 20, [], []), (.putfield 26, [0, 8, 3, 204], []), (.aload_n 0, [], []), (.iconst 0, [], []), (.putfield 35, [0, 8, 4, 208], []), (.aload_n 0, [], []), (.iconst 0, [], []), (.putfield 38, [0, 8, 5, 210], []), (.return_, [], [])]
theorem kX8_reset_0 : chL mX8_reset 0 bX8_reset_0 = true := by decide +kernel
def bX8_become_0 : List AI := [(.aload_n 0, [], []), (.aload_n 1, [], []), (.getfield 29, [0, 8, 0, 187], []), (.putfield 29, [0, 8, 0, 187], []), (.aload_n 0, [], []), (.aload_n 1, [], []), (.getfield 32, [0, 8, 1, 195], []), (.putfield 32, [0, 8, 1, 195], []), (.aload_n 0, [], []), (.aload_n 1, [], []), (.getfield 22, [0, 8, 2, 200], []), (.putfield 22, [0, 8, 2, 200], []), (.aload_n 0, [], []), (.aload_n 1, [], []), (.getfield 26, [0, 8, 3, 204], []), (.putfield 26, [0, 8, 3, 204], []), (.aload_n 0, [], []), (.aload_n 1, [], []), (.getfield 35, [0, 8, 4, 208], []), (.putfield 35, [0, 8, 4, 208], []), (.aload_n 0, [], []), (.aload_n 1, [], []), (.getfield 38, [0, 8, 5, 210], []), (.putfield 38, [0, 8, 5, 210], []), (.aload_n 1, [], []), (.getfield 17, [2, 8, 7, 220], []), (.iconst 0, [], []), (.aload_n 0, [], []), (.getfield 17, [2, 8, 7, 220], []), (.iconst 0, [], []), (.iconst 3, [], []), (.invokestatic 41, [1, 629, 631, 630, 107], []), (.iconst 0, [], []), (.istore_n 2, [], []), (.nop, [64], [])]
theorem kX8_become_0 : chL mX8_become 0 bX8_become_0 = true := by decide +kernel
def bX8_become_64 : List AI := [(.iload_n 2, [], []), (.aload_n 0, [], []), (.getfield 29, [0, 8, 0, 187], []), (.if_icmp .ge 24, [93], []), (.aload_n 0, [], []), (.getfield 11, [2, 8, 6, 213], []), (.iload_n 2, [], []), (.aaload, [0], []), (.aload_n 1, [], []), (.getfield 11, [2, 8, 6, 213], []), (.iload_n 2, [], []), (.aaload, [0], []), (.invokevirtual 47, [0, 1, 0, 0, 2, 635, 632, 633, 634, 92], [mX2_become]), (.iinc 2 1, [], []), (.goto (-26), [64], [])]
theorem kX8_become_64 : chL mX8_become 64 bX8_become_64 = true := by decide +kernel
def bX8_become_93 : List AI := [(.return_, [], [])]
theorem kX8_become_93 : chL mX8_become 93 bX8_become_93 = true := by decide +kernel
def bX8_hasFamily_0 : List AI := [(.iload_n 1, [], []), (.ifCond .lt 15, [16], []), (.iload_n 1, [], []), (.aload_n 0, [], []), (.getfield 29, [0, 8, 0, 187], []), (.if_icmp .ge 7, [16], []), (.iconst 1, [], []), (.goto 4, [17], [])]
theorem kX8_hasFamily_0 : chL mX8_hasFamily 0 bX8_hasFamily_0 = true := by decide +kernel
def bX8_hasFamily_16 : List AI := [(.iconst 0, [], []), (.nop, [17], [])]
theorem kX8_hasFamily_16 : chL mX8_hasFamily 16 bX8_hasFamily_16 = true := by decide +kernel
def bX8_hasFamily_17 : List AI := [(.ireturn, [1], [])]
theorem kX8_hasFamily_17 : chL mX8_hasFamily 17 bX8_hasFamily_17 = true := by decide +kernel
def bX8_hasPair_0 : List AI := [(.aload_n 0, [], []), (.iload_n 1, [], []), (.invokevirtual 51, [0, 1, 0, 0, 8, 648, 685, 646, 647, 91], [mX8_hasFamily]), (.ifCond .eq 20, [25], []), (.aload_n 0, [], []), (.iload_n 2, [], []), (.invokevirtual 51, [0, 1, 0, 0, 8, 648, 685, 646, 647, 91], [mX8_hasFamily]), (.ifCond .eq 12, [25], []), (.iload_n 1, [], []), (.iload_n 2, [], []), (.if_icmp .eq 7, [25], []), (.iconst 1, [], []), (.goto 4, [26], [])]
theorem kX8_hasPair_0 : chL mX8_hasPair 0 bX8_hasPair_0 = true := by decide +kernel
def bX8_hasPair_25 : List AI := [(.iconst 0, [], []), (.nop, [26], [])]
theorem kX8_hasPair_25 : chL mX8_hasPair 25 bX8_hasPair_25 = true := by decide +kernel
def bX8_hasPair_26 : List AI := [(.ireturn, [1], [])]
theorem kX8_hasPair_26 : chL mX8_hasPair 26 bX8_hasPair_26 = true := by decide +kernel
def bX8_hasOven_0 : List AI := [(.iload_n 1, [], []), (.ifCond .lt 15, [16], []), (.iload_n 1, [], []), (.aload_n 0, [], []), (.getfield 32, [0, 8, 1, 195], []), (.if_icmp .ge 7, [16], []), (.iconst 1, [], []), (.goto 4, [17], [])]
theorem kX8_hasOven_0 : chL mX8_hasOven 0 bX8_hasOven_0 = true := by decide +kernel
def bX8_hasOven_16 : List AI := [(.iconst 0, [], []), (.nop, [17], [])]
theorem kX8_hasOven_16 : chL mX8_hasOven 16 bX8_hasOven_16 = true := by decide +kernel
def bX8_hasOven_17 : List AI := [(.ireturn, [1], [])]
theorem kX8_hasOven_17 : chL mX8_hasOven 17 bX8_hasOven_17 = true := by decide +kernel
def bX8_hasSet_0 : List AI := [(.iload_n 1, [], []), (.ifCond .lt 17, [18], []), (.iload_n 1, [], []), (.iconst 1, [], []), (.aload_n 0, [], []), (.getfield 29, [0, 8, 0, 187], []), (.ishl, [], []), (.if_icmp .ge 7, [18], []), (.iconst 1, [], []), (.goto 4, [19], [])]
theorem kX8_hasSet_0 : chL mX8_hasSet 0 bX8_hasSet_0 = true := by decide +kernel
def bX8_hasSet_18 : List AI := [(.iconst 0, [], []), (.nop, [19], [])]
theorem kX8_hasSet_18 : chL mX8_hasSet 18 bX8_hasSet_18 = true := by decide +kernel
def bX8_hasSet_19 : List AI := [(.ireturn, [1], [])]
theorem kX8_hasSet_19 : chL mX8_hasSet 19 bX8_hasSet_19 = true := by decide +kernel
def bX8_balance_0 : List AI := [(.aload_n 0, [], []), (.getfield 11, [2, 8, 6, 213], []), (.iload_n 1, [], []), (.aaload, [0], []), (.invokevirtual 55, [0, 0, 0, 0, 2, 660, 657, 658, 659, 92], [mX2_allOwed]), (.ineg, [], []), (.istore_n 2, [], []), (.iconst 0, [], []), (.istore_n 3, [], []), (.nop, [13], [])]
theorem kX8_balance_0 : chL mX8_balance 0 bX8_balance_0 = true := by decide +kernel
def bX8_balance_13 : List AI := [(.iload_n 3, [], []), (.aload_n 0, [], []), (.getfield 29, [0, 8, 0, 187], []), (.if_icmp .ge 23, [41], []), (.iload_n 2, [], []), (.aload_n 0, [], []), (.getfield 11, [2, 8, 6, 213], []), (.iload_n 3, [], []), (.aaload, [0], []), (.getfield 59, [2, 2, 8, 165], []), (.iload_n 1, [], []), (.iaload, [0], []), (.iadd, [], []), (.istore_n 2, [], []), (.iinc 3 1, [], []), (.goto (-25), [13], [])]
theorem kX8_balance_13 : chL mX8_balance 13 bX8_balance_13 = true := by decide +kernel
def bX8_balance_41 : List AI := [(.iload_n 2, [], []), (.ireturn, [0], [])]
theorem kX8_balance_41 : chL mX8_balance 41 bX8_balance_41 = true := by decide +kernel
def bX8_allWishes_0 : List AI := [(.iconst 0, [], []), (.istore_n 1, [], []), (.iconst 0, [], []), (.istore_n 2, [], []), (.nop, [4], [])]
theorem kX8_allWishes_0 : chL mX8_allWishes 0 bX8_allWishes_0 = true := by decide +kernel
def bX8_allWishes_4 : List AI := [(.iload_n 2, [], []), (.aload_n 0, [], []), (.getfield 29, [0, 8, 0, 187], []), (.if_icmp .ge 21, [30], []), (.iload_n 1, [], []), (.aload_n 0, [], []), (.getfield 11, [2, 8, 6, 213], []), (.iload_n 2, [], []), (.aaload, [0], []), (.getfield 62, [0, 2, 2, 143], []), (.iadd, [], []), (.istore_n 1, [], []), (.iinc 2 1, [], []), (.goto (-23), [4], [])]
theorem kX8_allWishes_4 : chL mX8_allWishes 4 bX8_allWishes_4 = true := by decide +kernel
def bX8_allWishes_30 : List AI := [(.iload_n 1, [], []), (.ireturn, [0], [])]
theorem kX8_allWishes_30 : chL mX8_allWishes 30 bX8_allWishes_30 = true := by decide +kernel
def bX8_greatestWish_0 : List AI := [(.iconst 0, [], []), (.istore_n 1, [], []), (.iconst 0, [], []), (.istore_n 2, [], []), (.nop, [4], [])]
theorem kX8_greatestWish_0 : chL mX8_greatestWish 0 bX8_greatestWish_0 = true := by decide +kernel
def bX8_greatestWish_4 : List AI := [(.iload_n 2, [], []), (.aload_n 0, [], []), (.getfield 29, [0, 8, 0, 187], []), (.if_icmp .ge 23, [32], []), (.iload_n 1, [], []), (.aload_n 0, [], []), (.getfield 11, [2, 8, 6, 213], []), (.iload_n 2, [], []), (.aaload, [0], []), (.getfield 62, [0, 2, 2, 143], []), (.invokestatic 65, [5, 964, 509, 101, 510], []), (.istore_n 1, [], []), (.iinc 2 1, [], []), (.goto (-25), [4], [])]
theorem kX8_greatestWish_4 : chL mX8_greatestWish 4 bX8_greatestWish_4 = true := by decide +kernel
def bX8_greatestWish_32 : List AI := [(.iload_n 1, [], []), (.ireturn, [0], [])]
theorem kX8_greatestWish_32 : chL mX8_greatestWish 32 bX8_greatestWish_32 = true := by decide +kernel
def bX8_fuelFor_0 : List AI := [(.aload_n 0, [], []), (.getfield 17, [2, 8, 7, 220], []), (.iload_n 2, [], []), (.iaload, [0], []), (.istore_n 3, [], []), (.iload_n 3, [], []), (.iconst 1, [], []), (.if_icmp .ge 7, [16], []), (.iconst 0, [], []), (.goto 11, [24], [])]
theorem kX8_fuelFor_0 : chL mX8_fuelFor 0 bX8_fuelFor_0 = true := by decide +kernel
def bX8_fuelFor_16 : List AI := [(.aload_n 0, [], []), (.getfield 26, [0, 8, 3, 204], []), (.iload_n 1, [], []), (.imul, [], []), (.iload_n 3, [], []), (.idiv, [], []), (.nop, [24], [])]
theorem kX8_fuelFor_16 : chL mX8_fuelFor 16 bX8_fuelFor_16 = true := by decide +kernel
def bX8_fuelFor_24 : List AI := [(.ireturn, [0], [])]
theorem kX8_fuelFor_24 : chL mX8_fuelFor 24 bX8_fuelFor_24 = true := by decide +kernel
def bX8_hindrance_0 : List AI := [(.iconst 0, [], []), (.istore_n 3, [], []), (.lconst 0, [], []), (.lstore 4, [], []), (.iconst 0, [], []), (.istore 6, [], []), (.nop, [8], [])]
theorem kX8_hindrance_0 : chL mX8_hindrance 0 bX8_hindrance_0 = true := by decide +kernel
def bX8_hindrance_8 : List AI := [(.iload 6, [], []), (.aload_n 0, [], []), (.getfield 29, [0, 8, 0, 187], []), (.if_icmp .ge 64, [78], []), (.aload_n 2, [], []), (.iload 6, [], []), (.laload, [], []), (.lconst 0, [], []), (.lcmp, [], []), (.ifCond .lt 22, [45], []), (.aload_n 2, [], []), (.iload 6, [], []), (.laload, [], []), (.aload_n 0, [], []), (.getfield 11, [2, 8, 6, 213], []), (.iload 6, [], []), (.aaload, [0], []), (.getfield 71, [0, 2, 1, 137], []), (.i2l, [], []), (.lcmp, [], []), (.ifCond .le 5, [47], []), (.nop, [45], [])]
theorem kX8_hindrance_8 : chL mX8_hindrance 8 bX8_hindrance_8 = true := by decide +kernel
def bX8_hindrance_45 : List AI := [(.iconst 1, [], []), (.ireturn, [0], [])]
theorem kX8_hindrance_45 : chL mX8_hindrance 45 bX8_hindrance_45 = true := by decide +kernel
def bX8_hindrance_47 : List AI := [(.aload_n 2, [], []), (.iload 6, [], []), (.laload, [], []), (.lconst 0, [], []), (.lcmp, [], []), (.ifCond .le 10, [63], []), (.iload_n 3, [], []), (.iconst 1, [], []), (.iload 6, [], []), (.ishl, [], []), (.ior, [], []), (.istore_n 3, [], []), (.nop, [63], [])]
theorem kX8_hindrance_47 : chL mX8_hindrance 47 bX8_hindrance_47 = true := by decide +kernel
def bX8_hindrance_63 : List AI := [(.lload 4, [], []), (.aload_n 2, [], []), (.iload 6, [], []), (.laload, [], []), (.ladd, [], []), (.lstore 4, [], []), (.iinc 6 1, [], []), (.goto (-67), [8], [])]
theorem kX8_hindrance_63 : chL mX8_hindrance 63 bX8_hindrance_63 = true := by decide +kernel
def bX8_hindrance_78 : List AI := [(.iconst 0, [], []), (.istore 6, [], []), (.nop, [81], [])]
theorem kX8_hindrance_78 : chL mX8_hindrance 78 bX8_hindrance_78 = true := by decide +kernel
def bX8_hindrance_81 : List AI := [(.iload 6, [], []), (.aload_n 0, [], []), (.getfield 29, [0, 8, 0, 187], []), (.if_icmp .ge 35, [122], []), (.iload_n 3, [], []), (.iload 6, [], []), (.ishr, [], []), (.iconst 1, [], []), (.iand, [], []), (.ifCond .eq 20, [116], []), (.aload_n 0, [], []), (.getfield 11, [2, 8, 6, 213], []), (.iload 6, [], []), (.aaload, [0], []), (.getfield 74, [0, 2, 6, 157], []), (.iload_n 3, [], []), (.iand, [], []), (.ifCond .eq 5, [116], []), (.iconst 2, [], []), (.ireturn, [0], [])]
theorem kX8_hindrance_81 : chL mX8_hindrance 81 bX8_hindrance_81 = true := by decide +kernel
def bX8_hindrance_116 : List AI := [(.iinc 6 1, [], []), (.goto (-38), [81], [])]
theorem kX8_hindrance_116 : chL mX8_hindrance 116 bX8_hindrance_116 = true := by decide +kernel
def bX8_hindrance_122 : List AI := [(.lload 4, [], []), (.aload_n 0, [], []), (.getfield 17, [2, 8, 7, 220], []), (.iload_n 1, [], []), (.iaload, [0], []), (.i2l, [], []), (.lcmp, [], []), (.ifCond .ne 7, [139], []), (.iconst 0, [], []), (.goto 4, [140], [])]
theorem kX8_hindrance_122 : chL mX8_hindrance 122 bX8_hindrance_122 = true := by decide +kernel
def bX8_hindrance_139 : List AI := [(.iconst 3, [], []), (.nop, [140], [])]
theorem kX8_hindrance_139 : chL mX8_hindrance 139 bX8_hindrance_139 = true := by decide +kernel
def bX8_hindrance_140 : List AI := [(.ireturn, [0], [])]
theorem kX8_hindrance_140 : chL mX8_hindrance 140 bX8_hindrance_140 = true := by decide +kernel
def bX8_bake_0 : List AI := [(.iconst 0, [], []), (.istore_n 3, [], []), (.iconst 0, [], []), (.istore 4, [], []), (.nop, [5], [])]
theorem kX8_bake_0 : chL mX8_bake 0 bX8_bake_0 = true := by decide +kernel
def bX8_bake_5 : List AI := [(.iload 4, [], []), (.aload_n 0, [], []), (.getfield 29, [0, 8, 0, 187], []), (.if_icmp .ge 81, [92], []), (.aload_n 2, [], []), (.iload 4, [], []), (.laload, [], []), (.l2i, [], []), (.istore 5, [], []), (.aload_n 0, [], []), (.iload 5, [], []), (.iload_n 1, [], []), (.invokevirtual 77, [0, 2, 0, 0, 8, 718, 715, 716, 717, 91], [mX8_fuelFor]), (.istore 6, [], []), (.aload_n 0, [], []), (.getfield 11, [2, 8, 6, 213], []), (.iload 4, [], []), (.aaload, [0], []), (.dup, [], []), (.getfield 71, [0, 2, 1, 137], []), (.iload 5, [], []), (.isub, [], []), (.putfield 71, [0, 2, 1, 137], []), (.aload_n 0, [], []), (.getfield 11, [2, 8, 6, 213], []), (.iload 4, [], []), (.aaload, [0], []), (.getfield 80, [2, 2, 7, 162], []), (.iconst 0, [], []), (.dup2, [0], []), (.iaload, [0], []), (.iload 5, [], []), (.iadd, [], []), (.iastore, [], []), (.aload_n 0, [], []), (.getfield 11, [2, 8, 6, 213], []), (.iload 4, [], []), (.aaload, [0], []), (.dup, [], []), (.getfield 83, [0, 2, 3, 146], []), (.iload 6, [], []), (.iadd, [], []), (.putfield 83, [0, 2, 3, 146], []), (.iload_n 3, [], []), (.iload 6, [], []), (.iadd, [], []), (.istore_n 3, [], []), (.iinc 4 1, [], []), (.goto (-84), [5], [])]
theorem kX8_bake_5 : chL mX8_bake 5 bX8_bake_5 = true := by decide +kernel
def bX8_bake_92 : List AI := [(.iload_n 3, [], []), (.ireturn, [0], [])]
theorem kX8_bake_92 : chL mX8_bake 92 bX8_bake_92 = true := by decide +kernel
def bX8_dropWishes_0 : List AI := [(.iconst 0, [], []), (.istore_n 2, [], []), (.nop, [2], [])]
theorem kX8_dropWishes_0 : chL mX8_dropWishes 0 bX8_dropWishes_0 = true := by decide +kernel
def bX8_dropWishes_2 : List AI := [(.iload_n 2, [], []), (.aload_n 0, [], []), (.getfield 29, [0, 8, 0, 187], []), (.if_icmp .ge 27, [34], []), (.iload_n 1, [], []), (.iload_n 2, [], []), (.ishr, [], []), (.iconst 1, [], []), (.iand, [], []), (.ifCond .eq 13, [28], []), (.aload_n 0, [], []), (.getfield 11, [2, 8, 6, 213], []), (.iload_n 2, [], []), (.aaload, [0], []), (.iconst 0, [], []), (.putfield 62, [0, 2, 2, 143], []), (.nop, [28], [])]
theorem kX8_dropWishes_2 : chL mX8_dropWishes 2 bX8_dropWishes_2 = true := by decide +kernel
def bX8_dropWishes_28 : List AI := [(.iinc 2 1, [], []), (.goto (-29), [2], [])]
theorem kX8_dropWishes_28 : chL mX8_dropWishes 28 bX8_dropWishes_28 = true := by decide +kernel
def bX8_dropWishes_34 : List AI := [(.return_, [], [])]
theorem kX8_dropWishes_34 : chL mX8_dropWishes 34 bX8_dropWishes_34 = true := by decide +kernel
def bX8_endDay_0 : List AI := [(.iconst 0, [], []), (.istore_n 1, [], []), (.iconst 0, [], []), (.istore_n 2, [], []), (.nop, [4], [])]
theorem kX8_endDay_0 : chL mX8_endDay 0 bX8_endDay_0 = true := by decide +kernel
def bX8_endDay_4 : List AI := [(.iload_n 2, [], []), (.aload_n 0, [], []), (.getfield 29, [0, 8, 0, 187], []), (.if_icmp .ge 65, [74], []), (.aload_n 0, [], []), (.getfield 11, [2, 8, 6, 213], []), (.iload_n 2, [], []), (.aaload, [0], []), (.invokevirtual 86, [0, 0, 0, 0, 2, 765, 762, 763, 764, 92], [mX2_eat]), (.istore_n 3, [], []), (.aload_n 0, [], []), (.getfield 11, [2, 8, 6, 213], []), (.iload_n 2, [], []), (.aaload, [0], []), (.dup, [], []), (.getfield 89, [0, 2, 4, 149], []), (.iload_n 3, [], []), (.iadd, [], []), (.putfield 89, [0, 2, 4, 149], []), (.aload_n 0, [], []), (.getfield 11, [2, 8, 6, 213], []), (.iload_n 2, [], []), (.aaload, [0], []), (.dup, [], []), (.getfield 92, [0, 2, 5, 152], []), (.aload_n 0, [], []), (.getfield 11, [2, 8, 6, 213], []), (.iload_n 2, [], []), (.aaload, [0], []), (.aload_n 0, [], []), (.getfield 22, [0, 8, 2, 200], []), (.invokevirtual 95, [0, 1, 0, 0, 2, 770, 767, 768, 769, 92], [mX2_ageBread]), (.iadd, [], []), (.putfield 92, [0, 2, 5, 152], []), (.iload_n 1, [], []), (.iload_n 3, [], []), (.iadd, [], []), (.istore_n 1, [], []), (.iinc 2 1, [], []), (.goto (-67), [4], [])]
theorem kX8_endDay_4 : chL mX8_endDay 4 bX8_endDay_4 = true := by decide +kernel
def bX8_endDay_74 : List AI := [(.aload_n 0, [], []), (.dup, [], []), (.getfield 35, [0, 8, 4, 208], []), (.iconst 1, [], []), (.iadd, [], []), (.putfield 35, [0, 8, 4, 208], []), (.iload_n 1, [], []), (.ireturn, [0], [])]
theorem kX8_endDay_74 : chL mX8_endDay 74 bX8_endDay_74 = true := by decide +kernel
def bX8_giveFlour_0 : List AI := [(.aload_n 0, [], []), (.getfield 11, [2, 8, 6, 213], []), (.iload_n 1, [], []), (.aaload, [0], []), (.astore 4, [], []), (.aload_n 0, [], []), (.getfield 11, [2, 8, 6, 213], []), (.iload_n 2, [], []), (.aaload, [0], []), (.astore 5, [], []), (.aload 4, [], []), (.dup, [], []), (.getfield 71, [0, 2, 1, 137], []), (.iload_n 3, [], []), (.isub, [], []), (.putfield 71, [0, 2, 1, 137], []), (.aload 5, [], []), (.dup, [], []), (.getfield 71, [0, 2, 1, 137], []), (.iload_n 3, [], []), (.iadd, [], []), (.putfield 71, [0, 2, 1, 137], []), (.aload 4, [], []), (.getfield 59, [2, 2, 8, 165], []), (.iload_n 2, [], []), (.iaload, [0], []), (.iload_n 3, [], []), (.invokestatic 99, [4, 1002, 506, 101, 507], []), (.istore 6, [], []), (.aload 4, [], []), (.getfield 59, [2, 2, 8, 165], []), (.iload_n 2, [], []), (.dup2, [0], []), (.iaload, [0], []), (.iload 6, [], []), (.isub, [], []), (.iastore, [], []), (.aload 5, [], []), (.getfield 59, [2, 2, 8, 165], []), (.iload_n 1, [], []), (.dup2, [0], []), (.iaload, [0], []), (.iload_n 3, [], []), (.iload 6, [], []), (.isub, [], []), (.iadd, [], []), (.iastore, [], []), (.aload 5, [], []), (.getfield 59, [2, 2, 8, 165], []), (.iload_n 1, [], []), (.iaload, [0], []), (.ireturn, [0], [])]
theorem kX8_giveFlour_0 : chL mX8_giveFlour 0 bX8_giveFlour_0 = true := by decide +kernel
def bX8_unite_0 : List AI := [(.aload_n 0, [], []), (.getfield 11, [2, 8, 6, 213], []), (.iload_n 2, [], []), (.aaload, [0], []), (.astore_n 3, [], []), (.aload_n 0, [], []), (.getfield 11, [2, 8, 6, 213], []), (.iload_n 1, [], []), (.aaload, [0], []), (.aload_n 3, [], []), (.invokevirtual 102, [0, 1, 0, 0, 2, 1125, 1122, 1123, 1124, 92], [mX2_absorb]), (.iconst 0, [], []), (.istore 4, [], []), (.nop, [20], [])]
theorem kX8_unite_0 : chL mX8_unite 0 bX8_unite_0 = true := by decide +kernel
def bX8_unite_20 : List AI := [(.iload 4, [], []), (.aload_n 0, [], []), (.getfield 29, [0, 8, 0, 187], []), (.if_icmp .ge 21, [47], []), (.aload_n 0, [], []), (.getfield 11, [2, 8, 6, 213], []), (.iload 4, [], []), (.aaload, [0], []), (.iload_n 1, [], []), (.iload_n 2, [], []), (.invokevirtual 105, [0, 2, 0, 0, 2, 1129, 1126, 1127, 1128, 92], [mX2_turnTo]), (.iinc 4 1, [], []), (.goto (-24), [20], [])]
theorem kX8_unite_20 : chL mX8_unite 20 bX8_unite_20 = true := by decide +kernel
def bX8_unite_47 : List AI := [(.aload_n 0, [], []), (.getfield 11, [2, 8, 6, 213], []), (.iload_n 1, [], []), (.aaload, [0], []), (.getfield 59, [2, 2, 8, 165], []), (.iload_n 1, [], []), (.iconst 0, [], []), (.iastore, [], []), (.iload_n 2, [], []), (.istore 4, [], []), (.nop, [62], [])]
theorem kX8_unite_47 : chL mX8_unite 47 bX8_unite_47 = true := by decide +kernel
def bX8_unite_62 : List AI := [(.iload 4, [], []), (.aload_n 0, [], []), (.getfield 29, [0, 8, 0, 187], []), (.iconst 1, [], []), (.isub, [], []), (.if_icmp .ge 25, [95], []), (.aload_n 0, [], []), (.getfield 11, [2, 8, 6, 213], []), (.iload 4, [], []), (.aload_n 0, [], []), (.getfield 11, [2, 8, 6, 213], []), (.iload 4, [], []), (.iconst 1, [], []), (.iadd, [], []), (.aaload, [0], []), (.aastore, [0], []), (.iinc 4 1, [], []), (.goto (-30), [62], [])]
theorem kX8_unite_62 : chL mX8_unite 62 bX8_unite_62 = true := by decide +kernel
def bX8_unite_95 : List AI := [(.aload_n 0, [], []), (.dup, [], []), (.getfield 29, [0, 8, 0, 187], []), (.iconst 1, [], []), (.isub, [], []), (.putfield 29, [0, 8, 0, 187], []), (.aload_n 0, [], []), (.getfield 11, [2, 8, 6, 213], []), (.aload_n 0, [], []), (.getfield 29, [0, 8, 0, 187], []), (.aload_n 3, [], []), (.aastore, [0], []), (.return_, [], [])]
theorem kX8_unite_95 : chL mX8_unite 95 bX8_unite_95 = true := by decide +kernel
def bX0_init_0 : List AI := [(.aload_n 0, [], []), (.invokespecial 3, [2, 314, 115, 116], []), (.aload_n 0, [], []), (.bipush 10, [], []), (.newarray .long, [2, 270], []), (.putfield 9, [2, 0, 3, 321], []), (.return_, [], [])]
theorem kX0_init_0 : chL mX0_init 0 bX0_init_0 = true := by decide +kernel
def bX0_bakeRow_0 : List AI := [(.aload_n 3, [], []), (.getfield 15, [2, 6, 3, 259], []), (.iconst 0, [], []), (.aload_n 0, [], []), (.getfield 9, [2, 0, 3, 321], []), (.iconst 0, [], []), (.bipush 10, [], []), (.invokestatic 20, [2, 706, 631, 630, 107], []), (.aload_n 1, [], []), (.iload_n 2, [], []), (.aload_n 0, [], []), (.getfield 9, [2, 0, 3, 321], []), (.invokevirtual 26, [0, 2, 0, 0, 8, 710, 707, 708, 709, 91], [mX8_hindrance]), (.istore 4, [], []), (.iload 4, [], []), (.ifCond .ne 15, [43], []), (.aload_n 1, [], []), (.iload_n 2, [], []), (.aload_n 0, [], []), (.getfield 9, [2, 0, 3, 321], []), (.invokevirtual 32, [0, 2, 0, 0, 8, 714, 711, 712, 713, 91], [mX8_bake]), (.goto 8, [48], [])]
theorem kX0_bakeRow_0 : chL mX0_bakeRow 0 bX0_bakeRow_0 = true := by decide +kernel
def bX0_bakeRow_43 : List AI := [(.bipush (-10), [], []), (.iload 4, [], []), (.isub, [], []), (.nop, [48], [])]
theorem kX0_bakeRow_43 : chL mX0_bakeRow 43 bX0_bakeRow_43 = true := by decide +kernel
def bX0_bakeRow_48 : List AI := [(.ireturn, [0], [])]
theorem kX0_bakeRow_48 : chL mX0_bakeRow 48 bX0_bakeRow_48 = true := by decide +kernel
def bX0_bakeWishes_0 : List AI := [(.iconst 0, [], []), (.istore 4, [], []), (.nop, [3], [])]
theorem kX0_bakeWishes_0 : chL mX0_bakeWishes 0 bX0_bakeWishes_0 = true := by decide +kernel
def bX0_bakeWishes_3 : List AI := [(.iload 4, [], []), (.aload_n 1, [], []), (.getfield 35, [0, 8, 0, 190], []), (.if_icmp .ge 40, [49], []), (.aload_n 0, [], []), (.getfield 9, [2, 0, 3, 321], []), (.iload 4, [], []), (.iload_n 3, [], []), (.iload 4, [], []), (.ishr, [], []), (.iconst 1, [], []), (.iand, [], []), (.ifCond .eq 17, [41], []), (.aload_n 1, [], []), (.getfield 39, [2, 8, 6, 215], []), (.iload 4, [], []), (.aaload, [0], []), (.getfield 43, [0, 2, 2, 140], []), (.i2l, [], []), (.goto 4, [42], [])]
theorem kX0_bakeWishes_3 : chL mX0_bakeWishes 3 bX0_bakeWishes_3 = true := by decide +kernel
def bX0_bakeWishes_41 : List AI := [(.lconst 0, [], []), (.nop, [42], [])]
theorem kX0_bakeWishes_41 : chL mX0_bakeWishes 41 bX0_bakeWishes_41 = true := by decide +kernel
def bX0_bakeWishes_42 : List AI := [(.lastore, [], []), (.iinc 4 1, [], []), (.goto (-43), [3], [])]
theorem kX0_bakeWishes_42 : chL mX0_bakeWishes 42 bX0_bakeWishes_42 = true := by decide +kernel
def bX0_bakeWishes_49 : List AI := [(.aload_n 1, [], []), (.iload_n 2, [], []), (.aload_n 0, [], []), (.getfield 9, [2, 0, 3, 321], []), (.invokevirtual 26, [0, 2, 0, 0, 8, 710, 707, 708, 709, 91], [mX8_hindrance]), (.istore 4, [], []), (.iload 4, [], []), (.ifCond .eq 9, [71], []), (.bipush (-10), [], []), (.iload 4, [], []), (.isub, [], []), (.ireturn, [0], [])]
theorem kX0_bakeWishes_49 : chL mX0_bakeWishes 49 bX0_bakeWishes_49 = true := by decide +kernel
def bX0_bakeWishes_71 : List AI := [(.aload_n 1, [], []), (.iload_n 3, [], []), (.invokevirtual 48, [0, 1, 0, 0, 8, 734, 731, 732, 733, 91], [mX8_dropWishes]), (.aload_n 1, [], []), (.iload_n 2, [], []), (.aload_n 0, [], []), (.getfield 9, [2, 0, 3, 321], []), (.invokevirtual 32, [0, 2, 0, 0, 8, 714, 711, 712, 713, 91], [mX8_bake]), (.ireturn, [0], [])]
theorem kX0_bakeWishes_71 : chL mX0_bakeWishes 71 bX0_bakeWishes_71 = true := by decide +kernel
def bX0_bakeAll_0 : List AI := [(.aload_n 0, [], []), (.iconst 0, [], []), (.putfield 52, [0, 0, 0, 315], []), (.aload_n 0, [], []), (.iconst 0, [], []), (.putfield 55, [0, 0, 1, 317], []), (.aload_n 0, [], []), (.iconst 0, [], []), (.putfield 58, [0, 0, 2, 319], []), (.iconst 0, [], []), (.istore_n 3, [], []), (.nop, [17], [])]
theorem kX0_bakeAll_0 : chL mX0_bakeAll 0 bX0_bakeAll_0 = true := by decide +kernel
def bX0_bakeAll_17 : List AI := [(.iload_n 3, [], []), (.aload_n 2, [], []), (.getfield 61, [0, 6, 2, 256], []), (.if_icmp .ge 31, [53], []), (.aload_n 0, [], []), (.getfield 55, [0, 0, 1, 317], []), (.ifCond .ne 24, [53], []), (.aload_n 0, [], []), (.aload_n 0, [], []), (.aload_n 1, [], []), (.aload_n 2, [], []), (.getfield 15, [2, 6, 3, 259], []), (.iload_n 3, [], []), (.laload, [], []), (.invokevirtual 64, [0, 2, 0, 0, 0, 746, 743, 745, 12, 95], [mX0_bakeTold]), (.putfield 55, [0, 0, 1, 317], []), (.iinc 3 1, [], []), (.goto (-33), [17], [])]
theorem kX0_bakeAll_17 : chL mX0_bakeAll 17 bX0_bakeAll_17 = true := by decide +kernel
def bX0_bakeAll_53 : List AI := [(.return_, [], [])]
theorem kX0_bakeAll_53 : chL mX0_bakeAll 53 bX0_bakeAll_53 = true := by decide +kernel
def bX0_bakeTold_0 : List AI := [(.lload_n 2, [], []), (.bipush 10, [], []), (.lshr, [], []), (.lstore 4, [], []), (.lload_n 2, [], []), (.ldc2_w 68, [1023, 747], []), (.land, [], []), (.l2i, [], []), (.istore 6, [], []), (.lload 4, [], []), (.lconst 0, [], []), (.lcmp, [], []), (.ifCond .lt 23, [41], []), (.lload 4, [], []), (.aload_n 1, [], []), (.getfield 70, [0, 8, 1, 197], []), (.i2l, [], []), (.lcmp, [], []), (.ifCond .ge 12, [41], []), (.aload_n 1, [], []), (.iload 6, [], []), (.invokevirtual 73, [0, 1, 0, 0, 8, 726, 748, 724, 725, 91], [mX8_hasSet]), (.ifCond .ne 5, [43], []), (.nop, [41], [])]
theorem kX0_bakeTold_0 : chL mX0_bakeTold 0 bX0_bakeTold_0 = true := by decide +kernel
def bX0_bakeTold_41 : List AI := [(.iconst 4, [], []), (.ireturn, [0], [])]
theorem kX0_bakeTold_41 : chL mX0_bakeTold 41 bX0_bakeTold_41 = true := by decide +kernel
def bX0_bakeTold_43 : List AI := [(.aload_n 0, [], []), (.aload_n 1, [], []), (.lload 4, [], []), (.l2i, [], []), (.iload 6, [], []), (.invokevirtual 77, [0, 3, 0, 0, 0, 730, 749, 728, 729, 95], [mX0_bakeWishes]), (.istore 7, [], []), (.iload 7, [], []), (.ifCond .ge 9, [66], []), (.bipush (-10), [], []), (.iload 7, [], []), (.isub, [], []), (.ireturn, [0], [])]
theorem kX0_bakeTold_43 : chL mX0_bakeTold 43 bX0_bakeTold_43 = true := by decide +kernel
def bX0_bakeTold_66 : List AI := [(.aload_n 0, [], []), (.dup, [], []), (.getfield 52, [0, 0, 0, 315], []), (.iconst 1, [], []), (.iadd, [], []), (.putfield 52, [0, 0, 0, 315], []), (.aload_n 0, [], []), (.dup, [], []), (.getfield 58, [0, 0, 2, 319], []), (.aload_n 1, [], []), (.getfield 81, [2, 8, 7, 224], []), (.lload 4, [], []), (.l2i, [], []), (.iaload, [0], []), (.iadd, [], []), (.putfield 58, [0, 0, 2, 319], []), (.iconst 0, [], []), (.ireturn, [0], [])]
theorem kX0_bakeTold_66 : chL mX0_bakeTold 66 bX0_bakeTold_66 = true := by decide +kernel
