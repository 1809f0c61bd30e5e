def bX10_within_0 : List AI := [(.lload_n 0, [], []), (.lload_n 2, [], []), (.lcmp, [], []), (.ifCond .lt 14, [17], []), (.lload_n 0, [], []), (.lload 4, [], []), (.lcmp, [], []), (.ifCond .gt 7, [17], []), (.iconst 1, [], []), (.goto 4, [18], [])]
theorem kX10_within_0 : chL mX10_within 0 bX10_within_0 = true := by decide +kernel
def bX10_within_17 : List AI := [(.iconst 0, [], []), (.nop, [18], [])]
theorem kX10_within_17 : chL mX10_within 17 bX10_within_17 = true := by decide +kernel
def bX10_within_18 : List AI := [(.ireturn, [1], [])]
theorem kX10_within_18 : chL mX10_within 18 bX10_within_18 = true := by decide +kernel
def bX10_init_0 : List AI := [(.aload_n 0, [], []), (.invokespecial 7, [2, 1188, 115, 116], []), (.aload_n 0, [], []), (.sipush 957, [], []), (.newarray .int, [1, 186], []), (.putfield 13, [2, 10, 1, 1193], []), (.aload_n 0, [], []), (.iconst 2, [], []), (.newarray .boolean, [4, 269], []), (.putfield 17, [2, 10, 2, 1194], []), (.aload_n 0, [], []), (.sipush 900, [], []), (.newarray .int, [1, 186], []), (.putfield 21, [2, 10, 3, 1195], []), (.aload_n 0, [], []), (.sipush 319, [], []), (.newarray .int, [1, 186], []), (.putfield 24, [2, 10, 4, 1196], []), (.aload_n 0, [], []), (.iconst (-1), [], []), (.putfield 27, [0, 10, 14, 1206], []), (.aload_n 0, [], []), (.bipush 10, [], []), (.newarray .long, [2, 270], []), (.putfield 30, [2, 10, 15, 1207], []), (.aload_n 0, [], []), (.sipush 319, [], []), (.newarray .int, [1, 186], []), (.putfield 34, [2, 10, 16, 1208], []), (.aload_n 0, [], []), (.iconst 5, [], []), (.newarray .int, [1, 186], []), (.putfield 37, [2, 10, 19, 1211], []), (.aload_n 0, [], []), (.sipush 4001, [], []), (.newarray .int, [1, 186], []), (.putfield 40, [2, 10, 20, 1212], []), (.aload_n 0, [], []), (.sipush 4001, [], []), (.newarray .int, [1, 186], []), (.putfield 43, [2, 10, 21, 1213], []), (.aload_n 0, [], []), (.sipush 1024, [], []), (.newarray .int, [1, 186], []), (.putfield 46, [2, 10, 22, 1214], []), (.aload_n 0, [], []), (.sipush 1024, [], []), (.newarray .int, [1, 186], []), (.putfield 49, [2, 10, 23, 1215], []), (.aload_n 0, [], []), (.sipush 1024, [], []), (.newarray .boolean, [4, 269], []), (.putfield 52, [2, 10, 24, 1216], []), (.aload_n 0, [], []), (.sipush 1024, [], []), (.newarray .int, [1, 186], []), (.putfield 55, [2, 10, 25, 1217], []), (.aload_n 0, [], []), (.bipush 8, [], []), (.newarray .int, [1, 186], []), (.putfield 58, [2, 10, 27, 1219], []), (.aload_n 0, [], []), (.bipush 10, [], []), (.newarray .int, [1, 186], []), (.putfield 61, [2, 10, 28, 1220], []), (.aload_n 0, [], []), (.bipush 10, [], []), (.newarray .int, [1, 186], []), (.putfield 64, [2, 10, 30, 1222], []), (.aload_n 0, [], []), (.bipush 10, [], []), (.newarray .int, [1, 186], []), (.putfield 67, [2, 10, 31, 1223], []), (.aload_n 0, [], []), (.bipush 7, [], []), (.newarray .int, [1, 186], []), (.putfield 70, [2, 10, 33, 1225], []), (.aload_n 0, [], []), (.bipush 7, [], []), (.newarray .int, [1, 186], []), (.putfield 73, [2, 10, 34, 1226], []), (.aload_n 0, [], []), (.iconst 4, [], []), (.newarray .int, [1, 186], []), (.dup, [], []), (.iconst 0, [], []), (.iconst (-1), [], []), (.iastore, [], []), (.dup, [], []), (.iconst 1, [], []), (.iconst (-1), [], []), (.iastore, [], []), (.dup, [], []), (.iconst 2, [], []), (.iconst (-1), [], []), (.iastore, [], []), (.dup, [], []), (.iconst 3, [], []), (.iconst (-1), [], []), (.iastore, [], []), (.putfield 76, [2, 10, 40, 1232], []), (.aload_n 0, [], []), (.iconst 4, [], []), (.newarray .int, [1, 186], []), (.putfield 79, [2, 10, 41, 1233], []), (.aload_n 0, [], []), (.sipush 160, [], []), (.newarray .long, [2, 270], []), (.putfield 82, [2, 10, 42, 1234], []), (.aload_n 0, [], []), (.getfield 13, [2, 10, 1, 1193], []), (.invokestatic 85, [0, 1, 0, 0, 1191, 1189, 1190, 100], [mX10_plain]), (.return_, [], [])]
theorem kX10_init_0 : chL mX10_init 0 bX10_init_0 = true := by decide +kernel
def bX10_plain_0 : List AI := [(.iconst 0, [], []), (.istore_n 1, [], []), (.nop, [2], [])]
theorem kX10_plain_0 : chL mX10_plain 0 bX10_plain_0 = true := by decide +kernel
def bX10_plain_2 : List AI := [(.iload_n 1, [], []), (.sipush 319, [], []), (.if_icmp .ge 13, [19], []), (.aload_n 0, [], []), (.iload_n 1, [], []), (.iconst 0, [], []), (.iastore, [], []), (.iinc 1 1, [], []), (.goto (-14), [2], [])]
theorem kX10_plain_2 : chL mX10_plain 2 bX10_plain_2 = true := by decide +kernel
def bX10_plain_19 : List AI := [(.aload_n 0, [], []), (.iconst 3, [], []), (.iconst 3, [], []), (.iastore, [], []), (.aload_n 0, [], []), (.iconst 4, [], []), (.bipush 20, [], []), (.iastore, [], []), (.return_, [], [])]
theorem kX10_plain_19 : chL mX10_plain 19 bX10_plain_19 = true := by decide +kernel
def bX10_feed_0 : List AI := [(.aload_n 0, [], []), (.iconst 0, [], []), (.putfield 1, [0, 10, 0, 1192], []), (.aload_n 0, [], []), (.getfield 89, [0, 10, 5, 1197], []), (.bipush 20, [], []), (.iadd, [], []), (.sipush 900, [], []), (.if_icmp .le 6, [21], []), (.bipush (-5), [], []), (.ireturn, [0], [])]
theorem kX10_feed_0 : chL mX10_feed 0 bX10_feed_0 = true := by decide +kernel
def bX10_feed_21 : List AI := [(.iconst 0, [], []), (.istore 6, [], []), (.nop, [24], [])]
theorem kX10_feed_21 : chL mX10_feed 21 bX10_feed_21 = true := by decide +kernel
def bX10_feed_24 : List AI := [(.iload 6, [], []), (.bipush 20, [], []), (.if_icmp .ge 93, [121], []), (.iload 6, [], []), (.iconst 4, [], []), (.if_icmp .ge 7, [41], []), (.iload_n 1, [], []), (.goto 39, [77], [])]
theorem kX10_feed_24 : chL mX10_feed 24 bX10_feed_24 = true := by decide +kernel
def bX10_feed_41 : List AI := [(.iload 6, [], []), (.bipush 8, [], []), (.if_icmp .ge 7, [52], []), (.iload_n 2, [], []), (.goto 28, [77], [])]
theorem kX10_feed_41 : chL mX10_feed 41 bX10_feed_41 = true := by decide +kernel
def bX10_feed_52 : List AI := [(.iload 6, [], []), (.bipush 12, [], []), (.if_icmp .ge 7, [63], []), (.iload_n 3, [], []), (.goto 17, [77], [])]
theorem kX10_feed_52 : chL mX10_feed 52 bX10_feed_52 = true := by decide +kernel
def bX10_feed_63 : List AI := [(.iload 6, [], []), (.bipush 16, [], []), (.if_icmp .ge 8, [75], []), (.iload 4, [], []), (.goto 5, [77], [])]
theorem kX10_feed_63 : chL mX10_feed 63 bX10_feed_63 = true := by decide +kernel
def bX10_feed_75 : List AI := [(.iload 5, [], []), (.nop, [77], [])]
theorem kX10_feed_75 : chL mX10_feed 75 bX10_feed_75 = true := by decide +kernel
def bX10_feed_77 : List AI := [(.istore 7, [], []), (.aload_n 0, [], []), (.getfield 21, [2, 10, 3, 1195], []), (.aload_n 0, [], []), (.getfield 89, [0, 10, 5, 1197], []), (.iload 7, [], []), (.bipush 24, [], []), (.bipush 8, [], []), (.iload 6, [], []), (.iconst 4, [], []), (.irem, [], []), (.imul, [], []), (.isub, [], []), (.ishr, [], []), (.sipush 255, [], []), (.iand, [], []), (.iastore, [], []), (.aload_n 0, [], []), (.dup, [], []), (.getfield 89, [0, 10, 5, 1197], []), (.iconst 1, [], []), (.iadd, [], []), (.putfield 89, [0, 10, 5, 1197], []), (.iinc 6 1, [], []), (.goto (-94), [24], [])]
theorem kX10_feed_77 : chL mX10_feed 77 bX10_feed_77 = true := by decide +kernel
def bX10_feed_121 : List AI := [(.aload_n 0, [], []), (.getfield 89, [0, 10, 5, 1197], []), (.ireturn, [0], [])]
theorem kX10_feed_121 : chL mX10_feed 121 bX10_feed_121 = true := by decide +kernel
def bX10_see_0 : List AI := [(.iload_n 1, [], []), (.aload_n 0, [], []), (.getfield 92, [0, 10, 8, 1200], []), (.if_icmp .ge 12, [17], []), (.aload_n 0, [], []), (.getfield 21, [2, 10, 3, 1195], []), (.iload_n 1, [], []), (.iaload, [0], []), (.goto 4, [18], [])]
theorem kX10_see_0 : chL mX10_see 0 bX10_see_0 = true := by decide +kernel
def bX10_see_17 : List AI := [(.iconst (-1), [], []), (.nop, [18], [])]
theorem kX10_see_17 : chL mX10_see 17 bX10_see_17 = true := by decide +kernel
def bX10_see_18 : List AI := [(.ireturn, [0], [])]
theorem kX10_see_18 : chL mX10_see 18 bX10_see_18 = true := by decide +kernel
def bX10_isSmall_0 : List AI := [(.iload_n 0, [], []), (.bipush 97, [], []), (.if_icmp .lt 13, [16], []), (.iload_n 0, [], []), (.bipush 122, [], []), (.if_icmp .gt 7, [16], []), (.iconst 1, [], []), (.goto 4, [17], [])]
theorem kX10_isSmall_0 : chL mX10_isSmall 0 bX10_isSmall_0 = true := by decide +kernel
def bX10_isSmall_16 : List AI := [(.iconst 0, [], []), (.nop, [17], [])]
theorem kX10_isSmall_16 : chL mX10_isSmall 16 bX10_isSmall_16 = true := by decide +kernel
def bX10_isSmall_17 : List AI := [(.ireturn, [1], [])]
theorem kX10_isSmall_17 : chL mX10_isSmall 17 bX10_isSmall_17 = true := by decide +kernel
def bX10_isDigit_0 : List AI := [(.iload_n 0, [], []), (.bipush 48, [], []), (.if_icmp .lt 13, [16], []), (.iload_n 0, [], []), (.bipush 57, [], []), (.if_icmp .gt 7, [16], []), (.iconst 1, [], []), (.goto 4, [17], [])]
theorem kX10_isDigit_0 : chL mX10_isDigit 0 bX10_isDigit_0 = true := by decide +kernel
def bX10_isDigit_16 : List AI := [(.iconst 0, [], []), (.nop, [17], [])]
theorem kX10_isDigit_16 : chL mX10_isDigit 16 bX10_isDigit_16 = true := by decide +kernel
def bX10_isDigit_17 : List AI := [(.ireturn, [1], [])]
theorem kX10_isDigit_17 : chL mX10_isDigit 17 bX10_isDigit_17 = true := by decide +kernel
def bX10_keyAt_0 : List AI := [(.iconst 0, [], []), (.istore_n 1, [], []), (.iconst 1, [], []), (.istore_n 2, [], []), (.nop, [4], [])]
theorem kX10_keyAt_0 : chL mX10_keyAt 0 bX10_keyAt_0 = true := by decide +kernel
def bX10_keyAt_4 : List AI := [(.iload_n 2, [], []), (.ldc 95, [1, 8], []), (.invokevirtual 97, [1, 0, 0, 0, 0, 538, 1349, 536, 537, 102], [mJ0_length_8abf5]), (.if_icmp .ge 113, [123], []), (.iconst 0, [], []), (.istore_n 3, [], []), (.nop, [15], [])]
theorem kX10_keyAt_4 : chL mX10_keyAt 4 bX10_keyAt_4 = true := by decide +kernel
def bX10_keyAt_15 : List AI := [(.ldc 95, [1, 8], []), (.iload_n 2, [], []), (.iload_n 3, [], []), (.iadd, [], []), (.invokevirtual 103, [1, 1, 0, 0, 0, 548, 1350, 546, 547, 102], [mJ0_charAt_5068e]), (.bipush 32, [], []), (.if_icmp .eq 44, [69], []), (.aload_n 0, [], []), (.getfield 107, [0, 10, 6, 1198], []), (.iload_n 3, [], []), (.iadd, [], []), (.aload_n 0, [], []), (.getfield 110, [0, 10, 7, 1199], []), (.if_icmp .ge 31, [69], []), (.aload_n 0, [], []), (.getfield 21, [2, 10, 3, 1195], []), (.aload_n 0, [], []), (.getfield 107, [0, 10, 6, 1198], []), (.iload_n 3, [], []), (.iadd, [], []), (.iaload, [0], []), (.ldc 95, [1, 8], []), (.iload_n 2, [], []), (.iload_n 3, [], []), (.iadd, [], []), (.invokevirtual 103, [1, 1, 0, 0, 0, 548, 1350, 546, 547, 102], [mJ0_charAt_5068e]), (.if_icmp .ne 9, [69], []), (.iinc 3 1, [], []), (.goto (-51), [15], [])]
theorem kX10_keyAt_15 : chL mX10_keyAt 15 bX10_keyAt_15 = true := by decide +kernel
def bX10_keyAt_69 : List AI := [(.ldc 95, [1, 8], []), (.iload_n 2, [], []), (.iload_n 3, [], []), (.iadd, [], []), (.invokevirtual 103, [1, 1, 0, 0, 0, 548, 1350, 546, 547, 102], [mJ0_charAt_5068e]), (.bipush 32, [], []), (.if_icmp .ne 18, [97], []), (.aload_n 0, [], []), (.getfield 107, [0, 10, 6, 1198], []), (.iload_n 3, [], []), (.iadd, [], []), (.aload_n 0, [], []), (.getfield 110, [0, 10, 7, 1199], []), (.if_icmp .ne 5, [97], []), (.iload_n 1, [], []), (.ireturn, [0], [])]
theorem kX10_keyAt_69 : chL mX10_keyAt 69 bX10_keyAt_69 = true := by decide +kernel
def bX10_keyAt_97 : List AI := [(.ldc 95, [1, 8], []), (.iload_n 2, [], []), (.invokevirtual 103, [1, 1, 0, 0, 0, 548, 1350, 546, 547, 102], [mJ0_charAt_5068e]), (.bipush 32, [], []), (.if_icmp .eq 9, [114], []), (.iinc 2 1, [], []), (.goto (-14), [97], [])]
theorem kX10_keyAt_97 : chL mX10_keyAt 97 bX10_keyAt_97 = true := by decide +kernel
def bX10_keyAt_114 : List AI := [(.iinc 2 1, [], []), (.iinc 1 1, [], []), (.goto (-116), [4], [])]
theorem kX10_keyAt_114 : chL mX10_keyAt 114 bX10_keyAt_114 = true := by decide +kernel
def bX10_keyAt_123 : List AI := [(.bipush 8, [], []), (.ireturn, [0], [])]
theorem kX10_keyAt_123 : chL mX10_keyAt 123 bX10_keyAt_123 = true := by decide +kernel
def bX10_next_0 : List AI := [(.aload_n 0, [], []), (.aload_n 0, [], []), (.getfield 110, [0, 10, 7, 1199], []), (.putfield 107, [0, 10, 6, 1198], []), (.nop, [8], [])]
theorem kX10_next_0 : chL mX10_next 0 bX10_next_0 = true := by decide +kernel
def bX10_next_8 : List AI := [(.aload_n 0, [], []), (.aload_n 0, [], []), (.getfield 107, [0, 10, 6, 1198], []), (.invokevirtual 113, [0, 1, 0, 0, 10, 1340, 1337, 1339, 38, 100], [mX10_see]), (.bipush 10, [], []), (.if_icmp .eq 16, [34], []), (.aload_n 0, [], []), (.aload_n 0, [], []), (.getfield 107, [0, 10, 6, 1198], []), (.invokevirtual 113, [0, 1, 0, 0, 10, 1340, 1337, 1339, 38, 100], [mX10_see]), (.bipush 32, [], []), (.if_icmp .ne 16, [47], []), (.nop, [34], [])]
theorem kX10_next_8 : chL mX10_next 8 bX10_next_8 = true := by decide +kernel
def bX10_next_34 : List AI := [(.aload_n 0, [], []), (.dup, [], []), (.getfield 107, [0, 10, 6, 1198], []), (.iconst 1, [], []), (.iadd, [], []), (.putfield 107, [0, 10, 6, 1198], []), (.goto (-36), [8], [])]
theorem kX10_next_34 : chL mX10_next 34 bX10_next_34 = true := by decide +kernel
def bX10_next_47 : List AI := [(.aload_n 0, [], []), (.aload_n 0, [], []), (.getfield 107, [0, 10, 6, 1198], []), (.putfield 110, [0, 10, 7, 1199], []), (.aload_n 0, [], []), (.getfield 107, [0, 10, 6, 1198], []), (.aload_n 0, [], []), (.getfield 92, [0, 10, 8, 1200], []), (.if_icmp .lt 12, [75], []), (.aload_n 0, [], []), (.bipush 11, [], []), (.putfield 117, [0, 10, 9, 1201], []), (.goto 198, [270], [])]
theorem kX10_next_47 : chL mX10_next 47 bX10_next_47 = true := by decide +kernel
def bX10_next_75 : List AI := [(.aload_n 0, [], []), (.aload_n 0, [], []), (.getfield 107, [0, 10, 6, 1198], []), (.invokevirtual 113, [0, 1, 0, 0, 10, 1340, 1337, 1339, 38, 100], [mX10_see]), (.invokestatic 120, [0, 1, 0, 0, 1343, 1341, 1342, 100], [mX10_isSmall]), (.ifCond .eq 41, [127], []), (.nop, [89], [])]
theorem kX10_next_75 : chL mX10_next 75 bX10_next_75 = true := by decide +kernel
def bX10_next_89 : List AI := [(.aload_n 0, [], []), (.aload_n 0, [], []), (.getfield 110, [0, 10, 7, 1199], []), (.invokevirtual 113, [0, 1, 0, 0, 10, 1340, 1337, 1339, 38, 100], [mX10_see]), (.invokestatic 120, [0, 1, 0, 0, 1343, 1341, 1342, 100], [mX10_isSmall]), (.ifCond .eq 16, [116], []), (.aload_n 0, [], []), (.dup, [], []), (.getfield 110, [0, 10, 7, 1199], []), (.iconst 1, [], []), (.iadd, [], []), (.putfield 110, [0, 10, 7, 1199], []), (.goto (-24), [89], [])]
theorem kX10_next_89 : chL mX10_next 89 bX10_next_89 = true := by decide +kernel
def bX10_next_116 : List AI := [(.aload_n 0, [], []), (.aload_n 0, [], []), (.invokevirtual 124, [0, 0, 0, 0, 10, 1347, 1344, 1346, 39, 100], [mX10_keyAt]), (.putfield 117, [0, 10, 9, 1201], []), (.goto 146, [270], [])]
theorem kX10_next_116 : chL mX10_next 116 bX10_next_116 = true := by decide +kernel
def bX10_next_127 : List AI := [(.aload_n 0, [], []), (.aload_n 0, [], []), (.getfield 107, [0, 10, 6, 1198], []), (.invokevirtual 113, [0, 1, 0, 0, 10, 1340, 1337, 1339, 38, 100], [mX10_see]), (.invokestatic 127, [0, 1, 0, 0, 1353, 1351, 1352, 100], [mX10_isDigit]), (.ifCond .eq 98, [236], []), (.aload_n 0, [], []), (.iconst 0, [], []), (.putfield 130, [0, 10, 10, 1202], []), (.nop, [146], [])]
theorem kX10_next_127 : chL mX10_next 127 bX10_next_127 = true := by decide +kernel
def bX10_next_146 : List AI := [(.aload_n 0, [], []), (.aload_n 0, [], []), (.getfield 110, [0, 10, 7, 1199], []), (.invokevirtual 113, [0, 1, 0, 0, 10, 1340, 1337, 1339, 38, 100], [mX10_see]), (.invokestatic 127, [0, 1, 0, 0, 1353, 1351, 1352, 100], [mX10_isDigit]), (.ifCond .eq 52, [209], []), (.aload_n 0, [], []), (.getfield 110, [0, 10, 7, 1199], []), (.aload_n 0, [], []), (.getfield 107, [0, 10, 6, 1198], []), (.isub, [], []), (.iconst 3, [], []), (.if_icmp .ge 26, [196], []), (.aload_n 0, [], []), (.bipush 10, [], []), (.aload_n 0, [], []), (.getfield 130, [0, 10, 10, 1202], []), (.imul, [], []), (.aload_n 0, [], []), (.aload_n 0, [], []), (.getfield 110, [0, 10, 7, 1199], []), (.invokevirtual 113, [0, 1, 0, 0, 10, 1340, 1337, 1339, 38, 100], [mX10_see]), (.iadd, [], []), (.bipush 48, [], []), (.isub, [], []), (.putfield 130, [0, 10, 10, 1202], []), (.nop, [196], [])]
theorem kX10_next_146 : chL mX10_next 146 bX10_next_146 = true := by decide +kernel
def bX10_next_196 : List AI := [(.aload_n 0, [], []), (.dup, [], []), (.getfield 110, [0, 10, 7, 1199], []), (.iconst 1, [], []), (.iadd, [], []), (.putfield 110, [0, 10, 7, 1199], []), (.goto (-60), [146], [])]
theorem kX10_next_196 : chL mX10_next 196 bX10_next_196 = true := by decide +kernel
def bX10_next_209 : List AI := [(.aload_n 0, [], []), (.aload_n 0, [], []), (.getfield 110, [0, 10, 7, 1199], []), (.aload_n 0, [], []), (.getfield 107, [0, 10, 6, 1198], []), (.isub, [], []), (.iconst 3, [], []), (.if_icmp .le 8, [228], []), (.bipush 12, [], []), (.goto 5, [230], [])]
theorem kX10_next_209 : chL mX10_next 209 bX10_next_209 = true := by decide +kernel
def bX10_next_228 : List AI := [(.bipush 9, [], []), (.nop, [230], [])]
theorem kX10_next_228 : chL mX10_next 228 bX10_next_228 = true := by decide +kernel
def bX10_next_230 : List AI := [(.putfield 117, [0, 10, 9, 1201], []), (.goto 37, [270], [])]
theorem kX10_next_230 : chL mX10_next 230 bX10_next_230 = true := by decide +kernel
def bX10_next_236 : List AI := [(.aload_n 0, [], []), (.dup, [], []), (.getfield 110, [0, 10, 7, 1199], []), (.iconst 1, [], []), (.iadd, [], []), (.putfield 110, [0, 10, 7, 1199], []), (.aload_n 0, [], []), (.aload_n 0, [], []), (.aload_n 0, [], []), (.getfield 107, [0, 10, 6, 1198], []), (.invokevirtual 113, [0, 1, 0, 0, 10, 1340, 1337, 1339, 38, 100], [mX10_see]), (.bipush 59, [], []), (.if_icmp .ne 8, [265], []), (.bipush 10, [], []), (.goto 5, [267], [])]
theorem kX10_next_236 : chL mX10_next 236 bX10_next_236 = true := by decide +kernel
def bX10_next_265 : List AI := [(.bipush 12, [], []), (.nop, [267], [])]
theorem kX10_next_265 : chL mX10_next 265 bX10_next_265 = true := by decide +kernel
def bX10_next_267 : List AI := [(.putfield 117, [0, 10, 9, 1201], []), (.nop, [270], [])]
theorem kX10_next_267 : chL mX10_next 267 bX10_next_267 = true := by decide +kernel
def bX10_next_270 : List AI := [(.return_, [], [])]
theorem kX10_next_270 : chL mX10_next 270 bX10_next_270 = true := by decide +kernel
def bX10_fails_0 : List AI := [(.aload_n 0, [], []), (.getfield 133, [0, 10, 11, 1203], []), (.ifCond .eq 4, [8], []), (.return_, [], [])]
theorem kX10_fails_0 : chL mX10_fails 0 bX10_fails_0 = true := by decide +kernel
def bX10_fails_8 : List AI := [(.aload_n 0, [], []), (.aload_n 0, [], []), (.getfield 117, [0, 10, 9, 1201], []), (.bipush 12, [], []), (.if_icmp .ne 7, [22], []), (.iconst 1, [], []), (.goto 4, [23], [])]
theorem kX10_fails_8 : chL mX10_fails 8 bX10_fails_8 = true := by decide +kernel
def bX10_fails_22 : List AI := [(.iload_n 1, [], []), (.nop, [23], [])]
theorem kX10_fails_22 : chL mX10_fails 22 bX10_fails_22 = true := by decide +kernel
def bX10_fails_23 : List AI := [(.putfield 133, [0, 10, 11, 1203], []), (.aload_n 0, [], []), (.aload_n 0, [], []), (.getfield 107, [0, 10, 6, 1198], []), (.putfield 136, [0, 10, 12, 1204], []), (.return_, [], [])]
theorem kX10_fails_23 : chL mX10_fails 23 bX10_fails_23 = true := by decide +kernel
def bX10_is_0 : List AI := [(.aload_n 0, [], []), (.getfield 133, [0, 10, 11, 1203], []), (.ifCond .ne 15, [19], []), (.aload_n 0, [], []), (.getfield 117, [0, 10, 9, 1201], []), (.iload_n 1, [], []), (.if_icmp .ne 7, [19], []), (.iconst 1, [], []), (.goto 4, [20], [])]
theorem kX10_is_0 : chL mX10_is 0 bX10_is_0 = true := by decide +kernel
def bX10_is_19 : List AI := [(.iconst 0, [], []), (.nop, [20], [])]
theorem kX10_is_19 : chL mX10_is 19 bX10_is_19 = true := by decide +kernel
def bX10_is_20 : List AI := [(.ireturn, [1], [])]
theorem kX10_is_20 : chL mX10_is 20 bX10_is_20 = true := by decide +kernel
def bX10_eats_0 : List AI := [(.aload_n 0, [], []), (.iload_n 1, [], []), (.invokevirtual 139, [0, 1, 0, 0, 10, 1361, 1358, 1360, 41, 100], [mX10_is]), (.ifCond .ne 5, [10], []), (.iconst 0, [], []), (.ireturn, [1], [])]
theorem kX10_eats_0 : chL mX10_eats 0 bX10_eats_0 = true := by decide +kernel
def bX10_eats_10 : List AI := [(.aload_n 0, [], []), (.invokevirtual 142, [0, 0, 0, 0, 10, 1336, 1333, 1335, 37, 100], [mX10_next]), (.iconst 1, [], []), (.ireturn, [1], [])]
theorem kX10_eats_10 : chL mX10_eats 10 bX10_eats_10 = true := by decide +kernel
def bX10_takes_0 : List AI := [(.aload_n 0, [], []), (.bipush 9, [], []), (.invokevirtual 139, [0, 1, 0, 0, 10, 1361, 1358, 1360, 41, 100], [mX10_is]), (.ifCond .ne 11, [17], []), (.aload_n 0, [], []), (.iconst 2, [], []), (.invokevirtual 145, [0, 1, 0, 0, 10, 1369, 1366, 1368, 43, 100], [mX10_fails]), (.goto 23, [37], [])]
theorem kX10_takes_0 : chL mX10_takes 0 bX10_takes_0 = true := by decide +kernel
def bX10_takes_17 : List AI := [(.aload_n 0, [], []), (.getfield 130, [0, 10, 10, 1202], []), (.i2l, [], []), (.iload_n 1, [], []), (.i2l, [], []), (.iload_n 2, [], []), (.i2l, [], []), (.invokestatic 149, [0, 3, 0, 0, 1332, 1330, 1331, 100], [mX10_within]), (.ifCond .ne 8, [37], []), (.aload_n 0, [], []), (.iconst 3, [], []), (.invokevirtual 145, [0, 1, 0, 0, 10, 1369, 1366, 1368, 43, 100], [mX10_fails]), (.nop, [37], [])]
theorem kX10_takes_17 : chL mX10_takes 17 bX10_takes_17 = true := by decide +kernel
def bX10_takes_37 : List AI := [(.aload_n 0, [], []), (.getfield 130, [0, 10, 10, 1202], []), (.istore_n 3, [], []), (.aload_n 0, [], []), (.getfield 133, [0, 10, 11, 1203], []), (.ifCond .ne 7, [53], []), (.aload_n 0, [], []), (.invokevirtual 142, [0, 0, 0, 0, 10, 1336, 1333, 1335, 37, 100], [mX10_next]), (.nop, [53], [])]
theorem kX10_takes_37 : chL mX10_takes 37 bX10_takes_37 = true := by decide +kernel
def bX10_takes_53 : List AI := [(.iload_n 3, [], []), (.ireturn, [0], [])]
theorem kX10_takes_53 : chL mX10_takes 53 bX10_takes_53 = true := by decide +kernel
def bX10_readBread_0 : List AI := [(.iconst 0, [], []), (.istore_n 2, [], []), (.nop, [2], [])]
theorem kX10_readBread_0 : chL mX10_readBread 0 bX10_readBread_0 = true := by decide +kernel
def bX10_readBread_2 : List AI := [(.aload_n 0, [], []), (.getfield 133, [0, 10, 11, 1203], []), (.ifCond .ne 91, [97], []), (.iload_n 2, [], []), (.ifCond .eq 12, [22], []), (.aload_n 0, [], []), (.getfield 117, [0, 10, 9, 1201], []), (.bipush 9, [], []), (.if_icmp .ne 78, [97], []), (.nop, [22], [])]
theorem kX10_readBread_2 : chL mX10_readBread 2 bX10_readBread_2 = true := by decide +kernel
def bX10_readBread_22 : List AI := [(.aload_n 0, [], []), (.getfield 117, [0, 10, 9, 1201], []), (.bipush 9, [], []), (.if_icmp .ne 33, [61], []), (.aload_n 0, [], []), (.getfield 130, [0, 10, 10, 1202], []), (.i2l, [], []), (.lconst 0, [], []), (.ldc2_w 153, [99, 1382], []), (.invokestatic 149, [0, 3, 0, 0, 1332, 1330, 1331, 100], [mX10_within]), (.ifCond .eq 18, [61], []), (.iload_n 2, [], []), (.aload_n 0, [], []), (.getfield 24, [2, 10, 4, 1196], []), (.iconst 3, [], []), (.iaload, [0], []), (.if_icmp .ne 8, [61], []), (.aload_n 0, [], []), (.iconst 4, [], []), (.invokevirtual 145, [0, 1, 0, 0, 10, 1369, 1366, 1368, 43, 100], [mX10_fails]), (.nop, [61], [])]
theorem kX10_readBread_22 : chL mX10_readBread 22 bX10_readBread_22 = true := by decide +kernel
def bX10_readBread_61 : List AI := [(.aload_n 0, [], []), (.iconst 0, [], []), (.bipush 99, [], []), (.invokevirtual 155, [0, 2, 0, 0, 10, 1373, 1370, 1372, 44, 100], [mX10_takes]), (.istore_n 3, [], []), (.aload_n 0, [], []), (.getfield 133, [0, 10, 11, 1203], []), (.ifCond .eq 4, [77], []), (.return_, [], [])]
theorem kX10_readBread_61 : chL mX10_readBread 61 bX10_readBread_61 = true := by decide +kernel
def bX10_readBread_77 : List AI := [(.aload_n 0, [], []), (.getfield 24, [2, 10, 4, 1196], []), (.bipush 69, [], []), (.iconst 5, [], []), (.iload_n 1, [], []), (.imul, [], []), (.iadd, [], []), (.iload_n 2, [], []), (.iadd, [], []), (.iload_n 3, [], []), (.iastore, [], []), (.iinc 2 1, [], []), (.goto (-92), [2], [])]
theorem kX10_readBread_77 : chL mX10_readBread 77 bX10_readBread_77 = true := by decide +kernel
def bX10_readBread_97 : List AI := [(.return_, [], [])]
theorem kX10_readBread_97 : chL mX10_readBread 97 bX10_readBread_97 = true := by decide +kernel
def bX10_readFamily_0 : List AI := [(.aload_n 0, [], []), (.getfield 24, [2, 10, 4, 1196], []), (.iconst 0, [], []), (.iaload, [0], []), (.istore_n 1, [], []), (.iload_n 1, [], []), (.bipush 10, [], []), (.if_icmp .ne 8, [18], []), (.aload_n 0, [], []), (.iconst 4, [], []), (.invokevirtual 145, [0, 1, 0, 0, 10, 1369, 1366, 1368, 43, 100], [mX10_fails]), (.nop, [18], [])]
theorem kX10_readFamily_0 : chL mX10_readFamily 0 bX10_readFamily_0 = true := by decide +kernel
def bX10_readFamily_18 : List AI := [(.aload_n 0, [], []), (.getfield 133, [0, 10, 11, 1203], []), (.ifCond .eq 4, [26], []), (.return_, [], [])]
theorem kX10_readFamily_18 : chL mX10_readFamily 18 bX10_readFamily_18 = true := by decide +kernel
def bX10_readFamily_26 : List AI := [(.aload_n 0, [], []), (.invokevirtual 142, [0, 0, 0, 0, 10, 1336, 1333, 1335, 37, 100], [mX10_next]), (.aload_n 0, [], []), (.getfield 24, [2, 10, 4, 1196], []), (.bipush 9, [], []), (.iload_n 1, [], []), (.iadd, [], []), (.aload_n 0, [], []), (.iconst 0, [], []), (.bipush 30, [], []), (.invokevirtual 155, [0, 2, 0, 0, 10, 1373, 1370, 1372, 44, 100], [mX10_takes]), (.iastore, [], []), (.aload_n 0, [], []), (.getfield 24, [2, 10, 4, 1196], []), (.bipush 19, [], []), (.iload_n 1, [], []), (.iadd, [], []), (.aload_n 0, [], []), (.iconst 1, [], []), (.invokevirtual 159, [0, 1, 0, 0, 10, 1377, 1374, 1376, 45, 100], [mX10_eats]), (.ifCond .eq 14, [73], []), (.aload_n 0, [], []), (.iconst 0, [], []), (.sipush 999, [], []), (.invokevirtual 155, [0, 2, 0, 0, 10, 1373, 1370, 1372, 44, 100], [mX10_takes]), (.goto 5, [75], [])]
theorem kX10_readFamily_26 : chL mX10_readFamily 26 bX10_readFamily_26 = true := by decide +kernel
def bX10_readFamily_73 : List AI := [(.bipush 50, [], []), (.nop, [75], [])]
theorem kX10_readFamily_73 : chL mX10_readFamily 73 bX10_readFamily_73 = true := by decide +kernel
def bX10_readFamily_75 : List AI := [(.iastore, [], []), (.aload_n 0, [], []), (.iconst 2, [], []), (.invokevirtual 159, [0, 1, 0, 0, 10, 1377, 1374, 1376, 45, 100], [mX10_eats]), (.ifCond .eq 8, [89], []), (.aload_n 0, [], []), (.iload_n 1, [], []), (.invokevirtual 162, [0, 1, 0, 0, 10, 1381, 1378, 1380, 46, 100], [mX10_readBread]), (.nop, [89], [])]
theorem kX10_readFamily_75 : chL mX10_readFamily 75 bX10_readFamily_75 = true := by decide +kernel
def bX10_readFamily_89 : List AI := [(.aload_n 0, [], []), (.getfield 24, [2, 10, 4, 1196], []), (.bipush 29, [], []), (.iload_n 1, [], []), (.iadd, [], []), (.aload_n 0, [], []), (.iconst 3, [], []), (.invokevirtual 159, [0, 1, 0, 0, 10, 1377, 1374, 1376, 45, 100], [mX10_eats]), (.ifCond .eq 13, [115], []), (.aload_n 0, [], []), (.iconst 0, [], []), (.bipush 99, [], []), (.invokevirtual 155, [0, 2, 0, 0, 10, 1373, 1370, 1372, 44, 100], [mX10_takes]), (.goto 4, [116], [])]
theorem kX10_readFamily_89 : chL mX10_readFamily 89 bX10_readFamily_89 = true := by decide +kernel
def bX10_readFamily_115 : List AI := [(.iconst 0, [], []), (.nop, [116], [])]
theorem kX10_readFamily_115 : chL mX10_readFamily 115 bX10_readFamily_115 = true := by decide +kernel
def bX10_readFamily_116 : List AI := [(.iastore, [], []), (.aload_n 0, [], []), (.getfield 133, [0, 10, 11, 1203], []), (.ifCond .ne 13, [134], []), (.aload_n 0, [], []), (.getfield 24, [2, 10, 4, 1196], []), (.iconst 0, [], []), (.dup2, [0], []), (.iaload, [0], []), (.iconst 1, [], []), (.iadd, [], []), (.iastore, [], []), (.nop, [134], [])]
theorem kX10_readFamily_116 : chL mX10_readFamily 116 bX10_readFamily_116 = true := by decide +kernel
def bX10_readFamily_134 : List AI := [(.return_, [], [])]
theorem kX10_readFamily_134 : chL mX10_readFamily 134 bX10_readFamily_134 = true := by decide +kernel
def bX10_readOven_0 : List AI := [(.aload_n 0, [], []), (.getfield 24, [2, 10, 4, 1196], []), (.iconst 1, [], []), (.iaload, [0], []), (.istore_n 1, [], []), (.iload_n 1, [], []), (.iconst 3, [], []), (.if_icmp .ne 8, [17], []), (.aload_n 0, [], []), (.iconst 4, [], []), (.invokevirtual 145, [0, 1, 0, 0, 10, 1369, 1366, 1368, 43, 100], [mX10_fails]), (.nop, [17], [])]
theorem kX10_readOven_0 : chL mX10_readOven 0 bX10_readOven_0 = true := by decide +kernel
def bX10_readOven_17 : List AI := [(.aload_n 0, [], []), (.getfield 133, [0, 10, 11, 1203], []), (.ifCond .eq 4, [25], []), (.return_, [], [])]
theorem kX10_readOven_17 : chL mX10_readOven 17 bX10_readOven_17 = true := by decide +kernel
def bX10_readOven_25 : List AI := [(.aload_n 0, [], []), (.invokevirtual 142, [0, 0, 0, 0, 10, 1336, 1333, 1335, 37, 100], [mX10_next]), (.aload_n 0, [], []), (.getfield 24, [2, 10, 4, 1196], []), (.bipush 6, [], []), (.iload_n 1, [], []), (.iadd, [], []), (.aload_n 0, [], []), (.iconst 1, [], []), (.bipush 60, [], []), (.invokevirtual 155, [0, 2, 0, 0, 10, 1373, 1370, 1372, 44, 100], [mX10_takes]), (.iastore, [], []), (.aload_n 0, [], []), (.getfield 133, [0, 10, 11, 1203], []), (.ifCond .ne 13, [62], []), (.aload_n 0, [], []), (.getfield 24, [2, 10, 4, 1196], []), (.iconst 1, [], []), (.dup2, [0], []), (.iaload, [0], []), (.iconst 1, [], []), (.iadd, [], []), (.iastore, [], []), (.nop, [62], [])]
theorem kX10_readOven_25 : chL mX10_readOven 25 bX10_readOven_25 = true := by decide +kernel
def bX10_readOven_62 : List AI := [(.return_, [], [])]
theorem kX10_readOven_62 : chL mX10_readOven 62 bX10_readOven_62 = true := by decide +kernel
def bX10_readQuarrel_0 : List AI := [(.aload_n 0, [], []), (.iconst 0, [], []), (.aload_n 0, [], []), (.getfield 24, [2, 10, 4, 1196], []), (.iconst 0, [], []), (.iaload, [0], []), (.iconst 1, [], []), (.isub, [], []), (.invokevirtual 155, [0, 2, 0, 0, 10, 1373, 1370, 1372, 44, 100], [mX10_takes]), (.istore_n 1, [], []), (.aload_n 0, [], []), (.bipush 9, [], []), (.invokevirtual 139, [0, 1, 0, 0, 10, 1361, 1358, 1360, 41, 100], [mX10_is]), (.ifCond .eq 16, [36], []), (.aload_n 0, [], []), (.getfield 130, [0, 10, 10, 1202], []), (.iload_n 1, [], []), (.if_icmp .ne 8, [36], []), (.aload_n 0, [], []), (.iconst 3, [], []), (.invokevirtual 145, [0, 1, 0, 0, 10, 1369, 1366, 1368, 43, 100], [mX10_fails]), (.nop, [36], [])]
theorem kX10_readQuarrel_0 : chL mX10_readQuarrel 0 bX10_readQuarrel_0 = true := by decide +kernel
def bX10_readQuarrel_36 : List AI := [(.aload_n 0, [], []), (.iconst 0, [], []), (.aload_n 0, [], []), (.getfield 24, [2, 10, 4, 1196], []), (.iconst 0, [], []), (.iaload, [0], []), (.iconst 1, [], []), (.isub, [], []), (.invokevirtual 155, [0, 2, 0, 0, 10, 1373, 1370, 1372, 44, 100], [mX10_takes]), (.istore_n 2, [], []), (.aload_n 0, [], []), (.getfield 133, [0, 10, 11, 1203], []), (.ifCond .ne 15, [69], []), (.aload_n 0, [], []), (.getfield 24, [2, 10, 4, 1196], []), (.bipush 119, [], []), (.iload_n 1, [], []), (.iload_n 2, [], []), (.iconst 1, [], []), (.invokestatic 165, [0, 5, 0, 0, 1393, 1391, 1392, 100], [mX10_sets]), (.nop, [69], [])]
theorem kX10_readQuarrel_36 : chL mX10_readQuarrel 36 bX10_readQuarrel_36 = true := by decide +kernel
def bX10_readQuarrel_69 : List AI := [(.return_, [], [])]
theorem kX10_readQuarrel_69 : chL mX10_readQuarrel 69 bX10_readQuarrel_69 = true := by decide +kernel
def bX10_readLine_0 : List AI := [(.aload_n 0, [], []), (.iconst 0, [], []), (.invokevirtual 139, [0, 1, 0, 0, 10, 1361, 1358, 1360, 41, 100], [mX10_is]), (.ifCond .eq 10, [15], []), (.aload_n 0, [], []), (.invokevirtual 169, [0, 0, 0, 0, 10, 1365, 1362, 1364, 42, 100], [mX10_readFamily]), (.goto 101, [113], [])]
theorem kX10_readLine_0 : chL mX10_readLine 0 bX10_readLine_0 = true := by decide +kernel
def bX10_readLine_15 : List AI := [(.aload_n 0, [], []), (.iconst 4, [], []), (.invokevirtual 139, [0, 1, 0, 0, 10, 1361, 1358, 1360, 41, 100], [mX10_is]), (.ifCond .eq 10, [30], []), (.aload_n 0, [], []), (.invokevirtual 172, [0, 0, 0, 0, 10, 1386, 1383, 1385, 47, 100], [mX10_readOven]), (.goto 86, [113], [])]
theorem kX10_readLine_15 : chL mX10_readLine 15 bX10_readLine_15 = true := by decide +kernel
def bX10_readLine_30 : List AI := [(.aload_n 0, [], []), (.iconst 5, [], []), (.invokevirtual 159, [0, 1, 0, 0, 10, 1377, 1374, 1376, 45, 100], [mX10_eats]), (.ifCond .eq 10, [45], []), (.aload_n 0, [], []), (.invokevirtual 175, [0, 0, 0, 0, 10, 1390, 1387, 1389, 48, 100], [mX10_readQuarrel]), (.goto 71, [113], [])]
theorem kX10_readLine_30 : chL mX10_readLine 30 bX10_readLine_30 = true := by decide +kernel
def bX10_readLine_45 : List AI := [(.aload_n 0, [], []), (.bipush 6, [], []), (.invokevirtual 139, [0, 1, 0, 0, 10, 1361, 1358, 1360, 41, 100], [mX10_is]), (.ifCond .eq 31, [82], []), (.aload_n 0, [], []), (.getfield 24, [2, 10, 4, 1196], []), (.iconst 0, [], []), (.iaload, [0], []), (.ifCond .ne 22, [82], []), (.aload_n 0, [], []), (.invokevirtual 142, [0, 0, 0, 0, 10, 1336, 1333, 1335, 37, 100], [mX10_next]), (.aload_n 0, [], []), (.getfield 24, [2, 10, 4, 1196], []), (.iconst 3, [], []), (.aload_n 0, [], []), (.iconst 1, [], []), (.iconst 5, [], []), (.invokevirtual 155, [0, 2, 0, 0, 10, 1373, 1370, 1372, 44, 100], [mX10_takes]), (.iastore, [], []), (.goto 34, [113], [])]
theorem kX10_readLine_45 : chL mX10_readLine 45 bX10_readLine_45 = true := by decide +kernel
def bX10_readLine_82 : List AI := [(.aload_n 0, [], []), (.bipush 7, [], []), (.invokevirtual 159, [0, 1, 0, 0, 10, 1377, 1374, 1376, 45, 100], [mX10_eats]), (.ifCond .eq 20, [108], []), (.aload_n 0, [], []), (.getfield 24, [2, 10, 4, 1196], []), (.iconst 4, [], []), (.aload_n 0, [], []), (.iconst 0, [], []), (.sipush 999, [], []), (.invokevirtual 155, [0, 2, 0, 0, 10, 1373, 1370, 1372, 44, 100], [mX10_takes]), (.iastore, [], []), (.goto 8, [113], [])]
theorem kX10_readLine_82 : chL mX10_readLine 82 bX10_readLine_82 = true := by decide +kernel
def bX10_readLine_108 : List AI := [(.aload_n 0, [], []), (.iconst 2, [], []), (.invokevirtual 145, [0, 1, 0, 0, 10, 1369, 1366, 1368, 43, 100], [mX10_fails]), (.nop, [113], [])]
theorem kX10_readLine_108 : chL mX10_readLine 108 bX10_readLine_108 = true := by decide +kernel
def bX10_readLine_113 : List AI := [(.aload_n 0, [], []), (.bipush 10, [], []), (.invokevirtual 159, [0, 1, 0, 0, 10, 1377, 1374, 1376, 45, 100], [mX10_eats]), (.ifCond .ne 8, [127], []), (.aload_n 0, [], []), (.iconst 2, [], []), (.invokevirtual 145, [0, 1, 0, 0, 10, 1369, 1366, 1368, 43, 100], [mX10_fails]), (.nop, [127], [])]
theorem kX10_readLine_113 : chL mX10_readLine 113 bX10_readLine_113 = true := by decide +kernel
def bX10_readLine_127 : List AI := [(.aload_n 0, [], []), (.getfield 24, [2, 10, 4, 1196], []), (.iconst 5, [], []), (.dup2, [0], []), (.iaload, [0], []), (.iconst 1, [], []), (.iadd, [], []), (.iastore, [], []), (.return_, [], [])]
theorem kX10_readLine_127 : chL mX10_readLine 127 bX10_readLine_127 = true := by decide +kernel
def bX10_village_0 : List AI := [(.aload_n 0, [], []), (.iconst 0, [], []), (.putfield 1, [0, 10, 0, 1192], []), (.iload_n 1, [], []), (.i2l, [], []), (.lconst 0, [], []), (.aload_n 0, [], []), (.getfield 89, [0, 10, 5, 1197], []), (.i2l, [], []), (.invokestatic 149, [0, 3, 0, 0, 1332, 1330, 1331, 100], [mX10_within]), (.ifCond .ne 6, [22], []), (.bipush (-3), [], []), (.ireturn, [0], [])]
theorem kX10_village_0 : chL mX10_village 0 bX10_village_0 = true := by decide +kernel
def bX10_village_22 : List AI := [(.aload_n 0, [], []), (.iload_n 1, [], []), (.putfield 92, [0, 10, 8, 1200], []), (.aload_n 0, [], []), (.iconst 0, [], []), (.putfield 89, [0, 10, 5, 1197], []), (.aload_n 0, [], []), (.iconst 0, [], []), (.putfield 110, [0, 10, 7, 1199], []), (.aload_n 0, [], []), (.iconst 0, [], []), (.putfield 133, [0, 10, 11, 1203], []), (.aload_n 0, [], []), (.getfield 24, [2, 10, 4, 1196], []), (.invokestatic 85, [0, 1, 0, 0, 1191, 1189, 1190, 100], [mX10_plain]), (.aload_n 0, [], []), (.invokevirtual 142, [0, 0, 0, 0, 10, 1336, 1333, 1335, 37, 100], [mX10_next]), (.nop, [53], [])]
theorem kX10_village_22 : chL mX10_village 22 bX10_village_22 = true := by decide +kernel
def bX10_village_53 : List AI := [(.aload_n 0, [], []), (.getfield 133, [0, 10, 11, 1203], []), (.ifCond .ne 19, [76], []), (.aload_n 0, [], []), (.getfield 117, [0, 10, 9, 1201], []), (.bipush 11, [], []), (.if_icmp .eq 10, [76], []), (.aload_n 0, [], []), (.invokevirtual 178, [0, 0, 0, 0, 10, 1357, 1354, 1356, 40, 100], [mX10_readLine]), (.goto (-20), [53], [])]
theorem kX10_village_53 : chL mX10_village 53 bX10_village_53 = true := by decide +kernel
def bX10_village_76 : List AI := [(.aload_n 0, [], []), (.aload_n 0, [], []), (.getfield 133, [0, 10, 11, 1203], []), (.putfield 181, [0, 10, 13, 1205], []), (.aload_n 0, [], []), (.aload_n 0, [], []), (.getfield 133, [0, 10, 11, 1203], []), (.ifCond .ne 7, [96], []), (.iconst (-1), [], []), (.goto 7, [100], [])]
theorem kX10_village_76 : chL mX10_village 76 bX10_village_76 = true := by decide +kernel
def bX10_village_96 : List AI := [(.aload_n 0, [], []), (.getfield 136, [0, 10, 12, 1204], []), (.nop, [100], [])]
theorem kX10_village_96 : chL mX10_village 96 bX10_village_96 = true := by decide +kernel
def bX10_village_100 : List AI := [(.putfield 27, [0, 10, 14, 1206], []), (.aload_n 0, [], []), (.getfield 133, [0, 10, 11, 1203], []), (.ifCond .eq 11, [118], []), (.bipush (-30), [], []), (.aload_n 0, [], []), (.getfield 133, [0, 10, 11, 1203], []), (.isub, [], []), (.ireturn, [0], [])]
theorem kX10_village_100 : chL mX10_village 100 bX10_village_100 = true := by decide +kernel
def bX10_village_118 : List AI := [(.iconst 0, [], []), (.istore_n 2, [], []), (.nop, [120], [])]
theorem kX10_village_118 : chL mX10_village 118 bX10_village_118 = true := by decide +kernel
def bX10_village_120 : List AI := [(.iload_n 2, [], []), (.sipush 319, [], []), (.if_icmp .ge 21, [145], []), (.aload_n 0, [], []), (.getfield 13, [2, 10, 1, 1193], []), (.iload_n 2, [], []), (.aload_n 0, [], []), (.getfield 24, [2, 10, 4, 1196], []), (.iload_n 2, [], []), (.iaload, [0], []), (.iastore, [], []), (.iinc 2 1, [], []), (.goto (-22), [120], [])]
theorem kX10_village_120 : chL mX10_village 120 bX10_village_120 = true := by decide +kernel
def bX10_village_145 : List AI := [(.aload_n 0, [], []), (.getfield 13, [2, 10, 1, 1193], []), (.iconst 5, [], []), (.iaload, [0], []), (.ireturn, [0], [])]
theorem kX10_village_145 : chL mX10_village 145 bX10_village_145 = true := by decide +kernel
def bX10_fault_0 : List AI := [(.aload_n 0, [], []), (.iconst 0, [], []), (.putfield 1, [0, 10, 0, 1192], []), (.iload_n 1, [], []), (.ifCond .ne 10, [16], []), (.aload_n 0, [], []), (.getfield 181, [0, 10, 13, 1205], []), (.goto 16, [29], [])]
theorem kX10_fault_0 : chL mX10_fault 0 bX10_fault_0 = true := by decide +kernel
def bX10_fault_16 : List AI := [(.iload_n 1, [], []), (.iconst 1, [], []), (.if_icmp .ne 10, [28], []), (.aload_n 0, [], []), (.getfield 27, [0, 10, 14, 1206], []), (.goto 4, [29], [])]
theorem kX10_fault_16 : chL mX10_fault 16 bX10_fault_16 = true := by decide +kernel
def bX10_fault_28 : List AI := [(.iconst (-1), [], []), (.nop, [29], [])]
theorem kX10_fault_28 : chL mX10_fault 28 bX10_fault_28 = true := by decide +kernel
def bX10_fault_29 : List AI := [(.ireturn, [0], [])]
theorem kX10_fault_29 : chL mX10_fault 29 bX10_fault_29 = true := by decide +kernel
def bX10_sets_0 : List AI := [(.aload_n 0, [], []), (.iload_n 1, [], []), (.bipush 10, [], []), (.iload_n 2, [], []), (.imul, [], []), (.iadd, [], []), (.iload_n 3, [], []), (.iadd, [], []), (.iload 4, [], []), (.iastore, [], []), (.aload_n 0, [], []), (.iload_n 1, [], []), (.bipush 10, [], []), (.iload_n 3, [], []), (.imul, [], []), (.iadd, [], []), (.iload_n 2, [], []), (.iadd, [], []), (.iload 4, [], []), (.iastore, [], []), (.return_, [], [])]
theorem kX10_sets_0 : chL mX10_sets 0 bX10_sets_0 = true := by decide +kernel
def bX10_isFamily_0 : List AI := [(.iload_n 1, [], []), (.i2l, [], []), (.lconst 0, [], []), (.aload_n 0, [], []), (.getfield 13, [2, 10, 1, 1193], []), (.iconst 0, [], []), (.iaload, [0], []), (.iconst 1, [], []), (.isub, [], []), (.i2l, [], []), (.invokestatic 149, [0, 3, 0, 0, 1332, 1330, 1331, 100], [mX10_within]), (.ireturn, [1], [])]
theorem kX10_isFamily_0 : chL mX10_isFamily 0 bX10_isFamily_0 = true := by decide +kernel
def bX10_areTwo_0 : List AI := [(.aload_n 0, [], []), (.iload_n 1, [], []), (.invokevirtual 184, [0, 1, 0, 0, 10, 1405, 1402, 1404, 49, 100], [mX10_isFamily]), (.ifCond .eq 20, [25], []), (.aload_n 0, [], []), (.iload_n 2, [], []), (.invokevirtual 184, [0, 1, 0, 0, 10, 1405, 1402, 1404, 49, 100], [mX10_isFamily]), (.ifCond .eq 12, [25], []), (.iload_n 1, [], []), (.iload_n 2, [], []), (.if_icmp .eq 7, [25], []), (.iconst 1, [], []), (.goto 4, [26], [])]
theorem kX10_areTwo_0 : chL mX10_areTwo 0 bX10_areTwo_0 = true := by decide +kernel
def bX10_areTwo_25 : List AI := [(.iconst 0, [], []), (.nop, [26], [])]
theorem kX10_areTwo_25 : chL mX10_areTwo 25 bX10_areTwo_25 = true := by decide +kernel
def bX10_areTwo_26 : List AI := [(.ireturn, [1], [])]
theorem kX10_areTwo_26 : chL mX10_areTwo 26 bX10_areTwo_26 = true := by decide +kernel
def bX10_isOven_0 : List AI := [(.iload_n 1, [], []), (.i2l, [], []), (.lconst 0, [], []), (.aload_n 0, [], []), (.getfield 13, [2, 10, 1, 1193], []), (.iconst 1, [], []), (.iaload, [0], []), (.iconst 1, [], []), (.isub, [], []), (.i2l, [], []), (.invokestatic 149, [0, 3, 0, 0, 1332, 1330, 1331, 100], [mX10_within]), (.ireturn, [1], [])]
theorem kX10_isOven_0 : chL mX10_isOven 0 bX10_isOven_0 = true := by decide +kernel
def bX10_isIn_0 : List AI := [(.lload_n 0, [], []), (.iload_n 2, [], []), (.lshr, [], []), (.lconst 1, [], []), (.land, [], []), (.lconst 1, [], []), (.lcmp, [], []), (.ifCond .ne 7, [14], []), (.iconst 1, [], []), (.goto 4, [15], [])]
theorem kX10_isIn_0 : chL mX10_isIn 0 bX10_isIn_0 = true := by decide +kernel
def bX10_isIn_14 : List AI := [(.iconst 0, [], []), (.nop, [15], [])]
theorem kX10_isIn_14 : chL mX10_isIn 14 bX10_isIn_14 = true := by decide +kernel
def bX10_isIn_15 : List AI := [(.ireturn, [1], [])]
theorem kX10_isIn_15 : chL mX10_isIn 15 bX10_isIn_15 = true := by decide +kernel
def bX10_bitsOf_0 : List AI := [(.iconst 0, [], []), (.istore_n 1, [], []), (.iconst 0, [], []), (.istore_n 2, [], []), (.nop, [4], [])]
theorem kX10_bitsOf_0 : chL mX10_bitsOf 0 bX10_bitsOf_0 = true := by decide +kernel
def bX10_bitsOf_4 : List AI := [(.iload_n 2, [], []), (.bipush 10, [], []), (.if_icmp .ge 26, [33], []), (.iload_n 1, [], []), (.iload_n 0, [], []), (.i2l, [], []), (.iload_n 2, [], []), (.invokestatic 187, [0, 2, 0, 0, 1479, 1477, 1478, 100], [mX10_isIn]), (.ifCond .eq 7, [24], []), (.iconst 1, [], []), (.goto 4, [25], [])]
theorem kX10_bitsOf_4 : chL mX10_bitsOf 4 bX10_bitsOf_4 = true := by decide +kernel
def bX10_bitsOf_24 : List AI := [(.iconst 0, [], []), (.nop, [25], [])]
theorem kX10_bitsOf_24 : chL mX10_bitsOf 24 bX10_bitsOf_24 = true := by decide +kernel
def bX10_bitsOf_25 : List AI := [(.iadd, [], []), (.istore_n 1, [], []), (.iinc 2 1, [], []), (.goto (-26), [4], [])]
theorem kX10_bitsOf_25 : chL mX10_bitsOf 25 bX10_bitsOf_25 = true := by decide +kernel
def bX10_bitsOf_33 : List AI := [(.iload_n 1, [], []), (.ireturn, [0], [])]
theorem kX10_bitsOf_33 : chL mX10_bitsOf 33 bX10_bitsOf_33 = true := by decide +kernel
def bX10_quarrels_0 : List AI := [(.aload_n 0, [], []), (.getfield 13, [2, 10, 1, 1193], []), (.bipush 119, [], []), (.bipush 10, [], []), (.iload_n 1, [], []), (.imul, [], []), (.iadd, [], []), (.iload_n 2, [], []), (.iadd, [], []), (.iaload, [0], []), (.iconst 1, [], []), (.if_icmp .ne 7, [22], []), (.iconst 1, [], []), (.goto 4, [23], [])]
theorem kX10_quarrels_0 : chL mX10_quarrels 0 bX10_quarrels_0 = true := by decide +kernel
def bX10_quarrels_22 : List AI := [(.iconst 0, [], []), (.nop, [23], [])]
theorem kX10_quarrels_22 : chL mX10_quarrels 22 bX10_quarrels_22 = true := by decide +kernel
def bX10_quarrels_23 : List AI := [(.ireturn, [1], [])]
theorem kX10_quarrels_23 : chL mX10_quarrels 23 bX10_quarrels_23 = true := by decide +kernel
def bX10_debt_0 : List AI := [(.aload_n 0, [], []), (.getfield 13, [2, 10, 1, 1193], []), (.sipush 219, [], []), (.bipush 10, [], []), (.iload_n 1, [], []), (.imul, [], []), (.iadd, [], []), (.iload_n 2, [], []), (.iadd, [], []), (.iaload, [0], []), (.ireturn, [0], [])]
theorem kX10_debt_0 : chL mX10_debt 0 bX10_debt_0 = true := by decide +kernel
def bX10_balance_0 : List AI := [(.iconst 0, [], []), (.istore_n 2, [], []), (.iconst 0, [], []), (.istore_n 3, [], []), (.nop, [4], [])]
theorem kX10_balance_0 : chL mX10_balance 0 bX10_balance_0 = true := by decide +kernel
def bX10_balance_4 : List AI := [(.iload_n 3, [], []), (.aload_n 0, [], []), (.getfield 13, [2, 10, 1, 1193], []), (.iconst 0, [], []), (.iaload, [0], []), (.if_icmp .ge 25, [36], []), (.iload_n 2, [], []), (.aload_n 0, [], []), (.iload_n 3, [], []), (.iload_n 1, [], []), (.invokevirtual 191, [0, 2, 0, 0, 10, 1417, 1414, 1416, 52, 100], [mX10_debt]), (.aload_n 0, [], []), (.iload_n 1, [], []), (.iload_n 3, [], []), (.invokevirtual 191, [0, 2, 0, 0, 10, 1417, 1414, 1416, 52, 100], [mX10_debt]), (.isub, [], []), (.iadd, [], []), (.istore_n 2, [], []), (.iinc 3 1, [], []), (.goto (-29), [4], [])]
theorem kX10_balance_4 : chL mX10_balance 4 bX10_balance_4 = true := by decide +kernel
def bX10_balance_36 : List AI := [(.iload_n 2, [], []), (.ireturn, [0], [])]
theorem kX10_balance_36 : chL mX10_balance 36 bX10_balance_36 = true := by decide +kernel
def bX10_breadOf_0 : List AI := [(.iconst 0, [], []), (.istore_n 2, [], []), (.iconst 0, [], []), (.istore_n 3, [], []), (.nop, [4], [])]
theorem kX10_breadOf_0 : chL mX10_breadOf 0 bX10_breadOf_0 = true := by decide +kernel
def bX10_breadOf_4 : List AI := [(.iload_n 3, [], []), (.aload_n 0, [], []), (.getfield 13, [2, 10, 1, 1193], []), (.iconst 3, [], []), (.iaload, [0], []), (.if_icmp .ge 25, [36], []), (.iload_n 2, [], []), (.aload_n 0, [], []), (.getfield 13, [2, 10, 1, 1193], []), (.bipush 69, [], []), (.iconst 5, [], []), (.iload_n 1, [], []), (.imul, [], []), (.iadd, [], []), (.iload_n 3, [], []), (.iadd, [], []), (.iaload, [0], []), (.iadd, [], []), (.istore_n 2, [], []), (.iinc 3 1, [], []), (.goto (-29), [4], [])]
theorem kX10_breadOf_4 : chL mX10_breadOf 4 bX10_breadOf_4 = true := by decide +kernel
def bX10_breadOf_36 : List AI := [(.iload_n 2, [], []), (.ireturn, [0], [])]
theorem kX10_breadOf_36 : chL mX10_breadOf 36 bX10_breadOf_36 = true := by decide +kernel
def bX10_family_0 : List AI := [(.aload_n 0, [], []), (.iconst 0, [], []), (.putfield 1, [0, 10, 0, 1192], []), (.aload_n 0, [], []), (.iload_n 1, [], []), (.invokevirtual 184, [0, 1, 0, 0, 10, 1405, 1402, 1404, 49, 100], [mX10_isFamily]), (.ifCond .ne 6, [16], []), (.bipush (-2), [], []), (.ireturn, [0], [])]
theorem kX10_family_0 : chL mX10_family 0 bX10_family_0 = true := by decide +kernel
def bX10_family_16 : List AI := [(.iload_n 2, [], []), (.tableswitch 119 0 7 #[47, 57, 67, 73, 83, 93, 103, 113], [136, 64, 74, 84, 90, 100, 110, 120, 130], [])]
theorem kX10_family_16 : chL mX10_family 16 bX10_family_16 = true := by decide +kernel
def bX10_family_64 : List AI := [(.aload_n 0, [], []), (.getfield 13, [2, 10, 1, 1193], []), (.bipush 9, [], []), (.iload_n 1, [], []), (.iadd, [], []), (.iaload, [0], []), (.ireturn, [0], [])]
theorem kX10_family_64 : chL mX10_family 64 bX10_family_64 = true := by decide +kernel
def bX10_family_74 : List AI := [(.aload_n 0, [], []), (.getfield 13, [2, 10, 1, 1193], []), (.bipush 19, [], []), (.iload_n 1, [], []), (.iadd, [], []), (.iaload, [0], []), (.ireturn, [0], [])]
theorem kX10_family_74 : chL mX10_family 74 bX10_family_74 = true := by decide +kernel
def bX10_family_84 : List AI := [(.aload_n 0, [], []), (.iload_n 1, [], []), (.invokevirtual 194, [0, 1, 0, 0, 10, 1409, 1406, 1408, 50, 100], [mX10_breadOf]), (.ireturn, [0], [])]
theorem kX10_family_84 : chL mX10_family 84 bX10_family_84 = true := by decide +kernel
def bX10_family_90 : List AI := [(.aload_n 0, [], []), (.getfield 13, [2, 10, 1, 1193], []), (.bipush 29, [], []), (.iload_n 1, [], []), (.iadd, [], []), (.iaload, [0], []), (.ireturn, [0], [])]
theorem kX10_family_90 : chL mX10_family 90 bX10_family_90 = true := by decide +kernel
def bX10_family_100 : List AI := [(.aload_n 0, [], []), (.getfield 13, [2, 10, 1, 1193], []), (.bipush 39, [], []), (.iload_n 1, [], []), (.iadd, [], []), (.iaload, [0], []), (.ireturn, [0], [])]
theorem kX10_family_100 : chL mX10_family 100 bX10_family_100 = true := by decide +kernel
def bX10_family_110 : List AI := [(.aload_n 0, [], []), (.getfield 13, [2, 10, 1, 1193], []), (.bipush 49, [], []), (.iload_n 1, [], []), (.iadd, [], []), (.iaload, [0], []), (.ireturn, [0], [])]
theorem kX10_family_110 : chL mX10_family 110 bX10_family_110 = true := by decide +kernel
def bX10_family_120 : List AI := [(.aload_n 0, [], []), (.getfield 13, [2, 10, 1, 1193], []), (.bipush 59, [], []), (.iload_n 1, [], []), (.iadd, [], []), (.iaload, [0], []), (.ireturn, [0], [])]
theorem kX10_family_120 : chL mX10_family 120 bX10_family_120 = true := by decide +kernel
def bX10_family_130 : List AI := [(.aload_n 0, [], []), (.iload_n 1, [], []), (.invokevirtual 197, [0, 1, 0, 0, 10, 1413, 1410, 1412, 51, 100], [mX10_balance]), (.ireturn, [0], [])]
theorem kX10_family_130 : chL mX10_family 130 bX10_family_130 = true := by decide +kernel
def bX10_family_136 : List AI := [(.iload_n 2, [], []), (.i2l, [], []), (.ldc2_w 200, [10, 1418], []), (.bipush 9, [], []), (.aload_n 0, [], []), (.getfield 13, [2, 10, 1, 1193], []), (.iconst 3, [], []), (.iaload, [0], []), (.iadd, [], []), (.i2l, [], []), (.invokestatic 149, [0, 3, 0, 0, 1332, 1330, 1331, 100], [mX10_within]), (.ifCond .eq 22, [176], []), (.aload_n 0, [], []), (.getfield 13, [2, 10, 1, 1193], []), (.bipush 69, [], []), (.iconst 5, [], []), (.iload_n 1, [], []), (.imul, [], []), (.iadd, [], []), (.iload_n 2, [], []), (.iadd, [], []), (.bipush 10, [], []), (.isub, [], []), (.iaload, [0], []), (.goto 5, [178], [])]
theorem kX10_family_136 : chL mX10_family 136 bX10_family_136 = true := by decide +kernel
def bX10_family_176 : List AI := [(.bipush (-2), [], []), (.nop, [178], [])]
theorem kX10_family_176 : chL mX10_family 176 bX10_family_176 = true := by decide +kernel
def bX10_family_178 : List AI := [(.ireturn, [0], [])]
theorem kX10_family_178 : chL mX10_family 178 bX10_family_178 = true := by decide +kernel
def bX10_oven_0 : List AI := [(.aload_n 0, [], []), (.iconst 0, [], []), (.putfield 1, [0, 10, 0, 1192], []), (.aload_n 0, [], []), (.iload_n 1, [], []), (.invokevirtual 202, [0, 1, 0, 0, 10, 1426, 1423, 1425, 53, 100], [mX10_isOven]), (.ifCond .eq 15, [25], []), (.aload_n 0, [], []), (.getfield 13, [2, 10, 1, 1193], []), (.bipush 6, [], []), (.iload_n 1, [], []), (.iadd, [], []), (.iaload, [0], []), (.goto 5, [27], [])]
theorem kX10_oven_0 : chL mX10_oven 0 bX10_oven_0 = true := by decide +kernel
def bX10_oven_25 : List AI := [(.bipush (-2), [], []), (.nop, [27], [])]
theorem kX10_oven_25 : chL mX10_oven 25 bX10_oven_25 = true := by decide +kernel
def bX10_oven_27 : List AI := [(.ireturn, [0], [])]
theorem kX10_oven_27 : chL mX10_oven 27 bX10_oven_27 = true := by decide +kernel
def bX10_quarrel_0 : List AI := [(.aload_n 0, [], []), (.iconst 0, [], []), (.putfield 1, [0, 10, 0, 1192], []), (.aload_n 0, [], []), (.iload_n 1, [], []), (.invokevirtual 184, [0, 1, 0, 0, 10, 1405, 1402, 1404, 49, 100], [mX10_isFamily]), (.ifCond .eq 11, [21], []), (.aload_n 0, [], []), (.iload_n 2, [], []), (.invokevirtual 184, [0, 1, 0, 0, 10, 1405, 1402, 1404, 49, 100], [mX10_isFamily]), (.ifCond .ne 6, [24], []), (.nop, [21], [])]
theorem kX10_quarrel_0 : chL mX10_quarrel 0 bX10_quarrel_0 = true := by decide +kernel
def bX10_quarrel_21 : List AI := [(.bipush (-2), [], []), (.ireturn, [0], [])]
theorem kX10_quarrel_21 : chL mX10_quarrel 21 bX10_quarrel_21 = true := by decide +kernel
def bX10_quarrel_24 : List AI := [(.aload_n 0, [], []), (.iload_n 1, [], []), (.iload_n 2, [], []), (.invokevirtual 205, [0, 2, 0, 0, 10, 1434, 1431, 1433, 54, 100], [mX10_quarrels]), (.ifCond .eq 7, [37], []), (.iconst 1, [], []), (.goto 4, [38], [])]
theorem kX10_quarrel_24 : chL mX10_quarrel 24 bX10_quarrel_24 = true := by decide +kernel
def bX10_quarrel_37 : List AI := [(.iconst 0, [], []), (.nop, [38], [])]
theorem kX10_quarrel_37 : chL mX10_quarrel 37 bX10_quarrel_37 = true := by decide +kernel
def bX10_quarrel_38 : List AI := [(.ireturn, [0], [])]
theorem kX10_quarrel_38 : chL mX10_quarrel 38 bX10_quarrel_38 = true := by decide +kernel
def bX10_fallOut_0 : List AI := [(.aload_n 0, [], []), (.iconst 0, [], []), (.putfield 1, [0, 10, 0, 1192], []), (.aload_n 0, [], []), (.iload_n 1, [], []), (.iload_n 2, [], []), (.invokevirtual 209, [0, 2, 0, 0, 10, 1442, 1439, 1441, 55, 100], [mX10_areTwo]), (.ifCond .ne 6, [17], []), (.bipush (-2), [], []), (.ireturn, [0], [])]
theorem kX10_fallOut_0 : chL mX10_fallOut 0 bX10_fallOut_0 = true := by decide +kernel
def bX10_fallOut_17 : List AI := [(.aload_n 0, [], []), (.getfield 13, [2, 10, 1, 1193], []), (.bipush 119, [], []), (.iload_n 1, [], []), (.iload_n 2, [], []), (.aload_n 0, [], []), (.iload_n 1, [], []), (.iload_n 2, [], []), (.invokevirtual 205, [0, 2, 0, 0, 10, 1434, 1431, 1433, 54, 100], [mX10_quarrels]), (.ifCond .eq 7, [38], []), (.iconst 0, [], []), (.goto 4, [39], [])]
theorem kX10_fallOut_17 : chL mX10_fallOut 17 bX10_fallOut_17 = true := by decide +kernel
def bX10_fallOut_38 : List AI := [(.iconst 1, [], []), (.nop, [39], [])]
theorem kX10_fallOut_38 : chL mX10_fallOut 38 bX10_fallOut_38 = true := by decide +kernel
def bX10_fallOut_39 : List AI := [(.invokestatic 165, [0, 5, 0, 0, 1393, 1391, 1392, 100], [mX10_sets]), (.aload_n 0, [], []), (.iload_n 1, [], []), (.iload_n 2, [], []), (.invokevirtual 205, [0, 2, 0, 0, 10, 1434, 1431, 1433, 54, 100], [mX10_quarrels]), (.ifCond .eq 7, [55], []), (.iconst 1, [], []), (.goto 4, [56], [])]
theorem kX10_fallOut_39 : chL mX10_fallOut 39 bX10_fallOut_39 = true := by decide +kernel
def bX10_fallOut_55 : List AI := [(.iconst 0, [], []), (.nop, [56], [])]
theorem kX10_fallOut_55 : chL mX10_fallOut 55 bX10_fallOut_55 = true := by decide +kernel
def bX10_fallOut_56 : List AI := [(.ireturn, [0], [])]
theorem kX10_fallOut_56 : chL mX10_fallOut 56 bX10_fallOut_56 = true := by decide +kernel
def bX10_wish_0 : List AI := [(.aload_n 0, [], []), (.iconst 0, [], []), (.putfield 1, [0, 10, 0, 1192], []), (.aload_n 0, [], []), (.iload_n 1, [], []), (.invokevirtual 184, [0, 1, 0, 0, 10, 1405, 1402, 1404, 49, 100], [mX10_isFamily]), (.ifCond .ne 6, [16], []), (.bipush (-2), [], []), (.ireturn, [0], [])]
theorem kX10_wish_0 : chL mX10_wish 0 bX10_wish_0 = true := by decide +kernel
def bX10_wish_16 : List AI := [(.iload_n 2, [], []), (.i2l, [], []), (.lconst 0, [], []), (.ldc2_w 153, [99, 1382], []), (.invokestatic 149, [0, 3, 0, 0, 1332, 1330, 1331, 100], [mX10_within]), (.ifCond .ne 6, [31], []), (.bipush (-3), [], []), (.ireturn, [0], [])]
theorem kX10_wish_16 : chL mX10_wish 16 bX10_wish_16 = true := by decide +kernel
def bX10_wish_31 : List AI := [(.aload_n 0, [], []), (.getfield 13, [2, 10, 1, 1193], []), (.bipush 29, [], []), (.iload_n 1, [], []), (.iadd, [], []), (.iaload, [0], []), (.istore_n 3, [], []), (.aload_n 0, [], []), (.getfield 13, [2, 10, 1, 1193], []), (.bipush 29, [], []), (.iload_n 1, [], []), (.iadd, [], []), (.iload_n 2, [], []), (.iastore, [], []), (.iload_n 3, [], []), (.ireturn, [0], [])]
theorem kX10_wish_31 : chL mX10_wish 31 bX10_wish_31 = true := by decide +kernel
def bX10_mill_0 : List AI := [(.aload_n 0, [], []), (.iconst 0, [], []), (.putfield 1, [0, 10, 0, 1192], []), (.aload_n 0, [], []), (.iload_n 1, [], []), (.invokevirtual 184, [0, 1, 0, 0, 10, 1405, 1402, 1404, 49, 100], [mX10_isFamily]), (.ifCond .ne 6, [16], []), (.bipush (-2), [], []), (.ireturn, [0], [])]
theorem kX10_mill_0 : chL mX10_mill 0 bX10_mill_0 = true := by decide +kernel
def bX10_mill_16 : List AI := [(.iload_n 2, [], []), (.i2l, [], []), (.lconst 0, [], []), (.ldc2_w 212, [999, 1451], []), (.invokestatic 149, [0, 3, 0, 0, 1332, 1330, 1331, 100], [mX10_within]), (.ifCond .ne 6, [31], []), (.bipush (-3), [], []), (.ireturn, [0], [])]
theorem kX10_mill_16 : chL mX10_mill 16 bX10_mill_16 = true := by decide +kernel
def bX10_mill_31 : List AI := [(.aload_n 0, [], []), (.getfield 13, [2, 10, 1, 1193], []), (.bipush 19, [], []), (.iload_n 1, [], []), (.iadd, [], []), (.aload_n 0, [], []), (.getfield 13, [2, 10, 1, 1193], []), (.bipush 19, [], []), (.iload_n 1, [], []), (.iadd, [], []), (.iaload, [0], []), (.iload_n 2, [], []), (.iadd, [], []), (.sipush 999, [], []), (.if_icmp .le 9, [62], []), (.sipush 999, [], []), (.goto 14, [73], [])]
theorem kX10_mill_31 : chL mX10_mill 31 bX10_mill_31 = true := by decide +kernel
def bX10_mill_62 : List AI := [(.aload_n 0, [], []), (.getfield 13, [2, 10, 1, 1193], []), (.bipush 19, [], []), (.iload_n 1, [], []), (.iadd, [], []), (.iaload, [0], []), (.iload_n 2, [], []), (.iadd, [], []), (.nop, [73], [])]
theorem kX10_mill_62 : chL mX10_mill 62 bX10_mill_62 = true := by decide +kernel
def bX10_mill_73 : List AI := [(.iastore, [], []), (.aload_n 0, [], []), (.getfield 13, [2, 10, 1, 1193], []), (.bipush 19, [], []), (.iload_n 1, [], []), (.iadd, [], []), (.iaload, [0], []), (.ireturn, [0], [])]
theorem kX10_mill_73 : chL mX10_mill 73 bX10_mill_73 = true := by decide +kernel
def bX10_refuses_0 : List AI := [(.lconst 0, [], []), (.lstore_n 2, [], []), (.iconst 0, [], []), (.istore 4, [], []), (.iconst 0, [], []), (.istore 5, [], []), (.nop, [8], [])]
theorem kX10_refuses_0 : chL mX10_refuses 0 bX10_refuses_0 = true := by decide +kernel
def bX10_refuses_8 : List AI := [(.iload 5, [], []), (.aload_n 0, [], []), (.getfield 13, [2, 10, 1, 1193], []), (.iconst 0, [], []), (.iaload, [0], []), (.if_icmp .ge 107, [123], []), (.aload_n 0, [], []), (.getfield 30, [2, 10, 15, 1207], []), (.iload 5, [], []), (.laload, [], []), (.lconst 0, [], []), (.aload_n 0, [], []), (.getfield 13, [2, 10, 1, 1193], []), (.bipush 19, [], []), (.iload 5, [], []), (.iadd, [], []), (.iaload, [0], []), (.i2l, [], []), (.invokestatic 149, [0, 3, 0, 0, 1332, 1330, 1331, 100], [mX10_within]), (.ifCond .ne 5, [46], []), (.iconst 1, [], []), (.ireturn, [0], [])]
theorem kX10_refuses_8 : chL mX10_refuses 8 bX10_refuses_8 = true := by decide +kernel
def bX10_refuses_46 : List AI := [(.lload_n 2, [], []), (.aload_n 0, [], []), (.getfield 30, [2, 10, 15, 1207], []), (.iload 5, [], []), (.laload, [], []), (.ladd, [], []), (.lstore_n 2, [], []), (.iconst 0, [], []), (.istore 6, [], []), (.nop, [59], [])]
theorem kX10_refuses_46 : chL mX10_refuses 46 bX10_refuses_46 = true := by decide +kernel
def bX10_refuses_59 : List AI := [(.iload 6, [], []), (.iload 5, [], []), (.if_icmp .ge 54, [117], []), (.iload 4, [], []), (.aload_n 0, [], []), (.getfield 30, [2, 10, 15, 1207], []), (.iload 5, [], []), (.laload, [], []), (.lconst 0, [], []), (.lcmp, [], []), (.ifCond .le 30, [107], []), (.aload_n 0, [], []), (.getfield 30, [2, 10, 15, 1207], []), (.iload 6, [], []), (.laload, [], []), (.lconst 0, [], []), (.lcmp, [], []), (.ifCond .le 18, [107], []), (.aload_n 0, [], []), (.iload 5, [], []), (.iload 6, [], []), (.invokevirtual 205, [0, 2, 0, 0, 10, 1434, 1431, 1433, 54, 100], [mX10_quarrels]), (.ifCond .eq 7, [107], []), (.iconst 1, [], []), (.goto 4, [108], [])]
theorem kX10_refuses_59 : chL mX10_refuses 59 bX10_refuses_59 = true := by decide +kernel
def bX10_refuses_107 : List AI := [(.iconst 0, [], []), (.nop, [108], [])]
theorem kX10_refuses_107 : chL mX10_refuses 107 bX10_refuses_107 = true := by decide +kernel
def bX10_refuses_108 : List AI := [(.ior, [], []), (.istore 4, [], []), (.iinc 6 1, [], []), (.goto (-55), [59], [])]
theorem kX10_refuses_108 : chL mX10_refuses 108 bX10_refuses_108 = true := by decide +kernel
def bX10_refuses_117 : List AI := [(.iinc 5 1, [], []), (.goto (-112), [8], [])]
theorem kX10_refuses_117 : chL mX10_refuses 117 bX10_refuses_117 = true := by decide +kernel
def bX10_refuses_123 : List AI := [(.iload 4, [], []), (.ifCond .eq 7, [132], []), (.iconst 2, [], []), (.goto 23, [152], [])]
theorem kX10_refuses_123 : chL mX10_refuses 123 bX10_refuses_123 = true := by decide +kernel
def bX10_refuses_132 : List AI := [(.lload_n 2, [], []), (.aload_n 0, [], []), (.getfield 13, [2, 10, 1, 1193], []), (.bipush 6, [], []), (.iload_n 1, [], []), (.iadd, [], []), (.iaload, [0], []), (.i2l, [], []), (.lcmp, [], []), (.ifCond .ne 7, [151], []), (.iconst 0, [], []), (.goto 4, [152], [])]
theorem kX10_refuses_132 : chL mX10_refuses 132 bX10_refuses_132 = true := by decide +kernel
def bX10_refuses_151 : List AI := [(.iconst 3, [], []), (.nop, [152], [])]
theorem kX10_refuses_151 : chL mX10_refuses 151 bX10_refuses_151 = true := by decide +kernel
def bX10_refuses_152 : List AI := [(.ireturn, [0], [])]
theorem kX10_refuses_152 : chL mX10_refuses 152 bX10_refuses_152 = true := by decide +kernel
def bX10_bakes_0 : List AI := [(.iconst 0, [], []), (.istore_n 2, [], []), (.iconst 0, [], []), (.istore_n 3, [], []), (.nop, [4], [])]
theorem kX10_bakes_0 : chL mX10_bakes 0 bX10_bakes_0 = true := by decide +kernel
def bX10_bakes_4 : List AI := [(.iload_n 3, [], []), (.aload_n 0, [], []), (.getfield 13, [2, 10, 1, 1193], []), (.iconst 0, [], []), (.iaload, [0], []), (.if_icmp .ge 88, [99], []), (.aload_n 0, [], []), (.getfield 30, [2, 10, 15, 1207], []), (.iload_n 3, [], []), (.laload, [], []), (.l2i, [], []), (.istore 4, [], []), (.aload_n 0, [], []), (.getfield 13, [2, 10, 1, 1193], []), (.iconst 4, [], []), (.iaload, [0], []), (.iload 4, [], []), (.imul, [], []), (.aload_n 0, [], []), (.getfield 13, [2, 10, 1, 1193], []), (.bipush 6, [], []), (.iload_n 1, [], []), (.iadd, [], []), (.iaload, [0], []), (.idiv, [], []), (.istore 5, [], []), (.aload_n 0, [], []), (.getfield 13, [2, 10, 1, 1193], []), (.bipush 19, [], []), (.iload_n 3, [], []), (.iadd, [], []), (.dup2, [0], []), (.iaload, [0], []), (.iload 4, [], []), (.isub, [], []), (.iastore, [], []), (.aload_n 0, [], []), (.getfield 13, [2, 10, 1, 1193], []), (.bipush 69, [], []), (.iconst 5, [], []), (.iload_n 3, [], []), (.imul, [], []), (.iadd, [], []), (.dup2, [0], []), (.iaload, [0], []), (.iload 4, [], []), (.iadd, [], []), (.iastore, [], []), (.aload_n 0, [], []), (.getfield 13, [2, 10, 1, 1193], []), (.bipush 39, [], []), (.iload_n 3, [], []), (.iadd, [], []), (.dup2, [0], []), (.iaload, [0], []), (.iload 5, [], []), (.iadd, [], []), (.iastore, [], []), (.iload_n 2, [], []), (.iload 5, [], []), (.iadd, [], []), (.istore_n 2, [], []), (.iinc 3 1, [], []), (.goto (-92), [4], [])]
theorem kX10_bakes_4 : chL mX10_bakes 4 bX10_bakes_4 = true := by decide +kernel
def bX10_bakes_99 : List AI := [(.iload_n 2, [], []), (.ireturn, [0], [])]
theorem kX10_bakes_99 : chL mX10_bakes 99 bX10_bakes_99 = true := by decide +kernel
def bX10_fire_0 : List AI := [(.aload_n 0, [], []), (.iconst 0, [], []), (.putfield 1, [0, 10, 0, 1192], []), (.aload_n 0, [], []), (.iload_n 1, [], []), (.invokevirtual 202, [0, 1, 0, 0, 10, 1426, 1423, 1425, 53, 100], [mX10_isOven]), (.ifCond .eq 15, [25], []), (.iload_n 2, [], []), (.i2l, [], []), (.lconst 0, [], []), (.ldc2_w 214, [3, 1456], []), (.invokestatic 149, [0, 3, 0, 0, 1332, 1330, 1331, 100], [mX10_within]), (.ifCond .ne 6, [28], []), (.nop, [25], [])]
theorem kX10_fire_0 : chL mX10_fire 0 bX10_fire_0 = true := by decide +kernel
def bX10_fire_25 : List AI := [(.bipush (-2), [], []), (.ireturn, [0], [])]
theorem kX10_fire_25 : chL mX10_fire 25 bX10_fire_25 = true := by decide +kernel
def bX10_fire_28 : List AI := [(.aload_n 0, [], []), (.getfield 76, [2, 10, 40, 1232], []), (.iload_n 2, [], []), (.iaload, [0], []), (.iconst (-1), [], []), (.if_icmp .ne 6, [41], []), (.bipush (-6), [], []), (.ireturn, [0], [])]
theorem kX10_fire_28 : chL mX10_fire 28 bX10_fire_28 = true := by decide +kernel
def bX10_fire_41 : List AI := [(.aload_n 0, [], []), (.getfield 79, [2, 10, 41, 1233], []), (.iload_n 2, [], []), (.iaload, [0], []), (.aload_n 0, [], []), (.getfield 13, [2, 10, 1, 1193], []), (.iconst 0, [], []), (.iaload, [0], []), (.if_icmp .eq 6, [59], []), (.bipush (-7), [], []), (.ireturn, [0], [])]
theorem kX10_fire_41 : chL mX10_fire 41 bX10_fire_41 = true := by decide +kernel
def bX10_fire_59 : List AI := [(.iconst 0, [], []), (.istore_n 3, [], []), (.nop, [61], [])]
theorem kX10_fire_59 : chL mX10_fire 59 bX10_fire_59 = true := by decide +kernel
def bX10_fire_61 : List AI := [(.iload_n 3, [], []), (.aload_n 0, [], []), (.getfield 13, [2, 10, 1, 1193], []), (.iconst 0, [], []), (.iaload, [0], []), (.if_icmp .ge 26, [94], []), (.aload_n 0, [], []), (.getfield 30, [2, 10, 15, 1207], []), (.iload_n 3, [], []), (.aload_n 0, [], []), (.getfield 82, [2, 10, 42, 1234], []), (.bipush 40, [], []), (.iload_n 2, [], []), (.imul, [], []), (.iload_n 3, [], []), (.iadd, [], []), (.laload, [], []), (.lastore, [], []), (.iinc 3 1, [], []), (.goto (-30), [61], [])]
theorem kX10_fire_61 : chL mX10_fire 61 bX10_fire_61 = true := by decide +kernel
def bX10_fire_94 : List AI := [(.aload_n 0, [], []), (.iload_n 1, [], []), (.invokevirtual 216, [0, 1, 0, 0, 10, 1460, 1457, 1459, 56, 100], [mX10_refuses]), (.istore_n 3, [], []), (.iload_n 3, [], []), (.ifCond .eq 10, [111], []), (.bipush (-10), [], []), (.iload_n 3, [], []), (.isub, [], []), (.goto 8, [116], [])]
theorem kX10_fire_94 : chL mX10_fire 94 bX10_fire_94 = true := by decide +kernel
def bX10_fire_111 : List AI := [(.aload_n 0, [], []), (.iload_n 1, [], []), (.invokevirtual 219, [0, 1, 0, 0, 10, 1464, 1461, 1463, 57, 100], [mX10_bakes]), (.nop, [116], [])]
theorem kX10_fire_111 : chL mX10_fire 111 bX10_fire_111 = true := by decide +kernel
def bX10_fire_116 : List AI := [(.ireturn, [0], [])]
theorem kX10_fire_116 : chL mX10_fire 116 bX10_fire_116 = true := by decide +kernel
def bX10_isSet_0 : List AI := [(.lload_n 1, [], []), (.lconst 0, [], []), (.lconst 1, [], []), (.aload_n 0, [], []), (.getfield 13, [2, 10, 1, 1193], []), (.iconst 0, [], []), (.iaload, [0], []), (.lshl, [], []), (.lconst 1, [], []), (.lsub, [], []), (.invokestatic 149, [0, 3, 0, 0, 1332, 1330, 1331, 100], [mX10_within]), (.ireturn, [1], [])]
theorem kX10_isSet_0 : chL mX10_isSet 0 bX10_isSet_0 = true := by decide +kernel
def bX10_refusesWishes_0 : List AI := [(.iconst 0, [], []), (.istore_n 3, [], []), (.nop, [2], [])]
theorem kX10_refusesWishes_0 : chL mX10_refusesWishes 0 bX10_refusesWishes_0 = true := by decide +kernel
def bX10_refusesWishes_2 : List AI := [(.iload_n 3, [], []), (.aload_n 0, [], []), (.getfield 13, [2, 10, 1, 1193], []), (.iconst 0, [], []), (.iaload, [0], []), (.if_icmp .ge 38, [47], []), (.aload_n 0, [], []), (.getfield 30, [2, 10, 15, 1207], []), (.iload_n 3, [], []), (.iload_n 2, [], []), (.i2l, [], []), (.iload_n 3, [], []), (.invokestatic 187, [0, 2, 0, 0, 1479, 1477, 1478, 100], [mX10_isIn]), (.ifCond .eq 16, [39], []), (.aload_n 0, [], []), (.getfield 13, [2, 10, 1, 1193], []), (.bipush 29, [], []), (.iload_n 3, [], []), (.iadd, [], []), (.iaload, [0], []), (.i2l, [], []), (.goto 4, [40], [])]
theorem kX10_refusesWishes_2 : chL mX10_refusesWishes 2 bX10_refusesWishes_2 = true := by decide +kernel
def bX10_refusesWishes_39 : List AI := [(.lconst 0, [], []), (.nop, [40], [])]
theorem kX10_refusesWishes_39 : chL mX10_refusesWishes 39 bX10_refusesWishes_39 = true := by decide +kernel
def bX10_refusesWishes_40 : List AI := [(.lastore, [], []), (.iinc 3 1, [], []), (.goto (-42), [2], [])]
theorem kX10_refusesWishes_40 : chL mX10_refusesWishes 40 bX10_refusesWishes_40 = true := by decide +kernel
def bX10_refusesWishes_47 : List AI := [(.aload_n 0, [], []), (.iload_n 1, [], []), (.invokevirtual 216, [0, 1, 0, 0, 10, 1460, 1457, 1459, 56, 100], [mX10_refuses]), (.ireturn, [0], [])]
theorem kX10_refusesWishes_47 : chL mX10_refusesWishes 47 bX10_refusesWishes_47 = true := by decide +kernel
def bX10_bakesWishes_0 : List AI := [(.iconst 0, [], []), (.istore_n 3, [], []), (.nop, [2], [])]
theorem kX10_bakesWishes_0 : chL mX10_bakesWishes 0 bX10_bakesWishes_0 = true := by decide +kernel
def bX10_bakesWishes_2 : List AI := [(.iload_n 3, [], []), (.aload_n 0, [], []), (.getfield 13, [2, 10, 1, 1193], []), (.iconst 0, [], []), (.iaload, [0], []), (.if_icmp .ge 40, [49], []), (.aload_n 0, [], []), (.getfield 13, [2, 10, 1, 1193], []), (.bipush 29, [], []), (.iload_n 3, [], []), (.iadd, [], []), (.iload_n 2, [], []), (.i2l, [], []), (.iload_n 3, [], []), (.invokestatic 187, [0, 2, 0, 0, 1479, 1477, 1478, 100], [mX10_isIn]), (.ifCond .eq 7, [33], []), (.iconst 0, [], []), (.goto 12, [42], [])]
theorem kX10_bakesWishes_2 : chL mX10_bakesWishes 2 bX10_bakesWishes_2 = true := by decide +kernel
def bX10_bakesWishes_33 : List AI := [(.aload_n 0, [], []), (.getfield 13, [2, 10, 1, 1193], []), (.bipush 29, [], []), (.iload_n 3, [], []), (.iadd, [], []), (.iaload, [0], []), (.nop, [42], [])]
theorem kX10_bakesWishes_33 : chL mX10_bakesWishes 33 bX10_bakesWishes_33 = true := by decide +kernel
def bX10_bakesWishes_42 : List AI := [(.iastore, [], []), (.iinc 3 1, [], []), (.goto (-44), [2], [])]
theorem kX10_bakesWishes_42 : chL mX10_bakesWishes 42 bX10_bakesWishes_42 = true := by decide +kernel
def bX10_bakesWishes_49 : List AI := [(.aload_n 0, [], []), (.iload_n 1, [], []), (.invokevirtual 219, [0, 1, 0, 0, 10, 1464, 1461, 1463, 57, 100], [mX10_bakes]), (.ireturn, [0], [])]
theorem kX10_bakesWishes_49 : chL mX10_bakesWishes 49 bX10_bakesWishes_49 = true := by decide +kernel
def bX10_fireWishes_0 : List AI := [(.aload_n 0, [], []), (.iconst 0, [], []), (.putfield 1, [0, 10, 0, 1192], []), (.aload_n 0, [], []), (.iload_n 1, [], []), (.invokevirtual 202, [0, 1, 0, 0, 10, 1426, 1423, 1425, 53, 100], [mX10_isOven]), (.ifCond .ne 6, [16], []), (.bipush (-2), [], []), (.ireturn, [0], [])]
theorem kX10_fireWishes_0 : chL mX10_fireWishes 0 bX10_fireWishes_0 = true := by decide +kernel
def bX10_fireWishes_16 : List AI := [(.aload_n 0, [], []), (.iload_n 2, [], []), (.i2l, [], []), (.invokevirtual 222, [0, 1, 0, 0, 10, 1472, 1469, 1471, 58, 100], [mX10_isSet]), (.ifCond .ne 6, [28], []), (.bipush (-3), [], []), (.ireturn, [0], [])]
theorem kX10_fireWishes_16 : chL mX10_fireWishes 16 bX10_fireWishes_16 = true := by decide +kernel
def bX10_fireWishes_28 : List AI := [(.aload_n 0, [], []), (.iload_n 1, [], []), (.iload_n 2, [], []), (.invokevirtual 226, [0, 2, 0, 0, 10, 1476, 1473, 1475, 59, 100], [mX10_refusesWishes]), (.istore_n 3, [], []), (.iload_n 3, [], []), (.ifCond .eq 10, [46], []), (.bipush (-10), [], []), (.iload_n 3, [], []), (.isub, [], []), (.goto 9, [52], [])]
theorem kX10_fireWishes_28 : chL mX10_fireWishes 28 bX10_fireWishes_28 = true := by decide +kernel
def bX10_fireWishes_46 : List AI := [(.aload_n 0, [], []), (.iload_n 1, [], []), (.iload_n 2, [], []), (.invokevirtual 229, [0, 2, 0, 0, 10, 1483, 1480, 1482, 60, 100], [mX10_bakesWishes]), (.nop, [52], [])]
theorem kX10_fireWishes_46 : chL mX10_fireWishes 46 bX10_fireWishes_46 = true := by decide +kernel
def bX10_fireWishes_52 : List AI := [(.ireturn, [0], [])]
theorem kX10_fireWishes_52 : chL mX10_fireWishes 52 bX10_fireWishes_52 = true := by decide +kernel
def bX10_keeps_0 : List AI := [(.iconst 0, [], []), (.istore_n 1, [], []), (.nop, [2], [])]
theorem kX10_keeps_0 : chL mX10_keeps 0 bX10_keeps_0 = true := by decide +kernel
def bX10_keeps_2 : List AI := [(.iload_n 1, [], []), (.sipush 319, [], []), (.if_icmp .ge 21, [27], []), (.aload_n 0, [], []), (.getfield 34, [2, 10, 16, 1208], []), (.iload_n 1, [], []), (.aload_n 0, [], []), (.getfield 13, [2, 10, 1, 1193], []), (.iload_n 1, [], []), (.iaload, [0], []), (.iastore, [], []), (.iinc 1 1, [], []), (.goto (-22), [2], [])]
theorem kX10_keeps_2 : chL mX10_keeps 2 bX10_keeps_2 = true := by decide +kernel
def bX10_keeps_27 : List AI := [(.return_, [], [])]
theorem kX10_keeps_27 : chL mX10_keeps 27 bX10_keeps_27 = true := by decide +kernel
def bX10_isAgain_0 : List AI := [(.iconst 0, [], []), (.istore_n 1, [], []), (.nop, [2], [])]
theorem kX10_isAgain_0 : chL mX10_isAgain 0 bX10_isAgain_0 = true := by decide +kernel
def bX10_isAgain_2 : List AI := [(.iload_n 1, [], []), (.sipush 319, [], []), (.if_icmp .ge 21, [27], []), (.aload_n 0, [], []), (.getfield 13, [2, 10, 1, 1193], []), (.iload_n 1, [], []), (.aload_n 0, [], []), (.getfield 34, [2, 10, 16, 1208], []), (.iload_n 1, [], []), (.iaload, [0], []), (.iastore, [], []), (.iinc 1 1, [], []), (.goto (-22), [2], [])]
theorem kX10_isAgain_2 : chL mX10_isAgain 2 bX10_isAgain_2 = true := by decide +kernel
def bX10_isAgain_27 : List AI := [(.return_, [], [])]
theorem kX10_isAgain_27 : chL mX10_isAgain 27 bX10_isAgain_27 = true := by decide +kernel
def bX10_firesOf_0 : List AI := [(.aload_n 0, [], []), (.iconst 0, [], []), (.putfield 232, [0, 10, 17, 1209], []), (.aload_n 0, [], []), (.iconst 0, [], []), (.putfield 235, [0, 10, 18, 1210], []), (.iconst 0, [], []), (.istore_n 2, [], []), (.nop, [12], [])]
theorem kX10_firesOf_0 : chL mX10_firesOf 0 bX10_firesOf_0 = true := by decide +kernel
def bX10_firesOf_12 : List AI := [(.iload_n 2, [], []), (.aload_n 0, [], []), (.getfield 79, [2, 10, 41, 1233], []), (.iload_n 1, [], []), (.iaload, [0], []), (.if_icmp .ge 127, [146], []), (.aload_n 0, [], []), (.getfield 82, [2, 10, 42, 1234], []), (.bipush 40, [], []), (.iload_n 1, [], []), (.imul, [], []), (.iload_n 2, [], []), (.iadd, [], []), (.laload, [], []), (.lstore_n 3, [], []), (.lload_n 3, [], []), (.lconst 0, [], []), (.lcmp, [], []), (.ifCond .lt 31, [68], []), (.lload_n 3, [], []), (.ldc2_w 238, [1024, 1497], []), (.ldiv, [], []), (.aload_n 0, [], []), (.getfield 13, [2, 10, 1, 1193], []), (.iconst 1, [], []), (.iaload, [0], []), (.i2l, [], []), (.lcmp, [], []), (.ifCond .ge 15, [68], []), (.aload_n 0, [], []), (.lload_n 3, [], []), (.ldc2_w 238, [1024, 1497], []), (.lrem, [], []), (.invokevirtual 222, [0, 1, 0, 0, 10, 1472, 1469, 1471, 58, 100], [mX10_isSet]), (.ifCond .ne 10, [75], []), (.nop, [68], [])]
theorem kX10_firesOf_12 : chL mX10_firesOf 12 bX10_firesOf_12 = true := by decide +kernel
def bX10_firesOf_68 : List AI := [(.aload_n 0, [], []), (.iconst 4, [], []), (.putfield 232, [0, 10, 17, 1209], []), (.iload_n 2, [], []), (.ireturn, [0], [])]
theorem kX10_firesOf_68 : chL mX10_firesOf 68 bX10_firesOf_68 = true := by decide +kernel
def bX10_firesOf_75 : List AI := [(.lload_n 3, [], []), (.l2i, [], []), (.sipush 1024, [], []), (.idiv, [], []), (.istore 5, [], []), (.lload_n 3, [], []), (.l2i, [], []), (.sipush 1024, [], []), (.irem, [], []), (.istore 6, [], []), (.aload_n 0, [], []), (.aload_n 0, [], []), (.iload 5, [], []), (.iload 6, [], []), (.invokevirtual 226, [0, 2, 0, 0, 10, 1476, 1473, 1475, 59, 100], [mX10_refusesWishes]), (.putfield 232, [0, 10, 17, 1209], []), (.aload_n 0, [], []), (.getfield 232, [0, 10, 17, 1209], []), (.ifCond .eq 5, [112], []), (.iload_n 2, [], []), (.ireturn, [0], [])]
theorem kX10_firesOf_75 : chL mX10_firesOf 75 bX10_firesOf_75 = true := by decide +kernel
def bX10_firesOf_112 : List AI := [(.aload_n 0, [], []), (.iload 5, [], []), (.iload 6, [], []), (.invokevirtual 229, [0, 2, 0, 0, 10, 1483, 1480, 1482, 60, 100], [mX10_bakesWishes]), (.pop, [], []), (.aload_n 0, [], []), (.dup, [], []), (.getfield 235, [0, 10, 18, 1210], []), (.aload_n 0, [], []), (.getfield 13, [2, 10, 1, 1193], []), (.bipush 6, [], []), (.iload 5, [], []), (.iadd, [], []), (.iaload, [0], []), (.iadd, [], []), (.putfield 235, [0, 10, 18, 1210], []), (.iinc 2 1, [], []), (.goto (-131), [12], [])]
theorem kX10_firesOf_112 : chL mX10_firesOf 112 bX10_firesOf_112 = true := by decide +kernel
def bX10_firesOf_146 : List AI := [(.aload_n 0, [], []), (.getfield 79, [2, 10, 41, 1233], []), (.iload_n 1, [], []), (.iaload, [0], []), (.ireturn, [0], [])]
theorem kX10_firesOf_146 : chL mX10_firesOf 146 bX10_firesOf_146 = true := by decide +kernel
def bX10_judge_0 : List AI := [(.aload_n 0, [], []), (.iconst 0, [], []), (.putfield 1, [0, 10, 0, 1192], []), (.iload_n 1, [], []), (.i2l, [], []), (.lconst 0, [], []), (.ldc2_w 214, [3, 1456], []), (.invokestatic 149, [0, 3, 0, 0, 1332, 1330, 1331, 100], [mX10_within]), (.ifCond .eq 15, [29], []), (.iload_n 2, [], []), (.i2l, [], []), (.lconst 0, [], []), (.ldc2_w 240, [2, 1488], []), (.invokestatic 149, [0, 3, 0, 0, 1332, 1330, 1331, 100], [mX10_within]), (.ifCond .ne 6, [32], []), (.nop, [29], [])]
theorem kX10_judge_0 : chL mX10_judge 0 bX10_judge_0 = true := by decide +kernel
def bX10_judge_29 : List AI := [(.bipush (-2), [], []), (.ireturn, [0], [])]
theorem kX10_judge_29 : chL mX10_judge 29 bX10_judge_29 = true := by decide +kernel
def bX10_judge_32 : List AI := [(.aload_n 0, [], []), (.getfield 76, [2, 10, 40, 1232], []), (.iload_n 1, [], []), (.iaload, [0], []), (.iconst (-1), [], []), (.if_icmp .ne 6, [45], []), (.bipush (-6), [], []), (.ireturn, [0], [])]
theorem kX10_judge_32 : chL mX10_judge 32 bX10_judge_32 = true := by decide +kernel
def bX10_judge_45 : List AI := [(.aload_n 0, [], []), (.invokevirtual 242, [0, 0, 0, 0, 10, 1492, 1489, 1491, 61, 100], [mX10_keeps]), (.aload_n 0, [], []), (.iload_n 1, [], []), (.invokevirtual 245, [0, 1, 0, 0, 10, 1496, 1493, 1495, 62, 100], [mX10_firesOf]), (.istore_n 3, [], []), (.aload_n 0, [], []), (.invokevirtual 248, [0, 0, 0, 0, 10, 1501, 1498, 1500, 63, 100], [mX10_isAgain]), (.iload_n 2, [], []), (.ifCond .ne 18, [78], []), (.aload_n 0, [], []), (.getfield 232, [0, 10, 17, 1209], []), (.ifCond .ne 7, [74], []), (.iconst (-1), [], []), (.goto 23, [94], [])]
theorem kX10_judge_45 : chL mX10_judge 45 bX10_judge_45 = true := by decide +kernel
def bX10_judge_74 : List AI := [(.iload_n 3, [], []), (.goto 19, [94], [])]
theorem kX10_judge_74 : chL mX10_judge 74 bX10_judge_74 = true := by decide +kernel
def bX10_judge_78 : List AI := [(.iload_n 2, [], []), (.iconst 1, [], []), (.if_icmp .ne 10, [90], []), (.aload_n 0, [], []), (.getfield 232, [0, 10, 17, 1209], []), (.goto 7, [94], [])]
theorem kX10_judge_78 : chL mX10_judge 78 bX10_judge_78 = true := by decide +kernel
def bX10_judge_90 : List AI := [(.aload_n 0, [], []), (.getfield 235, [0, 10, 18, 1210], []), (.nop, [94], [])]
theorem kX10_judge_90 : chL mX10_judge 90 bX10_judge_90 = true := by decide +kernel
def bX10_judge_94 : List AI := [(.ireturn, [0], [])]
theorem kX10_judge_94 : chL mX10_judge 94 bX10_judge_94 = true := by decide +kernel
def bX10_perform_0 : List AI := [(.aload_n 0, [], []), (.iconst 0, [], []), (.putfield 1, [0, 10, 0, 1192], []), (.iload_n 1, [], []), (.i2l, [], []), (.lconst 0, [], []), (.ldc2_w 214, [3, 1456], []), (.invokestatic 149, [0, 3, 0, 0, 1332, 1330, 1331, 100], [mX10_within]), (.ifCond .ne 6, [20], []), (.bipush (-2), [], []), (.ireturn, [0], [])]
theorem kX10_perform_0 : chL mX10_perform 0 bX10_perform_0 = true := by decide +kernel
def bX10_perform_20 : List AI := [(.aload_n 0, [], []), (.getfield 76, [2, 10, 40, 1232], []), (.iload_n 1, [], []), (.iaload, [0], []), (.iconst (-1), [], []), (.if_icmp .ne 8, [35], []), (.bipush (-6), [], []), (.goto 8, [40], [])]
theorem kX10_perform_20 : chL mX10_perform 20 bX10_perform_20 = true := by decide +kernel
def bX10_perform_35 : List AI := [(.aload_n 0, [], []), (.iload_n 1, [], []), (.invokevirtual 245, [0, 1, 0, 0, 10, 1496, 1493, 1495, 62, 100], [mX10_firesOf]), (.nop, [40], [])]
theorem kX10_perform_35 : chL mX10_perform 35 bX10_perform_35 = true := by decide +kernel
def bX10_perform_40 : List AI := [(.ireturn, [0], [])]
theorem kX10_perform_40 : chL mX10_perform 40 bX10_perform_40 = true := by decide +kernel
def bX10_lacks_0 : List AI := [(.iload_n 3, [], []), (.istore 4, [], []), (.aload_n 0, [], []), (.getfield 13, [2, 10, 1, 1193], []), (.iconst 3, [], []), (.iaload, [0], []), (.iconst 1, [], []), (.isub, [], []), (.istore 5, [], []), (.nop, [13], [])]
theorem kX10_lacks_0 : chL mX10_lacks 0 bX10_lacks_0 = true := by decide +kernel
def bX10_lacks_13 : List AI := [(.iload 5, [], []), (.ifCond .lt 51, [66], []), (.aload_n 1, [], []), (.iload_n 2, [], []), (.iload 5, [], []), (.iadd, [], []), (.iaload, [0], []), (.iload 4, [], []), (.if_icmp .ge 12, [38], []), (.aload_n 1, [], []), (.iload_n 2, [], []), (.iload 5, [], []), (.iadd, [], []), (.iaload, [0], []), (.goto 5, [40], [])]
theorem kX10_lacks_13 : chL mX10_lacks 13 bX10_lacks_13 = true := by decide +kernel
def bX10_lacks_38 : List AI := [(.iload 4, [], []), (.nop, [40], [])]
theorem kX10_lacks_38 : chL mX10_lacks 38 bX10_lacks_38 = true := by decide +kernel
def bX10_lacks_40 : List AI := [(.istore 6, [], []), (.aload_n 1, [], []), (.iload_n 2, [], []), (.iload 5, [], []), (.iadd, [], []), (.dup2, [0], []), (.iaload, [0], []), (.iload 6, [], []), (.isub, [], []), (.iastore, [], []), (.iload 4, [], []), (.iload 6, [], []), (.isub, [], []), (.istore 4, [], []), (.iinc 5 (-1), [], []), (.goto (-50), [13], [])]
theorem kX10_lacks_40 : chL mX10_lacks 40 bX10_lacks_40 = true := by decide +kernel
def bX10_lacks_66 : List AI := [(.iload 4, [], []), (.ireturn, [0], [])]
theorem kX10_lacks_66 : chL mX10_lacks 66 bX10_lacks_66 = true := by decide +kernel
def bX10_ages_0 : List AI := [(.aload_n 1, [], []), (.iload_n 2, [], []), (.aload_n 0, [], []), (.getfield 13, [2, 10, 1, 1193], []), (.iconst 3, [], []), (.iaload, [0], []), (.iadd, [], []), (.iconst 1, [], []), (.isub, [], []), (.iaload, [0], []), (.istore_n 3, [], []), (.aload_n 0, [], []), (.getfield 13, [2, 10, 1, 1193], []), (.iconst 3, [], []), (.iaload, [0], []), (.iconst 1, [], []), (.isub, [], []), (.istore 4, [], []), (.nop, [23], [])]
theorem kX10_ages_0 : chL mX10_ages 0 bX10_ages_0 = true := by decide +kernel
def bX10_ages_23 : List AI := [(.iload 4, [], []), (.ifCond .le 23, [48], []), (.aload_n 1, [], []), (.iload_n 2, [], []), (.iload 4, [], []), (.iadd, [], []), (.aload_n 1, [], []), (.iload_n 2, [], []), (.iload 4, [], []), (.iadd, [], []), (.iconst 1, [], []), (.isub, [], []), (.iaload, [0], []), (.iastore, [], []), (.iinc 4 (-1), [], []), (.goto (-22), [23], [])]
theorem kX10_ages_23 : chL mX10_ages 23 bX10_ages_23 = true := by decide +kernel
def bX10_ages_48 : List AI := [(.aload_n 1, [], []), (.iload_n 2, [], []), (.iconst 0, [], []), (.iastore, [], []), (.iload_n 3, [], []), (.ireturn, [0], [])]
theorem kX10_ages_48 : chL mX10_ages 48 bX10_ages_48 = true := by decide +kernel
def bX10_ends_0 : List AI := [(.iconst 0, [], []), (.istore_n 1, [], []), (.iconst 0, [], []), (.istore_n 2, [], []), (.nop, [4], [])]
theorem kX10_ends_0 : chL mX10_ends 0 bX10_ends_0 = true := by decide +kernel
def bX10_ends_4 : List AI := [(.iload_n 2, [], []), (.aload_n 0, [], []), (.getfield 13, [2, 10, 1, 1193], []), (.iconst 0, [], []), (.iaload, [0], []), (.if_icmp .ge 76, [87], []), (.aload_n 0, [], []), (.aload_n 0, [], []), (.getfield 13, [2, 10, 1, 1193], []), (.bipush 69, [], []), (.iconst 5, [], []), (.iload_n 2, [], []), (.imul, [], []), (.iadd, [], []), (.aload_n 0, [], []), (.getfield 13, [2, 10, 1, 1193], []), (.bipush 9, [], []), (.iload_n 2, [], []), (.iadd, [], []), (.iaload, [0], []), (.invokevirtual 251, [0, 3, 0, 0, 10, 1517, 1514, 1516, 65, 100], [mX10_lacks]), (.istore_n 3, [], []), (.aload_n 0, [], []), (.getfield 13, [2, 10, 1, 1193], []), (.bipush 49, [], []), (.iload_n 2, [], []), (.iadd, [], []), (.dup2, [0], []), (.iaload, [0], []), (.iload_n 3, [], []), (.iadd, [], []), (.iastore, [], []), (.aload_n 0, [], []), (.getfield 13, [2, 10, 1, 1193], []), (.bipush 59, [], []), (.iload_n 2, [], []), (.iadd, [], []), (.dup2, [0], []), (.iaload, [0], []), (.aload_n 0, [], []), (.aload_n 0, [], []), (.getfield 13, [2, 10, 1, 1193], []), (.bipush 69, [], []), (.iconst 5, [], []), (.iload_n 2, [], []), (.imul, [], []), (.iadd, [], []), (.invokevirtual 255, [0, 2, 0, 0, 10, 1521, 1518, 1520, 66, 100], [mX10_ages]), (.iadd, [], []), (.iastore, [], []), (.iload_n 1, [], []), (.iload_n 3, [], []), (.iadd, [], []), (.istore_n 1, [], []), (.iinc 2 1, [], []), (.goto (-80), [4], [])]
theorem kX10_ends_4 : chL mX10_ends 4 bX10_ends_4 = true := by decide +kernel
def bX10_ends_87 : List AI := [(.aload_n 0, [], []), (.getfield 13, [2, 10, 1, 1193], []), (.iconst 2, [], []), (.dup2, [0], []), (.iaload, [0], []), (.iconst 1, [], []), (.iadd, [], []), (.iastore, [], []), (.iload_n 1, [], []), (.ireturn, [0], [])]
theorem kX10_ends_87 : chL mX10_ends 87 bX10_ends_87 = true := by decide +kernel
def bX10_day_0 : List AI := [(.aload_n 0, [], []), (.iconst 0, [], []), (.putfield 1, [0, 10, 0, 1192], []), (.aload_n 0, [], []), (.getfield 13, [2, 10, 1, 1193], []), (.iconst 2, [], []), (.iaload, [0], []), (.sipush 999, [], []), (.if_icmp .ne 8, [22], []), (.bipush (-5), [], []), (.goto 7, [26], [])]
theorem kX10_day_0 : chL mX10_day 0 bX10_day_0 = true := by decide +kernel
def bX10_day_22 : List AI := [(.aload_n 0, [], []), (.invokevirtual 259, [0, 0, 0, 0, 10, 1513, 1510, 1512, 64, 100], [mX10_ends]), (.nop, [26], [])]
theorem kX10_day_22 : chL mX10_day 22 bX10_day_22 = true := by decide +kernel
def bX10_day_26 : List AI := [(.ireturn, [0], [])]
theorem kX10_day_26 : chL mX10_day 26 bX10_day_26 = true := by decide +kernel
def bX10_drawn_0 : List AI := [(.aload_n 0, [], []), (.iconst 0, [], []), (.putfield 1, [0, 10, 0, 1192], []), (.iload_n 2, [], []), (.i2l, [], []), (.lconst 1, [], []), (.ldc2_w 262, [30, 1526], []), (.invokestatic 149, [0, 3, 0, 0, 1332, 1330, 1331, 100], [mX10_within]), (.ifCond .ne 6, [20], []), (.bipush (-3), [], []), (.ireturn, [0], [])]
theorem kX10_drawn_0 : chL mX10_drawn 0 bX10_drawn_0 = true := by decide +kernel
def bX10_drawn_20 : List AI := [(.aload_n 0, [], []), (.getfield 13, [2, 10, 1, 1193], []), (.iconst 0, [], []), (.iaload, [0], []), (.ifCond .eq 17, [43], []), (.aload_n 0, [], []), (.getfield 13, [2, 10, 1, 1193], []), (.iconst 2, [], []), (.iaload, [0], []), (.iload_n 2, [], []), (.iadd, [], []), (.sipush 999, [], []), (.if_icmp .le 6, [46], []), (.nop, [43], [])]
theorem kX10_drawn_20 : chL mX10_drawn 20 bX10_drawn_20 = true := by decide +kernel
def bX10_drawn_43 : List AI := [(.bipush (-5), [], []), (.ireturn, [0], [])]
theorem kX10_drawn_43 : chL mX10_drawn 43 bX10_drawn_43 = true := by decide +kernel
def bX10_drawn_46 : List AI := [(.iload_n 1, [], []), (.istore_n 3, [], []), (.iconst 0, [], []), (.istore 4, [], []), (.iconst 0, [], []), (.istore 5, [], []), (.nop, [54], [])]
theorem kX10_drawn_46 : chL mX10_drawn 46 bX10_drawn_46 = true := by decide +kernel
def bX10_drawn_54 : List AI := [(.iload 5, [], []), (.iload_n 2, [], []), (.if_icmp .ge 127, [184], []), (.ldc_w 264, [1103515245, 1527], []), (.iload_n 3, [], []), (.imul, [], []), (.sipush 12345, [], []), (.iadd, [], []), (.istore_n 3, [], []), (.iload_n 3, [], []), (.bipush 16, [], []), (.iushr, [], []), (.aload_n 0, [], []), (.getfield 13, [2, 10, 1, 1193], []), (.iconst 0, [], []), (.iaload, [0], []), (.irem, [], []), (.istore 6, [], []), (.ldc_w 264, [1103515245, 1527], []), (.iload_n 3, [], []), (.imul, [], []), (.sipush 12345, [], []), (.iadd, [], []), (.istore_n 3, [], []), (.iload_n 3, [], []), (.bipush 16, [], []), (.iushr, [], []), (.iconst 3, [], []), (.irem, [], []), (.istore 7, [], []), (.iload 7, [], []), (.iconst 1, [], []), (.if_icmp .ne 32, [136], []), (.aload_n 0, [], []), (.getfield 13, [2, 10, 1, 1193], []), (.bipush 9, [], []), (.iload 6, [], []), (.iadd, [], []), (.iaload, [0], []), (.bipush 30, [], []), (.if_icmp .ge 17, [136], []), (.aload_n 0, [], []), (.getfield 13, [2, 10, 1, 1193], []), (.bipush 9, [], []), (.iload 6, [], []), (.iadd, [], []), (.dup2, [0], []), (.iaload, [0], []), (.iconst 1, [], []), (.iadd, [], []), (.iastore, [], []), (.nop, [136], [])]
theorem kX10_drawn_54 : chL mX10_drawn 54 bX10_drawn_54 = true := by decide +kernel
def bX10_drawn_136 : List AI := [(.iload 7, [], []), (.iconst 2, [], []), (.if_icmp .ne 30, [169], []), (.aload_n 0, [], []), (.getfield 13, [2, 10, 1, 1193], []), (.bipush 9, [], []), (.iload 6, [], []), (.iadd, [], []), (.iaload, [0], []), (.ifCond .le 17, [169], []), (.aload_n 0, [], []), (.getfield 13, [2, 10, 1, 1193], []), (.bipush 9, [], []), (.iload 6, [], []), (.iadd, [], []), (.dup2, [0], []), (.iaload, [0], []), (.iconst 1, [], []), (.isub, [], []), (.iastore, [], []), (.nop, [169], [])]
theorem kX10_drawn_136 : chL mX10_drawn 136 bX10_drawn_136 = true := by decide +kernel
def bX10_drawn_169 : List AI := [(.iload 4, [], []), (.aload_n 0, [], []), (.invokevirtual 259, [0, 0, 0, 0, 10, 1513, 1510, 1512, 64, 100], [mX10_ends]), (.iadd, [], []), (.istore 4, [], []), (.iinc 5 1, [], []), (.goto (-127), [54], [])]
theorem kX10_drawn_169 : chL mX10_drawn 169 bX10_drawn_169 = true := by decide +kernel
def bX10_drawn_184 : List AI := [(.iload 4, [], []), (.ireturn, [0], [])]
theorem kX10_drawn_184 : chL mX10_drawn 184 bX10_drawn_184 = true := by decide +kernel
def bX10_lasts_0 : List AI := [(.aload_n 0, [], []), (.iconst 0, [], []), (.putfield 1, [0, 10, 0, 1192], []), (.aload_n 0, [], []), (.iload_n 1, [], []), (.invokevirtual 184, [0, 1, 0, 0, 10, 1405, 1402, 1404, 49, 100], [mX10_isFamily]), (.ifCond .ne 6, [16], []), (.bipush (-2), [], []), (.ireturn, [0], [])]
theorem kX10_lasts_0 : chL mX10_lasts 0 bX10_lasts_0 = true := by decide +kernel
def bX10_lasts_16 : List AI := [(.iconst 0, [], []), (.istore_n 2, [], []), (.nop, [18], [])]
theorem kX10_lasts_16 : chL mX10_lasts 16 bX10_lasts_16 = true := by decide +kernel
def bX10_lasts_18 : List AI := [(.iload_n 2, [], []), (.iconst 5, [], []), (.if_icmp .ge 28, [48], []), (.aload_n 0, [], []), (.getfield 37, [2, 10, 19, 1211], []), (.iload_n 2, [], []), (.aload_n 0, [], []), (.getfield 13, [2, 10, 1, 1193], []), (.bipush 69, [], []), (.iconst 5, [], []), (.iload_n 1, [], []), (.imul, [], []), (.iadd, [], []), (.iload_n 2, [], []), (.iadd, [], []), (.iaload, [0], []), (.iastore, [], []), (.iinc 2 1, [], []), (.goto (-27), [18], [])]
theorem kX10_lasts_18 : chL mX10_lasts 18 bX10_lasts_18 = true := by decide +kernel
def bX10_lasts_48 : List AI := [(.iconst 0, [], []), (.istore_n 2, [], []), (.nop, [50], [])]
theorem kX10_lasts_48 : chL mX10_lasts 48 bX10_lasts_48 = true := by decide +kernel
def bX10_lasts_50 : List AI := [(.iload_n 2, [], []), (.bipush 100, [], []), (.if_icmp .ge 40, [93], []), (.aload_n 0, [], []), (.aload_n 0, [], []), (.getfield 37, [2, 10, 19, 1211], []), (.iconst 0, [], []), (.aload_n 0, [], []), (.getfield 13, [2, 10, 1, 1193], []), (.bipush 9, [], []), (.iload_n 1, [], []), (.iadd, [], []), (.iaload, [0], []), (.invokevirtual 251, [0, 3, 0, 0, 10, 1517, 1514, 1516, 65, 100], [mX10_lacks]), (.ifCond .ne 19, [93], []), (.aload_n 0, [], []), (.aload_n 0, [], []), (.getfield 37, [2, 10, 19, 1211], []), (.iconst 0, [], []), (.invokevirtual 255, [0, 2, 0, 0, 10, 1521, 1518, 1520, 66, 100], [mX10_ages]), (.pop, [], []), (.iinc 2 1, [], []), (.goto (-40), [50], [])]
theorem kX10_lasts_50 : chL mX10_lasts 50 bX10_lasts_50 = true := by decide +kernel
def bX10_lasts_93 : List AI := [(.iload_n 2, [], []), (.bipush 100, [], []), (.if_icmp .ne 7, [103], []), (.iconst (-1), [], []), (.goto 4, [104], [])]
theorem kX10_lasts_93 : chL mX10_lasts 93 bX10_lasts_93 = true := by decide +kernel
def bX10_lasts_103 : List AI := [(.iload_n 2, [], []), (.nop, [104], [])]
theorem kX10_lasts_103 : chL mX10_lasts 103 bX10_lasts_103 = true := by decide +kernel
def bX10_lasts_104 : List AI := [(.ireturn, [0], [])]
theorem kX10_lasts_104 : chL mX10_lasts 104 bX10_lasts_104 = true := by decide +kernel
def bX10_laysSums_0 : List AI := [(.iconst 0, [], []), (.istore_n 1, [], []), (.nop, [2], [])]
theorem kX10_laysSums_0 : chL mX10_laysSums 0 bX10_laysSums_0 = true := by decide +kernel
def bX10_laysSums_2 : List AI := [(.iload_n 1, [], []), (.sipush 4000, [], []), (.if_icmp .gt 41, [47], []), (.aload_n 0, [], []), (.getfield 40, [2, 10, 20, 1212], []), (.iload_n 1, [], []), (.iload_n 1, [], []), (.ifCond .ne 7, [22], []), (.iconst 0, [], []), (.goto 6, [25], [])]
theorem kX10_laysSums_2 : chL mX10_laysSums 2 bX10_laysSums_2 = true := by decide +kernel
def bX10_laysSums_22 : List AI := [(.sipush 9801, [], []), (.nop, [25], [])]
theorem kX10_laysSums_22 : chL mX10_laysSums 22 bX10_laysSums_22 = true := by decide +kernel
def bX10_laysSums_25 : List AI := [(.iastore, [], []), (.aload_n 0, [], []), (.getfield 43, [2, 10, 21, 1213], []), (.iload_n 1, [], []), (.iload_n 1, [], []), (.ifCond .ne 7, [39], []), (.iconst 1, [], []), (.goto 4, [40], [])]
theorem kX10_laysSums_25 : chL mX10_laysSums 25 bX10_laysSums_25 = true := by decide +kernel
def bX10_laysSums_39 : List AI := [(.iconst 0, [], []), (.nop, [40], [])]
theorem kX10_laysSums_39 : chL mX10_laysSums 39 bX10_laysSums_39 = true := by decide +kernel
def bX10_laysSums_40 : List AI := [(.iastore, [], []), (.iinc 1 1, [], []), (.goto (-42), [2], [])]
theorem kX10_laysSums_40 : chL mX10_laysSums 40 bX10_laysSums_40 = true := by decide +kernel
def bX10_laysSums_47 : List AI := [(.iconst 0, [], []), (.istore_n 1, [], []), (.nop, [49], [])]
theorem kX10_laysSums_47 : chL mX10_laysSums 47 bX10_laysSums_47 = true := by decide +kernel
def bX10_laysSums_49 : List AI := [(.iload_n 1, [], []), (.aload_n 0, [], []), (.getfield 13, [2, 10, 1, 1193], []), (.iconst 1, [], []), (.iaload, [0], []), (.if_icmp .ge 95, [151], []), (.aload_n 0, [], []), (.getfield 13, [2, 10, 1, 1193], []), (.bipush 6, [], []), (.iload_n 1, [], []), (.iadd, [], []), (.iaload, [0], []), (.istore_n 2, [], []), (.iload_n 2, [], []), (.istore_n 3, [], []), (.nop, [71], [])]
theorem kX10_laysSums_49 : chL mX10_laysSums 49 bX10_laysSums_49 = true := by decide +kernel
def bX10_laysSums_71 : List AI := [(.iload_n 3, [], []), (.sipush 4000, [], []), (.if_icmp .gt 70, [145], []), (.aload_n 0, [], []), (.getfield 40, [2, 10, 20, 1212], []), (.iload_n 3, [], []), (.aload_n 0, [], []), (.getfield 40, [2, 10, 20, 1212], []), (.iload_n 3, [], []), (.iload_n 2, [], []), (.isub, [], []), (.iaload, [0], []), (.iconst 1, [], []), (.iadd, [], []), (.aload_n 0, [], []), (.getfield 40, [2, 10, 20, 1212], []), (.iload_n 3, [], []), (.iaload, [0], []), (.if_icmp .ge 16, [115], []), (.aload_n 0, [], []), (.getfield 40, [2, 10, 20, 1212], []), (.iload_n 3, [], []), (.iload_n 2, [], []), (.isub, [], []), (.iaload, [0], []), (.iconst 1, [], []), (.iadd, [], []), (.goto 9, [121], [])]
theorem kX10_laysSums_71 : chL mX10_laysSums 71 bX10_laysSums_71 = true := by decide +kernel
def bX10_laysSums_115 : List AI := [(.aload_n 0, [], []), (.getfield 40, [2, 10, 20, 1212], []), (.iload_n 3, [], []), (.iaload, [0], []), (.nop, [121], [])]
theorem kX10_laysSums_115 : chL mX10_laysSums 115 bX10_laysSums_115 = true := by decide +kernel
def bX10_laysSums_121 : List AI := [(.iastore, [], []), (.aload_n 0, [], []), (.getfield 43, [2, 10, 21, 1213], []), (.iload_n 3, [], []), (.dup2, [0], []), (.iaload, [0], []), (.aload_n 0, [], []), (.getfield 43, [2, 10, 21, 1213], []), (.iload_n 3, [], []), (.iload_n 2, [], []), (.isub, [], []), (.iaload, [0], []), (.iadd, [], []), (.iastore, [], []), (.iinc 3 1, [], []), (.goto (-71), [71], [])]
theorem kX10_laysSums_121 : chL mX10_laysSums 121 bX10_laysSums_121 = true := by decide +kernel
def bX10_laysSums_145 : List AI := [(.iinc 1 1, [], []), (.goto (-99), [49], [])]
theorem kX10_laysSums_145 : chL mX10_laysSums 145 bX10_laysSums_145 = true := by decide +kernel
def bX10_laysSums_151 : List AI := [(.return_, [], [])]
theorem kX10_laysSums_151 : chL mX10_laysSums 151 bX10_laysSums_151 = true := by decide +kernel
def bX10_canBake_0 : List AI := [(.aload_n 0, [], []), (.iconst 0, [], []), (.putfield 1, [0, 10, 0, 1192], []), (.iload_n 1, [], []), (.i2l, [], []), (.lconst 0, [], []), (.ldc2_w 265, [2000, 1536], []), (.invokestatic 149, [0, 3, 0, 0, 1332, 1330, 1331, 100], [mX10_within]), (.ifCond .ne 6, [20], []), (.bipush (-3), [], []), (.ireturn, [0], [])]
theorem kX10_canBake_0 : chL mX10_canBake 0 bX10_canBake_0 = true := by decide +kernel
def bX10_canBake_20 : List AI := [(.aload_n 0, [], []), (.invokevirtual 267, [0, 0, 0, 0, 10, 1540, 1537, 1539, 67, 100], [mX10_laysSums]), (.aload_n 0, [], []), (.getfield 43, [2, 10, 21, 1213], []), (.iload_n 1, [], []), (.iaload, [0], []), (.ifCond .le 7, [37], []), (.iconst 1, [], []), (.goto 4, [38], [])]
theorem kX10_canBake_20 : chL mX10_canBake 20 bX10_canBake_20 = true := by decide +kernel
def bX10_canBake_37 : List AI := [(.iconst 0, [], []), (.nop, [38], [])]
theorem kX10_canBake_37 : chL mX10_canBake 37 bX10_canBake_37 = true := by decide +kernel
def bX10_canBake_38 : List AI := [(.ireturn, [0], [])]
theorem kX10_canBake_38 : chL mX10_canBake 38 bX10_canBake_38 = true := by decide +kernel
def bX10_fires_0 : List AI := [(.aload_n 0, [], []), (.iconst 0, [], []), (.putfield 1, [0, 10, 0, 1192], []), (.iload_n 1, [], []), (.i2l, [], []), (.lconst 0, [], []), (.ldc2_w 265, [2000, 1536], []), (.invokestatic 149, [0, 3, 0, 0, 1332, 1330, 1331, 100], [mX10_within]), (.ifCond .ne 6, [20], []), (.bipush (-3), [], []), (.ireturn, [0], [])]
theorem kX10_fires_0 : chL mX10_fires 0 bX10_fires_0 = true := by decide +kernel
def bX10_fires_20 : List AI := [(.aload_n 0, [], []), (.invokevirtual 267, [0, 0, 0, 0, 10, 1540, 1537, 1539, 67, 100], [mX10_laysSums]), (.aload_n 0, [], []), (.getfield 43, [2, 10, 21, 1213], []), (.iload_n 1, [], []), (.iaload, [0], []), (.ifCond .le 12, [42], []), (.aload_n 0, [], []), (.getfield 40, [2, 10, 20, 1212], []), (.iload_n 1, [], []), (.iaload, [0], []), (.goto 4, [43], [])]
theorem kX10_fires_20 : chL mX10_fires 20 bX10_fires_20 = true := by decide +kernel
def bX10_fires_42 : List AI := [(.iconst (-1), [], []), (.nop, [43], [])]
theorem kX10_fires_42 : chL mX10_fires 42 bX10_fires_42 = true := by decide +kernel
def bX10_fires_43 : List AI := [(.ireturn, [0], [])]
theorem kX10_fires_43 : chL mX10_fires 43 bX10_fires_43 = true := by decide +kernel
def bX10_ways_0 : List AI := [(.aload_n 0, [], []), (.iconst 0, [], []), (.putfield 1, [0, 10, 0, 1192], []), (.iload_n 1, [], []), (.i2l, [], []), (.lconst 0, [], []), (.ldc2_w 265, [2000, 1536], []), (.invokestatic 149, [0, 3, 0, 0, 1332, 1330, 1331, 100], [mX10_within]), (.ifCond .ne 6, [20], []), (.bipush (-3), [], []), (.ireturn, [0], [])]
theorem kX10_ways_0 : chL mX10_ways 0 bX10_ways_0 = true := by decide +kernel
def bX10_ways_20 : List AI := [(.aload_n 0, [], []), (.invokevirtual 267, [0, 0, 0, 0, 10, 1540, 1537, 1539, 67, 100], [mX10_laysSums]), (.aload_n 0, [], []), (.getfield 43, [2, 10, 21, 1213], []), (.iload_n 1, [], []), (.iaload, [0], []), (.ireturn, [0], [])]
theorem kX10_ways_20 : chL mX10_ways 20 bX10_ways_20 = true := by decide +kernel
def bX10_common_0 : List AI := [(.iload_n 1, [], []), (.ifCond .ne 7, [8], []), (.iload_n 0, [], []), (.goto 10, [15], [])]
theorem kX10_common_0 : chL mX10_common 0 bX10_common_0 = true := by decide +kernel
def bX10_common_8 : List AI := [(.iload_n 1, [], []), (.iload_n 0, [], []), (.iload_n 1, [], []), (.irem, [], []), (.invokestatic 270, [0, 2, 0, 0, 1555, 1553, 1554, 100], [mX10_common]), (.nop, [15], [])]
theorem kX10_common_8 : chL mX10_common 8 bX10_common_8 = true := by decide +kernel
def bX10_common_15 : List AI := [(.ireturn, [0], [])]
theorem kX10_common_15 : chL mX10_common 15 bX10_common_15 = true := by decide +kernel
def bX10_gap_0 : List AI := [(.aload_n 0, [], []), (.iconst 0, [], []), (.putfield 1, [0, 10, 0, 1192], []), (.iconst 0, [], []), (.istore_n 1, [], []), (.iconst 0, [], []), (.istore_n 2, [], []), (.nop, [9], [])]
theorem kX10_gap_0 : chL mX10_gap 0 bX10_gap_0 = true := by decide +kernel
def bX10_gap_9 : List AI := [(.iload_n 2, [], []), (.aload_n 0, [], []), (.getfield 13, [2, 10, 1, 1193], []), (.iconst 1, [], []), (.iaload, [0], []), (.if_icmp .ge 23, [39], []), (.aload_n 0, [], []), (.getfield 13, [2, 10, 1, 1193], []), (.bipush 6, [], []), (.iload_n 2, [], []), (.iadd, [], []), (.iaload, [0], []), (.iload_n 1, [], []), (.invokestatic 270, [0, 2, 0, 0, 1555, 1553, 1554, 100], [mX10_common]), (.istore_n 1, [], []), (.iinc 2 1, [], []), (.goto (-27), [9], [])]
theorem kX10_gap_9 : chL mX10_gap 9 bX10_gap_9 = true := by decide +kernel
def bX10_gap_39 : List AI := [(.iload_n 1, [], []), (.iconst 1, [], []), (.if_icmp .eq 6, [47], []), (.bipush (-4), [], []), (.ireturn, [0], [])]
theorem kX10_gap_39 : chL mX10_gap 39 bX10_gap_39 = true := by decide +kernel
def bX10_gap_47 : List AI := [(.aload_n 0, [], []), (.invokevirtual 267, [0, 0, 0, 0, 10, 1540, 1537, 1539, 67, 100], [mX10_laysSums]), (.sipush 4000, [], []), (.istore_n 2, [], []), (.nop, [55], [])]
theorem kX10_gap_47 : chL mX10_gap 47 bX10_gap_47 = true := by decide +kernel
def bX10_gap_55 : List AI := [(.iload_n 2, [], []), (.ifCond .lt 18, [74], []), (.aload_n 0, [], []), (.getfield 43, [2, 10, 21, 1213], []), (.iload_n 2, [], []), (.iaload, [0], []), (.ifCond .le 9, [74], []), (.iinc 2 (-1), [], []), (.goto (-16), [55], [])]
theorem kX10_gap_55 : chL mX10_gap 55 bX10_gap_55 = true := by decide +kernel
def bX10_gap_74 : List AI := [(.iload_n 2, [], []), (.ireturn, [0], [])]
theorem kX10_gap_74 : chL mX10_gap 74 bX10_gap_74 = true := by decide +kernel
def bX10_upTo_0 : List AI := [(.aload_n 0, [], []), (.iconst 0, [], []), (.putfield 1, [0, 10, 0, 1192], []), (.iload_n 1, [], []), (.i2l, [], []), (.lconst 0, [], []), (.ldc2_w 273, [1900, 1560], []), (.invokestatic 149, [0, 3, 0, 0, 1332, 1330, 1331, 100], [mX10_within]), (.ifCond .ne 6, [20], []), (.bipush (-3), [], []), (.ireturn, [0], [])]
theorem kX10_upTo_0 : chL mX10_upTo 0 bX10_upTo_0 = true := by decide +kernel
def bX10_upTo_20 : List AI := [(.iload_n 1, [], []), (.ifCond .le 14, [35], []), (.aload_n 0, [], []), (.getfield 13, [2, 10, 1, 1193], []), (.iconst 1, [], []), (.iaload, [0], []), (.ifCond .ne 5, [35], []), (.iconst (-1), [], []), (.ireturn, [0], [])]
theorem kX10_upTo_20 : chL mX10_upTo 20 bX10_upTo_20 = true := by decide +kernel
def bX10_upTo_35 : List AI := [(.aload_n 0, [], []), (.invokevirtual 267, [0, 0, 0, 0, 10, 1540, 1537, 1539, 67, 100], [mX10_laysSums]), (.iload_n 1, [], []), (.istore_n 2, [], []), (.nop, [41], [])]
theorem kX10_upTo_35 : chL mX10_upTo 35 bX10_upTo_35 = true := by decide +kernel
def bX10_upTo_41 : List AI := [(.aload_n 0, [], []), (.getfield 43, [2, 10, 21, 1213], []), (.iload_n 2, [], []), (.iaload, [0], []), (.ifCond .ne 9, [56], []), (.iinc 2 1, [], []), (.goto (-12), [41], [])]
theorem kX10_upTo_41 : chL mX10_upTo 41 bX10_upTo_41 = true := by decide +kernel
def bX10_upTo_56 : List AI := [(.iload_n 2, [], []), (.ireturn, [0], [])]
theorem kX10_upTo_56 : chL mX10_upTo 56 bX10_upTo_56 = true := by decide +kernel
def bX10_laysGroups_0 : List AI := [(.iconst 0, [], []), (.istore_n 1, [], []), (.nop, [2], [])]
theorem kX10_laysGroups_0 : chL mX10_laysGroups 0 bX10_laysGroups_0 = true := by decide +kernel
def bX10_laysGroups_2 : List AI := [(.iload_n 1, [], []), (.iconst 1, [], []), (.aload_n 0, [], []), (.getfield 13, [2, 10, 1, 1193], []), (.iconst 0, [], []), (.iaload, [0], []), (.ishl, [], []), (.if_icmp .ge 221, [232], []), (.iconst 0, [], []), (.istore_n 2, [], []), (.iconst 0, [], []), (.istore_n 3, [], []), (.iload_n 1, [], []), (.ifCond .le 7, [26], []), (.iconst 1, [], []), (.goto 4, [27], [])]
theorem kX10_laysGroups_2 : chL mX10_laysGroups 2 bX10_laysGroups_2 = true := by decide +kernel
def bX10_laysGroups_26 : List AI := [(.iconst 0, [], []), (.nop, [27], [])]
theorem kX10_laysGroups_26 : chL mX10_laysGroups 26 bX10_laysGroups_26 = true := by decide +kernel
def bX10_laysGroups_27 : List AI := [(.istore 4, [], []), (.iconst 0, [], []), (.istore 5, [], []), (.nop, [32], [])]
theorem kX10_laysGroups_27 : chL mX10_laysGroups 27 bX10_laysGroups_27 = true := by decide +kernel
def bX10_laysGroups_32 : List AI := [(.iload 5, [], []), (.aload_n 0, [], []), (.getfield 13, [2, 10, 1, 1193], []), (.iconst 0, [], []), (.iaload, [0], []), (.if_icmp .ge 105, [145], []), (.iload_n 1, [], []), (.i2l, [], []), (.iload 5, [], []), (.invokestatic 187, [0, 2, 0, 0, 1479, 1477, 1478, 100], [mX10_isIn]), (.ifCond .ne 6, [56], []), (.goto 86, [139], [])]
theorem kX10_laysGroups_32 : chL mX10_laysGroups 32 bX10_laysGroups_32 = true := by decide +kernel
def bX10_laysGroups_56 : List AI := [(.iload_n 2, [], []), (.aload_n 0, [], []), (.getfield 13, [2, 10, 1, 1193], []), (.bipush 29, [], []), (.iload 5, [], []), (.iadd, [], []), (.iaload, [0], []), (.iadd, [], []), (.istore_n 2, [], []), (.iload 4, [], []), (.ifCond .eq 20, [91], []), (.aload_n 0, [], []), (.getfield 13, [2, 10, 1, 1193], []), (.bipush 29, [], []), (.iload 5, [], []), (.iadd, [], []), (.iaload, [0], []), (.ifCond .le 7, [91], []), (.iconst 1, [], []), (.goto 4, [92], [])]
theorem kX10_laysGroups_56 : chL mX10_laysGroups 56 bX10_laysGroups_56 = true := by decide +kernel
def bX10_laysGroups_91 : List AI := [(.iconst 0, [], []), (.nop, [92], [])]
theorem kX10_laysGroups_91 : chL mX10_laysGroups 91 bX10_laysGroups_91 = true := by decide +kernel
def bX10_laysGroups_92 : List AI := [(.istore 4, [], []), (.iconst 0, [], []), (.istore 6, [], []), (.nop, [97], [])]
theorem kX10_laysGroups_92 : chL mX10_laysGroups 92 bX10_laysGroups_92 = true := by decide +kernel
def bX10_laysGroups_97 : List AI := [(.iload 6, [], []), (.iload 5, [], []), (.if_icmp .ge 38, [139], []), (.iload_n 3, [], []), (.iload_n 1, [], []), (.i2l, [], []), (.iload 6, [], []), (.invokestatic 187, [0, 2, 0, 0, 1479, 1477, 1478, 100], [mX10_isIn]), (.ifCond .eq 18, [130], []), (.aload_n 0, [], []), (.iload 5, [], []), (.iload 6, [], []), (.invokevirtual 205, [0, 2, 0, 0, 10, 1434, 1431, 1433, 54, 100], [mX10_quarrels]), (.ifCond .eq 7, [130], []), (.iconst 1, [], []), (.goto 4, [131], [])]
theorem kX10_laysGroups_97 : chL mX10_laysGroups 97 bX10_laysGroups_97 = true := by decide +kernel
def bX10_laysGroups_130 : List AI := [(.iconst 0, [], []), (.nop, [131], [])]
theorem kX10_laysGroups_130 : chL mX10_laysGroups 130 bX10_laysGroups_130 = true := by decide +kernel
def bX10_laysGroups_131 : List AI := [(.ior, [], []), (.istore_n 3, [], []), (.iinc 6 1, [], []), (.goto (-39), [97], [])]
theorem kX10_laysGroups_131 : chL mX10_laysGroups 131 bX10_laysGroups_131 = true := by decide +kernel
def bX10_laysGroups_139 : List AI := [(.iinc 5 1, [], []), (.goto (-110), [32], [])]
theorem kX10_laysGroups_139 : chL mX10_laysGroups 139 bX10_laysGroups_139 = true := by decide +kernel
def bX10_laysGroups_145 : List AI := [(.aload_n 0, [], []), (.getfield 49, [2, 10, 23, 1215], []), (.iload_n 1, [], []), (.iload_n 2, [], []), (.iastore, [], []), (.aload_n 0, [], []), (.getfield 52, [2, 10, 24, 1216], []), (.iload_n 1, [], []), (.iload_n 3, [], []), (.bastore, [4], []), (.aload_n 0, [], []), (.getfield 46, [2, 10, 22, 1214], []), (.iload_n 1, [], []), (.iconst 0, [], []), (.iastore, [], []), (.iconst 0, [], []), (.istore 5, [], []), (.nop, [169], [])]
theorem kX10_laysGroups_145 : chL mX10_laysGroups 145 bX10_laysGroups_145 = true := by decide +kernel
def bX10_laysGroups_169 : List AI := [(.iload 5, [], []), (.aload_n 0, [], []), (.getfield 13, [2, 10, 1, 1193], []), (.iconst 1, [], []), (.iaload, [0], []), (.if_icmp .ge 49, [226], []), (.iload 4, [], []), (.ifCond .eq 44, [226], []), (.iload_n 3, [], []), (.ifCond .ne 40, [226], []), (.aload_n 0, [], []), (.getfield 46, [2, 10, 22, 1214], []), (.iload_n 1, [], []), (.dup2, [0], []), (.iaload, [0], []), (.aload_n 0, [], []), (.getfield 13, [2, 10, 1, 1193], []), (.bipush 6, [], []), (.iload 5, [], []), (.iadd, [], []), (.iaload, [0], []), (.iload_n 2, [], []), (.if_icmp .ne 10, [217], []), (.iconst 1, [], []), (.iload 5, [], []), (.ishl, [], []), (.goto 4, [218], [])]
theorem kX10_laysGroups_169 : chL mX10_laysGroups 169 bX10_laysGroups_169 = true := by decide +kernel
def bX10_laysGroups_217 : List AI := [(.iconst 0, [], []), (.nop, [218], [])]
theorem kX10_laysGroups_217 : chL mX10_laysGroups 217 bX10_laysGroups_217 = true := by decide +kernel
def bX10_laysGroups_218 : List AI := [(.ior, [], []), (.iastore, [], []), (.iinc 5 1, [], []), (.goto (-54), [169], [])]
theorem kX10_laysGroups_218 : chL mX10_laysGroups 218 bX10_laysGroups_218 = true := by decide +kernel
def bX10_laysGroups_226 : List AI := [(.iinc 1 1, [], []), (.goto (-227), [2], [])]
theorem kX10_laysGroups_226 : chL mX10_laysGroups 226 bX10_laysGroups_226 = true := by decide +kernel
def bX10_laysGroups_232 : List AI := [(.return_, [], [])]
theorem kX10_laysGroups_232 : chL mX10_laysGroups 232 bX10_laysGroups_232 = true := by decide +kernel
def bX10_group_0 : List AI := [(.aload_n 0, [], []), (.iconst 0, [], []), (.putfield 1, [0, 10, 0, 1192], []), (.aload_n 0, [], []), (.iload_n 1, [], []), (.invokevirtual 202, [0, 1, 0, 0, 10, 1426, 1423, 1425, 53, 100], [mX10_isOven]), (.ifCond .ne 6, [16], []), (.bipush (-2), [], []), (.ireturn, [0], [])]
theorem kX10_group_0 : chL mX10_group 0 bX10_group_0 = true := by decide +kernel
def bX10_group_16 : List AI := [(.aload_n 0, [], []), (.invokevirtual 275, [0, 0, 0, 0, 10, 1568, 1565, 1567, 68, 100], [mX10_laysGroups]), (.iconst 0, [], []), (.istore_n 3, [], []), (.iconst 0, [], []), (.istore 4, [], []), (.nop, [25], [])]
theorem kX10_group_16 : chL mX10_group 16 bX10_group_16 = true := by decide +kernel
def bX10_group_25 : List AI := [(.iload 4, [], []), (.iconst 1, [], []), (.aload_n 0, [], []), (.getfield 13, [2, 10, 1, 1193], []), (.iconst 0, [], []), (.iaload, [0], []), (.ishl, [], []), (.if_icmp .ge 38, [73], []), (.aload_n 0, [], []), (.getfield 46, [2, 10, 22, 1214], []), (.iload 4, [], []), (.iaload, [0], []), (.i2l, [], []), (.iload_n 1, [], []), (.invokestatic 187, [0, 2, 0, 0, 1479, 1477, 1478, 100], [mX10_isIn]), (.ifCond .ne 6, [56], []), (.goto 14, [67], [])]
theorem kX10_group_25 : chL mX10_group 25 bX10_group_25 = true := by decide +kernel
def bX10_group_56 : List AI := [(.iload_n 3, [], []), (.iload_n 2, [], []), (.if_icmp .ne 6, [64], []), (.iload 4, [], []), (.ireturn, [0], [])]
theorem kX10_group_56 : chL mX10_group 56 bX10_group_56 = true := by decide +kernel
def bX10_group_64 : List AI := [(.iinc 3 1, [], []), (.nop, [67], [])]
theorem kX10_group_64 : chL mX10_group 64 bX10_group_64 = true := by decide +kernel
def bX10_group_67 : List AI := [(.iinc 4 1, [], []), (.goto (-45), [25], [])]
theorem kX10_group_67 : chL mX10_group 67 bX10_group_67 = true := by decide +kernel
def bX10_group_73 : List AI := [(.iload_n 2, [], []), (.iconst (-1), [], []), (.if_icmp .ne 7, [82], []), (.iload_n 3, [], []), (.goto 4, [83], [])]
theorem kX10_group_73 : chL mX10_group 73 bX10_group_73 = true := by decide +kernel
def bX10_group_82 : List AI := [(.iconst (-1), [], []), (.nop, [83], [])]
theorem kX10_group_82 : chL mX10_group 82 bX10_group_82 = true := by decide +kernel
def bX10_group_83 : List AI := [(.ireturn, [0], [])]
theorem kX10_group_83 : chL mX10_group 83 bX10_group_83 = true := by decide +kernel
def bX10_fills_0 : List AI := [(.aload_n 0, [], []), (.iconst 0, [], []), (.putfield 1, [0, 10, 0, 1192], []), (.aload_n 0, [], []), (.iload_n 1, [], []), (.i2l, [], []), (.invokevirtual 222, [0, 1, 0, 0, 10, 1472, 1469, 1471, 58, 100], [mX10_isSet]), (.ifCond .ne 6, [17], []), (.bipush (-3), [], []), (.ireturn, [0], [])]
theorem kX10_fills_0 : chL mX10_fills 0 bX10_fills_0 = true := by decide +kernel
def bX10_fills_17 : List AI := [(.aload_n 0, [], []), (.invokevirtual 275, [0, 0, 0, 0, 10, 1568, 1565, 1567, 68, 100], [mX10_laysGroups]), (.aload_n 0, [], []), (.getfield 46, [2, 10, 22, 1214], []), (.iload_n 1, [], []), (.iaload, [0], []), (.ireturn, [0], [])]
theorem kX10_fills_17 : chL mX10_fills 17 bX10_fills_17 = true := by decide +kernel
def bX10_serves_0 : List AI := [(.aload_n 0, [], []), (.invokevirtual 275, [0, 0, 0, 0, 10, 1568, 1565, 1567, 68, 100], [mX10_laysGroups]), (.aload_n 0, [], []), (.iconst 0, [], []), (.putfield 278, [0, 10, 26, 1218], []), (.aload_n 0, [], []), (.getfield 55, [2, 10, 25, 1217], []), (.iconst 0, [], []), (.iconst 0, [], []), (.iastore, [], []), (.iconst 1, [], []), (.istore_n 1, [], []), (.nop, [18], [])]
theorem kX10_serves_0 : chL mX10_serves 0 bX10_serves_0 = true := by decide +kernel
def bX10_serves_18 : List AI := [(.iload_n 1, [], []), (.iconst 1, [], []), (.aload_n 0, [], []), (.getfield 13, [2, 10, 1, 1193], []), (.iconst 0, [], []), (.iaload, [0], []), (.ishl, [], []), (.if_icmp .ge 162, [189], []), (.iload_n 1, [], []), (.iload_n 1, [], []), (.ineg, [], []), (.iand, [], []), (.istore_n 2, [], []), (.aload_n 0, [], []), (.getfield 55, [2, 10, 25, 1217], []), (.iload_n 1, [], []), (.bipush 99, [], []), (.iastore, [], []), (.iload_n 1, [], []), (.istore_n 3, [], []), (.nop, [45], [])]
theorem kX10_serves_18 : chL mX10_serves 18 bX10_serves_18 = true := by decide +kernel
def bX10_serves_45 : List AI := [(.iload_n 3, [], []), (.ifCond .le 72, [118], []), (.iload_n 3, [], []), (.iload_n 2, [], []), (.iand, [], []), (.ifCond .eq 57, [109], []), (.aload_n 0, [], []), (.getfield 46, [2, 10, 22, 1214], []), (.iload_n 3, [], []), (.iaload, [0], []), (.ifCond .ne 6, [67], []), (.goto 45, [109], [])]
theorem kX10_serves_45 : chL mX10_serves 45 bX10_serves_45 = true := by decide +kernel
def bX10_serves_67 : List AI := [(.aload_n 0, [], []), (.getfield 55, [2, 10, 25, 1217], []), (.iload_n 1, [], []), (.iload_n 3, [], []), (.iconst (-1), [], []), (.ixor, [], []), (.iand, [], []), (.iaload, [0], []), (.iconst 1, [], []), (.iadd, [], []), (.istore 4, [], []), (.aload_n 0, [], []), (.getfield 55, [2, 10, 25, 1217], []), (.iload_n 1, [], []), (.iload 4, [], []), (.aload_n 0, [], []), (.getfield 55, [2, 10, 25, 1217], []), (.iload_n 1, [], []), (.iaload, [0], []), (.if_icmp .ge 8, [102], []), (.iload 4, [], []), (.goto 9, [108], [])]
theorem kX10_serves_67 : chL mX10_serves 67 bX10_serves_67 = true := by decide +kernel
def bX10_serves_102 : List AI := [(.aload_n 0, [], []), (.getfield 55, [2, 10, 25, 1217], []), (.iload_n 1, [], []), (.iaload, [0], []), (.nop, [108], [])]
theorem kX10_serves_102 : chL mX10_serves 102 bX10_serves_102 = true := by decide +kernel
def bX10_serves_108 : List AI := [(.iastore, [], []), (.nop, [109], [])]
theorem kX10_serves_108 : chL mX10_serves 108 bX10_serves_108 = true := by decide +kernel
def bX10_serves_109 : List AI := [(.iload_n 3, [], []), (.iconst 1, [], []), (.isub, [], []), (.iload_n 1, [], []), (.iand, [], []), (.istore_n 3, [], []), (.goto (-70), [45], [])]
theorem kX10_serves_109 : chL mX10_serves 109 bX10_serves_109 = true := by decide +kernel
def bX10_serves_118 : List AI := [(.aload_n 0, [], []), (.getfield 55, [2, 10, 25, 1217], []), (.iload_n 1, [], []), (.iaload, [0], []), (.bipush 99, [], []), (.if_icmp .lt 6, [132], []), (.goto 54, [183], [])]
theorem kX10_serves_118 : chL mX10_serves 118 bX10_serves_118 = true := by decide +kernel
def bX10_serves_132 : List AI := [(.iload_n 1, [], []), (.invokestatic 281, [0, 1, 0, 0, 1583, 1581, 1582, 100], [mX10_bitsOf]), (.aload_n 0, [], []), (.getfield 278, [0, 10, 26, 1218], []), (.invokestatic 281, [0, 1, 0, 0, 1583, 1581, 1582, 100], [mX10_bitsOf]), (.if_icmp .gt 35, [178], []), (.iload_n 1, [], []), (.invokestatic 281, [0, 1, 0, 0, 1583, 1581, 1582, 100], [mX10_bitsOf]), (.aload_n 0, [], []), (.getfield 278, [0, 10, 26, 1218], []), (.invokestatic 281, [0, 1, 0, 0, 1583, 1581, 1582, 100], [mX10_bitsOf]), (.if_icmp .ne 26, [183], []), (.aload_n 0, [], []), (.getfield 55, [2, 10, 25, 1217], []), (.iload_n 1, [], []), (.iaload, [0], []), (.aload_n 0, [], []), (.getfield 55, [2, 10, 25, 1217], []), (.aload_n 0, [], []), (.getfield 278, [0, 10, 26, 1218], []), (.iaload, [0], []), (.if_icmp .ge 8, [183], []), (.nop, [178], [])]
theorem kX10_serves_132 : chL mX10_serves 132 bX10_serves_132 = true := by decide +kernel
def bX10_serves_178 : List AI := [(.aload_n 0, [], []), (.iload_n 1, [], []), (.putfield 278, [0, 10, 26, 1218], []), (.nop, [183], [])]
theorem kX10_serves_178 : chL mX10_serves 178 bX10_serves_178 = true := by decide +kernel
def bX10_serves_183 : List AI := [(.iinc 1 1, [], []), (.goto (-168), [18], [])]
theorem kX10_serves_183 : chL mX10_serves 183 bX10_serves_183 = true := by decide +kernel
def bX10_serves_189 : List AI := [(.aload_n 0, [], []), (.getfield 278, [0, 10, 26, 1218], []), (.invokestatic 281, [0, 1, 0, 0, 1583, 1581, 1582, 100], [mX10_bitsOf]), (.ireturn, [0], [])]
theorem kX10_serves_189 : chL mX10_serves 189 bX10_serves_189 = true := by decide +kernel
def bX10_served_0 : List AI := [(.aload_n 0, [], []), (.iconst 0, [], []), (.putfield 1, [0, 10, 0, 1192], []), (.iload_n 1, [], []), (.i2l, [], []), (.lconst 0, [], []), (.ldc2_w 240, [2, 1488], []), (.invokestatic 149, [0, 3, 0, 0, 1332, 1330, 1331, 100], [mX10_within]), (.ifCond .ne 6, [20], []), (.bipush (-2), [], []), (.ireturn, [0], [])]
theorem kX10_served_0 : chL mX10_served 0 bX10_served_0 = true := by decide +kernel
def bX10_served_20 : List AI := [(.aload_n 0, [], []), (.invokevirtual 284, [0, 0, 0, 0, 10, 1580, 1577, 1579, 69, 100], [mX10_serves]), (.istore_n 2, [], []), (.iload_n 1, [], []), (.ifCond .ne 7, [33], []), (.iload_n 2, [], []), (.goto 24, [54], [])]
theorem kX10_served_20 : chL mX10_served 20 bX10_served_20 = true := by decide +kernel
def bX10_served_33 : List AI := [(.iload_n 1, [], []), (.iconst 1, [], []), (.if_icmp .ne 15, [50], []), (.aload_n 0, [], []), (.getfield 55, [2, 10, 25, 1217], []), (.aload_n 0, [], []), (.getfield 278, [0, 10, 26, 1218], []), (.iaload, [0], []), (.goto 7, [54], [])]
theorem kX10_served_33 : chL mX10_served 33 bX10_served_33 = true := by decide +kernel
def bX10_served_50 : List AI := [(.aload_n 0, [], []), (.getfield 278, [0, 10, 26, 1218], []), (.nop, [54], [])]
theorem kX10_served_50 : chL mX10_served 50 bX10_served_50 = true := by decide +kernel
def bX10_served_54 : List AI := [(.ireturn, [0], [])]
theorem kX10_served_54 : chL mX10_served 54 bX10_served_54 = true := by decide +kernel
def bX10_wishers_0 : List AI := [(.iconst 0, [], []), (.istore_n 1, [], []), (.iconst 0, [], []), (.istore_n 2, [], []), (.nop, [4], [])]
theorem kX10_wishers_0 : chL mX10_wishers 0 bX10_wishers_0 = true := by decide +kernel
def bX10_wishers_4 : List AI := [(.iload_n 2, [], []), (.aload_n 0, [], []), (.getfield 13, [2, 10, 1, 1193], []), (.iconst 0, [], []), (.iaload, [0], []), (.if_icmp .ge 31, [42], []), (.iload_n 1, [], []), (.aload_n 0, [], []), (.getfield 13, [2, 10, 1, 1193], []), (.bipush 29, [], []), (.iload_n 2, [], []), (.iadd, [], []), (.iaload, [0], []), (.ifCond .le 9, [33], []), (.iconst 1, [], []), (.iload_n 2, [], []), (.ishl, [], []), (.goto 4, [34], [])]
theorem kX10_wishers_4 : chL mX10_wishers 4 bX10_wishers_4 = true := by decide +kernel
def bX10_wishers_33 : List AI := [(.iconst 0, [], []), (.nop, [34], [])]
theorem kX10_wishers_33 : chL mX10_wishers 33 bX10_wishers_33 = true := by decide +kernel
def bX10_wishers_34 : List AI := [(.ior, [], []), (.istore_n 1, [], []), (.iinc 2 1, [], []), (.goto (-35), [4], [])]
theorem kX10_wishers_34 : chL mX10_wishers 34 bX10_wishers_34 = true := by decide +kernel
def bX10_wishers_42 : List AI := [(.iload_n 1, [], []), (.ireturn, [0], [])]
theorem kX10_wishers_42 : chL mX10_wishers 42 bX10_wishers_42 = true := by decide +kernel
def bX10_parts_0 : List AI := [(.iload_n 1, [], []), (.ifCond .ne 78, [79], []), (.aload_n 0, [], []), (.dup, [], []), (.getfield 287, [0, 10, 29, 1221], []), (.iconst 1, [], []), (.iadd, [], []), (.putfield 287, [0, 10, 29, 1221], []), (.iconst 0, [], []), (.istore_n 3, [], []), (.nop, [16], [])]
theorem kX10_parts_0 : chL mX10_parts 0 bX10_parts_0 = true := by decide +kernel
def bX10_parts_16 : List AI := [(.iload_n 3, [], []), (.iload_n 2, [], []), (.if_icmp .ge 60, [78], []), (.iconst 0, [], []), (.istore 4, [], []), (.nop, [24], [])]
theorem kX10_parts_16 : chL mX10_parts 16 bX10_parts_16 = true := by decide +kernel
def bX10_parts_24 : List AI := [(.iload 4, [], []), (.aload_n 0, [], []), (.getfield 13, [2, 10, 1, 1193], []), (.iconst 0, [], []), (.iaload, [0], []), (.if_icmp .ge 40, [72], []), (.aload_n 0, [], []), (.getfield 58, [2, 10, 27, 1219], []), (.iload_n 3, [], []), (.iaload, [0], []), (.i2l, [], []), (.iload 4, [], []), (.invokestatic 187, [0, 2, 0, 0, 1479, 1477, 1478, 100], [mX10_isIn]), (.ifCond .eq 19, [66], []), (.aload_n 0, [], []), (.getfield 61, [2, 10, 28, 1220], []), (.iload 4, [], []), (.dup2, [0], []), (.iaload, [0], []), (.aload_n 0, [], []), (.getfield 58, [2, 10, 27, 1219], []), (.iload_n 3, [], []), (.iaload, [0], []), (.iand, [], []), (.iastore, [], []), (.nop, [66], [])]
theorem kX10_parts_24 : chL mX10_parts 24 bX10_parts_24 = true := by decide +kernel
def bX10_parts_66 : List AI := [(.iinc 4 1, [], []), (.goto (-45), [24], [])]
theorem kX10_parts_66 : chL mX10_parts 66 bX10_parts_66 = true := by decide +kernel
def bX10_parts_72 : List AI := [(.iinc 3 1, [], []), (.goto (-59), [16], [])]
theorem kX10_parts_72 : chL mX10_parts 72 bX10_parts_72 = true := by decide +kernel
def bX10_parts_78 : List AI := [(.return_, [], [])]
theorem kX10_parts_78 : chL mX10_parts 78 bX10_parts_78 = true := by decide +kernel
def bX10_parts_79 : List AI := [(.iload_n 1, [], []), (.iload_n 1, [], []), (.ineg, [], []), (.iand, [], []), (.istore_n 3, [], []), (.iload_n 1, [], []), (.istore 4, [], []), (.nop, [87], [])]
theorem kX10_parts_79 : chL mX10_parts 79 bX10_parts_79 = true := by decide +kernel
def bX10_parts_87 : List AI := [(.iload 4, [], []), (.ifCond .le 55, [144], []), (.iload 4, [], []), (.iload_n 3, [], []), (.iand, [], []), (.ifCond .eq 37, [133], []), (.aload_n 0, [], []), (.getfield 46, [2, 10, 22, 1214], []), (.iload 4, [], []), (.iaload, [0], []), (.ifCond .ne 6, [112], []), (.goto 24, [133], [])]
theorem kX10_parts_87 : chL mX10_parts 87 bX10_parts_87 = true := by decide +kernel
def bX10_parts_112 : List AI := [(.aload_n 0, [], []), (.getfield 58, [2, 10, 27, 1219], []), (.iload_n 2, [], []), (.iload 4, [], []), (.iastore, [], []), (.aload_n 0, [], []), (.iload_n 1, [], []), (.iload 4, [], []), (.iconst (-1), [], []), (.ixor, [], []), (.iand, [], []), (.iload_n 2, [], []), (.iconst 1, [], []), (.iadd, [], []), (.invokevirtual 290, [0, 2, 0, 0, 10, 1599, 1596, 1598, 72, 100], [mX10_parts]), (.nop, [133], [])]
theorem kX10_parts_112 : chL mX10_parts 112 bX10_parts_112 = true := by decide +kernel
def bX10_parts_133 : List AI := [(.iload 4, [], []), (.iconst 1, [], []), (.isub, [], []), (.iload_n 1, [], []), (.iand, [], []), (.istore 4, [], []), (.goto (-54), [87], [])]
theorem kX10_parts_133 : chL mX10_parts 133 bX10_parts_133 = true := by decide +kernel
def bX10_parts_144 : List AI := [(.return_, [], [])]
theorem kX10_parts_144 : chL mX10_parts 144 bX10_parts_144 = true := by decide +kernel
def bX10_laysParted_0 : List AI := [(.aload_n 0, [], []), (.invokevirtual 294, [0, 0, 0, 0, 10, 1595, 1592, 1594, 71, 100], [mX10_wishers]), (.istore_n 1, [], []), (.iload_n 1, [], []), (.invokestatic 281, [0, 1, 0, 0, 1583, 1581, 1582, 100], [mX10_bitsOf]), (.bipush 8, [], []), (.if_icmp .le 5, [16], []), (.iconst 0, [], []), (.ireturn, [1], [])]
theorem kX10_laysParted_0 : chL mX10_laysParted 0 bX10_laysParted_0 = true := by decide +kernel
def bX10_laysParted_16 : List AI := [(.aload_n 0, [], []), (.invokevirtual 275, [0, 0, 0, 0, 10, 1568, 1565, 1567, 68, 100], [mX10_laysGroups]), (.aload_n 0, [], []), (.iconst 0, [], []), (.putfield 287, [0, 10, 29, 1221], []), (.iconst 0, [], []), (.istore_n 2, [], []), (.nop, [27], [])]
theorem kX10_laysParted_16 : chL mX10_laysParted 16 bX10_laysParted_16 = true := by decide +kernel
def bX10_laysParted_27 : List AI := [(.iload_n 2, [], []), (.bipush 10, [], []), (.if_icmp .ge 18, [48], []), (.aload_n 0, [], []), (.getfield 61, [2, 10, 28, 1220], []), (.iload_n 2, [], []), (.sipush 1023, [], []), (.iastore, [], []), (.iinc 2 1, [], []), (.goto (-18), [27], [])]
theorem kX10_laysParted_27 : chL mX10_laysParted 27 bX10_laysParted_27 = true := by decide +kernel
def bX10_laysParted_48 : List AI := [(.aload_n 0, [], []), (.iload_n 1, [], []), (.iconst 0, [], []), (.invokevirtual 290, [0, 2, 0, 0, 10, 1599, 1596, 1598, 72, 100], [mX10_parts]), (.iconst 1, [], []), (.ireturn, [1], [])]
theorem kX10_laysParted_48 : chL mX10_laysParted 48 bX10_laysParted_48 = true := by decide +kernel
def bX10_parted_0 : List AI := [(.aload_n 0, [], []), (.iconst 0, [], []), (.putfield 1, [0, 10, 0, 1192], []), (.aload_n 0, [], []), (.invokevirtual 297, [0, 0, 0, 0, 10, 1591, 1588, 1590, 70, 100], [mX10_laysParted]), (.ifCond .eq 10, [19], []), (.aload_n 0, [], []), (.getfield 287, [0, 10, 29, 1221], []), (.goto 5, [21], [])]
theorem kX10_parted_0 : chL mX10_parted 0 bX10_parted_0 = true := by decide +kernel
def bX10_parted_19 : List AI := [(.bipush (-4), [], []), (.nop, [21], [])]
theorem kX10_parted_19 : chL mX10_parted 19 bX10_parted_19 = true := by decide +kernel
def bX10_parted_21 : List AI := [(.ireturn, [0], [])]
theorem kX10_parted_21 : chL mX10_parted 21 bX10_parted_21 = true := by decide +kernel
def bX10_together_0 : List AI := [(.aload_n 0, [], []), (.iconst 0, [], []), (.putfield 1, [0, 10, 0, 1192], []), (.aload_n 0, [], []), (.iload_n 1, [], []), (.invokevirtual 184, [0, 1, 0, 0, 10, 1405, 1402, 1404, 49, 100], [mX10_isFamily]), (.ifCond .ne 6, [16], []), (.bipush (-2), [], []), (.ireturn, [0], [])]
theorem kX10_together_0 : chL mX10_together 0 bX10_together_0 = true := by decide +kernel
def bX10_together_16 : List AI := [(.aload_n 0, [], []), (.invokevirtual 297, [0, 0, 0, 0, 10, 1591, 1588, 1590, 70, 100], [mX10_laysParted]), (.ifCond .ne 6, [26], []), (.bipush (-4), [], []), (.ireturn, [0], [])]
theorem kX10_together_16 : chL mX10_together 16 bX10_together_16 = true := by decide +kernel
def bX10_together_26 : List AI := [(.aload_n 0, [], []), (.getfield 287, [0, 10, 29, 1221], []), (.ifCond .eq 15, [45], []), (.aload_n 0, [], []), (.getfield 13, [2, 10, 1, 1193], []), (.bipush 29, [], []), (.iload_n 1, [], []), (.iadd, [], []), (.iaload, [0], []), (.ifCond .ne 7, [49], []), (.nop, [45], [])]
theorem kX10_together_26 : chL mX10_together 26 bX10_together_26 = true := by decide +kernel
def bX10_together_45 : List AI := [(.iconst 0, [], []), (.goto 15, [61], [])]
theorem kX10_together_45 : chL mX10_together 45 bX10_together_45 = true := by decide +kernel
def bX10_together_49 : List AI := [(.aload_n 0, [], []), (.getfield 61, [2, 10, 28, 1220], []), (.iload_n 1, [], []), (.iaload, [0], []), (.iconst 1, [], []), (.iload_n 1, [], []), (.ishl, [], []), (.iconst (-1), [], []), (.ixor, [], []), (.iand, [], []), (.nop, [61], [])]
theorem kX10_together_49 : chL mX10_together 49 bX10_together_49 = true := by decide +kernel
def bX10_together_61 : List AI := [(.ireturn, [0], [])]
theorem kX10_together_61 : chL mX10_together 61 bX10_together_61 = true := by decide +kernel
def bX10_stones_0 : List AI := [(.aload_n 0, [], []), (.iconst 0, [], []), (.putfield 1, [0, 10, 0, 1192], []), (.aload_n 0, [], []), (.iload_n 1, [], []), (.invokevirtual 202, [0, 1, 0, 0, 10, 1426, 1423, 1425, 53, 100], [mX10_isOven]), (.ifCond .eq 13, [23], []), (.iload_n 2, [], []), (.i2l, [], []), (.lconst 0, [], []), (.lconst 1, [], []), (.invokestatic 149, [0, 3, 0, 0, 1332, 1330, 1331, 100], [mX10_within]), (.ifCond .ne 6, [26], []), (.nop, [23], [])]
theorem kX10_stones_0 : chL mX10_stones 0 bX10_stones_0 = true := by decide +kernel
def bX10_stones_23 : List AI := [(.bipush (-2), [], []), (.ireturn, [0], [])]
theorem kX10_stones_23 : chL mX10_stones 23 bX10_stones_23 = true := by decide +kernel
def bX10_stones_26 : List AI := [(.aload_n 0, [], []), (.invokevirtual 275, [0, 0, 0, 0, 10, 1568, 1565, 1567, 68, 100], [mX10_laysGroups]), (.aload_n 0, [], []), (.invokevirtual 294, [0, 0, 0, 0, 10, 1595, 1592, 1594, 71, 100], [mX10_wishers]), (.istore_n 3, [], []), (.aload_n 0, [], []), (.getfield 55, [2, 10, 25, 1217], []), (.iconst 0, [], []), (.iconst 0, [], []), (.iastore, [], []), (.iconst 1, [], []), (.istore 4, [], []), (.nop, [45], [])]
theorem kX10_stones_26 : chL mX10_stones 26 bX10_stones_26 = true := by decide +kernel
def bX10_stones_45 : List AI := [(.iload 4, [], []), (.iload_n 3, [], []), (.if_icmp .gt 146, [194], []), (.iload 4, [], []), (.iload_n 3, [], []), (.iconst (-1), [], []), (.ixor, [], []), (.iand, [], []), (.ifCond .eq 6, [63], []), (.goto 128, [188], [])]
theorem kX10_stones_45 : chL mX10_stones 45 bX10_stones_45 = true := by decide +kernel
def bX10_stones_63 : List AI := [(.iload 4, [], []), (.iload 4, [], []), (.ineg, [], []), (.iand, [], []), (.istore 5, [], []), (.aload_n 0, [], []), (.getfield 55, [2, 10, 25, 1217], []), (.iload 4, [], []), (.bipush 99, [], []), (.iastore, [], []), (.iload 4, [], []), (.istore 6, [], []), (.nop, [84], [])]
theorem kX10_stones_63 : chL mX10_stones 63 bX10_stones_63 = true := by decide +kernel
def bX10_stones_84 : List AI := [(.iload 6, [], []), (.ifCond .le 102, [188], []), (.iload 6, [], []), (.iload 5, [], []), (.iand, [], []), (.ifCond .eq 82, [176], []), (.aload_n 0, [], []), (.getfield 52, [2, 10, 24, 1216], []), (.iload 6, [], []), (.baload, [4], []), (.ifCond .ne 72, [176], []), (.aload_n 0, [], []), (.getfield 49, [2, 10, 23, 1215], []), (.iload 6, [], []), (.iaload, [0], []), (.aload_n 0, [], []), (.getfield 13, [2, 10, 1, 1193], []), (.bipush 6, [], []), (.iload_n 1, [], []), (.iadd, [], []), (.iaload, [0], []), (.if_icmp .le 6, [129], []), (.goto 50, [176], [])]
theorem kX10_stones_84 : chL mX10_stones 84 bX10_stones_84 = true := by decide +kernel
def bX10_stones_129 : List AI := [(.aload_n 0, [], []), (.getfield 55, [2, 10, 25, 1217], []), (.iload 4, [], []), (.iload 6, [], []), (.iconst (-1), [], []), (.ixor, [], []), (.iand, [], []), (.iaload, [0], []), (.iconst 1, [], []), (.iadd, [], []), (.istore 7, [], []), (.aload_n 0, [], []), (.getfield 55, [2, 10, 25, 1217], []), (.iload 4, [], []), (.iload 7, [], []), (.aload_n 0, [], []), (.getfield 55, [2, 10, 25, 1217], []), (.iload 4, [], []), (.iaload, [0], []), (.if_icmp .ge 8, [168], []), (.iload 7, [], []), (.goto 10, [175], [])]
theorem kX10_stones_129 : chL mX10_stones 129 bX10_stones_129 = true := by decide +kernel
def bX10_stones_168 : List AI := [(.aload_n 0, [], []), (.getfield 55, [2, 10, 25, 1217], []), (.iload 4, [], []), (.iaload, [0], []), (.nop, [175], [])]
theorem kX10_stones_168 : chL mX10_stones 168 bX10_stones_168 = true := by decide +kernel
def bX10_stones_175 : List AI := [(.iastore, [], []), (.nop, [176], [])]
theorem kX10_stones_175 : chL mX10_stones 175 bX10_stones_175 = true := by decide +kernel
def bX10_stones_176 : List AI := [(.iload 6, [], []), (.iconst 1, [], []), (.isub, [], []), (.iload 4, [], []), (.iand, [], []), (.istore 6, [], []), (.goto (-101), [84], [])]
theorem kX10_stones_176 : chL mX10_stones 176 bX10_stones_176 = true := by decide +kernel
def bX10_stones_188 : List AI := [(.iinc 4 1, [], []), (.goto (-146), [45], [])]
theorem kX10_stones_188 : chL mX10_stones 188 bX10_stones_188 = true := by decide +kernel
def bX10_stones_194 : List AI := [(.aload_n 0, [], []), (.getfield 55, [2, 10, 25, 1217], []), (.iload_n 3, [], []), (.iaload, [0], []), (.bipush 99, [], []), (.if_icmp .lt 5, [207], []), (.iconst (-1), [], []), (.ireturn, [0], [])]
theorem kX10_stones_194 : chL mX10_stones 194 bX10_stones_194 = true := by decide +kernel
def bX10_stones_207 : List AI := [(.iload_n 2, [], []), (.ifCond .ne 12, [220], []), (.aload_n 0, [], []), (.getfield 55, [2, 10, 25, 1217], []), (.iload_n 3, [], []), (.iaload, [0], []), (.goto 26, [243], [])]
theorem kX10_stones_207 : chL mX10_stones 207 bX10_stones_207 = true := by decide +kernel
def bX10_stones_220 : List AI := [(.aload_n 0, [], []), (.getfield 55, [2, 10, 25, 1217], []), (.iload_n 3, [], []), (.iaload, [0], []), (.aload_n 0, [], []), (.getfield 13, [2, 10, 1, 1193], []), (.bipush 6, [], []), (.iload_n 1, [], []), (.iadd, [], []), (.iaload, [0], []), (.imul, [], []), (.aload_n 0, [], []), (.getfield 49, [2, 10, 23, 1215], []), (.iload_n 3, [], []), (.iaload, [0], []), (.isub, [], []), (.nop, [243], [])]
theorem kX10_stones_220 : chL mX10_stones 220 bX10_stones_220 = true := by decide +kernel
def bX10_stones_243 : List AI := [(.ireturn, [0], [])]
theorem kX10_stones_243 : chL mX10_stones 243 bX10_stones_243 = true := by decide +kernel
def bX10_share_0 : List AI := [(.aload_n 0, [], []), (.getfield 13, [2, 10, 1, 1193], []), (.iconst 4, [], []), (.iaload, [0], []), (.aload_n 0, [], []), (.getfield 13, [2, 10, 1, 1193], []), (.bipush 29, [], []), (.iload_n 1, [], []), (.iadd, [], []), (.iaload, [0], []), (.imul, [], []), (.aload_n 0, [], []), (.getfield 13, [2, 10, 1, 1193], []), (.bipush 6, [], []), (.iload_n 2, [], []), (.iadd, [], []), (.iaload, [0], []), (.idiv, [], []), (.ireturn, [0], [])]
theorem kX10_share_0 : chL mX10_share 0 bX10_share_0 = true := by decide +kernel
def bX10_lures_0 : List AI := [(.iconst 0, [], []), (.istore 5, [], []), (.nop, [3], [])]
theorem kX10_lures_0 : chL mX10_lures 0 bX10_lures_0 = true := by decide +kernel
def bX10_lures_3 : List AI := [(.iload 5, [], []), (.aload_n 0, [], []), (.getfield 13, [2, 10, 1, 1193], []), (.iconst 0, [], []), (.iaload, [0], []), (.if_icmp .ge 65, [76], []), (.iload_n 1, [], []), (.i2l, [], []), (.iload 5, [], []), (.invokestatic 187, [0, 2, 0, 0, 1479, 1477, 1478, 100], [mX10_isIn]), (.ifCond .ne 6, [27], []), (.goto 46, [70], [])]
theorem kX10_lures_3 : chL mX10_lures 3 bX10_lures_3 = true := by decide +kernel
def bX10_lures_27 : List AI := [(.iload_n 3, [], []), (.i2l, [], []), (.iload 5, [], []), (.invokestatic 187, [0, 2, 0, 0, 1479, 1477, 1478, 100], [mX10_isIn]), (.ifCond .eq 14, [48], []), (.aload_n 0, [], []), (.iload 5, [], []), (.iload 4, [], []), (.invokevirtual 301, [0, 2, 0, 0, 10, 1623, 1620, 1622, 75, 100], [mX10_share]), (.goto 9, [54], [])]
theorem kX10_lures_27 : chL mX10_lures 27 bX10_lures_27 = true := by decide +kernel
def bX10_lures_48 : List AI := [(.aload_n 0, [], []), (.getfield 13, [2, 10, 1, 1193], []), (.iconst 4, [], []), (.iaload, [0], []), (.nop, [54], [])]
theorem kX10_lures_48 : chL mX10_lures 48 bX10_lures_48 = true := by decide +kernel
def bX10_lures_54 : List AI := [(.istore 6, [], []), (.aload_n 0, [], []), (.iload 5, [], []), (.iload_n 2, [], []), (.invokevirtual 301, [0, 2, 0, 0, 10, 1623, 1620, 1622, 75, 100], [mX10_share]), (.iload 6, [], []), (.if_icmp .lt 5, [70], []), (.iconst 0, [], []), (.ireturn, [1], [])]
theorem kX10_lures_54 : chL mX10_lures 54 bX10_lures_54 = true := by decide +kernel
def bX10_lures_70 : List AI := [(.iinc 5 1, [], []), (.goto (-70), [3], [])]
theorem kX10_lures_70 : chL mX10_lures 70 bX10_lures_70 = true := by decide +kernel
def bX10_lures_76 : List AI := [(.iconst 1, [], []), (.ireturn, [1], [])]
theorem kX10_lures_76 : chL mX10_lures 76 bX10_lures_76 = true := by decide +kernel
def bX10_leaving_0 : List AI := [(.iconst 0, [], []), (.istore_n 3, [], []), (.iconst 1, [], []), (.istore 4, [], []), (.nop, [5], [])]
theorem kX10_leaving_0 : chL mX10_leaving 0 bX10_leaving_0 = true := by decide +kernel
def bX10_leaving_5 : List AI := [(.iload 4, [], []), (.iconst 1, [], []), (.aload_n 0, [], []), (.getfield 13, [2, 10, 1, 1193], []), (.iconst 0, [], []), (.iaload, [0], []), (.ishl, [], []), (.if_icmp .ge 85, [100], []), (.iload 4, [], []), (.iload_n 2, [], []), (.if_icmp .eq 73, [94], []), (.iload 4, [], []), (.iload_n 2, [], []), (.iand, [], []), (.iload_n 3, [], []), (.iconst (-1), [], []), (.ixor, [], []), (.iand, [], []), (.ifCond .ne 6, [38], []), (.goto 59, [94], [])]
theorem kX10_leaving_5 : chL mX10_leaving 5 bX10_leaving_5 = true := by decide +kernel
def bX10_leaving_38 : List AI := [(.iconst 0, [], []), (.istore 5, [], []), (.nop, [41], [])]
theorem kX10_leaving_38 : chL mX10_leaving 38 bX10_leaving_38 = true := by decide +kernel
def bX10_leaving_41 : List AI := [(.iload 5, [], []), (.aload_n 0, [], []), (.getfield 13, [2, 10, 1, 1193], []), (.iconst 1, [], []), (.iaload, [0], []), (.if_icmp .ge 45, [94], []), (.aload_n 0, [], []), (.getfield 46, [2, 10, 22, 1214], []), (.iload 4, [], []), (.iaload, [0], []), (.i2l, [], []), (.iload 5, [], []), (.invokestatic 187, [0, 2, 0, 0, 1479, 1477, 1478, 100], [mX10_isIn]), (.ifCond .eq 23, [88], []), (.aload_n 0, [], []), (.iload 4, [], []), (.iload 5, [], []), (.iload_n 2, [], []), (.iload_n 1, [], []), (.invokevirtual 304, [0, 4, 0, 0, 10, 1619, 1616, 1618, 74, 100], [mX10_lures]), (.ifCond .eq 10, [88], []), (.iload_n 3, [], []), (.iload 4, [], []), (.iload_n 2, [], []), (.iand, [], []), (.ior, [], []), (.istore_n 3, [], []), (.nop, [88], [])]
theorem kX10_leaving_41 : chL mX10_leaving 41 bX10_leaving_41 = true := by decide +kernel
def bX10_leaving_88 : List AI := [(.iinc 5 1, [], []), (.goto (-50), [41], [])]
theorem kX10_leaving_88 : chL mX10_leaving 88 bX10_leaving_88 = true := by decide +kernel
def bX10_leaving_94 : List AI := [(.iinc 4 1, [], []), (.goto (-92), [5], [])]
theorem kX10_leaving_94 : chL mX10_leaving 94 bX10_leaving_94 = true := by decide +kernel
def bX10_leaving_100 : List AI := [(.iload_n 3, [], []), (.ireturn, [0], [])]
theorem kX10_leaving_100 : chL mX10_leaving 100 bX10_leaving_100 = true := by decide +kernel
def bX10_leaves_0 : List AI := [(.aload_n 0, [], []), (.iconst 0, [], []), (.putfield 1, [0, 10, 0, 1192], []), (.aload_n 0, [], []), (.iload_n 1, [], []), (.invokevirtual 202, [0, 1, 0, 0, 10, 1426, 1423, 1425, 53, 100], [mX10_isOven]), (.ifCond .ne 6, [16], []), (.bipush (-2), [], []), (.ireturn, [0], [])]
theorem kX10_leaves_0 : chL mX10_leaves 0 bX10_leaves_0 = true := by decide +kernel
def bX10_leaves_16 : List AI := [(.aload_n 0, [], []), (.invokevirtual 275, [0, 0, 0, 0, 10, 1568, 1565, 1567, 68, 100], [mX10_laysGroups]), (.aload_n 0, [], []), (.iload_n 2, [], []), (.i2l, [], []), (.invokevirtual 222, [0, 1, 0, 0, 10, 1472, 1469, 1471, 58, 100], [mX10_isSet]), (.ifCond .eq 26, [52], []), (.aload_n 0, [], []), (.getfield 46, [2, 10, 22, 1214], []), (.iload_n 2, [], []), (.iaload, [0], []), (.i2l, [], []), (.iload_n 1, [], []), (.invokestatic 187, [0, 2, 0, 0, 1479, 1477, 1478, 100], [mX10_isIn]), (.ifCond .eq 12, [52], []), (.aload_n 0, [], []), (.iload_n 1, [], []), (.iload_n 2, [], []), (.invokevirtual 308, [0, 2, 0, 0, 10, 1615, 1612, 1614, 73, 100], [mX10_leaving]), (.goto 5, [54], [])]
theorem kX10_leaves_16 : chL mX10_leaves 16 bX10_leaves_16 = true := by decide +kernel
def bX10_leaves_52 : List AI := [(.bipush (-5), [], []), (.nop, [54], [])]
theorem kX10_leaves_52 : chL mX10_leaves 52 bX10_leaves_52 = true := by decide +kernel
def bX10_leaves_54 : List AI := [(.ireturn, [0], [])]
theorem kX10_leaves_54 : chL mX10_leaves 54 bX10_leaves_54 = true := by decide +kernel
def bX10_stable_0 : List AI := [(.aload_n 0, [], []), (.iconst 0, [], []), (.putfield 1, [0, 10, 0, 1192], []), (.aload_n 0, [], []), (.iload_n 1, [], []), (.invokevirtual 202, [0, 1, 0, 0, 10, 1426, 1423, 1425, 53, 100], [mX10_isOven]), (.ifCond .ne 6, [16], []), (.bipush (-2), [], []), (.ireturn, [0], [])]
theorem kX10_stable_0 : chL mX10_stable 0 bX10_stable_0 = true := by decide +kernel
def bX10_stable_16 : List AI := [(.aload_n 0, [], []), (.invokevirtual 275, [0, 0, 0, 0, 10, 1568, 1565, 1567, 68, 100], [mX10_laysGroups]), (.iconst 0, [], []), (.istore_n 3, [], []), (.iconst 0, [], []), (.istore 4, [], []), (.nop, [25], [])]
theorem kX10_stable_16 : chL mX10_stable 16 bX10_stable_16 = true := by decide +kernel
def bX10_stable_25 : List AI := [(.iload 4, [], []), (.iconst 1, [], []), (.aload_n 0, [], []), (.getfield 13, [2, 10, 1, 1193], []), (.iconst 0, [], []), (.iaload, [0], []), (.ishl, [], []), (.if_icmp .ge 48, [83], []), (.aload_n 0, [], []), (.getfield 46, [2, 10, 22, 1214], []), (.iload 4, [], []), (.iaload, [0], []), (.i2l, [], []), (.iload_n 1, [], []), (.invokestatic 187, [0, 2, 0, 0, 1479, 1477, 1478, 100], [mX10_isIn]), (.ifCond .eq 27, [77], []), (.aload_n 0, [], []), (.iload_n 1, [], []), (.iload 4, [], []), (.invokevirtual 308, [0, 2, 0, 0, 10, 1615, 1612, 1614, 73, 100], [mX10_leaving]), (.ifCond .eq 6, [66], []), (.goto 14, [77], [])]
theorem kX10_stable_25 : chL mX10_stable 25 bX10_stable_25 = true := by decide +kernel
def bX10_stable_66 : List AI := [(.iload_n 3, [], []), (.iload_n 2, [], []), (.if_icmp .ne 6, [74], []), (.iload 4, [], []), (.ireturn, [0], [])]
theorem kX10_stable_66 : chL mX10_stable 66 bX10_stable_66 = true := by decide +kernel
def bX10_stable_74 : List AI := [(.iinc 3 1, [], []), (.nop, [77], [])]
theorem kX10_stable_74 : chL mX10_stable 74 bX10_stable_74 = true := by decide +kernel
def bX10_stable_77 : List AI := [(.iinc 4 1, [], []), (.goto (-55), [25], [])]
theorem kX10_stable_77 : chL mX10_stable 77 bX10_stable_77 = true := by decide +kernel
def bX10_stable_83 : List AI := [(.iload_n 2, [], []), (.iconst (-1), [], []), (.if_icmp .ne 7, [92], []), (.iload_n 3, [], []), (.goto 4, [93], [])]
theorem kX10_stable_83 : chL mX10_stable 83 bX10_stable_83 = true := by decide +kernel
def bX10_stable_92 : List AI := [(.iconst (-1), [], []), (.nop, [93], [])]
theorem kX10_stable_92 : chL mX10_stable 92 bX10_stable_92 = true := by decide +kernel
def bX10_stable_93 : List AI := [(.ireturn, [0], [])]
theorem kX10_stable_93 : chL mX10_stable 93 bX10_stable_93 = true := by decide +kernel
def bX10_better_0 : List AI := [(.aload_n 0, [], []), (.iconst 0, [], []), (.putfield 1, [0, 10, 0, 1192], []), (.iload_n 1, [], []), (.i2l, [], []), (.lconst 0, [], []), (.ldc2_w 240, [2, 1488], []), (.invokestatic 149, [0, 3, 0, 0, 1332, 1330, 1331, 100], [mX10_within]), (.ifCond .ne 6, [20], []), (.bipush (-2), [], []), (.ireturn, [0], [])]
theorem kX10_better_0 : chL mX10_better 0 bX10_better_0 = true := by decide +kernel
def bX10_better_20 : List AI := [(.aload_n 0, [], []), (.invokevirtual 284, [0, 0, 0, 0, 10, 1580, 1577, 1579, 69, 100], [mX10_serves]), (.istore_n 2, [], []), (.iconst (-1), [], []), (.istore_n 3, [], []), (.iconst (-1), [], []), (.istore 4, [], []), (.iconst 0, [], []), (.istore 5, [], []), (.nop, [33], [])]
theorem kX10_better_20 : chL mX10_better 20 bX10_better_20 = true := by decide +kernel
def bX10_better_33 : List AI := [(.iload 5, [], []), (.aload_n 0, [], []), (.getfield 13, [2, 10, 1, 1193], []), (.iconst 0, [], []), (.iaload, [0], []), (.if_icmp .ge 96, [137], []), (.aload_n 0, [], []), (.getfield 13, [2, 10, 1, 1193], []), (.bipush 29, [], []), (.iload 5, [], []), (.iadd, [], []), (.iaload, [0], []), (.istore 6, [], []), (.iconst 1, [], []), (.istore 7, [], []), (.nop, [59], [])]
theorem kX10_better_33 : chL mX10_better 33 bX10_better_33 = true := by decide +kernel
def bX10_better_59 : List AI := [(.iload 7, [], []), (.bipush 100, [], []), (.if_icmp .ge 56, [119], []), (.iload 7, [], []), (.iload 6, [], []), (.if_icmp .ne 6, [76], []), (.goto 40, [113], [])]
theorem kX10_better_59 : chL mX10_better 59 bX10_better_59 = true := by decide +kernel
def bX10_better_76 : List AI := [(.aload_n 0, [], []), (.getfield 13, [2, 10, 1, 1193], []), (.bipush 29, [], []), (.iload 5, [], []), (.iadd, [], []), (.iload 7, [], []), (.iastore, [], []), (.aload_n 0, [], []), (.invokevirtual 284, [0, 0, 0, 0, 10, 1580, 1577, 1579, 69, 100], [mX10_serves]), (.istore 8, [], []), (.iload 8, [], []), (.iload_n 2, [], []), (.if_icmp .gt 6, [103], []), (.goto 13, [113], [])]
theorem kX10_better_76 : chL mX10_better 76 bX10_better_76 = true := by decide +kernel
def bX10_better_103 : List AI := [(.iload 8, [], []), (.istore_n 2, [], []), (.iload 5, [], []), (.istore_n 3, [], []), (.iload 7, [], []), (.istore 4, [], []), (.nop, [113], [])]
theorem kX10_better_103 : chL mX10_better 103 bX10_better_103 = true := by decide +kernel
def bX10_better_113 : List AI := [(.iinc 7 1, [], []), (.goto (-57), [59], [])]
theorem kX10_better_113 : chL mX10_better 113 bX10_better_113 = true := by decide +kernel
def bX10_better_119 : List AI := [(.aload_n 0, [], []), (.getfield 13, [2, 10, 1, 1193], []), (.bipush 29, [], []), (.iload 5, [], []), (.iadd, [], []), (.iload 6, [], []), (.iastore, [], []), (.iinc 5 1, [], []), (.goto (-101), [33], [])]
theorem kX10_better_119 : chL mX10_better 119 bX10_better_119 = true := by decide +kernel
def bX10_better_137 : List AI := [(.iload_n 1, [], []), (.ifCond .ne 7, [145], []), (.iload_n 3, [], []), (.goto 14, [156], [])]
theorem kX10_better_137 : chL mX10_better 137 bX10_better_137 = true := by decide +kernel
def bX10_better_145 : List AI := [(.iload_n 1, [], []), (.iconst 1, [], []), (.if_icmp .ne 8, [155], []), (.iload 4, [], []), (.goto 4, [156], [])]
theorem kX10_better_145 : chL mX10_better 145 bX10_better_145 = true := by decide +kernel
def bX10_better_155 : List AI := [(.iload_n 2, [], []), (.nop, [156], [])]
theorem kX10_better_155 : chL mX10_better 155 bX10_better_155 = true := by decide +kernel
def bX10_better_156 : List AI := [(.ireturn, [0], [])]
theorem kX10_better_156 : chL mX10_better 156 bX10_better_156 = true := by decide +kernel
def bX10_lend_0 : List AI := [(.aload_n 0, [], []), (.iconst 0, [], []), (.putfield 1, [0, 10, 0, 1192], []), (.aload_n 0, [], []), (.iload_n 1, [], []), (.iload_n 2, [], []), (.invokevirtual 209, [0, 2, 0, 0, 10, 1442, 1439, 1441, 55, 100], [mX10_areTwo]), (.ifCond .ne 6, [17], []), (.bipush (-2), [], []), (.ireturn, [0], [])]
theorem kX10_lend_0 : chL mX10_lend 0 bX10_lend_0 = true := by decide +kernel
def bX10_lend_17 : List AI := [(.iload_n 3, [], []), (.i2l, [], []), (.lconst 1, [], []), (.aload_n 0, [], []), (.getfield 13, [2, 10, 1, 1193], []), (.bipush 19, [], []), (.iload_n 1, [], []), (.iadd, [], []), (.iaload, [0], []), (.i2l, [], []), (.invokestatic 149, [0, 3, 0, 0, 1332, 1330, 1331, 100], [mX10_within]), (.ifCond .ne 6, [39], []), (.bipush (-3), [], []), (.ireturn, [0], [])]
theorem kX10_lend_17 : chL mX10_lend 17 bX10_lend_17 = true := by decide +kernel
def bX10_lend_39 : List AI := [(.aload_n 0, [], []), (.getfield 13, [2, 10, 1, 1193], []), (.bipush 19, [], []), (.iload_n 2, [], []), (.iadd, [], []), (.iaload, [0], []), (.iload_n 3, [], []), (.iadd, [], []), (.sipush 999, [], []), (.if_icmp .le 6, [59], []), (.bipush (-4), [], []), (.ireturn, [0], [])]
theorem kX10_lend_39 : chL mX10_lend 39 bX10_lend_39 = true := by decide +kernel
def bX10_lend_59 : List AI := [(.aload_n 0, [], []), (.getfield 13, [2, 10, 1, 1193], []), (.bipush 19, [], []), (.iload_n 1, [], []), (.iadd, [], []), (.dup2, [0], []), (.iaload, [0], []), (.iload_n 3, [], []), (.isub, [], []), (.iastore, [], []), (.aload_n 0, [], []), (.getfield 13, [2, 10, 1, 1193], []), (.bipush 19, [], []), (.iload_n 2, [], []), (.iadd, [], []), (.dup2, [0], []), (.iaload, [0], []), (.iload_n 3, [], []), (.iadd, [], []), (.iastore, [], []), (.aload_n 0, [], []), (.iload_n 1, [], []), (.iload_n 2, [], []), (.invokevirtual 191, [0, 2, 0, 0, 10, 1417, 1414, 1416, 52, 100], [mX10_debt]), (.iload_n 3, [], []), (.if_icmp .ge 12, [104], []), (.aload_n 0, [], []), (.iload_n 1, [], []), (.iload_n 2, [], []), (.invokevirtual 191, [0, 2, 0, 0, 10, 1417, 1414, 1416, 52, 100], [mX10_debt]), (.goto 4, [105], [])]
theorem kX10_lend_59 : chL mX10_lend 59 bX10_lend_59 = true := by decide +kernel
def bX10_lend_104 : List AI := [(.iload_n 3, [], []), (.nop, [105], [])]
theorem kX10_lend_104 : chL mX10_lend 104 bX10_lend_104 = true := by decide +kernel
def bX10_lend_105 : List AI := [(.istore 4, [], []), (.aload_n 0, [], []), (.getfield 13, [2, 10, 1, 1193], []), (.sipush 219, [], []), (.bipush 10, [], []), (.iload_n 1, [], []), (.imul, [], []), (.iadd, [], []), (.iload_n 2, [], []), (.iadd, [], []), (.dup2, [0], []), (.iaload, [0], []), (.iload 4, [], []), (.isub, [], []), (.iastore, [], []), (.aload_n 0, [], []), (.getfield 13, [2, 10, 1, 1193], []), (.sipush 219, [], []), (.bipush 10, [], []), (.iload_n 2, [], []), (.imul, [], []), (.iadd, [], []), (.iload_n 1, [], []), (.iadd, [], []), (.dup2, [0], []), (.iaload, [0], []), (.iload_n 3, [], []), (.iload 4, [], []), (.isub, [], []), (.iadd, [], []), (.iastore, [], []), (.aload_n 0, [], []), (.iload_n 2, [], []), (.iload_n 1, [], []), (.invokevirtual 191, [0, 2, 0, 0, 10, 1417, 1414, 1416, 52, 100], [mX10_debt]), (.ireturn, [0], [])]
theorem kX10_lend_105 : chL mX10_lend 105 bX10_lend_105 = true := by decide +kernel
def bX10_owed_0 : List AI := [(.aload_n 0, [], []), (.iconst 0, [], []), (.putfield 1, [0, 10, 0, 1192], []), (.aload_n 0, [], []), (.iload_n 1, [], []), (.invokevirtual 184, [0, 1, 0, 0, 10, 1405, 1402, 1404, 49, 100], [mX10_isFamily]), (.ifCond .eq 20, [30], []), (.aload_n 0, [], []), (.iload_n 2, [], []), (.invokevirtual 184, [0, 1, 0, 0, 10, 1405, 1402, 1404, 49, 100], [mX10_isFamily]), (.ifCond .eq 12, [30], []), (.aload_n 0, [], []), (.iload_n 1, [], []), (.iload_n 2, [], []), (.invokevirtual 191, [0, 2, 0, 0, 10, 1417, 1414, 1416, 52, 100], [mX10_debt]), (.goto 5, [32], [])]
theorem kX10_owed_0 : chL mX10_owed 0 bX10_owed_0 = true := by decide +kernel
def bX10_owed_30 : List AI := [(.bipush (-2), [], []), (.nop, [32], [])]
theorem kX10_owed_30 : chL mX10_owed 30 bX10_owed_30 = true := by decide +kernel
def bX10_owed_32 : List AI := [(.ireturn, [0], [])]
theorem kX10_owed_32 : chL mX10_owed 32 bX10_owed_32 = true := by decide +kernel
def bX10_laysFar_0 : List AI := [(.iconst 0, [], []), (.istore_n 2, [], []), (.nop, [2], [])]
theorem kX10_laysFar_0 : chL mX10_laysFar 0 bX10_laysFar_0 = true := by decide +kernel
def bX10_laysFar_2 : List AI := [(.iload_n 2, [], []), (.bipush 10, [], []), (.if_icmp .ge 26, [31], []), (.aload_n 0, [], []), (.getfield 67, [2, 10, 31, 1223], []), (.iload_n 2, [], []), (.iload_n 2, [], []), (.iload_n 1, [], []), (.if_icmp .ne 7, [22], []), (.iconst 0, [], []), (.goto 5, [24], [])]
theorem kX10_laysFar_2 : chL mX10_laysFar 2 bX10_laysFar_2 = true := by decide +kernel
def bX10_laysFar_22 : List AI := [(.bipush 99, [], []), (.nop, [24], [])]
theorem kX10_laysFar_22 : chL mX10_laysFar 22 bX10_laysFar_22 = true := by decide +kernel
def bX10_laysFar_24 : List AI := [(.iastore, [], []), (.iinc 2 1, [], []), (.goto (-26), [2], [])]
theorem kX10_laysFar_24 : chL mX10_laysFar 24 bX10_laysFar_24 = true := by decide +kernel
def bX10_laysFar_31 : List AI := [(.iconst 0, [], []), (.istore_n 2, [], []), (.nop, [33], [])]
theorem kX10_laysFar_31 : chL mX10_laysFar 31 bX10_laysFar_31 = true := by decide +kernel
def bX10_laysFar_33 : List AI := [(.iload_n 2, [], []), (.aload_n 0, [], []), (.getfield 13, [2, 10, 1, 1193], []), (.iconst 0, [], []), (.iaload, [0], []), (.if_icmp .ge 90, [130], []), (.iconst 0, [], []), (.istore_n 3, [], []), (.nop, [45], [])]
theorem kX10_laysFar_33 : chL mX10_laysFar 33 bX10_laysFar_33 = true := by decide +kernel
def bX10_laysFar_45 : List AI := [(.iload_n 3, [], []), (.aload_n 0, [], []), (.getfield 13, [2, 10, 1, 1193], []), (.iconst 0, [], []), (.iaload, [0], []), (.if_icmp .ge 72, [124], []), (.iconst 0, [], []), (.istore 4, [], []), (.nop, [58], [])]
theorem kX10_laysFar_45 : chL mX10_laysFar 45 bX10_laysFar_45 = true := by decide +kernel
def bX10_laysFar_58 : List AI := [(.iload 4, [], []), (.aload_n 0, [], []), (.getfield 13, [2, 10, 1, 1193], []), (.iconst 0, [], []), (.iaload, [0], []), (.if_icmp .ge 52, [118], []), (.aload_n 0, [], []), (.iload_n 3, [], []), (.iload 4, [], []), (.invokevirtual 191, [0, 2, 0, 0, 10, 1417, 1414, 1416, 52, 100], [mX10_debt]), (.ifCond .le 36, [112], []), (.aload_n 0, [], []), (.getfield 67, [2, 10, 31, 1223], []), (.iload 4, [], []), (.iaload, [0], []), (.iconst 1, [], []), (.iadd, [], []), (.aload_n 0, [], []), (.getfield 67, [2, 10, 31, 1223], []), (.iload_n 3, [], []), (.iaload, [0], []), (.if_icmp .ge 18, [112], []), (.aload_n 0, [], []), (.getfield 67, [2, 10, 31, 1223], []), (.iload_n 3, [], []), (.aload_n 0, [], []), (.getfield 67, [2, 10, 31, 1223], []), (.iload 4, [], []), (.iaload, [0], []), (.iconst 1, [], []), (.iadd, [], []), (.iastore, [], []), (.nop, [112], [])]
theorem kX10_laysFar_58 : chL mX10_laysFar 58 bX10_laysFar_58 = true := by decide +kernel
def bX10_laysFar_112 : List AI := [(.iinc 4 1, [], []), (.goto (-57), [58], [])]
theorem kX10_laysFar_112 : chL mX10_laysFar 112 bX10_laysFar_112 = true := by decide +kernel
def bX10_laysFar_118 : List AI := [(.iinc 3 1, [], []), (.goto (-76), [45], [])]
theorem kX10_laysFar_118 : chL mX10_laysFar 118 bX10_laysFar_118 = true := by decide +kernel
def bX10_laysFar_124 : List AI := [(.iinc 2 1, [], []), (.goto (-94), [33], [])]
theorem kX10_laysFar_124 : chL mX10_laysFar 124 bX10_laysFar_124 = true := by decide +kernel
def bX10_laysFar_130 : List AI := [(.return_, [], [])]
theorem kX10_laysFar_130 : chL mX10_laysFar 130 bX10_laysFar_130 = true := by decide +kernel
def bX10_laysRing_0 : List AI := [(.iconst 0, [], []), (.istore_n 1, [], []), (.nop, [2], [])]
theorem kX10_laysRing_0 : chL mX10_laysRing 0 bX10_laysRing_0 = true := by decide +kernel
def bX10_laysRing_2 : List AI := [(.iload_n 1, [], []), (.aload_n 0, [], []), (.getfield 13, [2, 10, 1, 1193], []), (.iconst 0, [], []), (.iaload, [0], []), (.if_icmp .ge 159, [168], []), (.aload_n 0, [], []), (.iload_n 1, [], []), (.invokevirtual 311, [0, 1, 0, 0, 10, 1651, 1648, 1650, 77, 100], [mX10_laysFar]), (.bipush 99, [], []), (.istore_n 2, [], []), (.iconst 0, [], []), (.istore_n 3, [], []), (.nop, [22], [])]
theorem kX10_laysRing_2 : chL mX10_laysRing 2 bX10_laysRing_2 = true := by decide +kernel
def bX10_laysRing_22 : List AI := [(.iload_n 3, [], []), (.aload_n 0, [], []), (.getfield 13, [2, 10, 1, 1193], []), (.iconst 0, [], []), (.iaload, [0], []), (.if_icmp .ge 44, [73], []), (.iload_n 3, [], []), (.iload_n 1, [], []), (.if_icmp .eq 33, [67], []), (.aload_n 0, [], []), (.iload_n 1, [], []), (.iload_n 3, [], []), (.invokevirtual 191, [0, 2, 0, 0, 10, 1417, 1414, 1416, 52, 100], [mX10_debt]), (.ifCond .le 24, [67], []), (.aload_n 0, [], []), (.getfield 67, [2, 10, 31, 1223], []), (.iload_n 3, [], []), (.iaload, [0], []), (.iconst 1, [], []), (.iadd, [], []), (.iload_n 2, [], []), (.if_icmp .ge 12, [67], []), (.aload_n 0, [], []), (.getfield 67, [2, 10, 31, 1223], []), (.iload_n 3, [], []), (.iaload, [0], []), (.iconst 1, [], []), (.iadd, [], []), (.istore_n 2, [], []), (.nop, [67], [])]
theorem kX10_laysRing_22 : chL mX10_laysRing 22 bX10_laysRing_22 = true := by decide +kernel
def bX10_laysRing_67 : List AI := [(.iinc 3 1, [], []), (.goto (-48), [22], [])]
theorem kX10_laysRing_67 : chL mX10_laysRing 67 bX10_laysRing_67 = true := by decide +kernel
def bX10_laysRing_73 : List AI := [(.iload_n 2, [], []), (.bipush 99, [], []), (.if_icmp .lt 6, [82], []), (.goto 83, [162], [])]
theorem kX10_laysRing_73 : chL mX10_laysRing 73 bX10_laysRing_73 = true := by decide +kernel
def bX10_laysRing_82 : List AI := [(.aload_n 0, [], []), (.iload_n 2, [], []), (.putfield 314, [0, 10, 32, 1224], []), (.aload_n 0, [], []), (.getfield 64, [2, 10, 30, 1222], []), (.iconst 0, [], []), (.iload_n 1, [], []), (.iastore, [], []), (.iconst 1, [], []), (.istore_n 3, [], []), (.nop, [96], [])]
theorem kX10_laysRing_82 : chL mX10_laysRing 82 bX10_laysRing_82 = true := by decide +kernel
def bX10_laysRing_96 : List AI := [(.iload_n 3, [], []), (.iload_n 2, [], []), (.if_icmp .ge 62, [160], []), (.iconst 0, [], []), (.istore 4, [], []), (.nop, [104], [])]
theorem kX10_laysRing_96 : chL mX10_laysRing 96 bX10_laysRing_96 = true := by decide +kernel
def bX10_laysRing_104 : List AI := [(.iload 4, [], []), (.iload_n 1, [], []), (.if_icmp .eq 33, [140], []), (.aload_n 0, [], []), (.aload_n 0, [], []), (.getfield 64, [2, 10, 30, 1222], []), (.iload_n 3, [], []), (.iconst 1, [], []), (.isub, [], []), (.iaload, [0], []), (.iload 4, [], []), (.invokevirtual 191, [0, 2, 0, 0, 10, 1417, 1414, 1416, 52, 100], [mX10_debt]), (.ifCond .eq 16, [140], []), (.aload_n 0, [], []), (.getfield 67, [2, 10, 31, 1223], []), (.iload 4, [], []), (.iaload, [0], []), (.iload_n 2, [], []), (.iload_n 3, [], []), (.isub, [], []), (.if_icmp .eq 9, [146], []), (.nop, [140], [])]
theorem kX10_laysRing_104 : chL mX10_laysRing 104 bX10_laysRing_104 = true := by decide +kernel
def bX10_laysRing_140 : List AI := [(.iinc 4 1, [], []), (.goto (-39), [104], [])]
theorem kX10_laysRing_140 : chL mX10_laysRing 140 bX10_laysRing_140 = true := by decide +kernel
def bX10_laysRing_146 : List AI := [(.aload_n 0, [], []), (.getfield 64, [2, 10, 30, 1222], []), (.iload_n 3, [], []), (.iload 4, [], []), (.iastore, [], []), (.iinc 3 1, [], []), (.goto (-61), [96], [])]
theorem kX10_laysRing_146 : chL mX10_laysRing 146 bX10_laysRing_146 = true := by decide +kernel
def bX10_laysRing_160 : List AI := [(.iconst 1, [], []), (.ireturn, [1], [])]
theorem kX10_laysRing_160 : chL mX10_laysRing 160 bX10_laysRing_160 = true := by decide +kernel
def bX10_laysRing_162 : List AI := [(.iinc 1 1, [], []), (.goto (-163), [2], [])]
theorem kX10_laysRing_162 : chL mX10_laysRing 162 bX10_laysRing_162 = true := by decide +kernel
def bX10_laysRing_168 : List AI := [(.iconst 0, [], []), (.ireturn, [1], [])]
theorem kX10_laysRing_168 : chL mX10_laysRing 168 bX10_laysRing_168 = true := by decide +kernel
def bX10_ring_0 : List AI := [(.aload_n 0, [], []), (.iconst 0, [], []), (.putfield 1, [0, 10, 0, 1192], []), (.aload_n 0, [], []), (.invokevirtual 317, [0, 0, 0, 0, 10, 1647, 1644, 1646, 76, 100], [mX10_laysRing]), (.ifCond .ne 5, [14], []), (.iconst (-1), [], []), (.ireturn, [0], [])]
theorem kX10_ring_0 : chL mX10_ring 0 bX10_ring_0 = true := by decide +kernel
def bX10_ring_14 : List AI := [(.iload_n 1, [], []), (.iconst (-1), [], []), (.if_icmp .ne 10, [26], []), (.aload_n 0, [], []), (.getfield 314, [0, 10, 32, 1224], []), (.goto 29, [52], [])]
theorem kX10_ring_14 : chL mX10_ring 14 bX10_ring_14 = true := by decide +kernel
def bX10_ring_26 : List AI := [(.iload_n 1, [], []), (.i2l, [], []), (.lconst 0, [], []), (.aload_n 0, [], []), (.getfield 314, [0, 10, 32, 1224], []), (.iconst 1, [], []), (.isub, [], []), (.i2l, [], []), (.invokestatic 149, [0, 3, 0, 0, 1332, 1330, 1331, 100], [mX10_within]), (.ifCond .eq 12, [51], []), (.aload_n 0, [], []), (.getfield 64, [2, 10, 30, 1222], []), (.iload_n 1, [], []), (.iaload, [0], []), (.goto 4, [52], [])]
theorem kX10_ring_26 : chL mX10_ring 26 bX10_ring_26 = true := by decide +kernel
def bX10_ring_51 : List AI := [(.iconst (-1), [], []), (.nop, [52], [])]
theorem kX10_ring_51 : chL mX10_ring 51 bX10_ring_51 = true := by decide +kernel
def bX10_ring_52 : List AI := [(.ireturn, [0], [])]
theorem kX10_ring_52 : chL mX10_ring 52 bX10_ring_52 = true := by decide +kernel
def bX10_clear_0 : List AI := [(.aload_n 0, [], []), (.iconst 0, [], []), (.putfield 1, [0, 10, 0, 1192], []), (.iconst 0, [], []), (.istore_n 1, [], []), (.nop, [7], [])]
theorem kX10_clear_0 : chL mX10_clear 0 bX10_clear_0 = true := by decide +kernel
def bX10_clear_7 : List AI := [(.aload_n 0, [], []), (.invokevirtual 317, [0, 0, 0, 0, 10, 1647, 1644, 1646, 76, 100], [mX10_laysRing]), (.ifCond .eq 153, [164], []), (.aload_n 0, [], []), (.aload_n 0, [], []), (.getfield 64, [2, 10, 30, 1222], []), (.aload_n 0, [], []), (.getfield 314, [0, 10, 32, 1224], []), (.iconst 1, [], []), (.isub, [], []), (.iaload, [0], []), (.aload_n 0, [], []), (.getfield 64, [2, 10, 30, 1222], []), (.iconst 0, [], []), (.iaload, [0], []), (.invokevirtual 191, [0, 2, 0, 0, 10, 1417, 1414, 1416, 52, 100], [mX10_debt]), (.istore_n 2, [], []), (.iconst 1, [], []), (.istore_n 3, [], []), (.nop, [38], [])]
theorem kX10_clear_7 : chL mX10_clear 7 bX10_clear_7 = true := by decide +kernel
def bX10_clear_38 : List AI := [(.iload_n 3, [], []), (.aload_n 0, [], []), (.getfield 314, [0, 10, 32, 1224], []), (.if_icmp .ge 54, [97], []), (.aload_n 0, [], []), (.aload_n 0, [], []), (.getfield 64, [2, 10, 30, 1222], []), (.iload_n 3, [], []), (.iconst 1, [], []), (.isub, [], []), (.iaload, [0], []), (.aload_n 0, [], []), (.getfield 64, [2, 10, 30, 1222], []), (.iload_n 3, [], []), (.iaload, [0], []), (.invokevirtual 191, [0, 2, 0, 0, 10, 1417, 1414, 1416, 52, 100], [mX10_debt]), (.iload_n 2, [], []), (.if_icmp .ge 24, [89], []), (.aload_n 0, [], []), (.aload_n 0, [], []), (.getfield 64, [2, 10, 30, 1222], []), (.iload_n 3, [], []), (.iconst 1, [], []), (.isub, [], []), (.iaload, [0], []), (.aload_n 0, [], []), (.getfield 64, [2, 10, 30, 1222], []), (.iload_n 3, [], []), (.iaload, [0], []), (.invokevirtual 191, [0, 2, 0, 0, 10, 1417, 1414, 1416, 52, 100], [mX10_debt]), (.goto 4, [90], [])]
theorem kX10_clear_38 : chL mX10_clear 38 bX10_clear_38 = true := by decide +kernel
def bX10_clear_89 : List AI := [(.iload_n 2, [], []), (.nop, [90], [])]
theorem kX10_clear_89 : chL mX10_clear 89 bX10_clear_89 = true := by decide +kernel
def bX10_clear_90 : List AI := [(.istore_n 2, [], []), (.iinc 3 1, [], []), (.goto (-56), [38], [])]
theorem kX10_clear_90 : chL mX10_clear 90 bX10_clear_90 = true := by decide +kernel
def bX10_clear_97 : List AI := [(.iconst 0, [], []), (.istore_n 3, [], []), (.nop, [99], [])]
theorem kX10_clear_97 : chL mX10_clear 97 bX10_clear_97 = true := by decide +kernel
def bX10_clear_99 : List AI := [(.iload_n 3, [], []), (.aload_n 0, [], []), (.getfield 314, [0, 10, 32, 1224], []), (.if_icmp .ge 54, [158], []), (.aload_n 0, [], []), (.getfield 13, [2, 10, 1, 1193], []), (.sipush 219, [], []), (.bipush 10, [], []), (.aload_n 0, [], []), (.getfield 64, [2, 10, 30, 1222], []), (.iload_n 3, [], []), (.iaload, [0], []), (.imul, [], []), (.iadd, [], []), (.aload_n 0, [], []), (.getfield 64, [2, 10, 30, 1222], []), (.iload_n 3, [], []), (.iconst 1, [], []), (.iadd, [], []), (.aload_n 0, [], []), (.getfield 314, [0, 10, 32, 1224], []), (.if_icmp .ne 7, [142], []), (.iconst 0, [], []), (.goto 6, [145], [])]
theorem kX10_clear_99 : chL mX10_clear 99 bX10_clear_99 = true := by decide +kernel
def bX10_clear_142 : List AI := [(.iload_n 3, [], []), (.iconst 1, [], []), (.iadd, [], []), (.nop, [145], [])]
theorem kX10_clear_142 : chL mX10_clear 142 bX10_clear_142 = true := by decide +kernel
def bX10_clear_145 : List AI := [(.iaload, [0], []), (.iadd, [], []), (.dup2, [0], []), (.iaload, [0], []), (.iload_n 2, [], []), (.isub, [], []), (.iastore, [], []), (.iinc 3 1, [], []), (.goto (-56), [99], [])]
theorem kX10_clear_145 : chL mX10_clear 145 bX10_clear_145 = true := by decide +kernel
def bX10_clear_158 : List AI := [(.iinc 1 1, [], []), (.goto (-154), [7], [])]
theorem kX10_clear_158 : chL mX10_clear 158 bX10_clear_158 = true := by decide +kernel
def bX10_clear_164 : List AI := [(.iload_n 1, [], []), (.ireturn, [0], [])]
theorem kX10_clear_164 : chL mX10_clear 164 bX10_clear_164 = true := by decide +kernel
def bX10_payments_0 : List AI := [(.aload_n 0, [], []), (.iconst 0, [], []), (.putfield 1, [0, 10, 0, 1192], []), (.iconst 0, [], []), (.istore_n 1, [], []), (.iconst 0, [], []), (.istore_n 2, [], []), (.nop, [9], [])]
theorem kX10_payments_0 : chL mX10_payments 0 bX10_payments_0 = true := by decide +kernel
def bX10_payments_9 : List AI := [(.iload_n 2, [], []), (.aload_n 0, [], []), (.getfield 13, [2, 10, 1, 1193], []), (.iconst 0, [], []), (.iaload, [0], []), (.if_icmp .ge 27, [43], []), (.iload_n 1, [], []), (.aload_n 0, [], []), (.iload_n 2, [], []), (.invokevirtual 197, [0, 1, 0, 0, 10, 1413, 1410, 1412, 51, 100], [mX10_balance]), (.ifCond .ne 7, [32], []), (.iconst 0, [], []), (.goto 6, [35], [])]
theorem kX10_payments_9 : chL mX10_payments 9 bX10_payments_9 = true := by decide +kernel
def bX10_payments_32 : List AI := [(.iconst 1, [], []), (.iload_n 2, [], []), (.ishl, [], []), (.nop, [35], [])]
theorem kX10_payments_32 : chL mX10_payments 32 bX10_payments_32 = true := by decide +kernel
def bX10_payments_35 : List AI := [(.ior, [], []), (.istore_n 1, [], []), (.iinc 2 1, [], []), (.goto (-31), [9], [])]
theorem kX10_payments_35 : chL mX10_payments 35 bX10_payments_35 = true := by decide +kernel
def bX10_payments_43 : List AI := [(.aload_n 0, [], []), (.getfield 55, [2, 10, 25, 1217], []), (.iconst 0, [], []), (.iconst 0, [], []), (.iastore, [], []), (.iconst 1, [], []), (.istore_n 2, [], []), (.nop, [52], [])]
theorem kX10_payments_43 : chL mX10_payments 43 bX10_payments_43 = true := by decide +kernel
def bX10_payments_52 : List AI := [(.iload_n 2, [], []), (.iload_n 1, [], []), (.if_icmp .gt 113, [167], []), (.iconst 0, [], []), (.istore_n 3, [], []), (.iconst 0, [], []), (.istore 4, [], []), (.iconst 0, [], []), (.istore 5, [], []), (.nop, [65], [])]
theorem kX10_payments_52 : chL mX10_payments 52 bX10_payments_52 = true := by decide +kernel
def bX10_payments_65 : List AI := [(.iload 5, [], []), (.aload_n 0, [], []), (.getfield 13, [2, 10, 1, 1193], []), (.iconst 0, [], []), (.iaload, [0], []), (.if_icmp .ge 69, [142], []), (.iload_n 2, [], []), (.i2l, [], []), (.iload 5, [], []), (.invokestatic 187, [0, 2, 0, 0, 1479, 1477, 1478, 100], [mX10_isIn]), (.ifCond .ne 6, [89], []), (.goto 50, [136], [])]
theorem kX10_payments_65 : chL mX10_payments 65 bX10_payments_65 = true := by decide +kernel
def bX10_payments_89 : List AI := [(.iload_n 3, [], []), (.aload_n 0, [], []), (.iload 5, [], []), (.invokevirtual 197, [0, 1, 0, 0, 10, 1413, 1410, 1412, 51, 100], [mX10_balance]), (.iadd, [], []), (.istore_n 3, [], []), (.aload_n 0, [], []), (.getfield 55, [2, 10, 25, 1217], []), (.iload_n 2, [], []), (.iconst 1, [], []), (.iload 5, [], []), (.ishl, [], []), (.iconst (-1), [], []), (.ixor, [], []), (.iand, [], []), (.iaload, [0], []), (.iload 4, [], []), (.if_icmp .le 19, [132], []), (.aload_n 0, [], []), (.getfield 55, [2, 10, 25, 1217], []), (.iload_n 2, [], []), (.iconst 1, [], []), (.iload 5, [], []), (.ishl, [], []), (.iconst (-1), [], []), (.ixor, [], []), (.iand, [], []), (.iaload, [0], []), (.goto 5, [134], [])]
theorem kX10_payments_89 : chL mX10_payments 89 bX10_payments_89 = true := by decide +kernel
def bX10_payments_132 : List AI := [(.iload 4, [], []), (.nop, [134], [])]
theorem kX10_payments_132 : chL mX10_payments 132 bX10_payments_132 = true := by decide +kernel
def bX10_payments_134 : List AI := [(.istore 4, [], []), (.nop, [136], [])]
theorem kX10_payments_134 : chL mX10_payments 134 bX10_payments_134 = true := by decide +kernel
def bX10_payments_136 : List AI := [(.iinc 5 1, [], []), (.goto (-74), [65], [])]
theorem kX10_payments_136 : chL mX10_payments 136 bX10_payments_136 = true := by decide +kernel
def bX10_payments_142 : List AI := [(.aload_n 0, [], []), (.getfield 55, [2, 10, 25, 1217], []), (.iload_n 2, [], []), (.iload_n 3, [], []), (.ifCond .ne 10, [158], []), (.iload 4, [], []), (.iconst 1, [], []), (.iadd, [], []), (.goto 5, [160], [])]
theorem kX10_payments_142 : chL mX10_payments 142 bX10_payments_142 = true := by decide +kernel
def bX10_payments_158 : List AI := [(.iload 4, [], []), (.nop, [160], [])]
theorem kX10_payments_158 : chL mX10_payments 158 bX10_payments_158 = true := by decide +kernel
def bX10_payments_160 : List AI := [(.iastore, [], []), (.iinc 2 1, [], []), (.goto (-112), [52], [])]
theorem kX10_payments_160 : chL mX10_payments 160 bX10_payments_160 = true := by decide +kernel
def bX10_payments_167 : List AI := [(.iload_n 1, [], []), (.invokestatic 281, [0, 1, 0, 0, 1583, 1581, 1582, 100], [mX10_bitsOf]), (.aload_n 0, [], []), (.getfield 55, [2, 10, 25, 1217], []), (.iload_n 1, [], []), (.iaload, [0], []), (.isub, [], []), (.ireturn, [0], [])]
theorem kX10_payments_167 : chL mX10_payments 167 bX10_payments_167 = true := by decide +kernel
def bX10_laysCrumbs_0 : List AI := [(.iconst 0, [], []), (.istore_n 1, [], []), (.nop, [2], [])]
theorem kX10_laysCrumbs_0 : chL mX10_laysCrumbs 0 bX10_laysCrumbs_0 = true := by decide +kernel
def bX10_laysCrumbs_2 : List AI := [(.iload_n 1, [], []), (.iconst 5, [], []), (.if_icmp .ge 70, [74], []), (.aload_n 0, [], []), (.getfield 37, [2, 10, 19, 1211], []), (.iload_n 1, [], []), (.iconst 0, [], []), (.iastore, [], []), (.iconst 0, [], []), (.istore_n 2, [], []), (.nop, [16], [])]
theorem kX10_laysCrumbs_2 : chL mX10_laysCrumbs 2 bX10_laysCrumbs_2 = true := by decide +kernel
def bX10_laysCrumbs_16 : List AI := [(.iload_n 2, [], []), (.aload_n 0, [], []), (.getfield 13, [2, 10, 1, 1193], []), (.iconst 0, [], []), (.iaload, [0], []), (.if_icmp .ge 45, [68], []), (.aload_n 0, [], []), (.getfield 37, [2, 10, 19, 1211], []), (.iload_n 1, [], []), (.dup2, [0], []), (.iaload, [0], []), (.iload_n 1, [], []), (.aload_n 0, [], []), (.getfield 13, [2, 10, 1, 1193], []), (.iconst 3, [], []), (.iaload, [0], []), (.if_icmp .ge 19, [59], []), (.aload_n 0, [], []), (.getfield 13, [2, 10, 1, 1193], []), (.bipush 69, [], []), (.iconst 5, [], []), (.iload_n 2, [], []), (.imul, [], []), (.iadd, [], []), (.iload_n 1, [], []), (.iadd, [], []), (.iaload, [0], []), (.goto 4, [60], [])]
theorem kX10_laysCrumbs_16 : chL mX10_laysCrumbs 16 bX10_laysCrumbs_16 = true := by decide +kernel
def bX10_laysCrumbs_59 : List AI := [(.iconst 0, [], []), (.nop, [60], [])]
theorem kX10_laysCrumbs_59 : chL mX10_laysCrumbs 59 bX10_laysCrumbs_59 = true := by decide +kernel
def bX10_laysCrumbs_60 : List AI := [(.iadd, [], []), (.iastore, [], []), (.iinc 2 1, [], []), (.goto (-49), [16], [])]
theorem kX10_laysCrumbs_60 : chL mX10_laysCrumbs 60 bX10_laysCrumbs_60 = true := by decide +kernel
def bX10_laysCrumbs_68 : List AI := [(.iinc 1 1, [], []), (.goto (-69), [2], [])]
theorem kX10_laysCrumbs_68 : chL mX10_laysCrumbs 68 bX10_laysCrumbs_68 = true := by decide +kernel
def bX10_laysCrumbs_74 : List AI := [(.return_, [], [])]
theorem kX10_laysCrumbs_74 : chL mX10_laysCrumbs 74 bX10_laysCrumbs_74 = true := by decide +kernel
def bX10_sumOf_0 : List AI := [(.iconst 0, [], []), (.istore_n 2, [], []), (.iconst 0, [], []), (.istore_n 3, [], []), (.nop, [4], [])]
theorem kX10_sumOf_0 : chL mX10_sumOf 0 bX10_sumOf_0 = true := by decide +kernel
def bX10_sumOf_4 : List AI := [(.iload_n 3, [], []), (.aload_n 0, [], []), (.getfield 13, [2, 10, 1, 1193], []), (.iconst 0, [], []), (.iaload, [0], []), (.if_icmp .ge 20, [31], []), (.iload_n 2, [], []), (.aload_n 0, [], []), (.getfield 13, [2, 10, 1, 1193], []), (.iload_n 1, [], []), (.iload_n 3, [], []), (.iadd, [], []), (.iaload, [0], []), (.iadd, [], []), (.istore_n 2, [], []), (.iinc 3 1, [], []), (.goto (-24), [4], [])]
theorem kX10_sumOf_4 : chL mX10_sumOf 4 bX10_sumOf_4 = true := by decide +kernel
def bX10_sumOf_31 : List AI := [(.iload_n 2, [], []), (.ireturn, [0], [])]
theorem kX10_sumOf_31 : chL mX10_sumOf 31 bX10_sumOf_31 = true := by decide +kernel
def bX10_goesDays_0 : List AI := [(.aload_n 0, [], []), (.invokevirtual 320, [0, 0, 0, 0, 10, 1681, 1678, 1680, 81, 100], [mX10_laysCrumbs]), (.aload_n 0, [], []), (.iconst 0, [], []), (.putfield 323, [0, 10, 38, 1230], []), (.aload_n 0, [], []), (.iconst 0, [], []), (.putfield 326, [0, 10, 39, 1231], []), (.iconst 0, [], []), (.istore_n 2, [], []), (.aload_n 0, [], []), (.bipush 9, [], []), (.invokevirtual 329, [0, 1, 0, 0, 10, 1685, 1682, 1684, 82, 100], [mX10_sumOf]), (.istore_n 3, [], []), (.iconst 0, [], []), (.istore 4, [], []), (.nop, [26], [])]
theorem kX10_goesDays_0 : chL mX10_goesDays 0 bX10_goesDays_0 = true := by decide +kernel
def bX10_goesDays_26 : List AI := [(.iload 4, [], []), (.iload_n 1, [], []), (.if_icmp .ge 80, [109], []), (.aload_n 0, [], []), (.getfield 37, [2, 10, 19, 1211], []), (.iconst 0, [], []), (.dup2, [0], []), (.iaload, [0], []), (.aload_n 0, [], []), (.getfield 70, [2, 10, 33, 1225], []), (.iload 4, [], []), (.iaload, [0], []), (.aload_n 0, [], []), (.getfield 13, [2, 10, 1, 1193], []), (.bipush 6, [], []), (.iaload, [0], []), (.imul, [], []), (.iadd, [], []), (.iastore, [], []), (.aload_n 0, [], []), (.dup, [], []), (.getfield 323, [0, 10, 38, 1230], []), (.aload_n 0, [], []), (.aload_n 0, [], []), (.getfield 37, [2, 10, 19, 1211], []), (.iconst 0, [], []), (.iload_n 3, [], []), (.invokevirtual 251, [0, 3, 0, 0, 10, 1517, 1514, 1516, 65, 100], [mX10_lacks]), (.iadd, [], []), (.putfield 323, [0, 10, 38, 1230], []), (.aload_n 0, [], []), (.dup, [], []), (.getfield 326, [0, 10, 39, 1231], []), (.aload_n 0, [], []), (.aload_n 0, [], []), (.getfield 37, [2, 10, 19, 1211], []), (.iconst 0, [], []), (.invokevirtual 255, [0, 2, 0, 0, 10, 1521, 1518, 1520, 66, 100], [mX10_ages]), (.iadd, [], []), (.putfield 326, [0, 10, 39, 1231], []), (.iload_n 2, [], []), (.aload_n 0, [], []), (.getfield 70, [2, 10, 33, 1225], []), (.iload 4, [], []), (.iaload, [0], []), (.iadd, [], []), (.istore_n 2, [], []), (.iinc 4 1, [], []), (.goto (-80), [26], [])]
theorem kX10_goesDays_26 : chL mX10_goesDays 26 bX10_goesDays_26 = true := by decide +kernel
def bX10_goesDays_109 : List AI := [(.iload_n 2, [], []), (.ireturn, [0], [])]
theorem kX10_goesDays_109 : chL mX10_goesDays 109 bX10_goesDays_109 = true := by decide +kernel
def bX10_laysFires_0 : List AI := [(.iload_n 1, [], []), (.istore_n 3, [], []), (.iload_n 2, [], []), (.iconst 1, [], []), (.isub, [], []), (.istore 4, [], []), (.nop, [7], [])]
theorem kX10_laysFires_0 : chL mX10_laysFires 0 bX10_laysFires_0 = true := by decide +kernel
def bX10_laysFires_7 : List AI := [(.iload 4, [], []), (.ifCond .lt 23, [32], []), (.aload_n 0, [], []), (.getfield 70, [2, 10, 33, 1225], []), (.iload 4, [], []), (.iload_n 3, [], []), (.iconst 3, [], []), (.irem, [], []), (.iastore, [], []), (.iload_n 3, [], []), (.iconst 3, [], []), (.idiv, [], []), (.istore_n 3, [], []), (.iinc 4 (-1), [], []), (.goto (-22), [7], [])]
theorem kX10_laysFires_7 : chL mX10_laysFires 7 bX10_laysFires_7 = true := by decide +kernel
def bX10_laysFires_32 : List AI := [(.return_, [], [])]
theorem kX10_laysFires_32 : chL mX10_laysFires 32 bX10_laysFires_32 = true := by decide +kernel
def bX10_rowsOf_0 : List AI := [(.iconst 1, [], []), (.istore_n 2, [], []), (.iconst 0, [], []), (.istore_n 3, [], []), (.nop, [4], [])]
theorem kX10_rowsOf_0 : chL mX10_rowsOf 0 bX10_rowsOf_0 = true := by decide +kernel
def bX10_rowsOf_4 : List AI := [(.iload_n 3, [], []), (.iload_n 1, [], []), (.if_icmp .ge 13, [19], []), (.iload_n 2, [], []), (.iconst 3, [], []), (.imul, [], []), (.istore_n 2, [], []), (.iinc 3 1, [], []), (.goto (-12), [4], [])]
theorem kX10_rowsOf_4 : chL mX10_rowsOf 4 bX10_rowsOf_4 = true := by decide +kernel
def bX10_rowsOf_19 : List AI := [(.iload_n 2, [], []), (.ireturn, [0], [])]
theorem kX10_rowsOf_19 : chL mX10_rowsOf 19 bX10_rowsOf_19 = true := by decide +kernel
def bX10_ahead_0 : List AI := [(.aload_n 0, [], []), (.iconst 0, [], []), (.putfield 1, [0, 10, 0, 1192], []), (.iload_n 2, [], []), (.i2l, [], []), (.lconst 0, [], []), (.ldc2_w 240, [2, 1488], []), (.invokestatic 149, [0, 3, 0, 0, 1332, 1330, 1331, 100], [mX10_within]), (.ifCond .ne 20, [34], []), (.iload_n 2, [], []), (.i2l, [], []), (.ldc2_w 200, [10, 1418], []), (.ldc2_w 332, [16, 1664], []), (.invokestatic 149, [0, 3, 0, 0, 1332, 1330, 1331, 100], [mX10_within]), (.ifCond .ne 6, [34], []), (.bipush (-2), [], []), (.ireturn, [0], [])]
theorem kX10_ahead_0 : chL mX10_ahead 0 bX10_ahead_0 = true := by decide +kernel
def bX10_ahead_34 : List AI := [(.iload_n 1, [], []), (.i2l, [], []), (.lconst 1, [], []), (.ldc2_w 334, [7, 1665], []), (.invokestatic 149, [0, 3, 0, 0, 1332, 1330, 1331, 100], [mX10_within]), (.ifCond .ne 6, [49], []), (.bipush (-3), [], []), (.ireturn, [0], [])]
theorem kX10_ahead_34 : chL mX10_ahead 34 bX10_ahead_34 = true := by decide +kernel
def bX10_ahead_49 : List AI := [(.aload_n 0, [], []), (.getfield 13, [2, 10, 1, 1193], []), (.iconst 1, [], []), (.iaload, [0], []), (.ifCond .ne 6, [61], []), (.bipush (-5), [], []), (.ireturn, [0], [])]
theorem kX10_ahead_49 : chL mX10_ahead 49 bX10_ahead_49 = true := by decide +kernel
def bX10_ahead_61 : List AI := [(.aload_n 0, [], []), (.iconst (-1), [], []), (.putfield 336, [0, 10, 35, 1227], []), (.iconst 0, [], []), (.istore_n 3, [], []), (.nop, [68], [])]
theorem kX10_ahead_61 : chL mX10_ahead 61 bX10_ahead_61 = true := by decide +kernel
def bX10_ahead_68 : List AI := [(.iload_n 3, [], []), (.aload_n 0, [], []), (.iload_n 1, [], []), (.invokevirtual 339, [0, 1, 0, 0, 10, 1669, 1666, 1668, 78, 100], [mX10_rowsOf]), (.if_icmp .ge 137, [211], []), (.aload_n 0, [], []), (.iload_n 3, [], []), (.iload_n 1, [], []), (.invokevirtual 342, [0, 2, 0, 0, 10, 1673, 1670, 1672, 79, 100], [mX10_laysFires]), (.aload_n 0, [], []), (.iload_n 1, [], []), (.invokevirtual 345, [0, 1, 0, 0, 10, 1677, 1674, 1676, 80, 100], [mX10_goesDays]), (.istore 4, [], []), (.aload_n 0, [], []), (.getfield 336, [0, 10, 35, 1227], []), (.iconst (-1), [], []), (.if_icmp .eq 59, [154], []), (.aload_n 0, [], []), (.getfield 323, [0, 10, 38, 1230], []), (.aload_n 0, [], []), (.getfield 336, [0, 10, 35, 1227], []), (.if_icmp .gt 99, [205], []), (.aload_n 0, [], []), (.getfield 323, [0, 10, 38, 1230], []), (.aload_n 0, [], []), (.getfield 336, [0, 10, 35, 1227], []), (.if_icmp .ne 37, [154], []), (.aload_n 0, [], []), (.getfield 326, [0, 10, 39, 1231], []), (.aload_n 0, [], []), (.getfield 348, [0, 10, 36, 1228], []), (.if_icmp .gt 77, [205], []), (.aload_n 0, [], []), (.getfield 326, [0, 10, 39, 1231], []), (.aload_n 0, [], []), (.getfield 348, [0, 10, 36, 1228], []), (.if_icmp .ne 15, [154], []), (.iload 4, [], []), (.aload_n 0, [], []), (.getfield 351, [0, 10, 37, 1229], []), (.if_icmp .lt 6, [154], []), (.goto 54, [205], [])]
theorem kX10_ahead_68 : chL mX10_ahead 68 bX10_ahead_68 = true := by decide +kernel
def bX10_ahead_154 : List AI := [(.aload_n 0, [], []), (.aload_n 0, [], []), (.getfield 323, [0, 10, 38, 1230], []), (.putfield 336, [0, 10, 35, 1227], []), (.aload_n 0, [], []), (.aload_n 0, [], []), (.getfield 326, [0, 10, 39, 1231], []), (.putfield 348, [0, 10, 36, 1228], []), (.aload_n 0, [], []), (.iload 4, [], []), (.putfield 351, [0, 10, 37, 1229], []), (.iconst 0, [], []), (.istore 5, [], []), (.nop, [179], [])]
theorem kX10_ahead_154 : chL mX10_ahead 154 bX10_ahead_154 = true := by decide +kernel
def bX10_ahead_179 : List AI := [(.iload 5, [], []), (.iload_n 1, [], []), (.if_icmp .ge 23, [205], []), (.aload_n 0, [], []), (.getfield 73, [2, 10, 34, 1226], []), (.iload 5, [], []), (.aload_n 0, [], []), (.getfield 70, [2, 10, 33, 1225], []), (.iload 5, [], []), (.iaload, [0], []), (.iastore, [], []), (.iinc 5 1, [], []), (.goto (-23), [179], [])]
theorem kX10_ahead_179 : chL mX10_ahead 179 bX10_ahead_179 = true := by decide +kernel
def bX10_ahead_205 : List AI := [(.iinc 3 1, [], []), (.goto (-140), [68], [])]
theorem kX10_ahead_205 : chL mX10_ahead 205 bX10_ahead_205 = true := by decide +kernel
def bX10_ahead_211 : List AI := [(.iload_n 2, [], []), (.iconst 3, [], []), (.if_icmp .ge 31, [244], []), (.iload_n 2, [], []), (.ifCond .ne 10, [227], []), (.aload_n 0, [], []), (.getfield 336, [0, 10, 35, 1227], []), (.goto 19, [243], [])]
theorem kX10_ahead_211 : chL mX10_ahead 211 bX10_ahead_211 = true := by decide +kernel
def bX10_ahead_227 : List AI := [(.iload_n 2, [], []), (.iconst 1, [], []), (.if_icmp .ne 10, [239], []), (.aload_n 0, [], []), (.getfield 348, [0, 10, 36, 1228], []), (.goto 7, [243], [])]
theorem kX10_ahead_227 : chL mX10_ahead 227 bX10_ahead_227 = true := by decide +kernel
def bX10_ahead_239 : List AI := [(.aload_n 0, [], []), (.getfield 351, [0, 10, 37, 1229], []), (.nop, [243], [])]
theorem kX10_ahead_239 : chL mX10_ahead 239 bX10_ahead_239 = true := by decide +kernel
def bX10_ahead_243 : List AI := [(.ireturn, [0], [])]
theorem kX10_ahead_243 : chL mX10_ahead 243 bX10_ahead_243 = true := by decide +kernel
def bX10_ahead_244 : List AI := [(.iload_n 2, [], []), (.bipush 10, [], []), (.isub, [], []), (.iload_n 1, [], []), (.if_icmp .ge 15, [264], []), (.aload_n 0, [], []), (.getfield 73, [2, 10, 34, 1226], []), (.iload_n 2, [], []), (.bipush 10, [], []), (.isub, [], []), (.iaload, [0], []), (.goto 4, [265], [])]
theorem kX10_ahead_244 : chL mX10_ahead 244 bX10_ahead_244 = true := by decide +kernel
def bX10_ahead_264 : List AI := [(.iconst (-1), [], []), (.nop, [265], [])]
theorem kX10_ahead_264 : chL mX10_ahead 264 bX10_ahead_264 = true := by decide +kernel
def bX10_ahead_265 : List AI := [(.ireturn, [0], [])]
theorem kX10_ahead_265 : chL mX10_ahead 265 bX10_ahead_265 = true := by decide +kernel
def bX10_enough_0 : List AI := [(.aload_n 0, [], []), (.iconst 0, [], []), (.putfield 1, [0, 10, 0, 1192], []), (.iload_n 1, [], []), (.i2l, [], []), (.lconst 1, [], []), (.ldc2_w 334, [7, 1665], []), (.invokestatic 149, [0, 3, 0, 0, 1332, 1330, 1331, 100], [mX10_within]), (.ifCond .ne 6, [20], []), (.bipush (-3), [], []), (.ireturn, [0], [])]
theorem kX10_enough_0 : chL mX10_enough 0 bX10_enough_0 = true := by decide +kernel
def bX10_enough_20 : List AI := [(.aload_n 0, [], []), (.getfield 13, [2, 10, 1, 1193], []), (.iconst 1, [], []), (.iaload, [0], []), (.ifCond .ne 6, [32], []), (.bipush (-5), [], []), (.ireturn, [0], [])]
theorem kX10_enough_20 : chL mX10_enough 20 bX10_enough_20 = true := by decide +kernel
def bX10_enough_32 : List AI := [(.iconst (-1), [], []), (.istore_n 2, [], []), (.iconst 0, [], []), (.istore_n 3, [], []), (.nop, [36], [])]
theorem kX10_enough_32 : chL mX10_enough 32 bX10_enough_32 = true := by decide +kernel
def bX10_enough_36 : List AI := [(.iload_n 3, [], []), (.aload_n 0, [], []), (.iload_n 1, [], []), (.invokevirtual 339, [0, 1, 0, 0, 10, 1669, 1666, 1668, 78, 100], [mX10_rowsOf]), (.if_icmp .ge 43, [85], []), (.aload_n 0, [], []), (.iload_n 3, [], []), (.iload_n 1, [], []), (.invokevirtual 342, [0, 2, 0, 0, 10, 1673, 1670, 1672, 79, 100], [mX10_laysFires]), (.aload_n 0, [], []), (.iload_n 1, [], []), (.invokevirtual 345, [0, 1, 0, 0, 10, 1677, 1674, 1676, 80, 100], [mX10_goesDays]), (.istore 4, [], []), (.aload_n 0, [], []), (.getfield 323, [0, 10, 38, 1230], []), (.ifCond .ne 17, [79], []), (.iload_n 2, [], []), (.iconst (-1), [], []), (.if_icmp .eq 9, [76], []), (.iload 4, [], []), (.iload_n 2, [], []), (.if_icmp .ge 6, [79], []), (.nop, [76], [])]
theorem kX10_enough_36 : chL mX10_enough 36 bX10_enough_36 = true := by decide +kernel
def bX10_enough_76 : List AI := [(.iload 4, [], []), (.istore_n 2, [], []), (.nop, [79], [])]
theorem kX10_enough_76 : chL mX10_enough 76 bX10_enough_76 = true := by decide +kernel
def bX10_enough_79 : List AI := [(.iinc 3 1, [], []), (.goto (-46), [36], [])]
theorem kX10_enough_79 : chL mX10_enough 79 bX10_enough_79 = true := by decide +kernel
def bX10_enough_85 : List AI := [(.iload_n 2, [], []), (.ireturn, [0], [])]
theorem kX10_enough_85 : chL mX10_enough 85 bX10_enough_85 = true := by decide +kernel
def bX10_joins_0 : List AI := [(.aload_n 0, [], []), (.getfield 13, [2, 10, 1, 1193], []), (.iload_n 1, [], []), (.iload_n 2, [], []), (.iadd, [], []), (.iaload, [0], []), (.aload_n 0, [], []), (.getfield 13, [2, 10, 1, 1193], []), (.iload_n 1, [], []), (.iload_n 3, [], []), (.iadd, [], []), (.iaload, [0], []), (.iadd, [], []), (.istore 5, [], []), (.aload_n 0, [], []), (.getfield 13, [2, 10, 1, 1193], []), (.iload_n 1, [], []), (.iload_n 2, [], []), (.iadd, [], []), (.iload 4, [], []), (.iconst (-1), [], []), (.if_icmp .eq 15, [44], []), (.iload 5, [], []), (.iload 4, [], []), (.if_icmp .le 8, [44], []), (.iload 4, [], []), (.goto 5, [46], [])]
theorem kX10_joins_0 : chL mX10_joins 0 bX10_joins_0 = true := by decide +kernel
def bX10_joins_44 : List AI := [(.iload 5, [], []), (.nop, [46], [])]
theorem kX10_joins_44 : chL mX10_joins 44 bX10_joins_44 = true := by decide +kernel
def bX10_joins_46 : List AI := [(.iastore, [], []), (.return_, [], [])]
theorem kX10_joins_46 : chL mX10_joins 46 bX10_joins_46 = true := by decide +kernel
def bX10_closes_0 : List AI := [(.iload_n 2, [], []), (.istore_n 3, [], []), (.nop, [2], [])]
theorem kX10_closes_0 : chL mX10_closes 0 bX10_closes_0 = true := by decide +kernel
def bX10_closes_2 : List AI := [(.iload_n 3, [], []), (.bipush 9, [], []), (.if_icmp .ge 27, [32], []), (.aload_n 0, [], []), (.getfield 13, [2, 10, 1, 1193], []), (.iload_n 1, [], []), (.iload_n 3, [], []), (.iadd, [], []), (.aload_n 0, [], []), (.getfield 13, [2, 10, 1, 1193], []), (.iload_n 1, [], []), (.iload_n 3, [], []), (.iadd, [], []), (.iconst 1, [], []), (.iadd, [], []), (.iaload, [0], []), (.iastore, [], []), (.iinc 3 1, [], []), (.goto (-27), [2], [])]
theorem kX10_closes_2 : chL mX10_closes 2 bX10_closes_2 = true := by decide +kernel
def bX10_closes_32 : List AI := [(.aload_n 0, [], []), (.getfield 13, [2, 10, 1, 1193], []), (.iload_n 1, [], []), (.bipush 10, [], []), (.iadd, [], []), (.iconst 1, [], []), (.isub, [], []), (.iconst 0, [], []), (.iastore, [], []), (.return_, [], [])]
theorem kX10_closes_32 : chL mX10_closes 32 bX10_closes_32 = true := by decide +kernel
def bX10_closesTwice_0 : List AI := [(.iconst 0, [], []), (.istore_n 3, [], []), (.nop, [2], [])]
theorem kX10_closesTwice_0 : chL mX10_closesTwice 0 bX10_closesTwice_0 = true := by decide +kernel
def bX10_closesTwice_2 : List AI := [(.iload_n 3, [], []), (.bipush 10, [], []), (.if_icmp .ge 20, [25], []), (.aload_n 0, [], []), (.iload_n 1, [], []), (.bipush 10, [], []), (.iload_n 3, [], []), (.imul, [], []), (.iadd, [], []), (.iload_n 2, [], []), (.invokevirtual 354, [0, 2, 0, 0, 10, 1705, 1702, 1704, 85, 100], [mX10_closes]), (.iinc 3 1, [], []), (.goto (-20), [2], [])]
theorem kX10_closesTwice_2 : chL mX10_closesTwice 2 bX10_closesTwice_2 = true := by decide +kernel
def bX10_closesTwice_25 : List AI := [(.iload_n 2, [], []), (.istore_n 3, [], []), (.nop, [27], [])]
theorem kX10_closesTwice_25 : chL mX10_closesTwice 25 bX10_closesTwice_25 = true := by decide +kernel
def bX10_closesTwice_27 : List AI := [(.iload_n 3, [], []), (.bipush 10, [], []), (.if_icmp .ge 66, [96], []), (.iconst 0, [], []), (.istore 4, [], []), (.nop, [36], [])]
theorem kX10_closesTwice_27 : chL mX10_closesTwice 27 bX10_closesTwice_27 = true := by decide +kernel
def bX10_closesTwice_36 : List AI := [(.iload 4, [], []), (.bipush 10, [], []), (.if_icmp .ge 50, [90], []), (.aload_n 0, [], []), (.getfield 13, [2, 10, 1, 1193], []), (.iload_n 1, [], []), (.bipush 10, [], []), (.iload_n 3, [], []), (.imul, [], []), (.iadd, [], []), (.iload 4, [], []), (.iadd, [], []), (.iload_n 3, [], []), (.bipush 9, [], []), (.if_icmp .ge 23, [82], []), (.aload_n 0, [], []), (.getfield 13, [2, 10, 1, 1193], []), (.iload_n 1, [], []), (.bipush 10, [], []), (.iload_n 3, [], []), (.imul, [], []), (.iadd, [], []), (.bipush 10, [], []), (.iadd, [], []), (.iload 4, [], []), (.iadd, [], []), (.iaload, [0], []), (.goto 4, [83], [])]
theorem kX10_closesTwice_36 : chL mX10_closesTwice 36 bX10_closesTwice_36 = true := by decide +kernel
def bX10_closesTwice_82 : List AI := [(.iconst 0, [], []), (.nop, [83], [])]
theorem kX10_closesTwice_82 : chL mX10_closesTwice 82 bX10_closesTwice_82 = true := by decide +kernel
def bX10_closesTwice_83 : List AI := [(.iastore, [], []), (.iinc 4 1, [], []), (.goto (-51), [36], [])]
theorem kX10_closesTwice_83 : chL mX10_closesTwice 83 bX10_closesTwice_83 = true := by decide +kernel
def bX10_closesTwice_90 : List AI := [(.iinc 3 1, [], []), (.goto (-66), [27], [])]
theorem kX10_closesTwice_90 : chL mX10_closesTwice 90 bX10_closesTwice_90 = true := by decide +kernel
def bX10_closesTwice_96 : List AI := [(.return_, [], [])]
theorem kX10_closesTwice_96 : chL mX10_closesTwice 96 bX10_closesTwice_96 = true := by decide +kernel
def bX10_weds_0 : List AI := [(.aload_n 0, [], []), (.bipush 9, [], []), (.iload_n 1, [], []), (.iload_n 2, [], []), (.bipush 30, [], []), (.invokevirtual 357, [0, 4, 0, 0, 10, 1701, 1698, 1700, 84, 100], [mX10_joins]), (.aload_n 0, [], []), (.bipush 19, [], []), (.iload_n 1, [], []), (.iload_n 2, [], []), (.sipush 999, [], []), (.invokevirtual 357, [0, 4, 0, 0, 10, 1701, 1698, 1700, 84, 100], [mX10_joins]), (.aload_n 0, [], []), (.bipush 29, [], []), (.iload_n 1, [], []), (.iload_n 2, [], []), (.bipush 99, [], []), (.invokevirtual 357, [0, 4, 0, 0, 10, 1701, 1698, 1700, 84, 100], [mX10_joins]), (.aload_n 0, [], []), (.bipush 39, [], []), (.iload_n 1, [], []), (.iload_n 2, [], []), (.iconst (-1), [], []), (.invokevirtual 357, [0, 4, 0, 0, 10, 1701, 1698, 1700, 84, 100], [mX10_joins]), (.aload_n 0, [], []), (.bipush 49, [], []), (.iload_n 1, [], []), (.iload_n 2, [], []), (.iconst (-1), [], []), (.invokevirtual 357, [0, 4, 0, 0, 10, 1701, 1698, 1700, 84, 100], [mX10_joins]), (.aload_n 0, [], []), (.bipush 59, [], []), (.iload_n 1, [], []), (.iload_n 2, [], []), (.iconst (-1), [], []), (.invokevirtual 357, [0, 4, 0, 0, 10, 1701, 1698, 1700, 84, 100], [mX10_joins]), (.iconst 0, [], []), (.istore_n 3, [], []), (.nop, [60], [])]
theorem kX10_weds_0 : chL mX10_weds 0 bX10_weds_0 = true := by decide +kernel
def bX10_weds_60 : List AI := [(.iload_n 3, [], []), (.iconst 5, [], []), (.if_icmp .ge 25, [87], []), (.aload_n 0, [], []), (.bipush 69, [], []), (.iload_n 3, [], []), (.iadd, [], []), (.iconst 5, [], []), (.iload_n 1, [], []), (.imul, [], []), (.iconst 5, [], []), (.iload_n 2, [], []), (.imul, [], []), (.bipush 99, [], []), (.invokevirtual 357, [0, 4, 0, 0, 10, 1701, 1698, 1700, 84, 100], [mX10_joins]), (.iinc 3 1, [], []), (.goto (-24), [60], [])]
theorem kX10_weds_60 : chL mX10_weds 60 bX10_weds_60 = true := by decide +kernel
def bX10_weds_87 : List AI := [(.aload_n 0, [], []), (.getfield 13, [2, 10, 1, 1193], []), (.sipush 219, [], []), (.bipush 10, [], []), (.iload_n 1, [], []), (.imul, [], []), (.iadd, [], []), (.iload_n 2, [], []), (.iadd, [], []), (.iconst 0, [], []), (.iastore, [], []), (.aload_n 0, [], []), (.getfield 13, [2, 10, 1, 1193], []), (.sipush 219, [], []), (.bipush 10, [], []), (.iload_n 2, [], []), (.imul, [], []), (.iadd, [], []), (.iload_n 1, [], []), (.iadd, [], []), (.iconst 0, [], []), (.iastore, [], []), (.iconst 0, [], []), (.istore_n 3, [], []), (.nop, [121], [])]
theorem kX10_weds_87 : chL mX10_weds 87 bX10_weds_87 = true := by decide +kernel
def bX10_weds_121 : List AI := [(.iload_n 3, [], []), (.aload_n 0, [], []), (.getfield 13, [2, 10, 1, 1193], []), (.iconst 0, [], []), (.iaload, [0], []), (.if_icmp .ge 109, [237], []), (.iload_n 3, [], []), (.iload_n 1, [], []), (.if_icmp .eq 98, [231], []), (.iload_n 3, [], []), (.iload_n 2, [], []), (.if_icmp .ne 6, [144], []), (.goto 90, [231], [])]
theorem kX10_weds_121 : chL mX10_weds 121 bX10_weds_121 = true := by decide +kernel
def bX10_weds_144 : List AI := [(.aload_n 0, [], []), (.getfield 13, [2, 10, 1, 1193], []), (.sipush 219, [], []), (.bipush 10, [], []), (.iload_n 1, [], []), (.imul, [], []), (.iadd, [], []), (.iload_n 3, [], []), (.iadd, [], []), (.dup2, [0], []), (.iaload, [0], []), (.aload_n 0, [], []), (.getfield 13, [2, 10, 1, 1193], []), (.sipush 219, [], []), (.bipush 10, [], []), (.iload_n 2, [], []), (.imul, [], []), (.iadd, [], []), (.iload_n 3, [], []), (.iadd, [], []), (.iaload, [0], []), (.iadd, [], []), (.iastore, [], []), (.aload_n 0, [], []), (.getfield 13, [2, 10, 1, 1193], []), (.sipush 219, [], []), (.bipush 10, [], []), (.iload_n 3, [], []), (.imul, [], []), (.iadd, [], []), (.iload_n 1, [], []), (.iadd, [], []), (.dup2, [0], []), (.iaload, [0], []), (.aload_n 0, [], []), (.getfield 13, [2, 10, 1, 1193], []), (.sipush 219, [], []), (.bipush 10, [], []), (.iload_n 3, [], []), (.imul, [], []), (.iadd, [], []), (.iload_n 2, [], []), (.iadd, [], []), (.iaload, [0], []), (.iadd, [], []), (.iastore, [], []), (.aload_n 0, [], []), (.iload_n 2, [], []), (.iload_n 3, [], []), (.invokevirtual 205, [0, 2, 0, 0, 10, 1434, 1431, 1433, 54, 100], [mX10_quarrels]), (.ifCond .eq 15, [231], []), (.aload_n 0, [], []), (.getfield 13, [2, 10, 1, 1193], []), (.bipush 119, [], []), (.iload_n 1, [], []), (.iload_n 3, [], []), (.iconst 1, [], []), (.invokestatic 165, [0, 5, 0, 0, 1393, 1391, 1392, 100], [mX10_sets]), (.nop, [231], [])]
theorem kX10_weds_144 : chL mX10_weds 144 bX10_weds_144 = true := by decide +kernel
def bX10_weds_231 : List AI := [(.iinc 3 1, [], []), (.goto (-113), [121], [])]
theorem kX10_weds_231 : chL mX10_weds 231 bX10_weds_231 = true := by decide +kernel
def bX10_weds_237 : List AI := [(.aload_n 0, [], []), (.bipush 9, [], []), (.iload_n 2, [], []), (.invokevirtual 354, [0, 2, 0, 0, 10, 1705, 1702, 1704, 85, 100], [mX10_closes]), (.aload_n 0, [], []), (.bipush 19, [], []), (.iload_n 2, [], []), (.invokevirtual 354, [0, 2, 0, 0, 10, 1705, 1702, 1704, 85, 100], [mX10_closes]), (.aload_n 0, [], []), (.bipush 29, [], []), (.iload_n 2, [], []), (.invokevirtual 354, [0, 2, 0, 0, 10, 1705, 1702, 1704, 85, 100], [mX10_closes]), (.aload_n 0, [], []), (.bipush 39, [], []), (.iload_n 2, [], []), (.invokevirtual 354, [0, 2, 0, 0, 10, 1705, 1702, 1704, 85, 100], [mX10_closes]), (.aload_n 0, [], []), (.bipush 49, [], []), (.iload_n 2, [], []), (.invokevirtual 354, [0, 2, 0, 0, 10, 1705, 1702, 1704, 85, 100], [mX10_closes]), (.aload_n 0, [], []), (.bipush 59, [], []), (.iload_n 2, [], []), (.invokevirtual 354, [0, 2, 0, 0, 10, 1705, 1702, 1704, 85, 100], [mX10_closes]), (.iconst 5, [], []), (.iload_n 2, [], []), (.imul, [], []), (.istore_n 3, [], []), (.nop, [283], [])]
theorem kX10_weds_237 : chL mX10_weds 237 bX10_weds_237 = true := by decide +kernel
def bX10_weds_283 : List AI := [(.iload_n 3, [], []), (.bipush 50, [], []), (.if_icmp .ge 39, [325], []), (.aload_n 0, [], []), (.getfield 13, [2, 10, 1, 1193], []), (.bipush 69, [], []), (.iload_n 3, [], []), (.iadd, [], []), (.iload_n 3, [], []), (.bipush 45, [], []), (.if_icmp .ge 17, [317], []), (.aload_n 0, [], []), (.getfield 13, [2, 10, 1, 1193], []), (.bipush 69, [], []), (.iload_n 3, [], []), (.iadd, [], []), (.iconst 5, [], []), (.iadd, [], []), (.iaload, [0], []), (.goto 4, [318], [])]
theorem kX10_weds_283 : chL mX10_weds 283 bX10_weds_283 = true := by decide +kernel
def bX10_weds_317 : List AI := [(.iconst 0, [], []), (.nop, [318], [])]
theorem kX10_weds_317 : chL mX10_weds 317 bX10_weds_317 = true := by decide +kernel
def bX10_weds_318 : List AI := [(.iastore, [], []), (.iinc 3 1, [], []), (.goto (-39), [283], [])]
theorem kX10_weds_318 : chL mX10_weds 318 bX10_weds_318 = true := by decide +kernel
def bX10_weds_325 : List AI := [(.aload_n 0, [], []), (.sipush 219, [], []), (.iload_n 2, [], []), (.invokevirtual 361, [0, 2, 0, 0, 10, 1709, 1706, 1708, 86, 100], [mX10_closesTwice]), (.aload_n 0, [], []), (.bipush 119, [], []), (.iload_n 2, [], []), (.invokevirtual 361, [0, 2, 0, 0, 10, 1709, 1706, 1708, 86, 100], [mX10_closesTwice]), (.aload_n 0, [], []), (.getfield 13, [2, 10, 1, 1193], []), (.iconst 0, [], []), (.dup2, [0], []), (.iaload, [0], []), (.iconst 1, [], []), (.isub, [], []), (.iastore, [], []), (.return_, [], [])]
theorem kX10_weds_325 : chL mX10_weds 325 bX10_weds_325 = true := by decide +kernel
def bX10_marry_0 : List AI := [(.aload_n 0, [], []), (.iconst 0, [], []), (.putfield 1, [0, 10, 0, 1192], []), (.aload_n 0, [], []), (.iload_n 1, [], []), (.iload_n 2, [], []), (.invokevirtual 209, [0, 2, 0, 0, 10, 1442, 1439, 1441, 55, 100], [mX10_areTwo]), (.ifCond .ne 6, [17], []), (.bipush (-2), [], []), (.ireturn, [0], [])]
theorem kX10_marry_0 : chL mX10_marry 0 bX10_marry_0 = true := by decide +kernel
def bX10_marry_17 : List AI := [(.aload_n 0, [], []), (.iload_n 1, [], []), (.iload_n 2, [], []), (.invokevirtual 205, [0, 2, 0, 0, 10, 1434, 1431, 1433, 54, 100], [mX10_quarrels]), (.ifCond .eq 6, [29], []), (.bipush (-5), [], []), (.ireturn, [0], [])]
theorem kX10_marry_17 : chL mX10_marry 17 bX10_marry_17 = true := by decide +kernel
def bX10_marry_29 : List AI := [(.aload_n 0, [], []), (.iload_n 1, [], []), (.iload_n 2, [], []), (.if_icmp .ge 7, [39], []), (.iload_n 1, [], []), (.goto 4, [40], [])]
theorem kX10_marry_29 : chL mX10_marry 29 bX10_marry_29 = true := by decide +kernel
def bX10_marry_39 : List AI := [(.iload_n 2, [], []), (.nop, [40], [])]
theorem kX10_marry_39 : chL mX10_marry 39 bX10_marry_39 = true := by decide +kernel
def bX10_marry_40 : List AI := [(.iload_n 1, [], []), (.iload_n 2, [], []), (.if_icmp .ge 7, [49], []), (.iload_n 2, [], []), (.goto 4, [50], [])]
theorem kX10_marry_40 : chL mX10_marry 40 bX10_marry_40 = true := by decide +kernel
def bX10_marry_49 : List AI := [(.iload_n 1, [], []), (.nop, [50], [])]
theorem kX10_marry_49 : chL mX10_marry 49 bX10_marry_49 = true := by decide +kernel
def bX10_marry_50 : List AI := [(.invokevirtual 364, [0, 2, 0, 0, 10, 1697, 1694, 1696, 83, 100], [mX10_weds]), (.aload_n 0, [], []), (.getfield 13, [2, 10, 1, 1193], []), (.iconst 0, [], []), (.iaload, [0], []), (.ireturn, [0], [])]
theorem kX10_marry_50 : chL mX10_marry 50 bX10_marry_50 = true := by decide +kernel
def bX10_cut_0 : List AI := [(.iload_n 2, [], []), (.ifCond .ne 10, [11], []), (.lload_n 0, [], []), (.l2i, [], []), (.i2b, [], []), (.i2l, [], []), (.goto 27, [35], [])]
theorem kX10_cut_0 : chL mX10_cut 0 bX10_cut_0 = true := by decide +kernel
def bX10_cut_11 : List AI := [(.iload_n 2, [], []), (.iconst 1, [], []), (.if_icmp .ne 10, [23], []), (.lload_n 0, [], []), (.l2i, [], []), (.i2s, [], []), (.i2l, [], []), (.goto 15, [35], [])]
theorem kX10_cut_11 : chL mX10_cut 11 bX10_cut_11 = true := by decide +kernel
def bX10_cut_23 : List AI := [(.iload_n 2, [], []), (.iconst 2, [], []), (.if_icmp .ne 9, [34], []), (.lload_n 0, [], []), (.l2i, [], []), (.i2l, [], []), (.goto 4, [35], [])]
theorem kX10_cut_23 : chL mX10_cut 23 bX10_cut_23 = true := by decide +kernel
def bX10_cut_34 : List AI := [(.lload_n 0, [], []), (.nop, [35], [])]
theorem kX10_cut_34 : chL mX10_cut 34 bX10_cut_34 = true := by decide +kernel
def bX10_cut_35 : List AI := [(.lreturn, [], [])]
theorem kX10_cut_35 : chL mX10_cut 35 bX10_cut_35 = true := by decide +kernel
def bX10_numbers_0 : List AI := [(.aload_n 0, [], []), (.iconst 0, [], []), (.putfield 1, [0, 10, 0, 1192], []), (.iload_n 1, [], []), (.i2l, [], []), (.lconst 0, [], []), (.ldc2_w 214, [3, 1456], []), (.invokestatic 149, [0, 3, 0, 0, 1332, 1330, 1331, 100], [mX10_within]), (.ifCond .eq 15, [29], []), (.iload_n 2, [], []), (.i2l, [], []), (.lconst 0, [], []), (.ldc2_w 214, [3, 1456], []), (.invokestatic 149, [0, 3, 0, 0, 1332, 1330, 1331, 100], [mX10_within]), (.ifCond .ne 6, [32], []), (.nop, [29], [])]
theorem kX10_numbers_0 : chL mX10_numbers 0 bX10_numbers_0 = true := by decide +kernel
def bX10_numbers_29 : List AI := [(.bipush (-2), [], []), (.ireturn, [0], [])]
theorem kX10_numbers_29 : chL mX10_numbers 29 bX10_numbers_29 = true := by decide +kernel
def bX10_numbers_32 : List AI := [(.iload_n 3, [], []), (.i2l, [], []), (.lconst 0, [], []), (.ldc2_w 367, [40, 1714], []), (.invokestatic 149, [0, 3, 0, 0, 1332, 1330, 1331, 100], [mX10_within]), (.ifCond .ne 6, [47], []), (.bipush (-3), [], []), (.ireturn, [0], [])]
theorem kX10_numbers_32 : chL mX10_numbers 32 bX10_numbers_32 = true := by decide +kernel
def bX10_numbers_47 : List AI := [(.aload_n 0, [], []), (.getfield 76, [2, 10, 40, 1232], []), (.iload_n 1, [], []), (.iload_n 2, [], []), (.iastore, [], []), (.aload_n 0, [], []), (.getfield 79, [2, 10, 41, 1233], []), (.iload_n 1, [], []), (.iload_n 3, [], []), (.iastore, [], []), (.iconst 0, [], []), (.istore 4, [], []), (.nop, [64], [])]
theorem kX10_numbers_47 : chL mX10_numbers 47 bX10_numbers_47 = true := by decide +kernel
def bX10_numbers_64 : List AI := [(.iload 4, [], []), (.iload_n 3, [], []), (.if_icmp .ge 22, [89], []), (.aload_n 0, [], []), (.getfield 82, [2, 10, 42, 1234], []), (.bipush 40, [], []), (.iload_n 1, [], []), (.imul, [], []), (.iload 4, [], []), (.iadd, [], []), (.lconst 0, [], []), (.lastore, [], []), (.iinc 4 1, [], []), (.goto (-22), [64], [])]
theorem kX10_numbers_64 : chL mX10_numbers 64 bX10_numbers_64 = true := by decide +kernel
def bX10_numbers_89 : List AI := [(.iconst 0, [], []), (.ireturn, [0], [])]
theorem kX10_numbers_89 : chL mX10_numbers 89 bX10_numbers_89 = true := by decide +kernel
def bX10_write_0 : List AI := [(.aload_n 0, [], []), (.iconst 0, [], []), (.putfield 1, [0, 10, 0, 1192], []), (.iload_n 1, [], []), (.i2l, [], []), (.lconst 0, [], []), (.ldc2_w 214, [3, 1456], []), (.invokestatic 149, [0, 3, 0, 0, 1332, 1330, 1331, 100], [mX10_within]), (.ifCond .ne 7, [21], []), (.ldc2_w 369, [18446744073709551614, 1719], []), (.lreturn, [], [])]
theorem kX10_write_0 : chL mX10_write 0 bX10_write_0 = true := by decide +kernel
def bX10_write_21 : List AI := [(.aload_n 0, [], []), (.getfield 76, [2, 10, 40, 1232], []), (.iload_n 1, [], []), (.iaload, [0], []), (.iconst (-1), [], []), (.if_icmp .ne 7, [35], []), (.ldc2_w 371, [18446744073709551610, 1720], []), (.lreturn, [], [])]
theorem kX10_write_21 : chL mX10_write 21 bX10_write_21 = true := by decide +kernel
def bX10_write_35 : List AI := [(.iload_n 2, [], []), (.i2l, [], []), (.lconst 0, [], []), (.aload_n 0, [], []), (.getfield 79, [2, 10, 41, 1233], []), (.iload_n 1, [], []), (.iaload, [0], []), (.iconst 1, [], []), (.isub, [], []), (.i2l, [], []), (.invokestatic 149, [0, 3, 0, 0, 1332, 1330, 1331, 100], [mX10_within]), (.ifCond .ne 7, [57], []), (.ldc2_w 373, [18446744073709551609, 1721], []), (.lreturn, [], [])]
theorem kX10_write_35 : chL mX10_write 35 bX10_write_35 = true := by decide +kernel
def bX10_write_57 : List AI := [(.aload_n 0, [], []), (.getfield 82, [2, 10, 42, 1234], []), (.bipush 40, [], []), (.iload_n 1, [], []), (.imul, [], []), (.iload_n 2, [], []), (.iadd, [], []), (.lload_n 3, [], []), (.aload_n 0, [], []), (.getfield 76, [2, 10, 40, 1232], []), (.iload_n 1, [], []), (.iaload, [0], []), (.invokestatic 375, [0, 2, 0, 0, 1724, 1722, 1723, 100], [mX10_cut]), (.lastore, [], []), (.aload_n 0, [], []), (.getfield 82, [2, 10, 42, 1234], []), (.bipush 40, [], []), (.iload_n 1, [], []), (.imul, [], []), (.iload_n 2, [], []), (.iadd, [], []), (.laload, [], []), (.lreturn, [], [])]
theorem kX10_write_57 : chL mX10_write 57 bX10_write_57 = true := by decide +kernel
def bX10_copy_0 : List AI := [(.aload_n 0, [], []), (.iconst 0, [], []), (.putfield 1, [0, 10, 0, 1192], []), (.iload_n 1, [], []), (.i2l, [], []), (.lconst 0, [], []), (.ldc2_w 214, [3, 1456], []), (.invokestatic 149, [0, 3, 0, 0, 1332, 1330, 1331, 100], [mX10_within]), (.ifCond .ne 6, [20], []), (.bipush (-2), [], []), (.ireturn, [0], [])]
theorem kX10_copy_0 : chL mX10_copy 0 bX10_copy_0 = true := by decide +kernel
def bX10_copy_20 : List AI := [(.aload_n 0, [], []), (.getfield 76, [2, 10, 40, 1232], []), (.iload_n 1, [], []), (.iaload, [0], []), (.iconst (-1), [], []), (.if_icmp .ne 6, [33], []), (.bipush (-6), [], []), (.ireturn, [0], [])]
theorem kX10_copy_20 : chL mX10_copy 20 bX10_copy_20 = true := by decide +kernel
def bX10_copy_33 : List AI := [(.aload_n 0, [], []), (.getfield 79, [2, 10, 41, 1233], []), (.iload_n 1, [], []), (.iaload, [0], []), (.aload_n 0, [], []), (.getfield 13, [2, 10, 1, 1193], []), (.iconst 0, [], []), (.iaload, [0], []), (.if_icmp .ge 6, [51], []), (.bipush (-7), [], []), (.ireturn, [0], [])]
theorem kX10_copy_33 : chL mX10_copy 33 bX10_copy_33 = true := by decide +kernel
def bX10_copy_51 : List AI := [(.iconst 0, [], []), (.istore_n 2, [], []), (.nop, [53], [])]
theorem kX10_copy_51 : chL mX10_copy 51 bX10_copy_51 = true := by decide +kernel
def bX10_copy_53 : List AI := [(.iload_n 2, [], []), (.aload_n 0, [], []), (.getfield 13, [2, 10, 1, 1193], []), (.iconst 0, [], []), (.iaload, [0], []), (.if_icmp .ge 30, [90], []), (.aload_n 0, [], []), (.getfield 82, [2, 10, 42, 1234], []), (.bipush 40, [], []), (.iload_n 1, [], []), (.imul, [], []), (.iload_n 2, [], []), (.iadd, [], []), (.aload_n 0, [], []), (.getfield 13, [2, 10, 1, 1193], []), (.bipush 29, [], []), (.iload_n 2, [], []), (.iadd, [], []), (.iaload, [0], []), (.i2l, [], []), (.lastore, [], []), (.iinc 2 1, [], []), (.goto (-34), [53], [])]
theorem kX10_copy_53 : chL mX10_copy 53 bX10_copy_53 = true := by decide +kernel
def bX10_copy_90 : List AI := [(.aload_n 0, [], []), (.getfield 13, [2, 10, 1, 1193], []), (.iconst 0, [], []), (.iaload, [0], []), (.ireturn, [0], [])]
theorem kX10_copy_90 : chL mX10_copy 90 bX10_copy_90 = true := by decide +kernel
def bX10_image_0 : List AI := [(.aload_n 0, [], []), (.iconst 0, [], []), (.putfield 1, [0, 10, 0, 1192], []), (.iload_n 1, [], []), (.i2l, [], []), (.lconst 0, [], []), (.lconst 1, [], []), (.invokestatic 149, [0, 3, 0, 0, 1332, 1330, 1331, 100], [mX10_within]), (.ifCond .ne 6, [18], []), (.bipush (-2), [], []), (.ireturn, [0], [])]
theorem kX10_image_0 : chL mX10_image 0 bX10_image_0 = true := by decide +kernel
def bX10_image_18 : List AI := [(.iconst 0, [], []), (.istore_n 2, [], []), (.nop, [20], [])]
theorem kX10_image_18 : chL mX10_image 18 bX10_image_18 = true := by decide +kernel
def bX10_image_20 : List AI := [(.iload_n 2, [], []), (.sipush 319, [], []), (.if_icmp .ge 29, [53], []), (.aload_n 0, [], []), (.getfield 13, [2, 10, 1, 1193], []), (.sipush 319, [], []), (.iload_n 1, [], []), (.iconst 1, [], []), (.iadd, [], []), (.imul, [], []), (.iload_n 2, [], []), (.iadd, [], []), (.aload_n 0, [], []), (.getfield 13, [2, 10, 1, 1193], []), (.iload_n 2, [], []), (.iaload, [0], []), (.iastore, [], []), (.iinc 2 1, [], []), (.goto (-30), [20], [])]
theorem kX10_image_20 : chL mX10_image 20 bX10_image_20 = true := by decide +kernel
def bX10_image_53 : List AI := [(.aload_n 0, [], []), (.getfield 17, [2, 10, 2, 1194], []), (.iload_n 1, [], []), (.iconst 1, [], []), (.bastore, [4], []), (.iconst 0, [], []), (.ireturn, [0], [])]
theorem kX10_image_53 : chL mX10_image 53 bX10_image_53 = true := by decide +kernel
def bX10_restore_0 : List AI := [(.aload_n 0, [], []), (.iconst 0, [], []), (.putfield 1, [0, 10, 0, 1192], []), (.iload_n 1, [], []), (.i2l, [], []), (.lconst 0, [], []), (.lconst 1, [], []), (.invokestatic 149, [0, 3, 0, 0, 1332, 1330, 1331, 100], [mX10_within]), (.ifCond .ne 6, [18], []), (.bipush (-2), [], []), (.ireturn, [0], [])]
theorem kX10_restore_0 : chL mX10_restore 0 bX10_restore_0 = true := by decide +kernel
def bX10_restore_18 : List AI := [(.aload_n 0, [], []), (.getfield 17, [2, 10, 2, 1194], []), (.iload_n 1, [], []), (.baload, [4], []), (.ifCond .ne 6, [30], []), (.bipush (-5), [], []), (.ireturn, [0], [])]
theorem kX10_restore_18 : chL mX10_restore 18 bX10_restore_18 = true := by decide +kernel
def bX10_restore_30 : List AI := [(.iconst 0, [], []), (.istore_n 2, [], []), (.nop, [32], [])]
theorem kX10_restore_30 : chL mX10_restore 30 bX10_restore_30 = true := by decide +kernel
def bX10_restore_32 : List AI := [(.iload_n 2, [], []), (.sipush 319, [], []), (.if_icmp .ge 29, [65], []), (.aload_n 0, [], []), (.getfield 13, [2, 10, 1, 1193], []), (.iload_n 2, [], []), (.aload_n 0, [], []), (.getfield 13, [2, 10, 1, 1193], []), (.sipush 319, [], []), (.iload_n 1, [], []), (.iconst 1, [], []), (.iadd, [], []), (.imul, [], []), (.iload_n 2, [], []), (.iadd, [], []), (.iaload, [0], []), (.iastore, [], []), (.iinc 2 1, [], []), (.goto (-30), [32], [])]
theorem kX10_restore_32 : chL mX10_restore 32 bX10_restore_32 = true := by decide +kernel
def bX10_restore_65 : List AI := [(.iconst 0, [], []), (.ireturn, [0], [])]
theorem kX10_restore_65 : chL mX10_restore 65 bX10_restore_65 = true := by decide +kernel
def bX10_breadAll_0 : List AI := [(.iconst 0, [], []), (.istore_n 1, [], []), (.iconst 0, [], []), (.istore_n 2, [], []), (.nop, [4], [])]
theorem kX10_breadAll_0 : chL mX10_breadAll 0 bX10_breadAll_0 = true := by decide +kernel
def bX10_breadAll_4 : List AI := [(.iload_n 2, [], []), (.aload_n 0, [], []), (.getfield 13, [2, 10, 1, 1193], []), (.iconst 0, [], []), (.iaload, [0], []), (.if_icmp .ge 17, [28], []), (.iload_n 1, [], []), (.aload_n 0, [], []), (.iload_n 2, [], []), (.invokevirtual 194, [0, 1, 0, 0, 10, 1409, 1406, 1408, 50, 100], [mX10_breadOf]), (.iadd, [], []), (.istore_n 1, [], []), (.iinc 2 1, [], []), (.goto (-21), [4], [])]
theorem kX10_breadAll_4 : chL mX10_breadAll 4 bX10_breadAll_4 = true := by decide +kernel
def bX10_breadAll_28 : List AI := [(.iload_n 1, [], []), (.ireturn, [0], [])]
theorem kX10_breadAll_28 : chL mX10_breadAll 28 bX10_breadAll_28 = true := by decide +kernel
def bX10_debtAll_0 : List AI := [(.iconst 0, [], []), (.istore_n 1, [], []), (.iconst 0, [], []), (.istore_n 2, [], []), (.nop, [4], [])]
theorem kX10_debtAll_0 : chL mX10_debtAll 0 bX10_debtAll_0 = true := by decide +kernel
def bX10_debtAll_4 : List AI := [(.iload_n 2, [], []), (.bipush 100, [], []), (.if_icmp .ge 22, [29], []), (.iload_n 1, [], []), (.aload_n 0, [], []), (.getfield 13, [2, 10, 1, 1193], []), (.sipush 219, [], []), (.iload_n 2, [], []), (.iadd, [], []), (.iaload, [0], []), (.iadd, [], []), (.istore_n 1, [], []), (.iinc 2 1, [], []), (.goto (-22), [4], [])]
theorem kX10_debtAll_4 : chL mX10_debtAll 4 bX10_debtAll_4 = true := by decide +kernel
def bX10_debtAll_29 : List AI := [(.iload_n 1, [], []), (.ireturn, [0], [])]
theorem kX10_debtAll_29 : chL mX10_debtAll 29 bX10_debtAll_29 = true := by decide +kernel
def bX10_count_0 : List AI := [(.aload_n 0, [], []), (.iconst 0, [], []), (.putfield 1, [0, 10, 0, 1192], []), (.iload_n 1, [], []), (.tableswitch 162 0 13 #[70, 77, 84, 91, 98, 105, 112, 117, 124, 131, 138, 145, 150, 157], [168, 76, 83, 90, 97, 104, 111, 118, 123, 130, 137, 144, 151, 156, 163], [])]
theorem kX10_count_0 : chL mX10_count 0 bX10_count_0 = true := by decide +kernel
def bX10_count_76 : List AI := [(.aload_n 0, [], []), (.getfield 13, [2, 10, 1, 1193], []), (.iconst 0, [], []), (.iaload, [0], []), (.ireturn, [0], [])]
theorem kX10_count_76 : chL mX10_count 76 bX10_count_76 = true := by decide +kernel
def bX10_count_83 : List AI := [(.aload_n 0, [], []), (.getfield 13, [2, 10, 1, 1193], []), (.iconst 1, [], []), (.iaload, [0], []), (.ireturn, [0], [])]
theorem kX10_count_83 : chL mX10_count 83 bX10_count_83 = true := by decide +kernel
def bX10_count_90 : List AI := [(.aload_n 0, [], []), (.getfield 13, [2, 10, 1, 1193], []), (.iconst 2, [], []), (.iaload, [0], []), (.ireturn, [0], [])]
theorem kX10_count_90 : chL mX10_count 90 bX10_count_90 = true := by decide +kernel
def bX10_count_97 : List AI := [(.aload_n 0, [], []), (.getfield 13, [2, 10, 1, 1193], []), (.iconst 3, [], []), (.iaload, [0], []), (.ireturn, [0], [])]
theorem kX10_count_97 : chL mX10_count 97 bX10_count_97 = true := by decide +kernel
def bX10_count_104 : List AI := [(.aload_n 0, [], []), (.getfield 13, [2, 10, 1, 1193], []), (.iconst 4, [], []), (.iaload, [0], []), (.ireturn, [0], [])]
theorem kX10_count_104 : chL mX10_count 104 bX10_count_104 = true := by decide +kernel
def bX10_count_111 : List AI := [(.aload_n 0, [], []), (.bipush 19, [], []), (.invokevirtual 329, [0, 1, 0, 0, 10, 1685, 1682, 1684, 82, 100], [mX10_sumOf]), (.ireturn, [0], [])]
theorem kX10_count_111 : chL mX10_count 111 bX10_count_111 = true := by decide +kernel
def bX10_count_118 : List AI := [(.aload_n 0, [], []), (.invokevirtual 379, [0, 0, 0, 0, 10, 1744, 1741, 1743, 87, 100], [mX10_breadAll]), (.ireturn, [0], [])]
theorem kX10_count_118 : chL mX10_count 118 bX10_count_118 = true := by decide +kernel
def bX10_count_123 : List AI := [(.aload_n 0, [], []), (.bipush 29, [], []), (.invokevirtual 329, [0, 1, 0, 0, 10, 1685, 1682, 1684, 82, 100], [mX10_sumOf]), (.ireturn, [0], [])]
theorem kX10_count_123 : chL mX10_count 123 bX10_count_123 = true := by decide +kernel
def bX10_count_130 : List AI := [(.aload_n 0, [], []), (.bipush 49, [], []), (.invokevirtual 329, [0, 1, 0, 0, 10, 1685, 1682, 1684, 82, 100], [mX10_sumOf]), (.ireturn, [0], [])]
theorem kX10_count_130 : chL mX10_count 130 bX10_count_130 = true := by decide +kernel
def bX10_count_137 : List AI := [(.aload_n 0, [], []), (.bipush 59, [], []), (.invokevirtual 329, [0, 1, 0, 0, 10, 1685, 1682, 1684, 82, 100], [mX10_sumOf]), (.ireturn, [0], [])]
theorem kX10_count_137 : chL mX10_count 137 bX10_count_137 = true := by decide +kernel
def bX10_count_144 : List AI := [(.aload_n 0, [], []), (.bipush 9, [], []), (.invokevirtual 329, [0, 1, 0, 0, 10, 1685, 1682, 1684, 82, 100], [mX10_sumOf]), (.ireturn, [0], [])]
theorem kX10_count_144 : chL mX10_count 144 bX10_count_144 = true := by decide +kernel
def bX10_count_151 : List AI := [(.aload_n 0, [], []), (.getfield 89, [0, 10, 5, 1197], []), (.ireturn, [0], [])]
theorem kX10_count_151 : chL mX10_count 151 bX10_count_151 = true := by decide +kernel
def bX10_count_156 : List AI := [(.aload_n 0, [], []), (.getfield 13, [2, 10, 1, 1193], []), (.iconst 5, [], []), (.iaload, [0], []), (.ireturn, [0], [])]
theorem kX10_count_156 : chL mX10_count 156 bX10_count_156 = true := by decide +kernel
def bX10_count_163 : List AI := [(.aload_n 0, [], []), (.invokevirtual 382, [0, 0, 0, 0, 10, 1748, 1745, 1747, 88, 100], [mX10_debtAll]), (.ireturn, [0], [])]
theorem kX10_count_163 : chL mX10_count 163 bX10_count_163 = true := by decide +kernel
def bX10_count_168 : List AI := [(.iconst (-1), [], []), (.ireturn, [0], [])]
theorem kX10_count_168 : chL mX10_count 168 bX10_count_168 = true := by decide +kernel
