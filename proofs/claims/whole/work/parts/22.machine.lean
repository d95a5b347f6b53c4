/-! ===== whole numbers, the JDK's own small methods, Machine ===== -/
def B_J6_bitCount_0f7a4_0 : List zk_I := [(.iload_n 0, 1, 0, 0, 0, 0, []), (.iload_n 0, 1, 0, 0, 0, 0, []), (.iconst 1, 1, 1, 0, 0, 0, []), (.iushr, 1, 0, 0, 0, 0, []), (.ldc_w 265, 3, 1431655765, 0, 0, 0, []), (.iand, 1, 0, 0, 0, 0, []), (.isub, 1, 0, 0, 0, 0, []), (.istore_n 0, 1, 0, 0, 0, 0, []), (.iload_n 0, 1, 0, 0, 0, 0, []), (.ldc_w 266, 3, 858993459, 0, 0, 0, []), (.iand, 1, 0, 0, 0, 0, []), (.iload_n 0, 1, 0, 0, 0, 0, []), (.iconst 2, 1, 2, 0, 0, 0, []), (.iushr, 1, 0, 0, 0, 0, []), (.ldc_w 266, 3, 858993459, 0, 0, 0, []), (.iand, 1, 0, 0, 0, 0, []), (.iadd, 1, 0, 0, 0, 0, []), (.istore_n 0, 1, 0, 0, 0, 0, []), (.iload_n 0, 1, 0, 0, 0, 0, []), (.iload_n 0, 1, 0, 0, 0, 0, []), (.iconst 4, 1, 4, 0, 0, 0, []), (.iushr, 1, 0, 0, 0, 0, []), (.iadd, 1, 0, 0, 0, 0, []), (.ldc_w 267, 3, 252645135, 0, 0, 0, []), (.iand, 1, 0, 0, 0, 0, []), (.istore_n 0, 1, 0, 0, 0, 0, []), (.iload_n 0, 1, 0, 0, 0, 0, []), (.iload_n 0, 1, 0, 0, 0, 0, []), (.bipush 8, 2, 8, 0, 0, 0, []), (.iushr, 1, 0, 0, 0, 0, []), (.iadd, 1, 0, 0, 0, 0, []), (.istore_n 0, 1, 0, 0, 0, 0, []), (.iload_n 0, 1, 0, 0, 0, 0, []), (.iload_n 0, 1, 0, 0, 0, 0, []), (.bipush 16, 2, 16, 0, 0, 0, []), (.iushr, 1, 0, 0, 0, 0, []), (.iadd, 1, 0, 0, 0, 0, []), (.istore_n 0, 1, 0, 0, 0, 0, []), (.iload_n 0, 1, 0, 0, 0, 0, []), (.bipush 63, 2, 63, 0, 0, 0, []), (.iand, 1, 0, 0, 0, 0, []), (.ireturn, 1, 0, 0, 0, 0, [])]
theorem k_J6_bitCount_0f7a4_0 : zk_ckb 14 false (zk_m 315) B_J6_bitCount_0f7a4_0 0 = true := by decide +kernel
def B_J9_floorDiv_7cf53_0 : List zk_I := [(.iload_n 0, 1, 0, 0, 0, 0, []), (.iload_n 1, 1, 0, 1, 0, 0, []), (.idiv, 1, 0, 0, 0, 0, []), (.istore_n 2, 1, 0, 2, 0, 0, []), (.iload_n 0, 1, 0, 0, 0, 0, []), (.iload_n 1, 1, 0, 1, 0, 0, []), (.ixor, 1, 0, 0, 0, 0, []), (.ifCond .ge 14, 3, 0, 21, 0, 0, []), (.iload_n 2, 1, 0, 2, 0, 0, []), (.iload_n 1, 1, 0, 1, 0, 0, []), (.imul, 1, 0, 0, 0, 0, []), (.iload_n 0, 1, 0, 0, 0, 0, []), (.if_icmp .eq 7, 3, 0, 21, 0, 0, []), (.iload_n 2, 1, 0, 2, 0, 0, []), (.iconst 1, 1, 1, 0, 0, 0, []), (.isub, 1, 0, 0, 0, 0, []), (.ireturn, 1, 0, 0, 0, 0, [])]
theorem k_J9_floorDiv_7cf53_0 : zk_ckb 15 false (zk_m 316) B_J9_floorDiv_7cf53_0 0 = true := by decide +kernel
def B_J9_floorDiv_7cf53_21 : List zk_I := [(.iload_n 2, 1, 0, 2, 0, 0, []), (.ireturn, 1, 0, 0, 0, 0, [])]
theorem k_J9_floorDiv_7cf53_21 : zk_ckb 15 false (zk_m 316) B_J9_floorDiv_7cf53_21 21 = true := by decide +kernel
def B_J9_max_7cf53_0 : List zk_I := [(.iload_n 0, 1, 0, 0, 0, 0, []), (.iload_n 1, 1, 0, 1, 0, 0, []), (.if_icmp .lt 7, 3, 0, 9, 0, 0, []), (.iload_n 0, 1, 0, 0, 0, 0, []), (.goto 4, 3, 0, 10, 0, 0, [])]
theorem k_J9_max_7cf53_0 : zk_ckb 15 false (zk_m 317) B_J9_max_7cf53_0 0 = true := by decide +kernel
def B_J9_max_7cf53_9 : List zk_I := [(.iload_n 1, 1, 0, 1, 0, 0, []), (.ireturn, 1, 0, 0, 0, 0, [])]
theorem k_J9_max_7cf53_9 : zk_ckb 15 false (zk_m 317) B_J9_max_7cf53_9 9 = true := by decide +kernel
def B_J9_max_7cf53_10 : List zk_I := [(.ireturn, 1, 0, 0, 0, 0, [])]
theorem k_J9_max_7cf53_10 : zk_ckb 15 false (zk_m 317) B_J9_max_7cf53_10 10 = true := by decide +kernel
def B_J9_min_7cf53_0 : List zk_I := [(.iload_n 0, 1, 0, 0, 0, 0, []), (.iload_n 1, 1, 0, 1, 0, 0, []), (.if_icmp .gt 7, 3, 0, 9, 0, 0, []), (.iload_n 0, 1, 0, 0, 0, 0, []), (.goto 4, 3, 0, 10, 0, 0, [])]
theorem k_J9_min_7cf53_0 : zk_ckb 15 false (zk_m 319) B_J9_min_7cf53_0 0 = true := by decide +kernel
def B_J9_min_7cf53_9 : List zk_I := [(.iload_n 1, 1, 0, 1, 0, 0, []), (.ireturn, 1, 0, 0, 0, 0, [])]
theorem k_J9_min_7cf53_9 : zk_ckb 15 false (zk_m 319) B_J9_min_7cf53_9 9 = true := by decide +kernel
def B_J9_min_7cf53_10 : List zk_I := [(.ireturn, 1, 0, 0, 0, 0, [])]
theorem k_J9_min_7cf53_10 : zk_ckb 15 false (zk_m 319) B_J9_min_7cf53_10 10 = true := by decide +kernel
def B_J9_max_f86c9_0 : List zk_I := [(.lload_n 0, 1, 0, 0, 0, 0, []), (.lload_n 2, 1, 0, 2, 0, 0, []), (.lcmp, 1, 0, 0, 0, 0, []), (.ifCond .lt 7, 3, 0, 10, 0, 0, []), (.lload_n 0, 1, 0, 0, 0, 0, []), (.goto 4, 3, 0, 11, 0, 0, [])]
theorem k_J9_max_f86c9_0 : zk_ckb 15 false (zk_m 318) B_J9_max_f86c9_0 0 = true := by decide +kernel
def B_J9_max_f86c9_10 : List zk_I := [(.lload_n 2, 1, 0, 2, 0, 0, []), (.lreturn, 1, 0, 0, 0, 0, [])]
theorem k_J9_max_f86c9_10 : zk_ckb 15 false (zk_m 318) B_J9_max_f86c9_10 10 = true := by decide +kernel
def B_J9_max_f86c9_11 : List zk_I := [(.lreturn, 1, 0, 0, 0, 0, [])]
theorem k_J9_max_f86c9_11 : zk_ckb 15 false (zk_m 318) B_J9_max_f86c9_11 11 = true := by decide +kernel
def B_J9_min_f86c9_0 : List zk_I := [(.lload_n 0, 1, 0, 0, 0, 0, []), (.lload_n 2, 1, 0, 2, 0, 0, []), (.lcmp, 1, 0, 0, 0, 0, []), (.ifCond .gt 7, 3, 0, 10, 0, 0, []), (.lload_n 0, 1, 0, 0, 0, 0, []), (.goto 4, 3, 0, 11, 0, 0, [])]
theorem k_J9_min_f86c9_0 : zk_ckb 15 false (zk_m 320) B_J9_min_f86c9_0 0 = true := by decide +kernel
def B_J9_min_f86c9_10 : List zk_I := [(.lload_n 2, 1, 0, 2, 0, 0, []), (.lreturn, 1, 0, 0, 0, 0, [])]
theorem k_J9_min_f86c9_10 : zk_ckb 15 false (zk_m 320) B_J9_min_f86c9_10 10 = true := by decide +kernel
def B_J9_min_f86c9_11 : List zk_I := [(.lreturn, 1, 0, 0, 0, 0, [])]
theorem k_J9_min_f86c9_11 : zk_ckb 15 false (zk_m 320) B_J9_min_f86c9_11 11 = true := by decide +kernel
def B_X11_within_0 : List zk_I := [(.iload_n 0, 1, 0, 0, 0, 0, []), (.iload_n 1, 1, 0, 1, 0, 0, []), (.if_icmp .ge 7, 3, 0, 9, 0, 0, []), (.iload_n 1, 1, 0, 1, 0, 0, []), (.goto 13, 3, 0, 19, 0, 0, [])]
theorem k_X11_within_0 : zk_ckb 11 false (zk_m 159) B_X11_within_0 0 = true := by decide +kernel
def B_X11_within_9 : List zk_I := [(.iload_n 0, 1, 0, 0, 0, 0, []), (.iload_n 2, 1, 0, 2, 0, 0, []), (.if_icmp .le 7, 3, 0, 18, 0, 0, []), (.iload_n 2, 1, 0, 2, 0, 0, []), (.goto 4, 3, 0, 19, 0, 0, [])]
theorem k_X11_within_9 : zk_ckb 11 false (zk_m 159) B_X11_within_9 9 = true := by decide +kernel
def B_X11_within_18 : List zk_I := [(.iload_n 0, 1, 0, 0, 0, 0, []), (.ireturn, 1, 0, 0, 0, 0, [])]
theorem k_X11_within_18 : zk_ckb 11 false (zk_m 159) B_X11_within_18 18 = true := by decide +kernel
def B_X11_within_19 : List zk_I := [(.ireturn, 1, 0, 0, 0, 0, [])]
theorem k_X11_within_19 : zk_ckb 11 false (zk_m 159) B_X11_within_19 19 = true := by decide +kernel
def B_X2_toldBy_0 : List zk_I := [(.iload_n 1, 1, 0, 1, 0, 0, []), (.bipush (-22), 2, (-22), 0, 0, 0, []), (.if_icmp .le 15, 3, 0, 18, 0, 0, []), (.aload_n 0, 1, 0, 0, 0, 0, []), (.getfield 15, 3, 0, 2, 1, 0, []), (.bipush (-14), 2, (-14), 0, 0, 0, []), (.iload_n 1, 1, 0, 1, 0, 0, []), (.isub, 1, 0, 0, 0, 0, []), (.iaload, 1, 0, 0, 0, 0, []), (.goto 4, 3, 0, 19, 0, 0, [])]
theorem k_X2_toldBy_0 : zk_ckb 2 false (zk_m 40) B_X2_toldBy_0 0 = true := by decide +kernel
def B_X2_toldBy_18 : List zk_I := [(.iconst 0, 1, 0, 0, 0, 0, []), (.ireturn, 1, 0, 0, 0, 0, [])]
theorem k_X2_toldBy_18 : zk_ckb 2 false (zk_m 40) B_X2_toldBy_18 18 = true := by decide +kernel
def B_X2_toldBy_19 : List zk_I := [(.ireturn, 1, 0, 0, 0, 0, [])]
theorem k_X2_toldBy_19 : zk_ckb 2 false (zk_m 40) B_X2_toldBy_19 19 = true := by decide +kernel
def B_X2_pointsOfNumber_0 : List zk_I := [(.iload_n 1, 1, 0, 1, 0, 0, []), (.ifCond .lt 26, 3, 0, 27, 0, 0, []), (.iload_n 1, 1, 0, 1, 0, 0, []), (.aload_n 0, 1, 0, 0, 0, 0, []), (.getfield 21, 3, 0, 2, 3, 0, []), (.if_icmp .ge 18, 3, 0, 27, 0, 0, []), (.iload_n 1, 1, 0, 1, 0, 0, []), (.bipush 10, 2, 10, 0, 0, 0, []), (.if_icmp .ge 12, 3, 0, 27, 0, 0, []), (.aload_n 0, 1, 0, 0, 0, 0, []), (.getfield 18, 3, 0, 2, 2, 0, []), (.iload_n 1, 1, 0, 1, 0, 0, []), (.iaload, 1, 0, 0, 0, 0, []), (.goto 4, 3, 0, 28, 0, 0, [])]
theorem k_X2_pointsOfNumber_0 : zk_ckb 2 false (zk_m 41) B_X2_pointsOfNumber_0 0 = true := by decide +kernel
def B_X2_pointsOfNumber_27 : List zk_I := [(.iconst 0, 1, 0, 0, 0, 0, []), (.ireturn, 1, 0, 0, 0, 0, [])]
theorem k_X2_pointsOfNumber_27 : zk_ckb 2 false (zk_m 41) B_X2_pointsOfNumber_27 27 = true := by decide +kernel
def B_X2_pointsOfNumber_28 : List zk_I := [(.ireturn, 1, 0, 0, 0, 0, [])]
theorem k_X2_pointsOfNumber_28 : zk_ckb 2 false (zk_m 41) B_X2_pointsOfNumber_28 28 = true := by decide +kernel
def B_X2_join_0 : List zk_I := [(.iload_n 0, 1, 0, 0, 0, 0, []), (.tableswitch 182 (-10) (-1) #[174, 160, 146, 132, 116, 100, 82, 73, 64, 55], 55, 0, 183, 0, 0, [((-10), 175), ((-9), 161), ((-8), 147), ((-7), 133), ((-6), 117), ((-5), 101), ((-4), 83), ((-3), 74), ((-2), 65), ((-1), 56)])]
theorem k_X2_join_0 : zk_ckb 2 false (zk_m 42) B_X2_join_0 0 = true := by decide +kernel
def B_X2_join_56 : List zk_I := [(.iload_n 1, 1, 0, 1, 0, 0, []), (.i2l, 1, 0, 0, 0, 0, []), (.iload_n 2, 1, 0, 2, 0, 0, []), (.i2l, 1, 0, 0, 0, 0, []), (.ladd, 1, 0, 0, 0, 0, []), (.lstore_n 3, 1, 0, 3, 0, 0, []), (.goto 126, 3, 0, 188, 0, 0, [])]
theorem k_X2_join_56 : zk_ckb 2 false (zk_m 42) B_X2_join_56 56 = true := by decide +kernel
def B_X2_join_65 : List zk_I := [(.iload_n 1, 1, 0, 1, 0, 0, []), (.i2l, 1, 0, 0, 0, 0, []), (.iload_n 2, 1, 0, 2, 0, 0, []), (.i2l, 1, 0, 0, 0, 0, []), (.lsub, 1, 0, 0, 0, 0, []), (.lstore_n 3, 1, 0, 3, 0, 0, []), (.goto 117, 3, 0, 188, 0, 0, [])]
theorem k_X2_join_65 : zk_ckb 2 false (zk_m 42) B_X2_join_65 65 = true := by decide +kernel
def B_X2_join_74 : List zk_I := [(.iload_n 1, 1, 0, 1, 0, 0, []), (.i2l, 1, 0, 0, 0, 0, []), (.iload_n 2, 1, 0, 2, 0, 0, []), (.i2l, 1, 0, 0, 0, 0, []), (.lmul, 1, 0, 0, 0, 0, []), (.lstore_n 3, 1, 0, 3, 0, 0, []), (.goto 108, 3, 0, 188, 0, 0, [])]
theorem k_X2_join_74 : zk_ckb 2 false (zk_m 42) B_X2_join_74 74 = true := by decide +kernel
def B_X2_join_83 : List zk_I := [(.iload_n 2, 1, 0, 2, 0, 0, []), (.ifCond .ne 7, 3, 0, 91, 0, 0, []), (.lconst 0, 1, 0, 0, 0, 0, []), (.goto 9, 3, 0, 97, 0, 0, [])]
theorem k_X2_join_83 : zk_ckb 2 false (zk_m 42) B_X2_join_83 83 = true := by decide +kernel
def B_X2_join_91 : List zk_I := [(.iload_n 1, 1, 0, 1, 0, 0, []), (.iload_n 2, 1, 0, 2, 0, 0, []), (.invokestatic 70, 3, 0, 2, 316, 15, []), (.i2l, 1, 0, 0, 0, 0, []), (.lstore_n 3, 1, 0, 3, 0, 0, []), (.goto 90, 3, 0, 188, 0, 0, [])]
theorem k_X2_join_91 : zk_ckb 2 false (zk_m 42) B_X2_join_91 91 = true := by decide +kernel
def B_X2_join_97 : List zk_I := [(.lstore_n 3, 1, 0, 3, 0, 0, []), (.goto 90, 3, 0, 188, 0, 0, [])]
theorem k_X2_join_97 : zk_ckb 2 false (zk_m 42) B_X2_join_97 97 = true := by decide +kernel
def B_X2_join_101 : List zk_I := [(.iload_n 1, 1, 0, 1, 0, 0, []), (.iload_n 2, 1, 0, 2, 0, 0, []), (.if_icmp .ge 8, 3, 0, 111, 0, 0, []), (.iload_n 1, 1, 0, 1, 0, 0, []), (.i2l, 1, 0, 0, 0, 0, []), (.goto 5, 3, 0, 113, 0, 0, [])]
theorem k_X2_join_101 : zk_ckb 2 false (zk_m 42) B_X2_join_101 101 = true := by decide +kernel
def B_X2_join_111 : List zk_I := [(.iload_n 2, 1, 0, 2, 0, 0, []), (.i2l, 1, 0, 0, 0, 0, []), (.lstore_n 3, 1, 0, 3, 0, 0, []), (.goto 74, 3, 0, 188, 0, 0, [])]
theorem k_X2_join_111 : zk_ckb 2 false (zk_m 42) B_X2_join_111 111 = true := by decide +kernel
def B_X2_join_113 : List zk_I := [(.lstore_n 3, 1, 0, 3, 0, 0, []), (.goto 74, 3, 0, 188, 0, 0, [])]
theorem k_X2_join_113 : zk_ckb 2 false (zk_m 42) B_X2_join_113 113 = true := by decide +kernel
def B_X2_join_117 : List zk_I := [(.iload_n 1, 1, 0, 1, 0, 0, []), (.iload_n 2, 1, 0, 2, 0, 0, []), (.if_icmp .le 8, 3, 0, 127, 0, 0, []), (.iload_n 1, 1, 0, 1, 0, 0, []), (.i2l, 1, 0, 0, 0, 0, []), (.goto 5, 3, 0, 129, 0, 0, [])]
theorem k_X2_join_117 : zk_ckb 2 false (zk_m 42) B_X2_join_117 117 = true := by decide +kernel
def B_X2_join_127 : List zk_I := [(.iload_n 2, 1, 0, 2, 0, 0, []), (.i2l, 1, 0, 0, 0, 0, []), (.lstore_n 3, 1, 0, 3, 0, 0, []), (.goto 58, 3, 0, 188, 0, 0, [])]
theorem k_X2_join_127 : zk_ckb 2 false (zk_m 42) B_X2_join_127 127 = true := by decide +kernel
def B_X2_join_129 : List zk_I := [(.lstore_n 3, 1, 0, 3, 0, 0, []), (.goto 58, 3, 0, 188, 0, 0, [])]
theorem k_X2_join_129 : zk_ckb 2 false (zk_m 42) B_X2_join_129 129 = true := by decide +kernel
def B_X2_join_133 : List zk_I := [(.iload_n 1, 1, 0, 1, 0, 0, []), (.iload_n 2, 1, 0, 2, 0, 0, []), (.if_icmp .ge 7, 3, 0, 142, 0, 0, []), (.lconst 1, 1, 0, 1, 0, 0, []), (.goto 4, 3, 0, 143, 0, 0, [])]
theorem k_X2_join_133 : zk_ckb 2 false (zk_m 42) B_X2_join_133 133 = true := by decide +kernel
def B_X2_join_142 : List zk_I := [(.lconst 0, 1, 0, 0, 0, 0, []), (.lstore_n 3, 1, 0, 3, 0, 0, []), (.goto 44, 3, 0, 188, 0, 0, [])]
theorem k_X2_join_142 : zk_ckb 2 false (zk_m 42) B_X2_join_142 142 = true := by decide +kernel
def B_X2_join_143 : List zk_I := [(.lstore_n 3, 1, 0, 3, 0, 0, []), (.goto 44, 3, 0, 188, 0, 0, [])]
theorem k_X2_join_143 : zk_ckb 2 false (zk_m 42) B_X2_join_143 143 = true := by decide +kernel
def B_X2_join_147 : List zk_I := [(.iload_n 1, 1, 0, 1, 0, 0, []), (.iload_n 2, 1, 0, 2, 0, 0, []), (.if_icmp .le 7, 3, 0, 156, 0, 0, []), (.lconst 1, 1, 0, 1, 0, 0, []), (.goto 4, 3, 0, 157, 0, 0, [])]
theorem k_X2_join_147 : zk_ckb 2 false (zk_m 42) B_X2_join_147 147 = true := by decide +kernel
def B_X2_join_156 : List zk_I := [(.lconst 0, 1, 0, 0, 0, 0, []), (.lstore_n 3, 1, 0, 3, 0, 0, []), (.goto 30, 3, 0, 188, 0, 0, [])]
theorem k_X2_join_156 : zk_ckb 2 false (zk_m 42) B_X2_join_156 156 = true := by decide +kernel
def B_X2_join_157 : List zk_I := [(.lstore_n 3, 1, 0, 3, 0, 0, []), (.goto 30, 3, 0, 188, 0, 0, [])]
theorem k_X2_join_157 : zk_ckb 2 false (zk_m 42) B_X2_join_157 157 = true := by decide +kernel
def B_X2_join_161 : List zk_I := [(.iload_n 1, 1, 0, 1, 0, 0, []), (.iload_n 2, 1, 0, 2, 0, 0, []), (.if_icmp .ne 7, 3, 0, 170, 0, 0, []), (.lconst 1, 1, 0, 1, 0, 0, []), (.goto 4, 3, 0, 171, 0, 0, [])]
theorem k_X2_join_161 : zk_ckb 2 false (zk_m 42) B_X2_join_161 161 = true := by decide +kernel
def B_X2_join_170 : List zk_I := [(.lconst 0, 1, 0, 0, 0, 0, []), (.lstore_n 3, 1, 0, 3, 0, 0, []), (.goto 16, 3, 0, 188, 0, 0, [])]
theorem k_X2_join_170 : zk_ckb 2 false (zk_m 42) B_X2_join_170 170 = true := by decide +kernel
def B_X2_join_171 : List zk_I := [(.lstore_n 3, 1, 0, 3, 0, 0, []), (.goto 16, 3, 0, 188, 0, 0, [])]
theorem k_X2_join_171 : zk_ckb 2 false (zk_m 42) B_X2_join_171 171 = true := by decide +kernel
def B_X2_join_175 : List zk_I := [(.iload_n 1, 1, 0, 1, 0, 0, []), (.iload_n 2, 1, 0, 2, 0, 0, []), (.iand, 1, 0, 0, 0, 0, []), (.i2l, 1, 0, 0, 0, 0, []), (.lstore_n 3, 1, 0, 3, 0, 0, []), (.goto 8, 3, 0, 188, 0, 0, [])]
theorem k_X2_join_175 : zk_ckb 2 false (zk_m 42) B_X2_join_175 175 = true := by decide +kernel
def B_X2_join_183 : List zk_I := [(.iload_n 1, 1, 0, 1, 0, 0, []), (.iload_n 2, 1, 0, 2, 0, 0, []), (.ior, 1, 0, 0, 0, 0, []), (.i2l, 1, 0, 0, 0, 0, []), (.lstore_n 3, 1, 0, 3, 0, 0, [])]
theorem k_X2_join_183 : zk_ckb 2 false (zk_m 42) B_X2_join_183 183 = true := by decide +kernel
def B_X2_join_188 : List zk_I := [(.lload_n 3, 1, 0, 3, 0, 0, []), (.ldc2_w 73, 3, 0, 1000000, 0, 0, []), (.lcmp, 1, 0, 0, 0, 0, []), (.ifCond .le 8, 3, 0, 201, 0, 0, []), (.ldc 75, 2, 1000000, 0, 0, 0, []), (.goto 18, 3, 0, 216, 0, 0, [])]
theorem k_X2_join_188 : zk_ckb 2 false (zk_m 42) B_X2_join_188 188 = true := by decide +kernel
def B_X2_join_201 : List zk_I := [(.lload_n 3, 1, 0, 3, 0, 0, []), (.ldc2_w 76, 3, 1, 1000000, 0, 0, []), (.lcmp, 1, 0, 0, 0, 0, []), (.ifCond .ge 8, 3, 0, 214, 0, 0, []), (.ldc 78, 2, (-1000000), 0, 0, 0, []), (.goto 5, 3, 0, 216, 0, 0, [])]
theorem k_X2_join_201 : zk_ckb 2 false (zk_m 42) B_X2_join_201 201 = true := by decide +kernel
def B_X2_join_214 : List zk_I := [(.lload_n 3, 1, 0, 3, 0, 0, []), (.l2i, 1, 0, 0, 0, 0, []), (.ireturn, 1, 0, 0, 0, 0, [])]
theorem k_X2_join_214 : zk_ckb 2 false (zk_m 42) B_X2_join_214 214 = true := by decide +kernel
def B_X2_join_216 : List zk_I := [(.ireturn, 1, 0, 0, 0, 0, [])]
theorem k_X2_join_216 : zk_ckb 2 false (zk_m 42) B_X2_join_216 216 = true := by decide +kernel
def B_X2_tell_0 : List zk_I := [(.iload_n 1, 1, 0, 1, 0, 0, []), (.bipush (-14), 2, (-14), 0, 0, 0, []), (.if_icmp .gt 19, 3, 0, 22, 0, 0, []), (.iload_n 1, 1, 0, 1, 0, 0, []), (.bipush (-22), 2, (-22), 0, 0, 0, []), (.if_icmp .le 13, 3, 0, 22, 0, 0, []), (.aload_n 0, 1, 0, 0, 0, 0, []), (.getfield 15, 3, 0, 2, 1, 0, []), (.bipush (-14), 2, (-14), 0, 0, 0, []), (.iload_n 1, 1, 0, 1, 0, 0, []), (.isub, 1, 0, 0, 0, 0, []), (.iload_n 2, 1, 0, 2, 0, 0, []), (.iastore, 1, 0, 0, 0, 0, []), (.return_, 1, 0, 0, 0, 0, [])]
theorem k_X2_tell_0 : zk_ckb 2 false (zk_m 36) B_X2_tell_0 0 = true := by decide +kernel
def B_X2_tell_22 : List zk_I := [(.return_, 1, 0, 0, 0, 0, [])]
theorem k_X2_tell_22 : zk_ckb 2 false (zk_m 36) B_X2_tell_22 22 = true := by decide +kernel
def iI (z : Int) : Int32 := Int32.ofInt z
theorem iI_toInt {z : Int} (h1 : -2147483648 ≤ z) (h2 : z < 2147483648) : (iI z).toInt = z := by
  unfold iI
  rw [Int32.toInt_ofInt]
  exact fb_bmod h1 h2
theorem iI_of (x : Int32) : iI x.toInt = x := by unfold iI; exact Int32.ofInt_toInt x
theorem iI_nI (k : Nat) : nI k = iI k := rfl
theorem iI_lt {a b : Int} (h1 : -2147483648 ≤ a) (h2 : a < 2147483648) (h3 : -2147483648 ≤ b) (h4 : b < 2147483648) : (iI a < iI b) = (a < b) := by
  rw [fa_lt, iI_toInt h1 h2, iI_toInt h3 h4]
theorem iI_le {a b : Int} (h1 : -2147483648 ≤ a) (h2 : a < 2147483648) (h3 : -2147483648 ≤ b) (h4 : b < 2147483648) : (iI a ≤ iI b) = (a ≤ b) := by
  rw [fa_le, iI_toInt h1 h2, iI_toInt h3 h4]
theorem iI_eq {a b : Int} (h1 : -2147483648 ≤ a) (h2 : a < 2147483648) (h3 : -2147483648 ≤ b) (h4 : b < 2147483648) : (iI a = iI b) = (a = b) := by
  rw [fa_eq, iI_toInt h1 h2, iI_toInt h3 h4]
theorem iI_eqv {x : Int32} {z : Int} (h : x.toInt = z) : x = iI z := by rw [← h, iI_of]
section JDK
variable {G : zk_G} {n : Nat} {M : zk_MI} {L : zk_ML} {P : zk_MP}
theorem ct_max (x y : Int32) : zk_C G 0 317 [.int x, .int y] n M L P n (zk_same (some (.int (if x < y then y else x))) M L P) := by
  refine zk_meth (ow := 15) (kind := 0) (k := 2) (nL := 2) (ct := false) (l0 := [.int x, .int y]) (by decide +kernel) (fun h => by cases h) (by decide +kernel) (by decide) (by decide) (fun _ => by decide +kernel) (Nat.le_of_ble_eq_true rfl) rfl (by omega) (fun Z hZ => ?_)
  refine hZ B_J9_max_7cf53_0 _ _ _ _ _ _ _ k_J9_max_7cf53_0 ?_
  simp only [B_J9_max_7cf53_0, zk_run, zk_wp, zk_pop, zk_rc, zk_rvs, zk_set, zk_set2, zk_cat2, List.getElem?_cons_zero, List.getElem?_cons_succ, Bool.false_eq_true, and_false, false_and, and_true, true_and, reduceIte, Nat.reduceEqDiff, Nat.reduceLT, Nat.reduceAdd, List.cons_append, List.nil_append, Option.toList_some, Option.toList_none, zk_cat_i, zk_cat_r, zk_cat_n, zk_same, Option.some.injEq, Value.int.injEq, Value.long.injEq, eq_self, false_implies, true_implies]
  refine ⟨fun h => ?_, fun h => ?_⟩
  · refine hZ B_J9_max_7cf53_9 _ _ _ _ _ _ _ k_J9_max_7cf53_9 ?_
    simp only [B_J9_max_7cf53_9, zk_run, zk_wp, zk_pop, zk_rc, zk_rvs, zk_set, zk_set2, zk_cat2, List.getElem?_cons_zero, List.getElem?_cons_succ, Bool.false_eq_true, and_false, false_and, and_true, true_and, reduceIte, Nat.reduceEqDiff, Nat.reduceLT, Nat.reduceAdd, List.cons_append, List.nil_append, Option.toList_some, Option.toList_none, zk_cat_i, zk_cat_r, zk_cat_n, zk_same, Option.some.injEq, Value.int.injEq, Value.long.injEq, eq_self, false_implies, true_implies]
    rw [if_pos h]
  · refine hZ B_J9_max_7cf53_10 _ _ _ _ _ _ _ k_J9_max_7cf53_10 ?_
    simp only [B_J9_max_7cf53_10, zk_run, zk_wp, zk_pop, zk_rc, zk_rvs, zk_set, zk_set2, zk_cat2, List.getElem?_cons_zero, List.getElem?_cons_succ, Bool.false_eq_true, and_false, false_and, and_true, true_and, reduceIte, Nat.reduceEqDiff, Nat.reduceLT, Nat.reduceAdd, List.cons_append, List.nil_append, Option.toList_some, Option.toList_none, zk_cat_i, zk_cat_r, zk_cat_n, zk_same, Option.some.injEq, Value.int.injEq, Value.long.injEq, eq_self, false_implies, true_implies]
    rw [if_neg h]
theorem ct_min (x y : Int32) : zk_C G 0 319 [.int x, .int y] n M L P n (zk_same (some (.int (if y < x then y else x))) M L P) := by
  refine zk_meth (ow := 15) (kind := 0) (k := 2) (nL := 2) (ct := false) (l0 := [.int x, .int y]) (by decide +kernel) (fun h => by cases h) (by decide +kernel) (by decide) (by decide) (fun _ => by decide +kernel) (Nat.le_of_ble_eq_true rfl) rfl (by omega) (fun Z hZ => ?_)
  refine hZ B_J9_min_7cf53_0 _ _ _ _ _ _ _ k_J9_min_7cf53_0 ?_
  simp only [B_J9_min_7cf53_0, zk_run, zk_wp, zk_pop, zk_rc, zk_rvs, zk_set, zk_set2, zk_cat2, List.getElem?_cons_zero, List.getElem?_cons_succ, Bool.false_eq_true, and_false, false_and, and_true, true_and, reduceIte, Nat.reduceEqDiff, Nat.reduceLT, Nat.reduceAdd, List.cons_append, List.nil_append, Option.toList_some, Option.toList_none, zk_cat_i, zk_cat_r, zk_cat_n, zk_same, Option.some.injEq, Value.int.injEq, Value.long.injEq, eq_self, false_implies, true_implies]
  refine ⟨fun h => ?_, fun h => ?_⟩
  · refine hZ B_J9_min_7cf53_9 _ _ _ _ _ _ _ k_J9_min_7cf53_9 ?_
    simp only [B_J9_min_7cf53_9, zk_run, zk_wp, zk_pop, zk_rc, zk_rvs, zk_set, zk_set2, zk_cat2, List.getElem?_cons_zero, List.getElem?_cons_succ, Bool.false_eq_true, and_false, false_and, and_true, true_and, reduceIte, Nat.reduceEqDiff, Nat.reduceLT, Nat.reduceAdd, List.cons_append, List.nil_append, Option.toList_some, Option.toList_none, zk_cat_i, zk_cat_r, zk_cat_n, zk_same, Option.some.injEq, Value.int.injEq, Value.long.injEq, eq_self, false_implies, true_implies]
    rw [if_pos h]
  · refine hZ B_J9_min_7cf53_10 _ _ _ _ _ _ _ k_J9_min_7cf53_10 ?_
    simp only [B_J9_min_7cf53_10, zk_run, zk_wp, zk_pop, zk_rc, zk_rvs, zk_set, zk_set2, zk_cat2, List.getElem?_cons_zero, List.getElem?_cons_succ, Bool.false_eq_true, and_false, false_and, and_true, true_and, reduceIte, Nat.reduceEqDiff, Nat.reduceLT, Nat.reduceAdd, List.cons_append, List.nil_append, Option.toList_some, Option.toList_none, zk_cat_i, zk_cat_r, zk_cat_n, zk_same, Option.some.injEq, Value.int.injEq, Value.long.injEq, eq_self, false_implies, true_implies]
    rw [if_neg h]
theorem ct_within (x y z : Int32) : zk_C G 0 159 [.int x, .int y, .int z] n M L P n (zk_same (some (.int (if x < y then y else if z < x then z else x))) M L P) := by
  refine zk_meth (ow := 11) (kind := 0) (k := 3) (nL := 3) (ct := false) (l0 := [.int x, .int y, .int z]) (by decide +kernel) (fun h => by cases h) (by decide +kernel) (by decide) (by decide) (fun h => absurd h (by decide)) (Nat.le_of_ble_eq_true rfl) rfl (by omega) (fun Z hZ => ?_)
  refine hZ B_X11_within_0 _ _ _ _ _ _ _ k_X11_within_0 ?_
  simp only [B_X11_within_0, zk_run, zk_wp, zk_pop, zk_rc, zk_rvs, zk_set, zk_set2, zk_cat2, List.getElem?_cons_zero, List.getElem?_cons_succ, Bool.false_eq_true, and_false, false_and, and_true, true_and, reduceIte, Nat.reduceEqDiff, Nat.reduceLT, Nat.reduceAdd, List.cons_append, List.nil_append, Option.toList_some, Option.toList_none, zk_cat_i, zk_cat_r, zk_cat_n, zk_same, Option.some.injEq, Value.int.injEq, Value.long.injEq, eq_self, false_implies, true_implies]
  refine ⟨fun h => ?_, fun h => ?_⟩
  · have h' : ¬ x < y := Int32.not_lt.mpr h
    refine hZ B_X11_within_9 _ _ _ _ _ _ _ k_X11_within_9 ?_
    simp only [B_X11_within_9, zk_run, zk_wp, zk_pop, zk_rc, zk_rvs, zk_set, zk_set2, zk_cat2, List.getElem?_cons_zero, List.getElem?_cons_succ, Bool.false_eq_true, and_false, false_and, and_true, true_and, reduceIte, Nat.reduceEqDiff, Nat.reduceLT, Nat.reduceAdd, List.cons_append, List.nil_append, Option.toList_some, Option.toList_none, zk_cat_i, zk_cat_r, zk_cat_n, zk_same, Option.some.injEq, Value.int.injEq, Value.long.injEq, eq_self, false_implies, true_implies]
    refine ⟨fun h2 => ?_, fun h2 => ?_⟩
    · have h2' : ¬ z < x := Int32.not_lt.mpr h2
      refine hZ B_X11_within_18 _ _ _ _ _ _ _ k_X11_within_18 ?_
      simp only [B_X11_within_18, zk_run, zk_wp, zk_pop, zk_rc, zk_rvs, zk_set, zk_set2, zk_cat2, List.getElem?_cons_zero, List.getElem?_cons_succ, Bool.false_eq_true, and_false, false_and, and_true, true_and, reduceIte, Nat.reduceEqDiff, Nat.reduceLT, Nat.reduceAdd, List.cons_append, List.nil_append, Option.toList_some, Option.toList_none, zk_cat_i, zk_cat_r, zk_cat_n, zk_same, Option.some.injEq, Value.int.injEq, Value.long.injEq, eq_self, false_implies, true_implies]
      rw [if_neg h', if_neg h2']
    · have h2' : z < x := Int32.not_le.mp h2
      refine hZ B_X11_within_19 _ _ _ _ _ _ _ k_X11_within_19 ?_
      simp only [B_X11_within_19, zk_run, zk_wp, zk_pop, zk_rc, zk_rvs, zk_set, zk_set2, zk_cat2, List.getElem?_cons_zero, List.getElem?_cons_succ, Bool.false_eq_true, and_false, false_and, and_true, true_and, reduceIte, Nat.reduceEqDiff, Nat.reduceLT, Nat.reduceAdd, List.cons_append, List.nil_append, Option.toList_some, Option.toList_none, zk_cat_i, zk_cat_r, zk_cat_n, zk_same, Option.some.injEq, Value.int.injEq, Value.long.injEq, eq_self, false_implies, true_implies]
      rw [if_neg h', if_pos h2']
  · have h' : x < y := Int32.not_le.mp h
    refine hZ B_X11_within_19 _ _ _ _ _ _ _ k_X11_within_19 ?_
    simp only [B_X11_within_19, zk_run, zk_wp, zk_pop, zk_rc, zk_rvs, zk_set, zk_set2, zk_cat2, List.getElem?_cons_zero, List.getElem?_cons_succ, Bool.false_eq_true, and_false, false_and, and_true, true_and, reduceIte, Nat.reduceEqDiff, Nat.reduceLT, Nat.reduceAdd, List.cons_append, List.nil_append, Option.toList_some, Option.toList_none, zk_cat_i, zk_cat_r, zk_cat_n, zk_same, Option.some.injEq, Value.int.injEq, Value.long.injEq, eq_self, false_implies, true_implies]
    rw [if_pos h']
def sp_pc (a : Nat) : Nat := ((List.range 10).filter (fun t => a.testBit t)).length
def jd_bc (x : Int32) : Int32 :=
  let x := x - ((x.toUInt32 >>> ((1 : Int32).toUInt32 &&& Int32.toUInt32 31)).toInt32 &&& 1431655765)
  let x := (x &&& 858993459) + ((x.toUInt32 >>> ((2 : Int32).toUInt32 &&& Int32.toUInt32 31)).toInt32 &&& 858993459)
  let x := (x + (x.toUInt32 >>> ((4 : Int32).toUInt32 &&& Int32.toUInt32 31)).toInt32) &&& 252645135
  let x := x + (x.toUInt32 >>> ((8 : Int32).toUInt32 &&& Int32.toUInt32 31)).toInt32
  let x := x + (x.toUInt32 >>> ((16 : Int32).toUInt32 &&& Int32.toUInt32 31)).toInt32
  x &&& 63
theorem jd_bc_ok : ∀ a, a < 1024 → jd_bc (nI a) = nI (sp_pc a) := by decide +kernel
theorem ct_bitCount (a : Nat) (ha : a < 1024) : zk_C G 0 315 [.int (nI a)] n M L P n (zk_same (some (.int (nI (sp_pc a)))) M L P) := by
  refine zk_meth (ow := 14) (kind := 0) (k := 1) (nL := 1) (ct := false) (l0 := [.int (nI a)]) (by decide +kernel) (fun h => by cases h) (by decide +kernel) (by decide) (by decide) (fun h => absurd h (by decide)) (Nat.le_of_ble_eq_true rfl) rfl (by omega) (fun Z hZ => ?_)
  have h := jd_bc_ok a ha
  refine hZ B_J6_bitCount_0f7a4_0 _ _ _ _ _ _ _ k_J6_bitCount_0f7a4_0 ?_
  simp only [B_J6_bitCount_0f7a4_0, zk_run, zk_wp, zk_pop, zk_rc, zk_rvs, zk_set, zk_set2, zk_cat2, List.getElem?_cons_zero, List.getElem?_cons_succ, Bool.false_eq_true, and_false, false_and, and_true, true_and, reduceIte, Nat.reduceEqDiff, Nat.reduceLT, Nat.reduceAdd, List.cons_append, List.nil_append, Option.toList_some, Option.toList_none, zk_cat_i, zk_cat_r, zk_cat_n, zk_same, Option.some.injEq, Value.int.injEq, Value.long.injEq, eq_self, false_implies, true_implies]
  rw [← h]
  rfl
theorem ct_toldBy (hn : 154 ≤ n) (hP : zs_X P) (c : Int) (h1 : -22 < c) (h2 : c ≤ -14) : zk_C G 0 40 [.ref 1, .int (iI c)] n M L P n (zk_same (some (.int (M 3 (-14 - c).toNat))) M L P) := by
  refine zk_meth (ow := 2) (kind := 1) (k := 1) (nL := 2) (ct := false) (l0 := [.ref 1, .int (iI c)]) (by decide +kernel) (fun h => by cases h) (by decide +kernel) (by decide) (by decide) (fun h => absurd h (by decide)) (Nat.le_of_ble_eq_true rfl) rfl (by omega) (fun Z hZ => ?_)
  unfold zs_X at hP
  have ho := zo_X hn
  have e1 : ¬ iI c ≤ (-22) := by rw [show (-22 : Int32) = iI (-22) from rfl, iI_le (by omega) (by omega) (by omega) (by omega)]; omega
  have e2 : (-14 : Int32) - iI c = nI (-14 - c).toNat := by
    rw [iI_nI]
    apply iI_eqv
    rw [show (-14 : Int32) = iI (-14) from rfl, fb_subI] <;> rw [iI_toInt (by omega) (by omega), iI_toInt (by omega) (by omega)] <;> omega
  have hc : (nI (-14 - c).toNat).toNatClampNeg = (-14 - c).toNat := nI_clamp (by omega)
  refine hZ B_X2_toldBy_0 _ _ _ _ _ _ _ k_X2_toldBy_0 ?_
  simp only [B_X2_toldBy_0, zk_run, zk_wp, zk_pop, zk_rc, zk_rvs, zk_set, zk_set2, zk_cat2, List.getElem?_cons_zero, List.getElem?_cons_succ, Bool.false_eq_true, and_false, false_and, and_true, true_and, reduceIte, Nat.reduceEqDiff, Nat.reduceLT, Nat.reduceAdd, List.cons_append, List.nil_append, Option.toList_some, Option.toList_none, zk_cat_i, zk_cat_r, zk_cat_n, zk_same, Option.some.injEq, Value.int.injEq, Value.long.injEq, eq_self, false_implies, true_implies, zf_2, e1, not_false_eq_true, e2, ho, hP, zl_X, hc]
  refine ⟨vp_in_nI (by omega) (by omega), ?_⟩
  refine hZ B_X2_toldBy_19 _ _ _ _ _ _ _ k_X2_toldBy_19 ?_
  simp only [B_X2_toldBy_19, zk_run, zk_wp, zk_pop, zk_rc, zk_rvs, zk_set, zk_set2, zk_cat2, List.getElem?_cons_zero, List.getElem?_cons_succ, Bool.false_eq_true, and_false, false_and, and_true, true_and, reduceIte, Nat.reduceEqDiff, Nat.reduceLT, Nat.reduceAdd, List.cons_append, List.nil_append, Option.toList_some, Option.toList_none, zk_cat_i, zk_cat_r, zk_cat_n, zk_same, Option.some.injEq, Value.int.injEq, Value.long.injEq, eq_self, false_implies, true_implies, zf_2]
def sp_pn (M : zk_MI) (x : Int) : Int32 := if x < 0 then 0 else if (M 1 3).toInt ≤ x then 0 else if 10 ≤ x then 0 else M 4 x.toNat
theorem ct_pointsOfNumber (hn : 154 ≤ n) (hP : zs_X P) (x : Int) (h1 : -1000000 ≤ x) (h2 : x ≤ 1000000) : zk_C G 0 41 [.ref 1, .int (iI x)] n M L P n (zk_same (some (.int (sp_pn M x))) M L P) := by
  refine zk_meth (ow := 2) (kind := 1) (k := 1) (nL := 2) (ct := false) (l0 := [.ref 1, .int (iI x)]) (by decide +kernel) (fun h => by cases h) (by decide +kernel) (by decide) (by decide) (fun h => absurd h (by decide)) (Nat.le_of_ble_eq_true rfl) rfl (by omega) (fun Z hZ => ?_)
  unfold zs_X at hP
  have ho := zo_X hn
  have e1 : (iI x < 0) = (x < 0) := by rw [show (0 : Int32) = iI 0 from rfl, iI_lt (by omega) (by omega) (by omega) (by omega)]
  have e2 : (M 1 3 ≤ iI x) = ((M 1 3).toInt ≤ x) := by rw [fa_le, iI_toInt (by omega) (by omega)]
  have e3 : ((10 : Int32) ≤ iI x) = (10 ≤ x) := by rw [show (10 : Int32) = iI 10 from rfl, iI_le (by omega) (by omega) (by omega) (by omega)]
  refine hZ B_X2_pointsOfNumber_0 _ _ _ _ _ _ _ k_X2_pointsOfNumber_0 ?_
  simp only [B_X2_pointsOfNumber_0, zk_run, zk_wp, zk_pop, zk_rc, zk_rvs, zk_set, zk_set2, zk_cat2, List.getElem?_cons_zero, List.getElem?_cons_succ, Bool.false_eq_true, and_false, false_and, and_true, true_and, reduceIte, Nat.reduceEqDiff, Nat.reduceLT, Nat.reduceAdd, List.cons_append, List.nil_append, Option.toList_some, Option.toList_none, zk_cat_i, zk_cat_r, zk_cat_n, zk_same, Option.some.injEq, Value.int.injEq, Value.long.injEq, eq_self, false_implies, true_implies, zf_2, e1, e2, e3, ho, hP, zl_X]
  refine ⟨fun h => ?_, fun h => ⟨fun g => ?_, fun g => ⟨fun f => ?_, fun f => ⟨?_, ?_⟩⟩⟩⟩
  · refine hZ B_X2_pointsOfNumber_27 _ _ _ _ _ _ _ k_X2_pointsOfNumber_27 ?_
    simp only [B_X2_pointsOfNumber_27, zk_run, zk_wp, zk_pop, zk_rc, zk_rvs, zk_set, zk_set2, zk_cat2, List.getElem?_cons_zero, List.getElem?_cons_succ, Bool.false_eq_true, and_false, false_and, and_true, true_and, reduceIte, Nat.reduceEqDiff, Nat.reduceLT, Nat.reduceAdd, List.cons_append, List.nil_append, Option.toList_some, Option.toList_none, zk_cat_i, zk_cat_r, zk_cat_n, zk_same, Option.some.injEq, Value.int.injEq, Value.long.injEq, eq_self, false_implies, true_implies, zf_2]
    simp [sp_pn, h]
  · refine hZ B_X2_pointsOfNumber_27 _ _ _ _ _ _ _ k_X2_pointsOfNumber_27 ?_
    simp only [B_X2_pointsOfNumber_27, zk_run, zk_wp, zk_pop, zk_rc, zk_rvs, zk_set, zk_set2, zk_cat2, List.getElem?_cons_zero, List.getElem?_cons_succ, Bool.false_eq_true, and_false, false_and, and_true, true_and, reduceIte, Nat.reduceEqDiff, Nat.reduceLT, Nat.reduceAdd, List.cons_append, List.nil_append, Option.toList_some, Option.toList_none, zk_cat_i, zk_cat_r, zk_cat_n, zk_same, Option.some.injEq, Value.int.injEq, Value.long.injEq, eq_self, false_implies, true_implies, zf_2]
    simp [sp_pn, h, g]
  · refine hZ B_X2_pointsOfNumber_27 _ _ _ _ _ _ _ k_X2_pointsOfNumber_27 ?_
    simp only [B_X2_pointsOfNumber_27, zk_run, zk_wp, zk_pop, zk_rc, zk_rvs, zk_set, zk_set2, zk_cat2, List.getElem?_cons_zero, List.getElem?_cons_succ, Bool.false_eq_true, and_false, false_and, and_true, true_and, reduceIte, Nat.reduceEqDiff, Nat.reduceLT, Nat.reduceAdd, List.cons_append, List.nil_append, Option.toList_some, Option.toList_none, zk_cat_i, zk_cat_r, zk_cat_n, zk_same, Option.some.injEq, Value.int.injEq, Value.long.injEq, eq_self, false_implies, true_implies, zf_2]
    simp [sp_pn, h, g, f]
  · rw [show iI x = nI x.toNat from by rw [iI_nI]; congr 1; omega]
    exact vp_in_nI (by omega) (by omega)
  · have hc : (iI x).toNatClampNeg = x.toNat := by
      rw [show iI x = nI x.toNat from by rw [iI_nI]; congr 1; omega]
      exact nI_clamp (by omega)
    refine hZ B_X2_pointsOfNumber_28 _ _ _ _ _ _ _ k_X2_pointsOfNumber_28 ?_
    simp only [B_X2_pointsOfNumber_28, zk_run, zk_wp, zk_pop, zk_rc, zk_rvs, zk_set, zk_set2, zk_cat2, List.getElem?_cons_zero, List.getElem?_cons_succ, Bool.false_eq_true, and_false, false_and, and_true, true_and, reduceIte, Nat.reduceEqDiff, Nat.reduceLT, Nat.reduceAdd, List.cons_append, List.nil_append, Option.toList_some, Option.toList_none, zk_cat_i, zk_cat_r, zk_cat_n, zk_same, Option.some.injEq, Value.int.injEq, Value.long.injEq, eq_self, false_implies, true_implies, zf_2, hc]
    simp [sp_pn, h, g, f]
theorem ct_tell (hn : 154 ≤ n) (hP : zs_X P) (c : Int) (v : Int32) (h1 : -22 < c) (h2 : c ≤ -14) : zk_C G 0 36 [.ref 1, .int (iI c), .int v] n M L P n (zk_same none (zk_up M 3 (-14 - c).toNat v) L P) := by
  refine zk_meth (ow := 2) (kind := 1) (k := 2) (nL := 3) (ct := false) (l0 := [.ref 1, .int (iI c), .int v]) (by decide +kernel) (fun h => by cases h) (by decide +kernel) (by decide) (by decide) (fun h => absurd h (by decide)) (Nat.le_of_ble_eq_true rfl) rfl (by omega) (fun Z hZ => ?_)
  unfold zs_X at hP
  have ho := zo_X hn
  have e1 : ¬ iI c ≤ (-22) := by rw [show (-22 : Int32) = iI (-22) from rfl, iI_le (by omega) (by omega) (by omega) (by omega)]; omega
  have e0 : ¬ (-14 : Int32) < iI c := by rw [show (-14 : Int32) = iI (-14) from rfl, iI_lt (by omega) (by omega) (by omega) (by omega)]; omega
  have e2 : (-14 : Int32) - iI c = nI (-14 - c).toNat := by
    rw [iI_nI]
    apply iI_eqv
    rw [show (-14 : Int32) = iI (-14) from rfl, fb_subI] <;> rw [iI_toInt (by omega) (by omega), iI_toInt (by omega) (by omega)] <;> omega
  have hc : (nI (-14 - c).toNat).toNatClampNeg = (-14 - c).toNat := nI_clamp (by omega)
  refine hZ B_X2_tell_0 _ _ _ _ _ _ _ k_X2_tell_0 ?_
  simp only [B_X2_tell_0, zk_run, zk_wp, zk_pop, zk_rc, zk_rvs, zk_set, zk_set2, zk_cat2, List.getElem?_cons_zero, List.getElem?_cons_succ, Bool.false_eq_true, and_false, false_and, and_true, true_and, reduceIte, Nat.reduceEqDiff, Nat.reduceLT, Nat.reduceAdd, List.cons_append, List.nil_append, Option.toList_some, Option.toList_none, zk_cat_i, zk_cat_r, zk_cat_n, zk_same, Option.some.injEq, Value.int.injEq, Value.long.injEq, eq_self, false_implies, true_implies, zf_2, e0, e1, not_false_eq_true, e2, ho, hP, zl_X, hc]
  exact vp_in_nI (by omega) (by omega)
end JDK
