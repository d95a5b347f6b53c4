/-! ===== the model: the tape, what is kept, acts ===== -/
def B_X12_feed_0 : List zk_I := [(.aload_n 0, 1, 0, 0, 0, 0, []), (.getfield 242, 3, 0, 12, 1, 0, []), (.bipush 20, 2, 20, 0, 0, 0, []), (.iadd, 1, 0, 0, 0, 0, []), (.sipush 1600, 3, 1600, 0, 0, 0, []), (.if_icmp .le 15, 3, 0, 25, 0, 0, []), (.aload_n 0, 1, 0, 0, 0, 0, []), (.getfield 17, 3, 0, 12, 9, 0, []), (.iconst 0, 1, 0, 0, 0, 0, []), (.dup2, 1, 0, 0, 0, 0, []), (.iaload, 1, 0, 0, 0, 0, []), (.iconst 1, 1, 1, 0, 0, 0, []), (.iadd, 1, 0, 0, 0, 0, []), (.iastore, 1, 0, 0, 0, 0, []), (.iconst (-1), 1, (-1), 0, 0, 0, []), (.ireturn, 1, 0, 0, 0, 0, [])]
theorem k_X12_feed_0 : zk_ckb 12 false (zk_m 162) B_X12_feed_0 0 = true := by decide +kernel
def B_X12_feed_25 : List zk_I := [(.iconst 0, 1, 0, 0, 0, 0, []), (.istore 6, 2, 0, 6, 0, 0, [])]
theorem k_X12_feed_25 : zk_ckb 12 false (zk_m 162) B_X12_feed_25 25 = true := by decide +kernel
def B_X12_feed_28 : List zk_I := [(.iload 6, 2, 0, 6, 0, 0, []), (.bipush 20, 2, 20, 0, 0, 0, []), (.if_icmp .ge 92, 3, 0, 124, 0, 0, []), (.iload 6, 2, 0, 6, 0, 0, []), (.iconst 4, 1, 4, 0, 0, 0, []), (.if_icmp .ge 7, 3, 0, 45, 0, 0, []), (.iload_n 1, 1, 0, 1, 0, 0, []), (.goto 39, 3, 0, 81, 0, 0, [])]
theorem k_X12_feed_28 : zk_ckb 12 false (zk_m 162) B_X12_feed_28 28 = true := by decide +kernel
def B_X12_feed_45 : List zk_I := [(.iload 6, 2, 0, 6, 0, 0, []), (.bipush 8, 2, 8, 0, 0, 0, []), (.if_icmp .ge 7, 3, 0, 56, 0, 0, []), (.iload_n 2, 1, 0, 2, 0, 0, []), (.goto 28, 3, 0, 81, 0, 0, [])]
theorem k_X12_feed_45 : zk_ckb 12 false (zk_m 162) B_X12_feed_45 45 = true := by decide +kernel
def B_X12_feed_56 : List zk_I := [(.iload 6, 2, 0, 6, 0, 0, []), (.bipush 12, 2, 12, 0, 0, 0, []), (.if_icmp .ge 7, 3, 0, 67, 0, 0, []), (.iload_n 3, 1, 0, 3, 0, 0, []), (.goto 17, 3, 0, 81, 0, 0, [])]
theorem k_X12_feed_56 : zk_ckb 12 false (zk_m 162) B_X12_feed_56 56 = true := by decide +kernel
def B_X12_feed_67 : List zk_I := [(.iload 6, 2, 0, 6, 0, 0, []), (.bipush 16, 2, 16, 0, 0, 0, []), (.if_icmp .ge 8, 3, 0, 79, 0, 0, []), (.iload 4, 2, 0, 4, 0, 0, []), (.goto 5, 3, 0, 81, 0, 0, [])]
theorem k_X12_feed_67 : zk_ckb 12 false (zk_m 162) B_X12_feed_67 67 = true := by decide +kernel
def B_X12_feed_79 : List zk_I := [(.iload 5, 2, 0, 5, 0, 0, [])]
theorem k_X12_feed_79 : zk_ckb 12 false (zk_m 162) B_X12_feed_79 79 = true := by decide +kernel
def B_X12_feed_81 : List zk_I := [(.istore 7, 2, 0, 7, 0, 0, []), (.aload_n 0, 1, 0, 0, 0, 0, []), (.getfield 7, 3, 0, 12, 0, 0, []), (.aload_n 0, 1, 0, 0, 0, 0, []), (.getfield 242, 3, 0, 12, 1, 0, []), (.iload 7, 2, 0, 7, 0, 0, []), (.bipush 8, 2, 8, 0, 0, 0, []), (.iconst 3, 1, 3, 0, 0, 0, []), (.iload 6, 2, 0, 6, 0, 0, []), (.iconst 4, 1, 4, 0, 0, 0, []), (.irem, 1, 0, 0, 0, 0, []), (.isub, 1, 0, 0, 0, 0, []), (.imul, 1, 0, 0, 0, 0, []), (.ishr, 1, 0, 0, 0, 0, []), (.sipush 255, 3, 255, 0, 0, 0, []), (.iand, 1, 0, 0, 0, 0, []), (.iastore, 1, 0, 0, 0, 0, []), (.aload_n 0, 1, 0, 0, 0, 0, []), (.dup, 1, 0, 0, 0, 0, []), (.getfield 242, 3, 0, 12, 1, 0, []), (.iconst 1, 1, 1, 0, 0, 0, []), (.iadd, 1, 0, 0, 0, 0, []), (.putfield 242, 3, 0, 12, 1, 0, []), (.iinc 6 1, 3, 1, 6, 0, 0, []), (.goto (-93), 3, 0, 28, 0, 0, [])]
theorem k_X12_feed_81 : zk_ckb 12 false (zk_m 162) B_X12_feed_81 81 = true := by decide +kernel
def B_X12_feed_124 : List zk_I := [(.aload_n 0, 1, 0, 0, 0, 0, []), (.getfield 242, 3, 0, 12, 1, 0, []), (.ireturn, 1, 0, 0, 0, 0, [])]
theorem k_X12_feed_124 : zk_ckb 12 false (zk_m 162) B_X12_feed_124 124 = true := by decide +kernel
def B_X12_whose_0 : List zk_I := [(.aload_n 0, 1, 0, 0, 0, 0, []), (.getfield 242, 3, 0, 12, 1, 0, []), (.istore_n 1, 1, 0, 1, 0, 0, []), (.aload_n 0, 1, 0, 0, 0, 0, []), (.iconst 0, 1, 0, 0, 0, 0, []), (.putfield 242, 3, 0, 12, 1, 0, []), (.iload_n 1, 1, 0, 1, 0, 0, []), (.i2l, 1, 0, 0, 0, 0, []), (.lconst 1, 1, 0, 1, 0, 0, []), (.ldc2_w 575, 3, 0, 10, 0, 0, []), (.invokestatic 285, 3, 0, 3, 161, 12, []), (.istore_n 2, 1, 0, 2, 0, 0, []), (.iconst 0, 1, 0, 0, 0, 0, []), (.istore_n 3, 1, 0, 3, 0, 0, [])]
theorem k_X12_whose_0 : zk_ckb 12 false (zk_m 259) B_X12_whose_0 0 = true := by decide +kernel
def B_X12_whose_22 : List zk_I := [(.iload_n 3, 1, 0, 3, 0, 0, []), (.iload_n 1, 1, 0, 1, 0, 0, []), (.if_icmp .ge 24, 3, 0, 48, 0, 0, []), (.iload_n 2, 1, 0, 2, 0, 0, []), (.ifCond .eq 20, 3, 0, 48, 0, 0, []), (.aload_n 0, 1, 0, 0, 0, 0, []), (.aload_n 0, 1, 0, 0, 0, 0, []), (.getfield 7, 3, 0, 12, 0, 0, []), (.iload_n 3, 1, 0, 3, 0, 0, []), (.iaload, 1, 0, 0, 0, 0, []), (.invokevirtual 528, 3, 0, 2, 211, 12, []), (.istore_n 2, 1, 0, 2, 0, 0, []), (.iinc 3 1, 3, 1, 3, 0, 0, []), (.goto (-23), 3, 0, 22, 0, 0, [])]
theorem k_X12_whose_22 : zk_ckb 12 false (zk_m 259) B_X12_whose_22 22 = true := by decide +kernel
def B_X12_whose_48 : List zk_I := [(.iload_n 2, 1, 0, 2, 0, 0, []), (.ifCond .ne 15, 3, 0, 64, 0, 0, []), (.aload_n 0, 1, 0, 0, 0, 0, []), (.getfield 17, 3, 0, 12, 9, 0, []), (.iconst 1, 1, 1, 0, 0, 0, []), (.dup2, 1, 0, 0, 0, 0, []), (.iaload, 1, 0, 0, 0, 0, []), (.iconst 1, 1, 1, 0, 0, 0, []), (.iadd, 1, 0, 0, 0, 0, []), (.iastore, 1, 0, 0, 0, 0, []), (.iconst (-1), 1, (-1), 0, 0, 0, []), (.ireturn, 1, 0, 0, 0, 0, [])]
theorem k_X12_whose_48 : zk_ckb 12 false (zk_m 259) B_X12_whose_48 48 = true := by decide +kernel
def B_X12_whose_64 : List zk_I := [(.iconst 1, 1, 1, 0, 0, 0, []), (.aload_n 0, 1, 0, 0, 0, 0, []), (.invokevirtual 452, 3, 0, 1, 207, 12, []), (.ishl, 1, 0, 0, 0, 0, []), (.iconst 1, 1, 1, 0, 0, 0, []), (.isub, 1, 0, 0, 0, 0, []), (.istore_n 3, 1, 0, 3, 0, 0, []), (.iconst 0, 1, 0, 0, 0, 0, []), (.istore 4, 2, 0, 4, 0, 0, [])]
theorem k_X12_whose_64 : zk_ckb 12 false (zk_m 259) B_X12_whose_64 64 = true := by decide +kernel
def B_X12_whose_76 : List zk_I := [(.iload 4, 2, 0, 4, 0, 0, []), (.iload_n 1, 1, 0, 1, 0, 0, []), (.if_icmp .ge 23, 3, 0, 102, 0, 0, []), (.iload_n 3, 1, 0, 3, 0, 0, []), (.aload_n 0, 1, 0, 0, 0, 0, []), (.aload_n 0, 1, 0, 0, 0, 0, []), (.getfield 7, 3, 0, 12, 0, 0, []), (.iload 4, 2, 0, 4, 0, 0, []), (.iaload, 1, 0, 0, 0, 0, []), (.invokevirtual 531, 3, 0, 2, 217, 12, []), (.iand, 1, 0, 0, 0, 0, []), (.istore_n 3, 1, 0, 3, 0, 0, []), (.iinc 4 1, 3, 1, 4, 0, 0, []), (.goto (-23), 3, 0, 76, 0, 0, [])]
theorem k_X12_whose_76 : zk_ckb 12 false (zk_m 259) B_X12_whose_76 76 = true := by decide +kernel
def B_X12_whose_102 : List zk_I := [(.iload_n 3, 1, 0, 3, 0, 0, []), (.ireturn, 1, 0, 0, 0, 0, [])]
theorem k_X12_whose_102 : zk_ckb 12 false (zk_m 259) B_X12_whose_102 102 = true := by decide +kernel
def B_X12_keeps_0 : List zk_I := [(.aload_n 0, 1, 0, 0, 0, 0, []), (.aload_n 0, 1, 0, 0, 0, 0, []), (.getfield 590, 3, 0, 12, 71, 0, []), (.iconst 1, 1, 1, 0, 0, 0, []), (.iadd, 1, 0, 0, 0, 0, []), (.bipush 20, 2, 20, 0, 0, 0, []), (.irem, 1, 0, 0, 0, 0, []), (.putfield 590, 3, 0, 12, 71, 0, []), (.iconst 0, 1, 0, 0, 0, 0, []), (.istore_n 1, 1, 0, 1, 0, 0, [])]
theorem k_X12_keeps_0 : zk_ckb 12 false (zk_m 265) B_X12_keeps_0 0 = true := by decide +kernel
def B_X12_keeps_15 : List zk_I := [(.iload_n 1, 1, 0, 1, 0, 0, []), (.sipush 147, 3, 147, 0, 0, 0, []), (.if_icmp .ge 30, 3, 0, 49, 0, 0, []), (.aload_n 0, 1, 0, 0, 0, 0, []), (.getfield 166, 3, 0, 12, 69, 0, []), (.sipush 147, 3, 147, 0, 0, 0, []), (.aload_n 0, 1, 0, 0, 0, 0, []), (.getfield 590, 3, 0, 12, 71, 0, []), (.imul, 1, 0, 0, 0, 0, []), (.iload_n 1, 1, 0, 1, 0, 0, []), (.iadd, 1, 0, 0, 0, 0, []), (.aload_n 0, 1, 0, 0, 0, 0, []), (.getfield 154, 3, 0, 12, 62, 0, []), (.iload_n 1, 1, 0, 1, 0, 0, []), (.iaload, 1, 0, 0, 0, 0, []), (.iastore, 1, 0, 0, 0, 0, []), (.iinc 1 1, 3, 1, 1, 0, 0, []), (.goto (-31), 3, 0, 15, 0, 0, [])]
theorem k_X12_keeps_15 : zk_ckb 12 false (zk_m 265) B_X12_keeps_15 15 = true := by decide +kernel
def B_X12_keeps_49 : List zk_I := [(.aload_n 0, 1, 0, 0, 0, 0, []), (.getfield 384, 3, 0, 12, 70, 0, []), (.bipush 20, 2, 20, 0, 0, 0, []), (.if_icmp .ge 13, 3, 0, 68, 0, 0, []), (.aload_n 0, 1, 0, 0, 0, 0, []), (.dup, 1, 0, 0, 0, 0, []), (.getfield 384, 3, 0, 12, 70, 0, []), (.iconst 1, 1, 1, 0, 0, 0, []), (.iadd, 1, 0, 0, 0, 0, []), (.putfield 384, 3, 0, 12, 70, 0, [])]
theorem k_X12_keeps_49 : zk_ckb 12 false (zk_m 265) B_X12_keeps_49 49 = true := by decide +kernel
def B_X12_keeps_68 : List zk_I := [(.return_, 1, 0, 0, 0, 0, [])]
theorem k_X12_keeps_68 : zk_ckb 12 false (zk_m 265) B_X12_keeps_68 68 = true := by decide +kernel
def B_X12_undo_0 : List zk_I := [(.aload_n 0, 1, 0, 0, 0, 0, []), (.getfield 384, 3, 0, 12, 70, 0, []), (.ifCond .ne 15, 3, 0, 19, 0, 0, []), (.aload_n 0, 1, 0, 0, 0, 0, []), (.getfield 17, 3, 0, 12, 9, 0, []), (.iconst 4, 1, 4, 0, 0, 0, []), (.dup2, 1, 0, 0, 0, 0, []), (.iaload, 1, 0, 0, 0, 0, []), (.iconst 1, 1, 1, 0, 0, 0, []), (.iadd, 1, 0, 0, 0, 0, []), (.iastore, 1, 0, 0, 0, 0, []), (.iconst 0, 1, 0, 0, 0, 0, []), (.ireturn, 1, 0, 1, 0, 0, [])]
theorem k_X12_undo_0 : zk_ckb 12 false (zk_m 266) B_X12_undo_0 0 = true := by decide +kernel
def B_X12_undo_19 : List zk_I := [(.iconst 0, 1, 0, 0, 0, 0, []), (.istore_n 1, 1, 0, 1, 0, 0, [])]
theorem k_X12_undo_19 : zk_ckb 12 false (zk_m 266) B_X12_undo_19 19 = true := by decide +kernel
def B_X12_undo_21 : List zk_I := [(.iload_n 1, 1, 0, 1, 0, 0, []), (.sipush 147, 3, 147, 0, 0, 0, []), (.if_icmp .ge 30, 3, 0, 55, 0, 0, []), (.aload_n 0, 1, 0, 0, 0, 0, []), (.getfield 154, 3, 0, 12, 62, 0, []), (.iload_n 1, 1, 0, 1, 0, 0, []), (.aload_n 0, 1, 0, 0, 0, 0, []), (.getfield 166, 3, 0, 12, 69, 0, []), (.sipush 147, 3, 147, 0, 0, 0, []), (.aload_n 0, 1, 0, 0, 0, 0, []), (.getfield 590, 3, 0, 12, 71, 0, []), (.imul, 1, 0, 0, 0, 0, []), (.iload_n 1, 1, 0, 1, 0, 0, []), (.iadd, 1, 0, 0, 0, 0, []), (.iaload, 1, 0, 0, 0, 0, []), (.iastore, 1, 0, 0, 0, 0, []), (.iinc 1 1, 3, 1, 1, 0, 0, []), (.goto (-31), 3, 0, 21, 0, 0, [])]
theorem k_X12_undo_21 : zk_ckb 12 false (zk_m 266) B_X12_undo_21 21 = true := by decide +kernel
def B_X12_undo_55 : List zk_I := [(.aload_n 0, 1, 0, 0, 0, 0, []), (.aload_n 0, 1, 0, 0, 0, 0, []), (.getfield 590, 3, 0, 12, 71, 0, []), (.bipush 20, 2, 20, 0, 0, 0, []), (.iadd, 1, 0, 0, 0, 0, []), (.iconst 1, 1, 1, 0, 0, 0, []), (.isub, 1, 0, 0, 0, 0, []), (.bipush 20, 2, 20, 0, 0, 0, []), (.irem, 1, 0, 0, 0, 0, []), (.putfield 590, 3, 0, 12, 71, 0, []), (.aload_n 0, 1, 0, 0, 0, 0, []), (.dup, 1, 0, 0, 0, 0, []), (.getfield 384, 3, 0, 12, 70, 0, []), (.iconst 1, 1, 1, 0, 0, 0, []), (.isub, 1, 0, 0, 0, 0, []), (.putfield 384, 3, 0, 12, 70, 0, []), (.iconst 1, 1, 1, 0, 0, 0, []), (.ireturn, 1, 0, 1, 0, 0, [])]
theorem k_X12_undo_55 : zk_ckb 12 false (zk_m 266) B_X12_undo_55 55 = true := by decide +kernel
def B_X12_say_0 : List zk_I := [(.aload_n 0, 1, 0, 0, 0, 0, []), (.iload_n 1, 1, 0, 1, 0, 0, []), (.invokevirtual 534, 3, 0, 2, 210, 12, []), (.ifCond .eq 20, 3, 0, 25, 0, 0, []), (.aload_n 0, 1, 0, 0, 0, 0, []), (.iload_n 2, 1, 0, 2, 0, 0, []), (.invokevirtual 528, 3, 0, 2, 211, 12, []), (.ifCond .eq 12, 3, 0, 25, 0, 0, []), (.aload_n 0, 1, 0, 0, 0, 0, []), (.iload_n 1, 1, 0, 1, 0, 0, []), (.iload_n 2, 1, 0, 2, 0, 0, []), (.invokevirtual 464, 3, 0, 3, 215, 12, []), (.ifCond .ne 15, 3, 0, 37, 0, 0, [])]
theorem k_X12_say_0 : zk_ckb 12 false (zk_m 267) B_X12_say_0 0 = true := by decide +kernel
def B_X12_say_25 : List zk_I := [(.aload_n 0, 1, 0, 0, 0, 0, []), (.getfield 17, 3, 0, 12, 9, 0, []), (.iconst 2, 1, 2, 0, 0, 0, []), (.dup2, 1, 0, 0, 0, 0, []), (.iaload, 1, 0, 0, 0, 0, []), (.iconst 1, 1, 1, 0, 0, 0, []), (.iadd, 1, 0, 0, 0, 0, []), (.iastore, 1, 0, 0, 0, 0, []), (.iconst (-1), 1, (-1), 0, 0, 0, []), (.ireturn, 1, 0, 0, 0, 0, [])]
theorem k_X12_say_25 : zk_ckb 12 false (zk_m 267) B_X12_say_25 25 = true := by decide +kernel
def B_X12_say_37 : List zk_I := [(.aload_n 0, 1, 0, 0, 0, 0, []), (.invokevirtual 593, 3, 0, 1, 265, 12, []), (.aload_n 0, 1, 0, 0, 0, 0, []), (.iload_n 1, 1, 0, 1, 0, 0, []), (.iload_n 2, 1, 0, 2, 0, 0, []), (.invokevirtual 558, 3, 0, 3, 236, 12, []), (.ireturn, 1, 0, 0, 0, 0, [])]
theorem k_X12_say_37 : zk_ckb 12 false (zk_m 267) B_X12_say_37 37 = true := by decide +kernel
def B_X12_take_0 : List zk_I := [(.aload_n 0, 1, 0, 0, 0, 0, []), (.iload_n 1, 1, 0, 1, 0, 0, []), (.invokevirtual 534, 3, 0, 2, 210, 12, []), (.ifCond .eq 33, 3, 0, 38, 0, 0, []), (.aload_n 0, 1, 0, 0, 0, 0, []), (.iload_n 2, 1, 0, 2, 0, 0, []), (.invokevirtual 528, 3, 0, 2, 211, 12, []), (.ifCond .eq 25, 3, 0, 38, 0, 0, []), (.aload_n 0, 1, 0, 0, 0, 0, []), (.aload_n 0, 1, 0, 0, 0, 0, []), (.iload_n 1, 1, 0, 1, 0, 0, []), (.invokevirtual 470, 3, 0, 2, 214, 12, []), (.iload_n 2, 1, 0, 2, 0, 0, []), (.invokevirtual 458, 3, 0, 3, 219, 12, []), (.ifCond .eq 12, 3, 0, 38, 0, 0, []), (.aload_n 0, 1, 0, 0, 0, 0, []), (.iload_n 1, 1, 0, 1, 0, 0, []), (.iload_n 2, 1, 0, 2, 0, 0, []), (.invokevirtual 505, 3, 0, 3, 226, 12, []), (.ifCond .ne 15, 3, 0, 50, 0, 0, [])]
theorem k_X12_take_0 : zk_ckb 12 false (zk_m 268) B_X12_take_0 0 = true := by decide +kernel
def B_X12_take_38 : List zk_I := [(.aload_n 0, 1, 0, 0, 0, 0, []), (.getfield 17, 3, 0, 12, 9, 0, []), (.iconst 2, 1, 2, 0, 0, 0, []), (.dup2, 1, 0, 0, 0, 0, []), (.iaload, 1, 0, 0, 0, 0, []), (.iconst 1, 1, 1, 0, 0, 0, []), (.iadd, 1, 0, 0, 0, 0, []), (.iastore, 1, 0, 0, 0, 0, []), (.iconst 0, 1, 0, 0, 0, 0, []), (.ireturn, 1, 0, 1, 0, 0, [])]
theorem k_X12_take_38 : zk_ckb 12 false (zk_m 268) B_X12_take_38 38 = true := by decide +kernel
def B_X12_take_50 : List zk_I := [(.aload_n 0, 1, 0, 0, 0, 0, []), (.invokevirtual 593, 3, 0, 1, 265, 12, []), (.aload_n 0, 1, 0, 0, 0, 0, []), (.iload_n 1, 1, 0, 1, 0, 0, []), (.invokevirtual 470, 3, 0, 2, 214, 12, []), (.istore_n 3, 1, 0, 3, 0, 0, []), (.aload_n 0, 1, 0, 0, 0, 0, []), (.iload_n 3, 1, 0, 3, 0, 0, []), (.iload_n 2, 1, 0, 2, 0, 0, []), (.invokevirtual 458, 3, 0, 3, 219, 12, []), (.aload_n 0, 1, 0, 0, 0, 0, []), (.iload_n 2, 1, 0, 2, 0, 0, []), (.invokevirtual 433, 3, 0, 2, 212, 12, []), (.isub, 1, 0, 0, 0, 0, []), (.istore 4, 2, 0, 4, 0, 0, []), (.aload_n 0, 1, 0, 0, 0, 0, []), (.iload_n 3, 1, 0, 3, 0, 0, []), (.iload_n 2, 1, 0, 2, 0, 0, []), (.iload 4, 2, 0, 4, 0, 0, []), (.ifCond .ge 7, 3, 0, 86, 0, 0, []), (.iconst 0, 1, 0, 0, 0, 0, []), (.goto 5, 3, 0, 88, 0, 0, [])]
theorem k_X12_take_50 : zk_ckb 12 false (zk_m 268) B_X12_take_50 50 = true := by decide +kernel
def B_X12_take_86 : List zk_I := [(.iload 4, 2, 0, 4, 0, 0, [])]
theorem k_X12_take_86 : zk_ckb 12 false (zk_m 268) B_X12_take_86 86 = true := by decide +kernel
def B_X12_take_88 : List zk_I := [(.invokevirtual 476, 3, 0, 4, 220, 12, []), (.aload_n 0, 1, 0, 0, 0, 0, []), (.iload_n 1, 1, 0, 1, 0, 0, []), (.iload_n 2, 1, 0, 2, 0, 0, []), (.invokevirtual 464, 3, 0, 3, 215, 12, []), (.aload_n 0, 1, 0, 0, 0, 0, []), (.getfield 133, 3, 0, 12, 48, 0, []), (.iconst 4, 1, 4, 0, 0, 0, []), (.iaload, 1, 0, 0, 0, 0, []), (.if_icmp .ge 15, 3, 0, 118, 0, 0, []), (.aload_n 0, 1, 0, 0, 0, 0, []), (.iload_n 1, 1, 0, 1, 0, 0, []), (.iload_n 2, 1, 0, 2, 0, 0, []), (.aload_n 0, 1, 0, 0, 0, 0, []), (.getfield 133, 3, 0, 12, 48, 0, []), (.iconst 4, 1, 4, 0, 0, 0, []), (.iaload, 1, 0, 0, 0, 0, []), (.invokevirtual 490, 3, 0, 4, 216, 12, [])]
theorem k_X12_take_88 : zk_ckb 12 false (zk_m 268) B_X12_take_88 88 = true := by decide +kernel
def B_X12_take_118 : List zk_I := [(.iconst 1, 1, 1, 0, 0, 0, []), (.ireturn, 1, 0, 1, 0, 0, [])]
theorem k_X12_take_118 : zk_ckb 12 false (zk_m 268) B_X12_take_118 118 = true := by decide +kernel
def B_X12_go_0 : List zk_I := [(.aload_n 0, 1, 0, 0, 0, 0, []), (.iload_n 1, 1, 0, 1, 0, 0, []), (.invokevirtual 534, 3, 0, 2, 210, 12, []), (.ifCond .eq 24, 3, 0, 29, 0, 0, []), (.aload_n 0, 1, 0, 0, 0, 0, []), (.iload_n 2, 1, 0, 2, 0, 0, []), (.invokevirtual 537, 3, 0, 2, 209, 12, []), (.ifCond .eq 16, 3, 0, 29, 0, 0, []), (.aload_n 0, 1, 0, 0, 0, 0, []), (.aload_n 0, 1, 0, 0, 0, 0, []), (.iload_n 1, 1, 0, 1, 0, 0, []), (.invokevirtual 470, 3, 0, 2, 214, 12, []), (.iload_n 2, 1, 0, 2, 0, 0, []), (.invokevirtual 540, 3, 0, 3, 244, 12, []), (.ifCond .ne 15, 3, 0, 41, 0, 0, [])]
theorem k_X12_go_0 : zk_ckb 12 false (zk_m 269) B_X12_go_0 0 = true := by decide +kernel
def B_X12_go_29 : List zk_I := [(.aload_n 0, 1, 0, 0, 0, 0, []), (.getfield 17, 3, 0, 12, 9, 0, []), (.iconst 2, 1, 2, 0, 0, 0, []), (.dup2, 1, 0, 0, 0, 0, []), (.iaload, 1, 0, 0, 0, 0, []), (.iconst 1, 1, 1, 0, 0, 0, []), (.iadd, 1, 0, 0, 0, 0, []), (.iastore, 1, 0, 0, 0, 0, []), (.iconst 0, 1, 0, 0, 0, 0, []), (.ireturn, 1, 0, 1, 0, 0, [])]
theorem k_X12_go_29 : zk_ckb 12 false (zk_m 269) B_X12_go_29 29 = true := by decide +kernel
def B_X12_go_41 : List zk_I := [(.aload_n 0, 1, 0, 0, 0, 0, []), (.invokevirtual 593, 3, 0, 1, 265, 12, []), (.aload_n 0, 1, 0, 0, 0, 0, []), (.getfield 154, 3, 0, 12, 62, 0, []), (.iconst 1, 1, 1, 0, 0, 0, []), (.bipush 11, 2, 11, 0, 0, 0, []), (.iload_n 1, 1, 0, 1, 0, 0, []), (.imul, 1, 0, 0, 0, 0, []), (.iadd, 1, 0, 0, 0, 0, []), (.iload_n 2, 1, 0, 2, 0, 0, []), (.iastore, 1, 0, 0, 0, 0, []), (.iconst 1, 1, 1, 0, 0, 0, []), (.ireturn, 1, 0, 1, 0, 0, [])]
theorem k_X12_go_41 : zk_ckb 12 false (zk_m 269) B_X12_go_41 41 = true := by decide +kernel
def B_X12_nights_0 : List zk_I := [(.iload_n 1, 1, 0, 1, 0, 0, []), (.iconst 1, 1, 1, 0, 0, 0, []), (.if_icmp .lt 13, 3, 0, 15, 0, 0, []), (.aload_n 0, 1, 0, 0, 0, 0, []), (.iload_n 1, 1, 0, 1, 0, 0, []), (.bipush 100, 2, 100, 0, 0, 0, []), (.invokevirtual 543, 3, 0, 3, 246, 12, []), (.ifCond .ne 8, 3, 0, 20, 0, 0, [])]
theorem k_X12_nights_0 : zk_ckb 12 false (zk_m 271) B_X12_nights_0 0 = true := by decide +kernel
def B_X12_nights_15 : List zk_I := [(.aload_n 0, 1, 0, 0, 0, 0, []), (.invokevirtual 596, 3, 0, 1, 270, 12, []), (.ireturn, 1, 0, 0, 0, 0, [])]
theorem k_X12_nights_15 : zk_ckb 12 false (zk_m 271) B_X12_nights_15 15 = true := by decide +kernel
def B_X12_nights_20 : List zk_I := [(.aload_n 0, 1, 0, 0, 0, 0, []), (.invokevirtual 593, 3, 0, 1, 265, 12, []), (.aload_n 0, 1, 0, 0, 0, 0, []), (.iconst 0, 1, 0, 0, 0, 0, []), (.putfield 480, 3, 0, 12, 65, 0, []), (.aload_n 0, 1, 0, 0, 0, 0, []), (.iload_n 1, 1, 0, 1, 0, 0, []), (.invokevirtual 549, 3, 0, 2, 235, 12, []), (.aload_n 0, 1, 0, 0, 0, 0, []), (.getfield 480, 3, 0, 12, 65, 0, []), (.ireturn, 1, 0, 0, 0, 0, [])]
theorem k_X12_nights_20 : zk_ckb 12 false (zk_m 271) B_X12_nights_20 20 = true := by decide +kernel
def B_X12_drawOf_0 : List zk_I := [(.aload_n 0, 1, 0, 0, 0, 0, []), (.ldc2_w 599, 3, 0, 1103515245, 0, 0, []), (.aload_n 0, 1, 0, 0, 0, 0, []), (.getfield 169, 3, 0, 12, 72, 0, []), (.lmul, 1, 0, 0, 0, 0, []), (.ldc2_w 601, 3, 0, 12345, 0, 0, []), (.ladd, 1, 0, 0, 0, 0, []), (.ldc2_w 603, 3, 0, 2147483648, 0, 0, []), (.lrem, 1, 0, 0, 0, 0, []), (.putfield 169, 3, 0, 12, 72, 0, []), (.aload_n 0, 1, 0, 0, 0, 0, []), (.getfield 169, 3, 0, 12, 72, 0, []), (.ldc2_w 605, 3, 0, 64, 0, 0, []), (.ldiv, 1, 0, 0, 0, 0, []), (.iload_n 1, 1, 0, 1, 0, 0, []), (.i2l, 1, 0, 0, 0, 0, []), (.lrem, 1, 0, 0, 0, 0, []), (.l2i, 1, 0, 0, 0, 0, []), (.ireturn, 1, 0, 0, 0, 0, [])]
theorem k_X12_drawOf_0 : zk_ckb 12 false (zk_m 273) B_X12_drawOf_0 0 = true := by decide +kernel
def B_X12_busyDay_0 : List zk_I := [(.aload_n 0, 1, 0, 0, 0, 0, []), (.bipush 100, 2, 100, 0, 0, 0, []), (.invokevirtual 607, 3, 0, 2, 273, 12, []), (.aload_n 0, 1, 0, 0, 0, 0, []), (.getfield 133, 3, 0, 12, 48, 0, []), (.bipush 7, 2, 7, 0, 0, 0, []), (.iaload, 1, 0, 0, 0, 0, []), (.if_icmp .ge 17, 3, 0, 30, 0, 0, []), (.aload_n 0, 1, 0, 0, 0, 0, []), (.invokevirtual 452, 3, 0, 1, 207, 12, []), (.ifCond .eq 10, 3, 0, 30, 0, 0, []), (.aload_n 0, 1, 0, 0, 0, 0, []), (.invokevirtual 455, 3, 0, 1, 208, 12, []), (.ifCond .ne 5, 3, 0, 32, 0, 0, [])]
theorem k_X12_busyDay_0 : zk_ckb 12 false (zk_m 274) B_X12_busyDay_0 0 = true := by decide +kernel
def B_X12_busyDay_30 : List zk_I := [(.iconst (-1), 1, (-1), 0, 0, 0, []), (.ireturn, 1, 0, 0, 0, 0, [])]
theorem k_X12_busyDay_30 : zk_ckb 12 false (zk_m 274) B_X12_busyDay_30 30 = true := by decide +kernel
def B_X12_busyDay_32 : List zk_I := [(.aload_n 0, 1, 0, 0, 0, 0, []), (.aload_n 0, 1, 0, 0, 0, 0, []), (.invokevirtual 452, 3, 0, 1, 207, 12, []), (.invokevirtual 607, 3, 0, 2, 273, 12, []), (.istore_n 1, 1, 0, 1, 0, 0, []), (.aload_n 0, 1, 0, 0, 0, 0, []), (.aload_n 0, 1, 0, 0, 0, 0, []), (.invokevirtual 455, 3, 0, 1, 208, 12, []), (.invokevirtual 607, 3, 0, 2, 273, 12, []), (.istore_n 2, 1, 0, 2, 0, 0, []), (.aload_n 0, 1, 0, 0, 0, 0, []), (.iload_n 1, 1, 0, 1, 0, 0, []), (.iload_n 2, 1, 0, 2, 0, 0, []), (.invokevirtual 464, 3, 0, 3, 215, 12, []), (.ifCond .le 12, 3, 0, 68, 0, 0, []), (.aload_n 0, 1, 0, 0, 0, 0, []), (.iload_n 1, 1, 0, 1, 0, 0, []), (.iload_n 2, 1, 0, 2, 0, 0, []), (.invokevirtual 558, 3, 0, 3, 236, 12, []), (.goto 4, 3, 0, 69, 0, 0, [])]
theorem k_X12_busyDay_32 : zk_ckb 12 false (zk_m 274) B_X12_busyDay_32 32 = true := by decide +kernel
def B_X12_busyDay_68 : List zk_I := [(.iconst (-1), 1, (-1), 0, 0, 0, [])]
theorem k_X12_busyDay_68 : zk_ckb 12 false (zk_m 274) B_X12_busyDay_68 68 = true := by decide +kernel
def B_X12_busyDay_69 : List zk_I := [(.ireturn, 1, 0, 0, 0, 0, [])]
theorem k_X12_busyDay_69 : zk_ckb 12 false (zk_m 274) B_X12_busyDay_69 69 = true := by decide +kernel
def B_X12_days_0 : List zk_I := [(.iload_n 1, 1, 0, 1, 0, 0, []), (.iconst 1, 1, 1, 0, 0, 0, []), (.if_icmp .lt 13, 3, 0, 15, 0, 0, []), (.aload_n 0, 1, 0, 0, 0, 0, []), (.iload_n 1, 1, 0, 1, 0, 0, []), (.bipush 100, 2, 100, 0, 0, 0, []), (.invokevirtual 543, 3, 0, 3, 246, 12, []), (.ifCond .ne 8, 3, 0, 20, 0, 0, [])]
theorem k_X12_days_0 : zk_ckb 12 false (zk_m 275) B_X12_days_0 0 = true := by decide +kernel
def B_X12_days_15 : List zk_I := [(.aload_n 0, 1, 0, 0, 0, 0, []), (.invokevirtual 596, 3, 0, 1, 270, 12, []), (.ireturn, 1, 0, 0, 0, 0, [])]
theorem k_X12_days_15 : zk_ckb 12 false (zk_m 275) B_X12_days_15 15 = true := by decide +kernel
def B_X12_days_20 : List zk_I := [(.aload_n 0, 1, 0, 0, 0, 0, []), (.invokevirtual 593, 3, 0, 1, 265, 12, []), (.aload_n 0, 1, 0, 0, 0, 0, []), (.iconst 0, 1, 0, 0, 0, 0, []), (.putfield 480, 3, 0, 12, 65, 0, []), (.iconst 0, 1, 0, 0, 0, 0, []), (.istore_n 2, 1, 0, 2, 0, 0, [])]
theorem k_X12_days_20 : zk_ckb 12 false (zk_m 275) B_X12_days_20 20 = true := by decide +kernel
def B_X12_days_31 : List zk_I := [(.iload_n 2, 1, 0, 2, 0, 0, []), (.iload_n 1, 1, 0, 1, 0, 0, []), (.if_icmp .ge 21, 3, 0, 54, 0, 0, []), (.aload_n 0, 1, 0, 0, 0, 0, []), (.aload_n 0, 1, 0, 0, 0, 0, []), (.invokevirtual 610, 3, 0, 1, 274, 12, []), (.putfield 613, 3, 0, 12, 73, 0, []), (.aload_n 0, 1, 0, 0, 0, 0, []), (.invokevirtual 515, 3, 0, 1, 234, 12, []), (.iinc 2 1, 3, 1, 2, 0, 0, []), (.goto (-20), 3, 0, 31, 0, 0, [])]
theorem k_X12_days_31 : zk_ckb 12 false (zk_m 275) B_X12_days_31 31 = true := by decide +kernel
def B_X12_days_54 : List zk_I := [(.aload_n 0, 1, 0, 0, 0, 0, []), (.getfield 480, 3, 0, 12, 65, 0, []), (.ireturn, 1, 0, 0, 0, 0, [])]
theorem k_X12_days_54 : zk_ckb 12 false (zk_m 275) B_X12_days_54 54 = true := by decide +kernel
/-- a byte of a number -/
def sp_by (x : Int32) (i : Nat) : Int32 := (x >>> (nI (8 * (3 - i % 4)) &&& 31)) &&& 255
theorem sp_by_r (x : Int32) (i : Nat) : ∃ b, b ≤ 255 ∧ sp_by x i = nI b := by
  unfold sp_by
  generalize x >>> (nI (8 * (3 - i % 4)) &&& 31) = y
  refine ⟨y.toBitVec.toNat % 256, by omega, ?_⟩
  have h : y = nI y.toBitVec.toNat := by
    apply Int32.toBitVec_inj.mp
    show y.toBitVec = BitVec.ofNat 32 y.toBitVec.toNat
    simp
  conv => lhs; rw [h]
  exact fa_mask _ 8
theorem sp_sh4 : ∀ k, k < 20 → (8 : Int32) * (3 - (nI k - nI k / 4 * 4)) = nI (8 * (3 - k % 4)) := by decide +kernel
def sp_ar (a b c d e : Int32) (k : Nat) : Int32 := if k < 4 then a else if k < 8 then b else if k < 12 then c else if k < 16 then d else e
theorem lm_mul {a b : Nat} (ha : a < 9223372036854775808) (hb : b < 9223372036854775808) (h : a * b < 9223372036854775808) : lI a * lI b = lI ((a * b : Nat) : Int) := by
  apply lI_eqv
  have h9 : (a : Int) * (b : Int) = ((a * b : Nat) : Int) := by simp
  rw [fb_mulL] <;> rw [lI_toInt (by omega) (by omega), lI_toInt (by omega) (by omega), h9] <;> omega
theorem lm_add {a b : Nat} (h : a + b < 9223372036854775808) : lI a + lI b = lI ((a + b : Nat) : Int) := by
  apply lI_eqv
  rw [Int64.toInt_add, lI_toInt (by omega) (by omega), lI_toInt (by omega) (by omega)]
  rw [fb_bmodL (by omega) (by omega)]
  omega
theorem lm_div {a b : Nat} (ha : a < 9223372036854775808) (hb : b < 9223372036854775808) : lI a / lI b = lI ((a / b : Nat) : Int) := by
  apply lI_eqv
  rw [Int64.toInt_div, lI_toInt (by omega) (by omega), lI_toInt (by omega) (by omega)]
  have h : ((a : Int).tdiv (b : Int)) = ((a / b : Nat) : Int) := rfl
  have h2 : a / b ≤ a := Nat.div_le_self a b
  rw [h]
  generalize a / b = c at h2
  rw [fb_bmodL (by omega) (by omega)]
theorem lm_sub {a b : Nat} (hb : b ≤ a) (h : a < 9223372036854775808) : lI a - lI b = lI ((a - b : Nat) : Int) := by
  apply lI_eqv
  rw [Int64.toInt_sub, lI_toInt (by omega) (by omega), lI_toInt (by omega) (by omega)]
  rw [fb_bmodL (by omega) (by omega)]
  omega
theorem lm_rem {a b : Nat} (ha : a < 9223372036854775808) (hb : b < 9223372036854775808) : lI a - lI a / lI b * lI b = lI ((a % b : Nat) : Int) := by
  have h1 : a / b * b ≤ a := Nat.div_mul_le_self a b
  have h2 : a / b ≤ a := Nat.div_le_self a b
  rw [lm_div ha hb, lm_mul (by omega) hb (by omega), lm_sub h1 ha]
  have h3 := Nat.div_add_mod a b
  rw [Nat.mul_comm] at h3
  congr 2
  omega
theorem lm_n0 {a : Nat} (ha : 0 < a) (h : a < 9223372036854775808) : (lI a = 0) = False := by
  rw [show (0 : Int64) = lI 0 from rfl, lI_eq (by omega) (by omega) (by omega) (by omega)]
  simp
  omega
theorem lm_i {a : Nat} (h : a < 2147483648) : (nI a).toInt64 = lI a := lI_eqv (by rw [Int32.toInt_toInt64, nI_toInt (by omega)])
theorem im_l {a : Nat} (h : a < 2147483648) : (lI (a : Int)).toInt32 = nI a := by rw [iI_l (by omega) (by omega)]; rfl
def sp_draw (x : Nat) : Nat := (1103515245 * x + 12345) % 2147483648
theorem sp_draw_lt (x : Nat) : sp_draw x < 2147483648 := Nat.mod_lt _ (by decide)
def sp_busy (V : sp_V) (s : sp_S) (x : Nat) : sp_S × Nat :=
  if vBs V ≤ sp_draw x / 64 % 100 ∨ vNq V = 0 ∨ vNt V = 0 then (s, sp_draw x)
  else if sPt s (sp_draw (sp_draw x) / 64 % vNq V) (sp_draw (sp_draw (sp_draw x)) / 64 % vNt V) = 0 then (s, sp_draw (sp_draw (sp_draw x)))
  else ((sDay s, sSt s, (sp_hr V (sDay s) (sSt s) (sPt s) (sp_draw (sp_draw x) / 64 % vNq V) (sp_draw (sp_draw (sp_draw x)) / 64 % vNt V) (vNq V)).1, sLy s, sGn s, sLo s), sp_draw (sp_draw (sp_draw x)))
def sp_dy (V : sp_V) (s : sp_S) (x : Nat) : Nat → sp_S × Nat × Nat
  | 0 => (s, x, 0)
  | k + 1 => (sp_night V 0 (sp_busy V (sp_dy V s x k).1 (sp_dy V s x k).2.1).1, (sp_busy V (sp_dy V s x k).1 (sp_dy V s x k).2.1).2, (sp_dy V s x k).2.2 + (sp_nx V (sp_busy V (sp_dy V s x k).1 (sp_dy V s x k).2.1).1).2.2.1)
theorem sp_busy_ok {V : sp_V} {s : sp_S} (h : sp_sok V s) (x : Nat) : sp_sok V (sp_busy V s x).1 ∧ sDay (sp_busy V s x).1 = sDay s ∧ (sp_busy V s x).2 < 2147483648 := by
  unfold sp_busy
  by_cases h1 : vBs V ≤ sp_draw x / 64 % 100 ∨ vNq V = 0 ∨ vNt V = 0
  · rw [if_pos h1]; exact ⟨h, rfl, sp_draw_lt _⟩
  · rw [if_neg h1]
    have hq : 0 < vNq V := by omega
    have ht : 0 < vNt V := by omega
    split
    · exact ⟨h, rfl, sp_draw_lt _⟩
    · exact ⟨⟨sp_hr_kok h.1 (Nat.mod_lt _ hq) (Nat.mod_lt _ ht) _ (Nat.le_refl _), h.2⟩, rfl, sp_draw_lt _⟩
theorem sp_dy_ok {V : sp_V} {s : sp_S} (h : sp_sok V s) {x : Nat} (hx : x < 2147483648) : ∀ k, sDay s + k ≤ 10000 → sp_sok V (sp_dy V s x k).1 ∧ sDay (sp_dy V s x k).1 = sDay s + k ∧ (sp_dy V s x k).2.1 < 2147483648
  | 0, _ => ⟨h, rfl, hx⟩
  | k + 1, hk => by
    have ih := sp_dy_ok h hx k (by omega)
    have hb := sp_busy_ok ih.1 (sp_dy V s x k).2.1
    exact ⟨sp_night_ok hb.1 (by rw [hb.2.1, ih.2.1]; omega), by show sDay (sp_busy V _ _).1 + 1 = _; rw [hb.2.1, ih.2.1]; omega, hb.2.2⟩
theorem sp_dy_le {V : sp_V} (hw : sp_vw V) {s : sp_S} {x : Nat} : ∀ k, (sp_dy V s x k).2.2 ≤ 60 * k
  | 0 => Nat.le_refl _
  | k + 1 => by
    have ih := sp_dy_le hw (s := s) (x := x) k
    have := sp_nx_le hw (sp_busy V (sp_dy V s x k).1 (sp_dy V s x k).2.1).1
    show (sp_dy V s x k).2.2 + _ ≤ _
    omega
/-- what is kept -/
def zq_past (M : zk_MI) (V : sp_V) (pl : List sp_S) : Prop := M 79 70 = nI pl.length ∧ pl.length ≤ 20 ∧ ∃ nw, nw < 20 ∧ M 79 71 = nI nw ∧ ∀ i s, pl[i]? = some s → zq_S (fun k => M 130 (147 * ((nw + 20 - i) % 20) + k)) V s
def sp_keepL (s : sp_S) (pl : List sp_S) : List sp_S := (s :: pl).take 20
def sp_goS (p q : Nat) (s : sp_S) : sp_S := (sDay s, sp_up1 (sSt s) p q, sPt s, sLy s, sGn s, sLo s)
section MAc
variable {G : zk_G} {n : Nat} {M : zk_MI} {L : zk_ML} {P : zk_MP}
theorem cm_feed (hn : 154 ≤ n) (hP : zs_M P) {T : Nat} (hT : T ≤ 1600) (hs : M 79 1 = nI T) (a b c d e : Int32) :
    zk_C G 1 162 [.ref 79, .int a, .int b, .int c, .int d, .int e] n M L P n (fun r M' L' P' => L' = L ∧ P' = P ∧
      ((1580 < T → r = some (.int (-1)) ∧ M' = zk_up M 81 0 (M 81 0 + 1)) ∧ (T ≤ 1580 → r = some (.int (nI (T + 20))) ∧ M' 79 1 = nI (T + 20) ∧ (∀ j, j ≠ 1 → M' 79 j = M 79 j) ∧ (∀ q, q ≠ 79 → q ≠ 80 → M' q = M q) ∧ (∀ k, k < T → M' 80 k = M 80 k) ∧ ∀ k, k < 20 → M' 80 (T + k) = sp_by (sp_ar a b c d e k) k))) := by
  refine zk_meth (ow := 12) (kind := 1) (k := 5) (nL := 8) (ct := false) (l0 := [.ref 79, .int a, .int b, .int c, .int d, .int e, zk_un, zk_un]) (by decide +kernel) (fun h => by cases h) (by decide +kernel) (by decide) (by decide) (fun h => absurd h (by decide)) (Nat.le_of_ble_eq_true rfl) rfl (by omega) (fun Z hZ => ?_)
  have ho := zo_M hn
  have hP2 := hP
  unfold zs_M at hP2
  have e1 : nI T + 20 = nI (T + 20) := by rw [fa_lit 20, nI_add]
  have e2 : (nI (T + 20) ≤ (1600 : Int32)) = (T + 20 ≤ 1600) := by rw [fa_lit 1600, zn_le (by omega) (by omega)]
  refine hZ B_X12_feed_0 _ _ _ _ _ _ _ k_X12_feed_0 ?_
  simp only [B_X12_feed_0, zk_ldi_s, zk_ldl_s, zk_lda_r, zk_lda_a, zk_lda_n, zk_iv_s, zr_nil, zr_cons, zp_0, zp_s, zt_0, zt_s, zt2_0, zt2_s, zw_iconst, zw_bipush, zw_sipush, zw_lconst, zw_ldcs, zw_ldc, zw_ldcw, zw_ldc2, zw_iload_n, zw_lload_n, zw_aload_n, zw_istore_n, zw_lstore_n, zw_astore_n, zw_astoreN_n, zw_iload, zw_lload, zw_aload, zw_istore, zw_lstore, zw_astore, zw_astoreN, zw_iinc, zw_iadd, zw_isub, zw_imul, zw_iand, zw_ior, zw_ixor, zw_ishl, zw_ishr, zw_iushr, zw_idiv, zw_irem, zw_ladd, zw_lsub, zw_lmul, zw_land, zw_ldiv, zw_lrem, zw_lcmp, zw_i2l, zw_l2i, zw_dup, zw_pop, zw_dup2i, zw_goto, zw_if_eq, zw_if_ne, zw_if_lt, zw_if_ge, zw_if_gt, zw_if_le, zw_ic_eq, zw_ic_ne, zw_ic_lt, zw_ic_ge, zw_ic_gt, zw_ic_le, zw_ifnn, zw_ifnnN, zw_tsw, zw_lsw, zw_getf_l, zw_getf_r, zw_getf_i, zw_getf_z, zw_putf_i, zw_putf_z, zw_putf_l, zw_putf_r, zw_iaload, zw_caload, zw_laload, zw_aaload, zw_iastore, zw_castore, zw_lastore, zw_aastore, zw_alen, zw_newa, zw_newq, zw_new, zw_oini, zw_invs, zw_invv, zw_copy, zw_invt, zw_iret, zw_lret, zw_ret, zc_r, zc_a, zk_rvs, zk_cat2, List.getElem?_cons_zero, List.getElem?_cons_succ, Bool.false_eq_true, and_false, false_and, and_true, true_and, reduceIte, Nat.reduceEqDiff, Nat.reduceLT, Nat.reduceAdd, List.cons_append, List.nil_append, Option.toList_some, Option.toList_none, zk_cat_i, zk_cat_r, zk_cat_n, zk_same, Option.some.injEq, Value.int.injEq, Value.long.injEq, eq_self, false_implies, true_implies, zf_12, ho, hP2, zl_M, zc_n10, zc_cl, zc_in, not_true_eq_false, not_false_eq_true, hs, e1, e2]
  refine ⟨fun g => ?_, fun g => ?_⟩
  · have loop : ∀ (j k : Nat) (M1 : zk_MI) (v7 : Value), k + j = 20 → M1 79 1 = nI (T + k) → (∀ j, j ≠ 1 → M1 79 j = M 79 j) → (∀ q, q ≠ 79 → q ≠ 80 → M1 q = M q) → (∀ k, k < T → M1 80 k = M 80 k) → (∀ i, i < k → M1 80 (T + i) = sp_by (sp_ar a b c d e i) i) → Z 28 [.ref 79, .int a, .int b, .int c, .int d, .int e, .int (nI k), v7] [] n M1 L P := by
      intro j
      induction j with
      | zero =>
        intro k M1 v7 hk h1 h2 h3 h4 h5
        obtain rfl : k = 20 := by omega
        refine hZ B_X12_feed_28 _ _ _ _ _ _ _ k_X12_feed_28 ?_
        simp only [B_X12_feed_28, zk_ldi_s, zk_ldl_s, zk_lda_r, zk_lda_a, zk_lda_n, zk_iv_s, zr_nil, zr_cons, zp_0, zp_s, zt_0, zt_s, zt2_0, zt2_s, zw_iconst, zw_bipush, zw_sipush, zw_lconst, zw_ldcs, zw_ldc, zw_ldcw, zw_ldc2, zw_iload_n, zw_lload_n, zw_aload_n, zw_istore_n, zw_lstore_n, zw_astore_n, zw_astoreN_n, zw_iload, zw_lload, zw_aload, zw_istore, zw_lstore, zw_astore, zw_astoreN, zw_iinc, zw_iadd, zw_isub, zw_imul, zw_iand, zw_ior, zw_ixor, zw_ishl, zw_ishr, zw_iushr, zw_idiv, zw_irem, zw_ladd, zw_lsub, zw_lmul, zw_land, zw_ldiv, zw_lrem, zw_lcmp, zw_i2l, zw_l2i, zw_dup, zw_pop, zw_dup2i, zw_goto, zw_if_eq, zw_if_ne, zw_if_lt, zw_if_ge, zw_if_gt, zw_if_le, zw_ic_eq, zw_ic_ne, zw_ic_lt, zw_ic_ge, zw_ic_gt, zw_ic_le, zw_ifnn, zw_ifnnN, zw_tsw, zw_lsw, zw_getf_l, zw_getf_r, zw_getf_i, zw_getf_z, zw_putf_i, zw_putf_z, zw_putf_l, zw_putf_r, zw_iaload, zw_caload, zw_laload, zw_aaload, zw_iastore, zw_castore, zw_lastore, zw_aastore, zw_alen, zw_newa, zw_newq, zw_new, zw_oini, zw_invs, zw_invv, zw_copy, zw_invt, zw_iret, zw_lret, zw_ret, zc_r, zc_a, zk_rvs, zk_cat2, List.getElem?_cons_zero, List.getElem?_cons_succ, Bool.false_eq_true, and_false, false_and, and_true, true_and, reduceIte, Nat.reduceEqDiff, Nat.reduceLT, Nat.reduceAdd, List.cons_append, List.nil_append, Option.toList_some, Option.toList_none, zk_cat_i, zk_cat_r, zk_cat_n, zk_same, Option.some.injEq, Value.int.injEq, Value.long.injEq, eq_self, false_implies, true_implies, zf_12, ho, hP2, zl_M, zc_n10, zc_cl, zc_in, not_true_eq_false, not_false_eq_true, (show ((20 : Int32) ≤ nI 20) = True from by decide)]
        refine hZ B_X12_feed_124 _ _ _ _ _ _ _ k_X12_feed_124 ?_
        simp only [B_X12_feed_124, zk_ldi_s, zk_ldl_s, zk_lda_r, zk_lda_a, zk_lda_n, zk_iv_s, zr_nil, zr_cons, zp_0, zp_s, zt_0, zt_s, zt2_0, zt2_s, zw_iconst, zw_bipush, zw_sipush, zw_lconst, zw_ldcs, zw_ldc, zw_ldcw, zw_ldc2, zw_iload_n, zw_lload_n, zw_aload_n, zw_istore_n, zw_lstore_n, zw_astore_n, zw_astoreN_n, zw_iload, zw_lload, zw_aload, zw_istore, zw_lstore, zw_astore, zw_astoreN, zw_iinc, zw_iadd, zw_isub, zw_imul, zw_iand, zw_ior, zw_ixor, zw_ishl, zw_ishr, zw_iushr, zw_idiv, zw_irem, zw_ladd, zw_lsub, zw_lmul, zw_land, zw_ldiv, zw_lrem, zw_lcmp, zw_i2l, zw_l2i, zw_dup, zw_pop, zw_dup2i, zw_goto, zw_if_eq, zw_if_ne, zw_if_lt, zw_if_ge, zw_if_gt, zw_if_le, zw_ic_eq, zw_ic_ne, zw_ic_lt, zw_ic_ge, zw_ic_gt, zw_ic_le, zw_ifnn, zw_ifnnN, zw_tsw, zw_lsw, zw_getf_l, zw_getf_r, zw_getf_i, zw_getf_z, zw_putf_i, zw_putf_z, zw_putf_l, zw_putf_r, zw_iaload, zw_caload, zw_laload, zw_aaload, zw_iastore, zw_castore, zw_lastore, zw_aastore, zw_alen, zw_newa, zw_newq, zw_new, zw_oini, zw_invs, zw_invv, zw_copy, zw_invt, zw_iret, zw_lret, zw_ret, zc_r, zc_a, zk_rvs, zk_cat2, List.getElem?_cons_zero, List.getElem?_cons_succ, Bool.false_eq_true, and_false, false_and, and_true, true_and, reduceIte, Nat.reduceEqDiff, Nat.reduceLT, Nat.reduceAdd, List.cons_append, List.nil_append, Option.toList_some, Option.toList_none, zk_cat_i, zk_cat_r, zk_cat_n, zk_same, Option.some.injEq, Value.int.injEq, Value.long.injEq, eq_self, false_implies, true_implies, zf_12, ho, hP2, zl_M, zc_n10, zc_cl, zc_in, not_true_eq_false, not_false_eq_true, h1]
        exact ⟨fun z => by omega, fun _ => ⟨h2, h3, h4, h5⟩⟩
      | succ j ih =>
        intro k M1 v7 hk h1 h2 h3 h4 h5
        have l20 : ((20 : Int32) ≤ nI k) = False := by rw [fa_lit 20, zn_le (by omega) (by omega)]; simp; omega
        have l4 : ((4 : Int32) ≤ nI k) = (4 ≤ k) := by rw [fa_lit 4, zn_le (by omega) (by omega)]
        have l8 : ((8 : Int32) ≤ nI k) = (8 ≤ k) := by rw [fa_lit 8, zn_le (by omega) (by omega)]
        have l12 : ((12 : Int32) ≤ nI k) = (12 ≤ k) := by rw [fa_lit 12, zn_le (by omega) (by omega)]
        have l16 : ((16 : Int32) ≤ nI k) = (16 ≤ k) := by rw [fa_lit 16, zn_le (by omega) (by omega)]
        have at81 : ∀ x : Int32, x = sp_ar a b c d e k → Z 81 [.ref 79, .int a, .int b, .int c, .int d, .int e, .int (nI k), v7] [.int x] n M1 L P := by
          intro x hx
          subst hx
          have ex : (sp_ar a b c d e k >>> (nI (8 * (3 - k % 4)) &&& 31)) &&& 255 = sp_by (sp_ar a b c d e k) k := rfl
          have h79 : ∀ x, zk_up M1 80 (T + k) x 79 1 = nI (T + k) := fun x => by rw [zk_up_row (by decide)]; exact h1
          refine hZ B_X12_feed_81 _ _ _ _ _ _ _ k_X12_feed_81 ?_
          simp only [B_X12_feed_81, zk_ldi_s, zk_ldl_s, zk_lda_r, zk_lda_a, zk_lda_n, zk_iv_s, zr_nil, zr_cons, zp_0, zp_s, zt_0, zt_s, zt2_0, zt2_s, zw_iconst, zw_bipush, zw_sipush, zw_lconst, zw_ldcs, zw_ldc, zw_ldcw, zw_ldc2, zw_iload_n, zw_lload_n, zw_aload_n, zw_istore_n, zw_lstore_n, zw_astore_n, zw_astoreN_n, zw_iload, zw_lload, zw_aload, zw_istore, zw_lstore, zw_astore, zw_astoreN, zw_iinc, zw_iadd, zw_isub, zw_imul, zw_iand, zw_ior, zw_ixor, zw_ishl, zw_ishr, zw_iushr, zw_idiv, zw_irem, zw_ladd, zw_lsub, zw_lmul, zw_land, zw_ldiv, zw_lrem, zw_lcmp, zw_i2l, zw_l2i, zw_dup, zw_pop, zw_dup2i, zw_goto, zw_if_eq, zw_if_ne, zw_if_lt, zw_if_ge, zw_if_gt, zw_if_le, zw_ic_eq, zw_ic_ne, zw_ic_lt, zw_ic_ge, zw_ic_gt, zw_ic_le, zw_ifnn, zw_ifnnN, zw_tsw, zw_lsw, zw_getf_l, zw_getf_r, zw_getf_i, zw_getf_z, zw_putf_i, zw_putf_z, zw_putf_l, zw_putf_r, zw_iaload, zw_caload, zw_laload, zw_aaload, zw_iastore, zw_castore, zw_lastore, zw_aastore, zw_alen, zw_newa, zw_newq, zw_new, zw_oini, zw_invs, zw_invv, zw_copy, zw_invt, zw_iret, zw_lret, zw_ret, zc_r, zc_a, zk_rvs, zk_cat2, List.getElem?_cons_zero, List.getElem?_cons_succ, Bool.false_eq_true, and_false, false_and, and_true, true_and, reduceIte, Nat.reduceEqDiff, Nat.reduceLT, Nat.reduceAdd, List.cons_append, List.nil_append, Option.toList_some, Option.toList_none, zk_cat_i, zk_cat_r, zk_cat_n, zk_same, Option.some.injEq, Value.int.injEq, Value.long.injEq, eq_self, false_implies, true_implies, zf_12, ho, hP2, zl_M, zc_n10, zc_cl, zc_in, not_true_eq_false, not_false_eq_true, (show ¬ ((4 : Int32) = 0) from by decide), sp_sh4 k (by omega), h1, ex, nI_clamp (show T + k < 2 ^ 31 by omega), vp_in_nI (show T + k < 1600 by omega) (by omega), h79, nI_1]
          refine ih (k + 1) _ _ (by omega) zk_up_at (fun j hj => ?_) (fun q q1 q2 => ?_) (fun i hi => ?_) (fun i hi => ?_)
          · rw [zk_up_ne (by omega), zk_up_row (by decide)]; exact h2 j hj
          · rw [zk_up_row q1, zk_up_row q2]; exact h3 q q1 q2
          · rw [zk_up_row (by decide), zk_up_ne (by omega)]; exact h4 i hi
          · rw [zk_up_row (by decide)]
            by_cases e : i = k
            · subst e; exact zk_up_at
            · rw [zk_up_ne (by omega)]; exact h5 i (by omega)
        refine hZ B_X12_feed_28 _ _ _ _ _ _ _ k_X12_feed_28 ?_
        simp only [B_X12_feed_28, zk_ldi_s, zk_ldl_s, zk_lda_r, zk_lda_a, zk_lda_n, zk_iv_s, zr_nil, zr_cons, zp_0, zp_s, zt_0, zt_s, zt2_0, zt2_s, zw_iconst, zw_bipush, zw_sipush, zw_lconst, zw_ldcs, zw_ldc, zw_ldcw, zw_ldc2, zw_iload_n, zw_lload_n, zw_aload_n, zw_istore_n, zw_lstore_n, zw_astore_n, zw_astoreN_n, zw_iload, zw_lload, zw_aload, zw_istore, zw_lstore, zw_astore, zw_astoreN, zw_iinc, zw_iadd, zw_isub, zw_imul, zw_iand, zw_ior, zw_ixor, zw_ishl, zw_ishr, zw_iushr, zw_idiv, zw_irem, zw_ladd, zw_lsub, zw_lmul, zw_land, zw_ldiv, zw_lrem, zw_lcmp, zw_i2l, zw_l2i, zw_dup, zw_pop, zw_dup2i, zw_goto, zw_if_eq, zw_if_ne, zw_if_lt, zw_if_ge, zw_if_gt, zw_if_le, zw_ic_eq, zw_ic_ne, zw_ic_lt, zw_ic_ge, zw_ic_gt, zw_ic_le, zw_ifnn, zw_ifnnN, zw_tsw, zw_lsw, zw_getf_l, zw_getf_r, zw_getf_i, zw_getf_z, zw_putf_i, zw_putf_z, zw_putf_l, zw_putf_r, zw_iaload, zw_caload, zw_laload, zw_aaload, zw_iastore, zw_castore, zw_lastore, zw_aastore, zw_alen, zw_newa, zw_newq, zw_new, zw_oini, zw_invs, zw_invv, zw_copy, zw_invt, zw_iret, zw_lret, zw_ret, zc_r, zc_a, zk_rvs, zk_cat2, List.getElem?_cons_zero, List.getElem?_cons_succ, Bool.false_eq_true, and_false, false_and, and_true, true_and, reduceIte, Nat.reduceEqDiff, Nat.reduceLT, Nat.reduceAdd, List.cons_append, List.nil_append, Option.toList_some, Option.toList_none, zk_cat_i, zk_cat_r, zk_cat_n, zk_same, Option.some.injEq, Value.int.injEq, Value.long.injEq, eq_self, false_implies, true_implies, zf_12, ho, hP2, zl_M, zc_n10, zc_cl, zc_in, not_true_eq_false, not_false_eq_true, l20, l4]
        refine ⟨fun g4 => ?_, fun g4 => at81 _ (by unfold sp_ar; rw [if_pos (by omega)])⟩
        refine hZ B_X12_feed_45 _ _ _ _ _ _ _ k_X12_feed_45 ?_
        simp only [B_X12_feed_45, zk_ldi_s, zk_ldl_s, zk_lda_r, zk_lda_a, zk_lda_n, zk_iv_s, zr_nil, zr_cons, zp_0, zp_s, zt_0, zt_s, zt2_0, zt2_s, zw_iconst, zw_bipush, zw_sipush, zw_lconst, zw_ldcs, zw_ldc, zw_ldcw, zw_ldc2, zw_iload_n, zw_lload_n, zw_aload_n, zw_istore_n, zw_lstore_n, zw_astore_n, zw_astoreN_n, zw_iload, zw_lload, zw_aload, zw_istore, zw_lstore, zw_astore, zw_astoreN, zw_iinc, zw_iadd, zw_isub, zw_imul, zw_iand, zw_ior, zw_ixor, zw_ishl, zw_ishr, zw_iushr, zw_idiv, zw_irem, zw_ladd, zw_lsub, zw_lmul, zw_land, zw_ldiv, zw_lrem, zw_lcmp, zw_i2l, zw_l2i, zw_dup, zw_pop, zw_dup2i, zw_goto, zw_if_eq, zw_if_ne, zw_if_lt, zw_if_ge, zw_if_gt, zw_if_le, zw_ic_eq, zw_ic_ne, zw_ic_lt, zw_ic_ge, zw_ic_gt, zw_ic_le, zw_ifnn, zw_ifnnN, zw_tsw, zw_lsw, zw_getf_l, zw_getf_r, zw_getf_i, zw_getf_z, zw_putf_i, zw_putf_z, zw_putf_l, zw_putf_r, zw_iaload, zw_caload, zw_laload, zw_aaload, zw_iastore, zw_castore, zw_lastore, zw_aastore, zw_alen, zw_newa, zw_newq, zw_new, zw_oini, zw_invs, zw_invv, zw_copy, zw_invt, zw_iret, zw_lret, zw_ret, zc_r, zc_a, zk_rvs, zk_cat2, List.getElem?_cons_zero, List.getElem?_cons_succ, Bool.false_eq_true, and_false, false_and, and_true, true_and, reduceIte, Nat.reduceEqDiff, Nat.reduceLT, Nat.reduceAdd, List.cons_append, List.nil_append, Option.toList_some, Option.toList_none, zk_cat_i, zk_cat_r, zk_cat_n, zk_same, Option.some.injEq, Value.int.injEq, Value.long.injEq, eq_self, false_implies, true_implies, zf_12, ho, hP2, zl_M, zc_n10, zc_cl, zc_in, not_true_eq_false, not_false_eq_true, l8]
        refine ⟨fun g8 => ?_, fun g8 => at81 _ (by unfold sp_ar; rw [if_neg (by omega), if_pos (by omega)])⟩
        refine hZ B_X12_feed_56 _ _ _ _ _ _ _ k_X12_feed_56 ?_
        simp only [B_X12_feed_56, zk_ldi_s, zk_ldl_s, zk_lda_r, zk_lda_a, zk_lda_n, zk_iv_s, zr_nil, zr_cons, zp_0, zp_s, zt_0, zt_s, zt2_0, zt2_s, zw_iconst, zw_bipush, zw_sipush, zw_lconst, zw_ldcs, zw_ldc, zw_ldcw, zw_ldc2, zw_iload_n, zw_lload_n, zw_aload_n, zw_istore_n, zw_lstore_n, zw_astore_n, zw_astoreN_n, zw_iload, zw_lload, zw_aload, zw_istore, zw_lstore, zw_astore, zw_astoreN, zw_iinc, zw_iadd, zw_isub, zw_imul, zw_iand, zw_ior, zw_ixor, zw_ishl, zw_ishr, zw_iushr, zw_idiv, zw_irem, zw_ladd, zw_lsub, zw_lmul, zw_land, zw_ldiv, zw_lrem, zw_lcmp, zw_i2l, zw_l2i, zw_dup, zw_pop, zw_dup2i, zw_goto, zw_if_eq, zw_if_ne, zw_if_lt, zw_if_ge, zw_if_gt, zw_if_le, zw_ic_eq, zw_ic_ne, zw_ic_lt, zw_ic_ge, zw_ic_gt, zw_ic_le, zw_ifnn, zw_ifnnN, zw_tsw, zw_lsw, zw_getf_l, zw_getf_r, zw_getf_i, zw_getf_z, zw_putf_i, zw_putf_z, zw_putf_l, zw_putf_r, zw_iaload, zw_caload, zw_laload, zw_aaload, zw_iastore, zw_castore, zw_lastore, zw_aastore, zw_alen, zw_newa, zw_newq, zw_new, zw_oini, zw_invs, zw_invv, zw_copy, zw_invt, zw_iret, zw_lret, zw_ret, zc_r, zc_a, zk_rvs, zk_cat2, List.getElem?_cons_zero, List.getElem?_cons_succ, Bool.false_eq_true, and_false, false_and, and_true, true_and, reduceIte, Nat.reduceEqDiff, Nat.reduceLT, Nat.reduceAdd, List.cons_append, List.nil_append, Option.toList_some, Option.toList_none, zk_cat_i, zk_cat_r, zk_cat_n, zk_same, Option.some.injEq, Value.int.injEq, Value.long.injEq, eq_self, false_implies, true_implies, zf_12, ho, hP2, zl_M, zc_n10, zc_cl, zc_in, not_true_eq_false, not_false_eq_true, l12]
        refine ⟨fun g12 => ?_, fun g12 => at81 _ (by unfold sp_ar; rw [if_neg (by omega), if_neg (by omega), if_pos (by omega)])⟩
        refine hZ B_X12_feed_67 _ _ _ _ _ _ _ k_X12_feed_67 ?_
        simp only [B_X12_feed_67, zk_ldi_s, zk_ldl_s, zk_lda_r, zk_lda_a, zk_lda_n, zk_iv_s, zr_nil, zr_cons, zp_0, zp_s, zt_0, zt_s, zt2_0, zt2_s, zw_iconst, zw_bipush, zw_sipush, zw_lconst, zw_ldcs, zw_ldc, zw_ldcw, zw_ldc2, zw_iload_n, zw_lload_n, zw_aload_n, zw_istore_n, zw_lstore_n, zw_astore_n, zw_astoreN_n, zw_iload, zw_lload, zw_aload, zw_istore, zw_lstore, zw_astore, zw_astoreN, zw_iinc, zw_iadd, zw_isub, zw_imul, zw_iand, zw_ior, zw_ixor, zw_ishl, zw_ishr, zw_iushr, zw_idiv, zw_irem, zw_ladd, zw_lsub, zw_lmul, zw_land, zw_ldiv, zw_lrem, zw_lcmp, zw_i2l, zw_l2i, zw_dup, zw_pop, zw_dup2i, zw_goto, zw_if_eq, zw_if_ne, zw_if_lt, zw_if_ge, zw_if_gt, zw_if_le, zw_ic_eq, zw_ic_ne, zw_ic_lt, zw_ic_ge, zw_ic_gt, zw_ic_le, zw_ifnn, zw_ifnnN, zw_tsw, zw_lsw, zw_getf_l, zw_getf_r, zw_getf_i, zw_getf_z, zw_putf_i, zw_putf_z, zw_putf_l, zw_putf_r, zw_iaload, zw_caload, zw_laload, zw_aaload, zw_iastore, zw_castore, zw_lastore, zw_aastore, zw_alen, zw_newa, zw_newq, zw_new, zw_oini, zw_invs, zw_invv, zw_copy, zw_invt, zw_iret, zw_lret, zw_ret, zc_r, zc_a, zk_rvs, zk_cat2, List.getElem?_cons_zero, List.getElem?_cons_succ, Bool.false_eq_true, and_false, false_and, and_true, true_and, reduceIte, Nat.reduceEqDiff, Nat.reduceLT, Nat.reduceAdd, List.cons_append, List.nil_append, Option.toList_some, Option.toList_none, zk_cat_i, zk_cat_r, zk_cat_n, zk_same, Option.some.injEq, Value.int.injEq, Value.long.injEq, eq_self, false_implies, true_implies, zf_12, ho, hP2, zl_M, zc_n10, zc_cl, zc_in, not_true_eq_false, not_false_eq_true, l16]
        refine ⟨fun g16 => ?_, fun g16 => at81 _ (by unfold sp_ar; rw [if_neg (by omega), if_neg (by omega), if_neg (by omega), if_pos (by omega)])⟩
        refine hZ B_X12_feed_79 _ _ _ _ _ _ _ k_X12_feed_79 ?_
        simp only [B_X12_feed_79, zk_ldi_s, zk_ldl_s, zk_lda_r, zk_lda_a, zk_lda_n, zk_iv_s, zr_nil, zr_cons, zp_0, zp_s, zt_0, zt_s, zt2_0, zt2_s, zw_iconst, zw_bipush, zw_sipush, zw_lconst, zw_ldcs, zw_ldc, zw_ldcw, zw_ldc2, zw_iload_n, zw_lload_n, zw_aload_n, zw_istore_n, zw_lstore_n, zw_astore_n, zw_astoreN_n, zw_iload, zw_lload, zw_aload, zw_istore, zw_lstore, zw_astore, zw_astoreN, zw_iinc, zw_iadd, zw_isub, zw_imul, zw_iand, zw_ior, zw_ixor, zw_ishl, zw_ishr, zw_iushr, zw_idiv, zw_irem, zw_ladd, zw_lsub, zw_lmul, zw_land, zw_ldiv, zw_lrem, zw_lcmp, zw_i2l, zw_l2i, zw_dup, zw_pop, zw_dup2i, zw_goto, zw_if_eq, zw_if_ne, zw_if_lt, zw_if_ge, zw_if_gt, zw_if_le, zw_ic_eq, zw_ic_ne, zw_ic_lt, zw_ic_ge, zw_ic_gt, zw_ic_le, zw_ifnn, zw_ifnnN, zw_tsw, zw_lsw, zw_getf_l, zw_getf_r, zw_getf_i, zw_getf_z, zw_putf_i, zw_putf_z, zw_putf_l, zw_putf_r, zw_iaload, zw_caload, zw_laload, zw_aaload, zw_iastore, zw_castore, zw_lastore, zw_aastore, zw_alen, zw_newa, zw_newq, zw_new, zw_oini, zw_invs, zw_invv, zw_copy, zw_invt, zw_iret, zw_lret, zw_ret, zc_r, zc_a, zk_rvs, zk_cat2, List.getElem?_cons_zero, List.getElem?_cons_succ, Bool.false_eq_true, and_false, false_and, and_true, true_and, reduceIte, Nat.reduceEqDiff, Nat.reduceLT, Nat.reduceAdd, List.cons_append, List.nil_append, Option.toList_some, Option.toList_none, zk_cat_i, zk_cat_r, zk_cat_n, zk_same, Option.some.injEq, Value.int.injEq, Value.long.injEq, eq_self, false_implies, true_implies, zf_12, ho, hP2, zl_M, zc_n10, zc_cl, zc_in, not_true_eq_false, not_false_eq_true]
        exact at81 _ (by unfold sp_ar; rw [if_neg (by omega), if_neg (by omega), if_neg (by omega), if_neg (by omega)])
    refine hZ B_X12_feed_25 _ _ _ _ _ _ _ k_X12_feed_25 ?_
    simp only [B_X12_feed_25, zk_ldi_s, zk_ldl_s, zk_lda_r, zk_lda_a, zk_lda_n, zk_iv_s, zr_nil, zr_cons, zp_0, zp_s, zt_0, zt_s, zt2_0, zt2_s, zw_iconst, zw_bipush, zw_sipush, zw_lconst, zw_ldcs, zw_ldc, zw_ldcw, zw_ldc2, zw_iload_n, zw_lload_n, zw_aload_n, zw_istore_n, zw_lstore_n, zw_astore_n, zw_astoreN_n, zw_iload, zw_lload, zw_aload, zw_istore, zw_lstore, zw_astore, zw_astoreN, zw_iinc, zw_iadd, zw_isub, zw_imul, zw_iand, zw_ior, zw_ixor, zw_ishl, zw_ishr, zw_iushr, zw_idiv, zw_irem, zw_ladd, zw_lsub, zw_lmul, zw_land, zw_ldiv, zw_lrem, zw_lcmp, zw_i2l, zw_l2i, zw_dup, zw_pop, zw_dup2i, zw_goto, zw_if_eq, zw_if_ne, zw_if_lt, zw_if_ge, zw_if_gt, zw_if_le, zw_ic_eq, zw_ic_ne, zw_ic_lt, zw_ic_ge, zw_ic_gt, zw_ic_le, zw_ifnn, zw_ifnnN, zw_tsw, zw_lsw, zw_getf_l, zw_getf_r, zw_getf_i, zw_getf_z, zw_putf_i, zw_putf_z, zw_putf_l, zw_putf_r, zw_iaload, zw_caload, zw_laload, zw_aaload, zw_iastore, zw_castore, zw_lastore, zw_aastore, zw_alen, zw_newa, zw_newq, zw_new, zw_oini, zw_invs, zw_invv, zw_copy, zw_invt, zw_iret, zw_lret, zw_ret, zc_r, zc_a, zk_rvs, zk_cat2, List.getElem?_cons_zero, List.getElem?_cons_succ, Bool.false_eq_true, and_false, false_and, and_true, true_and, reduceIte, Nat.reduceEqDiff, Nat.reduceLT, Nat.reduceAdd, List.cons_append, List.nil_append, Option.toList_some, Option.toList_none, zk_cat_i, zk_cat_r, zk_cat_n, zk_same, Option.some.injEq, Value.int.injEq, Value.long.injEq, eq_self, false_implies, true_implies, zf_12, ho, hP2, zl_M, zc_n10, zc_cl, zc_in, not_true_eq_false, not_false_eq_true]
    exact loop 20 0 M _ (by omega) hs (fun _ _ => rfl) (fun _ _ _ => rfl) (fun _ _ => rfl) (fun i hi => by omega)
  · exact ⟨fun _ => trivial, fun z => by omega⟩
theorem cm_keeps (hn : 154 ≤ n) (hP : zs_M P) {V : sp_V} (hw : sp_vw V) {s : sp_S} (hS : zq_S (M 126) V s) {pl : List sp_S} (hp : zq_past M V pl) :
    zk_C G 1 265 [.ref 79] n M L P n (fun r M' L' P' => r = none ∧ L' = L ∧ P' = P ∧ zq_past M' V (sp_keepL s pl) ∧ (∀ q, q ≠ 79 → q ≠ 130 → M' q = M q) ∧ ∀ j, j ≠ 70 → j ≠ 71 → M' 79 j = M 79 j) := by
  obtain ⟨p1, p2, nw, p3, p4, p5⟩ := hp
  refine zk_meth (ow := 12) (kind := 1) (k := 0) (nL := 2) (ct := false) (l0 := [.ref 79, zk_un]) (by decide +kernel) (fun h => by cases h) (by decide +kernel) (by decide) (by decide) (fun h => absurd h (by decide)) (Nat.le_of_ble_eq_true rfl) rfl (by omega) (fun Z hZ => ?_)
  have ho := zo_M hn
  have hP2 := hP
  unfold zs_M at hP2
  have e1 : nI (nw + 1) - nI (nw + 1) / 20 * 20 = nI ((nw + 1) % 20) := by
    rw [fa_lit 20, pk_div (by omega) (by omega) (by omega), pk_mul, pk_sub (by omega)]
    congr 1
    omega
  refine hZ B_X12_keeps_0 _ _ _ _ _ _ _ k_X12_keeps_0 ?_
  simp only [B_X12_keeps_0, zk_ldi_s, zk_ldl_s, zk_lda_r, zk_lda_a, zk_lda_n, zk_iv_s, zr_nil, zr_cons, zp_0, zp_s, zt_0, zt_s, zt2_0, zt2_s, zw_iconst, zw_bipush, zw_sipush, zw_lconst, zw_ldcs, zw_ldc, zw_ldcw, zw_ldc2, zw_iload_n, zw_lload_n, zw_aload_n, zw_istore_n, zw_lstore_n, zw_astore_n, zw_astoreN_n, zw_iload, zw_lload, zw_aload, zw_istore, zw_lstore, zw_astore, zw_astoreN, zw_iinc, zw_iadd, zw_isub, zw_imul, zw_iand, zw_ior, zw_ixor, zw_ishl, zw_ishr, zw_iushr, zw_idiv, zw_irem, zw_ladd, zw_lsub, zw_lmul, zw_land, zw_ldiv, zw_lrem, zw_lcmp, zw_i2l, zw_l2i, zw_dup, zw_pop, zw_dup2i, zw_goto, zw_if_eq, zw_if_ne, zw_if_lt, zw_if_ge, zw_if_gt, zw_if_le, zw_ic_eq, zw_ic_ne, zw_ic_lt, zw_ic_ge, zw_ic_gt, zw_ic_le, zw_ifnn, zw_ifnnN, zw_tsw, zw_lsw, zw_getf_l, zw_getf_r, zw_getf_i, zw_getf_z, zw_putf_i, zw_putf_z, zw_putf_l, zw_putf_r, zw_iaload, zw_caload, zw_laload, zw_aaload, zw_iastore, zw_castore, zw_lastore, zw_aastore, zw_alen, zw_newa, zw_newq, zw_new, zw_oini, zw_invs, zw_invv, zw_copy, zw_invt, zw_iret, zw_lret, zw_ret, zc_r, zc_a, zk_rvs, zk_cat2, List.getElem?_cons_zero, List.getElem?_cons_succ, Bool.false_eq_true, and_false, false_and, and_true, true_and, reduceIte, Nat.reduceEqDiff, Nat.reduceLT, Nat.reduceAdd, List.cons_append, List.nil_append, Option.toList_some, Option.toList_none, zk_cat_i, zk_cat_r, zk_cat_n, zk_same, Option.some.injEq, Value.int.injEq, Value.long.injEq, eq_self, false_implies, true_implies, zf_12, ho, hP2, zl_M, zc_n10, zc_cl, zc_in, not_true_eq_false, not_false_eq_true, p4, nI_1, (show ¬ ((20 : Int32) = 0) from by decide), e1]
  generalize hr : (nw + 1) % 20 = r
  have hrl : r < 20 := by omega
  have loop : ∀ (j i : Nat) (M1 : zk_MI), i + j = 147 → (∀ k, k < i → M1 130 (147 * r + k) = M 126 k) → (∀ k, (k < 147 * r ∨ 147 * r + 147 ≤ k) → M1 130 k = M 130 k) → M1 79 71 = nI r → (∀ j, j ≠ 71 → M1 79 j = M 79 j) → (∀ q, q ≠ 79 → q ≠ 130 → M1 q = M q) → Z 15 [.ref 79, .int (nI i)] [] n M1 L P := by
    intro j
    induction j with
    | zero =>
      intro i M1 hi h1 h2 h3 h4 h5
      obtain rfl : i = 147 := by omega
      have e70 : M1 79 70 = nI pl.length := by rw [h4 70 (by decide)]; exact p1
      have e20 : ((20 : Int32) ≤ nI pl.length) = (20 ≤ pl.length) := by rw [fa_lit 20, zn_le (by omega) (by omega)]
      have rows : ∀ (M2 : zk_MI), M2 130 = M1 130 → ∀ i s', (sp_keepL s pl)[i]? = some s' → zq_S (fun k => M2 130 (147 * ((r + 20 - i) % 20) + k)) V s' := by
        intro M2 hM2 i s' hi
        unfold sp_keepL at hi
        rw [hM2]
        have hi20 : i < 20 := by
          have := (List.getElem?_eq_some_iff.mp hi).1
          simp at this
          omega
        rw [List.getElem?_take, if_pos hi20] at hi
        cases i with
        | zero =>
          simp at hi
          subst hi
          rw [show (r + 20 - 0) % 20 = r by omega]
          exact zq_S_cg hw hS h1
        | succ i =>
          simp only [List.getElem?_cons_succ] at hi
          have h9 := p5 i s' hi
          have hne : (r + 20 - (i + 1)) % 20 ≠ r := by omega
          rw [show (nw + 20 - i) % 20 = (r + 20 - (i + 1)) % 20 by omega] at h9
          have hlt : (r + 20 - (i + 1)) % 20 < 20 := by omega
          exact zq_S_cg hw h9 (fun k hk => h2 _ (by omega))
      have hlen : (sp_keepL s pl).length = if 20 ≤ pl.length then pl.length else pl.length + 1 := by
        unfold sp_keepL
        simp only [List.length_take, List.length_cons]
        split <;> omega
      refine hZ B_X12_keeps_15 _ _ _ _ _ _ _ k_X12_keeps_15 ?_
      simp only [B_X12_keeps_15, zk_ldi_s, zk_ldl_s, zk_lda_r, zk_lda_a, zk_lda_n, zk_iv_s, zr_nil, zr_cons, zp_0, zp_s, zt_0, zt_s, zt2_0, zt2_s, zw_iconst, zw_bipush, zw_sipush, zw_lconst, zw_ldcs, zw_ldc, zw_ldcw, zw_ldc2, zw_iload_n, zw_lload_n, zw_aload_n, zw_istore_n, zw_lstore_n, zw_astore_n, zw_astoreN_n, zw_iload, zw_lload, zw_aload, zw_istore, zw_lstore, zw_astore, zw_astoreN, zw_iinc, zw_iadd, zw_isub, zw_imul, zw_iand, zw_ior, zw_ixor, zw_ishl, zw_ishr, zw_iushr, zw_idiv, zw_irem, zw_ladd, zw_lsub, zw_lmul, zw_land, zw_ldiv, zw_lrem, zw_lcmp, zw_i2l, zw_l2i, zw_dup, zw_pop, zw_dup2i, zw_goto, zw_if_eq, zw_if_ne, zw_if_lt, zw_if_ge, zw_if_gt, zw_if_le, zw_ic_eq, zw_ic_ne, zw_ic_lt, zw_ic_ge, zw_ic_gt, zw_ic_le, zw_ifnn, zw_ifnnN, zw_tsw, zw_lsw, zw_getf_l, zw_getf_r, zw_getf_i, zw_getf_z, zw_putf_i, zw_putf_z, zw_putf_l, zw_putf_r, zw_iaload, zw_caload, zw_laload, zw_aaload, zw_iastore, zw_castore, zw_lastore, zw_aastore, zw_alen, zw_newa, zw_newq, zw_new, zw_oini, zw_invs, zw_invv, zw_copy, zw_invt, zw_iret, zw_lret, zw_ret, zc_r, zc_a, zk_rvs, zk_cat2, List.getElem?_cons_zero, List.getElem?_cons_succ, Bool.false_eq_true, and_false, false_and, and_true, true_and, reduceIte, Nat.reduceEqDiff, Nat.reduceLT, Nat.reduceAdd, List.cons_append, List.nil_append, Option.toList_some, Option.toList_none, zk_cat_i, zk_cat_r, zk_cat_n, zk_same, Option.some.injEq, Value.int.injEq, Value.long.injEq, eq_self, false_implies, true_implies, zf_12, ho, hP2, zl_M, zc_n10, zc_cl, zc_in, not_true_eq_false, not_false_eq_true, (show ((147 : Int32) ≤ nI 147) = True from by decide)]
      refine hZ B_X12_keeps_49 _ _ _ _ _ _ _ k_X12_keeps_49 ?_
      simp only [B_X12_keeps_49, zk_ldi_s, zk_ldl_s, zk_lda_r, zk_lda_a, zk_lda_n, zk_iv_s, zr_nil, zr_cons, zp_0, zp_s, zt_0, zt_s, zt2_0, zt2_s, zw_iconst, zw_bipush, zw_sipush, zw_lconst, zw_ldcs, zw_ldc, zw_ldcw, zw_ldc2, zw_iload_n, zw_lload_n, zw_aload_n, zw_istore_n, zw_lstore_n, zw_astore_n, zw_astoreN_n, zw_iload, zw_lload, zw_aload, zw_istore, zw_lstore, zw_astore, zw_astoreN, zw_iinc, zw_iadd, zw_isub, zw_imul, zw_iand, zw_ior, zw_ixor, zw_ishl, zw_ishr, zw_iushr, zw_idiv, zw_irem, zw_ladd, zw_lsub, zw_lmul, zw_land, zw_ldiv, zw_lrem, zw_lcmp, zw_i2l, zw_l2i, zw_dup, zw_pop, zw_dup2i, zw_goto, zw_if_eq, zw_if_ne, zw_if_lt, zw_if_ge, zw_if_gt, zw_if_le, zw_ic_eq, zw_ic_ne, zw_ic_lt, zw_ic_ge, zw_ic_gt, zw_ic_le, zw_ifnn, zw_ifnnN, zw_tsw, zw_lsw, zw_getf_l, zw_getf_r, zw_getf_i, zw_getf_z, zw_putf_i, zw_putf_z, zw_putf_l, zw_putf_r, zw_iaload, zw_caload, zw_laload, zw_aaload, zw_iastore, zw_castore, zw_lastore, zw_aastore, zw_alen, zw_newa, zw_newq, zw_new, zw_oini, zw_invs, zw_invv, zw_copy, zw_invt, zw_iret, zw_lret, zw_ret, zc_r, zc_a, zk_rvs, zk_cat2, List.getElem?_cons_zero, List.getElem?_cons_succ, Bool.false_eq_true, and_false, false_and, and_true, true_and, reduceIte, Nat.reduceEqDiff, Nat.reduceLT, Nat.reduceAdd, List.cons_append, List.nil_append, Option.toList_some, Option.toList_none, zk_cat_i, zk_cat_r, zk_cat_n, zk_same, Option.some.injEq, Value.int.injEq, Value.long.injEq, eq_self, false_implies, true_implies, zf_12, ho, hP2, zl_M, zc_n10, zc_cl, zc_in, not_true_eq_false, not_false_eq_true, e70, e20]
      refine ⟨fun g => ?_, fun g => ?_⟩
      · refine hZ B_X12_keeps_68 _ _ _ _ _ _ _ k_X12_keeps_68 ?_
        simp only [B_X12_keeps_68, zk_ldi_s, zk_ldl_s, zk_lda_r, zk_lda_a, zk_lda_n, zk_iv_s, zr_nil, zr_cons, zp_0, zp_s, zt_0, zt_s, zt2_0, zt2_s, zw_iconst, zw_bipush, zw_sipush, zw_lconst, zw_ldcs, zw_ldc, zw_ldcw, zw_ldc2, zw_iload_n, zw_lload_n, zw_aload_n, zw_istore_n, zw_lstore_n, zw_astore_n, zw_astoreN_n, zw_iload, zw_lload, zw_aload, zw_istore, zw_lstore, zw_astore, zw_astoreN, zw_iinc, zw_iadd, zw_isub, zw_imul, zw_iand, zw_ior, zw_ixor, zw_ishl, zw_ishr, zw_iushr, zw_idiv, zw_irem, zw_ladd, zw_lsub, zw_lmul, zw_land, zw_ldiv, zw_lrem, zw_lcmp, zw_i2l, zw_l2i, zw_dup, zw_pop, zw_dup2i, zw_goto, zw_if_eq, zw_if_ne, zw_if_lt, zw_if_ge, zw_if_gt, zw_if_le, zw_ic_eq, zw_ic_ne, zw_ic_lt, zw_ic_ge, zw_ic_gt, zw_ic_le, zw_ifnn, zw_ifnnN, zw_tsw, zw_lsw, zw_getf_l, zw_getf_r, zw_getf_i, zw_getf_z, zw_putf_i, zw_putf_z, zw_putf_l, zw_putf_r, zw_iaload, zw_caload, zw_laload, zw_aaload, zw_iastore, zw_castore, zw_lastore, zw_aastore, zw_alen, zw_newa, zw_newq, zw_new, zw_oini, zw_invs, zw_invv, zw_copy, zw_invt, zw_iret, zw_lret, zw_ret, zc_r, zc_a, zk_rvs, zk_cat2, List.getElem?_cons_zero, List.getElem?_cons_succ, Bool.false_eq_true, and_false, false_and, and_true, true_and, reduceIte, Nat.reduceEqDiff, Nat.reduceLT, Nat.reduceAdd, List.cons_append, List.nil_append, Option.toList_some, Option.toList_none, zk_cat_i, zk_cat_r, zk_cat_n, zk_same, Option.some.injEq, Value.int.injEq, Value.long.injEq, eq_self, false_implies, true_implies, zf_12, ho, hP2, zl_M, zc_n10, zc_cl, zc_in, not_true_eq_false, not_false_eq_true]
        rw [if_pos g] at hlen
        exact ⟨⟨by rw [hlen]; exact e70, by omega, r, hrl, h3, rows M1 rfl⟩, h5, fun j j1 j2 => h4 j j2⟩
      · refine hZ B_X12_keeps_68 _ _ _ _ _ _ _ k_X12_keeps_68 ?_
        simp only [B_X12_keeps_68, zk_ldi_s, zk_ldl_s, zk_lda_r, zk_lda_a, zk_lda_n, zk_iv_s, zr_nil, zr_cons, zp_0, zp_s, zt_0, zt_s, zt2_0, zt2_s, zw_iconst, zw_bipush, zw_sipush, zw_lconst, zw_ldcs, zw_ldc, zw_ldcw, zw_ldc2, zw_iload_n, zw_lload_n, zw_aload_n, zw_istore_n, zw_lstore_n, zw_astore_n, zw_astoreN_n, zw_iload, zw_lload, zw_aload, zw_istore, zw_lstore, zw_astore, zw_astoreN, zw_iinc, zw_iadd, zw_isub, zw_imul, zw_iand, zw_ior, zw_ixor, zw_ishl, zw_ishr, zw_iushr, zw_idiv, zw_irem, zw_ladd, zw_lsub, zw_lmul, zw_land, zw_ldiv, zw_lrem, zw_lcmp, zw_i2l, zw_l2i, zw_dup, zw_pop, zw_dup2i, zw_goto, zw_if_eq, zw_if_ne, zw_if_lt, zw_if_ge, zw_if_gt, zw_if_le, zw_ic_eq, zw_ic_ne, zw_ic_lt, zw_ic_ge, zw_ic_gt, zw_ic_le, zw_ifnn, zw_ifnnN, zw_tsw, zw_lsw, zw_getf_l, zw_getf_r, zw_getf_i, zw_getf_z, zw_putf_i, zw_putf_z, zw_putf_l, zw_putf_r, zw_iaload, zw_caload, zw_laload, zw_aaload, zw_iastore, zw_castore, zw_lastore, zw_aastore, zw_alen, zw_newa, zw_newq, zw_new, zw_oini, zw_invs, zw_invv, zw_copy, zw_invt, zw_iret, zw_lret, zw_ret, zc_r, zc_a, zk_rvs, zk_cat2, List.getElem?_cons_zero, List.getElem?_cons_succ, Bool.false_eq_true, and_false, false_and, and_true, true_and, reduceIte, Nat.reduceEqDiff, Nat.reduceLT, Nat.reduceAdd, List.cons_append, List.nil_append, Option.toList_some, Option.toList_none, zk_cat_i, zk_cat_r, zk_cat_n, zk_same, Option.some.injEq, Value.int.injEq, Value.long.injEq, eq_self, false_implies, true_implies, zf_12, ho, hP2, zl_M, zc_n10, zc_cl, zc_in, not_true_eq_false, not_false_eq_true, nI_1]
        rw [if_neg g] at hlen
        refine ⟨⟨by rw [hlen]; exact zk_up_at, by omega, r, hrl, by rw [zk_up_ne (by decide)]; exact h3, rows _ (zk_up_row (by decide))⟩, fun q q1 q2 => by rw [zk_up_row q1]; exact h5 q q1 q2, fun j j1 j2 => by rw [zk_up_ne (by omega)]; exact h4 j j2⟩
    | succ j ih =>
      intro i M1 hi h1 h2 h3 h4 h5
      have e147 : ((147 : Int32) ≤ nI i) = False := by rw [fa_lit 147, zn_le (by omega) (by omega)]; simp; omega
      refine hZ B_X12_keeps_15 _ _ _ _ _ _ _ k_X12_keeps_15 ?_
      simp only [B_X12_keeps_15, zk_ldi_s, zk_ldl_s, zk_lda_r, zk_lda_a, zk_lda_n, zk_iv_s, zr_nil, zr_cons, zp_0, zp_s, zt_0, zt_s, zt2_0, zt2_s, zw_iconst, zw_bipush, zw_sipush, zw_lconst, zw_ldcs, zw_ldc, zw_ldcw, zw_ldc2, zw_iload_n, zw_lload_n, zw_aload_n, zw_istore_n, zw_lstore_n, zw_astore_n, zw_astoreN_n, zw_iload, zw_lload, zw_aload, zw_istore, zw_lstore, zw_astore, zw_astoreN, zw_iinc, zw_iadd, zw_isub, zw_imul, zw_iand, zw_ior, zw_ixor, zw_ishl, zw_ishr, zw_iushr, zw_idiv, zw_irem, zw_ladd, zw_lsub, zw_lmul, zw_land, zw_ldiv, zw_lrem, zw_lcmp, zw_i2l, zw_l2i, zw_dup, zw_pop, zw_dup2i, zw_goto, zw_if_eq, zw_if_ne, zw_if_lt, zw_if_ge, zw_if_gt, zw_if_le, zw_ic_eq, zw_ic_ne, zw_ic_lt, zw_ic_ge, zw_ic_gt, zw_ic_le, zw_ifnn, zw_ifnnN, zw_tsw, zw_lsw, zw_getf_l, zw_getf_r, zw_getf_i, zw_getf_z, zw_putf_i, zw_putf_z, zw_putf_l, zw_putf_r, zw_iaload, zw_caload, zw_laload, zw_aaload, zw_iastore, zw_castore, zw_lastore, zw_aastore, zw_alen, zw_newa, zw_newq, zw_new, zw_oini, zw_invs, zw_invv, zw_copy, zw_invt, zw_iret, zw_lret, zw_ret, zc_r, zc_a, zk_rvs, zk_cat2, List.getElem?_cons_zero, List.getElem?_cons_succ, Bool.false_eq_true, and_false, false_and, and_true, true_and, reduceIte, Nat.reduceEqDiff, Nat.reduceLT, Nat.reduceAdd, List.cons_append, List.nil_append, Option.toList_some, Option.toList_none, zk_cat_i, zk_cat_r, zk_cat_n, zk_same, Option.some.injEq, Value.int.injEq, Value.long.injEq, eq_self, false_implies, true_implies, zf_12, ho, hP2, zl_M, zc_n10, zc_cl, zc_in, not_true_eq_false, not_false_eq_true, e147, h3, zx_147, nI_clamp (show 147 * r + i < 2 ^ 31 by omega), vp_in_nI (show 147 * r + i < 2940 by omega) (by omega), nI_clamp (show i < 2 ^ 31 by omega), vp_in_nI (show i < 147 by omega) (by omega), nI_1, h5 126 (by decide) (by decide)]
      refine ih (i + 1) _ (by omega) (fun k hk => ?_) (fun k hk => ?_) ?_ (fun j hj => ?_) (fun q q1 q2 => ?_)
      · by_cases e : k = i
        · subst e; exact zk_up_at
        · rw [zk_up_ne (by omega)]; exact h1 k (by omega)
      · rw [zk_up_ne (by omega)]; exact h2 k hk
      · rw [zk_up_row (by decide)]; exact h3
      · rw [zk_up_row (by decide)]; exact h4 j hj
      · rw [zk_up_row q2]; exact h5 q q1 q2
  exact loop 147 0 _ (by omega) (fun k hk => by omega) (fun k _ => by rw [zk_up_row (by decide)]) zk_up_at (fun j hj => zk_up_ne (by omega)) (fun q q1 _ => zk_up_row q1)
theorem cm_undo (hn : 154 ≤ n) (hP : zs_M P) {V : sp_V} (hw : sp_vw V) {pl : List sp_S} (hp : zq_past M V pl) :
    zk_C G 1 266 [.ref 79] n M L P n (fun r M' L' P' => L' = L ∧ P' = P ∧ (pl = [] → r = some (.int 0) ∧ M' = zk_up M 81 4 (M 81 4 + 1)) ∧ ∀ s rest, pl = s :: rest → r = some (.int 1) ∧ zq_S (M' 126) V s ∧ zq_past M' V rest ∧ (∀ q, q ≠ 79 → q ≠ 126 → M' q = M q) ∧ ∀ j, j ≠ 70 → j ≠ 71 → M' 79 j = M 79 j) := by
  obtain ⟨p1, p2, nw, p3, p4, p5⟩ := hp
  refine zk_meth (ow := 12) (kind := 1) (k := 0) (nL := 2) (ct := false) (l0 := [.ref 79, zk_un]) (by decide +kernel) (fun h => by cases h) (by decide +kernel) (by decide) (by decide) (fun h => absurd h (by decide)) (Nat.le_of_ble_eq_true rfl) rfl (by omega) (fun Z hZ => ?_)
  have ho := zo_M hn
  have hP2 := hP
  unfold zs_M at hP2
  refine hZ B_X12_undo_0 _ _ _ _ _ _ _ k_X12_undo_0 ?_
  simp only [B_X12_undo_0, zk_ldi_s, zk_ldl_s, zk_lda_r, zk_lda_a, zk_lda_n, zk_iv_s, zr_nil, zr_cons, zp_0, zp_s, zt_0, zt_s, zt2_0, zt2_s, zw_iconst, zw_bipush, zw_sipush, zw_lconst, zw_ldcs, zw_ldc, zw_ldcw, zw_ldc2, zw_iload_n, zw_lload_n, zw_aload_n, zw_istore_n, zw_lstore_n, zw_astore_n, zw_astoreN_n, zw_iload, zw_lload, zw_aload, zw_istore, zw_lstore, zw_astore, zw_astoreN, zw_iinc, zw_iadd, zw_isub, zw_imul, zw_iand, zw_ior, zw_ixor, zw_ishl, zw_ishr, zw_iushr, zw_idiv, zw_irem, zw_ladd, zw_lsub, zw_lmul, zw_land, zw_ldiv, zw_lrem, zw_lcmp, zw_i2l, zw_l2i, zw_dup, zw_pop, zw_dup2i, zw_goto, zw_if_eq, zw_if_ne, zw_if_lt, zw_if_ge, zw_if_gt, zw_if_le, zw_ic_eq, zw_ic_ne, zw_ic_lt, zw_ic_ge, zw_ic_gt, zw_ic_le, zw_ifnn, zw_ifnnN, zw_tsw, zw_lsw, zw_getf_l, zw_getf_r, zw_getf_i, zw_getf_z, zw_putf_i, zw_putf_z, zw_putf_l, zw_putf_r, zw_iaload, zw_caload, zw_laload, zw_aaload, zw_iastore, zw_castore, zw_lastore, zw_aastore, zw_alen, zw_newa, zw_newq, zw_new, zw_oini, zw_invs, zw_invv, zw_copy, zw_invt, zw_iret, zw_lret, zw_ret, zc_r, zc_a, zk_rvs, zk_cat2, List.getElem?_cons_zero, List.getElem?_cons_succ, Bool.false_eq_true, and_false, false_and, and_true, true_and, reduceIte, Nat.reduceEqDiff, Nat.reduceLT, Nat.reduceAdd, List.cons_append, List.nil_append, Option.toList_some, Option.toList_none, zk_cat_i, zk_cat_r, zk_cat_n, zk_same, Option.some.injEq, Value.int.injEq, Value.long.injEq, eq_self, false_implies, true_implies, zf_12, ho, hP2, zl_M, zc_n10, zc_cl, zc_in, not_true_eq_false, not_false_eq_true, p1, zn_z (show pl.length < 2 ^ 31 by omega)]
  refine ⟨fun g => ?_, fun g => ?_⟩
  · have loop : ∀ (j i : Nat) (M1 : zk_MI), i + j = 147 → (∀ k, k < i → M1 126 k = M 130 (147 * nw + k)) → (∀ q, q ≠ 126 → M1 q = M q) → Z 21 [.ref 79, .int (nI i)] [] n M1 L P := by
      intro j
      induction j with
      | zero =>
        intro i M1 hi h1 h2
        obtain rfl : i = 147 := by omega
        have e71 : M1 79 71 = nI nw := by rw [h2 79 (by decide)]; exact p4
        have e70 : M1 79 70 = nI pl.length := by rw [h2 79 (by decide)]; exact p1
        have a1 : nI nw + 20 - 1 = nI (nw + 19) := by rw [fa_lit 20, nI_add, fa_lit 1, pk_sub (by omega)]; rfl
        have a2 : nI (nw + 19) - nI (nw + 19) / 20 * 20 = nI ((nw + 19) % 20) := by
          rw [fa_lit 20, pk_div (by omega) (by omega) (by omega), pk_mul, pk_sub (by omega)]
          congr 1
          omega
        have a3 : nI pl.length - 1 = nI (pl.length - 1) := by rw [fa_lit 1, pk_sub (by omega)]
        have u70 : ∀ x, zk_up M1 79 71 x 79 70 = nI pl.length := fun x => by rw [zk_up_ne (by decide)]; exact e70
        refine hZ B_X12_undo_21 _ _ _ _ _ _ _ k_X12_undo_21 ?_
        simp only [B_X12_undo_21, zk_ldi_s, zk_ldl_s, zk_lda_r, zk_lda_a, zk_lda_n, zk_iv_s, zr_nil, zr_cons, zp_0, zp_s, zt_0, zt_s, zt2_0, zt2_s, zw_iconst, zw_bipush, zw_sipush, zw_lconst, zw_ldcs, zw_ldc, zw_ldcw, zw_ldc2, zw_iload_n, zw_lload_n, zw_aload_n, zw_istore_n, zw_lstore_n, zw_astore_n, zw_astoreN_n, zw_iload, zw_lload, zw_aload, zw_istore, zw_lstore, zw_astore, zw_astoreN, zw_iinc, zw_iadd, zw_isub, zw_imul, zw_iand, zw_ior, zw_ixor, zw_ishl, zw_ishr, zw_iushr, zw_idiv, zw_irem, zw_ladd, zw_lsub, zw_lmul, zw_land, zw_ldiv, zw_lrem, zw_lcmp, zw_i2l, zw_l2i, zw_dup, zw_pop, zw_dup2i, zw_goto, zw_if_eq, zw_if_ne, zw_if_lt, zw_if_ge, zw_if_gt, zw_if_le, zw_ic_eq, zw_ic_ne, zw_ic_lt, zw_ic_ge, zw_ic_gt, zw_ic_le, zw_ifnn, zw_ifnnN, zw_tsw, zw_lsw, zw_getf_l, zw_getf_r, zw_getf_i, zw_getf_z, zw_putf_i, zw_putf_z, zw_putf_l, zw_putf_r, zw_iaload, zw_caload, zw_laload, zw_aaload, zw_iastore, zw_castore, zw_lastore, zw_aastore, zw_alen, zw_newa, zw_newq, zw_new, zw_oini, zw_invs, zw_invv, zw_copy, zw_invt, zw_iret, zw_lret, zw_ret, zc_r, zc_a, zk_rvs, zk_cat2, List.getElem?_cons_zero, List.getElem?_cons_succ, Bool.false_eq_true, and_false, false_and, and_true, true_and, reduceIte, Nat.reduceEqDiff, Nat.reduceLT, Nat.reduceAdd, List.cons_append, List.nil_append, Option.toList_some, Option.toList_none, zk_cat_i, zk_cat_r, zk_cat_n, zk_same, Option.some.injEq, Value.int.injEq, Value.long.injEq, eq_self, false_implies, true_implies, zf_12, ho, hP2, zl_M, zc_n10, zc_cl, zc_in, not_true_eq_false, not_false_eq_true, (show ((147 : Int32) ≤ nI 147) = True from by decide)]
        refine hZ B_X12_undo_55 _ _ _ _ _ _ _ k_X12_undo_55 ?_
        simp only [B_X12_undo_55, zk_ldi_s, zk_ldl_s, zk_lda_r, zk_lda_a, zk_lda_n, zk_iv_s, zr_nil, zr_cons, zp_0, zp_s, zt_0, zt_s, zt2_0, zt2_s, zw_iconst, zw_bipush, zw_sipush, zw_lconst, zw_ldcs, zw_ldc, zw_ldcw, zw_ldc2, zw_iload_n, zw_lload_n, zw_aload_n, zw_istore_n, zw_lstore_n, zw_astore_n, zw_astoreN_n, zw_iload, zw_lload, zw_aload, zw_istore, zw_lstore, zw_astore, zw_astoreN, zw_iinc, zw_iadd, zw_isub, zw_imul, zw_iand, zw_ior, zw_ixor, zw_ishl, zw_ishr, zw_iushr, zw_idiv, zw_irem, zw_ladd, zw_lsub, zw_lmul, zw_land, zw_ldiv, zw_lrem, zw_lcmp, zw_i2l, zw_l2i, zw_dup, zw_pop, zw_dup2i, zw_goto, zw_if_eq, zw_if_ne, zw_if_lt, zw_if_ge, zw_if_gt, zw_if_le, zw_ic_eq, zw_ic_ne, zw_ic_lt, zw_ic_ge, zw_ic_gt, zw_ic_le, zw_ifnn, zw_ifnnN, zw_tsw, zw_lsw, zw_getf_l, zw_getf_r, zw_getf_i, zw_getf_z, zw_putf_i, zw_putf_z, zw_putf_l, zw_putf_r, zw_iaload, zw_caload, zw_laload, zw_aaload, zw_iastore, zw_castore, zw_lastore, zw_aastore, zw_alen, zw_newa, zw_newq, zw_new, zw_oini, zw_invs, zw_invv, zw_copy, zw_invt, zw_iret, zw_lret, zw_ret, zc_r, zc_a, zk_rvs, zk_cat2, List.getElem?_cons_zero, List.getElem?_cons_succ, Bool.false_eq_true, and_false, false_and, and_true, true_and, reduceIte, Nat.reduceEqDiff, Nat.reduceLT, Nat.reduceAdd, List.cons_append, List.nil_append, Option.toList_some, Option.toList_none, zk_cat_i, zk_cat_r, zk_cat_n, zk_same, Option.some.injEq, Value.int.injEq, Value.long.injEq, eq_self, false_implies, true_implies, zf_12, ho, hP2, zl_M, zc_n10, zc_cl, zc_in, not_true_eq_false, not_false_eq_true, e71, a1, (show ¬ ((20 : Int32) = 0) from by decide), a2, u70, a3]
        refine ⟨Or.inr rfl, fun z => by rw [z] at g; exact absurd rfl g, fun s rest hpl => ?_⟩
        subst hpl
        simp only [List.length_cons, Nat.add_sub_cancel] at *
        have hrow : ∀ q, q ≠ 79 → zk_up (zk_up M1 79 71 (nI ((nw + 19) % 20))) 79 70 (nI rest.length) q = M1 q := fun q hq => by rw [zk_up_row hq, zk_up_row hq]
        refine ⟨?_, ⟨zk_up_at, by omega, (nw + 19) % 20, by omega, by rw [zk_up_ne (by decide)]; exact zk_up_at, fun i s' hi => ?_⟩, fun q q1 q2 => by rw [hrow q q1]; exact h2 q q2, fun j j1 j2 => by rw [zk_up_ne (by omega), zk_up_ne (by omega), h2 79 (by decide)]⟩
        · rw [hrow 126 (by decide)]
          have h9 := p5 0 s rfl
          rw [show (nw + 20 - 0) % 20 = nw by omega] at h9
          exact zq_S_cg hw h9 h1
        · have hil := (List.getElem?_eq_some_iff.mp hi).1
          rw [hrow 130 (by decide), h2 130 (by decide)]
          have h9 := p5 (i + 1) s' (by simpa using hi)
          rw [show (nw + 20 - (i + 1)) % 20 = ((nw + 19) % 20 + 20 - i) % 20 by omega] at h9
          exact h9
      | succ j ih =>
        intro i M1 hi h1 h2
        have e147 : ((147 : Int32) ≤ nI i) = False := by rw [fa_lit 147, zn_le (by omega) (by omega)]; simp; omega
        have e71 : M1 79 71 = nI nw := by rw [h2 79 (by decide)]; exact p4
        refine hZ B_X12_undo_21 _ _ _ _ _ _ _ k_X12_undo_21 ?_
        simp only [B_X12_undo_21, zk_ldi_s, zk_ldl_s, zk_lda_r, zk_lda_a, zk_lda_n, zk_iv_s, zr_nil, zr_cons, zp_0, zp_s, zt_0, zt_s, zt2_0, zt2_s, zw_iconst, zw_bipush, zw_sipush, zw_lconst, zw_ldcs, zw_ldc, zw_ldcw, zw_ldc2, zw_iload_n, zw_lload_n, zw_aload_n, zw_istore_n, zw_lstore_n, zw_astore_n, zw_astoreN_n, zw_iload, zw_lload, zw_aload, zw_istore, zw_lstore, zw_astore, zw_astoreN, zw_iinc, zw_iadd, zw_isub, zw_imul, zw_iand, zw_ior, zw_ixor, zw_ishl, zw_ishr, zw_iushr, zw_idiv, zw_irem, zw_ladd, zw_lsub, zw_lmul, zw_land, zw_ldiv, zw_lrem, zw_lcmp, zw_i2l, zw_l2i, zw_dup, zw_pop, zw_dup2i, zw_goto, zw_if_eq, zw_if_ne, zw_if_lt, zw_if_ge, zw_if_gt, zw_if_le, zw_ic_eq, zw_ic_ne, zw_ic_lt, zw_ic_ge, zw_ic_gt, zw_ic_le, zw_ifnn, zw_ifnnN, zw_tsw, zw_lsw, zw_getf_l, zw_getf_r, zw_getf_i, zw_getf_z, zw_putf_i, zw_putf_z, zw_putf_l, zw_putf_r, zw_iaload, zw_caload, zw_laload, zw_aaload, zw_iastore, zw_castore, zw_lastore, zw_aastore, zw_alen, zw_newa, zw_newq, zw_new, zw_oini, zw_invs, zw_invv, zw_copy, zw_invt, zw_iret, zw_lret, zw_ret, zc_r, zc_a, zk_rvs, zk_cat2, List.getElem?_cons_zero, List.getElem?_cons_succ, Bool.false_eq_true, and_false, false_and, and_true, true_and, reduceIte, Nat.reduceEqDiff, Nat.reduceLT, Nat.reduceAdd, List.cons_append, List.nil_append, Option.toList_some, Option.toList_none, zk_cat_i, zk_cat_r, zk_cat_n, zk_same, Option.some.injEq, Value.int.injEq, Value.long.injEq, eq_self, false_implies, true_implies, zf_12, ho, hP2, zl_M, zc_n10, zc_cl, zc_in, not_true_eq_false, not_false_eq_true, e147, e71, zx_147, nI_clamp (show 147 * nw + i < 2 ^ 31 by omega), vp_in_nI (show 147 * nw + i < 2940 by omega) (by omega), nI_clamp (show i < 2 ^ 31 by omega), vp_in_nI (show i < 147 by omega) (by omega), nI_1, h2 130 (by decide)]
        refine ih (i + 1) _ (by omega) (fun k hk => ?_) (fun q q2 => ?_)
        · by_cases e : k = i
          · subst e; exact zk_up_at
          · rw [zk_up_ne (by omega)]; exact h1 k (by omega)
        · rw [zk_up_row q2]; exact h2 q q2
    refine hZ B_X12_undo_19 _ _ _ _ _ _ _ k_X12_undo_19 ?_
    simp only [B_X12_undo_19, zk_ldi_s, zk_ldl_s, zk_lda_r, zk_lda_a, zk_lda_n, zk_iv_s, zr_nil, zr_cons, zp_0, zp_s, zt_0, zt_s, zt2_0, zt2_s, zw_iconst, zw_bipush, zw_sipush, zw_lconst, zw_ldcs, zw_ldc, zw_ldcw, zw_ldc2, zw_iload_n, zw_lload_n, zw_aload_n, zw_istore_n, zw_lstore_n, zw_astore_n, zw_astoreN_n, zw_iload, zw_lload, zw_aload, zw_istore, zw_lstore, zw_astore, zw_astoreN, zw_iinc, zw_iadd, zw_isub, zw_imul, zw_iand, zw_ior, zw_ixor, zw_ishl, zw_ishr, zw_iushr, zw_idiv, zw_irem, zw_ladd, zw_lsub, zw_lmul, zw_land, zw_ldiv, zw_lrem, zw_lcmp, zw_i2l, zw_l2i, zw_dup, zw_pop, zw_dup2i, zw_goto, zw_if_eq, zw_if_ne, zw_if_lt, zw_if_ge, zw_if_gt, zw_if_le, zw_ic_eq, zw_ic_ne, zw_ic_lt, zw_ic_ge, zw_ic_gt, zw_ic_le, zw_ifnn, zw_ifnnN, zw_tsw, zw_lsw, zw_getf_l, zw_getf_r, zw_getf_i, zw_getf_z, zw_putf_i, zw_putf_z, zw_putf_l, zw_putf_r, zw_iaload, zw_caload, zw_laload, zw_aaload, zw_iastore, zw_castore, zw_lastore, zw_aastore, zw_alen, zw_newa, zw_newq, zw_new, zw_oini, zw_invs, zw_invv, zw_copy, zw_invt, zw_iret, zw_lret, zw_ret, zc_r, zc_a, zk_rvs, zk_cat2, List.getElem?_cons_zero, List.getElem?_cons_succ, Bool.false_eq_true, and_false, false_and, and_true, true_and, reduceIte, Nat.reduceEqDiff, Nat.reduceLT, Nat.reduceAdd, List.cons_append, List.nil_append, Option.toList_some, Option.toList_none, zk_cat_i, zk_cat_r, zk_cat_n, zk_same, Option.some.injEq, Value.int.injEq, Value.long.injEq, eq_self, false_implies, true_implies, zf_12, ho, hP2, zl_M, zc_n10, zc_cl, zc_in, not_true_eq_false, not_false_eq_true]
    exact loop 147 0 M (by omega) (fun k hk => by omega) (fun _ _ => rfl)
  · exact ⟨Or.inl rfl, fun _ => trivial, fun s rest hpl => by rw [hpl] at g; cases g⟩
end MAc
