/-! ===== the model: tokens ===== -/
def B_X12_fail_0 : List zk_I := [(.aload_n 0, 1, 0, 0, 0, 0, []), (.getfield 245, 3, 0, 12, 5, 0, []), (.ifCond .eq 4, 3, 0, 8, 0, 0, []), (.return_, 1, 0, 0, 0, 0, [])]
theorem k_X12_fail_0 : zk_ckb 12 false (zk_m 164) B_X12_fail_0 0 = true := by decide +kernel
def B_X12_fail_8 : List zk_I := [(.aload_n 0, 1, 0, 0, 0, 0, []), (.iload_n 1, 1, 0, 1, 0, 0, []), (.putfield 245, 3, 0, 12, 5, 0, []), (.aload_n 0, 1, 0, 0, 0, 0, []), (.iload_n 2, 1, 0, 2, 0, 0, []), (.putfield 248, 3, 0, 12, 6, 0, []), (.return_, 1, 0, 0, 0, 0, [])]
theorem k_X12_fail_8 : zk_ckb 12 false (zk_m 164) B_X12_fail_8 8 = true := by decide +kernel
def B_X12_isLetter_0 : List zk_I := [(.iload_n 0, 1, 0, 0, 0, 0, []), (.bipush 97, 2, 97, 0, 0, 0, []), (.if_icmp .lt 13, 3, 0, 16, 0, 0, []), (.iload_n 0, 1, 0, 0, 0, 0, []), (.bipush 122, 2, 122, 0, 0, 0, []), (.if_icmp .gt 7, 3, 0, 16, 0, 0, []), (.iconst 1, 1, 1, 0, 0, 0, []), (.goto 4, 3, 0, 17, 0, 0, [])]
theorem k_X12_isLetter_0 : zk_ckb 12 false (zk_m 165) B_X12_isLetter_0 0 = true := by decide +kernel
def B_X12_isLetter_16 : List zk_I := [(.iconst 0, 1, 0, 0, 0, 0, [])]
theorem k_X12_isLetter_16 : zk_ckb 12 false (zk_m 165) B_X12_isLetter_16 16 = true := by decide +kernel
def B_X12_isLetter_17 : List zk_I := [(.ireturn, 1, 0, 1, 0, 0, [])]
theorem k_X12_isLetter_17 : zk_ckb 12 false (zk_m 165) B_X12_isLetter_17 17 = true := by decide +kernel
def B_X12_isDigit_0 : List zk_I := [(.iload_n 0, 1, 0, 0, 0, 0, []), (.bipush 48, 2, 48, 0, 0, 0, []), (.if_icmp .lt 13, 3, 0, 16, 0, 0, []), (.iload_n 0, 1, 0, 0, 0, 0, []), (.bipush 57, 2, 57, 0, 0, 0, []), (.if_icmp .gt 7, 3, 0, 16, 0, 0, []), (.iconst 1, 1, 1, 0, 0, 0, []), (.goto 4, 3, 0, 17, 0, 0, [])]
theorem k_X12_isDigit_0 : zk_ckb 12 false (zk_m 166) B_X12_isDigit_0 0 = true := by decide +kernel
def B_X12_isDigit_16 : List zk_I := [(.iconst 0, 1, 0, 0, 0, 0, [])]
theorem k_X12_isDigit_16 : zk_ckb 12 false (zk_m 166) B_X12_isDigit_16 16 = true := by decide +kernel
def B_X12_isDigit_17 : List zk_I := [(.ireturn, 1, 0, 1, 0, 0, [])]
theorem k_X12_isDigit_17 : zk_ckb 12 false (zk_m 166) B_X12_isDigit_17 17 = true := by decide +kernel
def B_X12_look_0 : List zk_I := [(.aload_n 0, 1, 0, 0, 0, 0, []), (.getfield 251, 3, 0, 12, 2, 0, []), (.aload_n 0, 1, 0, 0, 0, 0, []), (.getfield 254, 3, 0, 12, 3, 0, []), (.if_icmp .ge 44, 3, 0, 52, 0, 0, []), (.aload_n 0, 1, 0, 0, 0, 0, []), (.getfield 7, 3, 0, 12, 0, 0, []), (.aload_n 0, 1, 0, 0, 0, 0, []), (.getfield 251, 3, 0, 12, 2, 0, []), (.iaload, 1, 0, 0, 0, 0, []), (.bipush 10, 2, 10, 0, 0, 0, []), (.if_icmp .eq 17, 3, 0, 39, 0, 0, []), (.aload_n 0, 1, 0, 0, 0, 0, []), (.getfield 7, 3, 0, 12, 0, 0, []), (.aload_n 0, 1, 0, 0, 0, 0, []), (.getfield 251, 3, 0, 12, 2, 0, []), (.iaload, 1, 0, 0, 0, 0, []), (.bipush 32, 2, 32, 0, 0, 0, []), (.if_icmp .ne 16, 3, 0, 52, 0, 0, [])]
theorem k_X12_look_0 : zk_ckb 12 false (zk_m 167) B_X12_look_0 0 = true := by decide +kernel
def B_X12_look_39 : List zk_I := [(.aload_n 0, 1, 0, 0, 0, 0, []), (.dup, 1, 0, 0, 0, 0, []), (.getfield 251, 3, 0, 12, 2, 0, []), (.iconst 1, 1, 1, 0, 0, 0, []), (.iadd, 1, 0, 0, 0, 0, []), (.putfield 251, 3, 0, 12, 2, 0, []), (.goto (-49), 3, 0, 0, 0, 0, [])]
theorem k_X12_look_39 : zk_ckb 12 false (zk_m 167) B_X12_look_39 39 = true := by decide +kernel
def B_X12_look_52 : List zk_I := [(.aload_n 0, 1, 0, 0, 0, 0, []), (.getfield 251, 3, 0, 12, 2, 0, []), (.aload_n 0, 1, 0, 0, 0, 0, []), (.getfield 254, 3, 0, 12, 3, 0, []), (.if_icmp .ge 15, 3, 0, 75, 0, 0, []), (.aload_n 0, 1, 0, 0, 0, 0, []), (.getfield 7, 3, 0, 12, 0, 0, []), (.aload_n 0, 1, 0, 0, 0, 0, []), (.getfield 251, 3, 0, 12, 2, 0, []), (.iaload, 1, 0, 0, 0, 0, []), (.goto 4, 3, 0, 76, 0, 0, [])]
theorem k_X12_look_52 : zk_ckb 12 false (zk_m 167) B_X12_look_52 52 = true := by decide +kernel
def B_X12_look_75 : List zk_I := [(.iconst (-1), 1, (-1), 0, 0, 0, [])]
theorem k_X12_look_75 : zk_ckb 12 false (zk_m 167) B_X12_look_75 75 = true := by decide +kernel
def B_X12_look_76 : List zk_I := [(.ireturn, 1, 0, 0, 0, 0, [])]
theorem k_X12_look_76 : zk_ckb 12 false (zk_m 167) B_X12_look_76 76 = true := by decide +kernel
def B_X12_isHere_0 : List zk_I := [(.aload_n 0, 1, 0, 0, 0, 0, []), (.getfield 245, 3, 0, 12, 5, 0, []), (.ifCond .ne 24, 3, 0, 28, 0, 0, []), (.aload_n 0, 1, 0, 0, 0, 0, []), (.invokevirtual 257, 3, 0, 1, 167, 12, []), (.invokestatic 261, 3, 0, 1, 165, 12, []), (.ifCond .eq 14, 3, 0, 28, 0, 0, []), (.aload_n 0, 1, 0, 0, 0, 0, []), (.getfield 251, 3, 0, 12, 2, 0, []), (.aload_n 0, 1, 0, 0, 0, 0, []), (.getfield 265, 3, 0, 12, 4, 0, []), (.if_icmp .ne 5, 3, 0, 30, 0, 0, [])]
theorem k_X12_isHere_0 : zk_ckb 12 false (zk_m 168) B_X12_isHere_0 0 = true := by decide +kernel
def B_X12_isHere_28 : List zk_I := [(.iconst 0, 1, 0, 0, 0, 0, []), (.ireturn, 1, 0, 1, 0, 0, [])]
theorem k_X12_isHere_28 : zk_ckb 12 false (zk_m 168) B_X12_isHere_28 28 = true := by decide +kernel
def B_X12_isHere_30 : List zk_I := [(.aload_n 0, 1, 0, 0, 0, 0, []), (.getfield 251, 3, 0, 12, 2, 0, []), (.istore_n 2, 1, 0, 2, 0, 0, [])]
theorem k_X12_isHere_30 : zk_ckb 12 false (zk_m 168) B_X12_isHere_30 30 = true := by decide +kernel
def B_X12_isHere_35 : List zk_I := [(.iload_n 2, 1, 0, 2, 0, 0, []), (.aload_n 0, 1, 0, 0, 0, 0, []), (.getfield 254, 3, 0, 12, 3, 0, []), (.if_icmp .ge 21, 3, 0, 61, 0, 0, []), (.aload_n 0, 1, 0, 0, 0, 0, []), (.getfield 7, 3, 0, 12, 0, 0, []), (.iload_n 2, 1, 0, 2, 0, 0, []), (.iaload, 1, 0, 0, 0, 0, []), (.invokestatic 261, 3, 0, 1, 165, 12, []), (.ifCond .eq 9, 3, 0, 61, 0, 0, []), (.iinc 2 1, 3, 1, 2, 0, 0, []), (.goto (-23), 3, 0, 35, 0, 0, [])]
theorem k_X12_isHere_35 : zk_ckb 12 false (zk_m 168) B_X12_isHere_35 35 = true := by decide +kernel
def B_X12_isHere_61 : List zk_I := [(.iload_n 2, 1, 0, 2, 0, 0, []), (.aload_n 0, 1, 0, 0, 0, 0, []), (.getfield 251, 3, 0, 12, 2, 0, []), (.isub, 1, 0, 0, 0, 0, []), (.aload_n 1, 1, 0, 1, 0, 0, []), (.arraylength, 1, 0, 0, 0, 0, []), (.if_icmp .eq 5, 3, 0, 74, 0, 0, []), (.iconst 0, 1, 0, 0, 0, 0, []), (.ireturn, 1, 0, 1, 0, 0, [])]
theorem k_X12_isHere_61 : zk_ckb 12 false (zk_m 168) B_X12_isHere_61 61 = true := by decide +kernel
def B_X12_isHere_74 : List zk_I := [(.iconst 0, 1, 0, 0, 0, 0, []), (.istore_n 3, 1, 0, 3, 0, 0, [])]
theorem k_X12_isHere_74 : zk_ckb 12 false (zk_m 168) B_X12_isHere_74 74 = true := by decide +kernel
def B_X12_isHere_76 : List zk_I := [(.iload_n 3, 1, 0, 3, 0, 0, []), (.aload_n 1, 1, 0, 1, 0, 0, []), (.arraylength, 1, 0, 0, 0, 0, []), (.if_icmp .ge 28, 3, 0, 107, 0, 0, []), (.aload_n 0, 1, 0, 0, 0, 0, []), (.getfield 7, 3, 0, 12, 0, 0, []), (.aload_n 0, 1, 0, 0, 0, 0, []), (.getfield 251, 3, 0, 12, 2, 0, []), (.iload_n 3, 1, 0, 3, 0, 0, []), (.iadd, 1, 0, 0, 0, 0, []), (.iaload, 1, 0, 0, 0, 0, []), (.aload_n 1, 1, 0, 1, 0, 0, []), (.iload_n 3, 1, 0, 3, 0, 0, []), (.caload, 1, 0, 0, 0, 0, []), (.if_icmp .eq 5, 3, 0, 101, 0, 0, []), (.iconst 0, 1, 0, 0, 0, 0, []), (.ireturn, 1, 0, 1, 0, 0, [])]
theorem k_X12_isHere_76 : zk_ckb 12 false (zk_m 168) B_X12_isHere_76 76 = true := by decide +kernel
def B_X12_isHere_101 : List zk_I := [(.iinc 3 1, 3, 1, 3, 0, 0, []), (.goto (-28), 3, 0, 76, 0, 0, [])]
theorem k_X12_isHere_101 : zk_ckb 12 false (zk_m 168) B_X12_isHere_101 101 = true := by decide +kernel
def B_X12_isHere_107 : List zk_I := [(.iconst 1, 1, 1, 0, 0, 0, []), (.ireturn, 1, 0, 1, 0, 0, [])]
theorem k_X12_isHere_107 : zk_ckb 12 false (zk_m 168) B_X12_isHere_107 107 = true := by decide +kernel
def B_X12_takes_0 : List zk_I := [(.aload_n 0, 1, 0, 0, 0, 0, []), (.aload_n 1, 1, 0, 1, 0, 0, []), (.invokevirtual 268, 3, 0, 2, 168, 12, []), (.ifCond .ne 5, 3, 0, 10, 0, 0, []), (.iconst 0, 1, 0, 0, 0, 0, []), (.ireturn, 1, 0, 1, 0, 0, [])]
theorem k_X12_takes_0 : zk_ckb 12 false (zk_m 169) B_X12_takes_0 0 = true := by decide +kernel
def B_X12_takes_10 : List zk_I := [(.aload_n 0, 1, 0, 0, 0, 0, []), (.dup, 1, 0, 0, 0, 0, []), (.getfield 251, 3, 0, 12, 2, 0, []), (.aload_n 1, 1, 0, 1, 0, 0, []), (.arraylength, 1, 0, 0, 0, 0, []), (.iadd, 1, 0, 0, 0, 0, []), (.putfield 251, 3, 0, 12, 2, 0, []), (.aload_n 0, 1, 0, 0, 0, 0, []), (.aload_n 0, 1, 0, 0, 0, 0, []), (.getfield 251, 3, 0, 12, 2, 0, []), (.putfield 265, 3, 0, 12, 4, 0, []), (.iconst 1, 1, 1, 0, 0, 0, []), (.ireturn, 1, 0, 1, 0, 0, [])]
theorem k_X12_takes_10 : zk_ckb 12 false (zk_m 169) B_X12_takes_10 10 = true := by decide +kernel
def B_X12_asks_0 : List zk_I := [(.aload_n 0, 1, 0, 0, 0, 0, []), (.getfield 245, 3, 0, 12, 5, 0, []), (.ifCond .ne 20, 3, 0, 24, 0, 0, []), (.aload_n 0, 1, 0, 0, 0, 0, []), (.aload_n 1, 1, 0, 1, 0, 0, []), (.invokevirtual 272, 3, 0, 2, 169, 12, []), (.ifCond .ne 12, 3, 0, 24, 0, 0, []), (.aload_n 0, 1, 0, 0, 0, 0, []), (.iconst 1, 1, 1, 0, 0, 0, []), (.aload_n 0, 1, 0, 0, 0, 0, []), (.getfield 251, 3, 0, 12, 2, 0, []), (.invokevirtual 275, 3, 0, 3, 164, 12, [])]
theorem k_X12_asks_0 : zk_ckb 12 false (zk_m 170) B_X12_asks_0 0 = true := by decide +kernel
def B_X12_asks_24 : List zk_I := [(.return_, 1, 0, 0, 0, 0, [])]
theorem k_X12_asks_24 : zk_ckb 12 false (zk_m 170) B_X12_asks_24 24 = true := by decide +kernel
def B_X12_takesSign_0 : List zk_I := [(.aload_n 0, 1, 0, 0, 0, 0, []), (.getfield 245, 3, 0, 12, 5, 0, []), (.ifCond .ne 11, 3, 0, 15, 0, 0, []), (.aload_n 0, 1, 0, 0, 0, 0, []), (.invokevirtual 257, 3, 0, 1, 167, 12, []), (.iload_n 1, 1, 0, 1, 0, 0, []), (.if_icmp .eq 5, 3, 0, 17, 0, 0, [])]
theorem k_X12_takesSign_0 : zk_ckb 12 false (zk_m 171) B_X12_takesSign_0 0 = true := by decide +kernel
def B_X12_takesSign_15 : List zk_I := [(.iconst 0, 1, 0, 0, 0, 0, []), (.ireturn, 1, 0, 1, 0, 0, [])]
theorem k_X12_takesSign_15 : zk_ckb 12 false (zk_m 171) B_X12_takesSign_15 15 = true := by decide +kernel
def B_X12_takesSign_17 : List zk_I := [(.aload_n 0, 1, 0, 0, 0, 0, []), (.dup, 1, 0, 0, 0, 0, []), (.getfield 251, 3, 0, 12, 2, 0, []), (.iconst 1, 1, 1, 0, 0, 0, []), (.iadd, 1, 0, 0, 0, 0, []), (.putfield 251, 3, 0, 12, 2, 0, []), (.iconst 1, 1, 1, 0, 0, 0, []), (.ireturn, 1, 0, 1, 0, 0, [])]
theorem k_X12_takesSign_17 : zk_ckb 12 false (zk_m 171) B_X12_takesSign_17 17 = true := by decide +kernel
def B_X12_asksSign_0 : List zk_I := [(.aload_n 0, 1, 0, 0, 0, 0, []), (.getfield 245, 3, 0, 12, 5, 0, []), (.ifCond .ne 20, 3, 0, 24, 0, 0, []), (.aload_n 0, 1, 0, 0, 0, 0, []), (.iload_n 1, 1, 0, 1, 0, 0, []), (.invokevirtual 279, 3, 0, 2, 171, 12, []), (.ifCond .ne 12, 3, 0, 24, 0, 0, []), (.aload_n 0, 1, 0, 0, 0, 0, []), (.iconst 1, 1, 1, 0, 0, 0, []), (.aload_n 0, 1, 0, 0, 0, 0, []), (.getfield 251, 3, 0, 12, 2, 0, []), (.invokevirtual 275, 3, 0, 3, 164, 12, [])]
theorem k_X12_asksSign_0 : zk_ckb 12 false (zk_m 172) B_X12_asksSign_0 0 = true := by decide +kernel
def B_X12_asksSign_24 : List zk_I := [(.return_, 1, 0, 0, 0, 0, [])]
theorem k_X12_asksSign_24 : zk_ckb 12 false (zk_m 172) B_X12_asksSign_24 24 = true := by decide +kernel
def B_X12_number_0 : List zk_I := [(.aload_n 0, 1, 0, 0, 0, 0, []), (.getfield 245, 3, 0, 12, 5, 0, []), (.ifCond .eq 5, 3, 0, 9, 0, 0, []), (.iconst 0, 1, 0, 0, 0, 0, []), (.ireturn, 1, 0, 0, 0, 0, [])]
theorem k_X12_number_0 : zk_ckb 12 false (zk_m 173) B_X12_number_0 0 = true := by decide +kernel
def B_X12_number_9 : List zk_I := [(.aload_n 0, 1, 0, 0, 0, 0, []), (.invokevirtual 257, 3, 0, 1, 167, 12, []), (.invokestatic 282, 3, 0, 1, 166, 12, []), (.ifCond .eq 14, 3, 0, 30, 0, 0, []), (.aload_n 0, 1, 0, 0, 0, 0, []), (.getfield 251, 3, 0, 12, 2, 0, []), (.aload_n 0, 1, 0, 0, 0, 0, []), (.getfield 265, 3, 0, 12, 4, 0, []), (.if_icmp .ne 14, 3, 0, 41, 0, 0, [])]
theorem k_X12_number_9 : zk_ckb 12 false (zk_m 173) B_X12_number_9 9 = true := by decide +kernel
def B_X12_number_30 : List zk_I := [(.aload_n 0, 1, 0, 0, 0, 0, []), (.iconst 1, 1, 1, 0, 0, 0, []), (.aload_n 0, 1, 0, 0, 0, 0, []), (.getfield 251, 3, 0, 12, 2, 0, []), (.invokevirtual 275, 3, 0, 3, 164, 12, []), (.iconst 0, 1, 0, 0, 0, 0, []), (.ireturn, 1, 0, 0, 0, 0, [])]
theorem k_X12_number_30 : zk_ckb 12 false (zk_m 173) B_X12_number_30 30 = true := by decide +kernel
def B_X12_number_41 : List zk_I := [(.aload_n 0, 1, 0, 0, 0, 0, []), (.getfield 251, 3, 0, 12, 2, 0, []), (.istore_n 3, 1, 0, 3, 0, 0, []), (.iconst 0, 1, 0, 0, 0, 0, []), (.istore 4, 2, 0, 4, 0, 0, [])]
theorem k_X12_number_41 : zk_ckb 12 false (zk_m 173) B_X12_number_41 41 = true := by decide +kernel
def B_X12_number_49 : List zk_I := [(.aload_n 0, 1, 0, 0, 0, 0, []), (.getfield 251, 3, 0, 12, 2, 0, []), (.aload_n 0, 1, 0, 0, 0, 0, []), (.getfield 254, 3, 0, 12, 3, 0, []), (.if_icmp .ge 72, 3, 0, 129, 0, 0, []), (.aload_n 0, 1, 0, 0, 0, 0, []), (.getfield 7, 3, 0, 12, 0, 0, []), (.aload_n 0, 1, 0, 0, 0, 0, []), (.getfield 251, 3, 0, 12, 2, 0, []), (.iaload, 1, 0, 0, 0, 0, []), (.invokestatic 282, 3, 0, 1, 166, 12, []), (.ifCond .eq 57, 3, 0, 129, 0, 0, []), (.aload_n 0, 1, 0, 0, 0, 0, []), (.getfield 251, 3, 0, 12, 2, 0, []), (.iload_n 3, 1, 0, 3, 0, 0, []), (.isub, 1, 0, 0, 0, 0, []), (.iconst 4, 1, 4, 0, 0, 0, []), (.if_icmp .ne 14, 3, 0, 96, 0, 0, []), (.aload_n 0, 1, 0, 0, 0, 0, []), (.iconst 1, 1, 1, 0, 0, 0, []), (.aload_n 0, 1, 0, 0, 0, 0, []), (.getfield 251, 3, 0, 12, 2, 0, []), (.invokevirtual 275, 3, 0, 3, 164, 12, []), (.iconst 0, 1, 0, 0, 0, 0, []), (.ireturn, 1, 0, 0, 0, 0, [])]
theorem k_X12_number_49 : zk_ckb 12 false (zk_m 173) B_X12_number_49 49 = true := by decide +kernel
def B_X12_number_96 : List zk_I := [(.bipush 10, 2, 10, 0, 0, 0, []), (.iload 4, 2, 0, 4, 0, 0, []), (.imul, 1, 0, 0, 0, 0, []), (.aload_n 0, 1, 0, 0, 0, 0, []), (.getfield 7, 3, 0, 12, 0, 0, []), (.aload_n 0, 1, 0, 0, 0, 0, []), (.getfield 251, 3, 0, 12, 2, 0, []), (.iaload, 1, 0, 0, 0, 0, []), (.iadd, 1, 0, 0, 0, 0, []), (.bipush 48, 2, 48, 0, 0, 0, []), (.isub, 1, 0, 0, 0, 0, []), (.istore 4, 2, 0, 4, 0, 0, []), (.aload_n 0, 1, 0, 0, 0, 0, []), (.dup, 1, 0, 0, 0, 0, []), (.getfield 251, 3, 0, 12, 2, 0, []), (.iconst 1, 1, 1, 0, 0, 0, []), (.iadd, 1, 0, 0, 0, 0, []), (.putfield 251, 3, 0, 12, 2, 0, []), (.goto (-77), 3, 0, 49, 0, 0, [])]
theorem k_X12_number_96 : zk_ckb 12 false (zk_m 173) B_X12_number_96 96 = true := by decide +kernel
def B_X12_number_129 : List zk_I := [(.aload_n 0, 1, 0, 0, 0, 0, []), (.aload_n 0, 1, 0, 0, 0, 0, []), (.getfield 251, 3, 0, 12, 2, 0, []), (.putfield 265, 3, 0, 12, 4, 0, []), (.iload 4, 2, 0, 4, 0, 0, []), (.i2l, 1, 0, 0, 0, 0, []), (.iload_n 1, 1, 0, 1, 0, 0, []), (.i2l, 1, 0, 0, 0, 0, []), (.iload_n 2, 1, 0, 2, 0, 0, []), (.i2l, 1, 0, 0, 0, 0, []), (.invokestatic 285, 3, 0, 3, 161, 12, []), (.ifCond .ne 9, 3, 0, 156, 0, 0, []), (.aload_n 0, 1, 0, 0, 0, 0, []), (.iconst 2, 1, 2, 0, 0, 0, []), (.iload_n 3, 1, 0, 3, 0, 0, []), (.invokevirtual 275, 3, 0, 3, 164, 12, [])]
theorem k_X12_number_129 : zk_ckb 12 false (zk_m 173) B_X12_number_129 129 = true := by decide +kernel
def B_X12_number_156 : List zk_I := [(.iload 4, 2, 0, 4, 0, 0, []), (.ireturn, 1, 0, 0, 0, 0, [])]
theorem k_X12_number_156 : zk_ckb 12 false (zk_m 173) B_X12_number_156 156 = true := by decide +kernel
def sp_wn (i : Nat) : Nat := [5, 3, 5, 6, 2, 5, 6, 4, 5, 4, 3, 4, 4, 5, 6, 5, 4, 4, 3, 6, 5, 4, 6, 4, 2, 3, 3, 3, 3, 3, 5, 4, 5, 5, 4, 5].getD i 0
def sp_ix (q : Nat) : Nat := if q ≤ 111 then q - 82 else [30, 31, 32, 33, 34, 35, 26, 25, 24, 27, 28, 29, 22, 6, 20, 17, 21, 23, 19].getD (q - 131) 0
def sp_wq (q : Nat) : Prop := (82 ≤ q ∧ q ≤ 111) ∨ (131 ≤ q ∧ q ≤ 149)
theorem sp_wn_r : ∀ i, i < 36 → 1 ≤ sp_wn i ∧ sp_wn i ≤ 6 := by decide +kernel
theorem sp_wn_sp : ∀ i, i < 36 → ∀ k, k < 7 → (k < sp_wn i ↔ sp_wc (7 * i + k) ≠ 32) := by decide +kernel
theorem sp_wn_eq : ∀ i, i < 36 → ∀ j, j < 36 → sp_wn i = sp_wn j → (∀ k, k < sp_wn i → sp_wc (7 * i + k) = sp_wc (7 * j + k)) → i = j := by decide +kernel
theorem sp_ix_lt : ∀ q, q < 150 → sp_ix q < 36 := by decide +kernel
theorem zl_w : ∀ q, q < 150 → (82 ≤ q ∧ q ≤ 111) ∨ 131 ≤ q → zk_lay q = (22, sp_wn (sp_ix q)) := by decide +kernel
theorem sp_first_ex {g : Nat → Bool} : ∀ (k i x : Nat), i ≤ x → x < i + k → g x = true → ∃ y, sp_first g i k = some y
  | 0, i, x, h1, h2, h3 => by omega
  | k + 1, i, x, h1, h2, h3 => by
    simp only [sp_first]
    by_cases h : g i = true
    · exact ⟨i, by rw [if_pos h]⟩
    · rw [if_neg h]
      exact sp_first_ex k (i + 1) x (by
        rcases Nat.lt_or_ge i x with q | q
        · exact q
        · have : i = x := by omega
          subst this; exact absurd h3 h) (by omega) h3
theorem tk_run {f : Nat → Nat} {T p : Nat} (hp : p ≤ T) (hs : tkS f T p < T) (hso : sp_so (f (tkS f T p)) ≠ 0) : ∀ i, i < tkE f T p - tkS f T p → sp_so (f (tkS f T p + i)) = sp_so (f (tkS f T p)) := by
  intro i hi
  have hE : tkE f T p = tkR f T (sp_so (f (tkS f T p))) (tkS f T p + 1) := by unfold tkE; rw [if_neg (by omega), if_neg hso]
  have hr := tkR_le (f := f) (T := T) (so := sp_so (f (tkS f T p))) (T - (tkS f T p + 1)) (tkS f T p + 1) (by omega)
  by_cases e : i = 0
  · subst e; rfl
  · exact hr.2.2.2 _ (by omega) (by omega)
theorem sp_wm_iff {f : Nat → Nat} {s z i : Nat} (hi : i < 36) (hz : z ≤ 6) (hl : ∀ k, k < z → 97 ≤ f (s + k)) : sp_wm f s z i = true ↔ z = sp_wn i ∧ ∀ k, k < z → f (s + k) = sp_wc (7 * i + k) := by
  unfold sp_wm
  simp only [Bool.and_eq_true, List.all_eq_true, List.mem_range, decide_eq_true_eq]
  constructor
  · rintro ⟨h1, h2⟩
    have hz2 : z = sp_wn i := by
      rcases Nat.lt_trichotomy z (sp_wn i) with q | q | q
      · exact absurd h2 ((sp_wn_sp i hi z (by omega)).mp q)
      · exact q
      · have h3 := h1 (sp_wn i) q
        have h4 : ¬ sp_wn i < sp_wn i := Nat.lt_irrefl _
        have h5 : ¬ sp_wc (7 * i + sp_wn i) ≠ 32 := fun z => h4 ((sp_wn_sp i hi (sp_wn i) (by omega)).mpr z)
        have := hl (sp_wn i) q
        omega
    exact ⟨hz2, fun k hk => (h1 k hk).symm⟩
  · rintro ⟨h1, h2⟩
    refine ⟨fun k hk => (h2 k hk).symm, ?_⟩
    rcases Classical.em (sp_wc (7 * i + z) = 32) with q | q
    · exact q
    · have := (sp_wn_sp i hi z (by omega)).mpr q
      omega
theorem tk_word {f : Nat → Nat} {T p : Nat} (hp : p ≤ T) (hf : ∀ i, i < T → f i ≤ 255) {i : Nat} (hi : i < 36) : tkK f T p = 300 + (i : Int) ↔ tkS f T p < T ∧ sp_so (f (tkS f T p)) = 1 ∧ ¬ (tkS f T p = p ∧ 0 < p ∧ sp_so (f (p - 1)) ≠ 0) ∧ tkE f T p - tkS f T p = sp_wn i ∧ ∀ k, k < sp_wn i → f (tkS f T p + k) = sp_wc (7 * i + k) := by
  have hsl := sp_so_le (f (tkS f T p))
  constructor
  · intro h
    have hs : tkS f T p < T := (tkK_pos (f := f) hp (by omega)).2.2.1
    have hb := hf _ hs
    unfold tkK at h
    rw [if_neg (by omega)] at h
    rcases (show sp_so (f (tkS f T p)) = 0 ∨ sp_so (f (tkS f T p)) = 1 ∨ sp_so (f (tkS f T p)) = 2 by omega) with z | z | z
    · rw [if_pos z] at h; omega
    · rw [if_neg (by omega)] at h
      split at h
      · omega
      · rename_i hst
        try rw [if_pos z] at h
        unfold sp_wkd at h
        split at h
        · omega
        · rename_i h6
          have hrun := tk_run hp hs (by omega)
          cases hq : sp_first (sp_wm f (tkS f T p) (tkE f T p - tkS f T p)) 0 36 with
          | none => rw [hq] at h; simp only at h; omega
          | some x =>
            rw [hq] at h
            simp only at h
            obtain rfl : x = i := by omega
            have h7 := sp_first_lt _ _ _ hq
            have h8 := (sp_wm_iff (by omega) (by omega) (fun k hk => (sp_so1 (by rw [hrun k hk]; exact z)).1)).mp h7.2.2
            exact ⟨hs, z, hst, h8.1, fun k hk => h8.2 k (by omega)⟩
    · rw [if_neg (by omega)] at h
      split at h
      · omega
      · rw [if_neg (by omega)] at h; omega
  · rintro ⟨hs, h1, h2, h3, h4⟩
    have hrun := tk_run hp hs (by omega)
    have hwr := sp_wn_r i hi
    have hl : ∀ k, k < tkE f T p - tkS f T p → 97 ≤ f (tkS f T p + k) := fun k hk => (sp_so1 (by rw [hrun k hk]; exact h1)).1
    unfold tkK
    rw [if_neg (by omega), if_neg (by omega), if_neg h2, if_pos h1]
    unfold sp_wkd
    rw [if_neg (by omega)]
    have hm : sp_wm f (tkS f T p) (tkE f T p - tkS f T p) i = true := (sp_wm_iff hi (by omega) hl).mpr ⟨h3, fun k hk => h4 k (by omega)⟩
    obtain ⟨y, hy⟩ := sp_first_ex (g := sp_wm f (tkS f T p) (tkE f T p - tkS f T p)) 36 0 i (by omega) (by omega) hm
    have h7 := sp_first_lt _ _ _ hy
    have h8 := (sp_wm_iff (by omega) (by omega) hl).mp h7.2.2
    have : y = i := sp_wn_eq y (by omega) i hi (by omega) (fun k hk => by rw [← h8.2 k (by omega), h4 k (by omega)])
    subst this
    rw [hy]
theorem zk_up_id {α : Type} {M : Nat → Nat → α} {p k : Nat} {x : α} (h : M p k = x) : zk_up M p k x = M := by
  funext q j
  unfold zk_up
  split
  · rename_i e; rw [e.1, e.2, h]
  · rfl
theorem zk_up_up {α : Type} {M : Nat → Nat → α} {p k : Nat} {x y : α} : zk_up (zk_up M p k x) p k y = zk_up M p k y := by
  funext q j
  unfold zk_up
  split <;> rfl
/-- a text, the place p behind what was taken, no FAULT yet -/
def mt_at (M : zk_MI) (f : Nat → Nat) (T p : Nat) : Prop := (∀ k, k < T → M 80 k = nI (f k) ∧ f k ≤ 255) ∧ T ≤ 1600 ∧ M 79 3 = nI T ∧ p ≤ T ∧ M 79 5 = 0 ∧ (∃ a, M 79 2 = nI a ∧ p ≤ a ∧ a ≤ tkS f T p ∧ M 79 6 = -1) ∧ ∃ E : Int, M 79 4 = iI E ∧ -1 ≤ E ∧ E ≤ p ∧ (E = p ↔ 0 < p ∧ sp_so (f (p - 1)) ≠ 0)
def mtF (M M' : zk_MI) : Prop := (∀ q, q ≠ 79 → M' q = M q) ∧ ∀ j, j ≠ 2 → j ≠ 4 → j ≠ 5 → j ≠ 6 → j ≠ 40 → M' 79 j = M 79 j
def mtR {α : Type} (M M' : zk_MI) (f : Nat → Nat) (T : Nat) : vs_R α → Prop
  | .inl (k, pl) => (1 ≤ k ∧ k ≤ 5) ∧ M' 79 5 = nI k ∧ M' 79 6 = nI pl ∧ mtF M M'
  | .inr (p', _) => mt_at M' f T p' ∧ mtF M M'
def mw_ok (M : zk_MI) : Prop := ∀ q, sp_wq q → ∀ k, k < sp_wn (sp_ix q) → M q k = nI (sp_wc (7 * sp_ix q + k))
theorem mtF_rf {M : zk_MI} : mtF M M := ⟨fun _ _ => rfl, fun _ _ _ _ _ _ => rfl⟩
theorem mtF_tr {M M1 M2 : zk_MI} (h : mtF M M1) (h2 : mtF M1 M2) : mtF M M2 := ⟨fun q a => by rw [h2.1 q a]; exact h.1 q a, fun j a b c d e => by rw [h2.2 j a b c d e]; exact h.2 j a b c d e⟩
theorem mtF_up {M : zk_MI} {j : Nat} {x : Int32} (h : j = 2 ∨ j = 4 ∨ j = 5 ∨ j = 6 ∨ j = 40) : mtF M (zk_up M 79 j x) := ⟨fun q a => zk_up_row a, fun i a b c d e => zk_up_ne (by omega)⟩
theorem mw_ok_fr {M M' : zk_MI} (h : mw_ok M) (hq : ∀ q, q ≠ 79 → M' q = M q) : mw_ok M' := fun q hw k hk => by rw [hq q (by unfold sp_wq at hw; omega)]; exact h q hw k hk
theorem mt_6 {M : zk_MI} {f : Nat → Nat} {T p : Nat} (h : mt_at M f T p) : M 79 6 = -1 := by
  obtain ⟨-, -, -, -, -, ⟨a, -, -, -, h6⟩, -⟩ := h
  exact h6
theorem mt_at_look {M : zk_MI} {f : Nat → Nat} {T p : Nat} (h : mt_at M f T p) : mt_at (zk_up M 79 2 (nI (tkS f T p))) f T p := by
  have h9 := mt_6 h
  obtain ⟨h1, h2, h3, h4, h5, h6, E, e1, e2⟩ := h
  have hs := tkS_le (f := f) (T := T) (T - p) p (by omega)
  exact ⟨fun k hk => by rw [zk_up_row (by decide)]; exact h1 k hk, h2, by rw [zk_up_ne (by decide)]; exact h3, h4, by rw [zk_up_ne (by decide)]; exact h5, ⟨_, zk_up_at, hs.1, Nat.le_refl _, by rw [zk_up_ne (by decide)]; exact h9⟩, E, by rw [zk_up_ne (by decide)]; exact e1, e2⟩
theorem mt_at_sign {M : zk_MI} {f : Nat → Nat} {T p : Nat} (h : mt_at M f T p) (hs : tkS f T p < T) (hso : sp_so (f (tkS f T p)) = 0) : mt_at (zk_up M 79 2 (nI (tkE f T p))) f T (tkE f T p) ∧ tkE f T p = tkS f T p + 1 := by
  have h9 := mt_6 h
  obtain ⟨h1, h2, h3, h4, h5, h6, E, e1, e2, e3, e4⟩ := h
  have hs1 := tkS_le (f := f) (T := T) (T - p) p (by omega)
  have hE : tkE f T p = tkS f T p + 1 := by unfold tkE; rw [if_neg (by omega), if_pos hso]
  have hs2 := tkS_le (f := f) (T := T) (T - tkE f T p) (tkE f T p) (by omega)
  refine ⟨⟨fun k hk => by rw [zk_up_row (by decide)]; exact h1 k hk, h2, by rw [zk_up_ne (by decide)]; exact h3, by omega, by rw [zk_up_ne (by decide)]; exact h5, ⟨_, zk_up_at, Nat.le_refl _, hs2.1, by rw [zk_up_ne (by decide)]; exact h9⟩, E, by rw [zk_up_ne (by decide)]; exact e1, e2, by omega, ?_⟩, hE⟩
  constructor
  · intro z; omega
  · rintro ⟨-, z⟩
    rw [hE, Nat.add_sub_cancel] at z
    exact absurd hso z
theorem mt_at_word {M : zk_MI} {f : Nat → Nat} {T p : Nat} (h : mt_at M f T p) (hs : tkS f T p < T) (hso : sp_so (f (tkS f T p)) ≠ 0) : mt_at (zk_up (zk_up M 79 2 (nI (tkE f T p))) 79 4 (nI (tkE f T p))) f T (tkE f T p) := by
  have h9 := mt_6 h
  obtain ⟨h1, h2, h3, h4, h5, h6, E, e1, e2, e3, e4⟩ := h
  have hs1 := tkS_le (f := f) (T := T) (T - p) p (by omega)
  have he := tkE_le f h4
  have he2 := he.2.2 hs
  have hs2 := tkS_le (f := f) (T := T) (T - tkE f T p) (tkE f T p) (by omega)
  refine ⟨fun k hk => by rw [zk_up_row (by decide), zk_up_row (by decide)]; exact h1 k hk, h2, by rw [zk_up_ne (by decide), zk_up_ne (by decide)]; exact h3, he.2.1, by rw [zk_up_ne (by decide), zk_up_ne (by decide)]; exact h5, ⟨_, by rw [zk_up_ne (by decide)]; exact zk_up_at, Nat.le_refl _, hs2.1, by rw [zk_up_ne (by decide), zk_up_ne (by decide)]; exact h9⟩, (tkE f T p : Int), zk_up_at, by omega, by omega, ?_⟩
  have hr := tk_run h4 hs hso (tkE f T p - tkS f T p - 1) (by omega)
  rw [show tkS f T p + (tkE f T p - tkS f T p - 1) = tkE f T p - 1 by omega] at hr
  constructor
  · intro _; exact ⟨by omega, by rw [hr]; exact hso⟩
  · intro _; rfl
noncomputable def tk_ci (f : Nat → Nat) (T p : Nat) : Int := if tkS f T p < T then (f (tkS f T p) : Int) else -1
section MT1
variable {G : zk_G} {n : Nat} {M : zk_MI} {L : zk_ML} {P : zk_MP}
theorem mt_ci {f : Nat → Nat} {T p : Nat} (h : mt_at M f T p) : -1 ≤ tk_ci f T p ∧ tk_ci f T p ≤ 255 := by
  unfold tk_ci
  split
  · rename_i hs
    have := (h.1 _ hs).2
    omega
  · omega
/-- a sign's kind -/
theorem tk_sign {f : Nat → Nat} {T p : Nat} (hf : ∀ i, i < T → f i ≤ 255) {c : Nat} (hc : c ≤ 255) (hso : sp_so c = 0) (hp : p ≤ T) : (tkK f T p = (c : Int)) ↔ tk_ci f T p = c := by
  unfold tk_ci
  constructor
  · intro h
    have hs : tkS f T p < T := (tkK_pos (f := f) hp (by omega)).2.2.1
    rw [if_pos hs]
    unfold tkK at h
    rw [if_neg (by omega)] at h
    split at h
    · exact h
    · split at h
      · omega
      · split at h
        · unfold sp_wkd at h
          split at h
          · omega
          · split at h <;> omega
        · omega
  · intro h
    split at h
    · rename_i hs
      have e : f (tkS f T p) = c := by omega
      unfold tkK
      rw [if_neg (by omega), e, if_pos hso]
    · omega
theorem cm_fail0 (hn : 154 ≤ n) (hP : zs_M P) (h : M 79 5 = 0) (x y : Int32) : zk_C G 0 164 [.ref 79, .int x, .int y] n M L P n (zk_same none (zk_up (zk_up M 79 5 x) 79 6 y) L P) := by
  refine zk_meth (ow := 12) (kind := 1) (k := 2) (nL := 3) (ct := false) (l0 := [.ref 79, .int x, .int y]) (by decide +kernel) (fun h => by cases h) (by decide +kernel) (by decide) (by decide) (fun h => absurd h (by decide)) (Nat.le_of_ble_eq_true rfl) rfl (by omega) (fun Z hZ => ?_)
  have ho := zo_M hn
  have hP2 := hP
  unfold zs_M at hP2
  refine hZ B_X12_fail_0 _ _ _ _ _ _ _ k_X12_fail_0 ?_
  simp only [B_X12_fail_0, zk_ldi_s, zk_ldl_s, zk_lda_r, zk_lda_a, zk_lda_n, zk_iv_s, zr_nil, zr_cons, zp_0, zp_s, zt_0, zt_s, zt2_0, zt2_s, zw_iconst, zw_bipush, zw_sipush, zw_lconst, zw_ldcs, zw_ldc, zw_ldcw, zw_ldc2, zw_iload_n, zw_lload_n, zw_aload_n, zw_istore_n, zw_lstore_n, zw_astore_n, zw_astoreN_n, zw_iload, zw_lload, zw_aload, zw_istore, zw_lstore, zw_astore, zw_astoreN, zw_iinc, zw_iadd, zw_isub, zw_imul, zw_iand, zw_ior, zw_ixor, zw_ishl, zw_ishr, zw_iushr, zw_idiv, zw_irem, zw_ladd, zw_lsub, zw_lmul, zw_land, zw_ldiv, zw_lrem, zw_lcmp, zw_i2l, zw_l2i, zw_dup, zw_pop, zw_dup2i, zw_goto, zw_if_eq, zw_if_ne, zw_if_lt, zw_if_ge, zw_if_gt, zw_if_le, zw_ic_eq, zw_ic_ne, zw_ic_lt, zw_ic_ge, zw_ic_gt, zw_ic_le, zw_ifnn, zw_ifnnN, zw_tsw, zw_lsw, zw_getf_l, zw_getf_r, zw_getf_i, zw_getf_z, zw_putf_i, zw_putf_z, zw_putf_l, zw_putf_r, zw_iaload, zw_caload, zw_laload, zw_aaload, zw_iastore, zw_castore, zw_lastore, zw_aastore, zw_alen, zw_newa, zw_newq, zw_new, zw_oini, zw_invs, zw_invv, zw_copy, zw_invt, zw_iret, zw_lret, zw_ret, zc_r, zc_a, zk_rvs, zk_cat2, List.getElem?_cons_zero, List.getElem?_cons_succ, Bool.false_eq_true, and_false, false_and, and_true, true_and, reduceIte, Nat.reduceEqDiff, Nat.reduceLT, Nat.reduceAdd, List.cons_append, List.nil_append, Option.toList_some, Option.toList_none, zk_cat_i, zk_cat_r, zk_cat_n, zk_same, Option.some.injEq, Value.int.injEq, Value.long.injEq, eq_self, false_implies, true_implies, zf_12, ho, hP2, zl_M, zc_n10, zc_cl, zc_in, not_true_eq_false, not_false_eq_true, h]
  refine hZ B_X12_fail_8 _ _ _ _ _ _ _ k_X12_fail_8 ?_
  simp only [B_X12_fail_8, zk_ldi_s, zk_ldl_s, zk_lda_r, zk_lda_a, zk_lda_n, zk_iv_s, zr_nil, zr_cons, zp_0, zp_s, zt_0, zt_s, zt2_0, zt2_s, zw_iconst, zw_bipush, zw_sipush, zw_lconst, zw_ldcs, zw_ldc, zw_ldcw, zw_ldc2, zw_iload_n, zw_lload_n, zw_aload_n, zw_istore_n, zw_lstore_n, zw_astore_n, zw_astoreN_n, zw_iload, zw_lload, zw_aload, zw_istore, zw_lstore, zw_astore, zw_astoreN, zw_iinc, zw_iadd, zw_isub, zw_imul, zw_iand, zw_ior, zw_ixor, zw_ishl, zw_ishr, zw_iushr, zw_idiv, zw_irem, zw_ladd, zw_lsub, zw_lmul, zw_land, zw_ldiv, zw_lrem, zw_lcmp, zw_i2l, zw_l2i, zw_dup, zw_pop, zw_dup2i, zw_goto, zw_if_eq, zw_if_ne, zw_if_lt, zw_if_ge, zw_if_gt, zw_if_le, zw_ic_eq, zw_ic_ne, zw_ic_lt, zw_ic_ge, zw_ic_gt, zw_ic_le, zw_ifnn, zw_ifnnN, zw_tsw, zw_lsw, zw_getf_l, zw_getf_r, zw_getf_i, zw_getf_z, zw_putf_i, zw_putf_z, zw_putf_l, zw_putf_r, zw_iaload, zw_caload, zw_laload, zw_aaload, zw_iastore, zw_castore, zw_lastore, zw_aastore, zw_alen, zw_newa, zw_newq, zw_new, zw_oini, zw_invs, zw_invv, zw_copy, zw_invt, zw_iret, zw_lret, zw_ret, zc_r, zc_a, zk_rvs, zk_cat2, List.getElem?_cons_zero, List.getElem?_cons_succ, Bool.false_eq_true, and_false, false_and, and_true, true_and, reduceIte, Nat.reduceEqDiff, Nat.reduceLT, Nat.reduceAdd, List.cons_append, List.nil_append, Option.toList_some, Option.toList_none, zk_cat_i, zk_cat_r, zk_cat_n, zk_same, Option.some.injEq, Value.int.injEq, Value.long.injEq, eq_self, false_implies, true_implies, zf_12, ho, hP2, zl_M, zc_n10, zc_cl, zc_in, not_true_eq_false, not_false_eq_true]
theorem mtF_bad {x y : Int32} : mtF M (zk_up (zk_up M 79 5 x) 79 6 y) := mtF_tr (mtF_up (by omega)) (mtF_up (by omega))
theorem mt_bad5 {x y : Int32} : zk_up (zk_up M 79 5 x) 79 6 y 79 5 = x ∧ zk_up (zk_up M 79 5 x) 79 6 y 79 6 = y := ⟨by rw [zk_up_ne (by decide)]; exact zk_up_at, zk_up_at⟩
theorem cm_isLetter (x : Int) (h1 : -1 ≤ x) (h2 : x ≤ 255) : zk_C G 0 165 [.int (iI x)] n M L P n (zk_same (some (.int (if 97 ≤ x ∧ x ≤ 122 then 1 else 0))) M L P) := by
  refine zk_meth (ow := 12) (kind := 0) (k := 1) (nL := 1) (ct := false) (l0 := [.int (iI x)]) (by decide +kernel) (fun h => by cases h) (by decide +kernel) (by decide) (by decide) (fun h => absurd h (by decide)) (Nat.le_of_ble_eq_true rfl) rfl (by omega) (fun Z hZ => ?_)
  have e1 : (iI x < (97 : Int32)) = (x < 97) := by rw [show (97 : Int32) = iI 97 from by decide, iI_lt (by omega) (by omega) (by omega) (by omega)]
  have e2 : ((122 : Int32) < iI x) = (122 < x) := by rw [show (122 : Int32) = iI 122 from by decide, iI_lt (by omega) (by omega) (by omega) (by omega)]
  have no : ¬ (97 ≤ x ∧ x ≤ 122) → Z 16 [.int (iI x)] [] n M L P := fun h => by
    refine hZ B_X12_isLetter_16 _ _ _ _ _ _ _ k_X12_isLetter_16 ?_
    simp only [B_X12_isLetter_16, zk_ldi_s, zk_ldl_s, zk_lda_r, zk_lda_a, zk_lda_n, zk_iv_s, zr_nil, zr_cons, zp_0, zp_s, zt_0, zt_s, zt2_0, zt2_s, zw_iconst, zw_bipush, zw_sipush, zw_lconst, zw_ldcs, zw_ldc, zw_ldcw, zw_ldc2, zw_iload_n, zw_lload_n, zw_aload_n, zw_istore_n, zw_lstore_n, zw_astore_n, zw_astoreN_n, zw_iload, zw_lload, zw_aload, zw_istore, zw_lstore, zw_astore, zw_astoreN, zw_iinc, zw_iadd, zw_isub, zw_imul, zw_iand, zw_ior, zw_ixor, zw_ishl, zw_ishr, zw_iushr, zw_idiv, zw_irem, zw_ladd, zw_lsub, zw_lmul, zw_land, zw_ldiv, zw_lrem, zw_lcmp, zw_i2l, zw_l2i, zw_dup, zw_pop, zw_dup2i, zw_goto, zw_if_eq, zw_if_ne, zw_if_lt, zw_if_ge, zw_if_gt, zw_if_le, zw_ic_eq, zw_ic_ne, zw_ic_lt, zw_ic_ge, zw_ic_gt, zw_ic_le, zw_ifnn, zw_ifnnN, zw_tsw, zw_lsw, zw_getf_l, zw_getf_r, zw_getf_i, zw_getf_z, zw_putf_i, zw_putf_z, zw_putf_l, zw_putf_r, zw_iaload, zw_caload, zw_laload, zw_aaload, zw_iastore, zw_castore, zw_lastore, zw_aastore, zw_alen, zw_newa, zw_newq, zw_new, zw_oini, zw_invs, zw_invv, zw_copy, zw_invt, zw_iret, zw_lret, zw_ret, zc_r, zc_a, zk_rvs, zk_cat2, List.getElem?_cons_zero, List.getElem?_cons_succ, Bool.false_eq_true, and_false, false_and, and_true, true_and, reduceIte, Nat.reduceEqDiff, Nat.reduceLT, Nat.reduceAdd, List.cons_append, List.nil_append, Option.toList_some, Option.toList_none, zk_cat_i, zk_cat_r, zk_cat_n, zk_same, Option.some.injEq, Value.int.injEq, Value.long.injEq, eq_self, false_implies, true_implies]
    refine hZ B_X12_isLetter_17 _ _ _ _ _ _ _ k_X12_isLetter_17 ?_
    simp only [B_X12_isLetter_17, zk_ldi_s, zk_ldl_s, zk_lda_r, zk_lda_a, zk_lda_n, zk_iv_s, zr_nil, zr_cons, zp_0, zp_s, zt_0, zt_s, zt2_0, zt2_s, zw_iconst, zw_bipush, zw_sipush, zw_lconst, zw_ldcs, zw_ldc, zw_ldcw, zw_ldc2, zw_iload_n, zw_lload_n, zw_aload_n, zw_istore_n, zw_lstore_n, zw_astore_n, zw_astoreN_n, zw_iload, zw_lload, zw_aload, zw_istore, zw_lstore, zw_astore, zw_astoreN, zw_iinc, zw_iadd, zw_isub, zw_imul, zw_iand, zw_ior, zw_ixor, zw_ishl, zw_ishr, zw_iushr, zw_idiv, zw_irem, zw_ladd, zw_lsub, zw_lmul, zw_land, zw_ldiv, zw_lrem, zw_lcmp, zw_i2l, zw_l2i, zw_dup, zw_pop, zw_dup2i, zw_goto, zw_if_eq, zw_if_ne, zw_if_lt, zw_if_ge, zw_if_gt, zw_if_le, zw_ic_eq, zw_ic_ne, zw_ic_lt, zw_ic_ge, zw_ic_gt, zw_ic_le, zw_ifnn, zw_ifnnN, zw_tsw, zw_lsw, zw_getf_l, zw_getf_r, zw_getf_i, zw_getf_z, zw_putf_i, zw_putf_z, zw_putf_l, zw_putf_r, zw_iaload, zw_caload, zw_laload, zw_aaload, zw_iastore, zw_castore, zw_lastore, zw_aastore, zw_alen, zw_newa, zw_newq, zw_new, zw_oini, zw_invs, zw_invv, zw_copy, zw_invt, zw_iret, zw_lret, zw_ret, zc_r, zc_a, zk_rvs, zk_cat2, List.getElem?_cons_zero, List.getElem?_cons_succ, Bool.false_eq_true, and_false, false_and, and_true, true_and, reduceIte, Nat.reduceEqDiff, Nat.reduceLT, Nat.reduceAdd, List.cons_append, List.nil_append, Option.toList_some, Option.toList_none, zk_cat_i, zk_cat_r, zk_cat_n, zk_same, Option.some.injEq, Value.int.injEq, Value.long.injEq, eq_self, false_implies, true_implies]
    rw [if_neg h]
    exact ⟨Or.inl rfl, rfl⟩
  refine hZ B_X12_isLetter_0 _ _ _ _ _ _ _ k_X12_isLetter_0 ?_
  simp only [B_X12_isLetter_0, zk_ldi_s, zk_ldl_s, zk_lda_r, zk_lda_a, zk_lda_n, zk_iv_s, zr_nil, zr_cons, zp_0, zp_s, zt_0, zt_s, zt2_0, zt2_s, zw_iconst, zw_bipush, zw_sipush, zw_lconst, zw_ldcs, zw_ldc, zw_ldcw, zw_ldc2, zw_iload_n, zw_lload_n, zw_aload_n, zw_istore_n, zw_lstore_n, zw_astore_n, zw_astoreN_n, zw_iload, zw_lload, zw_aload, zw_istore, zw_lstore, zw_astore, zw_astoreN, zw_iinc, zw_iadd, zw_isub, zw_imul, zw_iand, zw_ior, zw_ixor, zw_ishl, zw_ishr, zw_iushr, zw_idiv, zw_irem, zw_ladd, zw_lsub, zw_lmul, zw_land, zw_ldiv, zw_lrem, zw_lcmp, zw_i2l, zw_l2i, zw_dup, zw_pop, zw_dup2i, zw_goto, zw_if_eq, zw_if_ne, zw_if_lt, zw_if_ge, zw_if_gt, zw_if_le, zw_ic_eq, zw_ic_ne, zw_ic_lt, zw_ic_ge, zw_ic_gt, zw_ic_le, zw_ifnn, zw_ifnnN, zw_tsw, zw_lsw, zw_getf_l, zw_getf_r, zw_getf_i, zw_getf_z, zw_putf_i, zw_putf_z, zw_putf_l, zw_putf_r, zw_iaload, zw_caload, zw_laload, zw_aaload, zw_iastore, zw_castore, zw_lastore, zw_aastore, zw_alen, zw_newa, zw_newq, zw_new, zw_oini, zw_invs, zw_invv, zw_copy, zw_invt, zw_iret, zw_lret, zw_ret, zc_r, zc_a, zk_rvs, zk_cat2, List.getElem?_cons_zero, List.getElem?_cons_succ, Bool.false_eq_true, and_false, false_and, and_true, true_and, reduceIte, Nat.reduceEqDiff, Nat.reduceLT, Nat.reduceAdd, List.cons_append, List.nil_append, Option.toList_some, Option.toList_none, zk_cat_i, zk_cat_r, zk_cat_n, zk_same, Option.some.injEq, Value.int.injEq, Value.long.injEq, eq_self, false_implies, true_implies, e1, e2]
  refine ⟨fun g => no (by omega), fun g => ⟨fun g2 => no (by omega), fun g2 => ?_⟩⟩
  refine hZ B_X12_isLetter_17 _ _ _ _ _ _ _ k_X12_isLetter_17 ?_
  simp only [B_X12_isLetter_17, zk_ldi_s, zk_ldl_s, zk_lda_r, zk_lda_a, zk_lda_n, zk_iv_s, zr_nil, zr_cons, zp_0, zp_s, zt_0, zt_s, zt2_0, zt2_s, zw_iconst, zw_bipush, zw_sipush, zw_lconst, zw_ldcs, zw_ldc, zw_ldcw, zw_ldc2, zw_iload_n, zw_lload_n, zw_aload_n, zw_istore_n, zw_lstore_n, zw_astore_n, zw_astoreN_n, zw_iload, zw_lload, zw_aload, zw_istore, zw_lstore, zw_astore, zw_astoreN, zw_iinc, zw_iadd, zw_isub, zw_imul, zw_iand, zw_ior, zw_ixor, zw_ishl, zw_ishr, zw_iushr, zw_idiv, zw_irem, zw_ladd, zw_lsub, zw_lmul, zw_land, zw_ldiv, zw_lrem, zw_lcmp, zw_i2l, zw_l2i, zw_dup, zw_pop, zw_dup2i, zw_goto, zw_if_eq, zw_if_ne, zw_if_lt, zw_if_ge, zw_if_gt, zw_if_le, zw_ic_eq, zw_ic_ne, zw_ic_lt, zw_ic_ge, zw_ic_gt, zw_ic_le, zw_ifnn, zw_ifnnN, zw_tsw, zw_lsw, zw_getf_l, zw_getf_r, zw_getf_i, zw_getf_z, zw_putf_i, zw_putf_z, zw_putf_l, zw_putf_r, zw_iaload, zw_caload, zw_laload, zw_aaload, zw_iastore, zw_castore, zw_lastore, zw_aastore, zw_alen, zw_newa, zw_newq, zw_new, zw_oini, zw_invs, zw_invv, zw_copy, zw_invt, zw_iret, zw_lret, zw_ret, zc_r, zc_a, zk_rvs, zk_cat2, List.getElem?_cons_zero, List.getElem?_cons_succ, Bool.false_eq_true, and_false, false_and, and_true, true_and, reduceIte, Nat.reduceEqDiff, Nat.reduceLT, Nat.reduceAdd, List.cons_append, List.nil_append, Option.toList_some, Option.toList_none, zk_cat_i, zk_cat_r, zk_cat_n, zk_same, Option.some.injEq, Value.int.injEq, Value.long.injEq, eq_self, false_implies, true_implies]
  rw [if_pos (by omega)]
  exact ⟨Or.inr rfl, rfl⟩
theorem cm_isDigit (x : Int) (h1 : -1 ≤ x) (h2 : x ≤ 255) : zk_C G 0 166 [.int (iI x)] n M L P n (zk_same (some (.int (if 48 ≤ x ∧ x ≤ 57 then 1 else 0))) M L P) := by
  refine zk_meth (ow := 12) (kind := 0) (k := 1) (nL := 1) (ct := false) (l0 := [.int (iI x)]) (by decide +kernel) (fun h => by cases h) (by decide +kernel) (by decide) (by decide) (fun h => absurd h (by decide)) (Nat.le_of_ble_eq_true rfl) rfl (by omega) (fun Z hZ => ?_)
  have e1 : (iI x < (48 : Int32)) = (x < 48) := by rw [show (48 : Int32) = iI 48 from by decide, iI_lt (by omega) (by omega) (by omega) (by omega)]
  have e2 : ((57 : Int32) < iI x) = (57 < x) := by rw [show (57 : Int32) = iI 57 from by decide, iI_lt (by omega) (by omega) (by omega) (by omega)]
  have no : ¬ (48 ≤ x ∧ x ≤ 57) → Z 16 [.int (iI x)] [] n M L P := fun h => by
    refine hZ B_X12_isDigit_16 _ _ _ _ _ _ _ k_X12_isDigit_16 ?_
    simp only [B_X12_isDigit_16, zk_ldi_s, zk_ldl_s, zk_lda_r, zk_lda_a, zk_lda_n, zk_iv_s, zr_nil, zr_cons, zp_0, zp_s, zt_0, zt_s, zt2_0, zt2_s, zw_iconst, zw_bipush, zw_sipush, zw_lconst, zw_ldcs, zw_ldc, zw_ldcw, zw_ldc2, zw_iload_n, zw_lload_n, zw_aload_n, zw_istore_n, zw_lstore_n, zw_astore_n, zw_astoreN_n, zw_iload, zw_lload, zw_aload, zw_istore, zw_lstore, zw_astore, zw_astoreN, zw_iinc, zw_iadd, zw_isub, zw_imul, zw_iand, zw_ior, zw_ixor, zw_ishl, zw_ishr, zw_iushr, zw_idiv, zw_irem, zw_ladd, zw_lsub, zw_lmul, zw_land, zw_ldiv, zw_lrem, zw_lcmp, zw_i2l, zw_l2i, zw_dup, zw_pop, zw_dup2i, zw_goto, zw_if_eq, zw_if_ne, zw_if_lt, zw_if_ge, zw_if_gt, zw_if_le, zw_ic_eq, zw_ic_ne, zw_ic_lt, zw_ic_ge, zw_ic_gt, zw_ic_le, zw_ifnn, zw_ifnnN, zw_tsw, zw_lsw, zw_getf_l, zw_getf_r, zw_getf_i, zw_getf_z, zw_putf_i, zw_putf_z, zw_putf_l, zw_putf_r, zw_iaload, zw_caload, zw_laload, zw_aaload, zw_iastore, zw_castore, zw_lastore, zw_aastore, zw_alen, zw_newa, zw_newq, zw_new, zw_oini, zw_invs, zw_invv, zw_copy, zw_invt, zw_iret, zw_lret, zw_ret, zc_r, zc_a, zk_rvs, zk_cat2, List.getElem?_cons_zero, List.getElem?_cons_succ, Bool.false_eq_true, and_false, false_and, and_true, true_and, reduceIte, Nat.reduceEqDiff, Nat.reduceLT, Nat.reduceAdd, List.cons_append, List.nil_append, Option.toList_some, Option.toList_none, zk_cat_i, zk_cat_r, zk_cat_n, zk_same, Option.some.injEq, Value.int.injEq, Value.long.injEq, eq_self, false_implies, true_implies]
    refine hZ B_X12_isDigit_17 _ _ _ _ _ _ _ k_X12_isDigit_17 ?_
    simp only [B_X12_isDigit_17, zk_ldi_s, zk_ldl_s, zk_lda_r, zk_lda_a, zk_lda_n, zk_iv_s, zr_nil, zr_cons, zp_0, zp_s, zt_0, zt_s, zt2_0, zt2_s, zw_iconst, zw_bipush, zw_sipush, zw_lconst, zw_ldcs, zw_ldc, zw_ldcw, zw_ldc2, zw_iload_n, zw_lload_n, zw_aload_n, zw_istore_n, zw_lstore_n, zw_astore_n, zw_astoreN_n, zw_iload, zw_lload, zw_aload, zw_istore, zw_lstore, zw_astore, zw_astoreN, zw_iinc, zw_iadd, zw_isub, zw_imul, zw_iand, zw_ior, zw_ixor, zw_ishl, zw_ishr, zw_iushr, zw_idiv, zw_irem, zw_ladd, zw_lsub, zw_lmul, zw_land, zw_ldiv, zw_lrem, zw_lcmp, zw_i2l, zw_l2i, zw_dup, zw_pop, zw_dup2i, zw_goto, zw_if_eq, zw_if_ne, zw_if_lt, zw_if_ge, zw_if_gt, zw_if_le, zw_ic_eq, zw_ic_ne, zw_ic_lt, zw_ic_ge, zw_ic_gt, zw_ic_le, zw_ifnn, zw_ifnnN, zw_tsw, zw_lsw, zw_getf_l, zw_getf_r, zw_getf_i, zw_getf_z, zw_putf_i, zw_putf_z, zw_putf_l, zw_putf_r, zw_iaload, zw_caload, zw_laload, zw_aaload, zw_iastore, zw_castore, zw_lastore, zw_aastore, zw_alen, zw_newa, zw_newq, zw_new, zw_oini, zw_invs, zw_invv, zw_copy, zw_invt, zw_iret, zw_lret, zw_ret, zc_r, zc_a, zk_rvs, zk_cat2, List.getElem?_cons_zero, List.getElem?_cons_succ, Bool.false_eq_true, and_false, false_and, and_true, true_and, reduceIte, Nat.reduceEqDiff, Nat.reduceLT, Nat.reduceAdd, List.cons_append, List.nil_append, Option.toList_some, Option.toList_none, zk_cat_i, zk_cat_r, zk_cat_n, zk_same, Option.some.injEq, Value.int.injEq, Value.long.injEq, eq_self, false_implies, true_implies]
    rw [if_neg h]
    exact ⟨Or.inl rfl, rfl⟩
  refine hZ B_X12_isDigit_0 _ _ _ _ _ _ _ k_X12_isDigit_0 ?_
  simp only [B_X12_isDigit_0, zk_ldi_s, zk_ldl_s, zk_lda_r, zk_lda_a, zk_lda_n, zk_iv_s, zr_nil, zr_cons, zp_0, zp_s, zt_0, zt_s, zt2_0, zt2_s, zw_iconst, zw_bipush, zw_sipush, zw_lconst, zw_ldcs, zw_ldc, zw_ldcw, zw_ldc2, zw_iload_n, zw_lload_n, zw_aload_n, zw_istore_n, zw_lstore_n, zw_astore_n, zw_astoreN_n, zw_iload, zw_lload, zw_aload, zw_istore, zw_lstore, zw_astore, zw_astoreN, zw_iinc, zw_iadd, zw_isub, zw_imul, zw_iand, zw_ior, zw_ixor, zw_ishl, zw_ishr, zw_iushr, zw_idiv, zw_irem, zw_ladd, zw_lsub, zw_lmul, zw_land, zw_ldiv, zw_lrem, zw_lcmp, zw_i2l, zw_l2i, zw_dup, zw_pop, zw_dup2i, zw_goto, zw_if_eq, zw_if_ne, zw_if_lt, zw_if_ge, zw_if_gt, zw_if_le, zw_ic_eq, zw_ic_ne, zw_ic_lt, zw_ic_ge, zw_ic_gt, zw_ic_le, zw_ifnn, zw_ifnnN, zw_tsw, zw_lsw, zw_getf_l, zw_getf_r, zw_getf_i, zw_getf_z, zw_putf_i, zw_putf_z, zw_putf_l, zw_putf_r, zw_iaload, zw_caload, zw_laload, zw_aaload, zw_iastore, zw_castore, zw_lastore, zw_aastore, zw_alen, zw_newa, zw_newq, zw_new, zw_oini, zw_invs, zw_invv, zw_copy, zw_invt, zw_iret, zw_lret, zw_ret, zc_r, zc_a, zk_rvs, zk_cat2, List.getElem?_cons_zero, List.getElem?_cons_succ, Bool.false_eq_true, and_false, false_and, and_true, true_and, reduceIte, Nat.reduceEqDiff, Nat.reduceLT, Nat.reduceAdd, List.cons_append, List.nil_append, Option.toList_some, Option.toList_none, zk_cat_i, zk_cat_r, zk_cat_n, zk_same, Option.some.injEq, Value.int.injEq, Value.long.injEq, eq_self, false_implies, true_implies, e1, e2]
  refine ⟨fun g => no (by omega), fun g => ⟨fun g2 => no (by omega), fun g2 => ?_⟩⟩
  refine hZ B_X12_isDigit_17 _ _ _ _ _ _ _ k_X12_isDigit_17 ?_
  simp only [B_X12_isDigit_17, zk_ldi_s, zk_ldl_s, zk_lda_r, zk_lda_a, zk_lda_n, zk_iv_s, zr_nil, zr_cons, zp_0, zp_s, zt_0, zt_s, zt2_0, zt2_s, zw_iconst, zw_bipush, zw_sipush, zw_lconst, zw_ldcs, zw_ldc, zw_ldcw, zw_ldc2, zw_iload_n, zw_lload_n, zw_aload_n, zw_istore_n, zw_lstore_n, zw_astore_n, zw_astoreN_n, zw_iload, zw_lload, zw_aload, zw_istore, zw_lstore, zw_astore, zw_astoreN, zw_iinc, zw_iadd, zw_isub, zw_imul, zw_iand, zw_ior, zw_ixor, zw_ishl, zw_ishr, zw_iushr, zw_idiv, zw_irem, zw_ladd, zw_lsub, zw_lmul, zw_land, zw_ldiv, zw_lrem, zw_lcmp, zw_i2l, zw_l2i, zw_dup, zw_pop, zw_dup2i, zw_goto, zw_if_eq, zw_if_ne, zw_if_lt, zw_if_ge, zw_if_gt, zw_if_le, zw_ic_eq, zw_ic_ne, zw_ic_lt, zw_ic_ge, zw_ic_gt, zw_ic_le, zw_ifnn, zw_ifnnN, zw_tsw, zw_lsw, zw_getf_l, zw_getf_r, zw_getf_i, zw_getf_z, zw_putf_i, zw_putf_z, zw_putf_l, zw_putf_r, zw_iaload, zw_caload, zw_laload, zw_aaload, zw_iastore, zw_castore, zw_lastore, zw_aastore, zw_alen, zw_newa, zw_newq, zw_new, zw_oini, zw_invs, zw_invv, zw_copy, zw_invt, zw_iret, zw_lret, zw_ret, zc_r, zc_a, zk_rvs, zk_cat2, List.getElem?_cons_zero, List.getElem?_cons_succ, Bool.false_eq_true, and_false, false_and, and_true, true_and, reduceIte, Nat.reduceEqDiff, Nat.reduceLT, Nat.reduceAdd, List.cons_append, List.nil_append, Option.toList_some, Option.toList_none, zk_cat_i, zk_cat_r, zk_cat_n, zk_same, Option.some.injEq, Value.int.injEq, Value.long.injEq, eq_self, false_implies, true_implies]
  rw [if_pos (by omega)]
  exact ⟨Or.inr rfl, rfl⟩
theorem cm_look (hn : 154 ≤ n) (hP : zs_M P) {f : Nat → Nat} {T p : Nat} (h : mt_at M f T p) : zk_C G 0 167 [.ref 79] n M L P n (zk_same (some (.int (iI (tk_ci f T p)))) (zk_up M 79 2 (nI (tkS f T p))) L P) := by
  obtain ⟨h1, h2, h3, h4, h5, ⟨a, a1, a2, a3, -⟩, h7⟩ := h
  have hs := tkS_le (f := f) (T := T) (T - p) p (by omega)
  refine zk_meth (ow := 12) (kind := 1) (k := 0) (nL := 1) (ct := false) (l0 := [.ref 79]) (by decide +kernel) (fun h => by cases h) (by decide +kernel) (by decide) (by decide) (fun h => absurd h (by decide)) (Nat.le_of_ble_eq_true rfl) rfl (by omega) (fun Z hZ => ?_)
  have ho := zo_M hn
  have hP2 := hP
  unfold zs_M at hP2
  have end52 : Z 52 [.ref 79] [] n (zk_up M 79 2 (nI (tkS f T p))) L P := by
    have u2 : zk_up M 79 2 (nI (tkS f T p)) 79 2 = nI (tkS f T p) := zk_up_at
    have u3 : zk_up M 79 2 (nI (tkS f T p)) 79 3 = nI T := by rw [zk_up_ne (by decide)]; exact h3
    have e1 : (nI T ≤ nI (tkS f T p)) = (T ≤ tkS f T p) := zn_le (by omega) (by omega)
    rcases Nat.lt_or_ge (tkS f T p) T with q | q
    · have u80 : zk_up M 79 2 (nI (tkS f T p)) 80 (tkS f T p) = nI (f (tkS f T p)) := by rw [zk_up_row (by decide)]; exact (h1 _ q).1
      refine hZ B_X12_look_52 _ _ _ _ _ _ _ k_X12_look_52 ?_
      simp only [B_X12_look_52, zk_ldi_s, zk_ldl_s, zk_lda_r, zk_lda_a, zk_lda_n, zk_iv_s, zr_nil, zr_cons, zp_0, zp_s, zt_0, zt_s, zt2_0, zt2_s, zw_iconst, zw_bipush, zw_sipush, zw_lconst, zw_ldcs, zw_ldc, zw_ldcw, zw_ldc2, zw_iload_n, zw_lload_n, zw_aload_n, zw_istore_n, zw_lstore_n, zw_astore_n, zw_astoreN_n, zw_iload, zw_lload, zw_aload, zw_istore, zw_lstore, zw_astore, zw_astoreN, zw_iinc, zw_iadd, zw_isub, zw_imul, zw_iand, zw_ior, zw_ixor, zw_ishl, zw_ishr, zw_iushr, zw_idiv, zw_irem, zw_ladd, zw_lsub, zw_lmul, zw_land, zw_ldiv, zw_lrem, zw_lcmp, zw_i2l, zw_l2i, zw_dup, zw_pop, zw_dup2i, zw_goto, zw_if_eq, zw_if_ne, zw_if_lt, zw_if_ge, zw_if_gt, zw_if_le, zw_ic_eq, zw_ic_ne, zw_ic_lt, zw_ic_ge, zw_ic_gt, zw_ic_le, zw_ifnn, zw_ifnnN, zw_tsw, zw_lsw, zw_getf_l, zw_getf_r, zw_getf_i, zw_getf_z, zw_putf_i, zw_putf_z, zw_putf_l, zw_putf_r, zw_iaload, zw_caload, zw_laload, zw_aaload, zw_iastore, zw_castore, zw_lastore, zw_aastore, zw_alen, zw_newa, zw_newq, zw_new, zw_oini, zw_invs, zw_invv, zw_copy, zw_invt, zw_iret, zw_lret, zw_ret, zc_r, zc_a, zk_rvs, zk_cat2, List.getElem?_cons_zero, List.getElem?_cons_succ, Bool.false_eq_true, and_false, false_and, and_true, true_and, reduceIte, Nat.reduceEqDiff, Nat.reduceLT, Nat.reduceAdd, List.cons_append, List.nil_append, Option.toList_some, Option.toList_none, zk_cat_i, zk_cat_r, zk_cat_n, zk_same, Option.some.injEq, Value.int.injEq, Value.long.injEq, eq_self, false_implies, true_implies, zf_12, ho, hP2, zl_M, zc_n10, zc_cl, zc_in, not_true_eq_false, not_false_eq_true, u2, u3, e1, (show (T ≤ tkS f T p) = False by simp; omega), nI_clamp (show tkS f T p < 2 ^ 31 by omega), vp_in_nI (show tkS f T p < 1600 by omega) (by omega), u80]
      refine hZ B_X12_look_76 _ _ _ _ _ _ _ k_X12_look_76 ?_
      simp only [B_X12_look_76, zk_ldi_s, zk_ldl_s, zk_lda_r, zk_lda_a, zk_lda_n, zk_iv_s, zr_nil, zr_cons, zp_0, zp_s, zt_0, zt_s, zt2_0, zt2_s, zw_iconst, zw_bipush, zw_sipush, zw_lconst, zw_ldcs, zw_ldc, zw_ldcw, zw_ldc2, zw_iload_n, zw_lload_n, zw_aload_n, zw_istore_n, zw_lstore_n, zw_astore_n, zw_astoreN_n, zw_iload, zw_lload, zw_aload, zw_istore, zw_lstore, zw_astore, zw_astoreN, zw_iinc, zw_iadd, zw_isub, zw_imul, zw_iand, zw_ior, zw_ixor, zw_ishl, zw_ishr, zw_iushr, zw_idiv, zw_irem, zw_ladd, zw_lsub, zw_lmul, zw_land, zw_ldiv, zw_lrem, zw_lcmp, zw_i2l, zw_l2i, zw_dup, zw_pop, zw_dup2i, zw_goto, zw_if_eq, zw_if_ne, zw_if_lt, zw_if_ge, zw_if_gt, zw_if_le, zw_ic_eq, zw_ic_ne, zw_ic_lt, zw_ic_ge, zw_ic_gt, zw_ic_le, zw_ifnn, zw_ifnnN, zw_tsw, zw_lsw, zw_getf_l, zw_getf_r, zw_getf_i, zw_getf_z, zw_putf_i, zw_putf_z, zw_putf_l, zw_putf_r, zw_iaload, zw_caload, zw_laload, zw_aaload, zw_iastore, zw_castore, zw_lastore, zw_aastore, zw_alen, zw_newa, zw_newq, zw_new, zw_oini, zw_invs, zw_invv, zw_copy, zw_invt, zw_iret, zw_lret, zw_ret, zc_r, zc_a, zk_rvs, zk_cat2, List.getElem?_cons_zero, List.getElem?_cons_succ, Bool.false_eq_true, and_false, false_and, and_true, true_and, reduceIte, Nat.reduceEqDiff, Nat.reduceLT, Nat.reduceAdd, List.cons_append, List.nil_append, Option.toList_some, Option.toList_none, zk_cat_i, zk_cat_r, zk_cat_n, zk_same, Option.some.injEq, Value.int.injEq, Value.long.injEq, eq_self, false_implies, true_implies, zf_12, ho, hP2, zl_M, zc_n10, zc_cl, zc_in, not_true_eq_false, not_false_eq_true]
      unfold tk_ci
      rw [if_pos q]
      rfl
    · refine hZ B_X12_look_52 _ _ _ _ _ _ _ k_X12_look_52 ?_
      simp only [B_X12_look_52, zk_ldi_s, zk_ldl_s, zk_lda_r, zk_lda_a, zk_lda_n, zk_iv_s, zr_nil, zr_cons, zp_0, zp_s, zt_0, zt_s, zt2_0, zt2_s, zw_iconst, zw_bipush, zw_sipush, zw_lconst, zw_ldcs, zw_ldc, zw_ldcw, zw_ldc2, zw_iload_n, zw_lload_n, zw_aload_n, zw_istore_n, zw_lstore_n, zw_astore_n, zw_astoreN_n, zw_iload, zw_lload, zw_aload, zw_istore, zw_lstore, zw_astore, zw_astoreN, zw_iinc, zw_iadd, zw_isub, zw_imul, zw_iand, zw_ior, zw_ixor, zw_ishl, zw_ishr, zw_iushr, zw_idiv, zw_irem, zw_ladd, zw_lsub, zw_lmul, zw_land, zw_ldiv, zw_lrem, zw_lcmp, zw_i2l, zw_l2i, zw_dup, zw_pop, zw_dup2i, zw_goto, zw_if_eq, zw_if_ne, zw_if_lt, zw_if_ge, zw_if_gt, zw_if_le, zw_ic_eq, zw_ic_ne, zw_ic_lt, zw_ic_ge, zw_ic_gt, zw_ic_le, zw_ifnn, zw_ifnnN, zw_tsw, zw_lsw, zw_getf_l, zw_getf_r, zw_getf_i, zw_getf_z, zw_putf_i, zw_putf_z, zw_putf_l, zw_putf_r, zw_iaload, zw_caload, zw_laload, zw_aaload, zw_iastore, zw_castore, zw_lastore, zw_aastore, zw_alen, zw_newa, zw_newq, zw_new, zw_oini, zw_invs, zw_invv, zw_copy, zw_invt, zw_iret, zw_lret, zw_ret, zc_r, zc_a, zk_rvs, zk_cat2, List.getElem?_cons_zero, List.getElem?_cons_succ, Bool.false_eq_true, and_false, false_and, and_true, true_and, reduceIte, Nat.reduceEqDiff, Nat.reduceLT, Nat.reduceAdd, List.cons_append, List.nil_append, Option.toList_some, Option.toList_none, zk_cat_i, zk_cat_r, zk_cat_n, zk_same, Option.some.injEq, Value.int.injEq, Value.long.injEq, eq_self, false_implies, true_implies, zf_12, ho, hP2, zl_M, zc_n10, zc_cl, zc_in, not_true_eq_false, not_false_eq_true, u2, u3, e1, (show (T ≤ tkS f T p) = True by simp; omega)]
      refine hZ B_X12_look_75 _ _ _ _ _ _ _ k_X12_look_75 ?_
      simp only [B_X12_look_75, zk_ldi_s, zk_ldl_s, zk_lda_r, zk_lda_a, zk_lda_n, zk_iv_s, zr_nil, zr_cons, zp_0, zp_s, zt_0, zt_s, zt2_0, zt2_s, zw_iconst, zw_bipush, zw_sipush, zw_lconst, zw_ldcs, zw_ldc, zw_ldcw, zw_ldc2, zw_iload_n, zw_lload_n, zw_aload_n, zw_istore_n, zw_lstore_n, zw_astore_n, zw_astoreN_n, zw_iload, zw_lload, zw_aload, zw_istore, zw_lstore, zw_astore, zw_astoreN, zw_iinc, zw_iadd, zw_isub, zw_imul, zw_iand, zw_ior, zw_ixor, zw_ishl, zw_ishr, zw_iushr, zw_idiv, zw_irem, zw_ladd, zw_lsub, zw_lmul, zw_land, zw_ldiv, zw_lrem, zw_lcmp, zw_i2l, zw_l2i, zw_dup, zw_pop, zw_dup2i, zw_goto, zw_if_eq, zw_if_ne, zw_if_lt, zw_if_ge, zw_if_gt, zw_if_le, zw_ic_eq, zw_ic_ne, zw_ic_lt, zw_ic_ge, zw_ic_gt, zw_ic_le, zw_ifnn, zw_ifnnN, zw_tsw, zw_lsw, zw_getf_l, zw_getf_r, zw_getf_i, zw_getf_z, zw_putf_i, zw_putf_z, zw_putf_l, zw_putf_r, zw_iaload, zw_caload, zw_laload, zw_aaload, zw_iastore, zw_castore, zw_lastore, zw_aastore, zw_alen, zw_newa, zw_newq, zw_new, zw_oini, zw_invs, zw_invv, zw_copy, zw_invt, zw_iret, zw_lret, zw_ret, zc_r, zc_a, zk_rvs, zk_cat2, List.getElem?_cons_zero, List.getElem?_cons_succ, Bool.false_eq_true, and_false, false_and, and_true, true_and, reduceIte, Nat.reduceEqDiff, Nat.reduceLT, Nat.reduceAdd, List.cons_append, List.nil_append, Option.toList_some, Option.toList_none, zk_cat_i, zk_cat_r, zk_cat_n, zk_same, Option.some.injEq, Value.int.injEq, Value.long.injEq, eq_self, false_implies, true_implies, zf_12, ho, hP2, zl_M, zc_n10, zc_cl, zc_in, not_true_eq_false, not_false_eq_true]
      refine hZ B_X12_look_76 _ _ _ _ _ _ _ k_X12_look_76 ?_
      simp only [B_X12_look_76, zk_ldi_s, zk_ldl_s, zk_lda_r, zk_lda_a, zk_lda_n, zk_iv_s, zr_nil, zr_cons, zp_0, zp_s, zt_0, zt_s, zt2_0, zt2_s, zw_iconst, zw_bipush, zw_sipush, zw_lconst, zw_ldcs, zw_ldc, zw_ldcw, zw_ldc2, zw_iload_n, zw_lload_n, zw_aload_n, zw_istore_n, zw_lstore_n, zw_astore_n, zw_astoreN_n, zw_iload, zw_lload, zw_aload, zw_istore, zw_lstore, zw_astore, zw_astoreN, zw_iinc, zw_iadd, zw_isub, zw_imul, zw_iand, zw_ior, zw_ixor, zw_ishl, zw_ishr, zw_iushr, zw_idiv, zw_irem, zw_ladd, zw_lsub, zw_lmul, zw_land, zw_ldiv, zw_lrem, zw_lcmp, zw_i2l, zw_l2i, zw_dup, zw_pop, zw_dup2i, zw_goto, zw_if_eq, zw_if_ne, zw_if_lt, zw_if_ge, zw_if_gt, zw_if_le, zw_ic_eq, zw_ic_ne, zw_ic_lt, zw_ic_ge, zw_ic_gt, zw_ic_le, zw_ifnn, zw_ifnnN, zw_tsw, zw_lsw, zw_getf_l, zw_getf_r, zw_getf_i, zw_getf_z, zw_putf_i, zw_putf_z, zw_putf_l, zw_putf_r, zw_iaload, zw_caload, zw_laload, zw_aaload, zw_iastore, zw_castore, zw_lastore, zw_aastore, zw_alen, zw_newa, zw_newq, zw_new, zw_oini, zw_invs, zw_invv, zw_copy, zw_invt, zw_iret, zw_lret, zw_ret, zc_r, zc_a, zk_rvs, zk_cat2, List.getElem?_cons_zero, List.getElem?_cons_succ, Bool.false_eq_true, and_false, false_and, and_true, true_and, reduceIte, Nat.reduceEqDiff, Nat.reduceLT, Nat.reduceAdd, List.cons_append, List.nil_append, Option.toList_some, Option.toList_none, zk_cat_i, zk_cat_r, zk_cat_n, zk_same, Option.some.injEq, Value.int.injEq, Value.long.injEq, eq_self, false_implies, true_implies, zf_12, ho, hP2, zl_M, zc_n10, zc_cl, zc_in, not_true_eq_false, not_false_eq_true]
      unfold tk_ci
      rw [if_neg (by omega)]
      exact zi_m1
  have loop : ∀ (j b : Nat), b + j = tkS f T p → p ≤ b → Z 0 [.ref 79] [] n (zk_up M 79 2 (nI b)) L P := by
    intro j
    induction j with
    | zero =>
      intro b hb hpb
      obtain rfl : b = tkS f T p := by omega
      have u2 : zk_up M 79 2 (nI (tkS f T p)) 79 2 = nI (tkS f T p) := zk_up_at
      have u3 : zk_up M 79 2 (nI (tkS f T p)) 79 3 = nI T := by rw [zk_up_ne (by decide)]; exact h3
      have e1 : (nI T ≤ nI (tkS f T p)) = (T ≤ tkS f T p) := zn_le (by omega) (by omega)
      rcases Nat.lt_or_ge (tkS f T p) T with q | q
      · have u80 : zk_up M 79 2 (nI (tkS f T p)) 80 (tkS f T p) = nI (f (tkS f T p)) := by rw [zk_up_row (by decide)]; exact (h1 _ q).1
        have hb9 := hs.2.2.1 q
        have hfb := (h1 _ q).2
        unfold sp_blk at hb9
        rw [decide_eq_false_iff_not] at hb9
        have e3 : (nI (f (tkS f T p)) = (10 : Int32)) = False := by rw [fa_lit 10, zn_eq (by omega) (by omega)]; simp; omega
        have e4 : (nI (f (tkS f T p)) = (32 : Int32)) = False := by rw [fa_lit 32, zn_eq (by omega) (by omega)]; simp; omega
        refine hZ B_X12_look_0 _ _ _ _ _ _ _ k_X12_look_0 ?_
        simp only [B_X12_look_0, zk_ldi_s, zk_ldl_s, zk_lda_r, zk_lda_a, zk_lda_n, zk_iv_s, zr_nil, zr_cons, zp_0, zp_s, zt_0, zt_s, zt2_0, zt2_s, zw_iconst, zw_bipush, zw_sipush, zw_lconst, zw_ldcs, zw_ldc, zw_ldcw, zw_ldc2, zw_iload_n, zw_lload_n, zw_aload_n, zw_istore_n, zw_lstore_n, zw_astore_n, zw_astoreN_n, zw_iload, zw_lload, zw_aload, zw_istore, zw_lstore, zw_astore, zw_astoreN, zw_iinc, zw_iadd, zw_isub, zw_imul, zw_iand, zw_ior, zw_ixor, zw_ishl, zw_ishr, zw_iushr, zw_idiv, zw_irem, zw_ladd, zw_lsub, zw_lmul, zw_land, zw_ldiv, zw_lrem, zw_lcmp, zw_i2l, zw_l2i, zw_dup, zw_pop, zw_dup2i, zw_goto, zw_if_eq, zw_if_ne, zw_if_lt, zw_if_ge, zw_if_gt, zw_if_le, zw_ic_eq, zw_ic_ne, zw_ic_lt, zw_ic_ge, zw_ic_gt, zw_ic_le, zw_ifnn, zw_ifnnN, zw_tsw, zw_lsw, zw_getf_l, zw_getf_r, zw_getf_i, zw_getf_z, zw_putf_i, zw_putf_z, zw_putf_l, zw_putf_r, zw_iaload, zw_caload, zw_laload, zw_aaload, zw_iastore, zw_castore, zw_lastore, zw_aastore, zw_alen, zw_newa, zw_newq, zw_new, zw_oini, zw_invs, zw_invv, zw_copy, zw_invt, zw_iret, zw_lret, zw_ret, zc_r, zc_a, zk_rvs, zk_cat2, List.getElem?_cons_zero, List.getElem?_cons_succ, Bool.false_eq_true, and_false, false_and, and_true, true_and, reduceIte, Nat.reduceEqDiff, Nat.reduceLT, Nat.reduceAdd, List.cons_append, List.nil_append, Option.toList_some, Option.toList_none, zk_cat_i, zk_cat_r, zk_cat_n, zk_same, Option.some.injEq, Value.int.injEq, Value.long.injEq, eq_self, false_implies, true_implies, zf_12, ho, hP2, zl_M, zc_n10, zc_cl, zc_in, not_true_eq_false, not_false_eq_true, u2, u3, e1, (show (T ≤ tkS f T p) = False by simp; omega), nI_clamp (show tkS f T p < 2 ^ 31 by omega), vp_in_nI (show tkS f T p < 1600 by omega) (by omega), u80, e3, e4]
        exact end52
      · refine hZ B_X12_look_0 _ _ _ _ _ _ _ k_X12_look_0 ?_
        simp only [B_X12_look_0, zk_ldi_s, zk_ldl_s, zk_lda_r, zk_lda_a, zk_lda_n, zk_iv_s, zr_nil, zr_cons, zp_0, zp_s, zt_0, zt_s, zt2_0, zt2_s, zw_iconst, zw_bipush, zw_sipush, zw_lconst, zw_ldcs, zw_ldc, zw_ldcw, zw_ldc2, zw_iload_n, zw_lload_n, zw_aload_n, zw_istore_n, zw_lstore_n, zw_astore_n, zw_astoreN_n, zw_iload, zw_lload, zw_aload, zw_istore, zw_lstore, zw_astore, zw_astoreN, zw_iinc, zw_iadd, zw_isub, zw_imul, zw_iand, zw_ior, zw_ixor, zw_ishl, zw_ishr, zw_iushr, zw_idiv, zw_irem, zw_ladd, zw_lsub, zw_lmul, zw_land, zw_ldiv, zw_lrem, zw_lcmp, zw_i2l, zw_l2i, zw_dup, zw_pop, zw_dup2i, zw_goto, zw_if_eq, zw_if_ne, zw_if_lt, zw_if_ge, zw_if_gt, zw_if_le, zw_ic_eq, zw_ic_ne, zw_ic_lt, zw_ic_ge, zw_ic_gt, zw_ic_le, zw_ifnn, zw_ifnnN, zw_tsw, zw_lsw, zw_getf_l, zw_getf_r, zw_getf_i, zw_getf_z, zw_putf_i, zw_putf_z, zw_putf_l, zw_putf_r, zw_iaload, zw_caload, zw_laload, zw_aaload, zw_iastore, zw_castore, zw_lastore, zw_aastore, zw_alen, zw_newa, zw_newq, zw_new, zw_oini, zw_invs, zw_invv, zw_copy, zw_invt, zw_iret, zw_lret, zw_ret, zc_r, zc_a, zk_rvs, zk_cat2, List.getElem?_cons_zero, List.getElem?_cons_succ, Bool.false_eq_true, and_false, false_and, and_true, true_and, reduceIte, Nat.reduceEqDiff, Nat.reduceLT, Nat.reduceAdd, List.cons_append, List.nil_append, Option.toList_some, Option.toList_none, zk_cat_i, zk_cat_r, zk_cat_n, zk_same, Option.some.injEq, Value.int.injEq, Value.long.injEq, eq_self, false_implies, true_implies, zf_12, ho, hP2, zl_M, zc_n10, zc_cl, zc_in, not_true_eq_false, not_false_eq_true, u2, u3, e1, (show (T ≤ tkS f T p) = True by simp; omega)]
        exact end52
    | succ j ih =>
      intro b hb hpb
      have u2 : zk_up M 79 2 (nI b) 79 2 = nI b := zk_up_at
      have u3 : zk_up M 79 2 (nI b) 79 3 = nI T := by rw [zk_up_ne (by decide)]; exact h3
      have e1 : (nI T ≤ nI b) = False := by rw [zn_le (by omega) (by omega)]; simp; omega
      have u80 : zk_up M 79 2 (nI b) 80 b = nI (f b) := by rw [zk_up_row (by decide)]; exact (h1 b (by omega)).1
      have hbl := hs.2.2.2 b hpb (by omega)
      have hfb := (h1 b (by omega)).2
      unfold sp_blk at hbl
      rw [decide_eq_true_eq] at hbl
      have nx : Z 39 [.ref 79] [] n (zk_up M 79 2 (nI b)) L P := by
        refine hZ B_X12_look_39 _ _ _ _ _ _ _ k_X12_look_39 ?_
        simp only [B_X12_look_39, zk_ldi_s, zk_ldl_s, zk_lda_r, zk_lda_a, zk_lda_n, zk_iv_s, zr_nil, zr_cons, zp_0, zp_s, zt_0, zt_s, zt2_0, zt2_s, zw_iconst, zw_bipush, zw_sipush, zw_lconst, zw_ldcs, zw_ldc, zw_ldcw, zw_ldc2, zw_iload_n, zw_lload_n, zw_aload_n, zw_istore_n, zw_lstore_n, zw_astore_n, zw_astoreN_n, zw_iload, zw_lload, zw_aload, zw_istore, zw_lstore, zw_astore, zw_astoreN, zw_iinc, zw_iadd, zw_isub, zw_imul, zw_iand, zw_ior, zw_ixor, zw_ishl, zw_ishr, zw_iushr, zw_idiv, zw_irem, zw_ladd, zw_lsub, zw_lmul, zw_land, zw_ldiv, zw_lrem, zw_lcmp, zw_i2l, zw_l2i, zw_dup, zw_pop, zw_dup2i, zw_goto, zw_if_eq, zw_if_ne, zw_if_lt, zw_if_ge, zw_if_gt, zw_if_le, zw_ic_eq, zw_ic_ne, zw_ic_lt, zw_ic_ge, zw_ic_gt, zw_ic_le, zw_ifnn, zw_ifnnN, zw_tsw, zw_lsw, zw_getf_l, zw_getf_r, zw_getf_i, zw_getf_z, zw_putf_i, zw_putf_z, zw_putf_l, zw_putf_r, zw_iaload, zw_caload, zw_laload, zw_aaload, zw_iastore, zw_castore, zw_lastore, zw_aastore, zw_alen, zw_newa, zw_newq, zw_new, zw_oini, zw_invs, zw_invv, zw_copy, zw_invt, zw_iret, zw_lret, zw_ret, zc_r, zc_a, zk_rvs, zk_cat2, List.getElem?_cons_zero, List.getElem?_cons_succ, Bool.false_eq_true, and_false, false_and, and_true, true_and, reduceIte, Nat.reduceEqDiff, Nat.reduceLT, Nat.reduceAdd, List.cons_append, List.nil_append, Option.toList_some, Option.toList_none, zk_cat_i, zk_cat_r, zk_cat_n, zk_same, Option.some.injEq, Value.int.injEq, Value.long.injEq, eq_self, false_implies, true_implies, zf_12, ho, hP2, zl_M, zc_n10, zc_cl, zc_in, not_true_eq_false, not_false_eq_true, u2, nI_1, zk_up_up]
        exact ih (b + 1) (by omega) (by omega)
      have e3 : (nI (f b) = (10 : Int32)) = (f b = 10) := by rw [fa_lit 10, zn_eq (by omega) (by omega)]
      have e4 : (nI (f b) = (32 : Int32)) = (f b = 32) := by rw [fa_lit 32, zn_eq (by omega) (by omega)]
      refine hZ B_X12_look_0 _ _ _ _ _ _ _ k_X12_look_0 ?_
      simp only [B_X12_look_0, zk_ldi_s, zk_ldl_s, zk_lda_r, zk_lda_a, zk_lda_n, zk_iv_s, zr_nil, zr_cons, zp_0, zp_s, zt_0, zt_s, zt2_0, zt2_s, zw_iconst, zw_bipush, zw_sipush, zw_lconst, zw_ldcs, zw_ldc, zw_ldcw, zw_ldc2, zw_iload_n, zw_lload_n, zw_aload_n, zw_istore_n, zw_lstore_n, zw_astore_n, zw_astoreN_n, zw_iload, zw_lload, zw_aload, zw_istore, zw_lstore, zw_astore, zw_astoreN, zw_iinc, zw_iadd, zw_isub, zw_imul, zw_iand, zw_ior, zw_ixor, zw_ishl, zw_ishr, zw_iushr, zw_idiv, zw_irem, zw_ladd, zw_lsub, zw_lmul, zw_land, zw_ldiv, zw_lrem, zw_lcmp, zw_i2l, zw_l2i, zw_dup, zw_pop, zw_dup2i, zw_goto, zw_if_eq, zw_if_ne, zw_if_lt, zw_if_ge, zw_if_gt, zw_if_le, zw_ic_eq, zw_ic_ne, zw_ic_lt, zw_ic_ge, zw_ic_gt, zw_ic_le, zw_ifnn, zw_ifnnN, zw_tsw, zw_lsw, zw_getf_l, zw_getf_r, zw_getf_i, zw_getf_z, zw_putf_i, zw_putf_z, zw_putf_l, zw_putf_r, zw_iaload, zw_caload, zw_laload, zw_aaload, zw_iastore, zw_castore, zw_lastore, zw_aastore, zw_alen, zw_newa, zw_newq, zw_new, zw_oini, zw_invs, zw_invv, zw_copy, zw_invt, zw_iret, zw_lret, zw_ret, zc_r, zc_a, zk_rvs, zk_cat2, List.getElem?_cons_zero, List.getElem?_cons_succ, Bool.false_eq_true, and_false, false_and, and_true, true_and, reduceIte, Nat.reduceEqDiff, Nat.reduceLT, Nat.reduceAdd, List.cons_append, List.nil_append, Option.toList_some, Option.toList_none, zk_cat_i, zk_cat_r, zk_cat_n, zk_same, Option.some.injEq, Value.int.injEq, Value.long.injEq, eq_self, false_implies, true_implies, zf_12, ho, hP2, zl_M, zc_n10, zc_cl, zc_in, not_true_eq_false, not_false_eq_true, u2, u3, e1, nI_clamp (show b < 2 ^ 31 by omega), vp_in_nI (show b < 1600 by omega) (by omega), u80, e3, e4]
      exact ⟨fun _ => nx, fun g => ⟨fun g2 => by omega, fun _ => nx⟩⟩
  have := loop (tkS f T p - a) a (by omega) a2
  rw [zk_up_id a1] at this
  exact this
/-- looked: at is the token's start -/
theorem cm_isHere (hn : 154 ≤ n) (hP : zs_M P) {f : Nat → Nat} {T p : Nat} (h : mt_at M f T p) (hw : mw_ok M) (q : Nat) (hq : sp_wq q) : zk_C G 1 168 [.ref 79, .ref q] n M L P n (zk_same (some (.int (if tkK f T p = 300 + (sp_ix q : Int) then 1 else 0))) (zk_up M 79 2 (nI (tkS f T p))) L P) := by
  have hci := mt_ci h
  have h9 := h
  obtain ⟨h1, h2, h3, h4, h5, h6, E, e1, e2, e3, e4⟩ := h
  have hfb : ∀ i, i < T → f i ≤ 255 := fun i hi => (h1 i hi).2
  have hq150 : q < 150 := by unfold sp_wq at hq; omega
  have hix := sp_ix_lt q hq150
  have hwr := sp_wn_r _ hix
  have hlay : zk_lay q = (22, sp_wn (sp_ix q)) := zl_w q hq150 (by unfold sp_wq at hq; omega)
  have hokq : zk_ok n q 22 := ⟨by omega, by rw [hlay]⟩
  have hq79 : q ≠ 79 := by unfold sp_wq at hq; omega
  have htw := tk_word (f := f) (T := T) (p := p) h4 hfb hix
  have hs := tkS_le (f := f) (T := T) (T - p) p (by omega)
  generalize hs9 : tkS f T p = s at hs htw
  refine zk_meth (ow := 12) (kind := 1) (k := 1) (nL := 4) (ct := false) (l0 := [.ref 79, .ref q, zk_un, zk_un]) (by decide +kernel) (fun h => by cases h) (by decide +kernel) (by decide) (by decide) (fun h => absurd h (by decide)) (Nat.le_of_ble_eq_true rfl) rfl (by omega) (fun Z hZ => ?_)
  have ho := zo_M hn
  have hP2 := hP
  unfold zs_M at hP2
  have no : ∀ v2 v3 M9, M9 = zk_up M 79 2 (nI s) → ¬ (tkK f T p = 300 + (sp_ix q : Int)) → Z 28 [.ref 79, .ref q, v2, v3] [] n M9 L P := fun v2 v3 M9 hM9 hk => by
    subst hM9
    refine hZ B_X12_isHere_28 _ _ _ _ _ _ _ k_X12_isHere_28 ?_
    simp only [B_X12_isHere_28, zk_ldi_s, zk_ldl_s, zk_lda_r, zk_lda_a, zk_lda_n, zk_iv_s, zr_nil, zr_cons, zp_0, zp_s, zt_0, zt_s, zt2_0, zt2_s, zw_iconst, zw_bipush, zw_sipush, zw_lconst, zw_ldcs, zw_ldc, zw_ldcw, zw_ldc2, zw_iload_n, zw_lload_n, zw_aload_n, zw_istore_n, zw_lstore_n, zw_astore_n, zw_astoreN_n, zw_iload, zw_lload, zw_aload, zw_istore, zw_lstore, zw_astore, zw_astoreN, zw_iinc, zw_iadd, zw_isub, zw_imul, zw_iand, zw_ior, zw_ixor, zw_ishl, zw_ishr, zw_iushr, zw_idiv, zw_irem, zw_ladd, zw_lsub, zw_lmul, zw_land, zw_ldiv, zw_lrem, zw_lcmp, zw_i2l, zw_l2i, zw_dup, zw_pop, zw_dup2i, zw_goto, zw_if_eq, zw_if_ne, zw_if_lt, zw_if_ge, zw_if_gt, zw_if_le, zw_ic_eq, zw_ic_ne, zw_ic_lt, zw_ic_ge, zw_ic_gt, zw_ic_le, zw_ifnn, zw_ifnnN, zw_tsw, zw_lsw, zw_getf_l, zw_getf_r, zw_getf_i, zw_getf_z, zw_putf_i, zw_putf_z, zw_putf_l, zw_putf_r, zw_iaload, zw_caload, zw_laload, zw_aaload, zw_iastore, zw_castore, zw_lastore, zw_aastore, zw_alen, zw_newa, zw_newq, zw_new, zw_oini, zw_invs, zw_invv, zw_copy, zw_invt, zw_iret, zw_lret, zw_ret, zc_r, zc_a, zk_rvs, zk_cat2, List.getElem?_cons_zero, List.getElem?_cons_succ, Bool.false_eq_true, and_false, false_and, and_true, true_and, reduceIte, Nat.reduceEqDiff, Nat.reduceLT, Nat.reduceAdd, List.cons_append, List.nil_append, Option.toList_some, Option.toList_none, zk_cat_i, zk_cat_r, zk_cat_n, zk_same, Option.some.injEq, Value.int.injEq, Value.long.injEq, eq_self, false_implies, true_implies, zf_12, ho, hP2, zl_M, zc_n10, zc_cl, zc_in, not_true_eq_false, not_false_eq_true]
    rw [if_neg hk]
    exact ⟨Or.inl rfl, rfl⟩
  refine hZ B_X12_isHere_0 _ _ _ _ _ _ _ k_X12_isHere_0 ?_
  simp only [B_X12_isHere_0, zk_ldi_s, zk_ldl_s, zk_lda_r, zk_lda_a, zk_lda_n, zk_iv_s, zr_nil, zr_cons, zp_0, zp_s, zt_0, zt_s, zt2_0, zt2_s, zw_iconst, zw_bipush, zw_sipush, zw_lconst, zw_ldcs, zw_ldc, zw_ldcw, zw_ldc2, zw_iload_n, zw_lload_n, zw_aload_n, zw_istore_n, zw_lstore_n, zw_astore_n, zw_astoreN_n, zw_iload, zw_lload, zw_aload, zw_istore, zw_lstore, zw_astore, zw_astoreN, zw_iinc, zw_iadd, zw_isub, zw_imul, zw_iand, zw_ior, zw_ixor, zw_ishl, zw_ishr, zw_iushr, zw_idiv, zw_irem, zw_ladd, zw_lsub, zw_lmul, zw_land, zw_ldiv, zw_lrem, zw_lcmp, zw_i2l, zw_l2i, zw_dup, zw_pop, zw_dup2i, zw_goto, zw_if_eq, zw_if_ne, zw_if_lt, zw_if_ge, zw_if_gt, zw_if_le, zw_ic_eq, zw_ic_ne, zw_ic_lt, zw_ic_ge, zw_ic_gt, zw_ic_le, zw_ifnn, zw_ifnnN, zw_tsw, zw_lsw, zw_getf_l, zw_getf_r, zw_getf_i, zw_getf_z, zw_putf_i, zw_putf_z, zw_putf_l, zw_putf_r, zw_iaload, zw_caload, zw_laload, zw_aaload, zw_iastore, zw_castore, zw_lastore, zw_aastore, zw_alen, zw_newa, zw_newq, zw_new, zw_oini, zw_invs, zw_invv, zw_copy, zw_invt, zw_iret, zw_lret, zw_ret, zc_r, zc_a, zk_rvs, zk_cat2, List.getElem?_cons_zero, List.getElem?_cons_succ, Bool.false_eq_true, and_false, false_and, and_true, true_and, reduceIte, Nat.reduceEqDiff, Nat.reduceLT, Nat.reduceAdd, List.cons_append, List.nil_append, Option.toList_some, Option.toList_none, zk_cat_i, zk_cat_r, zk_cat_n, zk_same, Option.some.injEq, Value.int.injEq, Value.long.injEq, eq_self, false_implies, true_implies, zf_12, ho, hP2, zl_M, zc_n10, zc_cl, zc_in, not_true_eq_false, not_false_eq_true, h5]
  refine zk_callS (cm_look hn hP h9) (by first | decide | omega) (Nat.le_refl _) (Nat.le_of_ble_eq_true rfl) ?_
  rw [hs9]
  simp only [zk_ldi_s, zk_ldl_s, zk_lda_r, zk_lda_a, zk_lda_n, zk_iv_s, zr_nil, zr_cons, zp_0, zp_s, zt_0, zt_s, zt2_0, zt2_s, zw_iconst, zw_bipush, zw_sipush, zw_lconst, zw_ldcs, zw_ldc, zw_ldcw, zw_ldc2, zw_iload_n, zw_lload_n, zw_aload_n, zw_istore_n, zw_lstore_n, zw_astore_n, zw_astoreN_n, zw_iload, zw_lload, zw_aload, zw_istore, zw_lstore, zw_astore, zw_astoreN, zw_iinc, zw_iadd, zw_isub, zw_imul, zw_iand, zw_ior, zw_ixor, zw_ishl, zw_ishr, zw_iushr, zw_idiv, zw_irem, zw_ladd, zw_lsub, zw_lmul, zw_land, zw_ldiv, zw_lrem, zw_lcmp, zw_i2l, zw_l2i, zw_dup, zw_pop, zw_dup2i, zw_goto, zw_if_eq, zw_if_ne, zw_if_lt, zw_if_ge, zw_if_gt, zw_if_le, zw_ic_eq, zw_ic_ne, zw_ic_lt, zw_ic_ge, zw_ic_gt, zw_ic_le, zw_ifnn, zw_ifnnN, zw_tsw, zw_lsw, zw_getf_l, zw_getf_r, zw_getf_i, zw_getf_z, zw_putf_i, zw_putf_z, zw_putf_l, zw_putf_r, zw_iaload, zw_caload, zw_laload, zw_aaload, zw_iastore, zw_castore, zw_lastore, zw_aastore, zw_alen, zw_newa, zw_newq, zw_new, zw_oini, zw_invs, zw_invv, zw_copy, zw_invt, zw_iret, zw_lret, zw_ret, zc_r, zc_a, zk_rvs, zk_cat2, List.getElem?_cons_zero, List.getElem?_cons_succ, Bool.false_eq_true, and_false, false_and, and_true, true_and, reduceIte, Nat.reduceEqDiff, Nat.reduceLT, Nat.reduceAdd, List.cons_append, List.nil_append, Option.toList_some, Option.toList_none, zk_cat_i, zk_cat_r, zk_cat_n, zk_same, Option.some.injEq, Value.int.injEq, Value.long.injEq, eq_self, false_implies, true_implies, zf_12, ho, hP2, zl_M, zc_n10, zc_cl, zc_in, not_true_eq_false, not_false_eq_true]
  refine zk_callS (cm_isLetter (tk_ci f T p) hci.1 hci.2) (by first | decide | omega) (Nat.le_refl _) (Nat.le_of_ble_eq_true rfl) ?_
  by_cases hl : 97 ≤ tk_ci f T p ∧ tk_ci f T p ≤ 122
  · rw [if_pos hl]
    have hsT : s < T := by
      rcases Nat.lt_or_ge s T with z | z
      · exact z
      · unfold tk_ci at hl; rw [hs9, if_neg (by omega)] at hl; omega
    have hfs : 97 ≤ f s ∧ f s ≤ 122 := by unfold tk_ci at hl; rw [hs9, if_pos hsT] at hl; omega
    have hso : sp_so (f s) = 1 := by unfold sp_so; rw [if_pos hfs]
    have u2 : zk_up M 79 2 (nI s) 79 2 = nI s := zk_up_at
    have u3 : zk_up M 79 2 (nI s) 79 3 = nI T := by rw [zk_up_ne (by decide)]; exact h3
    have u4 : zk_up M 79 2 (nI s) 79 4 = iI E := by rw [zk_up_ne (by decide)]; exact e1
    have u80 : ∀ k, k < T → zk_up M 79 2 (nI s) 80 k = nI (f k) := fun k hk => by rw [zk_up_row (by decide)]; exact (h1 k hk).1
    have ee : (nI s = iI E) = ((s : Int) = E) := by rw [iI_nI, iI_eq (by omega) (by omega) (by omega) (by omega)]
    simp only [zk_ldi_s, zk_ldl_s, zk_lda_r, zk_lda_a, zk_lda_n, zk_iv_s, zr_nil, zr_cons, zp_0, zp_s, zt_0, zt_s, zt2_0, zt2_s, zw_iconst, zw_bipush, zw_sipush, zw_lconst, zw_ldcs, zw_ldc, zw_ldcw, zw_ldc2, zw_iload_n, zw_lload_n, zw_aload_n, zw_istore_n, zw_lstore_n, zw_astore_n, zw_astoreN_n, zw_iload, zw_lload, zw_aload, zw_istore, zw_lstore, zw_astore, zw_astoreN, zw_iinc, zw_iadd, zw_isub, zw_imul, zw_iand, zw_ior, zw_ixor, zw_ishl, zw_ishr, zw_iushr, zw_idiv, zw_irem, zw_ladd, zw_lsub, zw_lmul, zw_land, zw_ldiv, zw_lrem, zw_lcmp, zw_i2l, zw_l2i, zw_dup, zw_pop, zw_dup2i, zw_goto, zw_if_eq, zw_if_ne, zw_if_lt, zw_if_ge, zw_if_gt, zw_if_le, zw_ic_eq, zw_ic_ne, zw_ic_lt, zw_ic_ge, zw_ic_gt, zw_ic_le, zw_ifnn, zw_ifnnN, zw_tsw, zw_lsw, zw_getf_l, zw_getf_r, zw_getf_i, zw_getf_z, zw_putf_i, zw_putf_z, zw_putf_l, zw_putf_r, zw_iaload, zw_caload, zw_laload, zw_aaload, zw_iastore, zw_castore, zw_lastore, zw_aastore, zw_alen, zw_newa, zw_newq, zw_new, zw_oini, zw_invs, zw_invv, zw_copy, zw_invt, zw_iret, zw_lret, zw_ret, zc_r, zc_a, zk_rvs, zk_cat2, List.getElem?_cons_zero, List.getElem?_cons_succ, Bool.false_eq_true, and_false, false_and, and_true, true_and, reduceIte, Nat.reduceEqDiff, Nat.reduceLT, Nat.reduceAdd, List.cons_append, List.nil_append, Option.toList_some, Option.toList_none, zk_cat_i, zk_cat_r, zk_cat_n, zk_same, Option.some.injEq, Value.int.injEq, Value.long.injEq, eq_self, false_implies, true_implies, zf_12, ho, hP2, zl_M, zc_n10, zc_cl, zc_in, not_true_eq_false, not_false_eq_true, (show ((1 : Int32) = 0) = False from by decide), u2, u4, ee]
    refine ⟨fun g => ?_, fun g => no _ _ _ rfl (fun z => (htw.mp z).2.2.1 ⟨by omega, (e4.mp (by omega)).1, (e4.mp (by omega)).2⟩)⟩
    have hst : ¬ (s = p ∧ 0 < p ∧ sp_so (f (p - 1)) ≠ 0) := fun z => g (by have := e4.mpr z.2; omega)
    have hE : tkE f T p = tkR f T 1 s := by
      unfold tkE
      rw [hs9, if_neg (by omega), hso, if_neg (by decide), ← tkR_go hsT hso]
    have hRe := tkR_le (f := f) (T := T) (so := 1) (T - s) s (by omega)
    rw [← hE] at hRe
    generalize he9 : tkE f T p = e at hRe htw
    rw [he9] at hE
    have cmp : ∀ (j k : Nat), k + j = sp_wn (sp_ix q) → e - s = sp_wn (sp_ix q) → (∀ u, u < k → f (s + u) = sp_wc (7 * sp_ix q + u)) → Z 76 [.ref 79, .ref q, .int (nI e), .int (nI k)] [] n (zk_up M 79 2 (nI s)) L P := by
      intro j
      induction j with
      | zero =>
        intro k hk hz hu
        obtain rfl : k = sp_wn (sp_ix q) := by omega
        refine hZ B_X12_isHere_76 _ _ _ _ _ _ _ k_X12_isHere_76 ?_
        simp only [B_X12_isHere_76, zk_ldi_s, zk_ldl_s, zk_lda_r, zk_lda_a, zk_lda_n, zk_iv_s, zr_nil, zr_cons, zp_0, zp_s, zt_0, zt_s, zt2_0, zt2_s, zw_iconst, zw_bipush, zw_sipush, zw_lconst, zw_ldcs, zw_ldc, zw_ldcw, zw_ldc2, zw_iload_n, zw_lload_n, zw_aload_n, zw_istore_n, zw_lstore_n, zw_astore_n, zw_astoreN_n, zw_iload, zw_lload, zw_aload, zw_istore, zw_lstore, zw_astore, zw_astoreN, zw_iinc, zw_iadd, zw_isub, zw_imul, zw_iand, zw_ior, zw_ixor, zw_ishl, zw_ishr, zw_iushr, zw_idiv, zw_irem, zw_ladd, zw_lsub, zw_lmul, zw_land, zw_ldiv, zw_lrem, zw_lcmp, zw_i2l, zw_l2i, zw_dup, zw_pop, zw_dup2i, zw_goto, zw_if_eq, zw_if_ne, zw_if_lt, zw_if_ge, zw_if_gt, zw_if_le, zw_ic_eq, zw_ic_ne, zw_ic_lt, zw_ic_ge, zw_ic_gt, zw_ic_le, zw_ifnn, zw_ifnnN, zw_tsw, zw_lsw, zw_getf_l, zw_getf_r, zw_getf_i, zw_getf_z, zw_putf_i, zw_putf_z, zw_putf_l, zw_putf_r, zw_iaload, zw_caload, zw_laload, zw_aaload, zw_iastore, zw_castore, zw_lastore, zw_aastore, zw_alen, zw_newa, zw_newq, zw_new, zw_oini, zw_invs, zw_invv, zw_copy, zw_invt, zw_iret, zw_lret, zw_ret, zc_r, zc_a, zk_rvs, zk_cat2, List.getElem?_cons_zero, List.getElem?_cons_succ, Bool.false_eq_true, and_false, false_and, and_true, true_and, reduceIte, Nat.reduceEqDiff, Nat.reduceLT, Nat.reduceAdd, List.cons_append, List.nil_append, Option.toList_some, Option.toList_none, zk_cat_i, zk_cat_r, zk_cat_n, zk_same, Option.some.injEq, Value.int.injEq, Value.long.injEq, eq_self, false_implies, true_implies, zf_12, ho, hP2, zl_M, zc_n10, zc_cl, zc_in, not_true_eq_false, not_false_eq_true, hlay, ofNat_nI, (show (nI (sp_wn (sp_ix q)) ≤ nI (sp_wn (sp_ix q))) = True from eq_true (Int32.le_refl _))]
        refine ⟨by omega, by decide, by decide, ?_⟩
        refine hZ B_X12_isHere_107 _ _ _ _ _ _ _ k_X12_isHere_107 ?_
        simp only [B_X12_isHere_107, zk_ldi_s, zk_ldl_s, zk_lda_r, zk_lda_a, zk_lda_n, zk_iv_s, zr_nil, zr_cons, zp_0, zp_s, zt_0, zt_s, zt2_0, zt2_s, zw_iconst, zw_bipush, zw_sipush, zw_lconst, zw_ldcs, zw_ldc, zw_ldcw, zw_ldc2, zw_iload_n, zw_lload_n, zw_aload_n, zw_istore_n, zw_lstore_n, zw_astore_n, zw_astoreN_n, zw_iload, zw_lload, zw_aload, zw_istore, zw_lstore, zw_astore, zw_astoreN, zw_iinc, zw_iadd, zw_isub, zw_imul, zw_iand, zw_ior, zw_ixor, zw_ishl, zw_ishr, zw_iushr, zw_idiv, zw_irem, zw_ladd, zw_lsub, zw_lmul, zw_land, zw_ldiv, zw_lrem, zw_lcmp, zw_i2l, zw_l2i, zw_dup, zw_pop, zw_dup2i, zw_goto, zw_if_eq, zw_if_ne, zw_if_lt, zw_if_ge, zw_if_gt, zw_if_le, zw_ic_eq, zw_ic_ne, zw_ic_lt, zw_ic_ge, zw_ic_gt, zw_ic_le, zw_ifnn, zw_ifnnN, zw_tsw, zw_lsw, zw_getf_l, zw_getf_r, zw_getf_i, zw_getf_z, zw_putf_i, zw_putf_z, zw_putf_l, zw_putf_r, zw_iaload, zw_caload, zw_laload, zw_aaload, zw_iastore, zw_castore, zw_lastore, zw_aastore, zw_alen, zw_newa, zw_newq, zw_new, zw_oini, zw_invs, zw_invv, zw_copy, zw_invt, zw_iret, zw_lret, zw_ret, zc_r, zc_a, zk_rvs, zk_cat2, List.getElem?_cons_zero, List.getElem?_cons_succ, Bool.false_eq_true, and_false, false_and, and_true, true_and, reduceIte, Nat.reduceEqDiff, Nat.reduceLT, Nat.reduceAdd, List.cons_append, List.nil_append, Option.toList_some, Option.toList_none, zk_cat_i, zk_cat_r, zk_cat_n, zk_same, Option.some.injEq, Value.int.injEq, Value.long.injEq, eq_self, false_implies, true_implies, zf_12, ho, hP2, zl_M, zc_n10, zc_cl, zc_in, not_true_eq_false, not_false_eq_true]
        rw [if_pos (htw.mpr ⟨hsT, hso, hst, hz, hu⟩)]
        exact ⟨Or.inr rfl, rfl⟩
      | succ j ih =>
        intro k hk hz hu
        have ek : (nI (sp_wn (sp_ix q)) ≤ nI k) = False := by rw [zn_le (by omega) (by omega)]; simp; omega
        have hwk := hw q hq k (by omega)
        have hwc := sp_wc_lt (7 * sp_ix q + k) (by omega)
        have hfk := (h1 (s + k) (by omega)).2
        have uq : zk_up M 79 2 (nI s) q k = nI (sp_wc (7 * sp_ix q + k)) := by rw [zk_up_row hq79]; exact hwk
        have ec : (nI (f (s + k)) = nI (sp_wc (7 * sp_ix q + k))) = (f (s + k) = sp_wc (7 * sp_ix q + k)) := zn_eq (by omega) (by omega)
        refine hZ B_X12_isHere_76 _ _ _ _ _ _ _ k_X12_isHere_76 ?_
        simp only [B_X12_isHere_76, zk_ldi_s, zk_ldl_s, zk_lda_r, zk_lda_a, zk_lda_n, zk_iv_s, zr_nil, zr_cons, zp_0, zp_s, zt_0, zt_s, zt2_0, zt2_s, zw_iconst, zw_bipush, zw_sipush, zw_lconst, zw_ldcs, zw_ldc, zw_ldcw, zw_ldc2, zw_iload_n, zw_lload_n, zw_aload_n, zw_istore_n, zw_lstore_n, zw_astore_n, zw_astoreN_n, zw_iload, zw_lload, zw_aload, zw_istore, zw_lstore, zw_astore, zw_astoreN, zw_iinc, zw_iadd, zw_isub, zw_imul, zw_iand, zw_ior, zw_ixor, zw_ishl, zw_ishr, zw_iushr, zw_idiv, zw_irem, zw_ladd, zw_lsub, zw_lmul, zw_land, zw_ldiv, zw_lrem, zw_lcmp, zw_i2l, zw_l2i, zw_dup, zw_pop, zw_dup2i, zw_goto, zw_if_eq, zw_if_ne, zw_if_lt, zw_if_ge, zw_if_gt, zw_if_le, zw_ic_eq, zw_ic_ne, zw_ic_lt, zw_ic_ge, zw_ic_gt, zw_ic_le, zw_ifnn, zw_ifnnN, zw_tsw, zw_lsw, zw_getf_l, zw_getf_r, zw_getf_i, zw_getf_z, zw_putf_i, zw_putf_z, zw_putf_l, zw_putf_r, zw_iaload, zw_caload, zw_laload, zw_aaload, zw_iastore, zw_castore, zw_lastore, zw_aastore, zw_alen, zw_newa, zw_newq, zw_new, zw_oini, zw_invs, zw_invv, zw_copy, zw_invt, zw_iret, zw_lret, zw_ret, zc_r, zc_a, zk_rvs, zk_cat2, List.getElem?_cons_zero, List.getElem?_cons_succ, Bool.false_eq_true, and_false, false_and, and_true, true_and, reduceIte, Nat.reduceEqDiff, Nat.reduceLT, Nat.reduceAdd, List.cons_append, List.nil_append, Option.toList_some, Option.toList_none, zk_cat_i, zk_cat_r, zk_cat_n, zk_same, Option.some.injEq, Value.int.injEq, Value.long.injEq, eq_self, false_implies, true_implies, zf_12, ho, hP2, zl_M, zc_n10, zc_cl, zc_in, not_true_eq_false, not_false_eq_true, hlay, hokq, ofNat_nI, ek, u2, nI_add, nI_clamp (show s + k < 2 ^ 31 by omega), vp_in_nI (show s + k < 1600 by omega) (by omega), u80 (s + k) (by omega), nI_clamp (show k < 2 ^ 31 by omega), vp_in_nI (show k < sp_wn (sp_ix q) by omega) (by omega), uq, ec]
        refine ⟨by omega, by decide, by decide, fun g2 => ?_, fun g2 => ?_⟩
        · refine hZ B_X12_isHere_101 _ _ _ _ _ _ _ k_X12_isHere_101 ?_
          simp only [B_X12_isHere_101, zk_ldi_s, zk_ldl_s, zk_lda_r, zk_lda_a, zk_lda_n, zk_iv_s, zr_nil, zr_cons, zp_0, zp_s, zt_0, zt_s, zt2_0, zt2_s, zw_iconst, zw_bipush, zw_sipush, zw_lconst, zw_ldcs, zw_ldc, zw_ldcw, zw_ldc2, zw_iload_n, zw_lload_n, zw_aload_n, zw_istore_n, zw_lstore_n, zw_astore_n, zw_astoreN_n, zw_iload, zw_lload, zw_aload, zw_istore, zw_lstore, zw_astore, zw_astoreN, zw_iinc, zw_iadd, zw_isub, zw_imul, zw_iand, zw_ior, zw_ixor, zw_ishl, zw_ishr, zw_iushr, zw_idiv, zw_irem, zw_ladd, zw_lsub, zw_lmul, zw_land, zw_ldiv, zw_lrem, zw_lcmp, zw_i2l, zw_l2i, zw_dup, zw_pop, zw_dup2i, zw_goto, zw_if_eq, zw_if_ne, zw_if_lt, zw_if_ge, zw_if_gt, zw_if_le, zw_ic_eq, zw_ic_ne, zw_ic_lt, zw_ic_ge, zw_ic_gt, zw_ic_le, zw_ifnn, zw_ifnnN, zw_tsw, zw_lsw, zw_getf_l, zw_getf_r, zw_getf_i, zw_getf_z, zw_putf_i, zw_putf_z, zw_putf_l, zw_putf_r, zw_iaload, zw_caload, zw_laload, zw_aaload, zw_iastore, zw_castore, zw_lastore, zw_aastore, zw_alen, zw_newa, zw_newq, zw_new, zw_oini, zw_invs, zw_invv, zw_copy, zw_invt, zw_iret, zw_lret, zw_ret, zc_r, zc_a, zk_rvs, zk_cat2, List.getElem?_cons_zero, List.getElem?_cons_succ, Bool.false_eq_true, and_false, false_and, and_true, true_and, reduceIte, Nat.reduceEqDiff, Nat.reduceLT, Nat.reduceAdd, List.cons_append, List.nil_append, Option.toList_some, Option.toList_none, zk_cat_i, zk_cat_r, zk_cat_n, zk_same, Option.some.injEq, Value.int.injEq, Value.long.injEq, eq_self, false_implies, true_implies, zf_12, ho, hP2, zl_M, zc_n10, zc_cl, zc_in, not_true_eq_false, not_false_eq_true, nI_1]
          refine ih (k + 1) (by omega) hz (fun u hu2 => ?_)
          by_cases e : u = k
          · subst e; exact g2
          · exact hu u (by omega)
        · rw [if_neg (fun z => g2 ((htw.mp z).2.2.2.2 k (by omega)))]
          exact ⟨Or.inl rfl, rfl⟩
    have at61 : Z 61 [.ref 79, .ref q, .int (nI e), zk_un] [] n (zk_up M 79 2 (nI s)) L P := by
      have es : nI e - nI s = nI (e - s) := pk_sub (by omega)
      have el : (nI (e - s) = nI (sp_wn (sp_ix q))) = (e - s = sp_wn (sp_ix q)) := zn_eq (by omega) (by omega)
      refine hZ B_X12_isHere_61 _ _ _ _ _ _ _ k_X12_isHere_61 ?_
      simp only [B_X12_isHere_61, zk_ldi_s, zk_ldl_s, zk_lda_r, zk_lda_a, zk_lda_n, zk_iv_s, zr_nil, zr_cons, zp_0, zp_s, zt_0, zt_s, zt2_0, zt2_s, zw_iconst, zw_bipush, zw_sipush, zw_lconst, zw_ldcs, zw_ldc, zw_ldcw, zw_ldc2, zw_iload_n, zw_lload_n, zw_aload_n, zw_istore_n, zw_lstore_n, zw_astore_n, zw_astoreN_n, zw_iload, zw_lload, zw_aload, zw_istore, zw_lstore, zw_astore, zw_astoreN, zw_iinc, zw_iadd, zw_isub, zw_imul, zw_iand, zw_ior, zw_ixor, zw_ishl, zw_ishr, zw_iushr, zw_idiv, zw_irem, zw_ladd, zw_lsub, zw_lmul, zw_land, zw_ldiv, zw_lrem, zw_lcmp, zw_i2l, zw_l2i, zw_dup, zw_pop, zw_dup2i, zw_goto, zw_if_eq, zw_if_ne, zw_if_lt, zw_if_ge, zw_if_gt, zw_if_le, zw_ic_eq, zw_ic_ne, zw_ic_lt, zw_ic_ge, zw_ic_gt, zw_ic_le, zw_ifnn, zw_ifnnN, zw_tsw, zw_lsw, zw_getf_l, zw_getf_r, zw_getf_i, zw_getf_z, zw_putf_i, zw_putf_z, zw_putf_l, zw_putf_r, zw_iaload, zw_caload, zw_laload, zw_aaload, zw_iastore, zw_castore, zw_lastore, zw_aastore, zw_alen, zw_newa, zw_newq, zw_new, zw_oini, zw_invs, zw_invv, zw_copy, zw_invt, zw_iret, zw_lret, zw_ret, zc_r, zc_a, zk_rvs, zk_cat2, List.getElem?_cons_zero, List.getElem?_cons_succ, Bool.false_eq_true, and_false, false_and, and_true, true_and, reduceIte, Nat.reduceEqDiff, Nat.reduceLT, Nat.reduceAdd, List.cons_append, List.nil_append, Option.toList_some, Option.toList_none, zk_cat_i, zk_cat_r, zk_cat_n, zk_same, Option.some.injEq, Value.int.injEq, Value.long.injEq, eq_self, false_implies, true_implies, zf_12, ho, hP2, zl_M, zc_n10, zc_cl, zc_in, not_true_eq_false, not_false_eq_true, u2, es, hlay, ofNat_nI, el]
      refine ⟨by omega, by decide, by decide, fun g2 => ?_, fun g2 => ?_⟩
      · refine hZ B_X12_isHere_74 _ _ _ _ _ _ _ k_X12_isHere_74 ?_
        simp only [B_X12_isHere_74, zk_ldi_s, zk_ldl_s, zk_lda_r, zk_lda_a, zk_lda_n, zk_iv_s, zr_nil, zr_cons, zp_0, zp_s, zt_0, zt_s, zt2_0, zt2_s, zw_iconst, zw_bipush, zw_sipush, zw_lconst, zw_ldcs, zw_ldc, zw_ldcw, zw_ldc2, zw_iload_n, zw_lload_n, zw_aload_n, zw_istore_n, zw_lstore_n, zw_astore_n, zw_astoreN_n, zw_iload, zw_lload, zw_aload, zw_istore, zw_lstore, zw_astore, zw_astoreN, zw_iinc, zw_iadd, zw_isub, zw_imul, zw_iand, zw_ior, zw_ixor, zw_ishl, zw_ishr, zw_iushr, zw_idiv, zw_irem, zw_ladd, zw_lsub, zw_lmul, zw_land, zw_ldiv, zw_lrem, zw_lcmp, zw_i2l, zw_l2i, zw_dup, zw_pop, zw_dup2i, zw_goto, zw_if_eq, zw_if_ne, zw_if_lt, zw_if_ge, zw_if_gt, zw_if_le, zw_ic_eq, zw_ic_ne, zw_ic_lt, zw_ic_ge, zw_ic_gt, zw_ic_le, zw_ifnn, zw_ifnnN, zw_tsw, zw_lsw, zw_getf_l, zw_getf_r, zw_getf_i, zw_getf_z, zw_putf_i, zw_putf_z, zw_putf_l, zw_putf_r, zw_iaload, zw_caload, zw_laload, zw_aaload, zw_iastore, zw_castore, zw_lastore, zw_aastore, zw_alen, zw_newa, zw_newq, zw_new, zw_oini, zw_invs, zw_invv, zw_copy, zw_invt, zw_iret, zw_lret, zw_ret, zc_r, zc_a, zk_rvs, zk_cat2, List.getElem?_cons_zero, List.getElem?_cons_succ, Bool.false_eq_true, and_false, false_and, and_true, true_and, reduceIte, Nat.reduceEqDiff, Nat.reduceLT, Nat.reduceAdd, List.cons_append, List.nil_append, Option.toList_some, Option.toList_none, zk_cat_i, zk_cat_r, zk_cat_n, zk_same, Option.some.injEq, Value.int.injEq, Value.long.injEq, eq_self, false_implies, true_implies, zf_12, ho, hP2, zl_M, zc_n10, zc_cl, zc_in, not_true_eq_false, not_false_eq_true]
        exact cmp (sp_wn (sp_ix q)) 0 (by omega) g2 (fun u hu => by omega)
      · rw [if_neg (fun z => g2 (htw.mp z).2.2.2.1)]
        exact ⟨Or.inl rfl, rfl⟩
    have loop : ∀ (j b : Nat), b + j = e → s ≤ b → Z 35 [.ref 79, .ref q, .int (nI b), zk_un] [] n (zk_up M 79 2 (nI s)) L P := by
      intro j
      induction j with
      | zero =>
        intro b hb hsb
        obtain rfl : b = e := by omega
        have eT : (nI T ≤ nI b) = (T ≤ b) := zn_le (by omega) (by omega)
        rcases Nat.lt_or_ge b T with z | z
        · have hfb9 := (h1 b z).2
          have hns := hRe.2.2.1 z
          refine hZ B_X12_isHere_35 _ _ _ _ _ _ _ k_X12_isHere_35 ?_
          simp only [B_X12_isHere_35, zk_ldi_s, zk_ldl_s, zk_lda_r, zk_lda_a, zk_lda_n, zk_iv_s, zr_nil, zr_cons, zp_0, zp_s, zt_0, zt_s, zt2_0, zt2_s, zw_iconst, zw_bipush, zw_sipush, zw_lconst, zw_ldcs, zw_ldc, zw_ldcw, zw_ldc2, zw_iload_n, zw_lload_n, zw_aload_n, zw_istore_n, zw_lstore_n, zw_astore_n, zw_astoreN_n, zw_iload, zw_lload, zw_aload, zw_istore, zw_lstore, zw_astore, zw_astoreN, zw_iinc, zw_iadd, zw_isub, zw_imul, zw_iand, zw_ior, zw_ixor, zw_ishl, zw_ishr, zw_iushr, zw_idiv, zw_irem, zw_ladd, zw_lsub, zw_lmul, zw_land, zw_ldiv, zw_lrem, zw_lcmp, zw_i2l, zw_l2i, zw_dup, zw_pop, zw_dup2i, zw_goto, zw_if_eq, zw_if_ne, zw_if_lt, zw_if_ge, zw_if_gt, zw_if_le, zw_ic_eq, zw_ic_ne, zw_ic_lt, zw_ic_ge, zw_ic_gt, zw_ic_le, zw_ifnn, zw_ifnnN, zw_tsw, zw_lsw, zw_getf_l, zw_getf_r, zw_getf_i, zw_getf_z, zw_putf_i, zw_putf_z, zw_putf_l, zw_putf_r, zw_iaload, zw_caload, zw_laload, zw_aaload, zw_iastore, zw_castore, zw_lastore, zw_aastore, zw_alen, zw_newa, zw_newq, zw_new, zw_oini, zw_invs, zw_invv, zw_copy, zw_invt, zw_iret, zw_lret, zw_ret, zc_r, zc_a, zk_rvs, zk_cat2, List.getElem?_cons_zero, List.getElem?_cons_succ, Bool.false_eq_true, and_false, false_and, and_true, true_and, reduceIte, Nat.reduceEqDiff, Nat.reduceLT, Nat.reduceAdd, List.cons_append, List.nil_append, Option.toList_some, Option.toList_none, zk_cat_i, zk_cat_r, zk_cat_n, zk_same, Option.some.injEq, Value.int.injEq, Value.long.injEq, eq_self, false_implies, true_implies, zf_12, ho, hP2, zl_M, zc_n10, zc_cl, zc_in, not_true_eq_false, not_false_eq_true, u3, eT, (show (T ≤ b) = False by simp; omega), nI_clamp (show b < 2 ^ 31 by omega), vp_in_nI (show b < 1600 by omega) (by omega), u80 b z]
          rw [show nI (f b) = iI (f b : Int) from rfl]
          refine zk_callS (cm_isLetter (f b : Int) (by omega) (by omega)) (by first | decide | omega) (Nat.le_refl _) (Nat.le_of_ble_eq_true rfl) ?_
          rw [if_neg (show ¬ (97 ≤ (f b : Int) ∧ (f b : Int) ≤ 122) from fun w => hns (by unfold sp_so; rw [if_pos (by omega)]))]
          simp only [zk_ldi_s, zk_ldl_s, zk_lda_r, zk_lda_a, zk_lda_n, zk_iv_s, zr_nil, zr_cons, zp_0, zp_s, zt_0, zt_s, zt2_0, zt2_s, zw_iconst, zw_bipush, zw_sipush, zw_lconst, zw_ldcs, zw_ldc, zw_ldcw, zw_ldc2, zw_iload_n, zw_lload_n, zw_aload_n, zw_istore_n, zw_lstore_n, zw_astore_n, zw_astoreN_n, zw_iload, zw_lload, zw_aload, zw_istore, zw_lstore, zw_astore, zw_astoreN, zw_iinc, zw_iadd, zw_isub, zw_imul, zw_iand, zw_ior, zw_ixor, zw_ishl, zw_ishr, zw_iushr, zw_idiv, zw_irem, zw_ladd, zw_lsub, zw_lmul, zw_land, zw_ldiv, zw_lrem, zw_lcmp, zw_i2l, zw_l2i, zw_dup, zw_pop, zw_dup2i, zw_goto, zw_if_eq, zw_if_ne, zw_if_lt, zw_if_ge, zw_if_gt, zw_if_le, zw_ic_eq, zw_ic_ne, zw_ic_lt, zw_ic_ge, zw_ic_gt, zw_ic_le, zw_ifnn, zw_ifnnN, zw_tsw, zw_lsw, zw_getf_l, zw_getf_r, zw_getf_i, zw_getf_z, zw_putf_i, zw_putf_z, zw_putf_l, zw_putf_r, zw_iaload, zw_caload, zw_laload, zw_aaload, zw_iastore, zw_castore, zw_lastore, zw_aastore, zw_alen, zw_newa, zw_newq, zw_new, zw_oini, zw_invs, zw_invv, zw_copy, zw_invt, zw_iret, zw_lret, zw_ret, zc_r, zc_a, zk_rvs, zk_cat2, List.getElem?_cons_zero, List.getElem?_cons_succ, Bool.false_eq_true, and_false, false_and, and_true, true_and, reduceIte, Nat.reduceEqDiff, Nat.reduceLT, Nat.reduceAdd, List.cons_append, List.nil_append, Option.toList_some, Option.toList_none, zk_cat_i, zk_cat_r, zk_cat_n, zk_same, Option.some.injEq, Value.int.injEq, Value.long.injEq, eq_self, false_implies, true_implies, zf_12, ho, hP2, zl_M, zc_n10, zc_cl, zc_in, not_true_eq_false, not_false_eq_true]
          exact at61
        · refine hZ B_X12_isHere_35 _ _ _ _ _ _ _ k_X12_isHere_35 ?_
          simp only [B_X12_isHere_35, zk_ldi_s, zk_ldl_s, zk_lda_r, zk_lda_a, zk_lda_n, zk_iv_s, zr_nil, zr_cons, zp_0, zp_s, zt_0, zt_s, zt2_0, zt2_s, zw_iconst, zw_bipush, zw_sipush, zw_lconst, zw_ldcs, zw_ldc, zw_ldcw, zw_ldc2, zw_iload_n, zw_lload_n, zw_aload_n, zw_istore_n, zw_lstore_n, zw_astore_n, zw_astoreN_n, zw_iload, zw_lload, zw_aload, zw_istore, zw_lstore, zw_astore, zw_astoreN, zw_iinc, zw_iadd, zw_isub, zw_imul, zw_iand, zw_ior, zw_ixor, zw_ishl, zw_ishr, zw_iushr, zw_idiv, zw_irem, zw_ladd, zw_lsub, zw_lmul, zw_land, zw_ldiv, zw_lrem, zw_lcmp, zw_i2l, zw_l2i, zw_dup, zw_pop, zw_dup2i, zw_goto, zw_if_eq, zw_if_ne, zw_if_lt, zw_if_ge, zw_if_gt, zw_if_le, zw_ic_eq, zw_ic_ne, zw_ic_lt, zw_ic_ge, zw_ic_gt, zw_ic_le, zw_ifnn, zw_ifnnN, zw_tsw, zw_lsw, zw_getf_l, zw_getf_r, zw_getf_i, zw_getf_z, zw_putf_i, zw_putf_z, zw_putf_l, zw_putf_r, zw_iaload, zw_caload, zw_laload, zw_aaload, zw_iastore, zw_castore, zw_lastore, zw_aastore, zw_alen, zw_newa, zw_newq, zw_new, zw_oini, zw_invs, zw_invv, zw_copy, zw_invt, zw_iret, zw_lret, zw_ret, zc_r, zc_a, zk_rvs, zk_cat2, List.getElem?_cons_zero, List.getElem?_cons_succ, Bool.false_eq_true, and_false, false_and, and_true, true_and, reduceIte, Nat.reduceEqDiff, Nat.reduceLT, Nat.reduceAdd, List.cons_append, List.nil_append, Option.toList_some, Option.toList_none, zk_cat_i, zk_cat_r, zk_cat_n, zk_same, Option.some.injEq, Value.int.injEq, Value.long.injEq, eq_self, false_implies, true_implies, zf_12, ho, hP2, zl_M, zc_n10, zc_cl, zc_in, not_true_eq_false, not_false_eq_true, u3, eT, (show (T ≤ b) = True by simp; omega)]
          exact at61
      | succ j ih =>
        intro b hb hsb
        have eT : (nI T ≤ nI b) = False := by rw [zn_le (by omega) (by omega)]; simp; omega
        have hfb9 := (h1 b (by omega)).2
        have hys := sp_so1 (hRe.2.2.2 b hsb (by omega))
        refine hZ B_X12_isHere_35 _ _ _ _ _ _ _ k_X12_isHere_35 ?_
        simp only [B_X12_isHere_35, zk_ldi_s, zk_ldl_s, zk_lda_r, zk_lda_a, zk_lda_n, zk_iv_s, zr_nil, zr_cons, zp_0, zp_s, zt_0, zt_s, zt2_0, zt2_s, zw_iconst, zw_bipush, zw_sipush, zw_lconst, zw_ldcs, zw_ldc, zw_ldcw, zw_ldc2, zw_iload_n, zw_lload_n, zw_aload_n, zw_istore_n, zw_lstore_n, zw_astore_n, zw_astoreN_n, zw_iload, zw_lload, zw_aload, zw_istore, zw_lstore, zw_astore, zw_astoreN, zw_iinc, zw_iadd, zw_isub, zw_imul, zw_iand, zw_ior, zw_ixor, zw_ishl, zw_ishr, zw_iushr, zw_idiv, zw_irem, zw_ladd, zw_lsub, zw_lmul, zw_land, zw_ldiv, zw_lrem, zw_lcmp, zw_i2l, zw_l2i, zw_dup, zw_pop, zw_dup2i, zw_goto, zw_if_eq, zw_if_ne, zw_if_lt, zw_if_ge, zw_if_gt, zw_if_le, zw_ic_eq, zw_ic_ne, zw_ic_lt, zw_ic_ge, zw_ic_gt, zw_ic_le, zw_ifnn, zw_ifnnN, zw_tsw, zw_lsw, zw_getf_l, zw_getf_r, zw_getf_i, zw_getf_z, zw_putf_i, zw_putf_z, zw_putf_l, zw_putf_r, zw_iaload, zw_caload, zw_laload, zw_aaload, zw_iastore, zw_castore, zw_lastore, zw_aastore, zw_alen, zw_newa, zw_newq, zw_new, zw_oini, zw_invs, zw_invv, zw_copy, zw_invt, zw_iret, zw_lret, zw_ret, zc_r, zc_a, zk_rvs, zk_cat2, List.getElem?_cons_zero, List.getElem?_cons_succ, Bool.false_eq_true, and_false, false_and, and_true, true_and, reduceIte, Nat.reduceEqDiff, Nat.reduceLT, Nat.reduceAdd, List.cons_append, List.nil_append, Option.toList_some, Option.toList_none, zk_cat_i, zk_cat_r, zk_cat_n, zk_same, Option.some.injEq, Value.int.injEq, Value.long.injEq, eq_self, false_implies, true_implies, zf_12, ho, hP2, zl_M, zc_n10, zc_cl, zc_in, not_true_eq_false, not_false_eq_true, u3, eT, nI_clamp (show b < 2 ^ 31 by omega), vp_in_nI (show b < 1600 by omega) (by omega), u80 b (by omega)]
        rw [show nI (f b) = iI (f b : Int) from rfl]
        refine zk_callS (cm_isLetter (f b : Int) (by omega) (by omega)) (by first | decide | omega) (Nat.le_refl _) (Nat.le_of_ble_eq_true rfl) ?_
        rw [if_pos (show 97 ≤ (f b : Int) ∧ (f b : Int) ≤ 122 by omega)]
        simp only [zk_ldi_s, zk_ldl_s, zk_lda_r, zk_lda_a, zk_lda_n, zk_iv_s, zr_nil, zr_cons, zp_0, zp_s, zt_0, zt_s, zt2_0, zt2_s, zw_iconst, zw_bipush, zw_sipush, zw_lconst, zw_ldcs, zw_ldc, zw_ldcw, zw_ldc2, zw_iload_n, zw_lload_n, zw_aload_n, zw_istore_n, zw_lstore_n, zw_astore_n, zw_astoreN_n, zw_iload, zw_lload, zw_aload, zw_istore, zw_lstore, zw_astore, zw_astoreN, zw_iinc, zw_iadd, zw_isub, zw_imul, zw_iand, zw_ior, zw_ixor, zw_ishl, zw_ishr, zw_iushr, zw_idiv, zw_irem, zw_ladd, zw_lsub, zw_lmul, zw_land, zw_ldiv, zw_lrem, zw_lcmp, zw_i2l, zw_l2i, zw_dup, zw_pop, zw_dup2i, zw_goto, zw_if_eq, zw_if_ne, zw_if_lt, zw_if_ge, zw_if_gt, zw_if_le, zw_ic_eq, zw_ic_ne, zw_ic_lt, zw_ic_ge, zw_ic_gt, zw_ic_le, zw_ifnn, zw_ifnnN, zw_tsw, zw_lsw, zw_getf_l, zw_getf_r, zw_getf_i, zw_getf_z, zw_putf_i, zw_putf_z, zw_putf_l, zw_putf_r, zw_iaload, zw_caload, zw_laload, zw_aaload, zw_iastore, zw_castore, zw_lastore, zw_aastore, zw_alen, zw_newa, zw_newq, zw_new, zw_oini, zw_invs, zw_invv, zw_copy, zw_invt, zw_iret, zw_lret, zw_ret, zc_r, zc_a, zk_rvs, zk_cat2, List.getElem?_cons_zero, List.getElem?_cons_succ, Bool.false_eq_true, and_false, false_and, and_true, true_and, reduceIte, Nat.reduceEqDiff, Nat.reduceLT, Nat.reduceAdd, List.cons_append, List.nil_append, Option.toList_some, Option.toList_none, zk_cat_i, zk_cat_r, zk_cat_n, zk_same, Option.some.injEq, Value.int.injEq, Value.long.injEq, eq_self, false_implies, true_implies, zf_12, ho, hP2, zl_M, zc_n10, zc_cl, zc_in, not_true_eq_false, not_false_eq_true, (show ((1 : Int32) = 0) = False from by decide), nI_1]
        exact ih (b + 1) (by omega) (by omega)
    refine hZ B_X12_isHere_30 _ _ _ _ _ _ _ k_X12_isHere_30 ?_
    simp only [B_X12_isHere_30, zk_ldi_s, zk_ldl_s, zk_lda_r, zk_lda_a, zk_lda_n, zk_iv_s, zr_nil, zr_cons, zp_0, zp_s, zt_0, zt_s, zt2_0, zt2_s, zw_iconst, zw_bipush, zw_sipush, zw_lconst, zw_ldcs, zw_ldc, zw_ldcw, zw_ldc2, zw_iload_n, zw_lload_n, zw_aload_n, zw_istore_n, zw_lstore_n, zw_astore_n, zw_astoreN_n, zw_iload, zw_lload, zw_aload, zw_istore, zw_lstore, zw_astore, zw_astoreN, zw_iinc, zw_iadd, zw_isub, zw_imul, zw_iand, zw_ior, zw_ixor, zw_ishl, zw_ishr, zw_iushr, zw_idiv, zw_irem, zw_ladd, zw_lsub, zw_lmul, zw_land, zw_ldiv, zw_lrem, zw_lcmp, zw_i2l, zw_l2i, zw_dup, zw_pop, zw_dup2i, zw_goto, zw_if_eq, zw_if_ne, zw_if_lt, zw_if_ge, zw_if_gt, zw_if_le, zw_ic_eq, zw_ic_ne, zw_ic_lt, zw_ic_ge, zw_ic_gt, zw_ic_le, zw_ifnn, zw_ifnnN, zw_tsw, zw_lsw, zw_getf_l, zw_getf_r, zw_getf_i, zw_getf_z, zw_putf_i, zw_putf_z, zw_putf_l, zw_putf_r, zw_iaload, zw_caload, zw_laload, zw_aaload, zw_iastore, zw_castore, zw_lastore, zw_aastore, zw_alen, zw_newa, zw_newq, zw_new, zw_oini, zw_invs, zw_invv, zw_copy, zw_invt, zw_iret, zw_lret, zw_ret, zc_r, zc_a, zk_rvs, zk_cat2, List.getElem?_cons_zero, List.getElem?_cons_succ, Bool.false_eq_true, and_false, false_and, and_true, true_and, reduceIte, Nat.reduceEqDiff, Nat.reduceLT, Nat.reduceAdd, List.cons_append, List.nil_append, Option.toList_some, Option.toList_none, zk_cat_i, zk_cat_r, zk_cat_n, zk_same, Option.some.injEq, Value.int.injEq, Value.long.injEq, eq_self, false_implies, true_implies, zf_12, ho, hP2, zl_M, zc_n10, zc_cl, zc_in, not_true_eq_false, not_false_eq_true, u2]
    exact loop (e - s) s (by omega) (Nat.le_refl _)
  · rw [if_neg hl]
    simp only [zk_ldi_s, zk_ldl_s, zk_lda_r, zk_lda_a, zk_lda_n, zk_iv_s, zr_nil, zr_cons, zp_0, zp_s, zt_0, zt_s, zt2_0, zt2_s, zw_iconst, zw_bipush, zw_sipush, zw_lconst, zw_ldcs, zw_ldc, zw_ldcw, zw_ldc2, zw_iload_n, zw_lload_n, zw_aload_n, zw_istore_n, zw_lstore_n, zw_astore_n, zw_astoreN_n, zw_iload, zw_lload, zw_aload, zw_istore, zw_lstore, zw_astore, zw_astoreN, zw_iinc, zw_iadd, zw_isub, zw_imul, zw_iand, zw_ior, zw_ixor, zw_ishl, zw_ishr, zw_iushr, zw_idiv, zw_irem, zw_ladd, zw_lsub, zw_lmul, zw_land, zw_ldiv, zw_lrem, zw_lcmp, zw_i2l, zw_l2i, zw_dup, zw_pop, zw_dup2i, zw_goto, zw_if_eq, zw_if_ne, zw_if_lt, zw_if_ge, zw_if_gt, zw_if_le, zw_ic_eq, zw_ic_ne, zw_ic_lt, zw_ic_ge, zw_ic_gt, zw_ic_le, zw_ifnn, zw_ifnnN, zw_tsw, zw_lsw, zw_getf_l, zw_getf_r, zw_getf_i, zw_getf_z, zw_putf_i, zw_putf_z, zw_putf_l, zw_putf_r, zw_iaload, zw_caload, zw_laload, zw_aaload, zw_iastore, zw_castore, zw_lastore, zw_aastore, zw_alen, zw_newa, zw_newq, zw_new, zw_oini, zw_invs, zw_invv, zw_copy, zw_invt, zw_iret, zw_lret, zw_ret, zc_r, zc_a, zk_rvs, zk_cat2, List.getElem?_cons_zero, List.getElem?_cons_succ, Bool.false_eq_true, and_false, false_and, and_true, true_and, reduceIte, Nat.reduceEqDiff, Nat.reduceLT, Nat.reduceAdd, List.cons_append, List.nil_append, Option.toList_some, Option.toList_none, zk_cat_i, zk_cat_r, zk_cat_n, zk_same, Option.some.injEq, Value.int.injEq, Value.long.injEq, eq_self, false_implies, true_implies, zf_12, ho, hP2, zl_M, zc_n10, zc_cl, zc_in, not_true_eq_false, not_false_eq_true]
    refine no _ _ _ rfl (fun z => ?_)
    have := htw.mp z
    have h10 := sp_so1 this.2.1
    unfold tk_ci at hl
    rw [hs9, if_pos this.1] at hl
    omega
theorem cm_isHereB (hn : 154 ≤ n) (hP : zs_M P) (h : ¬ M 79 5 = 0) (q : Nat) : zk_C G 1 168 [.ref 79, .ref q] n M L P n (zk_same (some (.int 0)) M L P) := by
  refine zk_meth (ow := 12) (kind := 1) (k := 1) (nL := 4) (ct := false) (l0 := [.ref 79, .ref q, zk_un, zk_un]) (by decide +kernel) (fun h => by cases h) (by decide +kernel) (by decide) (by decide) (fun h => absurd h (by decide)) (Nat.le_of_ble_eq_true rfl) rfl (by omega) (fun Z hZ => ?_)
  have ho := zo_M hn
  have hP2 := hP
  unfold zs_M at hP2
  refine hZ B_X12_isHere_0 _ _ _ _ _ _ _ k_X12_isHere_0 ?_
  simp only [B_X12_isHere_0, zk_ldi_s, zk_ldl_s, zk_lda_r, zk_lda_a, zk_lda_n, zk_iv_s, zr_nil, zr_cons, zp_0, zp_s, zt_0, zt_s, zt2_0, zt2_s, zw_iconst, zw_bipush, zw_sipush, zw_lconst, zw_ldcs, zw_ldc, zw_ldcw, zw_ldc2, zw_iload_n, zw_lload_n, zw_aload_n, zw_istore_n, zw_lstore_n, zw_astore_n, zw_astoreN_n, zw_iload, zw_lload, zw_aload, zw_istore, zw_lstore, zw_astore, zw_astoreN, zw_iinc, zw_iadd, zw_isub, zw_imul, zw_iand, zw_ior, zw_ixor, zw_ishl, zw_ishr, zw_iushr, zw_idiv, zw_irem, zw_ladd, zw_lsub, zw_lmul, zw_land, zw_ldiv, zw_lrem, zw_lcmp, zw_i2l, zw_l2i, zw_dup, zw_pop, zw_dup2i, zw_goto, zw_if_eq, zw_if_ne, zw_if_lt, zw_if_ge, zw_if_gt, zw_if_le, zw_ic_eq, zw_ic_ne, zw_ic_lt, zw_ic_ge, zw_ic_gt, zw_ic_le, zw_ifnn, zw_ifnnN, zw_tsw, zw_lsw, zw_getf_l, zw_getf_r, zw_getf_i, zw_getf_z, zw_putf_i, zw_putf_z, zw_putf_l, zw_putf_r, zw_iaload, zw_caload, zw_laload, zw_aaload, zw_iastore, zw_castore, zw_lastore, zw_aastore, zw_alen, zw_newa, zw_newq, zw_new, zw_oini, zw_invs, zw_invv, zw_copy, zw_invt, zw_iret, zw_lret, zw_ret, zc_r, zc_a, zk_rvs, zk_cat2, List.getElem?_cons_zero, List.getElem?_cons_succ, Bool.false_eq_true, and_false, false_and, and_true, true_and, reduceIte, Nat.reduceEqDiff, Nat.reduceLT, Nat.reduceAdd, List.cons_append, List.nil_append, Option.toList_some, Option.toList_none, zk_cat_i, zk_cat_r, zk_cat_n, zk_same, Option.some.injEq, Value.int.injEq, Value.long.injEq, eq_self, false_implies, true_implies, zf_12, ho, hP2, zl_M, zc_n10, zc_cl, zc_in, not_true_eq_false, not_false_eq_true, h]
  refine hZ B_X12_isHere_28 _ _ _ _ _ _ _ k_X12_isHere_28 ?_
  simp only [B_X12_isHere_28, zk_ldi_s, zk_ldl_s, zk_lda_r, zk_lda_a, zk_lda_n, zk_iv_s, zr_nil, zr_cons, zp_0, zp_s, zt_0, zt_s, zt2_0, zt2_s, zw_iconst, zw_bipush, zw_sipush, zw_lconst, zw_ldcs, zw_ldc, zw_ldcw, zw_ldc2, zw_iload_n, zw_lload_n, zw_aload_n, zw_istore_n, zw_lstore_n, zw_astore_n, zw_astoreN_n, zw_iload, zw_lload, zw_aload, zw_istore, zw_lstore, zw_astore, zw_astoreN, zw_iinc, zw_iadd, zw_isub, zw_imul, zw_iand, zw_ior, zw_ixor, zw_ishl, zw_ishr, zw_iushr, zw_idiv, zw_irem, zw_ladd, zw_lsub, zw_lmul, zw_land, zw_ldiv, zw_lrem, zw_lcmp, zw_i2l, zw_l2i, zw_dup, zw_pop, zw_dup2i, zw_goto, zw_if_eq, zw_if_ne, zw_if_lt, zw_if_ge, zw_if_gt, zw_if_le, zw_ic_eq, zw_ic_ne, zw_ic_lt, zw_ic_ge, zw_ic_gt, zw_ic_le, zw_ifnn, zw_ifnnN, zw_tsw, zw_lsw, zw_getf_l, zw_getf_r, zw_getf_i, zw_getf_z, zw_putf_i, zw_putf_z, zw_putf_l, zw_putf_r, zw_iaload, zw_caload, zw_laload, zw_aaload, zw_iastore, zw_castore, zw_lastore, zw_aastore, zw_alen, zw_newa, zw_newq, zw_new, zw_oini, zw_invs, zw_invv, zw_copy, zw_invt, zw_iret, zw_lret, zw_ret, zc_r, zc_a, zk_rvs, zk_cat2, List.getElem?_cons_zero, List.getElem?_cons_succ, Bool.false_eq_true, and_false, false_and, and_true, true_and, reduceIte, Nat.reduceEqDiff, Nat.reduceLT, Nat.reduceAdd, List.cons_append, List.nil_append, Option.toList_some, Option.toList_none, zk_cat_i, zk_cat_r, zk_cat_n, zk_same, Option.some.injEq, Value.int.injEq, Value.long.injEq, eq_self, false_implies, true_implies, zf_12, ho, hP2, zl_M, zc_n10, zc_cl, zc_in, not_true_eq_false, not_false_eq_true]
  exact Or.inl rfl
end MT1
