/-! ===== the model: a FACT of a TEST ===== -/
def B_X12_qFact_0 : List zk_I := [(.aload_n 0, 1, 0, 0, 0, 0, []), (.aload_n 0, 1, 0, 0, 0, 0, []), (.getfield 200, 3, 0, 12, 84, 0, []), (.invokevirtual 272, 3, 0, 2, 169, 12, []), (.ifCond .eq 10, 3, 0, 18, 0, 0, []), (.aload_n 0, 1, 0, 0, 0, 0, []), (.bipush 13, 2, 13, 0, 0, 0, []), (.invokevirtual 625, 3, 0, 2, 276, 12, []), (.return_, 1, 0, 0, 0, 0, [])]
theorem k_X12_qFact_0 : zk_ckb 12 false (zk_m 290) B_X12_qFact_0 0 = true := by decide +kernel
def B_X12_qFact_18 : List zk_I := [(.aload_n 0, 1, 0, 0, 0, 0, []), (.invokevirtual 667, 3, 0, 1, 289, 12, []), (.aload_n 0, 1, 0, 0, 0, 0, []), (.getfield 245, 3, 0, 12, 5, 0, []), (.ifCond .eq 4, 3, 0, 30, 0, 0, []), (.return_, 1, 0, 0, 0, 0, [])]
theorem k_X12_qFact_18 : zk_ckb 12 false (zk_m 290) B_X12_qFact_18 18 = true := by decide +kernel
def B_X12_qFact_30 : List zk_I := [(.aload_n 0, 1, 0, 0, 0, 0, []), (.invokevirtual 257, 3, 0, 1, 167, 12, []), (.istore_n 1, 1, 0, 1, 0, 0, []), (.iload_n 1, 1, 0, 1, 0, 0, []), (.bipush 60, 2, 60, 0, 0, 0, []), (.if_icmp .eq 25, 3, 0, 63, 0, 0, []), (.iload_n 1, 1, 0, 1, 0, 0, []), (.bipush 62, 2, 62, 0, 0, 0, []), (.if_icmp .eq 19, 3, 0, 63, 0, 0, []), (.iload_n 1, 1, 0, 1, 0, 0, []), (.bipush 61, 2, 61, 0, 0, 0, []), (.if_icmp .eq 13, 3, 0, 63, 0, 0, []), (.aload_n 0, 1, 0, 0, 0, 0, []), (.iconst 1, 1, 1, 0, 0, 0, []), (.aload_n 0, 1, 0, 0, 0, 0, []), (.getfield 251, 3, 0, 12, 2, 0, []), (.invokevirtual 275, 3, 0, 3, 164, 12, []), (.return_, 1, 0, 0, 0, 0, [])]
theorem k_X12_qFact_30 : zk_ckb 12 false (zk_m 290) B_X12_qFact_30 30 = true := by decide +kernel
def B_X12_qFact_63 : List zk_I := [(.aload_n 0, 1, 0, 0, 0, 0, []), (.dup, 1, 0, 0, 0, 0, []), (.getfield 251, 3, 0, 12, 2, 0, []), (.iconst 1, 1, 1, 0, 0, 0, []), (.iadd, 1, 0, 0, 0, 0, []), (.putfield 251, 3, 0, 12, 2, 0, []), (.aload_n 0, 1, 0, 0, 0, 0, []), (.invokevirtual 667, 3, 0, 1, 289, 12, []), (.aload_n 0, 1, 0, 0, 0, 0, []), (.iload_n 1, 1, 0, 1, 0, 0, []), (.bipush 60, 2, 60, 0, 0, 0, []), (.if_icmp .ne 8, 3, 0, 89, 0, 0, []), (.bipush 7, 2, 7, 0, 0, 0, []), (.goto 16, 3, 0, 102, 0, 0, [])]
theorem k_X12_qFact_63 : zk_ckb 12 false (zk_m 290) B_X12_qFact_63 63 = true := by decide +kernel
def B_X12_qFact_89 : List zk_I := [(.iload_n 1, 1, 0, 1, 0, 0, []), (.bipush 62, 2, 62, 0, 0, 0, []), (.if_icmp .ne 8, 3, 0, 100, 0, 0, []), (.bipush 8, 2, 8, 0, 0, 0, []), (.goto 5, 3, 0, 102, 0, 0, [])]
theorem k_X12_qFact_89 : zk_ckb 12 false (zk_m 290) B_X12_qFact_89 89 = true := by decide +kernel
def B_X12_qFact_100 : List zk_I := [(.bipush 9, 2, 9, 0, 0, 0, [])]
theorem k_X12_qFact_100 : zk_ckb 12 false (zk_m 290) B_X12_qFact_100 100 = true := by decide +kernel
def B_X12_qFact_102 : List zk_I := [(.invokevirtual 625, 3, 0, 2, 276, 12, []), (.return_, 1, 0, 0, 0, 0, [])]
theorem k_X12_qFact_102 : zk_ckb 12 false (zk_m 290) B_X12_qFact_102 102 = true := by decide +kernel
def B_X12_qHasSquare_0 : List zk_I := [(.iconst 0, 1, 0, 0, 0, 0, []), (.istore_n 1, 1, 0, 1, 0, 0, [])]
theorem k_X12_qHasSquare_0 : zk_ckb 12 false (zk_m 291) B_X12_qHasSquare_0 0 = true := by decide +kernel
def B_X12_qHasSquare_2 : List zk_I := [(.iload_n 1, 1, 0, 1, 0, 0, []), (.aload_n 0, 1, 0, 0, 0, 0, []), (.getfield 622, 3, 0, 12, 97, 0, []), (.if_icmp .ge 22, 3, 0, 29, 0, 0, []), (.aload_n 0, 1, 0, 0, 0, 0, []), (.getfield 233, 3, 0, 12, 96, 0, []), (.iload_n 1, 1, 0, 1, 0, 0, []), (.iaload, 1, 0, 0, 0, 0, []), (.bipush 25, 2, 25, 0, 0, 0, []), (.if_icmp .ne 5, 3, 0, 23, 0, 0, []), (.iconst 1, 1, 1, 0, 0, 0, []), (.ireturn, 1, 0, 1, 0, 0, [])]
theorem k_X12_qHasSquare_2 : zk_ckb 12 false (zk_m 291) B_X12_qHasSquare_2 2 = true := by decide +kernel
def B_X12_qHasSquare_23 : List zk_I := [(.iinc 1 1, 3, 1, 1, 0, 0, []), (.goto (-24), 3, 0, 2, 0, 0, [])]
theorem k_X12_qHasSquare_23 : zk_ckb 12 false (zk_m 291) B_X12_qHasSquare_23 23 = true := by decide +kernel
def B_X12_qHasSquare_29 : List zk_I := [(.iconst 0, 1, 0, 0, 0, 0, []), (.ireturn, 1, 0, 1, 0, 0, [])]
theorem k_X12_qHasSquare_29 : zk_ckb 12 false (zk_m 291) B_X12_qHasSquare_29 29 = true := by decide +kernel
def B_X12_qDropsNots_0 : List zk_I := [(.aload_n 0, 1, 0, 0, 0, 0, []), (.getfield 245, 3, 0, 12, 5, 0, []), (.ifCond .ne 29, 3, 0, 33, 0, 0, []), (.aload_n 0, 1, 0, 0, 0, 0, []), (.bipush 12, 2, 12, 0, 0, 0, []), (.invokevirtual 658, 3, 0, 2, 278, 12, []), (.ifCond .eq 20, 3, 0, 33, 0, 0, []), (.aload_n 0, 1, 0, 0, 0, 0, []), (.dup, 1, 0, 0, 0, 0, []), (.getfield 619, 3, 0, 12, 98, 0, []), (.iconst 1, 1, 1, 0, 0, 0, []), (.isub, 1, 0, 0, 0, 0, []), (.putfield 619, 3, 0, 12, 98, 0, []), (.aload_n 0, 1, 0, 0, 0, 0, []), (.invokevirtual 634, 3, 0, 1, 279, 12, []), (.goto (-30), 3, 0, 0, 0, 0, [])]
theorem k_X12_qDropsNots_0 : zk_ckb 12 false (zk_m 292) B_X12_qDropsNots_0 0 = true := by decide +kernel
def B_X12_qDropsNots_33 : List zk_I := [(.return_, 1, 0, 0, 0, 0, [])]
theorem k_X12_qDropsNots_33 : zk_ckb 12 false (zk_m 292) B_X12_qDropsNots_33 33 = true := by decide +kernel
def B_X12_qTest_0 : List zk_I := [(.iconst 1, 1, 1, 0, 0, 0, []), (.istore_n 1, 1, 0, 1, 0, 0, [])]
theorem k_X12_qTest_0 : zk_ckb 12 false (zk_m 293) B_X12_qTest_0 0 = true := by decide +kernel
def B_X12_qTest_2 : List zk_I := [(.iload_n 1, 1, 0, 1, 0, 0, []), (.ifCond .eq 107, 3, 0, 110, 0, 0, []), (.aload_n 0, 1, 0, 0, 0, 0, []), (.getfield 245, 3, 0, 12, 5, 0, []), (.ifCond .ne 100, 3, 0, 110, 0, 0, []), (.aload_n 0, 1, 0, 0, 0, 0, []), (.invokevirtual 257, 3, 0, 1, 167, 12, []), (.istore_n 2, 1, 0, 2, 0, 0, []), (.iload_n 2, 1, 0, 2, 0, 0, []), (.bipush 91, 2, 91, 0, 0, 0, []), (.if_icmp .ne 26, 3, 0, 47, 0, 0, []), (.aload_n 0, 1, 0, 0, 0, 0, []), (.bipush 25, 2, 25, 0, 0, 0, []), (.aload_n 0, 1, 0, 0, 0, 0, []), (.getfield 251, 3, 0, 12, 2, 0, []), (.invokevirtual 643, 3, 0, 3, 277, 12, []), (.aload_n 0, 1, 0, 0, 0, 0, []), (.dup, 1, 0, 0, 0, 0, []), (.getfield 251, 3, 0, 12, 2, 0, []), (.iconst 1, 1, 1, 0, 0, 0, []), (.iadd, 1, 0, 0, 0, 0, []), (.putfield 251, 3, 0, 12, 2, 0, []), (.goto (-42), 3, 0, 2, 0, 0, [])]
theorem k_X12_qTest_2 : zk_ckb 12 false (zk_m 293) B_X12_qTest_2 2 = true := by decide +kernel
def B_X12_qTest_47 : List zk_I := [(.aload_n 0, 1, 0, 0, 0, 0, []), (.aload_n 0, 1, 0, 0, 0, 0, []), (.getfield 191, 3, 0, 12, 81, 0, []), (.invokevirtual 268, 3, 0, 2, 168, 12, []), (.ifCond .eq 24, 3, 0, 79, 0, 0, []), (.aload_n 0, 1, 0, 0, 0, 0, []), (.bipush 12, 2, 12, 0, 0, 0, []), (.aload_n 0, 1, 0, 0, 0, 0, []), (.getfield 251, 3, 0, 12, 2, 0, []), (.invokevirtual 643, 3, 0, 3, 277, 12, []), (.aload_n 0, 1, 0, 0, 0, 0, []), (.aload_n 0, 1, 0, 0, 0, 0, []), (.getfield 191, 3, 0, 12, 81, 0, []), (.invokevirtual 323, 3, 0, 2, 170, 12, []), (.goto (-74), 3, 0, 2, 0, 0, [])]
theorem k_X12_qTest_47 : zk_ckb 12 false (zk_m 293) B_X12_qTest_47 47 = true := by decide +kernel
def B_X12_qTest_79 : List zk_I := [(.aload_n 0, 1, 0, 0, 0, 0, []), (.invokevirtual 670, 3, 0, 1, 290, 12, []), (.aload_n 0, 1, 0, 0, 0, 0, []), (.invokevirtual 673, 3, 0, 1, 292, 12, []), (.aload_n 0, 1, 0, 0, 0, 0, []), (.getfield 245, 3, 0, 12, 5, 0, []), (.ifCond .ne 14, 3, 0, 105, 0, 0, []), (.aload_n 0, 1, 0, 0, 0, 0, []), (.invokevirtual 676, 3, 0, 1, 294, 12, []), (.ifCond .eq 7, 3, 0, 105, 0, 0, []), (.iconst 1, 1, 1, 0, 0, 0, []), (.goto 4, 3, 0, 106, 0, 0, [])]
theorem k_X12_qTest_79 : zk_ckb 12 false (zk_m 293) B_X12_qTest_79 79 = true := by decide +kernel
def B_X12_qTest_105 : List zk_I := [(.iconst 0, 1, 0, 0, 0, 0, [])]
theorem k_X12_qTest_105 : zk_ckb 12 false (zk_m 293) B_X12_qTest_105 105 = true := by decide +kernel
def B_X12_qTest_106 : List zk_I := [(.istore_n 1, 1, 0, 1, 0, 0, []), (.goto (-105), 3, 0, 2, 0, 0, [])]
theorem k_X12_qTest_106 : zk_ckb 12 false (zk_m 293) B_X12_qTest_106 106 = true := by decide +kernel
def B_X12_qTest_110 : List zk_I := [(.aload_n 0, 1, 0, 0, 0, 0, []), (.getfield 245, 3, 0, 12, 5, 0, []), (.ifCond .ne 17, 3, 0, 131, 0, 0, []), (.aload_n 0, 1, 0, 0, 0, 0, []), (.getfield 622, 3, 0, 12, 97, 0, []), (.ifCond .le 10, 3, 0, 131, 0, 0, []), (.aload_n 0, 1, 0, 0, 0, 0, []), (.invokevirtual 634, 3, 0, 1, 279, 12, []), (.goto (-18), 3, 0, 110, 0, 0, [])]
theorem k_X12_qTest_110 : zk_ckb 12 false (zk_m 293) B_X12_qTest_110 110 = true := by decide +kernel
def B_X12_qTest_131 : List zk_I := [(.return_, 1, 0, 0, 0, 0, [])]
theorem k_X12_qTest_131 : zk_ckb 12 false (zk_m 293) B_X12_qTest_131 131 = true := by decide +kernel
def B_X12_qGoesOnTest_0 : List zk_I := [(.aload_n 0, 1, 0, 0, 0, 0, []), (.getfield 245, 3, 0, 12, 5, 0, []), (.ifCond .ne 72, 3, 0, 76, 0, 0, []), (.aload_n 0, 1, 0, 0, 0, 0, []), (.invokevirtual 257, 3, 0, 1, 167, 12, []), (.bipush 93, 2, 93, 0, 0, 0, []), (.if_icmp .ne 63, 3, 0, 76, 0, 0, []), (.aload_n 0, 1, 0, 0, 0, 0, []), (.invokevirtual 679, 3, 0, 1, 291, 12, []), (.ifCond .eq 56, 3, 0, 76, 0, 0, []), (.aload_n 0, 1, 0, 0, 0, 0, []), (.dup, 1, 0, 0, 0, 0, []), (.getfield 251, 3, 0, 12, 2, 0, []), (.iconst 1, 1, 1, 0, 0, 0, []), (.iadd, 1, 0, 0, 0, 0, []), (.putfield 251, 3, 0, 12, 2, 0, [])]
theorem k_X12_qGoesOnTest_0 : zk_ckb 12 false (zk_m 294) B_X12_qGoesOnTest_0 0 = true := by decide +kernel
def B_X12_qGoesOnTest_33 : List zk_I := [(.aload_n 0, 1, 0, 0, 0, 0, []), (.bipush 25, 2, 25, 0, 0, 0, []), (.invokevirtual 658, 3, 0, 2, 278, 12, []), (.ifCond .ne 10, 3, 0, 49, 0, 0, []), (.aload_n 0, 1, 0, 0, 0, 0, []), (.invokevirtual 634, 3, 0, 1, 279, 12, []), (.goto (-13), 3, 0, 33, 0, 0, [])]
theorem k_X12_qGoesOnTest_33 : zk_ckb 12 false (zk_m 294) B_X12_qGoesOnTest_33 33 = true := by decide +kernel
def B_X12_qGoesOnTest_49 : List zk_I := [(.aload_n 0, 1, 0, 0, 0, 0, []), (.dup, 1, 0, 0, 0, 0, []), (.getfield 622, 3, 0, 12, 97, 0, []), (.iconst 1, 1, 1, 0, 0, 0, []), (.isub, 1, 0, 0, 0, 0, []), (.putfield 622, 3, 0, 12, 97, 0, []), (.aload_n 0, 1, 0, 0, 0, 0, []), (.dup, 1, 0, 0, 0, 0, []), (.getfield 619, 3, 0, 12, 98, 0, []), (.iconst 1, 1, 1, 0, 0, 0, []), (.isub, 1, 0, 0, 0, 0, []), (.putfield 619, 3, 0, 12, 98, 0, []), (.aload_n 0, 1, 0, 0, 0, 0, []), (.invokevirtual 673, 3, 0, 1, 292, 12, []), (.goto (-73), 3, 0, 0, 0, 0, [])]
theorem k_X12_qGoesOnTest_49 : zk_ckb 12 false (zk_m 294) B_X12_qGoesOnTest_49 49 = true := by decide +kernel
def B_X12_qGoesOnTest_76 : List zk_I := [(.aload_n 0, 1, 0, 0, 0, 0, []), (.aload_n 0, 1, 0, 0, 0, 0, []), (.getfield 194, 3, 0, 12, 82, 0, []), (.invokevirtual 272, 3, 0, 2, 169, 12, []), (.ifCond .eq 42, 3, 0, 126, 0, 0, [])]
theorem k_X12_qGoesOnTest_76 : zk_ckb 12 false (zk_m 294) B_X12_qGoesOnTest_76 76 = true := by decide +kernel
def B_X12_qGoesOnTest_87 : List zk_I := [(.aload_n 0, 1, 0, 0, 0, 0, []), (.bipush 10, 2, 10, 0, 0, 0, []), (.invokevirtual 658, 3, 0, 2, 278, 12, []), (.ifCond .eq 10, 3, 0, 103, 0, 0, []), (.aload_n 0, 1, 0, 0, 0, 0, []), (.invokevirtual 634, 3, 0, 1, 279, 12, []), (.goto (-13), 3, 0, 87, 0, 0, [])]
theorem k_X12_qGoesOnTest_87 : zk_ckb 12 false (zk_m 294) B_X12_qGoesOnTest_87 87 = true := by decide +kernel
def B_X12_qGoesOnTest_103 : List zk_I := [(.aload_n 0, 1, 0, 0, 0, 0, []), (.getfield 233, 3, 0, 12, 96, 0, []), (.aload_n 0, 1, 0, 0, 0, 0, []), (.getfield 622, 3, 0, 12, 97, 0, []), (.bipush 10, 2, 10, 0, 0, 0, []), (.iastore, 1, 0, 0, 0, 0, []), (.aload_n 0, 1, 0, 0, 0, 0, []), (.dup, 1, 0, 0, 0, 0, []), (.getfield 622, 3, 0, 12, 97, 0, []), (.iconst 1, 1, 1, 0, 0, 0, []), (.iadd, 1, 0, 0, 0, 0, []), (.putfield 622, 3, 0, 12, 97, 0, []), (.iconst 1, 1, 1, 0, 0, 0, []), (.ireturn, 1, 0, 1, 0, 0, [])]
theorem k_X12_qGoesOnTest_103 : zk_ckb 12 false (zk_m 294) B_X12_qGoesOnTest_103 103 = true := by decide +kernel
def B_X12_qGoesOnTest_126 : List zk_I := [(.aload_n 0, 1, 0, 0, 0, 0, []), (.aload_n 0, 1, 0, 0, 0, 0, []), (.getfield 197, 3, 0, 12, 83, 0, []), (.invokevirtual 272, 3, 0, 2, 169, 12, []), (.ifCond .eq 51, 3, 0, 185, 0, 0, [])]
theorem k_X12_qGoesOnTest_126 : zk_ckb 12 false (zk_m 294) B_X12_qGoesOnTest_126 126 = true := by decide +kernel
def B_X12_qGoesOnTest_137 : List zk_I := [(.aload_n 0, 1, 0, 0, 0, 0, []), (.bipush 10, 2, 10, 0, 0, 0, []), (.invokevirtual 658, 3, 0, 2, 278, 12, []), (.ifCond .ne 12, 3, 0, 155, 0, 0, []), (.aload_n 0, 1, 0, 0, 0, 0, []), (.bipush 11, 2, 11, 0, 0, 0, []), (.invokevirtual 658, 3, 0, 2, 278, 12, []), (.ifCond .eq 10, 3, 0, 162, 0, 0, [])]
theorem k_X12_qGoesOnTest_137 : zk_ckb 12 false (zk_m 294) B_X12_qGoesOnTest_137 137 = true := by decide +kernel
def B_X12_qGoesOnTest_155 : List zk_I := [(.aload_n 0, 1, 0, 0, 0, 0, []), (.invokevirtual 634, 3, 0, 1, 279, 12, []), (.goto (-22), 3, 0, 137, 0, 0, [])]
theorem k_X12_qGoesOnTest_155 : zk_ckb 12 false (zk_m 294) B_X12_qGoesOnTest_155 155 = true := by decide +kernel
def B_X12_qGoesOnTest_162 : List zk_I := [(.aload_n 0, 1, 0, 0, 0, 0, []), (.getfield 233, 3, 0, 12, 96, 0, []), (.aload_n 0, 1, 0, 0, 0, 0, []), (.getfield 622, 3, 0, 12, 97, 0, []), (.bipush 11, 2, 11, 0, 0, 0, []), (.iastore, 1, 0, 0, 0, 0, []), (.aload_n 0, 1, 0, 0, 0, 0, []), (.dup, 1, 0, 0, 0, 0, []), (.getfield 622, 3, 0, 12, 97, 0, []), (.iconst 1, 1, 1, 0, 0, 0, []), (.iadd, 1, 0, 0, 0, 0, []), (.putfield 622, 3, 0, 12, 97, 0, []), (.iconst 1, 1, 1, 0, 0, 0, []), (.ireturn, 1, 0, 1, 0, 0, [])]
theorem k_X12_qGoesOnTest_162 : zk_ckb 12 false (zk_m 294) B_X12_qGoesOnTest_162 162 = true := by decide +kernel
def B_X12_qGoesOnTest_185 : List zk_I := [(.aload_n 0, 1, 0, 0, 0, 0, []), (.getfield 245, 3, 0, 12, 5, 0, []), (.ifCond .ne 19, 3, 0, 208, 0, 0, []), (.aload_n 0, 1, 0, 0, 0, 0, []), (.invokevirtual 679, 3, 0, 1, 291, 12, []), (.ifCond .eq 12, 3, 0, 208, 0, 0, []), (.aload_n 0, 1, 0, 0, 0, 0, []), (.iconst 1, 1, 1, 0, 0, 0, []), (.aload_n 0, 1, 0, 0, 0, 0, []), (.getfield 251, 3, 0, 12, 2, 0, []), (.invokevirtual 275, 3, 0, 3, 164, 12, [])]
theorem k_X12_qGoesOnTest_185 : zk_ckb 12 false (zk_m 294) B_X12_qGoesOnTest_185 185 = true := by decide +kernel
def B_X12_qGoesOnTest_208 : List zk_I := [(.iconst 0, 1, 0, 0, 0, 0, []), (.ireturn, 1, 0, 1, 0, 0, [])]
theorem k_X12_qGoesOnTest_208 : zk_ckb 12 false (zk_m 294) B_X12_qGoesOnTest_208 208 = true := by decide +kernel
def t_wS (S : List Int) : Prop := ∀ c ∈ S, (-12 ≤ c ∧ c ≤ -10) ∨ c = 25
def t_ct : List Int → Nat
  | [] => 0
  | c :: W => (if 0 ≤ c ∨ c = -12 then 1 else 0) + t_ct W
theorem t_ct_m {c : Int} {W : List Int} (h : 0 ≤ c ∨ c = -12) : t_ct (c :: W) = 1 + t_ct W := by simp only [t_ct]; rw [if_pos h]
theorem t_ct_o {c : Int} {W : List Int} (h : ¬ (0 ≤ c ∨ c = -12)) : t_ct (c :: W) = t_ct W := by simp only [t_ct]; rw [if_neg h, Nat.zero_add]
theorem t_en_ok : ∀ (W C : List Int) (o : Nat), t_wS W → t_ct W ≤ o → t_wS (t_en W C o).1 ∧ t_ct (t_en W C o).1 ≤ (t_en W C o).2.2 ∧ (t_en W C o).2.2 ≤ o ∧ (t_en W C o).1.length + (t_en W C o).2.1.length = W.length + C.length
  | [], C, o, h, h2 => ⟨h, h2, Nat.le_refl _, rfl⟩
  | c :: W, C, o, h, h2 => by
    simp only [t_en]
    by_cases hc : c = -12
    · rw [if_pos hc]
      rw [t_ct_m (Or.inr hc)] at h2
      have ih := t_en_ok W (C ++ [-12]) (o - 1) (fun x hx => h x (List.mem_cons_of_mem _ hx)) (by omega)
      refine ⟨ih.1, ih.2.1, by omega, ?_⟩
      rw [ih.2.2.2, List.length_append]
      simp only [List.length_cons, List.length_nil]
      omega
    · rw [if_neg hc]
      exact ⟨h, h2, Nat.le_refl _, rfl⟩
theorem t_hd : ∀ {S : List Int}, t_wS S → (y_hd S = 25 ↔ 25 ∈ S) ∧ (y_hd S = 25 ∨ y_hd S = -1)
  | [], _ => ⟨⟨fun h => absurd h (by decide), fun h => by cases h⟩, Or.inr rfl⟩
  | c :: S, h => by
    have hc := h c List.mem_cons_self
    have ih := t_hd (S := S) (fun x hx => h x (List.mem_cons_of_mem _ hx))
    by_cases h0 : c < 0
    · have e : y_hd (c :: S) = y_hd S := by unfold y_hd; simp only [y_dr]; rw [if_pos h0]
      rw [e]
      refine ⟨⟨fun z => List.mem_cons_of_mem _ (ih.1.mp z), fun z => ?_⟩, ih.2⟩
      rcases List.mem_cons.mp z with z | z
      · omega
      · exact ih.1.mpr z
    · have e : y_hd (c :: S) = c := by unfold y_hd; simp only [y_dr]; rw [if_neg h0]; rfl
      have h25 : c = 25 := by omega
      rw [e, h25]
      exact ⟨⟨fun _ => List.mem_cons_self, fun _ => rfl⟩, Or.inl rfl⟩
theorem y_sk_25 {g : Nat → Int32} : ∀ {S : List Int}, y_sk g S → ((∃ i, i < S.length ∧ g i = 25) ↔ 25 ∈ S)
  | [], _ => ⟨fun ⟨i, h, _⟩ => absurd h (Nat.not_lt_zero i), fun h => by cases h⟩
  | c :: S, ⟨h1, h2, h3⟩ => by
    have ih := y_sk_25 h3
    have hw := y_wt_r h2
    have e25 : (g S.length = 25) ↔ c = 25 := by
      rw [h1, show (25 : Int32) = iI 25 from by decide, iI_eq (by omega) (by omega) (by omega) (by omega)]
      unfold y_okw at h2
      unfold y_wt
      split
      · omega
      · split <;> omega
    constructor
    · rintro ⟨i, hi, hg⟩
      simp only [List.length_cons] at hi
      by_cases e : i = S.length
      · rw [e] at hg
        rw [e25.mp hg]
        exact List.mem_cons_self
      · exact List.mem_cons_of_mem _ (ih.mp ⟨i, by omega, hg⟩)
    · intro h
      rcases List.mem_cons.mp h with h | h
      · exact ⟨S.length, by simp only [List.length_cons]; omega, e25.mpr h.symm⟩
      · obtain ⟨i, hi, hg⟩ := ih.mpr h
        exact ⟨i, by simp only [List.length_cons]; omega, hg⟩
section MQ5
variable {G : zk_G} {n : Nat} {M : zk_MI} {L : zk_ML} {P : zk_MP}
theorem cm_qHasSquare (hn : 154 ≤ n) (hP : zs_M P) {S C : List Int} (h : yq_S M S C) (hS : t_wS S) : zk_C G 0 291 [.ref 79] n M L P n (zk_same (some (.int (if y_hd S = 25 then 1 else 0))) M L P) := by
  have hh := (t_hd hS).1
  have hk := y_sk_25 h.1
  have h2 := h.2.1
  have h5 := h.2.2.2.2
  refine zk_meth (ow := 12) (kind := 1) (k := 0) (nL := 2) (ct := false) (l0 := [.ref 79, zk_un]) (by decide +kernel) (fun h => by cases h) (by decide +kernel) (by decide) (by decide) (fun h => absurd h (by decide)) (Nat.le_of_ble_eq_true rfl) rfl (by omega) (fun Z hZ => ?_)
  have ho := zo_M hn
  have hP2 := hP
  unfold zs_M at hP2
  have loop : ∀ (j i : Nat), i + j = S.length → (∀ k, k < i → M 151 k ≠ 25) → Z 2 [.ref 79, .int (nI i)] [] n M L P := by
    intro j
    induction j with
    | zero =>
      intro i hi hno
      obtain rfl : i = S.length := by omega
      refine hZ B_X12_qHasSquare_2 _ _ _ _ _ _ _ k_X12_qHasSquare_2 ?_
      simp only [B_X12_qHasSquare_2, zk_ldi_s, zk_ldl_s, zk_lda_r, zk_lda_a, zk_lda_n, zk_iv_s, zr_nil, zr_cons, zp_0, zp_s, zt_0, zt_s, zt2_0, zt2_s, zw_iconst, zw_bipush, zw_sipush, zw_lconst, zw_ldcs, zw_ldc, zw_ldcw, zw_ldc2, zw_iload_n, zw_lload_n, zw_aload_n, zw_istore_n, zw_lstore_n, zw_astore_n, zw_astoreN_n, zw_iload, zw_lload, zw_aload, zw_istore, zw_lstore, zw_astore, zw_astoreN, zw_iinc, zw_iadd, zw_isub, zw_imul, zw_iand, zw_ior, zw_ixor, zw_ishl, zw_ishr, zw_iushr, zw_idiv, zw_irem, zw_ladd, zw_lsub, zw_lmul, zw_land, zw_ldiv, zw_lrem, zw_lcmp, zw_i2l, zw_l2i, zw_dup, zw_pop, zw_dup2i, zw_goto, zw_if_eq, zw_if_ne, zw_if_lt, zw_if_ge, zw_if_gt, zw_if_le, zw_ic_eq, zw_ic_ne, zw_ic_lt, zw_ic_ge, zw_ic_gt, zw_ic_le, zw_ifnn, zw_ifnnN, zw_tsw, zw_lsw, zw_getf_l, zw_getf_r, zw_getf_i, zw_getf_z, zw_putf_i, zw_putf_z, zw_putf_l, zw_putf_r, zw_iaload, zw_caload, zw_laload, zw_aaload, zw_iastore, zw_castore, zw_lastore, zw_aastore, zw_alen, zw_newa, zw_newq, zw_new, zw_oini, zw_invs, zw_invv, zw_copy, zw_invt, zw_iret, zw_lret, zw_ret, zc_r, zc_a, zk_rvs, zk_cat2, List.getElem?_cons_zero, List.getElem?_cons_succ, Bool.false_eq_true, and_false, false_and, and_true, true_and, reduceIte, Nat.reduceEqDiff, Nat.reduceLT, Nat.reduceAdd, List.cons_append, List.nil_append, Option.toList_some, Option.toList_none, zk_cat_i, zk_cat_r, zk_cat_n, zk_same, Option.some.injEq, Value.int.injEq, Value.long.injEq, eq_self, false_implies, true_implies, zf_12, ho, hP2, zl_M, zc_n10, zc_cl, zc_in, not_true_eq_false, not_false_eq_true, h2, (show (nI S.length ≤ nI S.length) = True from eq_true (Int32.le_refl _))]
      refine hZ B_X12_qHasSquare_29 _ _ _ _ _ _ _ k_X12_qHasSquare_29 ?_
      simp only [B_X12_qHasSquare_29, zk_ldi_s, zk_ldl_s, zk_lda_r, zk_lda_a, zk_lda_n, zk_iv_s, zr_nil, zr_cons, zp_0, zp_s, zt_0, zt_s, zt2_0, zt2_s, zw_iconst, zw_bipush, zw_sipush, zw_lconst, zw_ldcs, zw_ldc, zw_ldcw, zw_ldc2, zw_iload_n, zw_lload_n, zw_aload_n, zw_istore_n, zw_lstore_n, zw_astore_n, zw_astoreN_n, zw_iload, zw_lload, zw_aload, zw_istore, zw_lstore, zw_astore, zw_astoreN, zw_iinc, zw_iadd, zw_isub, zw_imul, zw_iand, zw_ior, zw_ixor, zw_ishl, zw_ishr, zw_iushr, zw_idiv, zw_irem, zw_ladd, zw_lsub, zw_lmul, zw_land, zw_ldiv, zw_lrem, zw_lcmp, zw_i2l, zw_l2i, zw_dup, zw_pop, zw_dup2i, zw_goto, zw_if_eq, zw_if_ne, zw_if_lt, zw_if_ge, zw_if_gt, zw_if_le, zw_ic_eq, zw_ic_ne, zw_ic_lt, zw_ic_ge, zw_ic_gt, zw_ic_le, zw_ifnn, zw_ifnnN, zw_tsw, zw_lsw, zw_getf_l, zw_getf_r, zw_getf_i, zw_getf_z, zw_putf_i, zw_putf_z, zw_putf_l, zw_putf_r, zw_iaload, zw_caload, zw_laload, zw_aaload, zw_iastore, zw_castore, zw_lastore, zw_aastore, zw_alen, zw_newa, zw_newq, zw_new, zw_oini, zw_invs, zw_invv, zw_copy, zw_invt, zw_iret, zw_lret, zw_ret, zc_r, zc_a, zk_rvs, zk_cat2, List.getElem?_cons_zero, List.getElem?_cons_succ, Bool.false_eq_true, and_false, false_and, and_true, true_and, reduceIte, Nat.reduceEqDiff, Nat.reduceLT, Nat.reduceAdd, List.cons_append, List.nil_append, Option.toList_some, Option.toList_none, zk_cat_i, zk_cat_r, zk_cat_n, zk_same, Option.some.injEq, Value.int.injEq, Value.long.injEq, eq_self, false_implies, true_implies, zf_12, ho, hP2, zl_M, zc_n10, zc_cl, zc_in, not_true_eq_false, not_false_eq_true]
      rw [if_neg (fun z => by
        obtain ⟨i, a, b⟩ := hk.mpr (hh.mp z)
        exact hno i a b)]
      exact ⟨Or.inl rfl, rfl⟩
    | succ j ih =>
      intro i hi hno
      have e1 : (nI S.length ≤ nI i) = False := by rw [zn_le (by omega) (by omega)]; simp; omega
      refine hZ B_X12_qHasSquare_2 _ _ _ _ _ _ _ k_X12_qHasSquare_2 ?_
      simp only [B_X12_qHasSquare_2, zk_ldi_s, zk_ldl_s, zk_lda_r, zk_lda_a, zk_lda_n, zk_iv_s, zr_nil, zr_cons, zp_0, zp_s, zt_0, zt_s, zt2_0, zt2_s, zw_iconst, zw_bipush, zw_sipush, zw_lconst, zw_ldcs, zw_ldc, zw_ldcw, zw_ldc2, zw_iload_n, zw_lload_n, zw_aload_n, zw_istore_n, zw_lstore_n, zw_astore_n, zw_astoreN_n, zw_iload, zw_lload, zw_aload, zw_istore, zw_lstore, zw_astore, zw_astoreN, zw_iinc, zw_iadd, zw_isub, zw_imul, zw_iand, zw_ior, zw_ixor, zw_ishl, zw_ishr, zw_iushr, zw_idiv, zw_irem, zw_ladd, zw_lsub, zw_lmul, zw_land, zw_ldiv, zw_lrem, zw_lcmp, zw_i2l, zw_l2i, zw_dup, zw_pop, zw_dup2i, zw_goto, zw_if_eq, zw_if_ne, zw_if_lt, zw_if_ge, zw_if_gt, zw_if_le, zw_ic_eq, zw_ic_ne, zw_ic_lt, zw_ic_ge, zw_ic_gt, zw_ic_le, zw_ifnn, zw_ifnnN, zw_tsw, zw_lsw, zw_getf_l, zw_getf_r, zw_getf_i, zw_getf_z, zw_putf_i, zw_putf_z, zw_putf_l, zw_putf_r, zw_iaload, zw_caload, zw_laload, zw_aaload, zw_iastore, zw_castore, zw_lastore, zw_aastore, zw_alen, zw_newa, zw_newq, zw_new, zw_oini, zw_invs, zw_invv, zw_copy, zw_invt, zw_iret, zw_lret, zw_ret, zc_r, zc_a, zk_rvs, zk_cat2, List.getElem?_cons_zero, List.getElem?_cons_succ, Bool.false_eq_true, and_false, false_and, and_true, true_and, reduceIte, Nat.reduceEqDiff, Nat.reduceLT, Nat.reduceAdd, List.cons_append, List.nil_append, Option.toList_some, Option.toList_none, zk_cat_i, zk_cat_r, zk_cat_n, zk_same, Option.some.injEq, Value.int.injEq, Value.long.injEq, eq_self, false_implies, true_implies, zf_12, ho, hP2, zl_M, zc_n10, zc_cl, zc_in, not_true_eq_false, not_false_eq_true, h2, e1, nI_clamp (show i < 2 ^ 31 by omega), vp_in_nI (show i < 1700 by omega) (by omega)]
      refine ⟨fun g => ?_, fun g => ?_⟩
      · refine hZ B_X12_qHasSquare_23 _ _ _ _ _ _ _ k_X12_qHasSquare_23 ?_
        simp only [B_X12_qHasSquare_23, zk_ldi_s, zk_ldl_s, zk_lda_r, zk_lda_a, zk_lda_n, zk_iv_s, zr_nil, zr_cons, zp_0, zp_s, zt_0, zt_s, zt2_0, zt2_s, zw_iconst, zw_bipush, zw_sipush, zw_lconst, zw_ldcs, zw_ldc, zw_ldcw, zw_ldc2, zw_iload_n, zw_lload_n, zw_aload_n, zw_istore_n, zw_lstore_n, zw_astore_n, zw_astoreN_n, zw_iload, zw_lload, zw_aload, zw_istore, zw_lstore, zw_astore, zw_astoreN, zw_iinc, zw_iadd, zw_isub, zw_imul, zw_iand, zw_ior, zw_ixor, zw_ishl, zw_ishr, zw_iushr, zw_idiv, zw_irem, zw_ladd, zw_lsub, zw_lmul, zw_land, zw_ldiv, zw_lrem, zw_lcmp, zw_i2l, zw_l2i, zw_dup, zw_pop, zw_dup2i, zw_goto, zw_if_eq, zw_if_ne, zw_if_lt, zw_if_ge, zw_if_gt, zw_if_le, zw_ic_eq, zw_ic_ne, zw_ic_lt, zw_ic_ge, zw_ic_gt, zw_ic_le, zw_ifnn, zw_ifnnN, zw_tsw, zw_lsw, zw_getf_l, zw_getf_r, zw_getf_i, zw_getf_z, zw_putf_i, zw_putf_z, zw_putf_l, zw_putf_r, zw_iaload, zw_caload, zw_laload, zw_aaload, zw_iastore, zw_castore, zw_lastore, zw_aastore, zw_alen, zw_newa, zw_newq, zw_new, zw_oini, zw_invs, zw_invv, zw_copy, zw_invt, zw_iret, zw_lret, zw_ret, zc_r, zc_a, zk_rvs, zk_cat2, List.getElem?_cons_zero, List.getElem?_cons_succ, Bool.false_eq_true, and_false, false_and, and_true, true_and, reduceIte, Nat.reduceEqDiff, Nat.reduceLT, Nat.reduceAdd, List.cons_append, List.nil_append, Option.toList_some, Option.toList_none, zk_cat_i, zk_cat_r, zk_cat_n, zk_same, Option.some.injEq, Value.int.injEq, Value.long.injEq, eq_self, false_implies, true_implies, zf_12, ho, hP2, zl_M, zc_n10, zc_cl, zc_in, not_true_eq_false, not_false_eq_true, nI_1]
        refine ih (i + 1) (by omega) (fun k hk => ?_)
        by_cases e : k = i
        · rw [e]; exact g
        · exact hno k (by omega)
      · rw [if_pos (hh.mpr (hk.mp ⟨i, by omega, g⟩))]
        exact ⟨Or.inr rfl, rfl⟩
  refine hZ B_X12_qHasSquare_0 _ _ _ _ _ _ _ k_X12_qHasSquare_0 ?_
  simp only [B_X12_qHasSquare_0, zk_ldi_s, zk_ldl_s, zk_lda_r, zk_lda_a, zk_lda_n, zk_iv_s, zr_nil, zr_cons, zp_0, zp_s, zt_0, zt_s, zt2_0, zt2_s, zw_iconst, zw_bipush, zw_sipush, zw_lconst, zw_ldcs, zw_ldc, zw_ldcw, zw_ldc2, zw_iload_n, zw_lload_n, zw_aload_n, zw_istore_n, zw_lstore_n, zw_astore_n, zw_astoreN_n, zw_iload, zw_lload, zw_aload, zw_istore, zw_lstore, zw_astore, zw_astoreN, zw_iinc, zw_iadd, zw_isub, zw_imul, zw_iand, zw_ior, zw_ixor, zw_ishl, zw_ishr, zw_iushr, zw_idiv, zw_irem, zw_ladd, zw_lsub, zw_lmul, zw_land, zw_ldiv, zw_lrem, zw_lcmp, zw_i2l, zw_l2i, zw_dup, zw_pop, zw_dup2i, zw_goto, zw_if_eq, zw_if_ne, zw_if_lt, zw_if_ge, zw_if_gt, zw_if_le, zw_ic_eq, zw_ic_ne, zw_ic_lt, zw_ic_ge, zw_ic_gt, zw_ic_le, zw_ifnn, zw_ifnnN, zw_tsw, zw_lsw, zw_getf_l, zw_getf_r, zw_getf_i, zw_getf_z, zw_putf_i, zw_putf_z, zw_putf_l, zw_putf_r, zw_iaload, zw_caload, zw_laload, zw_aaload, zw_iastore, zw_castore, zw_lastore, zw_aastore, zw_alen, zw_newa, zw_newq, zw_new, zw_oini, zw_invs, zw_invv, zw_copy, zw_invt, zw_iret, zw_lret, zw_ret, zc_r, zc_a, zk_rvs, zk_cat2, List.getElem?_cons_zero, List.getElem?_cons_succ, Bool.false_eq_true, and_false, false_and, and_true, true_and, reduceIte, Nat.reduceEqDiff, Nat.reduceLT, Nat.reduceAdd, List.cons_append, List.nil_append, Option.toList_some, Option.toList_none, zk_cat_i, zk_cat_r, zk_cat_n, zk_same, Option.some.injEq, Value.int.injEq, Value.long.injEq, eq_self, false_implies, true_implies, zf_12, ho, hP2, zl_M, zc_n10, zc_cl, zc_in, not_true_eq_false, not_false_eq_true]
  exact loop S.length 0 (by omega) (fun k hk => absurd hk (Nat.not_lt_zero k))
theorem cm_qDropsNotsB (hn : 154 ≤ n) (hP : zs_M P) (h : ¬ M 79 5 = 0) : zk_C G 2 292 [.ref 79] n M L P n (zk_same none M L P) := by
  refine zk_meth (ow := 12) (kind := 1) (k := 0) (nL := 1) (ct := false) (l0 := [.ref 79]) (by decide +kernel) (fun h => by cases h) (by decide +kernel) (by decide) (by decide) (fun h => absurd h (by decide)) (Nat.le_of_ble_eq_true rfl) rfl (by omega) (fun Z hZ => ?_)
  have ho := zo_M hn
  have hP2 := hP
  unfold zs_M at hP2
  refine hZ B_X12_qDropsNots_0 _ _ _ _ _ _ _ k_X12_qDropsNots_0 ?_
  simp only [B_X12_qDropsNots_0, zk_ldi_s, zk_ldl_s, zk_lda_r, zk_lda_a, zk_lda_n, zk_iv_s, zr_nil, zr_cons, zp_0, zp_s, zt_0, zt_s, zt2_0, zt2_s, zw_iconst, zw_bipush, zw_sipush, zw_lconst, zw_ldcs, zw_ldc, zw_ldcw, zw_ldc2, zw_iload_n, zw_lload_n, zw_aload_n, zw_istore_n, zw_lstore_n, zw_astore_n, zw_astoreN_n, zw_iload, zw_lload, zw_aload, zw_istore, zw_lstore, zw_astore, zw_astoreN, zw_iinc, zw_iadd, zw_isub, zw_imul, zw_iand, zw_ior, zw_ixor, zw_ishl, zw_ishr, zw_iushr, zw_idiv, zw_irem, zw_ladd, zw_lsub, zw_lmul, zw_land, zw_ldiv, zw_lrem, zw_lcmp, zw_i2l, zw_l2i, zw_dup, zw_pop, zw_dup2i, zw_goto, zw_if_eq, zw_if_ne, zw_if_lt, zw_if_ge, zw_if_gt, zw_if_le, zw_ic_eq, zw_ic_ne, zw_ic_lt, zw_ic_ge, zw_ic_gt, zw_ic_le, zw_ifnn, zw_ifnnN, zw_tsw, zw_lsw, zw_getf_l, zw_getf_r, zw_getf_i, zw_getf_z, zw_putf_i, zw_putf_z, zw_putf_l, zw_putf_r, zw_iaload, zw_caload, zw_laload, zw_aaload, zw_iastore, zw_castore, zw_lastore, zw_aastore, zw_alen, zw_newa, zw_newq, zw_new, zw_oini, zw_invs, zw_invv, zw_copy, zw_invt, zw_iret, zw_lret, zw_ret, zc_r, zc_a, zk_rvs, zk_cat2, List.getElem?_cons_zero, List.getElem?_cons_succ, Bool.false_eq_true, and_false, false_and, and_true, true_and, reduceIte, Nat.reduceEqDiff, Nat.reduceLT, Nat.reduceAdd, List.cons_append, List.nil_append, Option.toList_some, Option.toList_none, zk_cat_i, zk_cat_r, zk_cat_n, zk_same, Option.some.injEq, Value.int.injEq, Value.long.injEq, eq_self, false_implies, true_implies, zf_12, ho, hP2, zl_M, zc_n10, zc_cl, zc_in, not_true_eq_false, not_false_eq_true, h]
  refine hZ B_X12_qDropsNots_33 _ _ _ _ _ _ _ k_X12_qDropsNots_33 ?_
  simp only [B_X12_qDropsNots_33, zk_ldi_s, zk_ldl_s, zk_lda_r, zk_lda_a, zk_lda_n, zk_iv_s, zr_nil, zr_cons, zp_0, zp_s, zt_0, zt_s, zt2_0, zt2_s, zw_iconst, zw_bipush, zw_sipush, zw_lconst, zw_ldcs, zw_ldc, zw_ldcw, zw_ldc2, zw_iload_n, zw_lload_n, zw_aload_n, zw_istore_n, zw_lstore_n, zw_astore_n, zw_astoreN_n, zw_iload, zw_lload, zw_aload, zw_istore, zw_lstore, zw_astore, zw_astoreN, zw_iinc, zw_iadd, zw_isub, zw_imul, zw_iand, zw_ior, zw_ixor, zw_ishl, zw_ishr, zw_iushr, zw_idiv, zw_irem, zw_ladd, zw_lsub, zw_lmul, zw_land, zw_ldiv, zw_lrem, zw_lcmp, zw_i2l, zw_l2i, zw_dup, zw_pop, zw_dup2i, zw_goto, zw_if_eq, zw_if_ne, zw_if_lt, zw_if_ge, zw_if_gt, zw_if_le, zw_ic_eq, zw_ic_ne, zw_ic_lt, zw_ic_ge, zw_ic_gt, zw_ic_le, zw_ifnn, zw_ifnnN, zw_tsw, zw_lsw, zw_getf_l, zw_getf_r, zw_getf_i, zw_getf_z, zw_putf_i, zw_putf_z, zw_putf_l, zw_putf_r, zw_iaload, zw_caload, zw_laload, zw_aaload, zw_iastore, zw_castore, zw_lastore, zw_aastore, zw_alen, zw_newa, zw_newq, zw_new, zw_oini, zw_invs, zw_invv, zw_copy, zw_invt, zw_iret, zw_lret, zw_ret, zc_r, zc_a, zk_rvs, zk_cat2, List.getElem?_cons_zero, List.getElem?_cons_succ, Bool.false_eq_true, and_false, false_and, and_true, true_and, reduceIte, Nat.reduceEqDiff, Nat.reduceLT, Nat.reduceAdd, List.cons_append, List.nil_append, Option.toList_some, Option.toList_none, zk_cat_i, zk_cat_r, zk_cat_n, zk_same, Option.some.injEq, Value.int.injEq, Value.long.injEq, eq_self, false_implies, true_implies, zf_12, ho, hP2, zl_M, zc_n10, zc_cl, zc_in, not_true_eq_false, not_false_eq_true]
theorem t_wt12 {c : Int} (h : (-12 ≤ c ∧ c ≤ -10) ∨ c = 25) (w : Int) (hw : w = 10 ∨ w = 11 ∨ w = 12) : y_wt c = w ↔ c = -w := by
  unfold y_wt
  split
  · omega
  · split <;> omega
theorem cm_qDropsNots (hn : 154 ≤ n) (hP : zs_M P) {S C : List Int} {o : Nat} (h : yq_S M S C) (hbad : M 79 5 = 0) (ho9 : M 79 98 = nI o) (ho6 : o ≤ 6) (hS : t_wS S) (hct : t_ct S ≤ o) : zk_C G 2 292 [.ref 79] n M L P n (fun r M' L' P' => r = none ∧ L' = L ∧ P' = P ∧ yq_S M' (t_en S C o).1 (t_en S C o).2.1 ∧ M' 79 98 = nI (t_en S C o).2.2 ∧ yq_G M M') := by
  generalize hq : t_en S C o = R
  refine zk_meth (ow := 12) (kind := 1) (k := 0) (nL := 1) (ct := false) (l0 := [.ref 79]) (by decide +kernel) (fun h => by cases h) (by decide +kernel) (by decide) (by decide) (fun h => absurd h (by decide)) (Nat.le_of_ble_eq_true rfl) rfl (by omega) (fun Z hZ => ?_)
  have ho := zo_M hn
  have hP2 := hP
  unfold zs_M at hP2
  have loop : ∀ (W' C' : List Int) (o' : Nat) (M1 : zk_MI), t_en W' C' o' = R → t_wS W' → t_ct W' ≤ o' → o' ≤ 6 → yq_S M1 W' C' → M1 79 98 = nI o' → yq_G M M1 → Z 0 [.ref 79] [] n M1 L P := by
    intro W'
    induction W' with
    | nil =>
      intro C' o' M1 hq hW' hc' ho' hS h98 hG
      have h5 : M1 79 5 = 0 := by rw [hG.2.2 5 (by decide) (by decide) (by decide)]; exact hbad
      refine hZ B_X12_qDropsNots_0 _ _ _ _ _ _ _ k_X12_qDropsNots_0 ?_
      simp only [B_X12_qDropsNots_0, zk_ldi_s, zk_ldl_s, zk_lda_r, zk_lda_a, zk_lda_n, zk_iv_s, zr_nil, zr_cons, zp_0, zp_s, zt_0, zt_s, zt2_0, zt2_s, zw_iconst, zw_bipush, zw_sipush, zw_lconst, zw_ldcs, zw_ldc, zw_ldcw, zw_ldc2, zw_iload_n, zw_lload_n, zw_aload_n, zw_istore_n, zw_lstore_n, zw_astore_n, zw_astoreN_n, zw_iload, zw_lload, zw_aload, zw_istore, zw_lstore, zw_astore, zw_astoreN, zw_iinc, zw_iadd, zw_isub, zw_imul, zw_iand, zw_ior, zw_ixor, zw_ishl, zw_ishr, zw_iushr, zw_idiv, zw_irem, zw_ladd, zw_lsub, zw_lmul, zw_land, zw_ldiv, zw_lrem, zw_lcmp, zw_i2l, zw_l2i, zw_dup, zw_pop, zw_dup2i, zw_goto, zw_if_eq, zw_if_ne, zw_if_lt, zw_if_ge, zw_if_gt, zw_if_le, zw_ic_eq, zw_ic_ne, zw_ic_lt, zw_ic_ge, zw_ic_gt, zw_ic_le, zw_ifnn, zw_ifnnN, zw_tsw, zw_lsw, zw_getf_l, zw_getf_r, zw_getf_i, zw_getf_z, zw_putf_i, zw_putf_z, zw_putf_l, zw_putf_r, zw_iaload, zw_caload, zw_laload, zw_aaload, zw_iastore, zw_castore, zw_lastore, zw_aastore, zw_alen, zw_newa, zw_newq, zw_new, zw_oini, zw_invs, zw_invv, zw_copy, zw_invt, zw_iret, zw_lret, zw_ret, zc_r, zc_a, zk_rvs, zk_cat2, List.getElem?_cons_zero, List.getElem?_cons_succ, Bool.false_eq_true, and_false, false_and, and_true, true_and, reduceIte, Nat.reduceEqDiff, Nat.reduceLT, Nat.reduceAdd, List.cons_append, List.nil_append, Option.toList_some, Option.toList_none, zk_cat_i, zk_cat_r, zk_cat_n, zk_same, Option.some.injEq, Value.int.injEq, Value.long.injEq, eq_self, false_implies, true_implies, zf_12, ho, hP2, zl_M, zc_n10, zc_cl, zc_in, not_true_eq_false, not_false_eq_true, h5]
      refine zk_callS (cm_qIsOn hn hP hS 12 (by decide) (by decide) (12 : Int32) (by decide)) (by first | decide | omega) (Nat.le_refl _) (Nat.le_of_ble_eq_true rfl) ?_
      rw [if_neg (by simp)]
      simp only [zk_ldi_s, zk_ldl_s, zk_lda_r, zk_lda_a, zk_lda_n, zk_iv_s, zr_nil, zr_cons, zp_0, zp_s, zt_0, zt_s, zt2_0, zt2_s, zw_iconst, zw_bipush, zw_sipush, zw_lconst, zw_ldcs, zw_ldc, zw_ldcw, zw_ldc2, zw_iload_n, zw_lload_n, zw_aload_n, zw_istore_n, zw_lstore_n, zw_astore_n, zw_astoreN_n, zw_iload, zw_lload, zw_aload, zw_istore, zw_lstore, zw_astore, zw_astoreN, zw_iinc, zw_iadd, zw_isub, zw_imul, zw_iand, zw_ior, zw_ixor, zw_ishl, zw_ishr, zw_iushr, zw_idiv, zw_irem, zw_ladd, zw_lsub, zw_lmul, zw_land, zw_ldiv, zw_lrem, zw_lcmp, zw_i2l, zw_l2i, zw_dup, zw_pop, zw_dup2i, zw_goto, zw_if_eq, zw_if_ne, zw_if_lt, zw_if_ge, zw_if_gt, zw_if_le, zw_ic_eq, zw_ic_ne, zw_ic_lt, zw_ic_ge, zw_ic_gt, zw_ic_le, zw_ifnn, zw_ifnnN, zw_tsw, zw_lsw, zw_getf_l, zw_getf_r, zw_getf_i, zw_getf_z, zw_putf_i, zw_putf_z, zw_putf_l, zw_putf_r, zw_iaload, zw_caload, zw_laload, zw_aaload, zw_iastore, zw_castore, zw_lastore, zw_aastore, zw_alen, zw_newa, zw_newq, zw_new, zw_oini, zw_invs, zw_invv, zw_copy, zw_invt, zw_iret, zw_lret, zw_ret, zc_r, zc_a, zk_rvs, zk_cat2, List.getElem?_cons_zero, List.getElem?_cons_succ, Bool.false_eq_true, and_false, false_and, and_true, true_and, reduceIte, Nat.reduceEqDiff, Nat.reduceLT, Nat.reduceAdd, List.cons_append, List.nil_append, Option.toList_some, Option.toList_none, zk_cat_i, zk_cat_r, zk_cat_n, zk_same, Option.some.injEq, Value.int.injEq, Value.long.injEq, eq_self, false_implies, true_implies, zf_12, ho, hP2, zl_M, zc_n10, zc_cl, zc_in, not_true_eq_false, not_false_eq_true]
      refine hZ B_X12_qDropsNots_33 _ _ _ _ _ _ _ k_X12_qDropsNots_33 ?_
      simp only [B_X12_qDropsNots_33, zk_ldi_s, zk_ldl_s, zk_lda_r, zk_lda_a, zk_lda_n, zk_iv_s, zr_nil, zr_cons, zp_0, zp_s, zt_0, zt_s, zt2_0, zt2_s, zw_iconst, zw_bipush, zw_sipush, zw_lconst, zw_ldcs, zw_ldc, zw_ldcw, zw_ldc2, zw_iload_n, zw_lload_n, zw_aload_n, zw_istore_n, zw_lstore_n, zw_astore_n, zw_astoreN_n, zw_iload, zw_lload, zw_aload, zw_istore, zw_lstore, zw_astore, zw_astoreN, zw_iinc, zw_iadd, zw_isub, zw_imul, zw_iand, zw_ior, zw_ixor, zw_ishl, zw_ishr, zw_iushr, zw_idiv, zw_irem, zw_ladd, zw_lsub, zw_lmul, zw_land, zw_ldiv, zw_lrem, zw_lcmp, zw_i2l, zw_l2i, zw_dup, zw_pop, zw_dup2i, zw_goto, zw_if_eq, zw_if_ne, zw_if_lt, zw_if_ge, zw_if_gt, zw_if_le, zw_ic_eq, zw_ic_ne, zw_ic_lt, zw_ic_ge, zw_ic_gt, zw_ic_le, zw_ifnn, zw_ifnnN, zw_tsw, zw_lsw, zw_getf_l, zw_getf_r, zw_getf_i, zw_getf_z, zw_putf_i, zw_putf_z, zw_putf_l, zw_putf_r, zw_iaload, zw_caload, zw_laload, zw_aaload, zw_iastore, zw_castore, zw_lastore, zw_aastore, zw_alen, zw_newa, zw_newq, zw_new, zw_oini, zw_invs, zw_invv, zw_copy, zw_invt, zw_iret, zw_lret, zw_ret, zc_r, zc_a, zk_rvs, zk_cat2, List.getElem?_cons_zero, List.getElem?_cons_succ, Bool.false_eq_true, and_false, false_and, and_true, true_and, reduceIte, Nat.reduceEqDiff, Nat.reduceLT, Nat.reduceAdd, List.cons_append, List.nil_append, Option.toList_some, Option.toList_none, zk_cat_i, zk_cat_r, zk_cat_n, zk_same, Option.some.injEq, Value.int.injEq, Value.long.injEq, eq_self, false_implies, true_implies, zf_12, ho, hP2, zl_M, zc_n10, zc_cl, zc_in, not_true_eq_false, not_false_eq_true]
      rw [← hq]
      exact ⟨hS, h98, hG⟩
    | cons c r ih =>
      intro C' o' M1 hq hW' hc' ho' hS h98 hG
      have h5b : M1 79 5 = 0 := by rw [hG.2.2 5 (by decide) (by decide) (by decide)]; exact hbad
      have hcw := hW' c List.mem_cons_self
      have hw := t_wt12 hcw 12 (by omega)
      simp only [t_en] at hq
      refine hZ B_X12_qDropsNots_0 _ _ _ _ _ _ _ k_X12_qDropsNots_0 ?_
      simp only [B_X12_qDropsNots_0, zk_ldi_s, zk_ldl_s, zk_lda_r, zk_lda_a, zk_lda_n, zk_iv_s, zr_nil, zr_cons, zp_0, zp_s, zt_0, zt_s, zt2_0, zt2_s, zw_iconst, zw_bipush, zw_sipush, zw_lconst, zw_ldcs, zw_ldc, zw_ldcw, zw_ldc2, zw_iload_n, zw_lload_n, zw_aload_n, zw_istore_n, zw_lstore_n, zw_astore_n, zw_astoreN_n, zw_iload, zw_lload, zw_aload, zw_istore, zw_lstore, zw_astore, zw_astoreN, zw_iinc, zw_iadd, zw_isub, zw_imul, zw_iand, zw_ior, zw_ixor, zw_ishl, zw_ishr, zw_iushr, zw_idiv, zw_irem, zw_ladd, zw_lsub, zw_lmul, zw_land, zw_ldiv, zw_lrem, zw_lcmp, zw_i2l, zw_l2i, zw_dup, zw_pop, zw_dup2i, zw_goto, zw_if_eq, zw_if_ne, zw_if_lt, zw_if_ge, zw_if_gt, zw_if_le, zw_ic_eq, zw_ic_ne, zw_ic_lt, zw_ic_ge, zw_ic_gt, zw_ic_le, zw_ifnn, zw_ifnnN, zw_tsw, zw_lsw, zw_getf_l, zw_getf_r, zw_getf_i, zw_getf_z, zw_putf_i, zw_putf_z, zw_putf_l, zw_putf_r, zw_iaload, zw_caload, zw_laload, zw_aaload, zw_iastore, zw_castore, zw_lastore, zw_aastore, zw_alen, zw_newa, zw_newq, zw_new, zw_oini, zw_invs, zw_invv, zw_copy, zw_invt, zw_iret, zw_lret, zw_ret, zc_r, zc_a, zk_rvs, zk_cat2, List.getElem?_cons_zero, List.getElem?_cons_succ, Bool.false_eq_true, and_false, false_and, and_true, true_and, reduceIte, Nat.reduceEqDiff, Nat.reduceLT, Nat.reduceAdd, List.cons_append, List.nil_append, Option.toList_some, Option.toList_none, zk_cat_i, zk_cat_r, zk_cat_n, zk_same, Option.some.injEq, Value.int.injEq, Value.long.injEq, eq_self, false_implies, true_implies, zf_12, ho, hP2, zl_M, zc_n10, zc_cl, zc_in, not_true_eq_false, not_false_eq_true, h5b]
      refine zk_callS (cm_qIsOn hn hP hS 12 (by decide) (by decide) (12 : Int32) (by decide)) (by first | decide | omega) (Nat.le_refl _) (Nat.le_of_ble_eq_true rfl) ?_
      by_cases hc : c = -12
      · rw [if_pos hc] at hq
        rw [if_pos (show (c :: r).head?.map y_wt = some 12 by simp only [List.head?_cons, Option.map_some, Option.some.injEq]; exact hw.mpr hc)]
        rw [t_ct_m (Or.inr hc)] at hc'
        obtain ⟨o2, rfl⟩ : ∃ o2, o' = o2 + 1 := ⟨o' - 1, by omega⟩
        generalize hMA : zk_up M1 79 98 (nI o2) = MA
        have hGA : yq_G M1 MA := by rw [← hMA]; exact ⟨fun q a _ _ => zk_up_row a, fun i _ => by rw [zk_up_row (by decide)], fun j _ _ a => zk_up_ne (by omega)⟩
        have hSA : yq_S MA (c :: r) C' := by
          obtain ⟨a1, a2, a3, a4, a5⟩ := hS
          rw [← hMA]
          exact ⟨by rw [zk_up_row (by decide)]; exact a1, by rw [zk_up_ne (by decide)]; exact a2, fun i hi => by rw [zk_up_row (by decide)]; exact a3 i hi, by rw [zk_up_ne (by decide)]; exact a4, a5⟩
        have m98 : MA 79 98 = nI o2 := by rw [← hMA]; exact zk_up_at
        have m97 : MA 79 97 = nI (r.length + 1) := hSA.2.1
        have h5 := hSA.2.2.2.2
        simp only [List.length_cons] at h5
        simp only [zk_ldi_s, zk_ldl_s, zk_lda_r, zk_lda_a, zk_lda_n, zk_iv_s, zr_nil, zr_cons, zp_0, zp_s, zt_0, zt_s, zt2_0, zt2_s, zw_iconst, zw_bipush, zw_sipush, zw_lconst, zw_ldcs, zw_ldc, zw_ldcw, zw_ldc2, zw_iload_n, zw_lload_n, zw_aload_n, zw_istore_n, zw_lstore_n, zw_astore_n, zw_astoreN_n, zw_iload, zw_lload, zw_aload, zw_istore, zw_lstore, zw_astore, zw_astoreN, zw_iinc, zw_iadd, zw_isub, zw_imul, zw_iand, zw_ior, zw_ixor, zw_ishl, zw_ishr, zw_iushr, zw_idiv, zw_irem, zw_ladd, zw_lsub, zw_lmul, zw_land, zw_ldiv, zw_lrem, zw_lcmp, zw_i2l, zw_l2i, zw_dup, zw_pop, zw_dup2i, zw_goto, zw_if_eq, zw_if_ne, zw_if_lt, zw_if_ge, zw_if_gt, zw_if_le, zw_ic_eq, zw_ic_ne, zw_ic_lt, zw_ic_ge, zw_ic_gt, zw_ic_le, zw_ifnn, zw_ifnnN, zw_tsw, zw_lsw, zw_getf_l, zw_getf_r, zw_getf_i, zw_getf_z, zw_putf_i, zw_putf_z, zw_putf_l, zw_putf_r, zw_iaload, zw_caload, zw_laload, zw_aaload, zw_iastore, zw_castore, zw_lastore, zw_aastore, zw_alen, zw_newa, zw_newq, zw_new, zw_oini, zw_invs, zw_invv, zw_copy, zw_invt, zw_iret, zw_lret, zw_ret, zc_r, zc_a, zk_rvs, zk_cat2, List.getElem?_cons_zero, List.getElem?_cons_succ, Bool.false_eq_true, and_false, false_and, and_true, true_and, reduceIte, Nat.reduceEqDiff, Nat.reduceLT, Nat.reduceAdd, List.cons_append, List.nil_append, Option.toList_some, Option.toList_none, zk_cat_i, zk_cat_r, zk_cat_n, zk_same, Option.some.injEq, Value.int.injEq, Value.long.injEq, eq_self, false_implies, true_implies, zf_12, ho, hP2, zl_M, zc_n10, zc_cl, zc_in, not_true_eq_false, not_false_eq_true, (show ((1 : Int32) = 0) = False from by decide), h98, nI_s1, hMA]
        refine zk_callS (cm_qDrops hn hP m97 (by omega) hSA.2.2.2.1 (by omega)) (by first | decide | omega) (Nat.le_refl _) (Nat.le_of_ble_eq_true rfl) ?_
        simp only [zk_ldi_s, zk_ldl_s, zk_lda_r, zk_lda_a, zk_lda_n, zk_iv_s, zr_nil, zr_cons, zp_0, zp_s, zt_0, zt_s, zt2_0, zt2_s, zw_iconst, zw_bipush, zw_sipush, zw_lconst, zw_ldcs, zw_ldc, zw_ldcw, zw_ldc2, zw_iload_n, zw_lload_n, zw_aload_n, zw_istore_n, zw_lstore_n, zw_astore_n, zw_astoreN_n, zw_iload, zw_lload, zw_aload, zw_istore, zw_lstore, zw_astore, zw_astoreN, zw_iinc, zw_iadd, zw_isub, zw_imul, zw_iand, zw_ior, zw_ixor, zw_ishl, zw_ishr, zw_iushr, zw_idiv, zw_irem, zw_ladd, zw_lsub, zw_lmul, zw_land, zw_ldiv, zw_lrem, zw_lcmp, zw_i2l, zw_l2i, zw_dup, zw_pop, zw_dup2i, zw_goto, zw_if_eq, zw_if_ne, zw_if_lt, zw_if_ge, zw_if_gt, zw_if_le, zw_ic_eq, zw_ic_ne, zw_ic_lt, zw_ic_ge, zw_ic_gt, zw_ic_le, zw_ifnn, zw_ifnnN, zw_tsw, zw_lsw, zw_getf_l, zw_getf_r, zw_getf_i, zw_getf_z, zw_putf_i, zw_putf_z, zw_putf_l, zw_putf_r, zw_iaload, zw_caload, zw_laload, zw_aaload, zw_iastore, zw_castore, zw_lastore, zw_aastore, zw_alen, zw_newa, zw_newq, zw_new, zw_oini, zw_invs, zw_invv, zw_copy, zw_invt, zw_iret, zw_lret, zw_ret, zc_r, zc_a, zk_rvs, zk_cat2, List.getElem?_cons_zero, List.getElem?_cons_succ, Bool.false_eq_true, and_false, false_and, and_true, true_and, reduceIte, Nat.reduceEqDiff, Nat.reduceLT, Nat.reduceAdd, List.cons_append, List.nil_append, Option.toList_some, Option.toList_none, zk_cat_i, zk_cat_r, zk_cat_n, zk_same, Option.some.injEq, Value.int.injEq, Value.long.injEq, eq_self, false_implies, true_implies, zf_12, ho, hP2, zl_M, zc_n10, zc_cl, zc_in, not_true_eq_false, not_false_eq_true]
        have hS2 := yq_S_drop hSA (ycq_w (Or.inr (by omega)))
        refine ih (C' ++ [c]) o2 _ (by rw [hc]; exact hq) (fun x hx => hW' x (List.mem_cons_of_mem _ hx)) (by omega) (by omega) hS2 ?_ (yq_G_tr hG (yq_G_tr hGA (yq_drop_G (by omega))))
        unfold yq_drop yq_code
        rw [zk_up_ne (by decide), zk_up_row (by decide), zk_up_ne (by decide)]
        exact m98
      · rw [if_neg hc] at hq
        rw [if_neg (show ¬ ((c :: r).head?.map y_wt = some 12) by simp only [List.head?_cons, Option.map_some, Option.some.injEq]; exact fun z => hc (hw.mp z))]
        simp only [zk_ldi_s, zk_ldl_s, zk_lda_r, zk_lda_a, zk_lda_n, zk_iv_s, zr_nil, zr_cons, zp_0, zp_s, zt_0, zt_s, zt2_0, zt2_s, zw_iconst, zw_bipush, zw_sipush, zw_lconst, zw_ldcs, zw_ldc, zw_ldcw, zw_ldc2, zw_iload_n, zw_lload_n, zw_aload_n, zw_istore_n, zw_lstore_n, zw_astore_n, zw_astoreN_n, zw_iload, zw_lload, zw_aload, zw_istore, zw_lstore, zw_astore, zw_astoreN, zw_iinc, zw_iadd, zw_isub, zw_imul, zw_iand, zw_ior, zw_ixor, zw_ishl, zw_ishr, zw_iushr, zw_idiv, zw_irem, zw_ladd, zw_lsub, zw_lmul, zw_land, zw_ldiv, zw_lrem, zw_lcmp, zw_i2l, zw_l2i, zw_dup, zw_pop, zw_dup2i, zw_goto, zw_if_eq, zw_if_ne, zw_if_lt, zw_if_ge, zw_if_gt, zw_if_le, zw_ic_eq, zw_ic_ne, zw_ic_lt, zw_ic_ge, zw_ic_gt, zw_ic_le, zw_ifnn, zw_ifnnN, zw_tsw, zw_lsw, zw_getf_l, zw_getf_r, zw_getf_i, zw_getf_z, zw_putf_i, zw_putf_z, zw_putf_l, zw_putf_r, zw_iaload, zw_caload, zw_laload, zw_aaload, zw_iastore, zw_castore, zw_lastore, zw_aastore, zw_alen, zw_newa, zw_newq, zw_new, zw_oini, zw_invs, zw_invv, zw_copy, zw_invt, zw_iret, zw_lret, zw_ret, zc_r, zc_a, zk_rvs, zk_cat2, List.getElem?_cons_zero, List.getElem?_cons_succ, Bool.false_eq_true, and_false, false_and, and_true, true_and, reduceIte, Nat.reduceEqDiff, Nat.reduceLT, Nat.reduceAdd, List.cons_append, List.nil_append, Option.toList_some, Option.toList_none, zk_cat_i, zk_cat_r, zk_cat_n, zk_same, Option.some.injEq, Value.int.injEq, Value.long.injEq, eq_self, false_implies, true_implies, zf_12, ho, hP2, zl_M, zc_n10, zc_cl, zc_in, not_true_eq_false, not_false_eq_true]
        refine hZ B_X12_qDropsNots_33 _ _ _ _ _ _ _ k_X12_qDropsNots_33 ?_
        simp only [B_X12_qDropsNots_33, zk_ldi_s, zk_ldl_s, zk_lda_r, zk_lda_a, zk_lda_n, zk_iv_s, zr_nil, zr_cons, zp_0, zp_s, zt_0, zt_s, zt2_0, zt2_s, zw_iconst, zw_bipush, zw_sipush, zw_lconst, zw_ldcs, zw_ldc, zw_ldcw, zw_ldc2, zw_iload_n, zw_lload_n, zw_aload_n, zw_istore_n, zw_lstore_n, zw_astore_n, zw_astoreN_n, zw_iload, zw_lload, zw_aload, zw_istore, zw_lstore, zw_astore, zw_astoreN, zw_iinc, zw_iadd, zw_isub, zw_imul, zw_iand, zw_ior, zw_ixor, zw_ishl, zw_ishr, zw_iushr, zw_idiv, zw_irem, zw_ladd, zw_lsub, zw_lmul, zw_land, zw_ldiv, zw_lrem, zw_lcmp, zw_i2l, zw_l2i, zw_dup, zw_pop, zw_dup2i, zw_goto, zw_if_eq, zw_if_ne, zw_if_lt, zw_if_ge, zw_if_gt, zw_if_le, zw_ic_eq, zw_ic_ne, zw_ic_lt, zw_ic_ge, zw_ic_gt, zw_ic_le, zw_ifnn, zw_ifnnN, zw_tsw, zw_lsw, zw_getf_l, zw_getf_r, zw_getf_i, zw_getf_z, zw_putf_i, zw_putf_z, zw_putf_l, zw_putf_r, zw_iaload, zw_caload, zw_laload, zw_aaload, zw_iastore, zw_castore, zw_lastore, zw_aastore, zw_alen, zw_newa, zw_newq, zw_new, zw_oini, zw_invs, zw_invv, zw_copy, zw_invt, zw_iret, zw_lret, zw_ret, zc_r, zc_a, zk_rvs, zk_cat2, List.getElem?_cons_zero, List.getElem?_cons_succ, Bool.false_eq_true, and_false, false_and, and_true, true_and, reduceIte, Nat.reduceEqDiff, Nat.reduceLT, Nat.reduceAdd, List.cons_append, List.nil_append, Option.toList_some, Option.toList_none, zk_cat_i, zk_cat_r, zk_cat_n, zk_same, Option.some.injEq, Value.int.injEq, Value.long.injEq, eq_self, false_implies, true_implies, zf_12, ho, hP2, zl_M, zc_n10, zc_cl, zc_in, not_true_eq_false, not_false_eq_true]
        rw [← hq]
        exact ⟨hS, h98, hG⟩
  exact loop S C o M hq hS hct ho6 h ho9 yq_G_rf
def qE (M' : zk_MI) (f : Nat → Nat) (T : Nat) (B C : List Int) (o : Nat) : sp_R → Prop
  | .inl (k', pl) => (1 ≤ k' ∧ k' ≤ 5) ∧ M' 79 5 = nI k' ∧ M' 79 6 = nI pl ∧ yq_cd M'
  | .inr (p', cs) => mt_at M' f T p' ∧ yq_S M' B (C ++ cs) ∧ M' 79 98 = nI o
theorem cm_qSumsL (hn : 154 ≤ n) (hP : zs_M P) {f : Nat → Nat} {T p : Nat} {B C : List Int} {o : Nat} (hB : t_wS B) (hat : mt_at M f T p) (hw : mw_ok M) (hS : yq_S M B C) (ho9 : M 79 98 = nI o) (ho6 : o ≤ 6) (hlen : B.length + C.length + 1 ≤ p) : zk_C G 6 289 [.ref 79] n M L P n (fun r M' L' P' => r = none ∧ L' = L ∧ P' = P ∧ yq_F M M' ∧ qE M' f T B C o ((rd_lev f T 4 (6 - o)).2 p)) := by
  obtain ⟨J, hJ⟩ := y_all (f := f) (sort := 4) (T := T) hat.2.1 (d := 6 - o) (by omega) hat.2.2.2.1 C
  rw [show 6 - (6 - o) = o by omega] at hJ
  generalize hRR : y_run f T 4 J true p ([], C, o) = RR at hJ
  have hR9 : RR ≠ .inl (9, 9) := by
    rw [hJ]
    intro z
    rcases hx : (rd_lev f T 4 (6 - o)).2 p with e1 | ⟨p1, cs⟩
    · rw [hx] at z
      cases z
      have := (rd_fe_lev f T 4 (6 - o)).2 _ _ hx
      omega
    · rw [hx] at z; cases z
  have h := cm_qSums (G := G) (L := L) (P := P) hn hP hB hat hw hS ho9 ho6 hlen hR9 hRR
  refine zk_C.post h (fun r M' L' P' hp => ?_)
  obtain ⟨h1, h2, h3, h4, h5⟩ := hp
  refine ⟨h1, h2, h3, h4, ?_⟩
  rw [hJ] at h5
  rcases hx : (rd_lev f T 4 (6 - o)).2 p with ⟨k', pl⟩ | ⟨p1, cs⟩
  · rw [hx] at h5; exact h5
  · rw [hx] at h5; exact h5
end MQ5
