/-! ===== Tape ===== -/
def B_X7_at_0 : List zk_I := [(.iload_n 1, 1, 0, 1, 0, 0, []), (.ifCond .lt 20, 3, 0, 21, 0, 0, []), (.iload_n 1, 1, 0, 1, 0, 0, []), (.aload_n 0, 1, 0, 0, 0, 0, []), (.getfield 15, 3, 0, 7, 1, 0, []), (.if_icmp .ge 12, 3, 0, 21, 0, 0, []), (.aload_n 0, 1, 0, 0, 0, 0, []), (.getfield 9, 3, 0, 7, 0, 0, []), (.iload_n 1, 1, 0, 1, 0, 0, []), (.iaload, 1, 0, 0, 0, 0, []), (.goto 4, 3, 0, 22, 0, 0, [])]
theorem k_X7_at_0 : zk_ckb 7 false (zk_m 80) B_X7_at_0 0 = true := by decide +kernel
def B_X7_at_21 : List zk_I := [(.iconst (-1), 1, (-1), 0, 0, 0, []), (.ireturn, 1, 0, 0, 0, 0, [])]
theorem k_X7_at_21 : zk_ckb 7 false (zk_m 80) B_X7_at_21 21 = true := by decide +kernel
def B_X7_at_22 : List zk_I := [(.ireturn, 1, 0, 0, 0, 0, [])]
theorem k_X7_at_22 : zk_ckb 7 false (zk_m 80) B_X7_at_22 22 = true := by decide +kernel
def B_X7_append_0 : List zk_I := [(.bipush 24, 2, 24, 0, 0, 0, []), (.istore_n 2, 1, 0, 2, 0, 0, [])]
theorem k_X7_append_0 : zk_ckb 7 false (zk_m 79) B_X7_append_0 0 = true := by decide +kernel
def B_X7_append_3 : List zk_I := [(.iload_n 2, 1, 0, 2, 0, 0, []), (.ifCond .lt 45, 3, 0, 49, 0, 0, []), (.aload_n 0, 1, 0, 0, 0, 0, []), (.getfield 15, 3, 0, 7, 1, 0, []), (.sipush 1600, 3, 1600, 0, 0, 0, []), (.if_icmp .ge 29, 3, 0, 43, 0, 0, []), (.aload_n 0, 1, 0, 0, 0, 0, []), (.getfield 9, 3, 0, 7, 0, 0, []), (.aload_n 0, 1, 0, 0, 0, 0, []), (.getfield 15, 3, 0, 7, 1, 0, []), (.iload_n 1, 1, 0, 1, 0, 0, []), (.iload_n 2, 1, 0, 2, 0, 0, []), (.iushr, 1, 0, 0, 0, 0, []), (.sipush 255, 3, 255, 0, 0, 0, []), (.iand, 1, 0, 0, 0, 0, []), (.iastore, 1, 0, 0, 0, 0, []), (.aload_n 0, 1, 0, 0, 0, 0, []), (.dup, 1, 0, 0, 0, 0, []), (.getfield 15, 3, 0, 7, 1, 0, []), (.iconst 1, 1, 1, 0, 0, 0, []), (.iadd, 1, 0, 0, 0, 0, []), (.putfield 15, 3, 0, 7, 1, 0, []), (.iinc 2 (-8), 3, (-8), 2, 0, 0, []), (.goto (-43), 3, 0, 3, 0, 0, [])]
theorem k_X7_append_3 : zk_ckb 7 false (zk_m 79) B_X7_append_3 3 = true := by decide +kernel
def B_X7_append_43 : List zk_I := [(.iinc 2 (-8), 3, (-8), 2, 0, 0, []), (.goto (-43), 3, 0, 3, 0, 0, [])]
theorem k_X7_append_43 : zk_ckb 7 false (zk_m 79) B_X7_append_43 43 = true := by decide +kernel
def B_X7_append_49 : List zk_I := [(.return_, 1, 0, 0, 0, 0, [])]
theorem k_X7_append_49 : zk_ckb 7 false (zk_m 79) B_X7_append_49 49 = true := by decide +kernel
def B_X7_twoAt_0 : List zk_I := [(.aload_n 0, 1, 0, 0, 0, 0, []), (.iload_n 1, 1, 0, 1, 0, 0, []), (.invokevirtual 19, 3, 0, 2, 80, 7, []), (.sipush 256, 3, 256, 0, 0, 0, []), (.imul, 1, 0, 0, 0, 0, []), (.aload_n 0, 1, 0, 0, 0, 0, []), (.iload_n 1, 1, 0, 1, 0, 0, []), (.iconst 1, 1, 1, 0, 0, 0, []), (.iadd, 1, 0, 0, 0, 0, []), (.invokevirtual 19, 3, 0, 2, 80, 7, []), (.iadd, 1, 0, 0, 0, 0, []), (.ireturn, 1, 0, 0, 0, 0, [])]
theorem k_X7_twoAt_0 : zk_ckb 7 false (zk_m 81) B_X7_twoAt_0 0 = true := by decide +kernel
def B_X7_isAbove_0 : List zk_I := [(.iload_n 2, 1, 0, 2, 0, 0, []), (.istore 4, 2, 0, 4, 0, 0, [])]
theorem k_X7_isAbove_0 : zk_ckb 7 false (zk_m 82) B_X7_isAbove_0 0 = true := by decide +kernel
def B_X7_isAbove_3 : List zk_I := [(.iload 4, 2, 0, 4, 0, 0, []), (.iload_n 2, 1, 0, 2, 0, 0, []), (.iload_n 3, 1, 0, 3, 0, 0, []), (.iadd, 1, 0, 0, 0, 0, []), (.if_icmp .ge 21, 3, 0, 29, 0, 0, []), (.aload_n 0, 1, 0, 0, 0, 0, []), (.iload 4, 2, 0, 4, 0, 0, []), (.invokevirtual 19, 3, 0, 2, 80, 7, []), (.iload_n 1, 1, 0, 1, 0, 0, []), (.if_icmp .le 5, 3, 0, 23, 0, 0, []), (.iconst 1, 1, 1, 0, 0, 0, []), (.ireturn, 1, 0, 1, 0, 0, [])]
theorem k_X7_isAbove_3 : zk_ckb 7 false (zk_m 82) B_X7_isAbove_3 3 = true := by decide +kernel
def B_X7_isAbove_23 : List zk_I := [(.iinc 4 1, 3, 1, 4, 0, 0, []), (.goto (-23), 3, 0, 3, 0, 0, [])]
theorem k_X7_isAbove_23 : zk_ckb 7 false (zk_m 82) B_X7_isAbove_23 23 = true := by decide +kernel
def B_X7_isAbove_29 : List zk_I := [(.iconst 0, 1, 0, 0, 0, 0, []), (.ireturn, 1, 0, 1, 0, 0, [])]
theorem k_X7_isAbove_29 : zk_ckb 7 false (zk_m 82) B_X7_isAbove_29 29 = true := by decide +kernel
def tp_at (M : zk_MI) (k : Int32) : Int32 := if k < 0 then -1 else if M 5 1 ≤ k then -1 else M 6 k.toNatClampNeg
theorem ct_at {G : zk_G} {n : Nat} {M : zk_MI} {L : zk_ML} {P : zk_MP} (hn : 154 ≤ n) (hP : zs_X P) (k : Int32) (T : Nat) (hT : T ≤ 1600) (hs : M 5 1 = nI T) : zk_C G 0 80 [.ref 5, .int k] n M L P n (zk_same (some (.int (tp_at M k))) M L P) := by
  refine zk_meth (ow := 7) (kind := 1) (k := 1) (nL := 2) (ct := false) (l0 := [.ref 5, .int k]) (by decide +kernel) (fun h => by cases h) (by decide +kernel) (by decide) (by decide) (fun h => absurd h (by decide)) (Nat.le_of_ble_eq_true rfl) rfl (by omega) (fun Z hZ => ?_)
  unfold zs_X at hP
  have ho := zo_X hn
  refine hZ B_X7_at_0 _ _ _ _ _ _ _ k_X7_at_0 ?_
  simp only [B_X7_at_0, zk_run, zk_wp, zk_pop, zk_rc, zk_rvs, zk_set, zk_set2, zk_cat2, List.getElem?_cons_zero, List.getElem?_cons_succ, Bool.false_eq_true, and_false, false_and, and_true, true_and, reduceIte, Nat.reduceEqDiff, Nat.reduceLT, Nat.reduceAdd, List.cons_append, List.nil_append, Option.toList_some, Option.toList_none, zk_cat_i, zk_cat_r, zk_cat_n, zk_same, Option.some.injEq, Value.int.injEq, Value.long.injEq, eq_self, false_implies, true_implies, zf_7, ho, hP, zl_X]
  refine ⟨fun h => ?_, fun h => ⟨fun h2 => ?_, fun h2 => ⟨?_, ?_⟩⟩⟩
  · refine hZ B_X7_at_21 _ _ _ _ _ _ _ k_X7_at_21 ?_
    simp only [B_X7_at_21, zk_run, zk_wp, zk_pop, zk_rc, zk_rvs, zk_set, zk_set2, zk_cat2, List.getElem?_cons_zero, List.getElem?_cons_succ, Bool.false_eq_true, and_false, false_and, and_true, true_and, reduceIte, Nat.reduceEqDiff, Nat.reduceLT, Nat.reduceAdd, List.cons_append, List.nil_append, Option.toList_some, Option.toList_none, zk_cat_i, zk_cat_r, zk_cat_n, zk_same, Option.some.injEq, Value.int.injEq, Value.long.injEq, eq_self, false_implies, true_implies, zf_7]
    simp only [tp_at, if_pos h]
  · refine hZ B_X7_at_21 _ _ _ _ _ _ _ k_X7_at_21 ?_
    simp only [B_X7_at_21, zk_run, zk_wp, zk_pop, zk_rc, zk_rvs, zk_set, zk_set2, zk_cat2, List.getElem?_cons_zero, List.getElem?_cons_succ, Bool.false_eq_true, and_false, false_and, and_true, true_and, reduceIte, Nat.reduceEqDiff, Nat.reduceLT, Nat.reduceAdd, List.cons_append, List.nil_append, Option.toList_some, Option.toList_none, zk_cat_i, zk_cat_r, zk_cat_n, zk_same, Option.some.injEq, Value.int.injEq, Value.long.injEq, eq_self, false_implies, true_implies, zf_7]
    simp only [tp_at, if_neg h, if_pos h2]
  · rw [hs] at h2
    obtain ⟨j, hj, rfl⟩ := nI_of h
    rw [nI_leI (by omega) (by omega)] at h2
    exact vp_in_nI (by omega) (by omega)
  · refine hZ B_X7_at_22 _ _ _ _ _ _ _ k_X7_at_22 ?_
    simp only [B_X7_at_22, zk_run, zk_wp, zk_pop, zk_rc, zk_rvs, zk_set, zk_set2, zk_cat2, List.getElem?_cons_zero, List.getElem?_cons_succ, Bool.false_eq_true, and_false, false_and, and_true, true_and, reduceIte, Nat.reduceEqDiff, Nat.reduceLT, Nat.reduceAdd, List.cons_append, List.nil_append, Option.toList_some, Option.toList_none, zk_cat_i, zk_cat_r, zk_cat_n, zk_same, Option.some.injEq, Value.int.injEq, Value.long.injEq, eq_self, false_implies, true_implies, zf_7]
    simp only [tp_at, if_neg h, if_neg h2]
theorem ct_twoAt {G : zk_G} {n : Nat} {M : zk_MI} {L : zk_ML} {P : zk_MP} (hn : 154 ≤ n) (hP : zs_X P) (k : Int32) (T : Nat) (hT : T ≤ 1600) (hs : M 5 1 = nI T) : zk_C G 1 81 [.ref 5, .int k] n M L P n (zk_same (some (.int (tp_at M k * 256 + tp_at M (k + 1)))) M L P) := by
  refine zk_meth (ow := 7) (kind := 1) (k := 1) (nL := 2) (ct := false) (l0 := [.ref 5, .int k]) (by decide +kernel) (fun h => by cases h) (by decide +kernel) (by decide) (by decide) (fun h => absurd h (by decide)) (Nat.le_of_ble_eq_true rfl) rfl (by omega) (fun Z hZ => ?_)
  have ho := zo_X hn
  refine hZ B_X7_twoAt_0 _ _ _ _ _ _ _ k_X7_twoAt_0 ?_
  simp only [B_X7_twoAt_0, zk_run, zk_wp, zk_pop, zk_rc, zk_rvs, zk_set, zk_set2, zk_cat2, List.getElem?_cons_zero, List.getElem?_cons_succ, Bool.false_eq_true, and_false, false_and, and_true, true_and, reduceIte, Nat.reduceEqDiff, Nat.reduceLT, Nat.reduceAdd, List.cons_append, List.nil_append, Option.toList_some, Option.toList_none, zk_cat_i, zk_cat_r, zk_cat_n, zk_same, Option.some.injEq, Value.int.injEq, Value.long.injEq, eq_self, false_implies, true_implies, ho]
  refine zk_callS (ct_at hn hP k T hT hs) (by decide) (Nat.le_refl _) (Nat.le_of_ble_eq_true rfl) ?_
  simp only [zk_run, zk_wp, zk_pop, zk_rc, zk_rvs, zk_set, zk_set2, zk_cat2, List.getElem?_cons_zero, List.getElem?_cons_succ, Bool.false_eq_true, and_false, false_and, and_true, true_and, reduceIte, Nat.reduceEqDiff, Nat.reduceLT, Nat.reduceAdd, List.cons_append, List.nil_append, Option.toList_some, Option.toList_none, zk_cat_i, zk_cat_r, zk_cat_n, zk_same, Option.some.injEq, Value.int.injEq, Value.long.injEq, eq_self, false_implies, true_implies, ho]
  refine zk_callS (ct_at hn hP (k + 1) T hT hs) (by decide) (Nat.le_refl _) (Nat.le_of_ble_eq_true rfl) ?_
  simp only [zk_run, zk_wp, zk_pop, zk_rc, zk_rvs, zk_set, zk_set2, zk_cat2, List.getElem?_cons_zero, List.getElem?_cons_succ, Bool.false_eq_true, and_false, false_and, and_true, true_and, reduceIte, Nat.reduceEqDiff, Nat.reduceLT, Nat.reduceAdd, List.cons_append, List.nil_append, Option.toList_some, Option.toList_none, zk_cat_i, zk_cat_r, zk_cat_n, zk_same, Option.some.injEq, Value.int.injEq, Value.long.injEq, eq_self, false_implies, true_implies, ho]
