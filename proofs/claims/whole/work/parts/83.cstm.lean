/-! ===== the class: rules, PLACES, PEOPLE, THINGS ===== -/
def B_X10_readRule_0 : List zk_I := [(.aload_n 1, 1, 0, 1, 0, 0, []), (.getfield 137, 3, 0, 9, 9, 0, []), (.iload_n 2, 1, 0, 2, 0, 0, []), (.iaload, 1, 0, 0, 0, 0, []), (.iconst (-1), 1, (-1), 0, 0, 0, []), (.if_icmp .eq 12, 3, 0, 19, 0, 0, []), (.aload_n 0, 1, 0, 0, 0, 0, []), (.getfield 9, 3, 0, 10, 0, 0, []), (.iconst 5, 1, 5, 0, 0, 0, []), (.invokevirtual 44, 3, 0, 2, 86, 8, []), (.ireturn, 1, 0, 1, 0, 0, [])]
theorem k_X10_readRule_0 : zk_ckb 10 false (zk_m 111) B_X10_readRule_0 0 = true := by decide +kernel
def B_X10_readRule_19 : List zk_I := [(.aload_n 0, 1, 0, 0, 0, 0, []), (.getfield 9, 3, 0, 10, 0, 0, []), (.invokevirtual 82, 3, 0, 1, 87, 8, []), (.aload_n 0, 1, 0, 0, 0, 0, []), (.getfield 15, 3, 0, 10, 1, 0, []), (.aload_n 1, 1, 0, 1, 0, 0, []), (.getfield 140, 3, 0, 9, 8, 0, []), (.aload_n 0, 1, 0, 0, 0, 0, []), (.getfield 24, 3, 0, 10, 2, 0, []), (.iload_n 2, 1, 0, 2, 0, 0, []), (.invokevirtual 143, 3, 0, 4, 20, 1, []), (.aload_n 0, 1, 0, 0, 0, 0, []), (.getfield 15, 3, 0, 10, 1, 0, []), (.invokevirtual 148, 3, 1, 1, 29, 1, []), (.ifCond .ne 5, 3, 0, 54, 0, 0, []), (.iconst 0, 1, 0, 0, 0, 0, []), (.ireturn, 1, 0, 1, 0, 0, [])]
theorem k_X10_readRule_19 : zk_ckb 10 false (zk_m 111) B_X10_readRule_19 19 = true := by decide +kernel
def B_X10_readRule_54 : List zk_I := [(.aload_n 1, 1, 0, 1, 0, 0, []), (.getfield 137, 3, 0, 9, 9, 0, []), (.iload_n 2, 1, 0, 2, 0, 0, []), (.aload_n 0, 1, 0, 0, 0, 0, []), (.getfield 24, 3, 0, 10, 2, 0, []), (.iastore, 1, 0, 0, 0, 0, []), (.aload_n 1, 1, 0, 1, 0, 0, []), (.getfield 151, 3, 0, 9, 10, 0, []), (.iload_n 2, 1, 0, 2, 0, 0, []), (.aload_n 0, 1, 0, 0, 0, 0, []), (.getfield 15, 3, 0, 10, 1, 0, []), (.getfield 154, 3, 0, 1, 3, 0, []), (.iastore, 1, 0, 0, 0, 0, []), (.aload_n 0, 1, 0, 0, 0, 0, []), (.aload_n 0, 1, 0, 0, 0, 0, []), (.getfield 15, 3, 0, 10, 1, 0, []), (.getfield 154, 3, 0, 1, 3, 0, []), (.putfield 24, 3, 0, 10, 2, 0, []), (.iconst 1, 1, 1, 0, 0, 0, []), (.ireturn, 1, 0, 1, 0, 0, [])]
theorem k_X10_readRule_54 : zk_ckb 10 false (zk_m 111) B_X10_readRule_54 54 = true := by decide +kernel
def B_X10_readPerson_0 : List zk_I := [(.aload_n 1, 1, 0, 1, 0, 0, []), (.getfield 113, 3, 0, 9, 1, 0, []), (.getfield 74, 3, 0, 4, 2, 0, []), (.istore_n 2, 1, 0, 2, 0, 0, []), (.aload_n 0, 1, 0, 0, 0, 0, []), (.aload_n 1, 1, 0, 1, 0, 0, []), (.aload_n 1, 1, 0, 1, 0, 0, []), (.getfield 113, 3, 0, 9, 1, 0, []), (.invokevirtual 55, 3, 0, 3, 104, 10, []), (.ifCond .eq 16, 3, 0, 33, 0, 0, []), (.aload_n 0, 1, 0, 0, 0, 0, []), (.getfield 9, 3, 0, 10, 0, 0, []), (.sipush 304, 3, 304, 0, 0, 0, []), (.invokevirtual 40, 3, 0, 2, 93, 8, []), (.ifCond .ne 5, 3, 0, 35, 0, 0, [])]
theorem k_X10_readPerson_0 : zk_ckb 10 false (zk_m 107) B_X10_readPerson_0 0 = true := by decide +kernel
def B_X10_readPerson_33 : List zk_I := [(.iconst 0, 1, 0, 0, 0, 0, []), (.ireturn, 1, 0, 1, 0, 0, [])]
theorem k_X10_readPerson_33 : zk_ckb 10 false (zk_m 107) B_X10_readPerson_33 33 = true := by decide +kernel
def B_X10_readPerson_35 : List zk_I := [(.aload_n 0, 1, 0, 0, 0, 0, []), (.aload_n 1, 1, 0, 1, 0, 0, []), (.getfield 51, 3, 0, 9, 0, 0, []), (.iconst 0, 1, 0, 0, 0, 0, []), (.invokevirtual 101, 3, 0, 3, 105, 10, []), (.istore_n 3, 1, 0, 3, 0, 0, []), (.iload_n 3, 1, 0, 3, 0, 0, []), (.iconst (-1), 1, (-1), 0, 0, 0, []), (.if_icmp .eq 9, 3, 0, 56, 0, 0, []), (.iload_n 2, 1, 0, 2, 0, 0, []), (.bipush 6, 2, 6, 0, 0, 0, []), (.if_icmp .lt 5, 3, 0, 58, 0, 0, [])]
theorem k_X10_readPerson_35 : zk_ckb 10 false (zk_m 107) B_X10_readPerson_35 35 = true := by decide +kernel
def B_X10_readPerson_56 : List zk_I := [(.iconst 0, 1, 0, 0, 0, 0, []), (.ireturn, 1, 0, 1, 0, 0, [])]
theorem k_X10_readPerson_56 : zk_ckb 10 false (zk_m 107) B_X10_readPerson_56 56 = true := by decide +kernel
def B_X10_readPerson_58 : List zk_I := [(.aload_n 1, 1, 0, 1, 0, 0, []), (.getfield 116, 3, 0, 9, 4, 0, []), (.iload_n 2, 1, 0, 2, 0, 0, []), (.iload_n 3, 1, 0, 3, 0, 0, []), (.iastore, 1, 0, 0, 0, 0, []), (.iconst 1, 1, 1, 0, 0, 0, []), (.ireturn, 1, 0, 1, 0, 0, [])]
theorem k_X10_readPerson_58 : zk_ckb 10 false (zk_m 107) B_X10_readPerson_58 58 = true := by decide +kernel
def B_X10_readThing_0 : List zk_I := [(.aload_n 1, 1, 0, 1, 0, 0, []), (.getfield 119, 3, 0, 9, 2, 0, []), (.getfield 74, 3, 0, 4, 2, 0, []), (.istore_n 2, 1, 0, 2, 0, 0, []), (.aload_n 0, 1, 0, 0, 0, 0, []), (.aload_n 1, 1, 0, 1, 0, 0, []), (.aload_n 1, 1, 0, 1, 0, 0, []), (.getfield 119, 3, 0, 9, 2, 0, []), (.invokevirtual 55, 3, 0, 3, 104, 10, []), (.ifCond .eq 16, 3, 0, 33, 0, 0, []), (.aload_n 0, 1, 0, 0, 0, 0, []), (.getfield 9, 3, 0, 10, 0, 0, []), (.sipush 306, 3, 306, 0, 0, 0, []), (.invokevirtual 40, 3, 0, 2, 93, 8, []), (.ifCond .ne 5, 3, 0, 35, 0, 0, [])]
theorem k_X10_readThing_0 : zk_ckb 10 false (zk_m 108) B_X10_readThing_0 0 = true := by decide +kernel
def B_X10_readThing_33 : List zk_I := [(.iconst 0, 1, 0, 0, 0, 0, []), (.ireturn, 1, 0, 1, 0, 0, [])]
theorem k_X10_readThing_33 : zk_ckb 10 false (zk_m 108) B_X10_readThing_33 33 = true := by decide +kernel
def B_X10_readThing_35 : List zk_I := [(.aload_n 0, 1, 0, 0, 0, 0, []), (.getfield 9, 3, 0, 10, 0, 0, []), (.iconst 1, 1, 1, 0, 0, 0, []), (.bipush 9, 2, 9, 0, 0, 0, []), (.invokevirtual 105, 3, 0, 3, 96, 8, []), (.istore_n 3, 1, 0, 3, 0, 0, []), (.iload_n 3, 1, 0, 3, 0, 0, []), (.iconst (-1), 1, (-1), 0, 0, 0, []), (.if_icmp .eq 9, 3, 0, 57, 0, 0, []), (.iload_n 2, 1, 0, 2, 0, 0, []), (.bipush 10, 2, 10, 0, 0, 0, []), (.if_icmp .lt 5, 3, 0, 59, 0, 0, [])]
theorem k_X10_readThing_35 : zk_ckb 10 false (zk_m 108) B_X10_readThing_35 35 = true := by decide +kernel
def B_X10_readThing_57 : List zk_I := [(.iconst 0, 1, 0, 0, 0, 0, []), (.ireturn, 1, 0, 1, 0, 0, [])]
theorem k_X10_readThing_57 : zk_ckb 10 false (zk_m 108) B_X10_readThing_57 57 = true := by decide +kernel
def B_X10_readThing_59 : List zk_I := [(.aload_n 1, 1, 0, 1, 0, 0, []), (.getfield 122, 3, 0, 9, 5, 0, []), (.iload_n 2, 1, 0, 2, 0, 0, []), (.iload_n 3, 1, 0, 3, 0, 0, []), (.iastore, 1, 0, 0, 0, 0, []), (.aload_n 1, 1, 0, 1, 0, 0, []), (.getfield 125, 3, 0, 9, 6, 0, []), (.iload_n 2, 1, 0, 2, 0, 0, []), (.iconst 0, 1, 0, 0, 0, 0, []), (.iastore, 1, 0, 0, 0, 0, []), (.aload_n 0, 1, 0, 0, 0, 0, []), (.getfield 9, 3, 0, 10, 0, 0, []), (.sipush 307, 3, 307, 0, 0, 0, []), (.invokevirtual 128, 3, 0, 2, 92, 8, []), (.ifCond .eq 12, 3, 0, 95, 0, 0, []), (.aload_n 0, 1, 0, 0, 0, 0, []), (.aload_n 1, 1, 0, 1, 0, 0, []), (.iload_n 2, 1, 0, 2, 0, 0, []), (.invokevirtual 131, 3, 0, 3, 109, 10, []), (.ifCond .eq 7, 3, 0, 99, 0, 0, [])]
theorem k_X10_readThing_59 : zk_ckb 10 false (zk_m 108) B_X10_readThing_59 59 = true := by decide +kernel
def B_X10_readThing_95 : List zk_I := [(.iconst 1, 1, 1, 0, 0, 0, []), (.goto 4, 3, 0, 100, 0, 0, [])]
theorem k_X10_readThing_95 : zk_ckb 10 false (zk_m 108) B_X10_readThing_95 95 = true := by decide +kernel
def B_X10_readThing_99 : List zk_I := [(.iconst 0, 1, 0, 0, 0, 0, [])]
theorem k_X10_readThing_99 : zk_ckb 10 false (zk_m 108) B_X10_readThing_99 99 = true := by decide +kernel
def B_X10_readThing_100 : List zk_I := [(.ireturn, 1, 0, 1, 0, 0, [])]
theorem k_X10_readThing_100 : zk_ckb 10 false (zk_m 108) B_X10_readThing_100 100 = true := by decide +kernel
def B_X10_readRoots_0 : List zk_I := [(.iconst 0, 1, 0, 0, 0, 0, []), (.istore_n 3, 1, 0, 3, 0, 0, []), (.iconst 0, 1, 0, 0, 0, 0, []), (.istore 4, 2, 0, 4, 0, 0, [])]
theorem k_X10_readRoots_0 : zk_ckb 10 false (zk_m 109) B_X10_readRoots_0 0 = true := by decide +kernel
def B_X10_readRoots_5 : List zk_I := [(.iload 4, 2, 0, 4, 0, 0, []), (.bipush 10, 2, 10, 0, 0, 0, []), (.if_icmp .ge 54, 3, 0, 63, 0, 0, []), (.aload_n 0, 1, 0, 0, 0, 0, []), (.aload_n 1, 1, 0, 1, 0, 0, []), (.getfield 119, 3, 0, 9, 2, 0, []), (.iload_n 3, 1, 0, 3, 0, 0, []), (.iconst 1, 1, 1, 0, 0, 0, []), (.iload_n 2, 1, 0, 2, 0, 0, []), (.ishl, 1, 0, 0, 0, 0, []), (.ior, 1, 0, 0, 0, 0, []), (.invokevirtual 101, 3, 0, 3, 105, 10, []), (.istore 5, 2, 0, 5, 0, 0, []), (.iload 5, 2, 0, 5, 0, 0, []), (.iconst (-1), 1, (-1), 0, 0, 0, []), (.if_icmp .ne 5, 3, 0, 35, 0, 0, []), (.iconst 0, 1, 0, 0, 0, 0, []), (.ireturn, 1, 0, 1, 0, 0, [])]
theorem k_X10_readRoots_5 : zk_ckb 10 false (zk_m 109) B_X10_readRoots_5 5 = true := by decide +kernel
def B_X10_readRoots_35 : List zk_I := [(.iload_n 3, 1, 0, 3, 0, 0, []), (.iconst 1, 1, 1, 0, 0, 0, []), (.iload 5, 2, 0, 5, 0, 0, []), (.ishl, 1, 0, 0, 0, 0, []), (.ior, 1, 0, 0, 0, 0, []), (.istore_n 3, 1, 0, 3, 0, 0, []), (.aload_n 0, 1, 0, 0, 0, 0, []), (.getfield 9, 3, 0, 10, 0, 0, []), (.getfield 33, 3, 0, 8, 1, 0, []), (.bipush 59, 2, 59, 0, 0, 0, []), (.if_icmp .ne 6, 3, 0, 57, 0, 0, []), (.goto 9, 3, 0, 63, 0, 0, [])]
theorem k_X10_readRoots_35 : zk_ckb 10 false (zk_m 109) B_X10_readRoots_35 35 = true := by decide +kernel
def B_X10_readRoots_57 : List zk_I := [(.iinc 4 1, 3, 1, 4, 0, 0, []), (.goto (-55), 3, 0, 5, 0, 0, [])]
theorem k_X10_readRoots_57 : zk_ckb 10 false (zk_m 109) B_X10_readRoots_57 57 = true := by decide +kernel
def B_X10_readRoots_63 : List zk_I := [(.aload_n 1, 1, 0, 1, 0, 0, []), (.getfield 125, 3, 0, 9, 6, 0, []), (.iload_n 2, 1, 0, 2, 0, 0, []), (.iload_n 3, 1, 0, 3, 0, 0, []), (.iastore, 1, 0, 0, 0, 0, []), (.iconst 1, 1, 1, 0, 0, 0, []), (.ireturn, 1, 0, 1, 0, 0, [])]
theorem k_X10_readRoots_63 : zk_ckb 10 false (zk_m 109) B_X10_readRoots_63 63 = true := by decide +kernel
section CS1
variable {G : zk_G} {n : Nat} {M : zk_MI} {L : zk_ML} {P : zk_MP}
theorem ct_fbegin (hn : 154 ≤ n) (hP : zs_X P) (qs : Nat) (x y : Int32) : zk_C G 0 20 [.ref 8, .ref qs, .int x, .int y] n M L P n (zk_same none (zk_up (zk_up (zk_up M 8 3 x) 8 4 y) 8 5 0) L (zk_up P 8 2 (some qs))) := by
  refine zk_meth (ow := 1) (kind := 1) (k := 3) (nL := 4) (ct := false) (l0 := [.ref 8, .ref qs, .int x, .int y]) (by decide +kernel) (fun h => by cases h) (by decide +kernel) (by decide) (by decide) (fun h => absurd h (by decide)) (Nat.le_of_ble_eq_true rfl) rfl (by omega) (fun Z hZ => ?_)
  have ho := zo_X hn
  have hP2 := hP
  unfold zs_X at hP2
  refine hZ B_X1_begin_0 _ _ _ _ _ _ _ k_X1_begin_0 ?_
  simp only [B_X1_begin_0, zk_ldi_s, zk_ldl_s, zk_lda_r, zk_lda_a, zk_lda_n, zk_iv_s, zr_nil, zr_cons, zp_0, zp_s, zt_0, zt_s, zt2_0, zt2_s, zw_iconst, zw_bipush, zw_sipush, zw_lconst, zw_ldcs, zw_ldc, zw_ldcw, zw_ldc2, zw_iload_n, zw_lload_n, zw_aload_n, zw_istore_n, zw_lstore_n, zw_astore_n, zw_astoreN_n, zw_iload, zw_lload, zw_aload, zw_istore, zw_lstore, zw_astore, zw_astoreN, zw_iinc, zw_iadd, zw_isub, zw_imul, zw_iand, zw_ior, zw_ixor, zw_ishl, zw_ishr, zw_iushr, zw_idiv, zw_irem, zw_ladd, zw_lsub, zw_lmul, zw_land, zw_ldiv, zw_lrem, zw_lcmp, zw_i2l, zw_l2i, zw_dup, zw_pop, zw_dup2i, zw_goto, zw_if_eq, zw_if_ne, zw_if_lt, zw_if_ge, zw_if_gt, zw_if_le, zw_ic_eq, zw_ic_ne, zw_ic_lt, zw_ic_ge, zw_ic_gt, zw_ic_le, zw_ifnn, zw_ifnnN, zw_tsw, zw_lsw, zw_getf_l, zw_getf_r, zw_getf_i, zw_getf_z, zw_putf_i, zw_putf_z, zw_putf_l, zw_putf_r, zw_iaload, zw_caload, zw_laload, zw_aaload, zw_iastore, zw_castore, zw_lastore, zw_aastore, zw_alen, zw_newa, zw_newq, zw_new, zw_oini, zw_invs, zw_invv, zw_copy, zw_invt, zw_iret, zw_lret, zw_ret, zc_r, zc_a, zk_rvs, zk_cat2, List.getElem?_cons_zero, List.getElem?_cons_succ, Bool.false_eq_true, and_false, false_and, and_true, true_and, reduceIte, Nat.reduceEqDiff, Nat.reduceLT, Nat.reduceAdd, List.cons_append, List.nil_append, Option.toList_some, Option.toList_none, zk_cat_i, zk_cat_r, zk_cat_n, zk_same, Option.some.injEq, Value.int.injEq, Value.long.injEq, eq_self, false_implies, true_implies, zf_1, ho, hP2, zl_X, zc_n10, zc_cl, zc_in, not_true_eq_false, not_false_eq_true]
theorem ct_readRule (hJ : zk_JS G) (hn : 154 ≤ n) (hP : zs_X P) {v w : Nat} (hv : zv_ok n P v) (hv0 : 49 ≤ v) {D : vs_D} (hD : zv_D M v D w) {f : Nat → Nat} {T p : Nat} (h : zt_at M f T p) (hwp : w ≤ p) (hk : tkK f T p ≠ -1) (k : Nat) (hk4 : k < 4) : zk_C G 40 111 [.ref 10, .ref v, .int (nI k)] n M L P n (fun r M' L' P' => L' = L ∧ zPf P P' ∧ zvR M M' f T v r (vs_rule f T D k p)) := by
  have hpos := tkK_pos (f := f) h.2.2.1 hk
  obtain ⟨o0, o1, o2, o3, o4, o5, o6, o7, o8, o9, o10, o11, o12, o13, o14, l2, l4, l6, l7, l8, l9, l10, l11, l12, l13, l14, p0, p1, p2, p3, p4, p5, p6, p7, p8, p9, p10, a1, a3, a5⟩ := hv
  generalize hres : vs_rule f T D k p = R
  unfold vs_rule at hres
  have hrl := hD.1.2.2.2.2.2.2.1 k hk4
  refine zk_meth (ow := 10) (kind := 1) (k := 2) (nL := 3) (ct := false) (l0 := [.ref 10, .ref v, .int (nI k)]) (by decide +kernel) (fun h => by cases h) (by decide +kernel) (by decide) (by decide) (fun h => absurd h (by decide)) (Nat.le_of_ble_eq_true rfl) rfl (by omega) (fun Z hZ => ?_)
  have ho := zo_X hn
  have hP2 := hP
  unfold zs_X at hP2
  cases hq : vRl D.1 k with
  | some cs =>
    rw [hq] at hrl hres
    obtain ⟨fr, f1, f2, f3, f4⟩ := hrl
    have e1 : (nI fr = (-1 : Int32)) = False := eq_false (zn_nm1 (by omega))
    refine hZ B_X10_readRule_0 _ _ _ _ _ _ _ k_X10_readRule_0 ?_
    simp only [B_X10_readRule_0, zk_ldi_s, zk_ldl_s, zk_lda_r, zk_lda_a, zk_lda_n, zk_iv_s, zr_nil, zr_cons, zp_0, zp_s, zt_0, zt_s, zt2_0, zt2_s, zw_iconst, zw_bipush, zw_sipush, zw_lconst, zw_ldcs, zw_ldc, zw_ldcw, zw_ldc2, zw_iload_n, zw_lload_n, zw_aload_n, zw_istore_n, zw_lstore_n, zw_astore_n, zw_astoreN_n, zw_iload, zw_lload, zw_aload, zw_istore, zw_lstore, zw_astore, zw_astoreN, zw_iinc, zw_iadd, zw_isub, zw_imul, zw_iand, zw_ior, zw_ixor, zw_ishl, zw_ishr, zw_iushr, zw_idiv, zw_irem, zw_ladd, zw_lsub, zw_lmul, zw_land, zw_ldiv, zw_lrem, zw_lcmp, zw_i2l, zw_l2i, zw_dup, zw_pop, zw_dup2i, zw_goto, zw_if_eq, zw_if_ne, zw_if_lt, zw_if_ge, zw_if_gt, zw_if_le, zw_ic_eq, zw_ic_ne, zw_ic_lt, zw_ic_ge, zw_ic_gt, zw_ic_le, zw_ifnn, zw_ifnnN, zw_tsw, zw_lsw, zw_getf_l, zw_getf_r, zw_getf_i, zw_getf_z, zw_putf_i, zw_putf_z, zw_putf_l, zw_putf_r, zw_iaload, zw_caload, zw_laload, zw_aaload, zw_iastore, zw_castore, zw_lastore, zw_aastore, zw_alen, zw_newa, zw_newq, zw_new, zw_oini, zw_invs, zw_invv, zw_copy, zw_invt, zw_iret, zw_lret, zw_ret, zc_r, zc_a, zk_rvs, zk_cat2, List.getElem?_cons_zero, List.getElem?_cons_succ, Bool.false_eq_true, and_false, false_and, and_true, true_and, reduceIte, Nat.reduceEqDiff, Nat.reduceLT, Nat.reduceAdd, List.cons_append, List.nil_append, Option.toList_some, Option.toList_none, zk_cat_i, zk_cat_r, zk_cat_n, zk_same, Option.some.injEq, Value.int.injEq, Value.long.injEq, eq_self, false_implies, true_implies, zf_1, zf_9, zf_10, ho, hP2, zl_X, zc_n10, zc_cl, zc_in, not_true_eq_false, not_false_eq_true, o0, p9, o13, l13, nI_clamp (show k < 2 ^ 31 by omega), vp_in_nI hk4 (by omega), f1, e1]
    rw [show (5 : Int32) = nI 5 from rfl]
    refine zk_callS (ct_refuseHere hn hP h 5) (by first | decide | omega) (Nat.le_refl _) (Nat.le_of_ble_eq_true rfl) ?_
    simp only [zk_ldi_s, zk_ldl_s, zk_lda_r, zk_lda_a, zk_lda_n, zk_iv_s, zr_nil, zr_cons, zp_0, zp_s, zt_0, zt_s, zt2_0, zt2_s, zw_iconst, zw_bipush, zw_sipush, zw_lconst, zw_ldcs, zw_ldc, zw_ldcw, zw_ldc2, zw_iload_n, zw_lload_n, zw_aload_n, zw_istore_n, zw_lstore_n, zw_astore_n, zw_astoreN_n, zw_iload, zw_lload, zw_aload, zw_istore, zw_lstore, zw_astore, zw_astoreN, zw_iinc, zw_iadd, zw_isub, zw_imul, zw_iand, zw_ior, zw_ixor, zw_ishl, zw_ishr, zw_iushr, zw_idiv, zw_irem, zw_ladd, zw_lsub, zw_lmul, zw_land, zw_ldiv, zw_lrem, zw_lcmp, zw_i2l, zw_l2i, zw_dup, zw_pop, zw_dup2i, zw_goto, zw_if_eq, zw_if_ne, zw_if_lt, zw_if_ge, zw_if_gt, zw_if_le, zw_ic_eq, zw_ic_ne, zw_ic_lt, zw_ic_ge, zw_ic_gt, zw_ic_le, zw_ifnn, zw_ifnnN, zw_tsw, zw_lsw, zw_getf_l, zw_getf_r, zw_getf_i, zw_getf_z, zw_putf_i, zw_putf_z, zw_putf_l, zw_putf_r, zw_iaload, zw_caload, zw_laload, zw_aaload, zw_iastore, zw_castore, zw_lastore, zw_aastore, zw_alen, zw_newa, zw_newq, zw_new, zw_oini, zw_invs, zw_invv, zw_copy, zw_invt, zw_iret, zw_lret, zw_ret, zc_r, zc_a, zk_rvs, zk_cat2, List.getElem?_cons_zero, List.getElem?_cons_succ, Bool.false_eq_true, and_false, false_and, and_true, true_and, reduceIte, Nat.reduceEqDiff, Nat.reduceLT, Nat.reduceAdd, List.cons_append, List.nil_append, Option.toList_some, Option.toList_none, zk_cat_i, zk_cat_r, zk_cat_n, zk_same, Option.some.injEq, Value.int.injEq, Value.long.injEq, eq_self, false_implies, true_implies, zf_1, zf_9, zf_10, ho, hP2, zl_X, zc_n10, zc_cl, zc_in, not_true_eq_false, not_false_eq_true]
    rw [← hres]
    exact ⟨Or.inl rfl, zPf_rf P, zvR_bad hv0 (zv_W_D hD) zfv_rf rfl⟩
  | none =>
    rw [hq] at hrl hres
    simp only at hres
    have e1 : M (v + 13) k = -1 := hrl
    refine hZ B_X10_readRule_0 _ _ _ _ _ _ _ k_X10_readRule_0 ?_
    simp only [B_X10_readRule_0, zk_ldi_s, zk_ldl_s, zk_lda_r, zk_lda_a, zk_lda_n, zk_iv_s, zr_nil, zr_cons, zp_0, zp_s, zt_0, zt_s, zt2_0, zt2_s, zw_iconst, zw_bipush, zw_sipush, zw_lconst, zw_ldcs, zw_ldc, zw_ldcw, zw_ldc2, zw_iload_n, zw_lload_n, zw_aload_n, zw_istore_n, zw_lstore_n, zw_astore_n, zw_astoreN_n, zw_iload, zw_lload, zw_aload, zw_istore, zw_lstore, zw_astore, zw_astoreN, zw_iinc, zw_iadd, zw_isub, zw_imul, zw_iand, zw_ior, zw_ixor, zw_ishl, zw_ishr, zw_iushr, zw_idiv, zw_irem, zw_ladd, zw_lsub, zw_lmul, zw_land, zw_ldiv, zw_lrem, zw_lcmp, zw_i2l, zw_l2i, zw_dup, zw_pop, zw_dup2i, zw_goto, zw_if_eq, zw_if_ne, zw_if_lt, zw_if_ge, zw_if_gt, zw_if_le, zw_ic_eq, zw_ic_ne, zw_ic_lt, zw_ic_ge, zw_ic_gt, zw_ic_le, zw_ifnn, zw_ifnnN, zw_tsw, zw_lsw, zw_getf_l, zw_getf_r, zw_getf_i, zw_getf_z, zw_putf_i, zw_putf_z, zw_putf_l, zw_putf_r, zw_iaload, zw_caload, zw_laload, zw_aaload, zw_iastore, zw_castore, zw_lastore, zw_aastore, zw_alen, zw_newa, zw_newq, zw_new, zw_oini, zw_invs, zw_invv, zw_copy, zw_invt, zw_iret, zw_lret, zw_ret, zc_r, zc_a, zk_rvs, zk_cat2, List.getElem?_cons_zero, List.getElem?_cons_succ, Bool.false_eq_true, and_false, false_and, and_true, true_and, reduceIte, Nat.reduceEqDiff, Nat.reduceLT, Nat.reduceAdd, List.cons_append, List.nil_append, Option.toList_some, Option.toList_none, zk_cat_i, zk_cat_r, zk_cat_n, zk_same, Option.some.injEq, Value.int.injEq, Value.long.injEq, eq_self, false_implies, true_implies, zf_1, zf_9, zf_10, ho, hP2, zl_X, zc_n10, zc_cl, zc_in, not_true_eq_false, not_false_eq_true, o0, p9, o13, l13, nI_clamp (show k < 2 ^ 31 by omega), vp_in_nI hk4 (by omega), e1]
    refine hZ B_X10_readRule_19 _ _ _ _ _ _ _ k_X10_readRule_19 ?_
    simp only [B_X10_readRule_19, zk_ldi_s, zk_ldl_s, zk_lda_r, zk_lda_a, zk_lda_n, zk_iv_s, zr_nil, zr_cons, zp_0, zp_s, zt_0, zt_s, zt2_0, zt2_s, zw_iconst, zw_bipush, zw_sipush, zw_lconst, zw_ldcs, zw_ldc, zw_ldcw, zw_ldc2, zw_iload_n, zw_lload_n, zw_aload_n, zw_istore_n, zw_lstore_n, zw_astore_n, zw_astoreN_n, zw_iload, zw_lload, zw_aload, zw_istore, zw_lstore, zw_astore, zw_astoreN, zw_iinc, zw_iadd, zw_isub, zw_imul, zw_iand, zw_ior, zw_ixor, zw_ishl, zw_ishr, zw_iushr, zw_idiv, zw_irem, zw_ladd, zw_lsub, zw_lmul, zw_land, zw_ldiv, zw_lrem, zw_lcmp, zw_i2l, zw_l2i, zw_dup, zw_pop, zw_dup2i, zw_goto, zw_if_eq, zw_if_ne, zw_if_lt, zw_if_ge, zw_if_gt, zw_if_le, zw_ic_eq, zw_ic_ne, zw_ic_lt, zw_ic_ge, zw_ic_gt, zw_ic_le, zw_ifnn, zw_ifnnN, zw_tsw, zw_lsw, zw_getf_l, zw_getf_r, zw_getf_i, zw_getf_z, zw_putf_i, zw_putf_z, zw_putf_l, zw_putf_r, zw_iaload, zw_caload, zw_laload, zw_aaload, zw_iastore, zw_castore, zw_lastore, zw_aastore, zw_alen, zw_newa, zw_newq, zw_new, zw_oini, zw_invs, zw_invv, zw_copy, zw_invt, zw_iret, zw_lret, zw_ret, zc_r, zc_a, zk_rvs, zk_cat2, List.getElem?_cons_zero, List.getElem?_cons_succ, Bool.false_eq_true, and_false, false_and, and_true, true_and, reduceIte, Nat.reduceEqDiff, Nat.reduceLT, Nat.reduceAdd, List.cons_append, List.nil_append, Option.toList_some, Option.toList_none, zk_cat_i, zk_cat_r, zk_cat_n, zk_same, Option.some.injEq, Value.int.injEq, Value.long.injEq, eq_self, false_implies, true_implies, zf_1, zf_9, zf_10, ho, hP2, zl_X, zc_n10, zc_cl, zc_in, not_true_eq_false, not_false_eq_true]
    refine zk_callI (ct_nextA hJ hn hP h) (by first | decide | omega) (Nat.le_refl _) (Nat.le_of_ble_eq_true rfl) (fun r M1 L9 P9 hpost => ?_)
    obtain ⟨hr9, hL9, hP9, k1, k2, k3⟩ := hpost
    subst hr9
    have hL8 := hL9.symm
    have hP8 := hP9.symm
    clear hL9 hP9
    subst hL8
    subst hP8
    have D1 := zv_D_7 hv0 hD k2
    have w1 : M1 10 2 = nI w := D1.2.2.2.2.2.1
    simp only [zk_ldi_s, zk_ldl_s, zk_lda_r, zk_lda_a, zk_lda_n, zk_iv_s, zr_nil, zr_cons, zp_0, zp_s, zt_0, zt_s, zt2_0, zt2_s, zw_iconst, zw_bipush, zw_sipush, zw_lconst, zw_ldcs, zw_ldc, zw_ldcw, zw_ldc2, zw_iload_n, zw_lload_n, zw_aload_n, zw_istore_n, zw_lstore_n, zw_astore_n, zw_astoreN_n, zw_iload, zw_lload, zw_aload, zw_istore, zw_lstore, zw_astore, zw_astoreN, zw_iinc, zw_iadd, zw_isub, zw_imul, zw_iand, zw_ior, zw_ixor, zw_ishl, zw_ishr, zw_iushr, zw_idiv, zw_irem, zw_ladd, zw_lsub, zw_lmul, zw_land, zw_ldiv, zw_lrem, zw_lcmp, zw_i2l, zw_l2i, zw_dup, zw_pop, zw_dup2i, zw_goto, zw_if_eq, zw_if_ne, zw_if_lt, zw_if_ge, zw_if_gt, zw_if_le, zw_ic_eq, zw_ic_ne, zw_ic_lt, zw_ic_ge, zw_ic_gt, zw_ic_le, zw_ifnn, zw_ifnnN, zw_tsw, zw_lsw, zw_getf_l, zw_getf_r, zw_getf_i, zw_getf_z, zw_putf_i, zw_putf_z, zw_putf_l, zw_putf_r, zw_iaload, zw_caload, zw_laload, zw_aaload, zw_iastore, zw_castore, zw_lastore, zw_aastore, zw_alen, zw_newa, zw_newq, zw_new, zw_oini, zw_invs, zw_invv, zw_copy, zw_invt, zw_iret, zw_lret, zw_ret, zc_r, zc_a, zk_rvs, zk_cat2, List.getElem?_cons_zero, List.getElem?_cons_succ, Bool.false_eq_true, and_false, false_and, and_true, true_and, reduceIte, Nat.reduceEqDiff, Nat.reduceLT, Nat.reduceAdd, List.cons_append, List.nil_append, Option.toList_some, Option.toList_none, zk_cat_i, zk_cat_r, zk_cat_n, zk_same, Option.some.injEq, Value.int.injEq, Value.long.injEq, eq_self, false_implies, true_implies, zf_1, zf_9, zf_10, ho, hP2, zl_X, zc_n10, zc_cl, zc_in, not_true_eq_false, not_false_eq_true, o0, p8, o12, w1]
    refine zk_callS (ct_fbegin hn hP (v + 12) (nI w) (nI k)) (by first | decide | omega) (Nat.le_refl _) (Nat.le_of_ble_eq_true rfl) ?_
    generalize hP1 : zk_up P 8 2 (some (v + 12)) = P1
    have hPf : zPf P P1 := ⟨fun q hq => by rw [← hP1, zk_up_row hq], fun j hj => by rw [← hP1, zk_up_ne (by omega)]⟩
    have hX1 := zs_X_pf hPf hP
    generalize hM2 : zk_up (zk_up (zk_up M1 8 3 (nI w)) 8 4 (nI k)) 8 5 0 = M2
    have m0 : ∀ q, q ≠ 8 → M2 q = M1 q := fun q hq => by rw [← hM2, zk_up_row hq, zk_up_row hq, zk_up_row hq]
    have m3 : M2 8 3 = nI w := by rw [← hM2, zk_up_ne (by decide), zk_up_ne (by decide)]; exact zk_up_at
    have m4 : M2 8 4 = nI k := by rw [← hM2, zk_up_ne (by decide)]; exact zk_up_at
    have m5 : M2 8 5 = nI 0 := by rw [← hM2]; exact zk_up_at
    have hS : zfS n P1 (v + 12) := ⟨by rw [← hP1]; exact zk_up_at, o12, l12, by omega, by omega, by omega, by omega⟩
    have hpre : zfP M2 f T k (v + 12) w 0 (tkE f T p) := ⟨zt_at_cg k1 (m0 5 (by decide)) (m0 6 (by decide)) (m0 7 (by decide)), m3, m4, m5, by omega⟩
    have hlev := (ct_lev (G := G) (L := L) hJ hn hX1 (f := f) (T := T) (sort := k) hS (by omega) 6 (Nat.le_refl _)).2 M2 w (tkE f T p) hpre
    have hP3 := hX1
    unfold zs_X at hP3
    simp only [zk_ldi_s, zk_ldl_s, zk_lda_r, zk_lda_a, zk_lda_n, zk_iv_s, zr_nil, zr_cons, zp_0, zp_s, zt_0, zt_s, zt2_0, zt2_s, zw_iconst, zw_bipush, zw_sipush, zw_lconst, zw_ldcs, zw_ldc, zw_ldcw, zw_ldc2, zw_iload_n, zw_lload_n, zw_aload_n, zw_istore_n, zw_lstore_n, zw_astore_n, zw_astoreN_n, zw_iload, zw_lload, zw_aload, zw_istore, zw_lstore, zw_astore, zw_astoreN, zw_iinc, zw_iadd, zw_isub, zw_imul, zw_iand, zw_ior, zw_ixor, zw_ishl, zw_ishr, zw_iushr, zw_idiv, zw_irem, zw_ladd, zw_lsub, zw_lmul, zw_land, zw_ldiv, zw_lrem, zw_lcmp, zw_i2l, zw_l2i, zw_dup, zw_pop, zw_dup2i, zw_goto, zw_if_eq, zw_if_ne, zw_if_lt, zw_if_ge, zw_if_gt, zw_if_le, zw_ic_eq, zw_ic_ne, zw_ic_lt, zw_ic_ge, zw_ic_gt, zw_ic_le, zw_ifnn, zw_ifnnN, zw_tsw, zw_lsw, zw_getf_l, zw_getf_r, zw_getf_i, zw_getf_z, zw_putf_i, zw_putf_z, zw_putf_l, zw_putf_r, zw_iaload, zw_caload, zw_laload, zw_aaload, zw_iastore, zw_castore, zw_lastore, zw_aastore, zw_alen, zw_newa, zw_newq, zw_new, zw_oini, zw_invs, zw_invv, zw_copy, zw_invt, zw_iret, zw_lret, zw_ret, zc_r, zc_a, zk_rvs, zk_cat2, List.getElem?_cons_zero, List.getElem?_cons_succ, Bool.false_eq_true, and_false, false_and, and_true, true_and, reduceIte, Nat.reduceEqDiff, Nat.reduceLT, Nat.reduceAdd, List.cons_append, List.nil_append, Option.toList_some, Option.toList_none, zk_cat_i, zk_cat_r, zk_cat_n, zk_same, Option.some.injEq, Value.int.injEq, Value.long.injEq, eq_self, false_implies, true_implies, zf_1, zf_9, zf_10, ho, hP2, zl_X, zc_n10, zc_cl, zc_in, not_true_eq_false, not_false_eq_true, hP3]
    refine zk_callI (hlev) (by first | decide | omega) (Nat.le_refl _) (Nat.le_of_ble_eq_true rfl) (fun r M3 L9 P9 hpost => ?_)
    obtain ⟨hL9, hP9, x3⟩ := hpost
    have hL8 := hL9.symm
    have hP8 := hP9.symm
    clear hL9 hP9
    subst hL8
    subst hP8
    have D2 : zv_D M2 v D w := zv_D_fr D1 (fun q _ _ => m0 q (by omega)) (by rw [m0 10 (by decide)])
    rcases hx : (rd_lev f T k 6).2 (tkE f T p) with ⟨k', pl⟩ | ⟨p', cs⟩
    · rw [hx] at x3 hres
      obtain ⟨rfl, y1, y2, y3⟩ := x3
      simp only [zk_ldi_s, zk_ldl_s, zk_lda_r, zk_lda_a, zk_lda_n, zk_iv_s, zr_nil, zr_cons, zp_0, zp_s, zt_0, zt_s, zt2_0, zt2_s, zw_iconst, zw_bipush, zw_sipush, zw_lconst, zw_ldcs, zw_ldc, zw_ldcw, zw_ldc2, zw_iload_n, zw_lload_n, zw_aload_n, zw_istore_n, zw_lstore_n, zw_astore_n, zw_astoreN_n, zw_iload, zw_lload, zw_aload, zw_istore, zw_lstore, zw_astore, zw_astoreN, zw_iinc, zw_iadd, zw_isub, zw_imul, zw_iand, zw_ior, zw_ixor, zw_ishl, zw_ishr, zw_iushr, zw_idiv, zw_irem, zw_ladd, zw_lsub, zw_lmul, zw_land, zw_ldiv, zw_lrem, zw_lcmp, zw_i2l, zw_l2i, zw_dup, zw_pop, zw_dup2i, zw_goto, zw_if_eq, zw_if_ne, zw_if_lt, zw_if_ge, zw_if_gt, zw_if_le, zw_ic_eq, zw_ic_ne, zw_ic_lt, zw_ic_ge, zw_ic_gt, zw_ic_le, zw_ifnn, zw_ifnnN, zw_tsw, zw_lsw, zw_getf_l, zw_getf_r, zw_getf_i, zw_getf_z, zw_putf_i, zw_putf_z, zw_putf_l, zw_putf_r, zw_iaload, zw_caload, zw_laload, zw_aaload, zw_iastore, zw_castore, zw_lastore, zw_aastore, zw_alen, zw_newa, zw_newq, zw_new, zw_oini, zw_invs, zw_invv, zw_copy, zw_invt, zw_iret, zw_lret, zw_ret, zc_r, zc_a, zk_rvs, zk_cat2, List.getElem?_cons_zero, List.getElem?_cons_succ, Bool.false_eq_true, and_false, false_and, and_true, true_and, reduceIte, Nat.reduceEqDiff, Nat.reduceLT, Nat.reduceAdd, List.cons_append, List.nil_append, Option.toList_some, Option.toList_none, zk_cat_i, zk_cat_r, zk_cat_n, zk_same, Option.some.injEq, Value.int.injEq, Value.long.injEq, eq_self, false_implies, true_implies, zf_1, zf_9, zf_10, ho, hP2, zl_X, zc_n10, zc_cl, zc_in, not_true_eq_false, not_false_eq_true, hP3]
      rw [← hres]
      refine ⟨Or.inl rfl, hPf, rfl, y1, y2, fun q a b c d => ?_, ?_⟩
      · rw [y3.1 q a b (by omega), m0 q b, k2 q a]
      · obtain ⟨⟨m1, m2, m3⟩, hm, h4⟩ := zv_W_D D2
        exact ⟨⟨by rw [y3.1 _ (by omega) (by omega) (by omega)]; exact m1, by rw [y3.1 _ (by omega) (by omega) (by omega)]; exact m2, by rw [y3.1 _ (by omega) (by omega) (by omega)]; exact m3⟩, hm, fun i hi => by rw [y3.1 _ (by omega) (by omega) (by omega)]; exact h4 i hi⟩
    · have hrk := (rd_lev_ok f T k 6).2 _ _ _ hpos.2.1 hx
      rw [hx] at x3 hres
      obtain ⟨rfl, y1, y2, y3, y4⟩ := x3
      simp only [vs_b] at hres
      have hT := h.1.2.1
      have z3 : M3 8 3 = nI (w + cs.length) := y2.2.2
      have z10 : M3 10 2 = nI w := by rw [y2.1.1 10 (by decide) (by decide) (by omega), m0 10 (by decide)]; exact w1
      generalize hM4 : zk_up (zk_up (zk_up M3 (v + 13) k (nI w)) (v + 14) k (nI (w + cs.length))) 10 2 (nI (w + cs.length)) = M4
      have u8 : ∀ x, zk_up M3 (v + 13) k x 8 3 = nI (w + cs.length) := fun x => by rw [zk_up_row (by omega)]; exact z3
      have u82 : ∀ x y, zk_up (zk_up M3 (v + 13) k x) (v + 14) k y 8 3 = nI (w + cs.length) := fun x y => by rw [zk_up_row (by omega)]; exact u8 x
      have r4 : ∀ q, q ≠ v + 13 → q ≠ v + 14 → q ≠ 10 → M4 q = M3 q := fun q a b c => by rw [← hM4, zk_up_row c, zk_up_row b, zk_up_row a]
      have r3 : ∀ q, q ≠ 7 → q ≠ 8 → q ≠ v + 12 → M3 q = M1 q := fun q a b c => by rw [y2.1.1 q a b c, m0 q b]
      have hpw : zPf P P1 := hPf
      simp only [zk_ldi_s, zk_ldl_s, zk_lda_r, zk_lda_a, zk_lda_n, zk_iv_s, zr_nil, zr_cons, zp_0, zp_s, zt_0, zt_s, zt2_0, zt2_s, zw_iconst, zw_bipush, zw_sipush, zw_lconst, zw_ldcs, zw_ldc, zw_ldcw, zw_ldc2, zw_iload_n, zw_lload_n, zw_aload_n, zw_istore_n, zw_lstore_n, zw_astore_n, zw_astoreN_n, zw_iload, zw_lload, zw_aload, zw_istore, zw_lstore, zw_astore, zw_astoreN, zw_iinc, zw_iadd, zw_isub, zw_imul, zw_iand, zw_ior, zw_ixor, zw_ishl, zw_ishr, zw_iushr, zw_idiv, zw_irem, zw_ladd, zw_lsub, zw_lmul, zw_land, zw_ldiv, zw_lrem, zw_lcmp, zw_i2l, zw_l2i, zw_dup, zw_pop, zw_dup2i, zw_goto, zw_if_eq, zw_if_ne, zw_if_lt, zw_if_ge, zw_if_gt, zw_if_le, zw_ic_eq, zw_ic_ne, zw_ic_lt, zw_ic_ge, zw_ic_gt, zw_ic_le, zw_ifnn, zw_ifnnN, zw_tsw, zw_lsw, zw_getf_l, zw_getf_r, zw_getf_i, zw_getf_z, zw_putf_i, zw_putf_z, zw_putf_l, zw_putf_r, zw_iaload, zw_caload, zw_laload, zw_aaload, zw_iastore, zw_castore, zw_lastore, zw_aastore, zw_alen, zw_newa, zw_newq, zw_new, zw_oini, zw_invs, zw_invv, zw_copy, zw_invt, zw_iret, zw_lret, zw_ret, zc_r, zc_a, zk_rvs, zk_cat2, List.getElem?_cons_zero, List.getElem?_cons_succ, Bool.false_eq_true, and_false, false_and, and_true, true_and, reduceIte, Nat.reduceEqDiff, Nat.reduceLT, Nat.reduceAdd, List.cons_append, List.nil_append, Option.toList_some, Option.toList_none, zk_cat_i, zk_cat_r, zk_cat_n, zk_same, Option.some.injEq, Value.int.injEq, Value.long.injEq, eq_self, false_implies, true_implies, zf_1, zf_9, zf_10, ho, hP2, zl_X, zc_n10, zc_cl, zc_in, not_true_eq_false, not_false_eq_true, hP3, (show ((1 : Int32) = 0) = False from by decide)]
      refine hZ B_X10_readRule_54 _ _ _ _ _ _ _ k_X10_readRule_54 ?_
      simp only [B_X10_readRule_54, zk_ldi_s, zk_ldl_s, zk_lda_r, zk_lda_a, zk_lda_n, zk_iv_s, zr_nil, zr_cons, zp_0, zp_s, zt_0, zt_s, zt2_0, zt2_s, zw_iconst, zw_bipush, zw_sipush, zw_lconst, zw_ldcs, zw_ldc, zw_ldcw, zw_ldc2, zw_iload_n, zw_lload_n, zw_aload_n, zw_istore_n, zw_lstore_n, zw_astore_n, zw_astoreN_n, zw_iload, zw_lload, zw_aload, zw_istore, zw_lstore, zw_astore, zw_astoreN, zw_iinc, zw_iadd, zw_isub, zw_imul, zw_iand, zw_ior, zw_ixor, zw_ishl, zw_ishr, zw_iushr, zw_idiv, zw_irem, zw_ladd, zw_lsub, zw_lmul, zw_land, zw_ldiv, zw_lrem, zw_lcmp, zw_i2l, zw_l2i, zw_dup, zw_pop, zw_dup2i, zw_goto, zw_if_eq, zw_if_ne, zw_if_lt, zw_if_ge, zw_if_gt, zw_if_le, zw_ic_eq, zw_ic_ne, zw_ic_lt, zw_ic_ge, zw_ic_gt, zw_ic_le, zw_ifnn, zw_ifnnN, zw_tsw, zw_lsw, zw_getf_l, zw_getf_r, zw_getf_i, zw_getf_z, zw_putf_i, zw_putf_z, zw_putf_l, zw_putf_r, zw_iaload, zw_caload, zw_laload, zw_aaload, zw_iastore, zw_castore, zw_lastore, zw_aastore, zw_alen, zw_newa, zw_newq, zw_new, zw_oini, zw_invs, zw_invv, zw_copy, zw_invt, zw_iret, zw_lret, zw_ret, zc_r, zc_a, zk_rvs, zk_cat2, List.getElem?_cons_zero, List.getElem?_cons_succ, Bool.false_eq_true, and_false, false_and, and_true, true_and, reduceIte, Nat.reduceEqDiff, Nat.reduceLT, Nat.reduceAdd, List.cons_append, List.nil_append, Option.toList_some, Option.toList_none, zk_cat_i, zk_cat_r, zk_cat_n, zk_same, Option.some.injEq, Value.int.injEq, Value.long.injEq, eq_self, false_implies, true_implies, zf_1, zf_9, zf_10, ho, hP2, zl_X, zc_n10, zc_cl, zc_in, not_true_eq_false, not_false_eq_true, hP3, (show P1 v = P v from hPf.1 v (by omega)), o0, p9, p10, o13, o14, l13, l14, nI_clamp (show k < 2 ^ 31 by omega), vp_in_nI hk4 (by omega), z3, z10, u8, u82, hM4]
      rw [← hres]
      refine ⟨Or.inr rfl, hPf, rfl, zt_at_cg y1 (r4 5 (by omega) (by omega) (by decide)) (r4 6 (by omega) (by omega) (by decide)) (r4 7 (by omega) (by omega) (by decide)), ⟨w + cs.length, ?_, by omega⟩, fun q a b c d => ?_, ?_⟩
      · obtain ⟨h1, ⟨A1, A2, A3⟩, mm, h4, h5, h6, h7, h8⟩ := D1
        obtain ⟨g1, g2, g3, g4, g5, g6, g7, g8⟩ := h1
        have rr : ∀ q, v ≤ q → q ≤ v + 11 → M4 q = M1 q := fun q a b => by rw [r4 q (by omega) (by omega) (by omega), r3 q (by omega) (by omega) (by omega)]
        have s13 : ∀ j, j ≠ k → M4 (v + 13) j = M1 (v + 13) j := fun j hj => by rw [← hM4, zk_up_row (by omega), zk_up_row (by omega), zk_up_ne (by omega), r3 _ (by omega) (by omega) (by omega)]
        have s14 : ∀ j, j ≠ k → M4 (v + 14) j = M1 (v + 14) j := fun j hj => by rw [← hM4, zk_up_row (by omega), zk_up_ne (by omega), zk_up_row (by omega), r3 _ (by omega) (by omega) (by omega)]
        have s12 : M4 (v + 12) = M3 (v + 12) := r4 _ (by omega) (by omega) (by omega)
        have t13 : M4 (v + 13) k = nI w := by rw [← hM4, zk_up_row (by omega), zk_up_row (by omega)]; exact zk_up_at
        have t14 : M4 (v + 14) k = nI (w + cs.length) := by rw [← hM4, zk_up_row (by omega)]; exact zk_up_at
        refine ⟨⟨by rw [rr _ (by omega) (by omega)]; exact g1, by rw [rr _ (by omega) (by omega)]; exact g2, by rw [rr _ (by omega) (by omega)]; exact g3, fun a b ha hb => by rw [rr _ (by omega) (by omega)]; exact g4 a b ha hb, fun t ht => by rw [rr _ (by omega) (by omega)]; exact g5 t ht, fun t ht => by rw [rr _ (by omega) (by omega)]; exact g6 t ht, fun j hj => ?_, by rw [rr _ (by omega) (by omega)]; exact g8⟩, ⟨zn_R_fr A1 (rr _ (by omega) (by omega)) (rr _ (by omega) (by omega)), zn_R_fr A2 (rr _ (by omega) (by omega)) (rr _ (by omega) (by omega)), zn_R_fr A3 (rr _ (by omega) (by omega)) (rr _ (by omega) (by omega))⟩, ⟨by rw [rr _ (by omega) (by omega)]; exact mm.1, by rw [rr _ (by omega) (by omega)]; exact mm.2.1, by rw [rr _ (by omega) (by omega)]; exact mm.2.2⟩, fun i hi => by rw [rr _ (by omega) (by omega)]; exact h4 i hi, fun c d hc hd => by rw [rr _ (by omega) (by omega)]; exact h5 c d hc hd, by rw [← hM4]; exact zk_up_at, by omega, fun j cs' hj hr9 => ?_⟩
        · show zv_rule M4 v j (if j = k then some cs else vRl D.1 j)
          by_cases e : j = k
          · subst e
            rw [if_pos rfl]
            exact ⟨w, t13, t14, by omega, fun i hi => by rw [s12]; exact y2.2.1 i hi⟩
          · rw [if_neg e]
            have := g7 j hj
            cases hr : vRl D.1 j with
            | none =>
              rw [hr] at this
              show M4 (v + 13) j = -1
              rw [s13 j e]
              exact this
            | some cs' =>
              rw [hr] at this
              obtain ⟨fr, f1, f2, f3, f4⟩ := this
              obtain ⟨fr2, f5, f6⟩ := h8 j cs' hj hr
              have : fr = fr2 := by rw [f1] at f5; exact (nI_eq (by omega) (by omega)).mp f5
              subst this
              refine ⟨fr, by rw [s13 j e]; exact f1, by rw [s14 j e]; exact f2, f3, fun i hi => ?_⟩
              rw [s12, y2.1.2.2 _ (by omega), m0 _ (by omega)]
              exact f4 i hi
        · have hr10 : (if j = k then some cs else vRl D.1 j) = some cs' := hr9
          by_cases e : j = k
          · subst e
            rw [if_pos rfl] at hr10
            cases hr10
            exact ⟨w, t13, Nat.le_refl _⟩
          · rw [if_neg e] at hr10
            obtain ⟨fr2, f5, f6⟩ := h8 j cs' hj hr10
            exact ⟨fr2, by rw [s13 j e]; exact f5, by omega⟩
      · rw [r4 q (by omega) (by omega) c, r3 q a b (by omega), k2 q a]
      · rw [r4 7 (by omega) (by omega) (by decide), y4, m0 7 (by decide), k3 7 (by decide)]
theorem vs_nmA_ne {D : vs_D} {k k' : Nat} {w : Nat → Nat} (h : k' ≠ k) : vs_nmA D k w k' = dNm D k' := by
  funext i
  unfold vs_nmA
  rw [if_neg (fun z => h z.1)]
theorem zn_R_P {M' : zk_MI} {D : vs_D} {k q ql c : Nat} {w : Nat → Nat} (h : zn_R M q ql (dNm D k) c) (hc : c = vs_cnt D.1 k) (hp : zn_P M M' q ql c w) (hw : nm_ok w) : zn_R M' q ql (vs_nmA D k w k) (c + 1) := by
  refine ⟨hp.1, fun i j hi hj => ?_⟩
  unfold vs_nmA
  by_cases e : i = c
  · subst e
    rw [if_pos ⟨rfl, hc⟩]
    obtain ⟨z, z1, z2, z3, z4⟩ := hw
    refine ⟨hp.2.1 j hj, ?_⟩
    rcases Nat.lt_or_ge j z with g | g
    · exact (z3 j g).2
    · rw [z4 j g]; omega
  · rw [if_neg (fun z => e (by rw [hc]; exact z.2)), hp.2.2.1 _ (by omega)]
    exact h.2 i j (by omega) hj
theorem zv_W_P {M' : zk_MI} {v q ql c : Nat} {w : Nat → Nat} (hv0 : 49 ≤ v) (h : zv_W M v) (hp : zn_P M M' q ql c w) (hq : (q = v + 1 ∧ ql = v + 2) ∨ (q = v + 3 ∧ ql = v + 4) ∨ (q = v + 5 ∧ ql = v + 6)) : zv_W M' v := by
  obtain ⟨⟨m1, m2, m3⟩, hm, h4⟩ := h
  have one : ∀ z, z ≠ ql → z ≠ 7 → M' z 1 = M z 1 := fun z h1 h7 => by
    by_cases e : z = q
    · subst e; exact hp.2.2.2.1 1 (by decide)
    · rw [hp.2.2.2.2 z h7 e h1]
  refine ⟨⟨by rw [one _ (by omega) (by omega)]; exact m1, by rw [one _ (by omega) (by omega)]; exact m2, by rw [one _ (by omega) (by omega)]; exact m3⟩, hm, fun i hi => ?_⟩
  rw [hp.2.2.2.2 _ (by omega) (by omega) (by omega)]
  exact h4 i hi
theorem zfv_P {M' : zk_MI} {v q ql c : Nat} {w : Nat → Nat} (hp : zn_P M M' q ql c w) (hq : (q = v + 1 ∧ ql = v + 2) ∨ (q = v + 3 ∧ ql = v + 4) ∨ (q = v + 5 ∧ ql = v + 6)) : zfv v M M' := fun z a b c d => hp.2.2.2.2 z a (by omega) (by omega)
theorem zvR_no {v : Nat} {f : Nat → Nat} {T k pl : Nat} {M2 : zk_MI} (hv0 : 49 ≤ v) (hW : zv_W M v) (h1 : M2 7 6 = nI k) (h2 : M2 7 7 = nI pl) (hq : ∀ q, q ≠ 7 → M2 q = M q) : zvR M M2 f T v (some (.int 0)) (.inl (k, pl)) := ⟨rfl, h1, h2, zfv_7 hq, zv_W_fr hW (fun q a b => hq q (by omega))⟩
theorem zt_n_b {M' : zk_MI} {f : Nat → Nat} {T q ql c : Nat} {r : Option Value} {R : vs_R (Nat → Nat)} (h : zt_n M M' f T q ql c r R) : r = some (.int 0) ∨ r = some (.int 1) := by
  rcases R with ⟨k, pl⟩ | ⟨p', w⟩
  · exact Or.inl h.1
  · exact Or.inr h.1
/-- a PLACE: what readNew leaves -/
theorem zv_place {v w : Nat} (hv0 : 49 ≤ v) {D : vs_D} (hok : vs_ok D) (hD : zv_D M v D w) {M' : zk_MI} {f : Nat → Nat} {T p : Nat} (hT : T ≤ 1600) (hf : ∀ i, i < T → f i ≤ 255) (h : zt_at M f T p) (hwp : w ≤ p) (hk : tkK f T p ≠ -1) {r : Option Value} (hn9 : zt_n M M' f T (v + 1) (v + 2) (vNp D.1) r (vs_nw f T D 0 6 p)) : zvR M M' f T v r (vs_place f T D p) := by
  have hpos := tkK_pos (f := f) h.2.2.1 hk
  have hnp := vs_nw_pos (D := D) (k := 0) (m := 6) hpos.2.1 hpos.1 hf
  unfold vs_place
  rcases hx : vs_nw f T D 0 6 p with ⟨k, pl⟩ | ⟨p', nw⟩
  · rw [hx] at hn9
    obtain ⟨rfl, b, c, d⟩ := hn9
    exact zvR_no hv0 (zv_W_D hD) b c d
  · rw [hx] at hn9
    obtain ⟨rfl, b, c, d⟩ := hn9
    obtain ⟨e1, e2, e3, e4⟩ := hnp p' nw hx
    refine ⟨rfl, b, ⟨w, ?_, by omega⟩, zfv_P c (Or.inl ⟨rfl, rfl⟩), d⟩
    obtain ⟨h1, ⟨A1, A2, A3⟩, mm, h4, h5, h6, h7, h8⟩ := hD
    obtain ⟨g1, g2, g3, g4, g5, g6, g7, g8⟩ := h1
    have rr : ∀ q, q ≠ 7 → q ≠ v + 1 → q ≠ v + 2 → M' q = M q := c.2.2.2.2
    refine ⟨⟨c.1, by rw [rr _ (by omega) (by omega) (by omega)]; exact g2, by rw [rr _ (by omega) (by omega) (by omega)]; exact g3, fun a b ha hb => by rw [rr _ (by omega) (by omega) (by omega)]; exact g4 a b ha hb, fun t ht => by rw [rr _ (by omega) (by omega) (by omega)]; exact g5 t ht, fun t ht => by rw [rr _ (by omega) (by omega) (by omega)]; exact g6 t ht, fun j hj => ?_, by rw [rr _ (by omega) (by omega) (by omega)]; exact g8⟩, ⟨zn_R_P A1 rfl c e3, ?_, ?_⟩, ⟨by rw [c.2.2.2.1 1 (by decide)]; exact mm.1, by rw [rr _ (by omega) (by omega) (by omega)]; exact mm.2.1, by rw [rr _ (by omega) (by omega) (by omega)]; exact mm.2.2⟩, fun i hi => by rw [rr _ (by omega) (by omega) (by omega)]; exact h4 i hi, fun c d hc hd => by rw [rr _ (by omega) (by omega) (by omega)]; exact h5 c d hc hd, by rw [rr _ (by omega) (by omega) (by omega)]; exact h6, h7, fun j cs' hj hr9 => by rw [rr _ (by omega) (by omega) (by omega)]; exact h8 j cs' hj hr9⟩
    · have := g7 j hj
      show zv_rule M' v j (vRl D.1 j)
      cases hr : vRl D.1 j with
      | none =>
        rw [hr] at this
        show M' (v + 13) j = -1
        rw [rr _ (by omega) (by omega) (by omega)]
        exact this
      | some cs' =>
        rw [hr] at this
        obtain ⟨fr, f1, f2, f3, f4⟩ := this
        exact ⟨fr, by rw [rr _ (by omega) (by omega) (by omega)]; exact f1, by rw [rr _ (by omega) (by omega) (by omega)]; exact f2, f3, fun i hi => by rw [rr _ (by omega) (by omega) (by omega)]; exact f4 i hi⟩
    · show zn_R M' (v + 3) (v + 4) (vs_nmA D 0 nw 1) (vNq D.1)
      rw [vs_nmA_ne (by decide)]
      exact zn_R_fr A2 (rr _ (by omega) (by omega) (by omega)) (rr _ (by omega) (by omega) (by omega))
    · show zn_R M' (v + 5) (v + 6) (vs_nmA D 0 nw 2) (vNt D.1)
      rw [vs_nmA_ne (by decide)]
      exact zn_R_fr A3 (rr _ (by omega) (by omega) (by omega)) (rr _ (by omega) (by omega) (by omega))
theorem zv_rule_fr {M' : zk_MI} {v j : Nat} {o : Option (List Int)} (h : zv_rule M v j o) (h1 : M' (v + 12) = M (v + 12)) (h2 : M' (v + 13) = M (v + 13)) (h3 : M' (v + 14) = M (v + 14)) : zv_rule M' v j o := by
  cases o with
  | none =>
    show M' (v + 13) j = -1
    rw [h2]
    exact h
  | some cs' =>
    obtain ⟨fr, f1, f2, f3, f4⟩ := h
    exact ⟨fr, by rw [h2]; exact f1, by rw [h3]; exact f2, f3, fun i hi => by rw [h1]; exact f4 i hi⟩
theorem ct_readPerson (hJ : zk_JS G) (hn : 154 ≤ n) (hP : zs_X P) {v w : Nat} (hv : zv_ok n P v) (hv0 : 49 ≤ v) {D : vs_D} (hok : vs_ok D) (hD : zv_D M v D w) {f : Nat → Nat} {T p : Nat} (h : zt_at M f T p) (hwp : w ≤ p) (hk : tkK f T p ≠ -1) : zk_C G 11 107 [.ref 10, .ref v] n M L P n (fun r M' L' P' => L' = L ∧ P' = P ∧ zvR M M' f T v r (vs_person f T D p)) := by
  have hv2 := hv
  obtain ⟨N1, N2, N3⟩ := zn_Nv hv
  have b1 := hok.1.1
  have b2 := hok.1.2.1
  have hpos := tkK_pos (f := f) h.2.2.1 hk
  have hfb : ∀ i, i < T → f i ≤ 255 := fun i hi => (h.1.2.2 i hi).2
  obtain ⟨o0, o1, o2, o3, o4, o5, o6, o7, o8, o9, o10, o11, o12, o13, o14, l2, l4, l6, l7, l8, l9, l10, l11, l12, l13, l14, p0, p1, p2, p3, p4, p5, p6, p7, p8, p9, p10, a1, a3, a5⟩ := hv
  generalize hres : vs_person f T D p = R
  unfold vs_person at hres
  have hD2 := hD
  obtain ⟨h1, ⟨A1, A2, A3⟩, mm, h4, h5, h6, h7, h8⟩ := hD
  have g2 : M (v + 3) 2 = nI (vNq D.1) := h1.2.1
  refine zk_meth (ow := 10) (kind := 1) (k := 1) (nL := 4) (ct := false) (l0 := [.ref 10, .ref v, zk_un, zk_un]) (by decide +kernel) (fun h => by cases h) (by decide +kernel) (by decide) (by decide) (fun h => absurd h (by decide)) (Nat.le_of_ble_eq_true rfl) rfl (by omega) (fun Z hZ => ?_)
  have ho := zo_X hn
  have hP2 := hP
  unfold zs_X at hP2
  refine hZ B_X10_readPerson_0 _ _ _ _ _ _ _ k_X10_readPerson_0 ?_
  simp only [B_X10_readPerson_0, zk_ldi_s, zk_ldl_s, zk_lda_r, zk_lda_a, zk_lda_n, zk_iv_s, zr_nil, zr_cons, zp_0, zp_s, zt_0, zt_s, zt2_0, zt2_s, zw_iconst, zw_bipush, zw_sipush, zw_lconst, zw_ldcs, zw_ldc, zw_ldcw, zw_ldc2, zw_iload_n, zw_lload_n, zw_aload_n, zw_istore_n, zw_lstore_n, zw_astore_n, zw_astoreN_n, zw_iload, zw_lload, zw_aload, zw_istore, zw_lstore, zw_astore, zw_astoreN, zw_iinc, zw_iadd, zw_isub, zw_imul, zw_iand, zw_ior, zw_ixor, zw_ishl, zw_ishr, zw_iushr, zw_idiv, zw_irem, zw_ladd, zw_lsub, zw_lmul, zw_land, zw_ldiv, zw_lrem, zw_lcmp, zw_i2l, zw_l2i, zw_dup, zw_pop, zw_dup2i, zw_goto, zw_if_eq, zw_if_ne, zw_if_lt, zw_if_ge, zw_if_gt, zw_if_le, zw_ic_eq, zw_ic_ne, zw_ic_lt, zw_ic_ge, zw_ic_gt, zw_ic_le, zw_ifnn, zw_ifnnN, zw_tsw, zw_lsw, zw_getf_l, zw_getf_r, zw_getf_i, zw_getf_z, zw_putf_i, zw_putf_z, zw_putf_l, zw_putf_r, zw_iaload, zw_caload, zw_laload, zw_aaload, zw_iastore, zw_castore, zw_lastore, zw_aastore, zw_alen, zw_newa, zw_newq, zw_new, zw_oini, zw_invs, zw_invv, zw_copy, zw_invt, zw_iret, zw_lret, zw_ret, zc_r, zc_a, zk_rvs, zk_cat2, List.getElem?_cons_zero, List.getElem?_cons_succ, Bool.false_eq_true, and_false, false_and, and_true, true_and, reduceIte, Nat.reduceEqDiff, Nat.reduceLT, Nat.reduceAdd, List.cons_append, List.nil_append, Option.toList_some, Option.toList_none, zk_cat_i, zk_cat_r, zk_cat_n, zk_same, Option.some.injEq, Value.int.injEq, Value.long.injEq, eq_self, false_implies, true_implies, zf_4, zf_9, zf_10, ho, hP2, zl_X, zc_n10, zc_cl, zc_in, not_true_eq_false, not_false_eq_true, o0, p1, o3, g2]
  refine zk_callI (ct_readNew (k := 1) hJ hn hP hv2 hv0 hok ⟨A1, A2, A3⟩ N2 ⟨by omega, by omega, by omega, by omega, by omega, by omega, by omega⟩ mm.2.1 g2 (show vNq D.1 ≤ 10 by omega) h hk) (by first | decide | omega) (Nat.le_refl _) (Nat.le_of_ble_eq_true rfl) (fun r M1 L9 P9 hpost => ?_)
  obtain ⟨hL9, hP9, x1⟩ := hpost
  have hL8 := hL9.symm
  have hP8 := hP9.symm
  clear hL9 hP9
  subst hL8
  subst hP8
  have hnp := vs_nw_pos (D := D) (k := 1) (m := 6) hpos.2.1 hpos.1 hfb
  rcases hx : vs_nw f T D 1 6 p with ⟨k, pl⟩ | ⟨q1, nw⟩
  · rw [hx] at x1 hres
    obtain ⟨rfl, b, c, d⟩ := x1
    simp only [zk_ldi_s, zk_ldl_s, zk_lda_r, zk_lda_a, zk_lda_n, zk_iv_s, zr_nil, zr_cons, zp_0, zp_s, zt_0, zt_s, zt2_0, zt2_s, zw_iconst, zw_bipush, zw_sipush, zw_lconst, zw_ldcs, zw_ldc, zw_ldcw, zw_ldc2, zw_iload_n, zw_lload_n, zw_aload_n, zw_istore_n, zw_lstore_n, zw_astore_n, zw_astoreN_n, zw_iload, zw_lload, zw_aload, zw_istore, zw_lstore, zw_astore, zw_astoreN, zw_iinc, zw_iadd, zw_isub, zw_imul, zw_iand, zw_ior, zw_ixor, zw_ishl, zw_ishr, zw_iushr, zw_idiv, zw_irem, zw_ladd, zw_lsub, zw_lmul, zw_land, zw_ldiv, zw_lrem, zw_lcmp, zw_i2l, zw_l2i, zw_dup, zw_pop, zw_dup2i, zw_goto, zw_if_eq, zw_if_ne, zw_if_lt, zw_if_ge, zw_if_gt, zw_if_le, zw_ic_eq, zw_ic_ne, zw_ic_lt, zw_ic_ge, zw_ic_gt, zw_ic_le, zw_ifnn, zw_ifnnN, zw_tsw, zw_lsw, zw_getf_l, zw_getf_r, zw_getf_i, zw_getf_z, zw_putf_i, zw_putf_z, zw_putf_l, zw_putf_r, zw_iaload, zw_caload, zw_laload, zw_aaload, zw_iastore, zw_castore, zw_lastore, zw_aastore, zw_alen, zw_newa, zw_newq, zw_new, zw_oini, zw_invs, zw_invv, zw_copy, zw_invt, zw_iret, zw_lret, zw_ret, zc_r, zc_a, zk_rvs, zk_cat2, List.getElem?_cons_zero, List.getElem?_cons_succ, Bool.false_eq_true, and_false, false_and, and_true, true_and, reduceIte, Nat.reduceEqDiff, Nat.reduceLT, Nat.reduceAdd, List.cons_append, List.nil_append, Option.toList_some, Option.toList_none, zk_cat_i, zk_cat_r, zk_cat_n, zk_same, Option.some.injEq, Value.int.injEq, Value.long.injEq, eq_self, false_implies, true_implies, zf_4, zf_9, zf_10, ho, hP2, zl_X, zc_n10, zc_cl, zc_in, not_true_eq_false, not_false_eq_true]
    refine hZ B_X10_readPerson_33 _ _ _ _ _ _ _ k_X10_readPerson_33 ?_
    simp only [B_X10_readPerson_33, zk_ldi_s, zk_ldl_s, zk_lda_r, zk_lda_a, zk_lda_n, zk_iv_s, zr_nil, zr_cons, zp_0, zp_s, zt_0, zt_s, zt2_0, zt2_s, zw_iconst, zw_bipush, zw_sipush, zw_lconst, zw_ldcs, zw_ldc, zw_ldcw, zw_ldc2, zw_iload_n, zw_lload_n, zw_aload_n, zw_istore_n, zw_lstore_n, zw_astore_n, zw_astoreN_n, zw_iload, zw_lload, zw_aload, zw_istore, zw_lstore, zw_astore, zw_astoreN, zw_iinc, zw_iadd, zw_isub, zw_imul, zw_iand, zw_ior, zw_ixor, zw_ishl, zw_ishr, zw_iushr, zw_idiv, zw_irem, zw_ladd, zw_lsub, zw_lmul, zw_land, zw_ldiv, zw_lrem, zw_lcmp, zw_i2l, zw_l2i, zw_dup, zw_pop, zw_dup2i, zw_goto, zw_if_eq, zw_if_ne, zw_if_lt, zw_if_ge, zw_if_gt, zw_if_le, zw_ic_eq, zw_ic_ne, zw_ic_lt, zw_ic_ge, zw_ic_gt, zw_ic_le, zw_ifnn, zw_ifnnN, zw_tsw, zw_lsw, zw_getf_l, zw_getf_r, zw_getf_i, zw_getf_z, zw_putf_i, zw_putf_z, zw_putf_l, zw_putf_r, zw_iaload, zw_caload, zw_laload, zw_aaload, zw_iastore, zw_castore, zw_lastore, zw_aastore, zw_alen, zw_newa, zw_newq, zw_new, zw_oini, zw_invs, zw_invv, zw_copy, zw_invt, zw_iret, zw_lret, zw_ret, zc_r, zc_a, zk_rvs, zk_cat2, List.getElem?_cons_zero, List.getElem?_cons_succ, Bool.false_eq_true, and_false, false_and, and_true, true_and, reduceIte, Nat.reduceEqDiff, Nat.reduceLT, Nat.reduceAdd, List.cons_append, List.nil_append, Option.toList_some, Option.toList_none, zk_cat_i, zk_cat_r, zk_cat_n, zk_same, Option.some.injEq, Value.int.injEq, Value.long.injEq, eq_self, false_implies, true_implies, zf_4, zf_9, zf_10, ho, hP2, zl_X, zc_n10, zc_cl, zc_in, not_true_eq_false, not_false_eq_true]
    rw [← hres]
    exact ⟨Or.inl rfl, zvR_no hv0 (zv_W_D hD2) b c d⟩
  obtain ⟨e1, e2, e3, e4⟩ := hnp q1 nw hx
  have e4' : vNq D.1 < 6 := e4
  rw [hx] at x1 hres
  simp only [vs_b] at hres
  obtain ⟨rfl, x11, x12, x13⟩ := x1
  have x12' : zn_P M M1 (v + 3) (v + 4) (vNq D.1) nw := x12
  have W1 := zv_W_P hv0 (zv_W_D hD2) x12' (Or.inr (Or.inl ⟨rfl, rfl⟩))
  have F1 : zfv v M M1 := zfv_P x12' (Or.inr (Or.inl ⟨rfl, rfl⟩))
  have rr : ∀ q, q ≠ 7 → q ≠ v + 3 → q ≠ v + 4 → M1 q = M q := x12'.2.2.2.2
  simp only [zk_ldi_s, zk_ldl_s, zk_lda_r, zk_lda_a, zk_lda_n, zk_iv_s, zr_nil, zr_cons, zp_0, zp_s, zt_0, zt_s, zt2_0, zt2_s, zw_iconst, zw_bipush, zw_sipush, zw_lconst, zw_ldcs, zw_ldc, zw_ldcw, zw_ldc2, zw_iload_n, zw_lload_n, zw_aload_n, zw_istore_n, zw_lstore_n, zw_astore_n, zw_astoreN_n, zw_iload, zw_lload, zw_aload, zw_istore, zw_lstore, zw_astore, zw_astoreN, zw_iinc, zw_iadd, zw_isub, zw_imul, zw_iand, zw_ior, zw_ixor, zw_ishl, zw_ishr, zw_iushr, zw_idiv, zw_irem, zw_ladd, zw_lsub, zw_lmul, zw_land, zw_ldiv, zw_lrem, zw_lcmp, zw_i2l, zw_l2i, zw_dup, zw_pop, zw_dup2i, zw_goto, zw_if_eq, zw_if_ne, zw_if_lt, zw_if_ge, zw_if_gt, zw_if_le, zw_ic_eq, zw_ic_ne, zw_ic_lt, zw_ic_ge, zw_ic_gt, zw_ic_le, zw_ifnn, zw_ifnnN, zw_tsw, zw_lsw, zw_getf_l, zw_getf_r, zw_getf_i, zw_getf_z, zw_putf_i, zw_putf_z, zw_putf_l, zw_putf_r, zw_iaload, zw_caload, zw_laload, zw_aaload, zw_iastore, zw_castore, zw_lastore, zw_aastore, zw_alen, zw_newa, zw_newq, zw_new, zw_oini, zw_invs, zw_invv, zw_copy, zw_invt, zw_iret, zw_lret, zw_ret, zc_r, zc_a, zk_rvs, zk_cat2, List.getElem?_cons_zero, List.getElem?_cons_succ, Bool.false_eq_true, and_false, false_and, and_true, true_and, reduceIte, Nat.reduceEqDiff, Nat.reduceLT, Nat.reduceAdd, List.cons_append, List.nil_append, Option.toList_some, Option.toList_none, zk_cat_i, zk_cat_r, zk_cat_n, zk_same, Option.some.injEq, Value.int.injEq, Value.long.injEq, eq_self, false_implies, true_implies, zf_4, zf_9, zf_10, ho, hP2, zl_X, zc_n10, zc_cl, zc_in, not_true_eq_false, not_false_eq_true, (show ((1 : Int32) = 0) = False from by decide)]
  refine zk_callI (ct_needV hJ hn hP x11 304 (304 : Int32) (by decide) (by decide) (by decide)) (by first | decide | omega) (Nat.le_refl _) (Nat.le_of_ble_eq_true rfl) (fun r M2 L9 P9 hpost => ?_)
  obtain ⟨hL9, hP9, x2⟩ := hpost
  have hL8 := hL9.symm
  have hP8 := hP9.symm
  clear hL9 hP9
  subst hL8
  subst hP8
  rcases hx2 : vs_need f T 304 q1 with ⟨k, pl⟩ | ⟨q2, u⟩
  · rw [hx2] at x2 hres
    obtain ⟨rfl, x2⟩ := x2
    simp only [zk_ldi_s, zk_ldl_s, zk_lda_r, zk_lda_a, zk_lda_n, zk_iv_s, zr_nil, zr_cons, zp_0, zp_s, zt_0, zt_s, zt2_0, zt2_s, zw_iconst, zw_bipush, zw_sipush, zw_lconst, zw_ldcs, zw_ldc, zw_ldcw, zw_ldc2, zw_iload_n, zw_lload_n, zw_aload_n, zw_istore_n, zw_lstore_n, zw_astore_n, zw_astoreN_n, zw_iload, zw_lload, zw_aload, zw_istore, zw_lstore, zw_astore, zw_astoreN, zw_iinc, zw_iadd, zw_isub, zw_imul, zw_iand, zw_ior, zw_ixor, zw_ishl, zw_ishr, zw_iushr, zw_idiv, zw_irem, zw_ladd, zw_lsub, zw_lmul, zw_land, zw_ldiv, zw_lrem, zw_lcmp, zw_i2l, zw_l2i, zw_dup, zw_pop, zw_dup2i, zw_goto, zw_if_eq, zw_if_ne, zw_if_lt, zw_if_ge, zw_if_gt, zw_if_le, zw_ic_eq, zw_ic_ne, zw_ic_lt, zw_ic_ge, zw_ic_gt, zw_ic_le, zw_ifnn, zw_ifnnN, zw_tsw, zw_lsw, zw_getf_l, zw_getf_r, zw_getf_i, zw_getf_z, zw_putf_i, zw_putf_z, zw_putf_l, zw_putf_r, zw_iaload, zw_caload, zw_laload, zw_aaload, zw_iastore, zw_castore, zw_lastore, zw_aastore, zw_alen, zw_newa, zw_newq, zw_new, zw_oini, zw_invs, zw_invv, zw_copy, zw_invt, zw_iret, zw_lret, zw_ret, zc_r, zc_a, zk_rvs, zk_cat2, List.getElem?_cons_zero, List.getElem?_cons_succ, Bool.false_eq_true, and_false, false_and, and_true, true_and, reduceIte, Nat.reduceEqDiff, Nat.reduceLT, Nat.reduceAdd, List.cons_append, List.nil_append, Option.toList_some, Option.toList_none, zk_cat_i, zk_cat_r, zk_cat_n, zk_same, Option.some.injEq, Value.int.injEq, Value.long.injEq, eq_self, false_implies, true_implies, zf_4, zf_9, zf_10, ho, hP2, zl_X, zc_n10, zc_cl, zc_in, not_true_eq_false, not_false_eq_true]
    refine hZ B_X10_readPerson_33 _ _ _ _ _ _ _ k_X10_readPerson_33 ?_
    simp only [B_X10_readPerson_33, zk_ldi_s, zk_ldl_s, zk_lda_r, zk_lda_a, zk_lda_n, zk_iv_s, zr_nil, zr_cons, zp_0, zp_s, zt_0, zt_s, zt2_0, zt2_s, zw_iconst, zw_bipush, zw_sipush, zw_lconst, zw_ldcs, zw_ldc, zw_ldcw, zw_ldc2, zw_iload_n, zw_lload_n, zw_aload_n, zw_istore_n, zw_lstore_n, zw_astore_n, zw_astoreN_n, zw_iload, zw_lload, zw_aload, zw_istore, zw_lstore, zw_astore, zw_astoreN, zw_iinc, zw_iadd, zw_isub, zw_imul, zw_iand, zw_ior, zw_ixor, zw_ishl, zw_ishr, zw_iushr, zw_idiv, zw_irem, zw_ladd, zw_lsub, zw_lmul, zw_land, zw_ldiv, zw_lrem, zw_lcmp, zw_i2l, zw_l2i, zw_dup, zw_pop, zw_dup2i, zw_goto, zw_if_eq, zw_if_ne, zw_if_lt, zw_if_ge, zw_if_gt, zw_if_le, zw_ic_eq, zw_ic_ne, zw_ic_lt, zw_ic_ge, zw_ic_gt, zw_ic_le, zw_ifnn, zw_ifnnN, zw_tsw, zw_lsw, zw_getf_l, zw_getf_r, zw_getf_i, zw_getf_z, zw_putf_i, zw_putf_z, zw_putf_l, zw_putf_r, zw_iaload, zw_caload, zw_laload, zw_aaload, zw_iastore, zw_castore, zw_lastore, zw_aastore, zw_alen, zw_newa, zw_newq, zw_new, zw_oini, zw_invs, zw_invv, zw_copy, zw_invt, zw_iret, zw_lret, zw_ret, zc_r, zc_a, zk_rvs, zk_cat2, List.getElem?_cons_zero, List.getElem?_cons_succ, Bool.false_eq_true, and_false, false_and, and_true, true_and, reduceIte, Nat.reduceEqDiff, Nat.reduceLT, Nat.reduceAdd, List.cons_append, List.nil_append, Option.toList_some, Option.toList_none, zk_cat_i, zk_cat_r, zk_cat_n, zk_same, Option.some.injEq, Value.int.injEq, Value.long.injEq, eq_self, false_implies, true_implies, zf_4, zf_9, zf_10, ho, hP2, zl_X, zc_n10, zc_cl, zc_in, not_true_eq_false, not_false_eq_true]
    rw [← hres]
    exact ⟨Or.inl rfl, zvR_bad hv0 W1 F1 x2⟩
  obtain ⟨g3, g4, -⟩ := vs_need_pos (f := f) (w := 304) e2 (by decide) q2 u hx2
  rw [hx2] at x2 hres
  simp only [vs_b] at hres
  obtain ⟨rfl, x21, x22, x23⟩ := x2
  have W2 : zv_W M2 v := zv_W_fr W1 (fun q a b => x22 q (by omega))
  have B1 : zn_R M2 (v + 1) (v + 2) (dNm D 0) (vNp D.1) := zn_R_fr A1 (by rw [x22 _ (by omega), rr _ (by omega) (by omega) (by omega)]) (by rw [x22 _ (by omega), rr _ (by omega) (by omega) (by omega)])
  simp only [zk_ldi_s, zk_ldl_s, zk_lda_r, zk_lda_a, zk_lda_n, zk_iv_s, zr_nil, zr_cons, zp_0, zp_s, zt_0, zt_s, zt2_0, zt2_s, zw_iconst, zw_bipush, zw_sipush, zw_lconst, zw_ldcs, zw_ldc, zw_ldcw, zw_ldc2, zw_iload_n, zw_lload_n, zw_aload_n, zw_istore_n, zw_lstore_n, zw_astore_n, zw_astoreN_n, zw_iload, zw_lload, zw_aload, zw_istore, zw_lstore, zw_astore, zw_astoreN, zw_iinc, zw_iadd, zw_isub, zw_imul, zw_iand, zw_ior, zw_ixor, zw_ishl, zw_ishr, zw_iushr, zw_idiv, zw_irem, zw_ladd, zw_lsub, zw_lmul, zw_land, zw_ldiv, zw_lrem, zw_lcmp, zw_i2l, zw_l2i, zw_dup, zw_pop, zw_dup2i, zw_goto, zw_if_eq, zw_if_ne, zw_if_lt, zw_if_ge, zw_if_gt, zw_if_le, zw_ic_eq, zw_ic_ne, zw_ic_lt, zw_ic_ge, zw_ic_gt, zw_ic_le, zw_ifnn, zw_ifnnN, zw_tsw, zw_lsw, zw_getf_l, zw_getf_r, zw_getf_i, zw_getf_z, zw_putf_i, zw_putf_z, zw_putf_l, zw_putf_r, zw_iaload, zw_caload, zw_laload, zw_aaload, zw_iastore, zw_castore, zw_lastore, zw_aastore, zw_alen, zw_newa, zw_newq, zw_new, zw_oini, zw_invs, zw_invv, zw_copy, zw_invt, zw_iret, zw_lret, zw_ret, zc_r, zc_a, zk_rvs, zk_cat2, List.getElem?_cons_zero, List.getElem?_cons_succ, Bool.false_eq_true, and_false, false_and, and_true, true_and, reduceIte, Nat.reduceEqDiff, Nat.reduceLT, Nat.reduceAdd, List.cons_append, List.nil_append, Option.toList_some, Option.toList_none, zk_cat_i, zk_cat_r, zk_cat_n, zk_same, Option.some.injEq, Value.int.injEq, Value.long.injEq, eq_self, false_implies, true_implies, zf_4, zf_9, zf_10, ho, hP2, zl_X, zc_n10, zc_cl, zc_in, not_true_eq_false, not_false_eq_true, (show ((1 : Int32) = 0) = False from by decide)]
  refine hZ B_X10_readPerson_35 _ _ _ _ _ _ _ k_X10_readPerson_35 ?_
  simp only [B_X10_readPerson_35, zk_ldi_s, zk_ldl_s, zk_lda_r, zk_lda_a, zk_lda_n, zk_iv_s, zr_nil, zr_cons, zp_0, zp_s, zt_0, zt_s, zt2_0, zt2_s, zw_iconst, zw_bipush, zw_sipush, zw_lconst, zw_ldcs, zw_ldc, zw_ldcw, zw_ldc2, zw_iload_n, zw_lload_n, zw_aload_n, zw_istore_n, zw_lstore_n, zw_astore_n, zw_astoreN_n, zw_iload, zw_lload, zw_aload, zw_istore, zw_lstore, zw_astore, zw_astoreN, zw_iinc, zw_iadd, zw_isub, zw_imul, zw_iand, zw_ior, zw_ixor, zw_ishl, zw_ishr, zw_iushr, zw_idiv, zw_irem, zw_ladd, zw_lsub, zw_lmul, zw_land, zw_ldiv, zw_lrem, zw_lcmp, zw_i2l, zw_l2i, zw_dup, zw_pop, zw_dup2i, zw_goto, zw_if_eq, zw_if_ne, zw_if_lt, zw_if_ge, zw_if_gt, zw_if_le, zw_ic_eq, zw_ic_ne, zw_ic_lt, zw_ic_ge, zw_ic_gt, zw_ic_le, zw_ifnn, zw_ifnnN, zw_tsw, zw_lsw, zw_getf_l, zw_getf_r, zw_getf_i, zw_getf_z, zw_putf_i, zw_putf_z, zw_putf_l, zw_putf_r, zw_iaload, zw_caload, zw_laload, zw_aaload, zw_iastore, zw_castore, zw_lastore, zw_aastore, zw_alen, zw_newa, zw_newq, zw_new, zw_oini, zw_invs, zw_invv, zw_copy, zw_invt, zw_iret, zw_lret, zw_ret, zc_r, zc_a, zk_rvs, zk_cat2, List.getElem?_cons_zero, List.getElem?_cons_succ, Bool.false_eq_true, and_false, false_and, and_true, true_and, reduceIte, Nat.reduceEqDiff, Nat.reduceLT, Nat.reduceAdd, List.cons_append, List.nil_append, Option.toList_some, Option.toList_none, zk_cat_i, zk_cat_r, zk_cat_n, zk_same, Option.some.injEq, Value.int.injEq, Value.long.injEq, eq_self, false_implies, true_implies, zf_4, zf_9, zf_10, ho, hP2, zl_X, zc_n10, zc_cl, zc_in, not_true_eq_false, not_false_eq_true, o0, p0, o1]
  refine zk_callI (ct_readOld hJ hn hP N1 b1 B1 x21 0 (0 : Int32) rfl (by decide)) (by first | decide | omega) (Nat.le_refl _) (Nat.le_of_ble_eq_true rfl) (fun r M3 L9 P9 hpost => ?_)
  obtain ⟨hL9, hP9, x3⟩ := hpost
  have hL8 := hL9.symm
  have hP8 := hP9.symm
  clear hL9 hP9
  subst hL8
  subst hP8
  have hp3 := vs_ol_pos (nm := dNm D 0) (c := vNp D.1) (bar := 0) g4 hfb
  rcases hx3 : vs_ol f T (dNm D 0) (vNp D.1) 0 q2 with ⟨k, pl⟩ | ⟨q3, x⟩
  · rw [hx3] at x3 hres
    obtain ⟨rfl, x3⟩ := x3
    simp only [zk_ldi_s, zk_ldl_s, zk_lda_r, zk_lda_a, zk_lda_n, zk_iv_s, zr_nil, zr_cons, zp_0, zp_s, zt_0, zt_s, zt2_0, zt2_s, zw_iconst, zw_bipush, zw_sipush, zw_lconst, zw_ldcs, zw_ldc, zw_ldcw, zw_ldc2, zw_iload_n, zw_lload_n, zw_aload_n, zw_istore_n, zw_lstore_n, zw_astore_n, zw_astoreN_n, zw_iload, zw_lload, zw_aload, zw_istore, zw_lstore, zw_astore, zw_astoreN, zw_iinc, zw_iadd, zw_isub, zw_imul, zw_iand, zw_ior, zw_ixor, zw_ishl, zw_ishr, zw_iushr, zw_idiv, zw_irem, zw_ladd, zw_lsub, zw_lmul, zw_land, zw_ldiv, zw_lrem, zw_lcmp, zw_i2l, zw_l2i, zw_dup, zw_pop, zw_dup2i, zw_goto, zw_if_eq, zw_if_ne, zw_if_lt, zw_if_ge, zw_if_gt, zw_if_le, zw_ic_eq, zw_ic_ne, zw_ic_lt, zw_ic_ge, zw_ic_gt, zw_ic_le, zw_ifnn, zw_ifnnN, zw_tsw, zw_lsw, zw_getf_l, zw_getf_r, zw_getf_i, zw_getf_z, zw_putf_i, zw_putf_z, zw_putf_l, zw_putf_r, zw_iaload, zw_caload, zw_laload, zw_aaload, zw_iastore, zw_castore, zw_lastore, zw_aastore, zw_alen, zw_newa, zw_newq, zw_new, zw_oini, zw_invs, zw_invv, zw_copy, zw_invt, zw_iret, zw_lret, zw_ret, zc_r, zc_a, zk_rvs, zk_cat2, List.getElem?_cons_zero, List.getElem?_cons_succ, Bool.false_eq_true, and_false, false_and, and_true, true_and, reduceIte, Nat.reduceEqDiff, Nat.reduceLT, Nat.reduceAdd, List.cons_append, List.nil_append, Option.toList_some, Option.toList_none, zk_cat_i, zk_cat_r, zk_cat_n, zk_same, Option.some.injEq, Value.int.injEq, Value.long.injEq, eq_self, false_implies, true_implies, zf_4, zf_9, zf_10, ho, hP2, zl_X, zc_n10, zc_cl, zc_in, not_true_eq_false, not_false_eq_true]
    refine hZ B_X10_readPerson_56 _ _ _ _ _ _ _ k_X10_readPerson_56 ?_
    simp only [B_X10_readPerson_56, zk_ldi_s, zk_ldl_s, zk_lda_r, zk_lda_a, zk_lda_n, zk_iv_s, zr_nil, zr_cons, zp_0, zp_s, zt_0, zt_s, zt2_0, zt2_s, zw_iconst, zw_bipush, zw_sipush, zw_lconst, zw_ldcs, zw_ldc, zw_ldcw, zw_ldc2, zw_iload_n, zw_lload_n, zw_aload_n, zw_istore_n, zw_lstore_n, zw_astore_n, zw_astoreN_n, zw_iload, zw_lload, zw_aload, zw_istore, zw_lstore, zw_astore, zw_astoreN, zw_iinc, zw_iadd, zw_isub, zw_imul, zw_iand, zw_ior, zw_ixor, zw_ishl, zw_ishr, zw_iushr, zw_idiv, zw_irem, zw_ladd, zw_lsub, zw_lmul, zw_land, zw_ldiv, zw_lrem, zw_lcmp, zw_i2l, zw_l2i, zw_dup, zw_pop, zw_dup2i, zw_goto, zw_if_eq, zw_if_ne, zw_if_lt, zw_if_ge, zw_if_gt, zw_if_le, zw_ic_eq, zw_ic_ne, zw_ic_lt, zw_ic_ge, zw_ic_gt, zw_ic_le, zw_ifnn, zw_ifnnN, zw_tsw, zw_lsw, zw_getf_l, zw_getf_r, zw_getf_i, zw_getf_z, zw_putf_i, zw_putf_z, zw_putf_l, zw_putf_r, zw_iaload, zw_caload, zw_laload, zw_aaload, zw_iastore, zw_castore, zw_lastore, zw_aastore, zw_alen, zw_newa, zw_newq, zw_new, zw_oini, zw_invs, zw_invv, zw_copy, zw_invt, zw_iret, zw_lret, zw_ret, zc_r, zc_a, zk_rvs, zk_cat2, List.getElem?_cons_zero, List.getElem?_cons_succ, Bool.false_eq_true, and_false, false_and, and_true, true_and, reduceIte, Nat.reduceEqDiff, Nat.reduceLT, Nat.reduceAdd, List.cons_append, List.nil_append, Option.toList_some, Option.toList_none, zk_cat_i, zk_cat_r, zk_cat_n, zk_same, Option.some.injEq, Value.int.injEq, Value.long.injEq, eq_self, false_implies, true_implies, zf_4, zf_9, zf_10, ho, hP2, zl_X, zc_n10, zc_cl, zc_in, not_true_eq_false, not_false_eq_true]
    rw [← hres]
    exact ⟨Or.inl rfl, zvR_bad hv0 W2 (zfv_tr F1 (zfv_7 x22)) x3⟩
  obtain ⟨d1, d2, d3, d4⟩ := hp3 q3 x hx3
  rw [hx3] at x3 hres
  simp only [vs_b] at hres
  obtain ⟨rfl, x31, x32, x33⟩ := x3
  have ee1 : (nI x = (-1 : Int32)) = False := eq_false (zn_nm1 (by omega))
  have ee2 : (nI (vNq D.1) < (6 : Int32)) = True := by rw [fa_lit 6, zn_lt (by omega) (by omega)]; simp; omega
  simp only [zk_ldi_s, zk_ldl_s, zk_lda_r, zk_lda_a, zk_lda_n, zk_iv_s, zr_nil, zr_cons, zp_0, zp_s, zt_0, zt_s, zt2_0, zt2_s, zw_iconst, zw_bipush, zw_sipush, zw_lconst, zw_ldcs, zw_ldc, zw_ldcw, zw_ldc2, zw_iload_n, zw_lload_n, zw_aload_n, zw_istore_n, zw_lstore_n, zw_astore_n, zw_astoreN_n, zw_iload, zw_lload, zw_aload, zw_istore, zw_lstore, zw_astore, zw_astoreN, zw_iinc, zw_iadd, zw_isub, zw_imul, zw_iand, zw_ior, zw_ixor, zw_ishl, zw_ishr, zw_iushr, zw_idiv, zw_irem, zw_ladd, zw_lsub, zw_lmul, zw_land, zw_ldiv, zw_lrem, zw_lcmp, zw_i2l, zw_l2i, zw_dup, zw_pop, zw_dup2i, zw_goto, zw_if_eq, zw_if_ne, zw_if_lt, zw_if_ge, zw_if_gt, zw_if_le, zw_ic_eq, zw_ic_ne, zw_ic_lt, zw_ic_ge, zw_ic_gt, zw_ic_le, zw_ifnn, zw_ifnnN, zw_tsw, zw_lsw, zw_getf_l, zw_getf_r, zw_getf_i, zw_getf_z, zw_putf_i, zw_putf_z, zw_putf_l, zw_putf_r, zw_iaload, zw_caload, zw_laload, zw_aaload, zw_iastore, zw_castore, zw_lastore, zw_aastore, zw_alen, zw_newa, zw_newq, zw_new, zw_oini, zw_invs, zw_invv, zw_copy, zw_invt, zw_iret, zw_lret, zw_ret, zc_r, zc_a, zk_rvs, zk_cat2, List.getElem?_cons_zero, List.getElem?_cons_succ, Bool.false_eq_true, and_false, false_and, and_true, true_and, reduceIte, Nat.reduceEqDiff, Nat.reduceLT, Nat.reduceAdd, List.cons_append, List.nil_append, Option.toList_some, Option.toList_none, zk_cat_i, zk_cat_r, zk_cat_n, zk_same, Option.some.injEq, Value.int.injEq, Value.long.injEq, eq_self, false_implies, true_implies, zf_4, zf_9, zf_10, ho, hP2, zl_X, zc_n10, zc_cl, zc_in, not_true_eq_false, not_false_eq_true, ee1, ee2]
  refine hZ B_X10_readPerson_58 _ _ _ _ _ _ _ k_X10_readPerson_58 ?_
  simp only [B_X10_readPerson_58, zk_ldi_s, zk_ldl_s, zk_lda_r, zk_lda_a, zk_lda_n, zk_iv_s, zr_nil, zr_cons, zp_0, zp_s, zt_0, zt_s, zt2_0, zt2_s, zw_iconst, zw_bipush, zw_sipush, zw_lconst, zw_ldcs, zw_ldc, zw_ldcw, zw_ldc2, zw_iload_n, zw_lload_n, zw_aload_n, zw_istore_n, zw_lstore_n, zw_astore_n, zw_astoreN_n, zw_iload, zw_lload, zw_aload, zw_istore, zw_lstore, zw_astore, zw_astoreN, zw_iinc, zw_iadd, zw_isub, zw_imul, zw_iand, zw_ior, zw_ixor, zw_ishl, zw_ishr, zw_iushr, zw_idiv, zw_irem, zw_ladd, zw_lsub, zw_lmul, zw_land, zw_ldiv, zw_lrem, zw_lcmp, zw_i2l, zw_l2i, zw_dup, zw_pop, zw_dup2i, zw_goto, zw_if_eq, zw_if_ne, zw_if_lt, zw_if_ge, zw_if_gt, zw_if_le, zw_ic_eq, zw_ic_ne, zw_ic_lt, zw_ic_ge, zw_ic_gt, zw_ic_le, zw_ifnn, zw_ifnnN, zw_tsw, zw_lsw, zw_getf_l, zw_getf_r, zw_getf_i, zw_getf_z, zw_putf_i, zw_putf_z, zw_putf_l, zw_putf_r, zw_iaload, zw_caload, zw_laload, zw_aaload, zw_iastore, zw_castore, zw_lastore, zw_aastore, zw_alen, zw_newa, zw_newq, zw_new, zw_oini, zw_invs, zw_invv, zw_copy, zw_invt, zw_iret, zw_lret, zw_ret, zc_r, zc_a, zk_rvs, zk_cat2, List.getElem?_cons_zero, List.getElem?_cons_succ, Bool.false_eq_true, and_false, false_and, and_true, true_and, reduceIte, Nat.reduceEqDiff, Nat.reduceLT, Nat.reduceAdd, List.cons_append, List.nil_append, Option.toList_some, Option.toList_none, zk_cat_i, zk_cat_r, zk_cat_n, zk_same, Option.some.injEq, Value.int.injEq, Value.long.injEq, eq_self, false_implies, true_implies, zf_4, zf_9, zf_10, ho, hP2, zl_X, zc_n10, zc_cl, zc_in, not_true_eq_false, not_false_eq_true, o0, p4, o8, l8, nI_clamp (show vNq D.1 < 2 ^ 31 by omega), vp_in_nI e4' (by omega)]
  rw [← hres]
  generalize hM4 : zk_up M3 (v + 8) (vNq D.1) (nI x) = M4
  have r4 : ∀ q, q ≠ v + 8 → M4 q = M3 q := fun q hq => by rw [← hM4, zk_up_row hq]
  have r3 : ∀ q, q ≠ 7 → q ≠ v + 8 → M4 q = M1 q := fun q h7 hq => by rw [r4 q hq, x32 q h7, x22 q h7]
  have r1 : ∀ q, q ≠ 7 → q ≠ v + 3 → q ≠ v + 4 → q ≠ v + 8 → M4 q = M q := fun q h7 h3 h4 h8 => by rw [r3 q h7 h8, rr q h7 h3 h4]
  refine ⟨Or.inr rfl, rfl, zt_at_cg x31 (r4 5 (by omega)) (r4 6 (by omega)) (r4 7 (by omega)), ⟨w, ?_, by omega⟩, fun q a b c d => r1 q a (by omega) (by omega) (by omega), by rw [r4 7 (by omega), x33, x23, x13]⟩
  obtain ⟨g1, -, gg3, gg4, gg5, gg6, gg7, gg8⟩ := h1
  have AP := zn_R_P (k := 1) A2 rfl x12' e3
  refine ⟨⟨by rw [r1 _ (by omega) (by omega) (by omega) (by omega)]; exact g1, by rw [r3 _ (by omega) (by omega)]; exact x12'.1, by rw [r1 _ (by omega) (by omega) (by omega) (by omega)]; exact gg3, fun a b ha hb => by rw [r1 _ (by omega) (by omega) (by omega) (by omega)]; exact gg4 a b ha hb, fun t ht => by rw [r1 _ (by omega) (by omega) (by omega) (by omega)]; exact gg5 t ht, fun t ht => by rw [r1 _ (by omega) (by omega) (by omega) (by omega)]; exact gg6 t ht, fun j hj => zv_rule_fr (gg7 j hj) (r1 _ (by omega) (by omega) (by omega) (by omega)) (r1 _ (by omega) (by omega) (by omega) (by omega)) (r1 _ (by omega) (by omega) (by omega) (by omega)), by rw [r1 _ (by omega) (by omega) (by omega) (by omega)]; exact gg8⟩, ⟨?_, ?_, ?_⟩, ⟨by rw [r1 _ (by omega) (by omega) (by omega) (by omega)]; exact mm.1, by rw [r3 _ (by omega) (by omega), x12'.2.2.2.1 1 (by decide)]; exact mm.2.1, by rw [r1 _ (by omega) (by omega) (by omega) (by omega)]; exact mm.2.2⟩, fun i hi => ?_, fun c d hc hd => by rw [r1 _ (by omega) (by omega) (by omega) (by omega)]; exact h5 c d hc hd, by rw [r1 _ (by omega) (by omega) (by omega) (by omega)]; exact h6, h7, fun j cs' hj hr9 => by rw [r1 _ (by omega) (by omega) (by omega) (by omega)]; exact h8 j cs' hj hr9⟩
  · show zn_R M4 (v + 1) (v + 2) (vs_nmA D 1 nw 0) (vNp D.1)
    rw [vs_nmA_ne (by decide)]
    exact zn_R_fr A1 (r1 _ (by omega) (by omega) (by omega) (by omega)) (r1 _ (by omega) (by omega) (by omega) (by omega))
  · exact zn_R_fr AP (r3 _ (by omega) (by omega)) (r3 _ (by omega) (by omega))
  · show zn_R M4 (v + 5) (v + 6) (vs_nmA D 1 nw 2) (vNt D.1)
    rw [vs_nmA_ne (by decide)]
    exact zn_R_fr A3 (r1 _ (by omega) (by omega) (by omega) (by omega)) (r1 _ (by omega) (by omega) (by omega) (by omega))
  · show M4 (v + 8) i = nI (sp_up1 (dHm D) (vNq D.1) x i) ∧ sp_up1 (dHm D) (vNq D.1) x i < 6
    unfold sp_up1
    by_cases e : i = vNq D.1
    · rw [if_pos e, e, ← hM4, zk_up_at]
      exact ⟨rfl, by omega⟩
    · rw [if_neg e, ← hM4, zk_up_ne (by omega), x32 _ (by omega), x22 _ (by omega), rr _ (by omega) (by omega) (by omega)]
      exact h4 i hi
end CS1
