/-! ===== Machine.run ===== -/
def B_X2_run_0 : List zk_I := [(.iconst 0, 1, 0, 0, 0, 0, []), (.istore 4, 2, 0, 4, 0, 0, []), (.iload_n 2, 1, 0, 2, 0, 0, []), (.iconst 0, 1, 0, 0, 0, 0, []), (.invokestatic 55, 3, 0, 2, 317, 15, []), (.istore 5, 2, 0, 5, 0, 0, [])]
theorem k_X2_run_0 : zk_ckb 2 false (zk_m 39) B_X2_run_0 0 = true := by decide +kernel
def B_X2_run_10 : List zk_I := [(.iload 5, 2, 0, 5, 0, 0, []), (.iload_n 3, 1, 0, 3, 0, 0, []), (.if_icmp .ge 168, 3, 0, 181, 0, 0, []), (.iload 5, 2, 0, 5, 0, 0, []), (.aload_n 1, 1, 0, 1, 0, 0, []), (.arraylength, 1, 0, 0, 0, 0, []), (.if_icmp .ge 161, 3, 0, 181, 0, 0, []), (.aload_n 1, 1, 0, 1, 0, 0, []), (.iload 5, 2, 0, 5, 0, 0, []), (.iaload, 1, 0, 0, 0, 0, []), (.istore 6, 2, 0, 6, 0, 0, []), (.iload 6, 2, 0, 6, 0, 0, []), (.ifCond .ge 10, 3, 0, 41, 0, 0, []), (.iload 6, 2, 0, 6, 0, 0, []), (.bipush (-14), 2, (-14), 0, 0, 0, []), (.if_icmp .gt 39, 3, 0, 77, 0, 0, [])]
theorem k_X2_run_10 : zk_ckb 2 false (zk_m 39) B_X2_run_10 10 = true := by decide +kernel
def B_X2_run_41 : List zk_I := [(.iload 4, 2, 0, 4, 0, 0, []), (.bipush 64, 2, 64, 0, 0, 0, []), (.if_icmp .ge 130, 3, 0, 175, 0, 0, []), (.aload_n 0, 1, 0, 0, 0, 0, []), (.getfield 9, 3, 0, 2, 0, 0, []), (.iload 4, 2, 0, 4, 0, 0, []), (.iload 6, 2, 0, 6, 0, 0, []), (.ifCond .lt 8, 3, 0, 64, 0, 0, []), (.iload 6, 2, 0, 6, 0, 0, []), (.goto 9, 3, 0, 70, 0, 0, [])]
theorem k_X2_run_41 : zk_ckb 2 false (zk_m 39) B_X2_run_41 41 = true := by decide +kernel
def B_X2_run_64 : List zk_I := [(.aload_n 0, 1, 0, 0, 0, 0, []), (.iload 6, 2, 0, 6, 0, 0, []), (.invokevirtual 60, 3, 0, 2, 40, 2, [])]
theorem k_X2_run_64 : zk_ckb 2 false (zk_m 39) B_X2_run_64 64 = true := by decide +kernel
def B_X2_run_70 : List zk_I := [(.iastore, 1, 0, 0, 0, 0, []), (.iinc 4 1, 3, 1, 4, 0, 0, []), (.goto 101, 3, 0, 175, 0, 0, [])]
theorem k_X2_run_70 : zk_ckb 2 false (zk_m 39) B_X2_run_70 70 = true := by decide +kernel
def B_X2_run_77 : List zk_I := [(.iload 6, 2, 0, 6, 0, 0, []), (.bipush (-11), 2, (-11), 0, 0, 0, []), (.if_icmp .lt 45, 3, 0, 126, 0, 0, []), (.iload 4, 2, 0, 4, 0, 0, []), (.iconst 2, 1, 2, 0, 0, 0, []), (.if_icmp .lt 88, 3, 0, 175, 0, 0, []), (.iinc 4 (-1), 3, (-1), 4, 0, 0, []), (.aload_n 0, 1, 0, 0, 0, 0, []), (.getfield 9, 3, 0, 2, 0, 0, []), (.iload 4, 2, 0, 4, 0, 0, []), (.iconst 1, 1, 1, 0, 0, 0, []), (.isub, 1, 0, 0, 0, 0, []), (.iload 6, 2, 0, 6, 0, 0, []), (.aload_n 0, 1, 0, 0, 0, 0, []), (.getfield 9, 3, 0, 2, 0, 0, []), (.iload 4, 2, 0, 4, 0, 0, []), (.iconst 1, 1, 1, 0, 0, 0, []), (.isub, 1, 0, 0, 0, 0, []), (.iaload, 1, 0, 0, 0, 0, []), (.aload_n 0, 1, 0, 0, 0, 0, []), (.getfield 9, 3, 0, 2, 0, 0, []), (.iload 4, 2, 0, 4, 0, 0, []), (.iaload, 1, 0, 0, 0, 0, []), (.invokestatic 63, 3, 0, 3, 42, 2, []), (.iastore, 1, 0, 0, 0, 0, []), (.goto 52, 3, 0, 175, 0, 0, [])]
theorem k_X2_run_77 : zk_ckb 2 false (zk_m 39) B_X2_run_77 77 = true := by decide +kernel
def B_X2_run_126 : List zk_I := [(.iload 4, 2, 0, 4, 0, 0, []), (.iconst 1, 1, 1, 0, 0, 0, []), (.if_icmp .lt 46, 3, 0, 175, 0, 0, []), (.aload_n 0, 1, 0, 0, 0, 0, []), (.getfield 9, 3, 0, 2, 0, 0, []), (.iload 4, 2, 0, 4, 0, 0, []), (.iconst 1, 1, 1, 0, 0, 0, []), (.isub, 1, 0, 0, 0, 0, []), (.iload 6, 2, 0, 6, 0, 0, []), (.bipush (-13), 2, (-13), 0, 0, 0, []), (.if_icmp .ne 19, 3, 0, 163, 0, 0, []), (.aload_n 0, 1, 0, 0, 0, 0, []), (.aload_n 0, 1, 0, 0, 0, 0, []), (.getfield 9, 3, 0, 2, 0, 0, []), (.iload 4, 2, 0, 4, 0, 0, []), (.iconst 1, 1, 1, 0, 0, 0, []), (.isub, 1, 0, 0, 0, 0, []), (.iaload, 1, 0, 0, 0, 0, []), (.invokevirtual 67, 3, 0, 2, 41, 2, []), (.goto 14, 3, 0, 174, 0, 0, [])]
theorem k_X2_run_126 : zk_ckb 2 false (zk_m 39) B_X2_run_126 126 = true := by decide +kernel
def B_X2_run_163 : List zk_I := [(.iconst 1, 1, 1, 0, 0, 0, []), (.aload_n 0, 1, 0, 0, 0, 0, []), (.getfield 9, 3, 0, 2, 0, 0, []), (.iload 4, 2, 0, 4, 0, 0, []), (.iconst 1, 1, 1, 0, 0, 0, []), (.isub, 1, 0, 0, 0, 0, []), (.iaload, 1, 0, 0, 0, 0, []), (.isub, 1, 0, 0, 0, 0, [])]
theorem k_X2_run_163 : zk_ckb 2 false (zk_m 39) B_X2_run_163 163 = true := by decide +kernel
def B_X2_run_174 : List zk_I := [(.iastore, 1, 0, 0, 0, 0, [])]
theorem k_X2_run_174 : zk_ckb 2 false (zk_m 39) B_X2_run_174 174 = true := by decide +kernel
def B_X2_run_175 : List zk_I := [(.iinc 5 1, 3, 1, 5, 0, 0, []), (.goto (-168), 3, 0, 10, 0, 0, [])]
theorem k_X2_run_175 : zk_ckb 2 false (zk_m 39) B_X2_run_175 175 = true := by decide +kernel
def B_X2_run_181 : List zk_I := [(.iload 4, 2, 0, 4, 0, 0, []), (.ifCond .le 12, 3, 0, 195, 0, 0, []), (.aload_n 0, 1, 0, 0, 0, 0, []), (.getfield 9, 3, 0, 2, 0, 0, []), (.iconst 0, 1, 0, 0, 0, 0, []), (.iaload, 1, 0, 0, 0, 0, []), (.goto 4, 3, 0, 196, 0, 0, [])]
theorem k_X2_run_181 : zk_ckb 2 false (zk_m 39) B_X2_run_181 181 = true := by decide +kernel
def B_X2_run_195 : List zk_I := [(.iconst 0, 1, 0, 0, 0, 0, []), (.ireturn, 1, 0, 0, 0, 0, [])]
theorem k_X2_run_195 : zk_ckb 2 false (zk_m 39) B_X2_run_195 195 = true := by decide +kernel
def B_X2_run_196 : List zk_I := [(.ireturn, 1, 0, 0, 0, 0, [])]
theorem k_X2_run_196 : zk_ckb 2 false (zk_m 39) B_X2_run_196 196 = true := by decide +kernel
def sp_stp (e pn : Int → Int) (c : Int) (stk : List Int) : Option (List Int) :=
  if 0 ≤ c then (if stk.length < 64 then some (c :: stk) else none)
  else if c ≤ -14 then (if stk.length < 64 then some (e c :: stk) else none)
  else if -11 ≤ c then (match stk with
    | b :: a :: r => if c ≤ -10 then (if (a = 0 ∨ a = 1) ∧ (b = 0 ∨ b = 1) then some (sp_join c a b :: r) else none) else some (sp_join c a b :: r)
    | _ => none)
  else (match stk with
    | a :: r => if c = -13 then some (pn a :: r) else if a = 0 ∨ a = 1 then some ((1 - a) :: r) else none
    | [] => none)
def sp_rn (e pn : Int → Int) : List Int → List Int → Option (List Int)
  | [], stk => some stk
  | c :: cs, stk => (sp_stp e pn c stk).bind (sp_rn e pn cs)
/-- a stack in a row -/
def sp_sk (f : Nat → Int32) : List Int → Prop
  | [] => True
  | a :: r => f r.length = iI a ∧ sp_v a ∧ sp_sk f r
theorem sp_sk_up {f : Nat → Int32} {k : Nat} {x : Int32} : ∀ {s : List Int}, s.length ≤ k → sp_sk f s → sp_sk (upd f k x) s
  | [], _, _ => trivial
  | a :: r, h, hs => by
    simp only [List.length_cons] at h
    refine ⟨?_, hs.2.1, sp_sk_up (by omega) hs.2.2⟩
    rw [pk_un (by omega)]
    exact hs.1
theorem zi_0 : (0 : Int32) = iI 0 := by decide
theorem zi_m11 : (-11 : Int32) = iI (-11) := by decide
theorem zi_m13 : (-13 : Int32) = iI (-13) := by decide
theorem zi_m14 : (-14 : Int32) = iI (-14) := by decide
theorem zi_v0 {k : Nat} (h : 0 < k) (h2 : k < 2 ^ 31) : vp_in 0 k := vp_in_nI (n := 0) h h2
theorem ofNat_nI (k : Nat) : Int32.ofNat k = nI k := rfl
theorem iI_sub1 (k : Nat) : nI (k + 1) + (-1) = nI k := pk_m1 k
theorem nI_s1 (k : Nat) : nI (k + 1) - 1 = nI k := nI_pred k
section RUN
variable {G : zk_G} {n : Nat} {M : zk_MI} {L : zk_ML} {P : zk_MP} {Z : zk_K} {Post : zk_Po}
/-- the locals of run: the row, from, to, top, i, step -/
abbrev rn_l (q f t : Nat) (top i : Nat) (v : Value) : List Value := [.ref 1, .ref q, .int (nI f), .int (nI t), .int (nI top), .int (nI i), v]
theorem rn_175 (hZ : zk_St G (zk_m 39) 2 false 2 n Post Z) {q f t top i : Nat} {v : Value} (h : Z 10 (rn_l q f t top (i + 1) v) [] n M L P) : Z 175 (rn_l q f t top i v) [] n M L P := by
  refine hZ B_X2_run_175 _ _ _ _ _ _ _ k_X2_run_175 ?_
  simp only [B_X2_run_175, zk_ldi_s, zk_ldl_s, zk_lda_r, zk_lda_a, zk_lda_n, zk_iv_s, zr_nil, zr_cons, zp_0, zp_s, zt_0, zt_s, zt2_0, zt2_s, zw_iconst, zw_bipush, zw_sipush, zw_lconst, zw_ldcs, zw_ldc, zw_ldcw, zw_ldc2, zw_iload_n, zw_lload_n, zw_aload_n, zw_istore_n, zw_lstore_n, zw_astore_n, zw_astoreN_n, zw_iload, zw_lload, zw_aload, zw_istore, zw_lstore, zw_astore, zw_astoreN, zw_iinc, zw_iadd, zw_isub, zw_imul, zw_iand, zw_ior, zw_ixor, zw_ishl, zw_ishr, zw_iushr, zw_idiv, zw_irem, zw_ladd, zw_lsub, zw_lmul, zw_land, zw_ldiv, zw_lrem, zw_lcmp, zw_i2l, zw_l2i, zw_dup, zw_pop, zw_dup2i, zw_goto, zw_if_eq, zw_if_ne, zw_if_lt, zw_if_ge, zw_if_gt, zw_if_le, zw_ic_eq, zw_ic_ne, zw_ic_lt, zw_ic_ge, zw_ic_gt, zw_ic_le, zw_ifnn, zw_ifnnN, zw_tsw, zw_lsw, zw_getf_l, zw_getf_r, zw_getf_i, zw_getf_z, zw_putf_i, zw_putf_z, zw_putf_l, zw_putf_r, zw_iaload, zw_caload, zw_laload, zw_aaload, zw_iastore, zw_castore, zw_lastore, zw_aastore, zw_alen, zw_newa, zw_newq, zw_new, zw_oini, zw_invs, zw_invv, zw_copy, zw_invt, zw_iret, zw_lret, zw_ret, zc_r, zc_a, zk_rvs, zk_cat2, List.getElem?_cons_zero, List.getElem?_cons_succ, Bool.false_eq_true, and_false, false_and, and_true, true_and, reduceIte, Nat.reduceEqDiff, Nat.reduceLT, Nat.reduceAdd, List.cons_append, List.nil_append, Option.toList_some, Option.toList_none, zk_cat_i, zk_cat_r, zk_cat_n, zk_same, Option.some.injEq, Value.int.injEq, Value.long.injEq, eq_self, false_implies, true_implies, zf_2, rn_l, nI_1]
  exact h
theorem rn_70 (hn : 154 ≤ n) (hZ : zk_St G (zk_m 39) 2 false 2 n Post Z) {q f t k i : Nat} {v : Value} {x : Int32} (hk : k < 64) (h : Z 175 (rn_l q f t (k + 1) i v) [] n (zk_up M 2 k x) L P) : Z 70 (rn_l q f t k i v) [.int x, .int (nI k), .ref 2] n M L P := by
  have ho := zo_X hn
  have g3 : (nI k).toNatClampNeg = k := nI_clamp (by omega)
  refine hZ B_X2_run_70 _ _ _ _ _ _ _ k_X2_run_70 ?_
  simp only [B_X2_run_70, zk_ldi_s, zk_ldl_s, zk_lda_r, zk_lda_a, zk_lda_n, zk_iv_s, zr_nil, zr_cons, zp_0, zp_s, zt_0, zt_s, zt2_0, zt2_s, zw_iconst, zw_bipush, zw_sipush, zw_lconst, zw_ldcs, zw_ldc, zw_ldcw, zw_ldc2, zw_iload_n, zw_lload_n, zw_aload_n, zw_istore_n, zw_lstore_n, zw_astore_n, zw_astoreN_n, zw_iload, zw_lload, zw_aload, zw_istore, zw_lstore, zw_astore, zw_astoreN, zw_iinc, zw_iadd, zw_isub, zw_imul, zw_iand, zw_ior, zw_ixor, zw_ishl, zw_ishr, zw_iushr, zw_idiv, zw_irem, zw_ladd, zw_lsub, zw_lmul, zw_land, zw_ldiv, zw_lrem, zw_lcmp, zw_i2l, zw_l2i, zw_dup, zw_pop, zw_dup2i, zw_goto, zw_if_eq, zw_if_ne, zw_if_lt, zw_if_ge, zw_if_gt, zw_if_le, zw_ic_eq, zw_ic_ne, zw_ic_lt, zw_ic_ge, zw_ic_gt, zw_ic_le, zw_ifnn, zw_ifnnN, zw_tsw, zw_lsw, zw_getf_l, zw_getf_r, zw_getf_i, zw_getf_z, zw_putf_i, zw_putf_z, zw_putf_l, zw_putf_r, zw_iaload, zw_caload, zw_laload, zw_aaload, zw_iastore, zw_castore, zw_lastore, zw_aastore, zw_alen, zw_newa, zw_newq, zw_new, zw_oini, zw_invs, zw_invv, zw_copy, zw_invt, zw_iret, zw_lret, zw_ret, zc_r, zc_a, zk_rvs, zk_cat2, List.getElem?_cons_zero, List.getElem?_cons_succ, Bool.false_eq_true, and_false, false_and, and_true, true_and, reduceIte, Nat.reduceEqDiff, Nat.reduceLT, Nat.reduceAdd, List.cons_append, List.nil_append, Option.toList_some, Option.toList_none, zk_cat_i, zk_cat_r, zk_cat_n, zk_same, Option.some.injEq, Value.int.injEq, Value.long.injEq, eq_self, false_implies, true_implies, zf_2, rn_l, ho, zl_X, g3, nI_1]
  exact ⟨vp_in_nI (by omega) (by omega), h⟩
theorem rn_174 (hn : 154 ≤ n) (hZ : zk_St G (zk_m 39) 2 false 2 n Post Z) {q f t k i : Nat} {v : Value} {x : Int32} (hk : k < 64) (h : Z 175 (rn_l q f t (k + 1) i v) [] n (zk_up M 2 k x) L P) : Z 174 (rn_l q f t (k + 1) i v) [.int x, .int (nI k), .ref 2] n M L P := by
  have ho := zo_X hn
  have g3 : (nI k).toNatClampNeg = k := nI_clamp (by omega)
  refine hZ B_X2_run_174 _ _ _ _ _ _ _ k_X2_run_174 ?_
  simp only [B_X2_run_174, zk_ldi_s, zk_ldl_s, zk_lda_r, zk_lda_a, zk_lda_n, zk_iv_s, zr_nil, zr_cons, zp_0, zp_s, zt_0, zt_s, zt2_0, zt2_s, zw_iconst, zw_bipush, zw_sipush, zw_lconst, zw_ldcs, zw_ldc, zw_ldcw, zw_ldc2, zw_iload_n, zw_lload_n, zw_aload_n, zw_istore_n, zw_lstore_n, zw_astore_n, zw_astoreN_n, zw_iload, zw_lload, zw_aload, zw_istore, zw_lstore, zw_astore, zw_astoreN, zw_iinc, zw_iadd, zw_isub, zw_imul, zw_iand, zw_ior, zw_ixor, zw_ishl, zw_ishr, zw_iushr, zw_idiv, zw_irem, zw_ladd, zw_lsub, zw_lmul, zw_land, zw_ldiv, zw_lrem, zw_lcmp, zw_i2l, zw_l2i, zw_dup, zw_pop, zw_dup2i, zw_goto, zw_if_eq, zw_if_ne, zw_if_lt, zw_if_ge, zw_if_gt, zw_if_le, zw_ic_eq, zw_ic_ne, zw_ic_lt, zw_ic_ge, zw_ic_gt, zw_ic_le, zw_ifnn, zw_ifnnN, zw_tsw, zw_lsw, zw_getf_l, zw_getf_r, zw_getf_i, zw_getf_z, zw_putf_i, zw_putf_z, zw_putf_l, zw_putf_r, zw_iaload, zw_caload, zw_laload, zw_aaload, zw_iastore, zw_castore, zw_lastore, zw_aastore, zw_alen, zw_newa, zw_newq, zw_new, zw_oini, zw_invs, zw_invv, zw_copy, zw_invt, zw_iret, zw_lret, zw_ret, zc_r, zc_a, zk_rvs, zk_cat2, List.getElem?_cons_zero, List.getElem?_cons_succ, Bool.false_eq_true, and_false, false_and, and_true, true_and, reduceIte, Nat.reduceEqDiff, Nat.reduceLT, Nat.reduceAdd, List.cons_append, List.nil_append, Option.toList_some, Option.toList_none, zk_cat_i, zk_cat_r, zk_cat_n, zk_same, Option.some.injEq, Value.int.injEq, Value.long.injEq, eq_self, false_implies, true_implies, zf_2, rn_l, ho, zl_X, g3]
  exact ⟨vp_in_nI (by omega) (by omega), h⟩
theorem rn_41 (hn : 154 ≤ n) (hP : zs_X P) (hZ : zk_St G (zk_m 39) 2 false 2 n Post Z) {q f t k i : Nat} {c : Int} (hc1 : -22 < c) (hc2 : c ≤ 9999) (hcc : 0 ≤ c ∨ c ≤ -14) (hk : k < 64) (h : Z 70 (rn_l q f t k i (.int (iI c))) [.int (if 0 ≤ c then iI c else M 3 (-14 - c).toNat), .int (nI k), .ref 2] n M L P) : Z 41 (rn_l q f t k i (.int (iI c))) [] n M L P := by
  have ho := zo_X hn
  have hP2 := hP
  unfold zs_X at hP2
  have g1 : ¬ (64 : Int32) ≤ nI k := by rw [fa_lit 64, nI_leI (by omega) (by omega)]; omega
  have g2 : (iI c < 0) = (c < 0) := by rw [zi_0, iI_lt (by omega) (by omega) (by omega) (by omega)]
  refine hZ B_X2_run_41 _ _ _ _ _ _ _ k_X2_run_41 ?_
  simp only [B_X2_run_41, zk_ldi_s, zk_ldl_s, zk_lda_r, zk_lda_a, zk_lda_n, zk_iv_s, zr_nil, zr_cons, zp_0, zp_s, zt_0, zt_s, zt2_0, zt2_s, zw_iconst, zw_bipush, zw_sipush, zw_lconst, zw_ldcs, zw_ldc, zw_ldcw, zw_ldc2, zw_iload_n, zw_lload_n, zw_aload_n, zw_istore_n, zw_lstore_n, zw_astore_n, zw_astoreN_n, zw_iload, zw_lload, zw_aload, zw_istore, zw_lstore, zw_astore, zw_astoreN, zw_iinc, zw_iadd, zw_isub, zw_imul, zw_iand, zw_ior, zw_ixor, zw_ishl, zw_ishr, zw_iushr, zw_idiv, zw_irem, zw_ladd, zw_lsub, zw_lmul, zw_land, zw_ldiv, zw_lrem, zw_lcmp, zw_i2l, zw_l2i, zw_dup, zw_pop, zw_dup2i, zw_goto, zw_if_eq, zw_if_ne, zw_if_lt, zw_if_ge, zw_if_gt, zw_if_le, zw_ic_eq, zw_ic_ne, zw_ic_lt, zw_ic_ge, zw_ic_gt, zw_ic_le, zw_ifnn, zw_ifnnN, zw_tsw, zw_lsw, zw_getf_l, zw_getf_r, zw_getf_i, zw_getf_z, zw_putf_i, zw_putf_z, zw_putf_l, zw_putf_r, zw_iaload, zw_caload, zw_laload, zw_aaload, zw_iastore, zw_castore, zw_lastore, zw_aastore, zw_alen, zw_newa, zw_newq, zw_new, zw_oini, zw_invs, zw_invv, zw_copy, zw_invt, zw_iret, zw_lret, zw_ret, zc_r, zc_a, zk_rvs, zk_cat2, List.getElem?_cons_zero, List.getElem?_cons_succ, Bool.false_eq_true, and_false, false_and, and_true, true_and, reduceIte, Nat.reduceEqDiff, Nat.reduceLT, Nat.reduceAdd, List.cons_append, List.nil_append, Option.toList_some, Option.toList_none, zk_cat_i, zk_cat_r, zk_cat_n, zk_same, Option.some.injEq, Value.int.injEq, Value.long.injEq, eq_self, false_implies, true_implies, zf_2, rn_l, g1, g2, not_false_eq_true, ho, hP2]
  refine ⟨fun hz => ?_, fun hz => ?_⟩
  · refine hZ B_X2_run_64 _ _ _ _ _ _ _ k_X2_run_64 ?_
    simp only [B_X2_run_64, zk_ldi_s, zk_ldl_s, zk_lda_r, zk_lda_a, zk_lda_n, zk_iv_s, zr_nil, zr_cons, zp_0, zp_s, zt_0, zt_s, zt2_0, zt2_s, zw_iconst, zw_bipush, zw_sipush, zw_lconst, zw_ldcs, zw_ldc, zw_ldcw, zw_ldc2, zw_iload_n, zw_lload_n, zw_aload_n, zw_istore_n, zw_lstore_n, zw_astore_n, zw_astoreN_n, zw_iload, zw_lload, zw_aload, zw_istore, zw_lstore, zw_astore, zw_astoreN, zw_iinc, zw_iadd, zw_isub, zw_imul, zw_iand, zw_ior, zw_ixor, zw_ishl, zw_ishr, zw_iushr, zw_idiv, zw_irem, zw_ladd, zw_lsub, zw_lmul, zw_land, zw_ldiv, zw_lrem, zw_lcmp, zw_i2l, zw_l2i, zw_dup, zw_pop, zw_dup2i, zw_goto, zw_if_eq, zw_if_ne, zw_if_lt, zw_if_ge, zw_if_gt, zw_if_le, zw_ic_eq, zw_ic_ne, zw_ic_lt, zw_ic_ge, zw_ic_gt, zw_ic_le, zw_ifnn, zw_ifnnN, zw_tsw, zw_lsw, zw_getf_l, zw_getf_r, zw_getf_i, zw_getf_z, zw_putf_i, zw_putf_z, zw_putf_l, zw_putf_r, zw_iaload, zw_caload, zw_laload, zw_aaload, zw_iastore, zw_castore, zw_lastore, zw_aastore, zw_alen, zw_newa, zw_newq, zw_new, zw_oini, zw_invs, zw_invv, zw_copy, zw_invt, zw_iret, zw_lret, zw_ret, zc_r, zc_a, zk_rvs, zk_cat2, List.getElem?_cons_zero, List.getElem?_cons_succ, Bool.false_eq_true, and_false, false_and, and_true, true_and, reduceIte, Nat.reduceEqDiff, Nat.reduceLT, Nat.reduceAdd, List.cons_append, List.nil_append, Option.toList_some, Option.toList_none, zk_cat_i, zk_cat_r, zk_cat_n, zk_same, Option.some.injEq, Value.int.injEq, Value.long.injEq, eq_self, false_implies, true_implies, zf_2, ho]
    refine zk_callS (ct_toldBy hn hP c hc1 (by omega)) (by decide) (Nat.le_refl _) (Nat.le_of_ble_eq_true rfl) ?_
    simp only [zk_ldi_s, zk_ldl_s, zk_lda_r, zk_lda_a, zk_lda_n, zk_iv_s, zr_nil, zr_cons, zp_0, zp_s, zt_0, zt_s, zt2_0, zt2_s, zw_iconst, zw_bipush, zw_sipush, zw_lconst, zw_ldcs, zw_ldc, zw_ldcw, zw_ldc2, zw_iload_n, zw_lload_n, zw_aload_n, zw_istore_n, zw_lstore_n, zw_astore_n, zw_astoreN_n, zw_iload, zw_lload, zw_aload, zw_istore, zw_lstore, zw_astore, zw_astoreN, zw_iinc, zw_iadd, zw_isub, zw_imul, zw_iand, zw_ior, zw_ixor, zw_ishl, zw_ishr, zw_iushr, zw_idiv, zw_irem, zw_ladd, zw_lsub, zw_lmul, zw_land, zw_ldiv, zw_lrem, zw_lcmp, zw_i2l, zw_l2i, zw_dup, zw_pop, zw_dup2i, zw_goto, zw_if_eq, zw_if_ne, zw_if_lt, zw_if_ge, zw_if_gt, zw_if_le, zw_ic_eq, zw_ic_ne, zw_ic_lt, zw_ic_ge, zw_ic_gt, zw_ic_le, zw_ifnn, zw_ifnnN, zw_tsw, zw_lsw, zw_getf_l, zw_getf_r, zw_getf_i, zw_getf_z, zw_putf_i, zw_putf_z, zw_putf_l, zw_putf_r, zw_iaload, zw_caload, zw_laload, zw_aaload, zw_iastore, zw_castore, zw_lastore, zw_aastore, zw_alen, zw_newa, zw_newq, zw_new, zw_oini, zw_invs, zw_invv, zw_copy, zw_invt, zw_iret, zw_lret, zw_ret, zc_r, zc_a, zk_rvs, zk_cat2, List.getElem?_cons_zero, List.getElem?_cons_succ, Bool.false_eq_true, and_false, false_and, and_true, true_and, reduceIte, Nat.reduceEqDiff, Nat.reduceLT, Nat.reduceAdd, List.cons_append, List.nil_append, Option.toList_some, Option.toList_none, zk_cat_i, zk_cat_r, zk_cat_n, zk_same, Option.some.injEq, Value.int.injEq, Value.long.injEq, eq_self, false_implies, true_implies, zf_2]
    rw [if_neg (by omega)] at h
    exact h
  · rw [if_pos (by omega)] at h
    exact h
theorem rn_10 (hn : 154 ≤ n) (hZ : zk_St G (zk_m 39) 2 false 2 n Post Z) {q f t k i : Nat} {c : Int} {v : Value} (hq : zk_ok n q 20) (hql : zk_lay q = (20, 1600)) (hi : i < t) (ht : t ≤ 1600) (hc : M q i = iI c) (hc1 : -22 < c) (hc2 : c ≤ 9999) (h1 : (0 ≤ c ∨ c ≤ -14) → Z 41 (rn_l q f t k i (.int (iI c))) [] n M L P) (h2 : (-14 < c ∧ c < 0) → Z 77 (rn_l q f t k i (.int (iI c))) [] n M L P) : Z 10 (rn_l q f t k i v) [] n M L P := by
  have e1 : ¬ nI t ≤ nI i := by rw [nI_leI (by omega) (by omega)]; omega
  have e2 : ¬ nI 1600 ≤ nI i := by rw [nI_leI (by omega) (by omega)]; omega
  have e3 : (nI i).toNatClampNeg = i := nI_clamp (by omega)
  have e5 : (0 ≤ iI c) = (0 ≤ c) := by rw [zi_0, iI_le (by omega) (by omega) (by omega) (by omega)]
  have e6 : ((-14 : Int32) < iI c) = (-14 < c) := by rw [zi_m14, iI_lt (by omega) (by omega) (by omega) (by omega)]
  have e7 : q < n := hq.1
  have e8 : vp_in (nI i) 1600 := vp_in_nI (by omega) (by omega)
  refine hZ B_X2_run_10 _ _ _ _ _ _ _ k_X2_run_10 ?_
  simp only [B_X2_run_10, zk_ldi_s, zk_ldl_s, zk_lda_r, zk_lda_a, zk_lda_n, zk_iv_s, zr_nil, zr_cons, zp_0, zp_s, zt_0, zt_s, zt2_0, zt2_s, zw_iconst, zw_bipush, zw_sipush, zw_lconst, zw_ldcs, zw_ldc, zw_ldcw, zw_ldc2, zw_iload_n, zw_lload_n, zw_aload_n, zw_istore_n, zw_lstore_n, zw_astore_n, zw_astoreN_n, zw_iload, zw_lload, zw_aload, zw_istore, zw_lstore, zw_astore, zw_astoreN, zw_iinc, zw_iadd, zw_isub, zw_imul, zw_iand, zw_ior, zw_ixor, zw_ishl, zw_ishr, zw_iushr, zw_idiv, zw_irem, zw_ladd, zw_lsub, zw_lmul, zw_land, zw_ldiv, zw_lrem, zw_lcmp, zw_i2l, zw_l2i, zw_dup, zw_pop, zw_dup2i, zw_goto, zw_if_eq, zw_if_ne, zw_if_lt, zw_if_ge, zw_if_gt, zw_if_le, zw_ic_eq, zw_ic_ne, zw_ic_lt, zw_ic_ge, zw_ic_gt, zw_ic_le, zw_ifnn, zw_ifnnN, zw_tsw, zw_lsw, zw_getf_l, zw_getf_r, zw_getf_i, zw_getf_z, zw_putf_i, zw_putf_z, zw_putf_l, zw_putf_r, zw_iaload, zw_caload, zw_laload, zw_aaload, zw_iastore, zw_castore, zw_lastore, zw_aastore, zw_alen, zw_newa, zw_newq, zw_new, zw_oini, zw_invs, zw_invv, zw_copy, zw_invt, zw_iret, zw_lret, zw_ret, zc_r, zc_a, zk_rvs, zk_cat2, List.getElem?_cons_zero, List.getElem?_cons_succ, Bool.false_eq_true, and_false, false_and, and_true, true_and, reduceIte, Nat.reduceEqDiff, Nat.reduceLT, Nat.reduceAdd, List.cons_append, List.nil_append, Option.toList_some, Option.toList_none, zk_cat_i, zk_cat_r, zk_cat_n, zk_same, Option.some.injEq, Value.int.injEq, Value.long.injEq, eq_self, false_implies, true_implies, zf_2, rn_l, e1, e2, not_false_eq_true, hq, hql, e3, hc, e5, e6, e7, e8, ofNat_nI, Nat.reduceLeDiff]
  exact ⟨fun h => h1 (Or.inl h), fun h => ⟨fun g => h2 ⟨g, by omega⟩, fun g => h1 (Or.inr (by omega))⟩⟩
theorem rn_end (hn : 154 ≤ n) (hP : zs_X P) (hZ : zk_St G (zk_m 39) 2 false 2 n Post Z) {q f t i : Nat} {v : Value} (hi : t ≤ i) (hi2 : i ≤ 1600) (h : Post (some (.int (M 2 0))) M L P) : Z 10 (rn_l q f t 1 i v) [] n M L P := by
  have ho := zo_X hn
  unfold zs_X at hP
  have e1 : nI t ≤ nI i := nI_le hi (by omega)
  refine hZ B_X2_run_10 _ _ _ _ _ _ _ k_X2_run_10 ?_
  simp only [B_X2_run_10, zk_ldi_s, zk_ldl_s, zk_lda_r, zk_lda_a, zk_lda_n, zk_iv_s, zr_nil, zr_cons, zp_0, zp_s, zt_0, zt_s, zt2_0, zt2_s, zw_iconst, zw_bipush, zw_sipush, zw_lconst, zw_ldcs, zw_ldc, zw_ldcw, zw_ldc2, zw_iload_n, zw_lload_n, zw_aload_n, zw_istore_n, zw_lstore_n, zw_astore_n, zw_astoreN_n, zw_iload, zw_lload, zw_aload, zw_istore, zw_lstore, zw_astore, zw_astoreN, zw_iinc, zw_iadd, zw_isub, zw_imul, zw_iand, zw_ior, zw_ixor, zw_ishl, zw_ishr, zw_iushr, zw_idiv, zw_irem, zw_ladd, zw_lsub, zw_lmul, zw_land, zw_ldiv, zw_lrem, zw_lcmp, zw_i2l, zw_l2i, zw_dup, zw_pop, zw_dup2i, zw_goto, zw_if_eq, zw_if_ne, zw_if_lt, zw_if_ge, zw_if_gt, zw_if_le, zw_ic_eq, zw_ic_ne, zw_ic_lt, zw_ic_ge, zw_ic_gt, zw_ic_le, zw_ifnn, zw_ifnnN, zw_tsw, zw_lsw, zw_getf_l, zw_getf_r, zw_getf_i, zw_getf_z, zw_putf_i, zw_putf_z, zw_putf_l, zw_putf_r, zw_iaload, zw_caload, zw_laload, zw_aaload, zw_iastore, zw_castore, zw_lastore, zw_aastore, zw_alen, zw_newa, zw_newq, zw_new, zw_oini, zw_invs, zw_invv, zw_copy, zw_invt, zw_iret, zw_lret, zw_ret, zc_r, zc_a, zk_rvs, zk_cat2, List.getElem?_cons_zero, List.getElem?_cons_succ, Bool.false_eq_true, and_false, false_and, and_true, true_and, reduceIte, Nat.reduceEqDiff, Nat.reduceLT, Nat.reduceAdd, List.cons_append, List.nil_append, Option.toList_some, Option.toList_none, zk_cat_i, zk_cat_r, zk_cat_n, zk_same, Option.some.injEq, Value.int.injEq, Value.long.injEq, eq_self, false_implies, true_implies, zf_2, rn_l, e1, not_true_eq_false]
  have e2 : ¬ nI 1 ≤ 0 := by decide
  refine hZ B_X2_run_181 _ _ _ _ _ _ _ k_X2_run_181 ?_
  simp only [B_X2_run_181, zk_ldi_s, zk_ldl_s, zk_lda_r, zk_lda_a, zk_lda_n, zk_iv_s, zr_nil, zr_cons, zp_0, zp_s, zt_0, zt_s, zt2_0, zt2_s, zw_iconst, zw_bipush, zw_sipush, zw_lconst, zw_ldcs, zw_ldc, zw_ldcw, zw_ldc2, zw_iload_n, zw_lload_n, zw_aload_n, zw_istore_n, zw_lstore_n, zw_astore_n, zw_astoreN_n, zw_iload, zw_lload, zw_aload, zw_istore, zw_lstore, zw_astore, zw_astoreN, zw_iinc, zw_iadd, zw_isub, zw_imul, zw_iand, zw_ior, zw_ixor, zw_ishl, zw_ishr, zw_iushr, zw_idiv, zw_irem, zw_ladd, zw_lsub, zw_lmul, zw_land, zw_ldiv, zw_lrem, zw_lcmp, zw_i2l, zw_l2i, zw_dup, zw_pop, zw_dup2i, zw_goto, zw_if_eq, zw_if_ne, zw_if_lt, zw_if_ge, zw_if_gt, zw_if_le, zw_ic_eq, zw_ic_ne, zw_ic_lt, zw_ic_ge, zw_ic_gt, zw_ic_le, zw_ifnn, zw_ifnnN, zw_tsw, zw_lsw, zw_getf_l, zw_getf_r, zw_getf_i, zw_getf_z, zw_putf_i, zw_putf_z, zw_putf_l, zw_putf_r, zw_iaload, zw_caload, zw_laload, zw_aaload, zw_iastore, zw_castore, zw_lastore, zw_aastore, zw_alen, zw_newa, zw_newq, zw_new, zw_oini, zw_invs, zw_invv, zw_copy, zw_invt, zw_iret, zw_lret, zw_ret, zc_r, zc_a, zk_rvs, zk_cat2, List.getElem?_cons_zero, List.getElem?_cons_succ, Bool.false_eq_true, and_false, false_and, and_true, true_and, reduceIte, Nat.reduceEqDiff, Nat.reduceLT, Nat.reduceAdd, List.cons_append, List.nil_append, Option.toList_some, Option.toList_none, zk_cat_i, zk_cat_r, zk_cat_n, zk_same, Option.some.injEq, Value.int.injEq, Value.long.injEq, eq_self, false_implies, true_implies, zf_2, e2, not_false_eq_true, ho, hP, zl_X]
  have e3 : vp_in 0 64 := zi_v0 (by decide) (by decide)
  have e4 : (0 : Int32).toNatClampNeg = 0 := by decide
  refine ⟨e3, ?_⟩
  refine hZ B_X2_run_196 _ _ _ _ _ _ _ k_X2_run_196 ?_
  simp only [B_X2_run_196, zk_ldi_s, zk_ldl_s, zk_lda_r, zk_lda_a, zk_lda_n, zk_iv_s, zr_nil, zr_cons, zp_0, zp_s, zt_0, zt_s, zt2_0, zt2_s, zw_iconst, zw_bipush, zw_sipush, zw_lconst, zw_ldcs, zw_ldc, zw_ldcw, zw_ldc2, zw_iload_n, zw_lload_n, zw_aload_n, zw_istore_n, zw_lstore_n, zw_astore_n, zw_astoreN_n, zw_iload, zw_lload, zw_aload, zw_istore, zw_lstore, zw_astore, zw_astoreN, zw_iinc, zw_iadd, zw_isub, zw_imul, zw_iand, zw_ior, zw_ixor, zw_ishl, zw_ishr, zw_iushr, zw_idiv, zw_irem, zw_ladd, zw_lsub, zw_lmul, zw_land, zw_ldiv, zw_lrem, zw_lcmp, zw_i2l, zw_l2i, zw_dup, zw_pop, zw_dup2i, zw_goto, zw_if_eq, zw_if_ne, zw_if_lt, zw_if_ge, zw_if_gt, zw_if_le, zw_ic_eq, zw_ic_ne, zw_ic_lt, zw_ic_ge, zw_ic_gt, zw_ic_le, zw_ifnn, zw_ifnnN, zw_tsw, zw_lsw, zw_getf_l, zw_getf_r, zw_getf_i, zw_getf_z, zw_putf_i, zw_putf_z, zw_putf_l, zw_putf_r, zw_iaload, zw_caload, zw_laload, zw_aaload, zw_iastore, zw_castore, zw_lastore, zw_aastore, zw_alen, zw_newa, zw_newq, zw_new, zw_oini, zw_invs, zw_invv, zw_copy, zw_invt, zw_iret, zw_lret, zw_ret, zc_r, zc_a, zk_rvs, zk_cat2, List.getElem?_cons_zero, List.getElem?_cons_succ, Bool.false_eq_true, and_false, false_and, and_true, true_and, reduceIte, Nat.reduceEqDiff, Nat.reduceLT, Nat.reduceAdd, List.cons_append, List.nil_append, Option.toList_some, Option.toList_none, zk_cat_i, zk_cat_r, zk_cat_n, zk_same, Option.some.injEq, Value.int.injEq, Value.long.injEq, eq_self, false_implies, true_implies, zf_2, e4]
  exact h
/-- one value is asked -/
theorem rn_un (hn : 154 ≤ n) (hP : zs_X P) (hZ : zk_St G (zk_m 39) 2 false 2 n Post Z) {q f t k i : Nat} {c a : Int} (hk : k < 64) (hc1 : -14 < c) (hc2 : c < -11) (ha : M 2 k = iI a) (hav : sp_v a) (h13 : c ≠ -13 → a = 0 ∨ a = 1) (h : Z 174 (rn_l q f t (k + 1) i (.int (iI c))) [.int (if c = -13 then sp_pn M a else iI (1 - a)), .int (nI k), .ref 2] n M L P) : Z 77 (rn_l q f t (k + 1) i (.int (iI c))) [] n M L P := by
  have ho := zo_X hn
  have hP2 := hP
  unfold zs_X at hP2
  have g1 : iI c < (-11 : Int32) := by rw [zi_m11, iI_lt (by omega) (by omega) (by omega) (by omega)]; exact hc2
  have k1 : ¬ nI (k + 1) < 1 := by rw [fa_lit 1, nI_ltI (by omega) (by omega)]; omega
  have k2 : (iI c = (-13 : Int32)) = (c = -13) := by rw [zi_m13, iI_eq (by omega) (by omega) (by omega) (by omega)]
  have k3 : (nI k).toNatClampNeg = k := nI_clamp (by omega)
  have k5 : vp_in (nI k) 64 := vp_in_nI (by omega) (by omega)
  refine hZ B_X2_run_77 _ _ _ _ _ _ _ k_X2_run_77 ?_
  simp only [B_X2_run_77, zk_ldi_s, zk_ldl_s, zk_lda_r, zk_lda_a, zk_lda_n, zk_iv_s, zr_nil, zr_cons, zp_0, zp_s, zt_0, zt_s, zt2_0, zt2_s, zw_iconst, zw_bipush, zw_sipush, zw_lconst, zw_ldcs, zw_ldc, zw_ldcw, zw_ldc2, zw_iload_n, zw_lload_n, zw_aload_n, zw_istore_n, zw_lstore_n, zw_astore_n, zw_astoreN_n, zw_iload, zw_lload, zw_aload, zw_istore, zw_lstore, zw_astore, zw_astoreN, zw_iinc, zw_iadd, zw_isub, zw_imul, zw_iand, zw_ior, zw_ixor, zw_ishl, zw_ishr, zw_iushr, zw_idiv, zw_irem, zw_ladd, zw_lsub, zw_lmul, zw_land, zw_ldiv, zw_lrem, zw_lcmp, zw_i2l, zw_l2i, zw_dup, zw_pop, zw_dup2i, zw_goto, zw_if_eq, zw_if_ne, zw_if_lt, zw_if_ge, zw_if_gt, zw_if_le, zw_ic_eq, zw_ic_ne, zw_ic_lt, zw_ic_ge, zw_ic_gt, zw_ic_le, zw_ifnn, zw_ifnnN, zw_tsw, zw_lsw, zw_getf_l, zw_getf_r, zw_getf_i, zw_getf_z, zw_putf_i, zw_putf_z, zw_putf_l, zw_putf_r, zw_iaload, zw_caload, zw_laload, zw_aaload, zw_iastore, zw_castore, zw_lastore, zw_aastore, zw_alen, zw_newa, zw_newq, zw_new, zw_oini, zw_invs, zw_invv, zw_copy, zw_invt, zw_iret, zw_lret, zw_ret, zc_r, zc_a, zk_rvs, zk_cat2, List.getElem?_cons_zero, List.getElem?_cons_succ, Bool.false_eq_true, and_false, false_and, and_true, true_and, reduceIte, Nat.reduceEqDiff, Nat.reduceLT, Nat.reduceAdd, List.cons_append, List.nil_append, Option.toList_some, Option.toList_none, zk_cat_i, zk_cat_r, zk_cat_n, zk_same, Option.some.injEq, Value.int.injEq, Value.long.injEq, eq_self, false_implies, true_implies, zf_2, rn_l, g1, not_true_eq_false]
  refine hZ B_X2_run_126 _ _ _ _ _ _ _ k_X2_run_126 ?_
  simp only [B_X2_run_126, zk_ldi_s, zk_ldl_s, zk_lda_r, zk_lda_a, zk_lda_n, zk_iv_s, zr_nil, zr_cons, zp_0, zp_s, zt_0, zt_s, zt2_0, zt2_s, zw_iconst, zw_bipush, zw_sipush, zw_lconst, zw_ldcs, zw_ldc, zw_ldcw, zw_ldc2, zw_iload_n, zw_lload_n, zw_aload_n, zw_istore_n, zw_lstore_n, zw_astore_n, zw_astoreN_n, zw_iload, zw_lload, zw_aload, zw_istore, zw_lstore, zw_astore, zw_astoreN, zw_iinc, zw_iadd, zw_isub, zw_imul, zw_iand, zw_ior, zw_ixor, zw_ishl, zw_ishr, zw_iushr, zw_idiv, zw_irem, zw_ladd, zw_lsub, zw_lmul, zw_land, zw_ldiv, zw_lrem, zw_lcmp, zw_i2l, zw_l2i, zw_dup, zw_pop, zw_dup2i, zw_goto, zw_if_eq, zw_if_ne, zw_if_lt, zw_if_ge, zw_if_gt, zw_if_le, zw_ic_eq, zw_ic_ne, zw_ic_lt, zw_ic_ge, zw_ic_gt, zw_ic_le, zw_ifnn, zw_ifnnN, zw_tsw, zw_lsw, zw_getf_l, zw_getf_r, zw_getf_i, zw_getf_z, zw_putf_i, zw_putf_z, zw_putf_l, zw_putf_r, zw_iaload, zw_caload, zw_laload, zw_aaload, zw_iastore, zw_castore, zw_lastore, zw_aastore, zw_alen, zw_newa, zw_newq, zw_new, zw_oini, zw_invs, zw_invv, zw_copy, zw_invt, zw_iret, zw_lret, zw_ret, zc_r, zc_a, zk_rvs, zk_cat2, List.getElem?_cons_zero, List.getElem?_cons_succ, Bool.false_eq_true, and_false, false_and, and_true, true_and, reduceIte, Nat.reduceEqDiff, Nat.reduceLT, Nat.reduceAdd, List.cons_append, List.nil_append, Option.toList_some, Option.toList_none, zk_cat_i, zk_cat_r, zk_cat_n, zk_same, Option.some.injEq, Value.int.injEq, Value.long.injEq, eq_self, false_implies, true_implies, zf_2, k1, not_false_eq_true, ho, hP2, zl_X, k2, nI_s1, k3, ha, k5]
  refine ⟨fun g => ?_, fun g => ?_⟩
  · have hsub : (1 : Int32) - iI a = iI (1 - a) := by rcases h13 g with rfl | rfl <;> decide
    refine hZ B_X2_run_163 _ _ _ _ _ _ _ k_X2_run_163 ?_
    simp only [B_X2_run_163, zk_ldi_s, zk_ldl_s, zk_lda_r, zk_lda_a, zk_lda_n, zk_iv_s, zr_nil, zr_cons, zp_0, zp_s, zt_0, zt_s, zt2_0, zt2_s, zw_iconst, zw_bipush, zw_sipush, zw_lconst, zw_ldcs, zw_ldc, zw_ldcw, zw_ldc2, zw_iload_n, zw_lload_n, zw_aload_n, zw_istore_n, zw_lstore_n, zw_astore_n, zw_astoreN_n, zw_iload, zw_lload, zw_aload, zw_istore, zw_lstore, zw_astore, zw_astoreN, zw_iinc, zw_iadd, zw_isub, zw_imul, zw_iand, zw_ior, zw_ixor, zw_ishl, zw_ishr, zw_iushr, zw_idiv, zw_irem, zw_ladd, zw_lsub, zw_lmul, zw_land, zw_ldiv, zw_lrem, zw_lcmp, zw_i2l, zw_l2i, zw_dup, zw_pop, zw_dup2i, zw_goto, zw_if_eq, zw_if_ne, zw_if_lt, zw_if_ge, zw_if_gt, zw_if_le, zw_ic_eq, zw_ic_ne, zw_ic_lt, zw_ic_ge, zw_ic_gt, zw_ic_le, zw_ifnn, zw_ifnnN, zw_tsw, zw_lsw, zw_getf_l, zw_getf_r, zw_getf_i, zw_getf_z, zw_putf_i, zw_putf_z, zw_putf_l, zw_putf_r, zw_iaload, zw_caload, zw_laload, zw_aaload, zw_iastore, zw_castore, zw_lastore, zw_aastore, zw_alen, zw_newa, zw_newq, zw_new, zw_oini, zw_invs, zw_invv, zw_copy, zw_invt, zw_iret, zw_lret, zw_ret, zc_r, zc_a, zk_rvs, zk_cat2, List.getElem?_cons_zero, List.getElem?_cons_succ, Bool.false_eq_true, and_false, false_and, and_true, true_and, reduceIte, Nat.reduceEqDiff, Nat.reduceLT, Nat.reduceAdd, List.cons_append, List.nil_append, Option.toList_some, Option.toList_none, zk_cat_i, zk_cat_r, zk_cat_n, zk_same, Option.some.injEq, Value.int.injEq, Value.long.injEq, eq_self, false_implies, true_implies, zf_2, ho, hP2, zl_X, nI_s1, k3, ha, k5, hsub]
    rw [if_neg g] at h
    exact h
  · refine zk_callS (ct_pointsOfNumber hn hP a hav.1 hav.2) (by decide) (Nat.le_refl _) (Nat.le_of_ble_eq_true rfl) ?_
    simp only [zk_ldi_s, zk_ldl_s, zk_lda_r, zk_lda_a, zk_lda_n, zk_iv_s, zr_nil, zr_cons, zp_0, zp_s, zt_0, zt_s, zt2_0, zt2_s, zw_iconst, zw_bipush, zw_sipush, zw_lconst, zw_ldcs, zw_ldc, zw_ldcw, zw_ldc2, zw_iload_n, zw_lload_n, zw_aload_n, zw_istore_n, zw_lstore_n, zw_astore_n, zw_astoreN_n, zw_iload, zw_lload, zw_aload, zw_istore, zw_lstore, zw_astore, zw_astoreN, zw_iinc, zw_iadd, zw_isub, zw_imul, zw_iand, zw_ior, zw_ixor, zw_ishl, zw_ishr, zw_iushr, zw_idiv, zw_irem, zw_ladd, zw_lsub, zw_lmul, zw_land, zw_ldiv, zw_lrem, zw_lcmp, zw_i2l, zw_l2i, zw_dup, zw_pop, zw_dup2i, zw_goto, zw_if_eq, zw_if_ne, zw_if_lt, zw_if_ge, zw_if_gt, zw_if_le, zw_ic_eq, zw_ic_ne, zw_ic_lt, zw_ic_ge, zw_ic_gt, zw_ic_le, zw_ifnn, zw_ifnnN, zw_tsw, zw_lsw, zw_getf_l, zw_getf_r, zw_getf_i, zw_getf_z, zw_putf_i, zw_putf_z, zw_putf_l, zw_putf_r, zw_iaload, zw_caload, zw_laload, zw_aaload, zw_iastore, zw_castore, zw_lastore, zw_aastore, zw_alen, zw_newa, zw_newq, zw_new, zw_oini, zw_invs, zw_invv, zw_copy, zw_invt, zw_iret, zw_lret, zw_ret, zc_r, zc_a, zk_rvs, zk_cat2, List.getElem?_cons_zero, List.getElem?_cons_succ, Bool.false_eq_true, and_false, false_and, and_true, true_and, reduceIte, Nat.reduceEqDiff, Nat.reduceLT, Nat.reduceAdd, List.cons_append, List.nil_append, Option.toList_some, Option.toList_none, zk_cat_i, zk_cat_r, zk_cat_n, zk_same, Option.some.injEq, Value.int.injEq, Value.long.injEq, eq_self, false_implies, true_implies, zf_2]
    rw [if_pos g] at h
    exact h
/-- two values are joined -/
theorem rn_bin (hn : 154 ≤ n) (hP : zs_X P) (hZ : zk_St G (zk_m 39) 2 false 2 n Post Z) {q f t k i : Nat} {c a b : Int} (hk : k + 1 < 64) (hc1 : -11 ≤ c) (hc2 : c < 0) (ha : M 2 k = iI a) (hb : M 2 (k + 1) = iI b) (hav : sp_v a) (hbv : sp_v b) (h01 : c ≤ -10 → (a = 0 ∨ a = 1) ∧ (b = 0 ∨ b = 1)) (h : Z 175 (rn_l q f t (k + 1) i (.int (iI c))) [] n (zk_up M 2 k (iI (sp_join c a b))) L P) : Z 77 (rn_l q f t (k + 2) i (.int (iI c))) [] n M L P := by
  have ho := zo_X hn
  have hP2 := hP
  unfold zs_X at hP2
  have g1 : ¬ iI c < (-11 : Int32) := by rw [zi_m11, iI_lt (by omega) (by omega) (by omega) (by omega)]; omega
  have k1 : ¬ nI (k + 2) < 2 := by rw [fa_lit 2, nI_ltI (by omega) (by omega)]; omega
  have k0 : nI (k + 2) + (-1) = nI (k + 1) := iI_sub1 (k + 1)
  have k3 : (nI k).toNatClampNeg = k := nI_clamp (by omega)
  have k3' : (nI (k + 1)).toNatClampNeg = k + 1 := nI_clamp (by omega)
  have k5 : vp_in (nI k) 64 := vp_in_nI (by omega) (by omega)
  have k5' : vp_in (nI (k + 1)) 64 := vp_in_nI (by omega) (by omega)
  refine hZ B_X2_run_77 _ _ _ _ _ _ _ k_X2_run_77 ?_
  simp only [B_X2_run_77, zk_ldi_s, zk_ldl_s, zk_lda_r, zk_lda_a, zk_lda_n, zk_iv_s, zr_nil, zr_cons, zp_0, zp_s, zt_0, zt_s, zt2_0, zt2_s, zw_iconst, zw_bipush, zw_sipush, zw_lconst, zw_ldcs, zw_ldc, zw_ldcw, zw_ldc2, zw_iload_n, zw_lload_n, zw_aload_n, zw_istore_n, zw_lstore_n, zw_astore_n, zw_astoreN_n, zw_iload, zw_lload, zw_aload, zw_istore, zw_lstore, zw_astore, zw_astoreN, zw_iinc, zw_iadd, zw_isub, zw_imul, zw_iand, zw_ior, zw_ixor, zw_ishl, zw_ishr, zw_iushr, zw_idiv, zw_irem, zw_ladd, zw_lsub, zw_lmul, zw_land, zw_ldiv, zw_lrem, zw_lcmp, zw_i2l, zw_l2i, zw_dup, zw_pop, zw_dup2i, zw_goto, zw_if_eq, zw_if_ne, zw_if_lt, zw_if_ge, zw_if_gt, zw_if_le, zw_ic_eq, zw_ic_ne, zw_ic_lt, zw_ic_ge, zw_ic_gt, zw_ic_le, zw_ifnn, zw_ifnnN, zw_tsw, zw_lsw, zw_getf_l, zw_getf_r, zw_getf_i, zw_getf_z, zw_putf_i, zw_putf_z, zw_putf_l, zw_putf_r, zw_iaload, zw_caload, zw_laload, zw_aaload, zw_iastore, zw_castore, zw_lastore, zw_aastore, zw_alen, zw_newa, zw_newq, zw_new, zw_oini, zw_invs, zw_invv, zw_copy, zw_invt, zw_iret, zw_lret, zw_ret, zc_r, zc_a, zk_rvs, zk_cat2, List.getElem?_cons_zero, List.getElem?_cons_succ, Bool.false_eq_true, and_false, false_and, and_true, true_and, reduceIte, Nat.reduceEqDiff, Nat.reduceLT, Nat.reduceAdd, List.cons_append, List.nil_append, Option.toList_some, Option.toList_none, zk_cat_i, zk_cat_r, zk_cat_n, zk_same, Option.some.injEq, Value.int.injEq, Value.long.injEq, eq_self, false_implies, true_implies, zf_2, rn_l, g1, k1, not_false_eq_true, ho, hP2, zl_X, k0, nI_s1, k3, k3', ha, hb, k5, k5']
  refine zk_callS (ct_join hn (by omega) (by omega) hav hbv h01) (by decide) (Nat.le_refl _) (Nat.le_of_ble_eq_true rfl) ?_
  simp only [zk_ldi_s, zk_ldl_s, zk_lda_r, zk_lda_a, zk_lda_n, zk_iv_s, zr_nil, zr_cons, zp_0, zp_s, zt_0, zt_s, zt2_0, zt2_s, zw_iconst, zw_bipush, zw_sipush, zw_lconst, zw_ldcs, zw_ldc, zw_ldcw, zw_ldc2, zw_iload_n, zw_lload_n, zw_aload_n, zw_istore_n, zw_lstore_n, zw_astore_n, zw_astoreN_n, zw_iload, zw_lload, zw_aload, zw_istore, zw_lstore, zw_astore, zw_astoreN, zw_iinc, zw_iadd, zw_isub, zw_imul, zw_iand, zw_ior, zw_ixor, zw_ishl, zw_ishr, zw_iushr, zw_idiv, zw_irem, zw_ladd, zw_lsub, zw_lmul, zw_land, zw_ldiv, zw_lrem, zw_lcmp, zw_i2l, zw_l2i, zw_dup, zw_pop, zw_dup2i, zw_goto, zw_if_eq, zw_if_ne, zw_if_lt, zw_if_ge, zw_if_gt, zw_if_le, zw_ic_eq, zw_ic_ne, zw_ic_lt, zw_ic_ge, zw_ic_gt, zw_ic_le, zw_ifnn, zw_ifnnN, zw_tsw, zw_lsw, zw_getf_l, zw_getf_r, zw_getf_i, zw_getf_z, zw_putf_i, zw_putf_z, zw_putf_l, zw_putf_r, zw_iaload, zw_caload, zw_laload, zw_aaload, zw_iastore, zw_castore, zw_lastore, zw_aastore, zw_alen, zw_newa, zw_newq, zw_new, zw_oini, zw_invs, zw_invv, zw_copy, zw_invt, zw_iret, zw_lret, zw_ret, zc_r, zc_a, zk_rvs, zk_cat2, List.getElem?_cons_zero, List.getElem?_cons_succ, Bool.false_eq_true, and_false, false_and, and_true, true_and, reduceIte, Nat.reduceEqDiff, Nat.reduceLT, Nat.reduceAdd, List.cons_append, List.nil_append, Option.toList_some, Option.toList_none, zk_cat_i, zk_cat_r, zk_cat_n, zk_same, Option.some.injEq, Value.int.injEq, Value.long.injEq, eq_self, false_implies, true_implies, zf_2, ho, zl_X, k3, k5]
  exact h
/-- the whole loop -/
theorem rn_loop (hn : 154 ≤ n) (hP : zs_X P) (hZ : zk_St G (zk_m 39) 2 false 2 n Post Z) {q f t : Nat} (hq : zk_ok n q 20) (hql : zk_lay q = (20, 1600)) (hq2 : q ≠ 2) {e pn : Int → Int} {v : Int} (hQ : ∀ M', (∀ z, z ≠ 2 → M' z = M z) → M' 2 0 = iI v → sp_v v → Post (some (.int (M' 2 0))) M' L P) (he : ∀ c : Int, -22 < c → c ≤ -14 → M 3 (-14 - c).toNat = iI (e c) ∧ sp_v (e c)) (hpn : ∀ x : Int, sp_v x → sp_pn M x = iI (pn x) ∧ sp_v (pn x)) (ht : t ≤ 1600) :
    ∀ (cs : List Int) (i : Nat) (stk : List Int) (M' : zk_MI) (v6 : Value), i + cs.length = t → (∀ j, j < cs.length → M q (i + j) = iI (cs.getD j 0) ∧ -22 < cs.getD j 0 ∧ cs.getD j 0 ≤ 9999) → (∀ z, z ≠ 2 → M' z = M z) → sp_sk (M' 2) stk → sp_rn e pn cs stk = some [v] → stk.length ≤ 64 → Z 10 (rn_l q f t stk.length i v6) [] n M' L P := by
  intro cs
  induction cs with
  | nil =>
    intro i stk M' v6 hi hcs hM hsk hr hl
    simp only [sp_rn, Option.some.injEq] at hr
    subst hr
    simp only [List.length_nil] at hi
    exact rn_end hn hP hZ (by omega) (by omega) (hQ M' hM hsk.1 hsk.2.1)
  | cons c cs ih =>
    intro i stk M' v6 hi hcs hM hsk hr hl
    simp only [List.length_cons] at hi
    obtain ⟨hc, hc1, hc2⟩ := hcs 0 (by simp)
    simp only [List.getD_cons_zero, Nat.add_zero] at hc hc1 hc2
    have hcs' : ∀ j, j < cs.length → M q (i + 1 + j) = iI (cs.getD j 0) ∧ -22 < cs.getD j 0 ∧ cs.getD j 0 ≤ 9999 := by
      intro j hj
      have := hcs (j + 1) (by simp only [List.length_cons]; omega)
      simp only [List.getD_cons_succ] at this
      rw [show i + 1 + j = i + (j + 1) by omega]
      exact this
    simp only [sp_rn] at hr
    obtain ⟨s2, hs2, hr2⟩ := Option.bind_eq_some_iff.mp hr
    have go : ∀ (M2 : zk_MI), (∀ z, z ≠ 2 → M2 z = M z) → sp_sk (M2 2) s2 → s2.length ≤ 64 → Z 175 (rn_l q f t s2.length i (.int (iI c))) [] n M2 L P := fun M2 h2 h3 h4 => rn_175 hZ (ih (i + 1) s2 M2 _ (by omega) hcs' h2 h3 hr2 h4)
    refine rn_10 hn hZ hq hql (by omega) ht (by rw [hM q hq2]; exact hc) hc1 hc2 (fun hcc => ?_) (fun hcc => ?_)
    · obtain ⟨hl64, x, hx, hxe, rfl⟩ : stk.length < 64 ∧ ∃ x : Int, sp_v x ∧ (if 0 ≤ c then iI c else M' 3 (-14 - c).toNat) = iI x ∧ s2 = x :: stk := by
        unfold sp_stp at hs2
        by_cases h0 : 0 ≤ c
        · rw [if_pos h0] at hs2
          by_cases h1 : stk.length < 64
          · rw [if_pos h1] at hs2
            exact ⟨h1, c, ⟨by omega, by omega⟩, by rw [if_pos h0], (Option.some.inj hs2).symm⟩
          · rw [if_neg h1] at hs2; cases hs2
        · rw [if_neg h0, if_pos (by omega)] at hs2
          by_cases h1 : stk.length < 64
          · rw [if_pos h1] at hs2
            have hE := he c hc1 (by omega)
            exact ⟨h1, e c, hE.2, by rw [if_neg h0, hM 3 (by decide)]; exact hE.1, (Option.some.inj hs2).symm⟩
          · rw [if_neg h1] at hs2; cases hs2
      refine rn_41 hn hP hZ hc1 hc2 hcc hl64 (rn_70 hn hZ hl64 ?_)
      rw [hxe]
      refine go _ (fun z hz => by rw [zk_up_row hz]; exact hM z hz) ?_ (by simp only [List.length_cons]; omega)
      rw [zk_up_self]
      exact ⟨pk_us, hx, sp_sk_up (Nat.le_refl _) hsk⟩
    · unfold sp_stp at hs2
      rw [if_neg (by omega), if_neg (by omega)] at hs2
      by_cases h11 : -11 ≤ c
      · rw [if_pos h11] at hs2
        cases stk with
        | nil => cases hs2
        | cons b r =>
          cases r with
          | nil => cases hs2
          | cons a r =>
            simp only [List.length_cons] at hl
            have h01 : c ≤ -10 → (a = 0 ∨ a = 1) ∧ (b = 0 ∨ b = 1) := by
              intro hc10
              simp only [if_pos hc10] at hs2
              rcases Decidable.em ((a = 0 ∨ a = 1) ∧ (b = 0 ∨ b = 1)) with z | z
              · exact z
              · rw [if_neg z] at hs2; cases hs2
            have hst : s2 = sp_join c a b :: r := by
              by_cases hc10 : c ≤ -10
              · simp only [if_pos hc10, if_pos (h01 hc10)] at hs2
                exact (Option.some.inj hs2).symm
              · simp only [if_neg hc10] at hs2
                exact (Option.some.inj hs2).symm
            subst hst
            refine rn_bin hn hP hZ (k := r.length) (by omega) h11 hcc.2 hsk.2.2.1 hsk.1 hsk.2.2.2.1 hsk.2.1 h01 ?_
            refine go _ (fun z hz => by rw [zk_up_row hz]; exact hM z hz) ?_ (by simp only [List.length_cons]; omega)
            rw [zk_up_self]
            exact ⟨pk_us, sp_join_v hsk.2.2.2.1 hsk.2.1 (fun h => h01 (by omega)), sp_sk_up (Nat.le_refl _) hsk.2.2.2.2⟩
      · rw [if_neg h11] at hs2
        cases stk with
        | nil => cases hs2
        | cons a r =>
          simp only [List.length_cons] at hl
          have hav := hsk.2.1
          have h13 : c ≠ -13 → a = 0 ∨ a = 1 := by
            intro hc13
            simp only [if_neg hc13] at hs2
            rcases Decidable.em (a = 0 ∨ a = 1) with z | z
            · exact z
            · rw [if_neg z] at hs2; cases hs2
          have hpa := hpn a hav
          have hpm : sp_pn M' a = iI (pn a) := by
            rw [← hpa.1]
            simp only [sp_pn, hM 1 (by decide), hM 4 (by decide)]
          obtain ⟨x, hx, hxe, rfl⟩ : ∃ x : Int, sp_v x ∧ (if c = -13 then sp_pn M' a else iI (1 - a)) = iI x ∧ s2 = x :: r := by
            by_cases hc13 : c = -13
            · simp only [if_pos hc13] at hs2
              exact ⟨pn a, hpa.2, by rw [if_pos hc13, hpm], (Option.some.inj hs2).symm⟩
            · simp only [if_neg hc13, if_pos (h13 hc13)] at hs2
              exact ⟨1 - a, by rcases h13 hc13 with rfl | rfl <;> (constructor <;> decide), by rw [if_neg hc13], (Option.some.inj hs2).symm⟩
          refine rn_un hn hP hZ (k := r.length) (by omega) hcc.1 (by omega) hsk.1 hav h13 (rn_174 hn hZ (by omega) ?_)
          rw [hxe]
          refine go _ (fun z hz => by rw [zk_up_row hz]; exact hM z hz) ?_ (by simp only [List.length_cons]; omega)
          rw [zk_up_self]
          exact ⟨pk_us, hx, sp_sk_up (Nat.le_refl _) hsk.2.2⟩
end RUN
section RUN2
variable {G : zk_G} {n : Nat} {M : zk_MI} {L : zk_ML} {P : zk_MP}
theorem ct_run (hn : 154 ≤ n) (hP : zs_X P) {q f : Nat} (hq : zk_ok n q 20) (hql : zk_lay q = (20, 1600)) (hq2 : q ≠ 2) {cs : List Int} (hf : f + cs.length ≤ 1600) (hcs : ∀ i, i < cs.length → M q (f + i) = iI (cs.getD i 0) ∧ -22 < cs.getD i 0 ∧ cs.getD i 0 ≤ 9999) {e pn : Int → Int} (he : ∀ c : Int, -22 < c → c ≤ -14 → M 3 (-14 - c).toNat = iI (e c) ∧ sp_v (e c)) (hpn : ∀ x : Int, sp_v x → sp_pn M x = iI (pn x) ∧ sp_v (pn x)) {v : Int} (hv : sp_rn e pn cs [] = some [v]) :
    zk_C G 2 39 [.ref 1, .ref q, .int (nI f), .int (nI (f + cs.length))] n M L P n (fun r M' L' P' => r = some (.int (iI v)) ∧ sp_v v ∧ L' = L ∧ P' = P ∧ ∀ z, z ≠ 2 → M' z = M z) := by
  refine zk_meth (ow := 2) (kind := 1) (k := 3) (nL := 7) (ct := false) (l0 := [.ref 1, .ref q, .int (nI f), .int (nI (f + cs.length)), zk_un, zk_un, zk_un]) (by decide +kernel) (fun h => by cases h) (by decide +kernel) (by decide) (by decide) (fun h => absurd h (by decide)) (Nat.le_of_ble_eq_true rfl) rfl (by omega) (fun Z hZ => ?_)
  refine hZ B_X2_run_0 _ _ _ _ _ _ _ k_X2_run_0 ?_
  simp only [B_X2_run_0, zk_ldi_s, zk_ldl_s, zk_lda_r, zk_lda_a, zk_lda_n, zk_iv_s, zr_nil, zr_cons, zp_0, zp_s, zt_0, zt_s, zt2_0, zt2_s, zw_iconst, zw_bipush, zw_sipush, zw_lconst, zw_ldcs, zw_ldc, zw_ldcw, zw_ldc2, zw_iload_n, zw_lload_n, zw_aload_n, zw_istore_n, zw_lstore_n, zw_astore_n, zw_astoreN_n, zw_iload, zw_lload, zw_aload, zw_istore, zw_lstore, zw_astore, zw_astoreN, zw_iinc, zw_iadd, zw_isub, zw_imul, zw_iand, zw_ior, zw_ixor, zw_ishl, zw_ishr, zw_iushr, zw_idiv, zw_irem, zw_ladd, zw_lsub, zw_lmul, zw_land, zw_ldiv, zw_lrem, zw_lcmp, zw_i2l, zw_l2i, zw_dup, zw_pop, zw_dup2i, zw_goto, zw_if_eq, zw_if_ne, zw_if_lt, zw_if_ge, zw_if_gt, zw_if_le, zw_ic_eq, zw_ic_ne, zw_ic_lt, zw_ic_ge, zw_ic_gt, zw_ic_le, zw_ifnn, zw_ifnnN, zw_tsw, zw_lsw, zw_getf_l, zw_getf_r, zw_getf_i, zw_getf_z, zw_putf_i, zw_putf_z, zw_putf_l, zw_putf_r, zw_iaload, zw_caload, zw_laload, zw_aaload, zw_iastore, zw_castore, zw_lastore, zw_aastore, zw_alen, zw_newa, zw_newq, zw_new, zw_oini, zw_invs, zw_invv, zw_copy, zw_invt, zw_iret, zw_lret, zw_ret, zc_r, zc_a, zk_rvs, zk_cat2, List.getElem?_cons_zero, List.getElem?_cons_succ, Bool.false_eq_true, and_false, false_and, and_true, true_and, reduceIte, Nat.reduceEqDiff, Nat.reduceLT, Nat.reduceAdd, List.cons_append, List.nil_append, Option.toList_some, Option.toList_none, zk_cat_i, zk_cat_r, zk_cat_n, zk_same, Option.some.injEq, Value.int.injEq, Value.long.injEq, eq_self, false_implies, true_implies, zf_2]
  refine zk_callS (ct_max (nI f) 0) (by decide) (Nat.le_refl _) (Nat.le_of_ble_eq_true rfl) ?_
  have h0 : ¬ nI f < 0 := nI_pos (by omega)
  simp only [zk_ldi_s, zk_ldl_s, zk_lda_r, zk_lda_a, zk_lda_n, zk_iv_s, zr_nil, zr_cons, zp_0, zp_s, zt_0, zt_s, zt2_0, zt2_s, zw_iconst, zw_bipush, zw_sipush, zw_lconst, zw_ldcs, zw_ldc, zw_ldcw, zw_ldc2, zw_iload_n, zw_lload_n, zw_aload_n, zw_istore_n, zw_lstore_n, zw_astore_n, zw_astoreN_n, zw_iload, zw_lload, zw_aload, zw_istore, zw_lstore, zw_astore, zw_astoreN, zw_iinc, zw_iadd, zw_isub, zw_imul, zw_iand, zw_ior, zw_ixor, zw_ishl, zw_ishr, zw_iushr, zw_idiv, zw_irem, zw_ladd, zw_lsub, zw_lmul, zw_land, zw_ldiv, zw_lrem, zw_lcmp, zw_i2l, zw_l2i, zw_dup, zw_pop, zw_dup2i, zw_goto, zw_if_eq, zw_if_ne, zw_if_lt, zw_if_ge, zw_if_gt, zw_if_le, zw_ic_eq, zw_ic_ne, zw_ic_lt, zw_ic_ge, zw_ic_gt, zw_ic_le, zw_ifnn, zw_ifnnN, zw_tsw, zw_lsw, zw_getf_l, zw_getf_r, zw_getf_i, zw_getf_z, zw_putf_i, zw_putf_z, zw_putf_l, zw_putf_r, zw_iaload, zw_caload, zw_laload, zw_aaload, zw_iastore, zw_castore, zw_lastore, zw_aastore, zw_alen, zw_newa, zw_newq, zw_new, zw_oini, zw_invs, zw_invv, zw_copy, zw_invt, zw_iret, zw_lret, zw_ret, zc_r, zc_a, zk_rvs, zk_cat2, List.getElem?_cons_zero, List.getElem?_cons_succ, Bool.false_eq_true, and_false, false_and, and_true, true_and, reduceIte, Nat.reduceEqDiff, Nat.reduceLT, Nat.reduceAdd, List.cons_append, List.nil_append, Option.toList_some, Option.toList_none, zk_cat_i, zk_cat_r, zk_cat_n, zk_same, Option.some.injEq, Value.int.injEq, Value.long.injEq, eq_self, false_implies, true_implies, zf_2, h0]
  exact rn_loop hn hP hZ hq hql hq2 (fun M' h1 h2 h3 => ⟨by rw [h2], h3, rfl, rfl, h1⟩) he hpn hf cs f [] M zk_un rfl hcs (fun _ _ => rfl) trivial hv (by simp)
end RUN2
