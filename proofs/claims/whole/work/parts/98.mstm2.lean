/-! ===== the model: PEOPLE, THINGS, rules ===== -/
def B_X12_thingTold_0 : List zk_I := [(.aload_n 0, 1, 0, 0, 0, 0, []), (.iconst 2, 1, 2, 0, 0, 0, []), (.bipush 10, 2, 10, 0, 0, 0, []), (.iload_n 1, 1, 0, 1, 0, 0, []), (.invokevirtual 308, 3, 0, 4, 176, 12, []), (.ifCond .eq 4, 3, 0, 12, 0, 0, []), (.return_, 1, 0, 0, 0, 0, [])]
theorem k_X12_thingTold_0 : zk_ckb 12 false (zk_m 184) B_X12_thingTold_0 0 = true := by decide +kernel
def B_X12_thingTold_12 : List zk_I := [(.aload_n 0, 1, 0, 0, 0, 0, []), (.invokevirtual 312, 3, 0, 1, 178, 12, []), (.lstore_n 2, 1, 0, 2, 0, 0, []), (.aload_n 0, 1, 0, 0, 0, 0, []), (.aload_n 0, 1, 0, 0, 0, 0, []), (.getfield 39, 3, 0, 12, 16, 0, []), (.invokevirtual 323, 3, 0, 2, 170, 12, []), (.aload_n 0, 1, 0, 0, 0, 0, []), (.getfield 111, 3, 0, 12, 41, 0, []), (.iconst 2, 1, 2, 0, 0, 0, []), (.iaload, 1, 0, 0, 0, 0, []), (.istore 4, 2, 0, 4, 0, 0, []), (.aload_n 0, 1, 0, 0, 0, 0, []), (.getfield 124, 3, 0, 12, 45, 0, []), (.iload 4, 2, 0, 4, 0, 0, []), (.aload_n 0, 1, 0, 0, 0, 0, []), (.iconst 1, 1, 1, 0, 0, 0, []), (.bipush 9, 2, 9, 0, 0, 0, []), (.invokevirtual 327, 3, 0, 3, 173, 12, []), (.iastore, 1, 0, 0, 0, 0, []), (.aload_n 0, 1, 0, 0, 0, 0, []), (.getfield 127, 3, 0, 12, 46, 0, []), (.iload 4, 2, 0, 4, 0, 0, []), (.iconst 0, 1, 0, 0, 0, 0, []), (.iastore, 1, 0, 0, 0, 0, []), (.aload_n 0, 1, 0, 0, 0, 0, []), (.aload_n 0, 1, 0, 0, 0, 0, []), (.getfield 42, 3, 0, 12, 17, 0, []), (.invokevirtual 272, 3, 0, 2, 169, 12, []), (.ifCond .eq 73, 3, 0, 136, 0, 0, [])]
theorem k_X12_thingTold_12 : zk_ckb 12 false (zk_m 184) B_X12_thingTold_12 12 = true := by decide +kernel
def B_X12_thingTold_66 : List zk_I := [(.aload_n 0, 1, 0, 0, 0, 0, []), (.iconst 2, 1, 2, 0, 0, 0, []), (.invokevirtual 319, 3, 0, 2, 179, 12, []), (.istore 5, 2, 0, 5, 0, 0, []), (.aload_n 0, 1, 0, 0, 0, 0, []), (.getfield 245, 3, 0, 12, 5, 0, []), (.ifCond .ne 28, 3, 0, 105, 0, 0, []), (.aload_n 0, 1, 0, 0, 0, 0, []), (.getfield 127, 3, 0, 12, 46, 0, []), (.iload 4, 2, 0, 4, 0, 0, []), (.iaload, 1, 0, 0, 0, 0, []), (.iload 5, 2, 0, 5, 0, 0, []), (.ishr, 1, 0, 0, 0, 0, []), (.iconst 1, 1, 1, 0, 0, 0, []), (.iand, 1, 0, 0, 0, 0, []), (.iconst 1, 1, 1, 0, 0, 0, []), (.if_icmp .ne 12, 3, 0, 105, 0, 0, []), (.aload_n 0, 1, 0, 0, 0, 0, []), (.iconst 3, 1, 3, 0, 0, 0, []), (.aload_n 0, 1, 0, 0, 0, 0, []), (.getfield 293, 3, 0, 12, 40, 0, []), (.invokevirtual 275, 3, 0, 3, 164, 12, [])]
theorem k_X12_thingTold_66 : zk_ckb 12 false (zk_m 184) B_X12_thingTold_66 66 = true := by decide +kernel
def B_X12_thingTold_105 : List zk_I := [(.aload_n 0, 1, 0, 0, 0, 0, []), (.getfield 127, 3, 0, 12, 46, 0, []), (.iload 4, 2, 0, 4, 0, 0, []), (.dup2, 1, 0, 0, 0, 0, []), (.iaload, 1, 0, 0, 0, 0, []), (.iconst 1, 1, 1, 0, 0, 0, []), (.iload 5, 2, 0, 5, 0, 0, []), (.ishl, 1, 0, 0, 0, 0, []), (.ior, 1, 0, 0, 0, 0, []), (.iastore, 1, 0, 0, 0, 0, []), (.aload_n 0, 1, 0, 0, 0, 0, []), (.getfield 245, 3, 0, 12, 5, 0, []), (.ifCond .ne 13, 3, 0, 136, 0, 0, []), (.aload_n 0, 1, 0, 0, 0, 0, []), (.invokevirtual 257, 3, 0, 1, 167, 12, []), (.invokestatic 261, 3, 0, 1, 165, 12, []), (.ifCond .ne (-67), 3, 0, 66, 0, 0, [])]
theorem k_X12_thingTold_105 : zk_ckb 12 false (zk_m 184) B_X12_thingTold_105 105 = true := by decide +kernel
def B_X12_thingTold_136 : List zk_I := [(.aload_n 0, 1, 0, 0, 0, 0, []), (.iconst 2, 1, 2, 0, 0, 0, []), (.lload_n 2, 1, 0, 2, 0, 0, []), (.invokevirtual 315, 3, 0, 3, 180, 12, []), (.return_, 1, 0, 0, 0, 0, [])]
theorem k_X12_thingTold_136 : zk_ckb 12 false (zk_m 184) B_X12_thingTold_136 136 = true := by decide +kernel
theorem rd_fe_lp {f : Nat → Nat} {T : Nat} {a b ca cb : Int} {X : sp_F} (hX : ∀ p e, X p = .inl e → e.1 ≤ 4) : ∀ (j p : Nat) (acc : List Int) e, rd_lp f T a b ca cb X j p acc = .inl e → e.1 ≤ 4
  | 0, p, acc, e, h => by cases h
  | j + 1, p, acc, e, h => by
    simp only [rd_lp] at h
    split at h
    · rcases hx : X (tkE f T p) with e1 | ⟨p1, cs⟩
      · rw [hx] at h; cases h; exact hX _ _ hx
      · rw [hx] at h; exact rd_fe_lp hX j _ _ e h
    · cases h
theorem rd_fe_bl {f : Nat → Nat} {T : Nat} {a b ca cb : Int} {X : sp_F} (hX : ∀ p e, X p = .inl e → e.1 ≤ 4) (p : Nat) (e : Nat × Nat) (h : rd_bind (X p) (fun p1 cs => rd_lp f T a b ca cb X 1600 p1 cs) = .inl e) : e.1 ≤ 4 := by
  rcases hx : X p with e1 | ⟨p1, cs⟩
  · rw [hx] at h; cases h; exact hX _ _ hx
  · rw [hx] at h; exact rd_fe_lp hX 1600 _ _ e h
theorem rd_fe_part {f : Nat → Nat} {T sort : Nat} {nx : Option (sp_F × sp_F)} (hnx : ∀ x, nx = some x → (∀ p e, x.1 p = .inl e → e.1 ≤ 4) ∧ ∀ p e, x.2 p = .inl e → e.1 ≤ 4) (p : Nat) (e : Nat × Nat) (h : rd_part f T sort nx p = .inl e) : e.1 ≤ 4 := by
  rw [rd_part_eq] at h
  split at h
  · cases nx with
    | none => cases h; exact (by decide : (4 : Nat) ≤ 4)
    | some x =>
      simp only [rd_par] at h
      rcases hx : x.2 (tkE f T p) with e1 | ⟨p1, cs⟩
      · rw [hx] at h; cases h; exact (hnx x rfl).2 _ _ hx
      · rw [hx] at h
        simp only [rd_bind] at h
        split at h
        · cases h
        · cases h; exact (by decide : (1 : Nat) ≤ 4)
  · split at h
    · unfold rd_pr at h
      split at h
      · cases h; exact (by decide : (1 : Nat) ≤ 4)
      · cases nx with
        | none => cases h; exact (by decide : (4 : Nat) ≤ 4)
        | some x =>
          simp only [rd_pair] at h
          rcases hx : x.2 (tkE f T (tkE f T p)) with e1 | ⟨p1, cs⟩
          · rw [hx] at h; cases h; exact (hnx x rfl).2 _ _ hx
          · rw [hx] at h
            simp only [rd_bind] at h
            split at h
            · cases h; exact (by decide : (1 : Nat) ≤ 4)
            · rcases hx2 : x.2 (tkE f T p1) with e1 | ⟨p2, cs2⟩
              · rw [hx2] at h; cases h; exact (hnx x rfl).2 _ _ hx2
              · rw [hx2] at h
                simp only at h
                split at h
                · cases h
                · cases h; exact (by decide : (1 : Nat) ≤ 4)
    · split at h
      · split at h
        · cases h; exact (by decide : (1 : Nat) ≤ 4)
        · cases h
      · unfold rd_wd at h
        split at h
        · cases nx with
          | none => cases h; exact (by decide : (4 : Nat) ≤ 4)
          | some x =>
            simp only at h
            rcases hx : x.1 (tkE f T p) with e1 | ⟨p1, cs⟩
            · rw [hx] at h; cases h; exact (hnx x rfl).1 _ _ hx
            · rw [hx] at h; cases h
        · split at h
          · cases h; exact (by decide : (1 : Nat) ≤ 4)
          · cases h
theorem rd_fe_sum {f : Nat → Nat} {T : Nat} {X : sp_F} (hX : ∀ p e, X p = .inl e → e.1 ≤ 4) : ∀ p e, rd_sum f T X p = .inl e → e.1 ≤ 4 := fun p e h => rd_fe_bl (X := rd_prod f T X) (fun p e h => rd_fe_bl hX p e h) p e h
theorem rd_fe_lev (f : Nat → Nat) (T sort : Nat) : ∀ d, (∀ p e, (rd_lev f T sort d).1 p = .inl e → e.1 ≤ 4) ∧ ∀ p e, (rd_lev f T sort d).2 p = .inl e → e.1 ≤ 4
  | 0 => by
    have h : ∀ p e, rd_part f T sort none p = .inl e → e.1 ≤ 4 := rd_fe_part (fun x hx => by cases hx)
    exact ⟨h, rd_fe_sum h⟩
  | d + 1 => by
    have ih := rd_fe_lev f T sort d
    have h : ∀ p e, rd_part f T sort (some (rd_lev f T sort d)) p = .inl e → e.1 ≤ 4 := rd_fe_part (fun x hx => by cases hx; exact ih)
    exact ⟨h, rd_fe_sum h⟩
theorem sp_pc_or : ∀ r, r < 1024 → ∀ i, i < 10 → r.testBit i = false → sp_pc (r ||| 2 ^ i) = sp_pc r + 1 := by decide +kernel
theorem sp_pc_512 : ∀ r, r < 512 → sp_pc r ≤ 9 := by decide +kernel
section MS2
variable {G : zk_G} {n : Nat} {M M' : zk_MI} {L L' : zk_ML} {P : zk_MP}
theorem cm_personTold (hn : 154 ≤ n) (hP : zs_M P) {f : Nat → Nat} {T p : Nat} {D : vs_D} {Cs : List Int} (hok : vs_ok D) (hpT : p ≤ T) (hk : tkK f T p ≠ -1) (h : mt_at M f T (tkE f T p)) (hw : mw_ok M) (hD : md_D M L D Cs) (hl : Cs.length ≤ p) : zk_C G 5 183 [.ref 79, .int (nI (tkS f T p))] n M L P n (fun r M' L' P' => r = none ∧ P' = P ∧ mdR M M' L L' f T (vs_person f T D p)) := by
  have hfb : ∀ i, i < T → f i ≤ 255 := fun i hi => (h.1 i hi).2
  have hpos := tkK_pos (f := f) hpT hk
  have hn6 := hok.1.2.1
  have hp6 := hok.1.1
  generalize hres : vs_person f T D p = R
  unfold vs_person at hres
  rw [vs_nw_nn] at hres
  refine zk_meth (ow := 12) (kind := 1) (k := 1) (nL := 4) (ct := false) (l0 := [.ref 79, .int (nI (tkS f T p)), zk_un, zk_un]) (by decide +kernel) (fun h => by cases h) (by decide +kernel) (by decide) (by decide) (fun h => absurd h (by decide)) (Nat.le_of_ble_eq_true rfl) rfl (by omega) (fun Z hZ => ?_)
  have ho := zo_M hn
  have hP2 := hP
  unfold zs_M at hP2
  refine hZ B_X12_personTold_0 _ _ _ _ _ _ _ k_X12_personTold_0 ?_
  simp only [B_X12_personTold_0, zk_ldi_s, zk_ldl_s, zk_lda_r, zk_lda_a, zk_lda_n, zk_iv_s, zr_nil, zr_cons, zp_0, zp_s, zt_0, zt_s, zt2_0, zt2_s, zw_iconst, zw_bipush, zw_sipush, zw_lconst, zw_ldcs, zw_ldc, zw_ldcw, zw_ldc2, zw_iload_n, zw_lload_n, zw_aload_n, zw_istore_n, zw_lstore_n, zw_astore_n, zw_astoreN_n, zw_iload, zw_lload, zw_aload, zw_istore, zw_lstore, zw_astore, zw_astoreN, zw_iinc, zw_iadd, zw_isub, zw_imul, zw_iand, zw_ior, zw_ixor, zw_ishl, zw_ishr, zw_iushr, zw_idiv, zw_irem, zw_ladd, zw_lsub, zw_lmul, zw_land, zw_ldiv, zw_lrem, zw_lcmp, zw_i2l, zw_l2i, zw_dup, zw_pop, zw_dup2i, zw_goto, zw_if_eq, zw_if_ne, zw_if_lt, zw_if_ge, zw_if_gt, zw_if_le, zw_ic_eq, zw_ic_ne, zw_ic_lt, zw_ic_ge, zw_ic_gt, zw_ic_le, zw_ifnn, zw_ifnnN, zw_tsw, zw_lsw, zw_getf_l, zw_getf_r, zw_getf_i, zw_getf_z, zw_putf_i, zw_putf_z, zw_putf_l, zw_putf_r, zw_iaload, zw_caload, zw_laload, zw_aaload, zw_iastore, zw_castore, zw_lastore, zw_aastore, zw_alen, zw_newa, zw_newq, zw_new, zw_oini, zw_invs, zw_invv, zw_copy, zw_invt, zw_iret, zw_lret, zw_ret, zc_r, zc_a, zk_rvs, zk_cat2, List.getElem?_cons_zero, List.getElem?_cons_succ, Bool.false_eq_true, and_false, false_and, and_true, true_and, reduceIte, Nat.reduceEqDiff, Nat.reduceLT, Nat.reduceAdd, List.cons_append, List.nil_append, Option.toList_some, Option.toList_none, zk_cat_i, zk_cat_r, zk_cat_n, zk_same, Option.some.injEq, Value.int.injEq, Value.long.injEq, eq_self, false_implies, true_implies, zf_12, ho, hP2, zl_M, zc_n10, zc_cl, zc_in, not_true_eq_false, not_false_eq_true]
  refine zk_callI (cm_isFull hn hP h.2.2.2.2.1 (k := 1) (c := vNq D.1) (m := 6) (by decide) hD.1.2.1 (by omega) (by decide) (1 : Int32) (6 : Int32) (nI (tkS f T p)) rfl rfl) (by first | decide | omega) (Nat.le_refl _) (Nat.le_of_ble_eq_true rfl) (fun r M1 L9 P9 hpost => ?_)
  obtain ⟨hL9, hP9, x1, x2⟩ := hpost
  have hL8 := hL9.symm
  have hP8 := hP9.symm
  clear hL9 hP9
  subst hL8
  subst hP8
  by_cases g : vNq D.1 = 6
  · obtain ⟨rfl, hM⟩ := x1 g
    subst hM
    rw [if_pos (show 6 ≤ vs_cnt D.1 1 from Nat.le_of_eq g.symm)] at hres
    simp only [zk_ldi_s, zk_ldl_s, zk_lda_r, zk_lda_a, zk_lda_n, zk_iv_s, zr_nil, zr_cons, zp_0, zp_s, zt_0, zt_s, zt2_0, zt2_s, zw_iconst, zw_bipush, zw_sipush, zw_lconst, zw_ldcs, zw_ldc, zw_ldcw, zw_ldc2, zw_iload_n, zw_lload_n, zw_aload_n, zw_istore_n, zw_lstore_n, zw_astore_n, zw_astoreN_n, zw_iload, zw_lload, zw_aload, zw_istore, zw_lstore, zw_astore, zw_astoreN, zw_iinc, zw_iadd, zw_isub, zw_imul, zw_iand, zw_ior, zw_ixor, zw_ishl, zw_ishr, zw_iushr, zw_idiv, zw_irem, zw_ladd, zw_lsub, zw_lmul, zw_land, zw_ldiv, zw_lrem, zw_lcmp, zw_i2l, zw_l2i, zw_dup, zw_pop, zw_dup2i, zw_goto, zw_if_eq, zw_if_ne, zw_if_lt, zw_if_ge, zw_if_gt, zw_if_le, zw_ic_eq, zw_ic_ne, zw_ic_lt, zw_ic_ge, zw_ic_gt, zw_ic_le, zw_ifnn, zw_ifnnN, zw_tsw, zw_lsw, zw_getf_l, zw_getf_r, zw_getf_i, zw_getf_z, zw_putf_i, zw_putf_z, zw_putf_l, zw_putf_r, zw_iaload, zw_caload, zw_laload, zw_aaload, zw_iastore, zw_castore, zw_lastore, zw_aastore, zw_alen, zw_newa, zw_newq, zw_new, zw_oini, zw_invs, zw_invv, zw_copy, zw_invt, zw_iret, zw_lret, zw_ret, zc_r, zc_a, zk_rvs, zk_cat2, List.getElem?_cons_zero, List.getElem?_cons_succ, Bool.false_eq_true, and_false, false_and, and_true, true_and, reduceIte, Nat.reduceEqDiff, Nat.reduceLT, Nat.reduceAdd, List.cons_append, List.nil_append, Option.toList_some, Option.toList_none, zk_cat_i, zk_cat_r, zk_cat_n, zk_same, Option.some.injEq, Value.int.injEq, Value.long.injEq, eq_self, false_implies, true_implies, zf_12, ho, hP2, zl_M, zc_n10, zc_cl, zc_in, not_true_eq_false, not_false_eq_true, (show ((1 : Int32) = 0) = False from by decide)]
    rw [← hres]
    exact ⟨by decide, mt_bad5.1, mt_bad5.2, mdF_m mtF_bad⟩
  obtain ⟨rfl, hM⟩ := x2 g
  have hM8 := hM.symm
  subst hM8
  have hlt6 : vNq D.1 < 6 := by omega
  rw [if_neg (show ¬ 6 ≤ vs_cnt D.1 1 from fun z => by have z2 : 6 ≤ vNq D.1 := z; omega)] at hres
  simp only [zk_ldi_s, zk_ldl_s, zk_lda_r, zk_lda_a, zk_lda_n, zk_iv_s, zr_nil, zr_cons, zp_0, zp_s, zt_0, zt_s, zt2_0, zt2_s, zw_iconst, zw_bipush, zw_sipush, zw_lconst, zw_ldcs, zw_ldc, zw_ldcw, zw_ldc2, zw_iload_n, zw_lload_n, zw_aload_n, zw_istore_n, zw_lstore_n, zw_astore_n, zw_astoreN_n, zw_iload, zw_lload, zw_aload, zw_istore, zw_lstore, zw_astore, zw_astoreN, zw_iinc, zw_iadd, zw_isub, zw_imul, zw_iand, zw_ior, zw_ixor, zw_ishl, zw_ishr, zw_iushr, zw_idiv, zw_irem, zw_ladd, zw_lsub, zw_lmul, zw_land, zw_ldiv, zw_lrem, zw_lcmp, zw_i2l, zw_l2i, zw_dup, zw_pop, zw_dup2i, zw_goto, zw_if_eq, zw_if_ne, zw_if_lt, zw_if_ge, zw_if_gt, zw_if_le, zw_ic_eq, zw_ic_ne, zw_ic_lt, zw_ic_ge, zw_ic_gt, zw_ic_le, zw_ifnn, zw_ifnnN, zw_tsw, zw_lsw, zw_getf_l, zw_getf_r, zw_getf_i, zw_getf_z, zw_putf_i, zw_putf_z, zw_putf_l, zw_putf_r, zw_iaload, zw_caload, zw_laload, zw_aaload, zw_iastore, zw_castore, zw_lastore, zw_aastore, zw_alen, zw_newa, zw_newq, zw_new, zw_oini, zw_invs, zw_invv, zw_copy, zw_invt, zw_iret, zw_lret, zw_ret, zc_r, zc_a, zk_rvs, zk_cat2, List.getElem?_cons_zero, List.getElem?_cons_succ, Bool.false_eq_true, and_false, false_and, and_true, true_and, reduceIte, Nat.reduceEqDiff, Nat.reduceLT, Nat.reduceAdd, List.cons_append, List.nil_append, Option.toList_some, Option.toList_none, zk_cat_i, zk_cat_r, zk_cat_n, zk_same, Option.some.injEq, Value.int.injEq, Value.long.injEq, eq_self, false_implies, true_implies, zf_12, ho, hP2, zl_M, zc_n10, zc_cl, zc_in, not_true_eq_false, not_false_eq_true]
  refine hZ B_X12_personTold_12 _ _ _ _ _ _ _ k_X12_personTold_12 ?_
  simp only [B_X12_personTold_12, zk_ldi_s, zk_ldl_s, zk_lda_r, zk_lda_a, zk_lda_n, zk_iv_s, zr_nil, zr_cons, zp_0, zp_s, zt_0, zt_s, zt2_0, zt2_s, zw_iconst, zw_bipush, zw_sipush, zw_lconst, zw_ldcs, zw_ldc, zw_ldcw, zw_ldc2, zw_iload_n, zw_lload_n, zw_aload_n, zw_istore_n, zw_lstore_n, zw_astore_n, zw_astoreN_n, zw_iload, zw_lload, zw_aload, zw_istore, zw_lstore, zw_astore, zw_astoreN, zw_iinc, zw_iadd, zw_isub, zw_imul, zw_iand, zw_ior, zw_ixor, zw_ishl, zw_ishr, zw_iushr, zw_idiv, zw_irem, zw_ladd, zw_lsub, zw_lmul, zw_land, zw_ldiv, zw_lrem, zw_lcmp, zw_i2l, zw_l2i, zw_dup, zw_pop, zw_dup2i, zw_goto, zw_if_eq, zw_if_ne, zw_if_lt, zw_if_ge, zw_if_gt, zw_if_le, zw_ic_eq, zw_ic_ne, zw_ic_lt, zw_ic_ge, zw_ic_gt, zw_ic_le, zw_ifnn, zw_ifnnN, zw_tsw, zw_lsw, zw_getf_l, zw_getf_r, zw_getf_i, zw_getf_z, zw_putf_i, zw_putf_z, zw_putf_l, zw_putf_r, zw_iaload, zw_caload, zw_laload, zw_aaload, zw_iastore, zw_castore, zw_lastore, zw_aastore, zw_alen, zw_newa, zw_newq, zw_new, zw_oini, zw_invs, zw_invv, zw_copy, zw_invt, zw_iret, zw_lret, zw_ret, zc_r, zc_a, zk_rvs, zk_cat2, List.getElem?_cons_zero, List.getElem?_cons_succ, Bool.false_eq_true, and_false, false_and, and_true, true_and, reduceIte, Nat.reduceEqDiff, Nat.reduceLT, Nat.reduceAdd, List.cons_append, List.nil_append, Option.toList_some, Option.toList_none, zk_cat_i, zk_cat_r, zk_cat_n, zk_same, Option.some.injEq, Value.int.injEq, Value.long.injEq, eq_self, false_implies, true_implies, zf_12, ho, hP2, zl_M, zc_n10, zc_cl, zc_in, not_true_eq_false, not_false_eq_true]
  refine zk_callI (cm_newName hn hP h hw hok hD.1 hD.2.1) (by first | decide | omega) (Nat.le_refl _) (Nat.le_of_ble_eq_true rfl) (fun r M2 L9 P9 hpost => ?_)
  obtain ⟨hL9, hP9, y1, ⟨z, rfl⟩, y3⟩ := hpost
  have hL8 := hL9.symm
  have hP8 := hP9.symm
  clear hL9 hP9
  subst hL8
  subst hP8
  /- behind a FAULT: one cell of homes -/
  have fin0 : ∀ (M9 : zk_MI) (k' pl : Nat), R = .inl (k', pl) → (1 ≤ k' ∧ k' ≤ 5) → M9 79 5 = nI k' → M9 79 6 = nI pl → mtF M M9 → mdR M (zk_up M9 115 (vNq D.1) 0) L L f T R ∧ ¬ zk_up M9 115 (vNq D.1) 0 79 5 = 0 := by
    intro M9 k' pl hR h1 h2 h3 h4
    rw [hR]
    exact ⟨⟨h1, by rw [zk_up_row (by decide)]; exact h2, by rw [zk_up_row (by decide)]; exact h3, mdF_tr (mdF_m h4) (mdF_row (by omega))⟩, by rw [zk_up_row (by decide)]; exact yv_nz h1 h2⟩
  rcases hx : vs_nn f T D (tkE f T p) with ⟨k', pl⟩ | ⟨q1, w⟩
  · rw [hx] at y1 hres
    obtain ⟨z1, z2, z3, z4⟩ := y1
    have hz := yv_nz z1 z2
    have hc1 : M2 112 1 = nI (vNq D.1) := by rw [z4.1 112 (by decide)]; exact hD.1.2.1
    have hc0 : M2 112 0 = nI (vNp D.1) := by rw [z4.1 112 (by decide)]; exact hD.1.1
    simp only [zk_ldi_s, zk_ldl_s, zk_lda_r, zk_lda_a, zk_lda_n, zk_iv_s, zr_nil, zr_cons, zp_0, zp_s, zt_0, zt_s, zt2_0, zt2_s, zw_iconst, zw_bipush, zw_sipush, zw_lconst, zw_ldcs, zw_ldc, zw_ldcw, zw_ldc2, zw_iload_n, zw_lload_n, zw_aload_n, zw_istore_n, zw_lstore_n, zw_astore_n, zw_astoreN_n, zw_iload, zw_lload, zw_aload, zw_istore, zw_lstore, zw_astore, zw_astoreN, zw_iinc, zw_iadd, zw_isub, zw_imul, zw_iand, zw_ior, zw_ixor, zw_ishl, zw_ishr, zw_iushr, zw_idiv, zw_irem, zw_ladd, zw_lsub, zw_lmul, zw_land, zw_ldiv, zw_lrem, zw_lcmp, zw_i2l, zw_l2i, zw_dup, zw_pop, zw_dup2i, zw_goto, zw_if_eq, zw_if_ne, zw_if_lt, zw_if_ge, zw_if_gt, zw_if_le, zw_ic_eq, zw_ic_ne, zw_ic_lt, zw_ic_ge, zw_ic_gt, zw_ic_le, zw_ifnn, zw_ifnnN, zw_tsw, zw_lsw, zw_getf_l, zw_getf_r, zw_getf_i, zw_getf_z, zw_putf_i, zw_putf_z, zw_putf_l, zw_putf_r, zw_iaload, zw_caload, zw_laload, zw_aaload, zw_iastore, zw_castore, zw_lastore, zw_aastore, zw_alen, zw_newa, zw_newq, zw_new, zw_oini, zw_invs, zw_invv, zw_copy, zw_invt, zw_iret, zw_lret, zw_ret, zc_r, zc_a, zk_rvs, zk_cat2, List.getElem?_cons_zero, List.getElem?_cons_succ, Bool.false_eq_true, and_false, false_and, and_true, true_and, reduceIte, Nat.reduceEqDiff, Nat.reduceLT, Nat.reduceAdd, List.cons_append, List.nil_append, Option.toList_some, Option.toList_none, zk_cat_i, zk_cat_r, zk_cat_n, zk_same, Option.some.injEq, Value.int.injEq, Value.long.injEq, eq_self, false_implies, true_implies, zf_12, ho, hP2, zl_M, zc_n10, zc_cl, zc_in, not_true_eq_false, not_false_eq_true]
    refine zk_callS (cm_asksB hn hP hz 86) (by first | decide | omega) (Nat.le_refl _) (Nat.le_of_ble_eq_true rfl) ?_
    simp only [zk_ldi_s, zk_ldl_s, zk_lda_r, zk_lda_a, zk_lda_n, zk_iv_s, zr_nil, zr_cons, zp_0, zp_s, zt_0, zt_s, zt2_0, zt2_s, zw_iconst, zw_bipush, zw_sipush, zw_lconst, zw_ldcs, zw_ldc, zw_ldcw, zw_ldc2, zw_iload_n, zw_lload_n, zw_aload_n, zw_istore_n, zw_lstore_n, zw_astore_n, zw_astoreN_n, zw_iload, zw_lload, zw_aload, zw_istore, zw_lstore, zw_astore, zw_astoreN, zw_iinc, zw_iadd, zw_isub, zw_imul, zw_iand, zw_ior, zw_ixor, zw_ishl, zw_ishr, zw_iushr, zw_idiv, zw_irem, zw_ladd, zw_lsub, zw_lmul, zw_land, zw_ldiv, zw_lrem, zw_lcmp, zw_i2l, zw_l2i, zw_dup, zw_pop, zw_dup2i, zw_goto, zw_if_eq, zw_if_ne, zw_if_lt, zw_if_ge, zw_if_gt, zw_if_le, zw_ic_eq, zw_ic_ne, zw_ic_lt, zw_ic_ge, zw_ic_gt, zw_ic_le, zw_ifnn, zw_ifnnN, zw_tsw, zw_lsw, zw_getf_l, zw_getf_r, zw_getf_i, zw_getf_z, zw_putf_i, zw_putf_z, zw_putf_l, zw_putf_r, zw_iaload, zw_caload, zw_laload, zw_aaload, zw_iastore, zw_castore, zw_lastore, zw_aastore, zw_alen, zw_newa, zw_newq, zw_new, zw_oini, zw_invs, zw_invv, zw_copy, zw_invt, zw_iret, zw_lret, zw_ret, zc_r, zc_a, zk_rvs, zk_cat2, List.getElem?_cons_zero, List.getElem?_cons_succ, Bool.false_eq_true, and_false, false_and, and_true, true_and, reduceIte, Nat.reduceEqDiff, Nat.reduceLT, Nat.reduceAdd, List.cons_append, List.nil_append, Option.toList_some, Option.toList_none, zk_cat_i, zk_cat_r, zk_cat_n, zk_same, Option.some.injEq, Value.int.injEq, Value.long.injEq, eq_self, false_implies, true_implies, zf_12, ho, hP2, zl_M, zc_n10, zc_cl, zc_in, not_true_eq_false, not_false_eq_true, hc1]
    refine zk_callS (cm_oneOfB hn hP hz (k := 0) (c := vNp D.1) (by decide) hc0 (by omega) (0 : Int32) rfl) (by first | decide | omega) (Nat.le_refl _) (Nat.le_of_ble_eq_true rfl) ?_
    simp only [zk_ldi_s, zk_ldl_s, zk_lda_r, zk_lda_a, zk_lda_n, zk_iv_s, zr_nil, zr_cons, zp_0, zp_s, zt_0, zt_s, zt2_0, zt2_s, zw_iconst, zw_bipush, zw_sipush, zw_lconst, zw_ldcs, zw_ldc, zw_ldcw, zw_ldc2, zw_iload_n, zw_lload_n, zw_aload_n, zw_istore_n, zw_lstore_n, zw_astore_n, zw_astoreN_n, zw_iload, zw_lload, zw_aload, zw_istore, zw_lstore, zw_astore, zw_astoreN, zw_iinc, zw_iadd, zw_isub, zw_imul, zw_iand, zw_ior, zw_ixor, zw_ishl, zw_ishr, zw_iushr, zw_idiv, zw_irem, zw_ladd, zw_lsub, zw_lmul, zw_land, zw_ldiv, zw_lrem, zw_lcmp, zw_i2l, zw_l2i, zw_dup, zw_pop, zw_dup2i, zw_goto, zw_if_eq, zw_if_ne, zw_if_lt, zw_if_ge, zw_if_gt, zw_if_le, zw_ic_eq, zw_ic_ne, zw_ic_lt, zw_ic_ge, zw_ic_gt, zw_ic_le, zw_ifnn, zw_ifnnN, zw_tsw, zw_lsw, zw_getf_l, zw_getf_r, zw_getf_i, zw_getf_z, zw_putf_i, zw_putf_z, zw_putf_l, zw_putf_r, zw_iaload, zw_caload, zw_laload, zw_aaload, zw_iastore, zw_castore, zw_lastore, zw_aastore, zw_alen, zw_newa, zw_newq, zw_new, zw_oini, zw_invs, zw_invv, zw_copy, zw_invt, zw_iret, zw_lret, zw_ret, zc_r, zc_a, zk_rvs, zk_cat2, List.getElem?_cons_zero, List.getElem?_cons_succ, Bool.false_eq_true, and_false, false_and, and_true, true_and, reduceIte, Nat.reduceEqDiff, Nat.reduceLT, Nat.reduceAdd, List.cons_append, List.nil_append, Option.toList_some, Option.toList_none, zk_cat_i, zk_cat_r, zk_cat_n, zk_same, Option.some.injEq, Value.int.injEq, Value.long.injEq, eq_self, false_implies, true_implies, zf_12, ho, hP2, zl_M, zc_n10, zc_cl, zc_in, not_true_eq_false, not_false_eq_true, nI_clamp (show vNq D.1 < 2 ^ 31 by omega), vp_in_nI (show vNq D.1 < 12 by omega) (by omega)]
    have hf0 := fin0 M2 k' pl hres.symm z1 z2 z3 z4
    refine zk_callS (cm_isNamedB hn hP hf0.2 z 1) (by first | decide | omega) (Nat.le_refl _) (Nat.le_of_ble_eq_true rfl) ?_
    simp only [zk_ldi_s, zk_ldl_s, zk_lda_r, zk_lda_a, zk_lda_n, zk_iv_s, zr_nil, zr_cons, zp_0, zp_s, zt_0, zt_s, zt2_0, zt2_s, zw_iconst, zw_bipush, zw_sipush, zw_lconst, zw_ldcs, zw_ldc, zw_ldcw, zw_ldc2, zw_iload_n, zw_lload_n, zw_aload_n, zw_istore_n, zw_lstore_n, zw_astore_n, zw_astoreN_n, zw_iload, zw_lload, zw_aload, zw_istore, zw_lstore, zw_astore, zw_astoreN, zw_iinc, zw_iadd, zw_isub, zw_imul, zw_iand, zw_ior, zw_ixor, zw_ishl, zw_ishr, zw_iushr, zw_idiv, zw_irem, zw_ladd, zw_lsub, zw_lmul, zw_land, zw_ldiv, zw_lrem, zw_lcmp, zw_i2l, zw_l2i, zw_dup, zw_pop, zw_dup2i, zw_goto, zw_if_eq, zw_if_ne, zw_if_lt, zw_if_ge, zw_if_gt, zw_if_le, zw_ic_eq, zw_ic_ne, zw_ic_lt, zw_ic_ge, zw_ic_gt, zw_ic_le, zw_ifnn, zw_ifnnN, zw_tsw, zw_lsw, zw_getf_l, zw_getf_r, zw_getf_i, zw_getf_z, zw_putf_i, zw_putf_z, zw_putf_l, zw_putf_r, zw_iaload, zw_caload, zw_laload, zw_aaload, zw_iastore, zw_castore, zw_lastore, zw_aastore, zw_alen, zw_newa, zw_newq, zw_new, zw_oini, zw_invs, zw_invv, zw_copy, zw_invt, zw_iret, zw_lret, zw_ret, zc_r, zc_a, zk_rvs, zk_cat2, List.getElem?_cons_zero, List.getElem?_cons_succ, Bool.false_eq_true, and_false, false_and, and_true, true_and, reduceIte, Nat.reduceEqDiff, Nat.reduceLT, Nat.reduceAdd, List.cons_append, List.nil_append, Option.toList_some, Option.toList_none, zk_cat_i, zk_cat_r, zk_cat_n, zk_same, Option.some.injEq, Value.int.injEq, Value.long.injEq, eq_self, false_implies, true_implies, zf_12, ho, hP2, zl_M, zc_n10, zc_cl, zc_in, not_true_eq_false, not_false_eq_true]
    exact hf0.1
  have hz := y3 _ _ hx
  simp only [Option.some.injEq, Value.long.injEq] at hz
  subst hz
  have hnp : vs_nw f T D 1 6 p = .inr (q1, w) := by rw [vs_nw_nn, if_neg (show ¬ 6 ≤ vs_cnt D.1 1 from fun z => by have z2 : 6 ≤ vNq D.1 := z; omega)]; exact hx
  have hpp := vs_nw_pos hpos.2.1 hpos.1 hfb q1 w hnp
  rw [hx] at y1 hres
  simp only [vs_b] at hres
  obtain ⟨z1, z2⟩ := y1
  simp only [zk_ldi_s, zk_ldl_s, zk_lda_r, zk_lda_a, zk_lda_n, zk_iv_s, zr_nil, zr_cons, zp_0, zp_s, zt_0, zt_s, zt2_0, zt2_s, zw_iconst, zw_bipush, zw_sipush, zw_lconst, zw_ldcs, zw_ldc, zw_ldcw, zw_ldc2, zw_iload_n, zw_lload_n, zw_aload_n, zw_istore_n, zw_lstore_n, zw_astore_n, zw_astoreN_n, zw_iload, zw_lload, zw_aload, zw_istore, zw_lstore, zw_astore, zw_astoreN, zw_iinc, zw_iadd, zw_isub, zw_imul, zw_iand, zw_ior, zw_ixor, zw_ishl, zw_ishr, zw_iushr, zw_idiv, zw_irem, zw_ladd, zw_lsub, zw_lmul, zw_land, zw_ldiv, zw_lrem, zw_lcmp, zw_i2l, zw_l2i, zw_dup, zw_pop, zw_dup2i, zw_goto, zw_if_eq, zw_if_ne, zw_if_lt, zw_if_ge, zw_if_gt, zw_if_le, zw_ic_eq, zw_ic_ne, zw_ic_lt, zw_ic_ge, zw_ic_gt, zw_ic_le, zw_ifnn, zw_ifnnN, zw_tsw, zw_lsw, zw_getf_l, zw_getf_r, zw_getf_i, zw_getf_z, zw_putf_i, zw_putf_z, zw_putf_l, zw_putf_r, zw_iaload, zw_caload, zw_laload, zw_aaload, zw_iastore, zw_castore, zw_lastore, zw_aastore, zw_alen, zw_newa, zw_newq, zw_new, zw_oini, zw_invs, zw_invv, zw_copy, zw_invt, zw_iret, zw_lret, zw_ret, zc_r, zc_a, zk_rvs, zk_cat2, List.getElem?_cons_zero, List.getElem?_cons_succ, Bool.false_eq_true, and_false, false_and, and_true, true_and, reduceIte, Nat.reduceEqDiff, Nat.reduceLT, Nat.reduceAdd, List.cons_append, List.nil_append, Option.toList_some, Option.toList_none, zk_cat_i, zk_cat_r, zk_cat_n, zk_same, Option.some.injEq, Value.int.injEq, Value.long.injEq, eq_self, false_implies, true_implies, zf_12, ho, hP2, zl_M, zc_n10, zc_cl, zc_in, not_true_eq_false, not_false_eq_true]
  refine zk_callI (cm_asks hn hP z1 (mw_ok_fr hw z2.1) 86 (by unfold sp_wq; omega) 304 (by decide)) (by first | decide | omega) (Nat.le_refl _) (Nat.le_of_ble_eq_true rfl) (fun r M3 L9 P9 hpost => ?_)
  obtain ⟨hr9, hL9, hP9, u1⟩ := hpost
  subst hr9
  have hL8 := hL9.symm
  have hP8 := hP9.symm
  clear hL9 hP9
  subst hL8
  subst hP8
  rcases hx3 : vs_need f T 304 q1 with ⟨k', pl⟩ | ⟨q2, u⟩
  · rw [hx3] at u1 hres
    obtain ⟨t1, t2, t3, t4⟩ := u1
    have hz := yv_nz t1 t2
    have hF3 := mtF_tr z2 t4
    have hc1 : M3 112 1 = nI (vNq D.1) := by rw [hF3.1 112 (by decide)]; exact hD.1.2.1
    have hc0 : M3 112 0 = nI (vNp D.1) := by rw [hF3.1 112 (by decide)]; exact hD.1.1
    simp only [zk_ldi_s, zk_ldl_s, zk_lda_r, zk_lda_a, zk_lda_n, zk_iv_s, zr_nil, zr_cons, zp_0, zp_s, zt_0, zt_s, zt2_0, zt2_s, zw_iconst, zw_bipush, zw_sipush, zw_lconst, zw_ldcs, zw_ldc, zw_ldcw, zw_ldc2, zw_iload_n, zw_lload_n, zw_aload_n, zw_istore_n, zw_lstore_n, zw_astore_n, zw_astoreN_n, zw_iload, zw_lload, zw_aload, zw_istore, zw_lstore, zw_astore, zw_astoreN, zw_iinc, zw_iadd, zw_isub, zw_imul, zw_iand, zw_ior, zw_ixor, zw_ishl, zw_ishr, zw_iushr, zw_idiv, zw_irem, zw_ladd, zw_lsub, zw_lmul, zw_land, zw_ldiv, zw_lrem, zw_lcmp, zw_i2l, zw_l2i, zw_dup, zw_pop, zw_dup2i, zw_goto, zw_if_eq, zw_if_ne, zw_if_lt, zw_if_ge, zw_if_gt, zw_if_le, zw_ic_eq, zw_ic_ne, zw_ic_lt, zw_ic_ge, zw_ic_gt, zw_ic_le, zw_ifnn, zw_ifnnN, zw_tsw, zw_lsw, zw_getf_l, zw_getf_r, zw_getf_i, zw_getf_z, zw_putf_i, zw_putf_z, zw_putf_l, zw_putf_r, zw_iaload, zw_caload, zw_laload, zw_aaload, zw_iastore, zw_castore, zw_lastore, zw_aastore, zw_alen, zw_newa, zw_newq, zw_new, zw_oini, zw_invs, zw_invv, zw_copy, zw_invt, zw_iret, zw_lret, zw_ret, zc_r, zc_a, zk_rvs, zk_cat2, List.getElem?_cons_zero, List.getElem?_cons_succ, Bool.false_eq_true, and_false, false_and, and_true, true_and, reduceIte, Nat.reduceEqDiff, Nat.reduceLT, Nat.reduceAdd, List.cons_append, List.nil_append, Option.toList_some, Option.toList_none, zk_cat_i, zk_cat_r, zk_cat_n, zk_same, Option.some.injEq, Value.int.injEq, Value.long.injEq, eq_self, false_implies, true_implies, zf_12, ho, hP2, zl_M, zc_n10, zc_cl, zc_in, not_true_eq_false, not_false_eq_true, hc1]
    refine zk_callS (cm_oneOfB hn hP hz (k := 0) (c := vNp D.1) (by decide) hc0 (by omega) (0 : Int32) rfl) (by first | decide | omega) (Nat.le_refl _) (Nat.le_of_ble_eq_true rfl) ?_
    simp only [zk_ldi_s, zk_ldl_s, zk_lda_r, zk_lda_a, zk_lda_n, zk_iv_s, zr_nil, zr_cons, zp_0, zp_s, zt_0, zt_s, zt2_0, zt2_s, zw_iconst, zw_bipush, zw_sipush, zw_lconst, zw_ldcs, zw_ldc, zw_ldcw, zw_ldc2, zw_iload_n, zw_lload_n, zw_aload_n, zw_istore_n, zw_lstore_n, zw_astore_n, zw_astoreN_n, zw_iload, zw_lload, zw_aload, zw_istore, zw_lstore, zw_astore, zw_astoreN, zw_iinc, zw_iadd, zw_isub, zw_imul, zw_iand, zw_ior, zw_ixor, zw_ishl, zw_ishr, zw_iushr, zw_idiv, zw_irem, zw_ladd, zw_lsub, zw_lmul, zw_land, zw_ldiv, zw_lrem, zw_lcmp, zw_i2l, zw_l2i, zw_dup, zw_pop, zw_dup2i, zw_goto, zw_if_eq, zw_if_ne, zw_if_lt, zw_if_ge, zw_if_gt, zw_if_le, zw_ic_eq, zw_ic_ne, zw_ic_lt, zw_ic_ge, zw_ic_gt, zw_ic_le, zw_ifnn, zw_ifnnN, zw_tsw, zw_lsw, zw_getf_l, zw_getf_r, zw_getf_i, zw_getf_z, zw_putf_i, zw_putf_z, zw_putf_l, zw_putf_r, zw_iaload, zw_caload, zw_laload, zw_aaload, zw_iastore, zw_castore, zw_lastore, zw_aastore, zw_alen, zw_newa, zw_newq, zw_new, zw_oini, zw_invs, zw_invv, zw_copy, zw_invt, zw_iret, zw_lret, zw_ret, zc_r, zc_a, zk_rvs, zk_cat2, List.getElem?_cons_zero, List.getElem?_cons_succ, Bool.false_eq_true, and_false, false_and, and_true, true_and, reduceIte, Nat.reduceEqDiff, Nat.reduceLT, Nat.reduceAdd, List.cons_append, List.nil_append, Option.toList_some, Option.toList_none, zk_cat_i, zk_cat_r, zk_cat_n, zk_same, Option.some.injEq, Value.int.injEq, Value.long.injEq, eq_self, false_implies, true_implies, zf_12, ho, hP2, zl_M, zc_n10, zc_cl, zc_in, not_true_eq_false, not_false_eq_true, nI_clamp (show vNq D.1 < 2 ^ 31 by omega), vp_in_nI (show vNq D.1 < 12 by omega) (by omega)]
    have hf0 := fin0 M3 k' pl hres.symm t1 t2 t3 hF3
    refine zk_callS (cm_isNamedB hn hP hf0.2 (lI (nm_v w : Int)) 1) (by first | decide | omega) (Nat.le_refl _) (Nat.le_of_ble_eq_true rfl) ?_
    simp only [zk_ldi_s, zk_ldl_s, zk_lda_r, zk_lda_a, zk_lda_n, zk_iv_s, zr_nil, zr_cons, zp_0, zp_s, zt_0, zt_s, zt2_0, zt2_s, zw_iconst, zw_bipush, zw_sipush, zw_lconst, zw_ldcs, zw_ldc, zw_ldcw, zw_ldc2, zw_iload_n, zw_lload_n, zw_aload_n, zw_istore_n, zw_lstore_n, zw_astore_n, zw_astoreN_n, zw_iload, zw_lload, zw_aload, zw_istore, zw_lstore, zw_astore, zw_astoreN, zw_iinc, zw_iadd, zw_isub, zw_imul, zw_iand, zw_ior, zw_ixor, zw_ishl, zw_ishr, zw_iushr, zw_idiv, zw_irem, zw_ladd, zw_lsub, zw_lmul, zw_land, zw_ldiv, zw_lrem, zw_lcmp, zw_i2l, zw_l2i, zw_dup, zw_pop, zw_dup2i, zw_goto, zw_if_eq, zw_if_ne, zw_if_lt, zw_if_ge, zw_if_gt, zw_if_le, zw_ic_eq, zw_ic_ne, zw_ic_lt, zw_ic_ge, zw_ic_gt, zw_ic_le, zw_ifnn, zw_ifnnN, zw_tsw, zw_lsw, zw_getf_l, zw_getf_r, zw_getf_i, zw_getf_z, zw_putf_i, zw_putf_z, zw_putf_l, zw_putf_r, zw_iaload, zw_caload, zw_laload, zw_aaload, zw_iastore, zw_castore, zw_lastore, zw_aastore, zw_alen, zw_newa, zw_newq, zw_new, zw_oini, zw_invs, zw_invv, zw_copy, zw_invt, zw_iret, zw_lret, zw_ret, zc_r, zc_a, zk_rvs, zk_cat2, List.getElem?_cons_zero, List.getElem?_cons_succ, Bool.false_eq_true, and_false, false_and, and_true, true_and, reduceIte, Nat.reduceEqDiff, Nat.reduceLT, Nat.reduceAdd, List.cons_append, List.nil_append, Option.toList_some, Option.toList_none, zk_cat_i, zk_cat_r, zk_cat_n, zk_same, Option.some.injEq, Value.int.injEq, Value.long.injEq, eq_self, false_implies, true_implies, zf_12, ho, hP2, zl_M, zc_n10, zc_cl, zc_in, not_true_eq_false, not_false_eq_true]
    exact hf0.1
  obtain ⟨g1, g2, -⟩ := vs_need_pos (f := f) (w := 304) hpp.2.1 (by decide) q2 u hx3
  rw [hx3] at u1 hres
  simp only at hres
  obtain ⟨t1, t2⟩ := u1
  have hF3 := mtF_tr z2 t2
  have hD3 := md_D_m hD hF3
  have hc1 : M3 112 1 = nI (vNq D.1) := hD3.1.2.1
  simp only [zk_ldi_s, zk_ldl_s, zk_lda_r, zk_lda_a, zk_lda_n, zk_iv_s, zr_nil, zr_cons, zp_0, zp_s, zt_0, zt_s, zt2_0, zt2_s, zw_iconst, zw_bipush, zw_sipush, zw_lconst, zw_ldcs, zw_ldc, zw_ldcw, zw_ldc2, zw_iload_n, zw_lload_n, zw_aload_n, zw_istore_n, zw_lstore_n, zw_astore_n, zw_astoreN_n, zw_iload, zw_lload, zw_aload, zw_istore, zw_lstore, zw_astore, zw_astoreN, zw_iinc, zw_iadd, zw_isub, zw_imul, zw_iand, zw_ior, zw_ixor, zw_ishl, zw_ishr, zw_iushr, zw_idiv, zw_irem, zw_ladd, zw_lsub, zw_lmul, zw_land, zw_ldiv, zw_lrem, zw_lcmp, zw_i2l, zw_l2i, zw_dup, zw_pop, zw_dup2i, zw_goto, zw_if_eq, zw_if_ne, zw_if_lt, zw_if_ge, zw_if_gt, zw_if_le, zw_ic_eq, zw_ic_ne, zw_ic_lt, zw_ic_ge, zw_ic_gt, zw_ic_le, zw_ifnn, zw_ifnnN, zw_tsw, zw_lsw, zw_getf_l, zw_getf_r, zw_getf_i, zw_getf_z, zw_putf_i, zw_putf_z, zw_putf_l, zw_putf_r, zw_iaload, zw_caload, zw_laload, zw_aaload, zw_iastore, zw_castore, zw_lastore, zw_aastore, zw_alen, zw_newa, zw_newq, zw_new, zw_oini, zw_invs, zw_invv, zw_copy, zw_invt, zw_iret, zw_lret, zw_ret, zc_r, zc_a, zk_rvs, zk_cat2, List.getElem?_cons_zero, List.getElem?_cons_succ, Bool.false_eq_true, and_false, false_and, and_true, true_and, reduceIte, Nat.reduceEqDiff, Nat.reduceLT, Nat.reduceAdd, List.cons_append, List.nil_append, Option.toList_some, Option.toList_none, zk_cat_i, zk_cat_r, zk_cat_n, zk_same, Option.some.injEq, Value.int.injEq, Value.long.injEq, eq_self, false_implies, true_implies, zf_12, ho, hP2, zl_M, zc_n10, zc_cl, zc_in, not_true_eq_false, not_false_eq_true, hc1]
  refine zk_callI (cm_oneOf hn hP t1 (mw_ok_fr hw hF3.1) hok hD3.1 hD3.2.1 (k := 0) (by decide) (0 : Int32) rfl) (by first | decide | omega) (Nat.le_refl _) (Nat.le_of_ble_eq_true rfl) (fun r M4 L9 P9 hpost => ?_)
  obtain ⟨hL9, hP9, r1, r2, r3⟩ := hpost
  have hL8 := hL9.symm
  have hP8 := hP9.symm
  clear hL9 hP9
  subst hL8
  subst hP8
  rcases hx4 : vs_ol f T (dNm D 0) (vNp D.1) 0 q2 with ⟨k', pl⟩ | ⟨q3, a⟩
  · have hx' : vs_ol f T (dNm D 0) (vs_cnt D.1 0) 0 q2 = .inl (k', pl) := hx4
    have hr := r2 _ hx'
    subst hr
    rw [hx'] at r1
    rw [hx4] at hres
    obtain ⟨s1, s2, s3, s4⟩ := r1
    simp only [zk_ldi_s, zk_ldl_s, zk_lda_r, zk_lda_a, zk_lda_n, zk_iv_s, zr_nil, zr_cons, zp_0, zp_s, zt_0, zt_s, zt2_0, zt2_s, zw_iconst, zw_bipush, zw_sipush, zw_lconst, zw_ldcs, zw_ldc, zw_ldcw, zw_ldc2, zw_iload_n, zw_lload_n, zw_aload_n, zw_istore_n, zw_lstore_n, zw_astore_n, zw_astoreN_n, zw_iload, zw_lload, zw_aload, zw_istore, zw_lstore, zw_astore, zw_astoreN, zw_iinc, zw_iadd, zw_isub, zw_imul, zw_iand, zw_ior, zw_ixor, zw_ishl, zw_ishr, zw_iushr, zw_idiv, zw_irem, zw_ladd, zw_lsub, zw_lmul, zw_land, zw_ldiv, zw_lrem, zw_lcmp, zw_i2l, zw_l2i, zw_dup, zw_pop, zw_dup2i, zw_goto, zw_if_eq, zw_if_ne, zw_if_lt, zw_if_ge, zw_if_gt, zw_if_le, zw_ic_eq, zw_ic_ne, zw_ic_lt, zw_ic_ge, zw_ic_gt, zw_ic_le, zw_ifnn, zw_ifnnN, zw_tsw, zw_lsw, zw_getf_l, zw_getf_r, zw_getf_i, zw_getf_z, zw_putf_i, zw_putf_z, zw_putf_l, zw_putf_r, zw_iaload, zw_caload, zw_laload, zw_aaload, zw_iastore, zw_castore, zw_lastore, zw_aastore, zw_alen, zw_newa, zw_newq, zw_new, zw_oini, zw_invs, zw_invv, zw_copy, zw_invt, zw_iret, zw_lret, zw_ret, zc_r, zc_a, zk_rvs, zk_cat2, List.getElem?_cons_zero, List.getElem?_cons_succ, Bool.false_eq_true, and_false, false_and, and_true, true_and, reduceIte, Nat.reduceEqDiff, Nat.reduceLT, Nat.reduceAdd, List.cons_append, List.nil_append, Option.toList_some, Option.toList_none, zk_cat_i, zk_cat_r, zk_cat_n, zk_same, Option.some.injEq, Value.int.injEq, Value.long.injEq, eq_self, false_implies, true_implies, zf_12, ho, hP2, zl_M, zc_n10, zc_cl, zc_in, not_true_eq_false, not_false_eq_true, nI_clamp (show vNq D.1 < 2 ^ 31 by omega), vp_in_nI (show vNq D.1 < 12 by omega) (by omega)]
    have hf0 := fin0 M4 k' pl hres.symm s1 s2 s3 (mtF_tr hF3 s4)
    refine zk_callS (cm_isNamedB hn hP hf0.2 (lI (nm_v w : Int)) 1) (by first | decide | omega) (Nat.le_refl _) (Nat.le_of_ble_eq_true rfl) ?_
    simp only [zk_ldi_s, zk_ldl_s, zk_lda_r, zk_lda_a, zk_lda_n, zk_iv_s, zr_nil, zr_cons, zp_0, zp_s, zt_0, zt_s, zt2_0, zt2_s, zw_iconst, zw_bipush, zw_sipush, zw_lconst, zw_ldcs, zw_ldc, zw_ldcw, zw_ldc2, zw_iload_n, zw_lload_n, zw_aload_n, zw_istore_n, zw_lstore_n, zw_astore_n, zw_astoreN_n, zw_iload, zw_lload, zw_aload, zw_istore, zw_lstore, zw_astore, zw_astoreN, zw_iinc, zw_iadd, zw_isub, zw_imul, zw_iand, zw_ior, zw_ixor, zw_ishl, zw_ishr, zw_iushr, zw_idiv, zw_irem, zw_ladd, zw_lsub, zw_lmul, zw_land, zw_ldiv, zw_lrem, zw_lcmp, zw_i2l, zw_l2i, zw_dup, zw_pop, zw_dup2i, zw_goto, zw_if_eq, zw_if_ne, zw_if_lt, zw_if_ge, zw_if_gt, zw_if_le, zw_ic_eq, zw_ic_ne, zw_ic_lt, zw_ic_ge, zw_ic_gt, zw_ic_le, zw_ifnn, zw_ifnnN, zw_tsw, zw_lsw, zw_getf_l, zw_getf_r, zw_getf_i, zw_getf_z, zw_putf_i, zw_putf_z, zw_putf_l, zw_putf_r, zw_iaload, zw_caload, zw_laload, zw_aaload, zw_iastore, zw_castore, zw_lastore, zw_aastore, zw_alen, zw_newa, zw_newq, zw_new, zw_oini, zw_invs, zw_invv, zw_copy, zw_invt, zw_iret, zw_lret, zw_ret, zc_r, zc_a, zk_rvs, zk_cat2, List.getElem?_cons_zero, List.getElem?_cons_succ, Bool.false_eq_true, and_false, false_and, and_true, true_and, reduceIte, Nat.reduceEqDiff, Nat.reduceLT, Nat.reduceAdd, List.cons_append, List.nil_append, Option.toList_some, Option.toList_none, zk_cat_i, zk_cat_r, zk_cat_n, zk_same, Option.some.injEq, Value.int.injEq, Value.long.injEq, eq_self, false_implies, true_implies, zf_12, ho, hP2, zl_M, zc_n10, zc_cl, zc_in, not_true_eq_false, not_false_eq_true]
    exact hf0.1
  obtain ⟨d1, d2, d3, -⟩ := vs_ol_pos (nm := dNm D 0) (c := vNp D.1) (bar := 0) g2 hfb q3 a hx4
  have hx' : vs_ol f T (dNm D 0) (vs_cnt D.1 0) 0 q2 = .inr (q3, a) := hx4
  obtain ⟨hr, -⟩ := r3 _ _ hx'
  subst hr
  rw [hx'] at r1
  rw [hx4] at hres
  simp only at hres
  obtain ⟨s1, s2⟩ := r1
  have hF4 := mtF_tr hF3 s2
  have hD4 := md_D_m hD hF4
  generalize hM5 : zk_up M4 115 (vNq D.1) (nI a) = M5
  have h5 : ∀ q, q ≠ 115 → M5 q = M4 q := fun q hq => by rw [← hM5]; exact zk_up_row hq
  simp only [zk_ldi_s, zk_ldl_s, zk_lda_r, zk_lda_a, zk_lda_n, zk_iv_s, zr_nil, zr_cons, zp_0, zp_s, zt_0, zt_s, zt2_0, zt2_s, zw_iconst, zw_bipush, zw_sipush, zw_lconst, zw_ldcs, zw_ldc, zw_ldcw, zw_ldc2, zw_iload_n, zw_lload_n, zw_aload_n, zw_istore_n, zw_lstore_n, zw_astore_n, zw_astoreN_n, zw_iload, zw_lload, zw_aload, zw_istore, zw_lstore, zw_astore, zw_astoreN, zw_iinc, zw_iadd, zw_isub, zw_imul, zw_iand, zw_ior, zw_ixor, zw_ishl, zw_ishr, zw_iushr, zw_idiv, zw_irem, zw_ladd, zw_lsub, zw_lmul, zw_land, zw_ldiv, zw_lrem, zw_lcmp, zw_i2l, zw_l2i, zw_dup, zw_pop, zw_dup2i, zw_goto, zw_if_eq, zw_if_ne, zw_if_lt, zw_if_ge, zw_if_gt, zw_if_le, zw_ic_eq, zw_ic_ne, zw_ic_lt, zw_ic_ge, zw_ic_gt, zw_ic_le, zw_ifnn, zw_ifnnN, zw_tsw, zw_lsw, zw_getf_l, zw_getf_r, zw_getf_i, zw_getf_z, zw_putf_i, zw_putf_z, zw_putf_l, zw_putf_r, zw_iaload, zw_caload, zw_laload, zw_aaload, zw_iastore, zw_castore, zw_lastore, zw_aastore, zw_alen, zw_newa, zw_newq, zw_new, zw_oini, zw_invs, zw_invv, zw_copy, zw_invt, zw_iret, zw_lret, zw_ret, zc_r, zc_a, zk_rvs, zk_cat2, List.getElem?_cons_zero, List.getElem?_cons_succ, Bool.false_eq_true, and_false, false_and, and_true, true_and, reduceIte, Nat.reduceEqDiff, Nat.reduceLT, Nat.reduceAdd, List.cons_append, List.nil_append, Option.toList_some, Option.toList_none, zk_cat_i, zk_cat_r, zk_cat_n, zk_same, Option.some.injEq, Value.int.injEq, Value.long.injEq, eq_self, false_implies, true_implies, zf_12, ho, hP2, zl_M, zc_n10, zc_cl, zc_in, not_true_eq_false, not_false_eq_true, nI_clamp (show vNq D.1 < 2 ^ 31 by omega), vp_in_nI (show vNq D.1 < 12 by omega) (by omega), hM5]
  refine zk_callS (cm_isNamed hn hP (M := M5) (by rw [h5 79 (by decide)]; exact s1.2.2.2.2.1) (k := 1) (c := vNq D.1) (by decide) (by rw [h5 112 (by decide)]; exact hD4.1.2.1) (by omega) (lI (nm_v w : Int)) (1 : Int32) rfl) (by first | decide | omega) (Nat.le_refl _) (Nat.le_of_ble_eq_true rfl) ?_
  simp only [zk_ldi_s, zk_ldl_s, zk_lda_r, zk_lda_a, zk_lda_n, zk_iv_s, zr_nil, zr_cons, zp_0, zp_s, zt_0, zt_s, zt2_0, zt2_s, zw_iconst, zw_bipush, zw_sipush, zw_lconst, zw_ldcs, zw_ldc, zw_ldcw, zw_ldc2, zw_iload_n, zw_lload_n, zw_aload_n, zw_istore_n, zw_lstore_n, zw_astore_n, zw_astoreN_n, zw_iload, zw_lload, zw_aload, zw_istore, zw_lstore, zw_astore, zw_astoreN, zw_iinc, zw_iadd, zw_isub, zw_imul, zw_iand, zw_ior, zw_ixor, zw_ishl, zw_ishr, zw_iushr, zw_idiv, zw_irem, zw_ladd, zw_lsub, zw_lmul, zw_land, zw_ldiv, zw_lrem, zw_lcmp, zw_i2l, zw_l2i, zw_dup, zw_pop, zw_dup2i, zw_goto, zw_if_eq, zw_if_ne, zw_if_lt, zw_if_ge, zw_if_gt, zw_if_le, zw_ic_eq, zw_ic_ne, zw_ic_lt, zw_ic_ge, zw_ic_gt, zw_ic_le, zw_ifnn, zw_ifnnN, zw_tsw, zw_lsw, zw_getf_l, zw_getf_r, zw_getf_i, zw_getf_z, zw_putf_i, zw_putf_z, zw_putf_l, zw_putf_r, zw_iaload, zw_caload, zw_laload, zw_aaload, zw_iastore, zw_castore, zw_lastore, zw_aastore, zw_alen, zw_newa, zw_newq, zw_new, zw_oini, zw_invs, zw_invv, zw_copy, zw_invt, zw_iret, zw_lret, zw_ret, zc_r, zc_a, zk_rvs, zk_cat2, List.getElem?_cons_zero, List.getElem?_cons_succ, Bool.false_eq_true, and_false, false_and, and_true, true_and, reduceIte, Nat.reduceEqDiff, Nat.reduceLT, Nat.reduceAdd, List.cons_append, List.nil_append, Option.toList_some, Option.toList_none, zk_cat_i, zk_cat_r, zk_cat_n, zk_same, Option.some.injEq, Value.int.injEq, Value.long.injEq, eq_self, false_implies, true_implies, zf_12, ho, hP2, zl_M, zc_n10, zc_cl, zc_in, not_true_eq_false, not_false_eq_true]
  rw [← hres]
  have hFa : mdF M4 M5 L L := by rw [← hM5]; exact mdF_row (by omega)
  have hFb : mdF M5 (zk_up M5 112 1 (nI (vNq D.1 + 1))) L (zk_up L 113 (10 * 1 + vNq D.1) (lI (nm_v w : Int))) := by
    obtain ⟨a1, a2, a3, a4, a5, a6, a7, a8, a9, a10, a11, a12⟩ := mdF_row (M := M5) (L := L) (q := 112) (k := 1) (x := nI (vNq D.1 + 1)) (by omega)
    exact ⟨a1, a2, fun q hq => zk_up_row hq, a4, fun i hi => zk_up_ne (by omega), a6, a7, a8, a9, a10, a11, a12⟩
  have hF := mdF_tr (mdF_tr (mdF_m hF4) hFa) hFb
  refine ⟨mt_at_row s1 (by rw [zk_up_row (by decide), h5 79 (by decide)]) (by rw [zk_up_row (by decide), h5 80 (by decide)]), mw_ok_F hw hF, ⟨Cs, ?_, by omega⟩, hF⟩
  obtain ⟨⟨c1, c2, c3⟩, h2, h3, h4, hh5, h6, h7, h8, h9, h10, h11⟩ := hD4
  refine ⟨⟨by rw [zk_up_ne (by decide), h5 112 (by decide)]; exact c1, zk_up_at, by rw [zk_up_ne (by decide), h5 112 (by decide)]; exact c3⟩, fun k i hk hi => ?_, fun a b ha hb => by rw [zk_up_row (by decide), h5 114 (by decide)]; exact h3 a b ha hb, fun i hi => ?_, fun t ht => by rw [zk_up_row (by decide), h5 116 (by decide)]; exact hh5 t ht, fun t ht => by rw [zk_up_row (by decide), h5 117 (by decide)]; exact h6 t ht, fun p t hp ht => by rw [zk_up_row (by decide), h5 118 (by decide)]; exact h7 p t hp ht, by rw [zk_up_row (by decide), h5 119 (by decide)]; exact h8, fun k hk => md_rule_fr (h9 k hk) (by rw [zk_up_row (by decide), h5 120 (by decide)]) (by rw [zk_up_row (by decide), h5 121 (by decide)]), by rw [zk_up_row (by decide), h5 79 (by decide)]; exact h10, fun i hi => by rw [zk_up_row (by decide), h5 122 (by decide)]; exact h11 i hi⟩
  · show zk_up L 113 (10 * 1 + vNq D.1) (lI (nm_v w : Int)) 113 (10 * k + i) = lI (nm_v (vs_nmA D 1 w k i) : Int)
    unfold vs_nmA
    have hcc : i < vs_cnt D.1 k ∨ (k = 1 ∧ i = vNq D.1) := by
      rcases (show k = 0 ∨ k = 1 ∨ k = 2 by omega) with rfl | rfl | rfl
      · exact Or.inl hi
      · have hi2 : i < vNq D.1 + 1 := hi
        rcases Nat.lt_or_ge i (vNq D.1) with q | q
        · exact Or.inl q
        · exact Or.inr ⟨rfl, by omega⟩
      · exact Or.inl hi
    by_cases e : k = 1 ∧ i = vs_cnt D.1 1
    · rw [if_pos e, e.1, e.2]
      exact zk_up_at
    · have hcl : i < vs_cnt D.1 k := by
        rcases hcc with q | q
        · exact q
        · exact absurd q e
      have hc9 := vs_cnt_le hok hk
      rw [if_neg e, zk_up_ne (fun z => e (by
        have z2 : 10 * k + i = 10 * 1 + vNq D.1 := z.2
        have : k = 1 := by omega
        subst this
        exact ⟨rfl, show i = vNq D.1 by omega⟩))]
      exact h2 k i hk hcl
  · have hi2 : i < vNq D.1 + 1 := hi
    show _ = nI (sp_up1 (dHm D) (vNq D.1) a i)
    unfold sp_up1
    rw [zk_up_row (by decide)]
    by_cases e : i = vNq D.1
    · rw [if_pos e, e, ← hM5, zk_up_at]
    · rw [if_neg e, ← hM5, zk_up_ne (by omega)]
      exact h4 i (by omega)
theorem cm_sumIsTold (hn : 154 ≤ n) (hP : zs_M P) {f : Nat → Nat} {T p : Nat} {D : vs_D} {Cs : List Int} (hpT : p ≤ T) (hkk : tkK f T p ≠ -1) (h : mt_at M f T (tkE f T p)) (hw : mw_ok M) (hD : md_D M L D Cs) (hl : Cs.length ≤ p) (k : Nat) (hk : k < 4) (x : Int32) (hx : x = nI k) : zk_C G 7 186 [.ref 79, .int x, .int (nI (tkS f T p))] n M L P n (fun r M' L' P' => r = none ∧ P' = P ∧ mdR M M' L L' f T (vs_rule f T D k p)) := by
  subst hx
  have hfb : ∀ i, i < T → f i ≤ 255 := fun i hi => (h.1 i hi).2
  have hT := h.2.1
  have hpos := tkK_pos (f := f) hpT hkk
  have hr := hD.2.2.2.2.2.2.2.2.1 k hk
  generalize hres : vs_rule f T D k p = R
  unfold vs_rule at hres
  refine zk_meth (ow := 12) (kind := 1) (k := 2) (nL := 3) (ct := false) (l0 := [.ref 79, .int (nI k), .int (nI (tkS f T p))]) (by decide +kernel) (fun h => by cases h) (by decide +kernel) (by decide) (by decide) (fun h => absurd h (by decide)) (Nat.le_of_ble_eq_true rfl) rfl (by omega) (fun Z hZ => ?_)
  have ho := zo_M hn
  have hP2 := hP
  unfold zs_M at hP2
  cases hq : vRl D.1 k with
  | some cs =>
    rw [hq] at hr hres
    obtain ⟨fr, f1, f2, f3, f4⟩ := hr
    have hCl : Cs.length ≤ 1600 := by omega
    have e1 : (nI fr = (-1 : Int32)) = False := eq_false (zn_nm1 (by omega))
    refine hZ B_X12_sumIsTold_0 _ _ _ _ _ _ _ k_X12_sumIsTold_0 ?_
    simp only [B_X12_sumIsTold_0, zk_ldi_s, zk_ldl_s, zk_lda_r, zk_lda_a, zk_lda_n, zk_iv_s, zr_nil, zr_cons, zp_0, zp_s, zt_0, zt_s, zt2_0, zt2_s, zw_iconst, zw_bipush, zw_sipush, zw_lconst, zw_ldcs, zw_ldc, zw_ldcw, zw_ldc2, zw_iload_n, zw_lload_n, zw_aload_n, zw_istore_n, zw_lstore_n, zw_astore_n, zw_astoreN_n, zw_iload, zw_lload, zw_aload, zw_istore, zw_lstore, zw_astore, zw_astoreN, zw_iinc, zw_iadd, zw_isub, zw_imul, zw_iand, zw_ior, zw_ixor, zw_ishl, zw_ishr, zw_iushr, zw_idiv, zw_irem, zw_ladd, zw_lsub, zw_lmul, zw_land, zw_ldiv, zw_lrem, zw_lcmp, zw_i2l, zw_l2i, zw_dup, zw_pop, zw_dup2i, zw_goto, zw_if_eq, zw_if_ne, zw_if_lt, zw_if_ge, zw_if_gt, zw_if_le, zw_ic_eq, zw_ic_ne, zw_ic_lt, zw_ic_ge, zw_ic_gt, zw_ic_le, zw_ifnn, zw_ifnnN, zw_tsw, zw_lsw, zw_getf_l, zw_getf_r, zw_getf_i, zw_getf_z, zw_putf_i, zw_putf_z, zw_putf_l, zw_putf_r, zw_iaload, zw_caload, zw_laload, zw_aaload, zw_iastore, zw_castore, zw_lastore, zw_aastore, zw_alen, zw_newa, zw_newq, zw_new, zw_oini, zw_invs, zw_invv, zw_copy, zw_invt, zw_iret, zw_lret, zw_ret, zc_r, zc_a, zk_rvs, zk_cat2, List.getElem?_cons_zero, List.getElem?_cons_succ, Bool.false_eq_true, and_false, false_and, and_true, true_and, reduceIte, Nat.reduceEqDiff, Nat.reduceLT, Nat.reduceAdd, List.cons_append, List.nil_append, Option.toList_some, Option.toList_none, zk_cat_i, zk_cat_r, zk_cat_n, zk_same, Option.some.injEq, Value.int.injEq, Value.long.injEq, eq_self, false_implies, true_implies, zf_12, ho, hP2, zl_M, zc_n10, zc_cl, zc_in, not_true_eq_false, not_false_eq_true, h.2.2.2.2.1, nI_clamp (show k < 2 ^ 31 by omega), vp_in_nI (show k < 8 by omega) (by omega), f1, e1]
    refine zk_callS (cm_fail0 hn hP h.2.2.2.2.1 5 (nI (tkS f T p))) (by first | decide | omega) (Nat.le_refl _) (Nat.le_of_ble_eq_true rfl) ?_
    simp only [zk_ldi_s, zk_ldl_s, zk_lda_r, zk_lda_a, zk_lda_n, zk_iv_s, zr_nil, zr_cons, zp_0, zp_s, zt_0, zt_s, zt2_0, zt2_s, zw_iconst, zw_bipush, zw_sipush, zw_lconst, zw_ldcs, zw_ldc, zw_ldcw, zw_ldc2, zw_iload_n, zw_lload_n, zw_aload_n, zw_istore_n, zw_lstore_n, zw_astore_n, zw_astoreN_n, zw_iload, zw_lload, zw_aload, zw_istore, zw_lstore, zw_astore, zw_astoreN, zw_iinc, zw_iadd, zw_isub, zw_imul, zw_iand, zw_ior, zw_ixor, zw_ishl, zw_ishr, zw_iushr, zw_idiv, zw_irem, zw_ladd, zw_lsub, zw_lmul, zw_land, zw_ldiv, zw_lrem, zw_lcmp, zw_i2l, zw_l2i, zw_dup, zw_pop, zw_dup2i, zw_goto, zw_if_eq, zw_if_ne, zw_if_lt, zw_if_ge, zw_if_gt, zw_if_le, zw_ic_eq, zw_ic_ne, zw_ic_lt, zw_ic_ge, zw_ic_gt, zw_ic_le, zw_ifnn, zw_ifnnN, zw_tsw, zw_lsw, zw_getf_l, zw_getf_r, zw_getf_i, zw_getf_z, zw_putf_i, zw_putf_z, zw_putf_l, zw_putf_r, zw_iaload, zw_caload, zw_laload, zw_aaload, zw_iastore, zw_castore, zw_lastore, zw_aastore, zw_alen, zw_newa, zw_newq, zw_new, zw_oini, zw_invs, zw_invv, zw_copy, zw_invt, zw_iret, zw_lret, zw_ret, zc_r, zc_a, zk_rvs, zk_cat2, List.getElem?_cons_zero, List.getElem?_cons_succ, Bool.false_eq_true, and_false, false_and, and_true, true_and, reduceIte, Nat.reduceEqDiff, Nat.reduceLT, Nat.reduceAdd, List.cons_append, List.nil_append, Option.toList_some, Option.toList_none, zk_cat_i, zk_cat_r, zk_cat_n, zk_same, Option.some.injEq, Value.int.injEq, Value.long.injEq, eq_self, false_implies, true_implies, zf_12, ho, hP2, zl_M, zc_n10, zc_cl, zc_in, not_true_eq_false, not_false_eq_true]
    refine hZ B_X12_sumIsTold_23 _ _ _ _ _ _ _ k_X12_sumIsTold_23 ?_
    simp only [B_X12_sumIsTold_23, zk_ldi_s, zk_ldl_s, zk_lda_r, zk_lda_a, zk_lda_n, zk_iv_s, zr_nil, zr_cons, zp_0, zp_s, zt_0, zt_s, zt2_0, zt2_s, zw_iconst, zw_bipush, zw_sipush, zw_lconst, zw_ldcs, zw_ldc, zw_ldcw, zw_ldc2, zw_iload_n, zw_lload_n, zw_aload_n, zw_istore_n, zw_lstore_n, zw_astore_n, zw_astoreN_n, zw_iload, zw_lload, zw_aload, zw_istore, zw_lstore, zw_astore, zw_astoreN, zw_iinc, zw_iadd, zw_isub, zw_imul, zw_iand, zw_ior, zw_ixor, zw_ishl, zw_ishr, zw_iushr, zw_idiv, zw_irem, zw_ladd, zw_lsub, zw_lmul, zw_land, zw_ldiv, zw_lrem, zw_lcmp, zw_i2l, zw_l2i, zw_dup, zw_pop, zw_dup2i, zw_goto, zw_if_eq, zw_if_ne, zw_if_lt, zw_if_ge, zw_if_gt, zw_if_le, zw_ic_eq, zw_ic_ne, zw_ic_lt, zw_ic_ge, zw_ic_gt, zw_ic_le, zw_ifnn, zw_ifnnN, zw_tsw, zw_lsw, zw_getf_l, zw_getf_r, zw_getf_i, zw_getf_z, zw_putf_i, zw_putf_z, zw_putf_l, zw_putf_r, zw_iaload, zw_caload, zw_laload, zw_aaload, zw_iastore, zw_castore, zw_lastore, zw_aastore, zw_alen, zw_newa, zw_newq, zw_new, zw_oini, zw_invs, zw_invv, zw_copy, zw_invt, zw_iret, zw_lret, zw_ret, zc_r, zc_a, zk_rvs, zk_cat2, List.getElem?_cons_zero, List.getElem?_cons_succ, Bool.false_eq_true, and_false, false_and, and_true, true_and, reduceIte, Nat.reduceEqDiff, Nat.reduceLT, Nat.reduceAdd, List.cons_append, List.nil_append, Option.toList_some, Option.toList_none, zk_cat_i, zk_cat_r, zk_cat_n, zk_same, Option.some.injEq, Value.int.injEq, Value.long.injEq, eq_self, false_implies, true_implies, zf_12, ho, hP2, zl_M, zc_n10, zc_cl, zc_in, not_true_eq_false, not_false_eq_true, mt_bad5.1, (show ((5 : Int32) = 0) = False from by decide)]
    rw [← hres]
    exact ⟨by decide, mt_bad5.1, mt_bad5.2, mdF_m mtF_bad⟩
  | none =>
    rw [hq] at hr hres
    simp only at hres
    have hr' : M 120 k = -1 := hr
    have e3 : (nI k = (3 : Int32)) = (k = 3) := by rw [fa_lit 3, zn_eq (by omega) (by omega)]
    have c54 : M 79 54 = nI Cs.length := hD.2.2.2.2.2.2.2.2.2.1
    have at42 : ∀ y : Int32, (y = if k = 3 then 1 else 0) → Z 42 [.ref 79, .int (nI k), .int (nI (tkS f T p))] [.int y, .ref 79] n M L P := by
      intro y hy
      generalize hM1 : zk_up (zk_up (zk_up (zk_up (zk_up M 79 52 y) 120 k (nI Cs.length)) 79 56 0) 79 57 0) 79 58 0 = M1
      have r1 : ∀ q, q ≠ 79 → q ≠ 120 → M1 q = M q := fun q a b => by rw [← hM1, zk_up_row a, zk_up_row a, zk_up_row a, zk_up_row b, zk_up_row a]
      have r79 : ∀ j, j ≠ 52 → j ≠ 56 → j ≠ 57 → j ≠ 58 → M1 79 j = M 79 j := fun j a b c d => by rw [← hM1, zk_up_ne (by omega), zk_up_ne (by omega), zk_up_ne (by omega), zk_up_row (by decide), zk_up_ne (by omega)]
      have m52 : M1 79 52 = y := by rw [← hM1, zk_up_ne (by decide), zk_up_ne (by decide), zk_up_ne (by decide), zk_up_row (by decide)]; exact zk_up_at
      have m56 : M1 79 56 = nI 0 := by rw [← hM1, zk_up_ne (by decide), zk_up_ne (by decide)]; exact zk_up_at
      have m57 : M1 79 57 = nI 0 := by rw [← hM1, zk_up_ne (by decide)]; exact zk_up_at
      have m120 : M1 120 k = nI Cs.length := by rw [← hM1, zk_up_row (by decide), zk_up_row (by decide), zk_up_row (by decide)]; exact zk_up_at
      have m120' : ∀ j, j ≠ k → M1 120 j = M 120 j := fun j hj => by rw [← hM1, zk_up_row (by decide), zk_up_row (by decide), zk_up_row (by decide), zk_up_ne (by omega), zk_up_row (by decide)]
      have hF1 : mdF M M1 L L := ⟨fun q a b => r1 q a (by omega), fun j _ _ _ _ _ a _ b c d => r79 j a b c d, fun _ _ => rfl, fun i _ => by rw [r1 112 (by decide) (by decide)], fun _ _ => rfl, fun i _ => by rw [r1 114 (by decide) (by decide)], fun i _ => by rw [r1 116 (by decide) (by decide)], fun i _ => by rw [r1 117 (by decide) (by decide)], fun i _ => by rw [r1 119 (by decide) (by decide)], fun i hi => m120' i (by omega), fun i _ => by rw [r1 121 (by decide) (by decide)], fun i _ => by rw [r1 122 (by decide) (by decide)]⟩
      have hat1 : mt_at M1 f T (tkE f T p) := by
        obtain ⟨h1, h2, h3, h4, h5, ⟨a, a1, a2, a3, a4⟩, E, e1, e2⟩ := h
        exact ⟨fun i hi => by rw [r1 80 (by decide) (by decide)]; exact h1 i hi, h2, by rw [r79 3 (by decide) (by decide) (by decide) (by decide)]; exact h3, h4, by rw [r79 5 (by decide) (by decide) (by decide) (by decide)]; exact h5, ⟨a, by rw [r79 2 (by decide) (by decide) (by decide) (by decide)]; exact a1, a2, a3, by rw [r79 6 (by decide) (by decide) (by decide) (by decide)]; exact a4⟩, E, by rw [r79 4 (by decide) (by decide) (by decide) (by decide)]; exact e1, e2⟩
      have hS1 : yv_S M1 [] Cs := ⟨trivial, m56, fun i hi => by rw [r1 122 (by decide) (by decide)]; exact hD.2.2.2.2.2.2.2.2.2.2 i hi, by rw [r79 54 (by decide) (by decide) (by decide) (by decide)]; exact c54, by simp only [List.length_nil]; omega⟩
      obtain ⟨J, hJ⟩ := y_all (f := f) (sort := k) (T := T) hT (d := 6) (Nat.le_refl _) hpos.2.1 Cs
      generalize hRR : y_run f T k J true (tkE f T p) ([], Cs, 6 - 6) = RR at hJ
      have hR9 : RR ≠ .inl (9, 9) := by
        rw [hJ]
        intro z
        rcases hx : (rd_lev f T k 6).2 (tkE f T p) with e1 | ⟨p1, cs⟩
        · rw [hx] at z
          cases z
          have := (rd_fe_lev f T k 6).2 _ _ hx
          omega
        · rw [hx] at z; cases z
      have u79 : ∀ z, zk_up M 79 52 z 79 54 = nI Cs.length := fun z => by rw [zk_up_ne (by decide)]; exact c54
      have hy1 : zk_b1 y := by rw [hy]; exact zk_bif _
      refine hZ B_X12_sumIsTold_42 _ _ _ _ _ _ _ k_X12_sumIsTold_42 ?_
      simp only [B_X12_sumIsTold_42, zk_ldi_s, zk_ldl_s, zk_lda_r, zk_lda_a, zk_lda_n, zk_iv_s, zr_nil, zr_cons, zp_0, zp_s, zt_0, zt_s, zt2_0, zt2_s, zw_iconst, zw_bipush, zw_sipush, zw_lconst, zw_ldcs, zw_ldc, zw_ldcw, zw_ldc2, zw_iload_n, zw_lload_n, zw_aload_n, zw_istore_n, zw_lstore_n, zw_astore_n, zw_astoreN_n, zw_iload, zw_lload, zw_aload, zw_istore, zw_lstore, zw_astore, zw_astoreN, zw_iinc, zw_iadd, zw_isub, zw_imul, zw_iand, zw_ior, zw_ixor, zw_ishl, zw_ishr, zw_iushr, zw_idiv, zw_irem, zw_ladd, zw_lsub, zw_lmul, zw_land, zw_ldiv, zw_lrem, zw_lcmp, zw_i2l, zw_l2i, zw_dup, zw_pop, zw_dup2i, zw_goto, zw_if_eq, zw_if_ne, zw_if_lt, zw_if_ge, zw_if_gt, zw_if_le, zw_ic_eq, zw_ic_ne, zw_ic_lt, zw_ic_ge, zw_ic_gt, zw_ic_le, zw_ifnn, zw_ifnnN, zw_tsw, zw_lsw, zw_getf_l, zw_getf_r, zw_getf_i, zw_getf_z, zw_putf_i, zw_putf_z, zw_putf_l, zw_putf_r, zw_iaload, zw_caload, zw_laload, zw_aaload, zw_iastore, zw_castore, zw_lastore, zw_aastore, zw_alen, zw_newa, zw_newq, zw_new, zw_oini, zw_invs, zw_invv, zw_copy, zw_invt, zw_iret, zw_lret, zw_ret, zc_r, zc_a, zk_rvs, zk_cat2, List.getElem?_cons_zero, List.getElem?_cons_succ, Bool.false_eq_true, and_false, false_and, and_true, true_and, reduceIte, Nat.reduceEqDiff, Nat.reduceLT, Nat.reduceAdd, List.cons_append, List.nil_append, Option.toList_some, Option.toList_none, zk_cat_i, zk_cat_r, zk_cat_n, zk_same, Option.some.injEq, Value.int.injEq, Value.long.injEq, eq_self, false_implies, true_implies, zf_12, ho, hP2, zl_M, zc_n10, zc_cl, zc_in, not_true_eq_false, not_false_eq_true, hy1, u79, nI_clamp (show k < 2 ^ 31 by omega), vp_in_nI (show k < 8 by omega) (by omega), hM1]
      refine zk_callI (cm_sumsTold hn hP hk (B := []) (C := Cs) (o := 0) (fun c hc => by cases hc) hat1 (mw_ok_F hw hF1) hS1 m57 (by decide) (by simp only [List.length_nil]; omega) (by rw [m52]; exact hy) hR9 hRR) (by first | decide | omega) (Nat.le_refl _) (Nat.le_of_ble_eq_true rfl) (fun r M2 L9 P9 hpost => ?_)
      obtain ⟨rfl, hL9, hP9, z1, z2⟩ := hpost
      have hL8 := hL9.symm
      have hP8 := hP9.symm
      clear hL9 hP9
      subst hL8
      subst hP8
      have hF2 := mdF_tr hF1 (mdF_y (L := L) z1)
      rcases hx : (rd_lev f T k 6).2 (tkE f T p) with ⟨k', pl⟩ | ⟨p1, cs⟩
      · rw [hx] at hJ hres
        rw [hJ] at z2
        obtain ⟨y1, y2, y3⟩ := z2
        simp only [zk_ldi_s, zk_ldl_s, zk_lda_r, zk_lda_a, zk_lda_n, zk_iv_s, zr_nil, zr_cons, zp_0, zp_s, zt_0, zt_s, zt2_0, zt2_s, zw_iconst, zw_bipush, zw_sipush, zw_lconst, zw_ldcs, zw_ldc, zw_ldcw, zw_ldc2, zw_iload_n, zw_lload_n, zw_aload_n, zw_istore_n, zw_lstore_n, zw_astore_n, zw_astoreN_n, zw_iload, zw_lload, zw_aload, zw_istore, zw_lstore, zw_astore, zw_astoreN, zw_iinc, zw_iadd, zw_isub, zw_imul, zw_iand, zw_ior, zw_ixor, zw_ishl, zw_ishr, zw_iushr, zw_idiv, zw_irem, zw_ladd, zw_lsub, zw_lmul, zw_land, zw_ldiv, zw_lrem, zw_lcmp, zw_i2l, zw_l2i, zw_dup, zw_pop, zw_dup2i, zw_goto, zw_if_eq, zw_if_ne, zw_if_lt, zw_if_ge, zw_if_gt, zw_if_le, zw_ic_eq, zw_ic_ne, zw_ic_lt, zw_ic_ge, zw_ic_gt, zw_ic_le, zw_ifnn, zw_ifnnN, zw_tsw, zw_lsw, zw_getf_l, zw_getf_r, zw_getf_i, zw_getf_z, zw_putf_i, zw_putf_z, zw_putf_l, zw_putf_r, zw_iaload, zw_caload, zw_laload, zw_aaload, zw_iastore, zw_castore, zw_lastore, zw_aastore, zw_alen, zw_newa, zw_newq, zw_new, zw_oini, zw_invs, zw_invv, zw_copy, zw_invt, zw_iret, zw_lret, zw_ret, zc_r, zc_a, zk_rvs, zk_cat2, List.getElem?_cons_zero, List.getElem?_cons_succ, Bool.false_eq_true, and_false, false_and, and_true, true_and, reduceIte, Nat.reduceEqDiff, Nat.reduceLT, Nat.reduceAdd, List.cons_append, List.nil_append, Option.toList_some, Option.toList_none, zk_cat_i, zk_cat_r, zk_cat_n, zk_same, Option.some.injEq, Value.int.injEq, Value.long.injEq, eq_self, false_implies, true_implies, zf_12, ho, hP2, zl_M, zc_n10, zc_cl, zc_in, not_true_eq_false, not_false_eq_true, nI_clamp (show k < 2 ^ 31 by omega), vp_in_nI (show k < 8 by omega) (by omega)]
        rw [← hres]
        exact ⟨y1, by rw [zk_up_row (by decide)]; exact y2, by rw [zk_up_row (by decide)]; exact y3, mdF_tr hF2 (mdF_row (by omega))⟩
      · have hrk := (rd_lev_ok f T k 6).2 _ _ _ hpos.2.1 hx
        rw [hx] at hJ hres
        rw [hJ] at z2
        obtain ⟨y1, ⟨s1, s2, s3, s4, s5⟩, y3⟩ := z2
        simp only [vs_b] at hres
        simp only [zk_ldi_s, zk_ldl_s, zk_lda_r, zk_lda_a, zk_lda_n, zk_iv_s, zr_nil, zr_cons, zp_0, zp_s, zt_0, zt_s, zt2_0, zt2_s, zw_iconst, zw_bipush, zw_sipush, zw_lconst, zw_ldcs, zw_ldc, zw_ldcw, zw_ldc2, zw_iload_n, zw_lload_n, zw_aload_n, zw_istore_n, zw_lstore_n, zw_astore_n, zw_astoreN_n, zw_iload, zw_lload, zw_aload, zw_istore, zw_lstore, zw_astore, zw_astoreN, zw_iinc, zw_iadd, zw_isub, zw_imul, zw_iand, zw_ior, zw_ixor, zw_ishl, zw_ishr, zw_iushr, zw_idiv, zw_irem, zw_ladd, zw_lsub, zw_lmul, zw_land, zw_ldiv, zw_lrem, zw_lcmp, zw_i2l, zw_l2i, zw_dup, zw_pop, zw_dup2i, zw_goto, zw_if_eq, zw_if_ne, zw_if_lt, zw_if_ge, zw_if_gt, zw_if_le, zw_ic_eq, zw_ic_ne, zw_ic_lt, zw_ic_ge, zw_ic_gt, zw_ic_le, zw_ifnn, zw_ifnnN, zw_tsw, zw_lsw, zw_getf_l, zw_getf_r, zw_getf_i, zw_getf_z, zw_putf_i, zw_putf_z, zw_putf_l, zw_putf_r, zw_iaload, zw_caload, zw_laload, zw_aaload, zw_iastore, zw_castore, zw_lastore, zw_aastore, zw_alen, zw_newa, zw_newq, zw_new, zw_oini, zw_invs, zw_invv, zw_copy, zw_invt, zw_iret, zw_lret, zw_ret, zc_r, zc_a, zk_rvs, zk_cat2, List.getElem?_cons_zero, List.getElem?_cons_succ, Bool.false_eq_true, and_false, false_and, and_true, true_and, reduceIte, Nat.reduceEqDiff, Nat.reduceLT, Nat.reduceAdd, List.cons_append, List.nil_append, Option.toList_some, Option.toList_none, zk_cat_i, zk_cat_r, zk_cat_n, zk_same, Option.some.injEq, Value.int.injEq, Value.long.injEq, eq_self, false_implies, true_implies, zf_12, ho, hP2, zl_M, zc_n10, zc_cl, zc_in, not_true_eq_false, not_false_eq_true, s4, nI_clamp (show k < 2 ^ 31 by omega), vp_in_nI (show k < 8 by omega) (by omega)]
        rw [← hres]
        have hr3 : ∀ q, q ≠ 121 → zk_up M2 121 k (nI (Cs ++ cs).length) q = M2 q := fun q hq => zk_up_row hq
        have hrr : ∀ q, q ≠ 79 → q ≠ 120 → q ≠ 121 → q ≠ 122 → q ≠ 123 → zk_up M2 121 k (nI (Cs ++ cs).length) q = M q := fun q a b c d e => by rw [hr3 q c, z1.1 q a d e, r1 q a b]
        have hF3 := mdF_tr hF2 (mdF_row (L := L) (M := M2) (q := 121) (k := k) (x := nI (Cs ++ cs).length) (by omega))
        have hlC : (Cs ++ cs).length = Cs.length + cs.length := List.length_append
        refine ⟨mt_at_row y1 (hr3 79 (by decide)) (hr3 80 (by decide)), mw_ok_F hw hF3, ⟨Cs ++ cs, ?_, by rw [hlC]; omega⟩, hF3⟩
        obtain ⟨⟨k1, k2, k3⟩, h2, h3, h4, h5, h6, h7, h8, h9, h10, h11⟩ := hD
        have n120 : ∀ j, zk_up M2 121 k (nI (Cs ++ cs).length) 120 j = M1 120 j := fun j => by rw [hr3 120 (by decide), z1.1 120 (by decide) (by decide) (by decide)]
        refine ⟨⟨by rw [hrr 112 (by decide) (by decide) (by decide) (by decide) (by decide)]; exact k1, by rw [hrr 112 (by decide) (by decide) (by decide) (by decide) (by decide)]; exact k2, by rw [hrr 112 (by decide) (by decide) (by decide) (by decide) (by decide)]; exact k3⟩, h2, fun a b ha hb => by rw [hrr 114 (by decide) (by decide) (by decide) (by decide) (by decide)]; exact h3 a b ha hb, fun i hi => by rw [hrr 115 (by decide) (by decide) (by decide) (by decide) (by decide)]; exact h4 i hi, fun t ht => by rw [hrr 116 (by decide) (by decide) (by decide) (by decide) (by decide)]; exact h5 t ht, fun t ht => by rw [hrr 117 (by decide) (by decide) (by decide) (by decide) (by decide)]; exact h6 t ht, fun p t hp ht => by rw [hrr 118 (by decide) (by decide) (by decide) (by decide) (by decide)]; exact h7 p t hp ht, by rw [hrr 119 (by decide) (by decide) (by decide) (by decide) (by decide)]; exact h8, fun j hj => ?_, by rw [hr3 79 (by decide)]; exact s4, fun i hi => by rw [hr3 122 (by decide)]; exact s3 i hi⟩
        show md_rule _ (Cs ++ cs) j (if j = k then some cs else vRl D.1 j)
        by_cases e : j = k
        · subst e
          rw [if_pos rfl]
          refine ⟨Cs.length, by rw [n120]; exact m120, by rw [zk_up_at, hlC], by rw [hlC]; exact Nat.le_refl _, fun i hi => ?_⟩
          rw [sp_getD_app, if_neg (by omega)]
          congr 1
          omega
        · rw [if_neg e]
          have := h9 j hj
          cases hrj : vRl D.1 j with
          | none =>
            rw [hrj] at this
            show zk_up M2 121 k (nI (Cs ++ cs).length) 120 j = -1
            rw [n120, m120' j e]
            exact this
          | some cs' =>
            rw [hrj] at this
            obtain ⟨fr, f1, f2, f3, f4⟩ := this
            refine ⟨fr, by rw [n120, m120' j e]; exact f1, ?_, by rw [hlC]; omega, fun i hi => ?_⟩
            · rw [zk_up_ne (by omega), z1.1 121 (by decide) (by decide) (by decide), r1 121 (by decide) (by decide)]; exact f2
            · rw [sp_getD_app, if_pos (by omega)]; exact f4 i hi
    refine hZ B_X12_sumIsTold_0 _ _ _ _ _ _ _ k_X12_sumIsTold_0 ?_
    simp only [B_X12_sumIsTold_0, zk_ldi_s, zk_ldl_s, zk_lda_r, zk_lda_a, zk_lda_n, zk_iv_s, zr_nil, zr_cons, zp_0, zp_s, zt_0, zt_s, zt2_0, zt2_s, zw_iconst, zw_bipush, zw_sipush, zw_lconst, zw_ldcs, zw_ldc, zw_ldcw, zw_ldc2, zw_iload_n, zw_lload_n, zw_aload_n, zw_istore_n, zw_lstore_n, zw_astore_n, zw_astoreN_n, zw_iload, zw_lload, zw_aload, zw_istore, zw_lstore, zw_astore, zw_astoreN, zw_iinc, zw_iadd, zw_isub, zw_imul, zw_iand, zw_ior, zw_ixor, zw_ishl, zw_ishr, zw_iushr, zw_idiv, zw_irem, zw_ladd, zw_lsub, zw_lmul, zw_land, zw_ldiv, zw_lrem, zw_lcmp, zw_i2l, zw_l2i, zw_dup, zw_pop, zw_dup2i, zw_goto, zw_if_eq, zw_if_ne, zw_if_lt, zw_if_ge, zw_if_gt, zw_if_le, zw_ic_eq, zw_ic_ne, zw_ic_lt, zw_ic_ge, zw_ic_gt, zw_ic_le, zw_ifnn, zw_ifnnN, zw_tsw, zw_lsw, zw_getf_l, zw_getf_r, zw_getf_i, zw_getf_z, zw_putf_i, zw_putf_z, zw_putf_l, zw_putf_r, zw_iaload, zw_caload, zw_laload, zw_aaload, zw_iastore, zw_castore, zw_lastore, zw_aastore, zw_alen, zw_newa, zw_newq, zw_new, zw_oini, zw_invs, zw_invv, zw_copy, zw_invt, zw_iret, zw_lret, zw_ret, zc_r, zc_a, zk_rvs, zk_cat2, List.getElem?_cons_zero, List.getElem?_cons_succ, Bool.false_eq_true, and_false, false_and, and_true, true_and, reduceIte, Nat.reduceEqDiff, Nat.reduceLT, Nat.reduceAdd, List.cons_append, List.nil_append, Option.toList_some, Option.toList_none, zk_cat_i, zk_cat_r, zk_cat_n, zk_same, Option.some.injEq, Value.int.injEq, Value.long.injEq, eq_self, false_implies, true_implies, zf_12, ho, hP2, zl_M, zc_n10, zc_cl, zc_in, not_true_eq_false, not_false_eq_true, h.2.2.2.2.1, nI_clamp (show k < 2 ^ 31 by omega), vp_in_nI (show k < 8 by omega) (by omega), hr']
    refine hZ B_X12_sumIsTold_23 _ _ _ _ _ _ _ k_X12_sumIsTold_23 ?_
    simp only [B_X12_sumIsTold_23, zk_ldi_s, zk_ldl_s, zk_lda_r, zk_lda_a, zk_lda_n, zk_iv_s, zr_nil, zr_cons, zp_0, zp_s, zt_0, zt_s, zt2_0, zt2_s, zw_iconst, zw_bipush, zw_sipush, zw_lconst, zw_ldcs, zw_ldc, zw_ldcw, zw_ldc2, zw_iload_n, zw_lload_n, zw_aload_n, zw_istore_n, zw_lstore_n, zw_astore_n, zw_astoreN_n, zw_iload, zw_lload, zw_aload, zw_istore, zw_lstore, zw_astore, zw_astoreN, zw_iinc, zw_iadd, zw_isub, zw_imul, zw_iand, zw_ior, zw_ixor, zw_ishl, zw_ishr, zw_iushr, zw_idiv, zw_irem, zw_ladd, zw_lsub, zw_lmul, zw_land, zw_ldiv, zw_lrem, zw_lcmp, zw_i2l, zw_l2i, zw_dup, zw_pop, zw_dup2i, zw_goto, zw_if_eq, zw_if_ne, zw_if_lt, zw_if_ge, zw_if_gt, zw_if_le, zw_ic_eq, zw_ic_ne, zw_ic_lt, zw_ic_ge, zw_ic_gt, zw_ic_le, zw_ifnn, zw_ifnnN, zw_tsw, zw_lsw, zw_getf_l, zw_getf_r, zw_getf_i, zw_getf_z, zw_putf_i, zw_putf_z, zw_putf_l, zw_putf_r, zw_iaload, zw_caload, zw_laload, zw_aaload, zw_iastore, zw_castore, zw_lastore, zw_aastore, zw_alen, zw_newa, zw_newq, zw_new, zw_oini, zw_invs, zw_invv, zw_copy, zw_invt, zw_iret, zw_lret, zw_ret, zc_r, zc_a, zk_rvs, zk_cat2, List.getElem?_cons_zero, List.getElem?_cons_succ, Bool.false_eq_true, and_false, false_and, and_true, true_and, reduceIte, Nat.reduceEqDiff, Nat.reduceLT, Nat.reduceAdd, List.cons_append, List.nil_append, Option.toList_some, Option.toList_none, zk_cat_i, zk_cat_r, zk_cat_n, zk_same, Option.some.injEq, Value.int.injEq, Value.long.injEq, eq_self, false_implies, true_implies, zf_12, ho, hP2, zl_M, zc_n10, zc_cl, zc_in, not_true_eq_false, not_false_eq_true, h.2.2.2.2.1]
    refine hZ B_X12_sumIsTold_31 _ _ _ _ _ _ _ k_X12_sumIsTold_31 ?_
    simp only [B_X12_sumIsTold_31, zk_ldi_s, zk_ldl_s, zk_lda_r, zk_lda_a, zk_lda_n, zk_iv_s, zr_nil, zr_cons, zp_0, zp_s, zt_0, zt_s, zt2_0, zt2_s, zw_iconst, zw_bipush, zw_sipush, zw_lconst, zw_ldcs, zw_ldc, zw_ldcw, zw_ldc2, zw_iload_n, zw_lload_n, zw_aload_n, zw_istore_n, zw_lstore_n, zw_astore_n, zw_astoreN_n, zw_iload, zw_lload, zw_aload, zw_istore, zw_lstore, zw_astore, zw_astoreN, zw_iinc, zw_iadd, zw_isub, zw_imul, zw_iand, zw_ior, zw_ixor, zw_ishl, zw_ishr, zw_iushr, zw_idiv, zw_irem, zw_ladd, zw_lsub, zw_lmul, zw_land, zw_ldiv, zw_lrem, zw_lcmp, zw_i2l, zw_l2i, zw_dup, zw_pop, zw_dup2i, zw_goto, zw_if_eq, zw_if_ne, zw_if_lt, zw_if_ge, zw_if_gt, zw_if_le, zw_ic_eq, zw_ic_ne, zw_ic_lt, zw_ic_ge, zw_ic_gt, zw_ic_le, zw_ifnn, zw_ifnnN, zw_tsw, zw_lsw, zw_getf_l, zw_getf_r, zw_getf_i, zw_getf_z, zw_putf_i, zw_putf_z, zw_putf_l, zw_putf_r, zw_iaload, zw_caload, zw_laload, zw_aaload, zw_iastore, zw_castore, zw_lastore, zw_aastore, zw_alen, zw_newa, zw_newq, zw_new, zw_oini, zw_invs, zw_invv, zw_copy, zw_invt, zw_iret, zw_lret, zw_ret, zc_r, zc_a, zk_rvs, zk_cat2, List.getElem?_cons_zero, List.getElem?_cons_succ, Bool.false_eq_true, and_false, false_and, and_true, true_and, reduceIte, Nat.reduceEqDiff, Nat.reduceLT, Nat.reduceAdd, List.cons_append, List.nil_append, Option.toList_some, Option.toList_none, zk_cat_i, zk_cat_r, zk_cat_n, zk_same, Option.some.injEq, Value.int.injEq, Value.long.injEq, eq_self, false_implies, true_implies, zf_12, ho, hP2, zl_M, zc_n10, zc_cl, zc_in, not_true_eq_false, not_false_eq_true, e3]
    refine ⟨fun g => ?_, fun g => ?_⟩
    · refine hZ B_X12_sumIsTold_41 _ _ _ _ _ _ _ k_X12_sumIsTold_41 ?_
      simp only [B_X12_sumIsTold_41, zk_ldi_s, zk_ldl_s, zk_lda_r, zk_lda_a, zk_lda_n, zk_iv_s, zr_nil, zr_cons, zp_0, zp_s, zt_0, zt_s, zt2_0, zt2_s, zw_iconst, zw_bipush, zw_sipush, zw_lconst, zw_ldcs, zw_ldc, zw_ldcw, zw_ldc2, zw_iload_n, zw_lload_n, zw_aload_n, zw_istore_n, zw_lstore_n, zw_astore_n, zw_astoreN_n, zw_iload, zw_lload, zw_aload, zw_istore, zw_lstore, zw_astore, zw_astoreN, zw_iinc, zw_iadd, zw_isub, zw_imul, zw_iand, zw_ior, zw_ixor, zw_ishl, zw_ishr, zw_iushr, zw_idiv, zw_irem, zw_ladd, zw_lsub, zw_lmul, zw_land, zw_ldiv, zw_lrem, zw_lcmp, zw_i2l, zw_l2i, zw_dup, zw_pop, zw_dup2i, zw_goto, zw_if_eq, zw_if_ne, zw_if_lt, zw_if_ge, zw_if_gt, zw_if_le, zw_ic_eq, zw_ic_ne, zw_ic_lt, zw_ic_ge, zw_ic_gt, zw_ic_le, zw_ifnn, zw_ifnnN, zw_tsw, zw_lsw, zw_getf_l, zw_getf_r, zw_getf_i, zw_getf_z, zw_putf_i, zw_putf_z, zw_putf_l, zw_putf_r, zw_iaload, zw_caload, zw_laload, zw_aaload, zw_iastore, zw_castore, zw_lastore, zw_aastore, zw_alen, zw_newa, zw_newq, zw_new, zw_oini, zw_invs, zw_invv, zw_copy, zw_invt, zw_iret, zw_lret, zw_ret, zc_r, zc_a, zk_rvs, zk_cat2, List.getElem?_cons_zero, List.getElem?_cons_succ, Bool.false_eq_true, and_false, false_and, and_true, true_and, reduceIte, Nat.reduceEqDiff, Nat.reduceLT, Nat.reduceAdd, List.cons_append, List.nil_append, Option.toList_some, Option.toList_none, zk_cat_i, zk_cat_r, zk_cat_n, zk_same, Option.some.injEq, Value.int.injEq, Value.long.injEq, eq_self, false_implies, true_implies, zf_12, ho, hP2, zl_M, zc_n10, zc_cl, zc_in, not_true_eq_false, not_false_eq_true]
      exact at42 0 (by rw [if_neg g])
    · exact at42 1 (by rw [if_pos g])
end MS2
