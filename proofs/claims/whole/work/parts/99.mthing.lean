/-! ===== the model: a THING ===== -/
theorem tk_ltr {f : Nat → Nat} {T p : Nat} (hp : p ≤ T) (hf : ∀ i, i < T → f i ≤ 255) : ((97 ≤ tk_ci f T p ∧ tk_ci f T p ≤ 122) → tkK f T p ≠ 59) ∧ (¬ (97 ≤ tk_ci f T p ∧ tk_ci f T p ≤ 122) → tk_nm f T p = some (tkS f T p)) := by
  refine ⟨fun h z => ?_, fun h => ?_⟩
  · have := (tk_sign (f := f) (p := p) hf (c := 59) (by decide) (by decide) hp).mp z
    omega
  · cases hx : tk_nm f T p with
    | none =>
      have h2 := tk_nm_ok hp hf hx
      have h3 := h2.2.2.2.2.2 0 (by omega)
      exact absurd (by unfold tk_ci; rw [if_pos h2.1]; simp only [Nat.add_zero] at h3; omega) h
    | some pl =>
      unfold tk_nm at hx
      split at hx
      · exact hx.symm
      · rename_i h1
        exfalso
        apply h
        have hk : tkK f T p ≠ -1 := by omega
        have hpos := tkK_pos (f := f) hp hk
        have hb := hf (tkS f T p) hpos.2.2.1
        have hso : sp_so (f (tkS f T p)) = 1 := by
          unfold tkK at h1
          rw [if_neg (by omega)] at h1
          have := sp_so_le (f (tkS f T p))
          rcases (show sp_so (f (tkS f T p)) = 0 ∨ sp_so (f (tkS f T p)) = 1 ∨ sp_so (f (tkS f T p)) = 2 by omega) with z | z | z
          · rw [if_pos z] at h1; omega
          · exact z
          · rw [if_neg (by omega)] at h1
            split at h1
            · omega
            · rw [if_neg (by omega)] at h1; omega
        have := sp_so1 hso
        unfold tk_ci
        rw [if_pos hpos.2.2.1]
        omega
section MS3
variable {G : zk_G} {n : Nat} {M M' : zk_MI} {L L' : zk_ML} {P : zk_MP}
theorem md_D_wt {D : vs_D} {Cs : List Int} (h : md_D M L D Cs) {q : Nat} (hq : q = 116 ∨ q = 117) (x : Int32) : md_D (zk_up M q (vNt D.1) x) L D Cs := by
  obtain ⟨⟨c1, c2, c3⟩, h2, h3, h4, h5, h6, h7, h8, h9, h10, h11⟩ := h
  refine ⟨⟨by rw [zk_up_row (by omega)]; exact c1, by rw [zk_up_row (by omega)]; exact c2, by rw [zk_up_row (by omega)]; exact c3⟩, h2, fun a b ha hb => by rw [zk_up_row (by omega)]; exact h3 a b ha hb, fun i hi => by rw [zk_up_row (by omega)]; exact h4 i hi, fun t ht => by rw [zk_up_ne (by omega)]; exact h5 t ht, fun t ht => by rw [zk_up_ne (by omega)]; exact h6 t ht, fun p t hp ht => by rw [zk_up_row (by omega)]; exact h7 p t hp ht, by rw [zk_up_row (by omega)]; exact h8, fun k hk => md_rule_fr (h9 k hk) (zk_up_row (by omega)) (zk_up_row (by omega)), by rw [zk_up_row (by omega)]; exact h10, fun i hi => by rw [zk_up_row (by omega)]; exact h11 i hi⟩
/-- a THING is told; where its roots end ahead of no `;`, the FAULT is yet to come -/
def mdT (M M' : zk_MI) (L L' : zk_ML) (f : Nat → Nat) (T : Nat) (R : vs_R vs_D) : Prop := mdR M M' L L' f T R ∨ ∃ q1, R = .inl (1, tkS f T q1) ∧ tkK f T q1 ≠ 59 ∧ mt_at M' f T q1 ∧ mw_ok M' ∧ mdF M M' L L'
theorem cm_thingTold (hn : 154 ≤ n) (hP : zs_M P) {f : Nat → Nat} {T p : Nat} {D : vs_D} {Cs : List Int} (hok : vs_ok D) (hpT : p ≤ T) (hk : tkK f T p ≠ -1) (h : mt_at M f T (tkE f T p)) (hw : mw_ok M) (hD : md_D M L D Cs) (hl : Cs.length ≤ p) : zk_C G 5 184 [.ref 79, .int (nI (tkS f T p))] n M L P n (fun r M' L' P' => r = none ∧ P' = P ∧ mdT M M' L L' f T (vs_thing f T D p)) := by
  have hfb : ∀ i, i < T → f i ≤ 255 := fun i hi => (h.1 i hi).2
  have hpos := tkK_pos (f := f) hpT hk
  have hn10 := hok.1.2.2.1
  generalize hres : vs_thing f T D p = R
  unfold vs_thing at hres
  rw [vs_nw_nn] at hres
  refine zk_meth (ow := 12) (kind := 1) (k := 1) (nL := 6) (ct := false) (l0 := [.ref 79, .int (nI (tkS f T p)), zk_un, zk_un, zk_un, zk_un]) (by decide +kernel) (fun h => by cases h) (by decide +kernel) (by decide) (by decide) (fun h => absurd h (by decide)) (Nat.le_of_ble_eq_true rfl) rfl (by omega) (fun Z hZ => ?_)
  have ho := zo_M hn
  have hP2 := hP
  unfold zs_M at hP2
  have bad136 : ∀ (M9 : zk_MI) (v : Int64) (v4 v5 : Value) (k' pl : Nat), R = .inl (k', pl) → (1 ≤ k' ∧ k' ≤ 5) → M9 79 5 = nI k' → M9 79 6 = nI pl → mdF M M9 L L → Z 136 [.ref 79, .int (nI (tkS f T p)), .long v, zk_un, v4, v5] [] n M9 L P := by
    intro M9 v v4 v5 k' pl hR h1 h2 h3 h4
    refine hZ B_X12_thingTold_136 _ _ _ _ _ _ _ k_X12_thingTold_136 ?_
    simp only [B_X12_thingTold_136, zk_ldi_s, zk_ldl_s, zk_lda_r, zk_lda_a, zk_lda_n, zk_iv_s, zr_nil, zr_cons, zp_0, zp_s, zt_0, zt_s, zt2_0, zt2_s, zw_iconst, zw_bipush, zw_sipush, zw_lconst, zw_ldcs, zw_ldc, zw_ldcw, zw_ldc2, zw_iload_n, zw_lload_n, zw_aload_n, zw_istore_n, zw_lstore_n, zw_astore_n, zw_astoreN_n, zw_iload, zw_lload, zw_aload, zw_istore, zw_lstore, zw_astore, zw_astoreN, zw_iinc, zw_iadd, zw_isub, zw_imul, zw_iand, zw_ior, zw_ixor, zw_ishl, zw_ishr, zw_iushr, zw_idiv, zw_irem, zw_ladd, zw_lsub, zw_lmul, zw_land, zw_ldiv, zw_lrem, zw_lcmp, zw_i2l, zw_l2i, zw_dup, zw_pop, zw_dup2i, zw_goto, zw_if_eq, zw_if_ne, zw_if_lt, zw_if_ge, zw_if_gt, zw_if_le, zw_ic_eq, zw_ic_ne, zw_ic_lt, zw_ic_ge, zw_ic_gt, zw_ic_le, zw_ifnn, zw_ifnnN, zw_tsw, zw_lsw, zw_getf_l, zw_getf_r, zw_getf_i, zw_getf_z, zw_putf_i, zw_putf_z, zw_putf_l, zw_putf_r, zw_iaload, zw_caload, zw_laload, zw_aaload, zw_iastore, zw_castore, zw_lastore, zw_aastore, zw_alen, zw_newa, zw_newq, zw_new, zw_oini, zw_invs, zw_invv, zw_copy, zw_invt, zw_iret, zw_lret, zw_ret, zc_r, zc_a, zk_rvs, zk_cat2, List.getElem?_cons_zero, List.getElem?_cons_succ, Bool.false_eq_true, and_false, false_and, and_true, true_and, reduceIte, Nat.reduceEqDiff, Nat.reduceLT, Nat.reduceAdd, List.cons_append, List.nil_append, Option.toList_some, Option.toList_none, zk_cat_i, zk_cat_r, zk_cat_n, zk_same, Option.some.injEq, Value.int.injEq, Value.long.injEq, eq_self, false_implies, true_implies, zf_12, ho, hP2, zl_M, zc_n10, zc_cl, zc_in, not_true_eq_false, not_false_eq_true]
    refine zk_callS (cm_isNamedB hn hP (yv_nz h1 h2) v 2) (by first | decide | omega) (Nat.le_refl _) (Nat.le_of_ble_eq_true rfl) ?_
    simp only [zk_ldi_s, zk_ldl_s, zk_lda_r, zk_lda_a, zk_lda_n, zk_iv_s, zr_nil, zr_cons, zp_0, zp_s, zt_0, zt_s, zt2_0, zt2_s, zw_iconst, zw_bipush, zw_sipush, zw_lconst, zw_ldcs, zw_ldc, zw_ldcw, zw_ldc2, zw_iload_n, zw_lload_n, zw_aload_n, zw_istore_n, zw_lstore_n, zw_astore_n, zw_astoreN_n, zw_iload, zw_lload, zw_aload, zw_istore, zw_lstore, zw_astore, zw_astoreN, zw_iinc, zw_iadd, zw_isub, zw_imul, zw_iand, zw_ior, zw_ixor, zw_ishl, zw_ishr, zw_iushr, zw_idiv, zw_irem, zw_ladd, zw_lsub, zw_lmul, zw_land, zw_ldiv, zw_lrem, zw_lcmp, zw_i2l, zw_l2i, zw_dup, zw_pop, zw_dup2i, zw_goto, zw_if_eq, zw_if_ne, zw_if_lt, zw_if_ge, zw_if_gt, zw_if_le, zw_ic_eq, zw_ic_ne, zw_ic_lt, zw_ic_ge, zw_ic_gt, zw_ic_le, zw_ifnn, zw_ifnnN, zw_tsw, zw_lsw, zw_getf_l, zw_getf_r, zw_getf_i, zw_getf_z, zw_putf_i, zw_putf_z, zw_putf_l, zw_putf_r, zw_iaload, zw_caload, zw_laload, zw_aaload, zw_iastore, zw_castore, zw_lastore, zw_aastore, zw_alen, zw_newa, zw_newq, zw_new, zw_oini, zw_invs, zw_invv, zw_copy, zw_invt, zw_iret, zw_lret, zw_ret, zc_r, zc_a, zk_rvs, zk_cat2, List.getElem?_cons_zero, List.getElem?_cons_succ, Bool.false_eq_true, and_false, false_and, and_true, true_and, reduceIte, Nat.reduceEqDiff, Nat.reduceLT, Nat.reduceAdd, List.cons_append, List.nil_append, Option.toList_some, Option.toList_none, zk_cat_i, zk_cat_r, zk_cat_n, zk_same, Option.some.injEq, Value.int.injEq, Value.long.injEq, eq_self, false_implies, true_implies, zf_12, ho, hP2, zl_M, zc_n10, zc_cl, zc_in, not_true_eq_false, not_false_eq_true]
    rw [hR]
    exact Or.inl ⟨h1, h2, h3, h4⟩
  refine hZ B_X12_thingTold_0 _ _ _ _ _ _ _ k_X12_thingTold_0 ?_
  simp only [B_X12_thingTold_0, zk_ldi_s, zk_ldl_s, zk_lda_r, zk_lda_a, zk_lda_n, zk_iv_s, zr_nil, zr_cons, zp_0, zp_s, zt_0, zt_s, zt2_0, zt2_s, zw_iconst, zw_bipush, zw_sipush, zw_lconst, zw_ldcs, zw_ldc, zw_ldcw, zw_ldc2, zw_iload_n, zw_lload_n, zw_aload_n, zw_istore_n, zw_lstore_n, zw_astore_n, zw_astoreN_n, zw_iload, zw_lload, zw_aload, zw_istore, zw_lstore, zw_astore, zw_astoreN, zw_iinc, zw_iadd, zw_isub, zw_imul, zw_iand, zw_ior, zw_ixor, zw_ishl, zw_ishr, zw_iushr, zw_idiv, zw_irem, zw_ladd, zw_lsub, zw_lmul, zw_land, zw_ldiv, zw_lrem, zw_lcmp, zw_i2l, zw_l2i, zw_dup, zw_pop, zw_dup2i, zw_goto, zw_if_eq, zw_if_ne, zw_if_lt, zw_if_ge, zw_if_gt, zw_if_le, zw_ic_eq, zw_ic_ne, zw_ic_lt, zw_ic_ge, zw_ic_gt, zw_ic_le, zw_ifnn, zw_ifnnN, zw_tsw, zw_lsw, zw_getf_l, zw_getf_r, zw_getf_i, zw_getf_z, zw_putf_i, zw_putf_z, zw_putf_l, zw_putf_r, zw_iaload, zw_caload, zw_laload, zw_aaload, zw_iastore, zw_castore, zw_lastore, zw_aastore, zw_alen, zw_newa, zw_newq, zw_new, zw_oini, zw_invs, zw_invv, zw_copy, zw_invt, zw_iret, zw_lret, zw_ret, zc_r, zc_a, zk_rvs, zk_cat2, List.getElem?_cons_zero, List.getElem?_cons_succ, Bool.false_eq_true, and_false, false_and, and_true, true_and, reduceIte, Nat.reduceEqDiff, Nat.reduceLT, Nat.reduceAdd, List.cons_append, List.nil_append, Option.toList_some, Option.toList_none, zk_cat_i, zk_cat_r, zk_cat_n, zk_same, Option.some.injEq, Value.int.injEq, Value.long.injEq, eq_self, false_implies, true_implies, zf_12, ho, hP2, zl_M, zc_n10, zc_cl, zc_in, not_true_eq_false, not_false_eq_true]
  refine zk_callI (cm_isFull hn hP h.2.2.2.2.1 (k := 2) (c := vNt D.1) (m := 10) (by decide) hD.1.2.2 (by omega) (by decide) (2 : Int32) (10 : Int32) (nI (tkS f T p)) rfl rfl) (by first | decide | omega) (Nat.le_refl _) (Nat.le_of_ble_eq_true rfl) (fun r M1 L9 P9 hpost => ?_)
  obtain ⟨hL9, hP9, x1, x2⟩ := hpost
  have hL8 := hL9.symm
  have hP8 := hP9.symm
  clear hL9 hP9
  subst hL8
  subst hP8
  by_cases g : vNt D.1 = 10
  · obtain ⟨rfl, hM⟩ := x1 g
    subst hM
    rw [if_pos (show 10 ≤ vs_cnt D.1 2 from Nat.le_of_eq g.symm)] at hres
    simp only [zk_ldi_s, zk_ldl_s, zk_lda_r, zk_lda_a, zk_lda_n, zk_iv_s, zr_nil, zr_cons, zp_0, zp_s, zt_0, zt_s, zt2_0, zt2_s, zw_iconst, zw_bipush, zw_sipush, zw_lconst, zw_ldcs, zw_ldc, zw_ldcw, zw_ldc2, zw_iload_n, zw_lload_n, zw_aload_n, zw_istore_n, zw_lstore_n, zw_astore_n, zw_astoreN_n, zw_iload, zw_lload, zw_aload, zw_istore, zw_lstore, zw_astore, zw_astoreN, zw_iinc, zw_iadd, zw_isub, zw_imul, zw_iand, zw_ior, zw_ixor, zw_ishl, zw_ishr, zw_iushr, zw_idiv, zw_irem, zw_ladd, zw_lsub, zw_lmul, zw_land, zw_ldiv, zw_lrem, zw_lcmp, zw_i2l, zw_l2i, zw_dup, zw_pop, zw_dup2i, zw_goto, zw_if_eq, zw_if_ne, zw_if_lt, zw_if_ge, zw_if_gt, zw_if_le, zw_ic_eq, zw_ic_ne, zw_ic_lt, zw_ic_ge, zw_ic_gt, zw_ic_le, zw_ifnn, zw_ifnnN, zw_tsw, zw_lsw, zw_getf_l, zw_getf_r, zw_getf_i, zw_getf_z, zw_putf_i, zw_putf_z, zw_putf_l, zw_putf_r, zw_iaload, zw_caload, zw_laload, zw_aaload, zw_iastore, zw_castore, zw_lastore, zw_aastore, zw_alen, zw_newa, zw_newq, zw_new, zw_oini, zw_invs, zw_invv, zw_copy, zw_invt, zw_iret, zw_lret, zw_ret, zc_r, zc_a, zk_rvs, zk_cat2, List.getElem?_cons_zero, List.getElem?_cons_succ, Bool.false_eq_true, and_false, false_and, and_true, true_and, reduceIte, Nat.reduceEqDiff, Nat.reduceLT, Nat.reduceAdd, List.cons_append, List.nil_append, Option.toList_some, Option.toList_none, zk_cat_i, zk_cat_r, zk_cat_n, zk_same, Option.some.injEq, Value.int.injEq, Value.long.injEq, eq_self, false_implies, true_implies, zf_12, ho, hP2, zl_M, zc_n10, zc_cl, zc_in, not_true_eq_false, not_false_eq_true, (show ((1 : Int32) = 0) = False from by decide)]
    rw [← hres]
    exact Or.inl ⟨by decide, mt_bad5.1, mt_bad5.2, mdF_m mtF_bad⟩
  obtain ⟨rfl, hM⟩ := x2 g
  have hM8 := hM.symm
  subst hM8
  have hlt : vNt D.1 < 10 := by omega
  rw [if_neg (show ¬ 10 ≤ vs_cnt D.1 2 from fun z => by have z2 : 10 ≤ vNt D.1 := z; omega)] at hres
  simp only [zk_ldi_s, zk_ldl_s, zk_lda_r, zk_lda_a, zk_lda_n, zk_iv_s, zr_nil, zr_cons, zp_0, zp_s, zt_0, zt_s, zt2_0, zt2_s, zw_iconst, zw_bipush, zw_sipush, zw_lconst, zw_ldcs, zw_ldc, zw_ldcw, zw_ldc2, zw_iload_n, zw_lload_n, zw_aload_n, zw_istore_n, zw_lstore_n, zw_astore_n, zw_astoreN_n, zw_iload, zw_lload, zw_aload, zw_istore, zw_lstore, zw_astore, zw_astoreN, zw_iinc, zw_iadd, zw_isub, zw_imul, zw_iand, zw_ior, zw_ixor, zw_ishl, zw_ishr, zw_iushr, zw_idiv, zw_irem, zw_ladd, zw_lsub, zw_lmul, zw_land, zw_ldiv, zw_lrem, zw_lcmp, zw_i2l, zw_l2i, zw_dup, zw_pop, zw_dup2i, zw_goto, zw_if_eq, zw_if_ne, zw_if_lt, zw_if_ge, zw_if_gt, zw_if_le, zw_ic_eq, zw_ic_ne, zw_ic_lt, zw_ic_ge, zw_ic_gt, zw_ic_le, zw_ifnn, zw_ifnnN, zw_tsw, zw_lsw, zw_getf_l, zw_getf_r, zw_getf_i, zw_getf_z, zw_putf_i, zw_putf_z, zw_putf_l, zw_putf_r, zw_iaload, zw_caload, zw_laload, zw_aaload, zw_iastore, zw_castore, zw_lastore, zw_aastore, zw_alen, zw_newa, zw_newq, zw_new, zw_oini, zw_invs, zw_invv, zw_copy, zw_invt, zw_iret, zw_lret, zw_ret, zc_r, zc_a, zk_rvs, zk_cat2, List.getElem?_cons_zero, List.getElem?_cons_succ, Bool.false_eq_true, and_false, false_and, and_true, true_and, reduceIte, Nat.reduceEqDiff, Nat.reduceLT, Nat.reduceAdd, List.cons_append, List.nil_append, Option.toList_some, Option.toList_none, zk_cat_i, zk_cat_r, zk_cat_n, zk_same, Option.some.injEq, Value.int.injEq, Value.long.injEq, eq_self, false_implies, true_implies, zf_12, ho, hP2, zl_M, zc_n10, zc_cl, zc_in, not_true_eq_false, not_false_eq_true]
  refine hZ B_X12_thingTold_12 _ _ _ _ _ _ _ k_X12_thingTold_12 ?_
  simp only [B_X12_thingTold_12, zk_ldi_s, zk_ldl_s, zk_lda_r, zk_lda_a, zk_lda_n, zk_iv_s, zr_nil, zr_cons, zp_0, zp_s, zt_0, zt_s, zt2_0, zt2_s, zw_iconst, zw_bipush, zw_sipush, zw_lconst, zw_ldcs, zw_ldc, zw_ldcw, zw_ldc2, zw_iload_n, zw_lload_n, zw_aload_n, zw_istore_n, zw_lstore_n, zw_astore_n, zw_astoreN_n, zw_iload, zw_lload, zw_aload, zw_istore, zw_lstore, zw_astore, zw_astoreN, zw_iinc, zw_iadd, zw_isub, zw_imul, zw_iand, zw_ior, zw_ixor, zw_ishl, zw_ishr, zw_iushr, zw_idiv, zw_irem, zw_ladd, zw_lsub, zw_lmul, zw_land, zw_ldiv, zw_lrem, zw_lcmp, zw_i2l, zw_l2i, zw_dup, zw_pop, zw_dup2i, zw_goto, zw_if_eq, zw_if_ne, zw_if_lt, zw_if_ge, zw_if_gt, zw_if_le, zw_ic_eq, zw_ic_ne, zw_ic_lt, zw_ic_ge, zw_ic_gt, zw_ic_le, zw_ifnn, zw_ifnnN, zw_tsw, zw_lsw, zw_getf_l, zw_getf_r, zw_getf_i, zw_getf_z, zw_putf_i, zw_putf_z, zw_putf_l, zw_putf_r, zw_iaload, zw_caload, zw_laload, zw_aaload, zw_iastore, zw_castore, zw_lastore, zw_aastore, zw_alen, zw_newa, zw_newq, zw_new, zw_oini, zw_invs, zw_invv, zw_copy, zw_invt, zw_iret, zw_lret, zw_ret, zc_r, zc_a, zk_rvs, zk_cat2, List.getElem?_cons_zero, List.getElem?_cons_succ, Bool.false_eq_true, and_false, false_and, and_true, true_and, reduceIte, Nat.reduceEqDiff, Nat.reduceLT, Nat.reduceAdd, List.cons_append, List.nil_append, Option.toList_some, Option.toList_none, zk_cat_i, zk_cat_r, zk_cat_n, zk_same, Option.some.injEq, Value.int.injEq, Value.long.injEq, eq_self, false_implies, true_implies, zf_12, ho, hP2, zl_M, zc_n10, zc_cl, zc_in, not_true_eq_false, not_false_eq_true]
  refine zk_callI (cm_newName hn hP h hw hok hD.1 hD.2.1) (by first | decide | omega) (Nat.le_refl _) (Nat.le_of_ble_eq_true rfl) (fun r M2 L9 P9 hpost => ?_)
  obtain ⟨hL9, hP9, y1, ⟨z, rfl⟩, y3⟩ := hpost
  have hL8 := hL9.symm
  have hP8 := hP9.symm
  clear hL9 hP9
  subst hL8
  subst hP8
  have cl := nI_clamp (show vNt D.1 < 2 ^ 31 by omega)
  have in20 := vp_in_nI (show vNt D.1 < 20 by omega) (by omega)
  /- behind a FAULT: two cells -/
  have fin0 : ∀ (M9 : zk_MI) (x : Int32) (k' pl : Nat), R = .inl (k', pl) → (1 ≤ k' ∧ k' ≤ 5) → M9 79 5 = nI k' → M9 79 6 = nI pl → mtF M M9 → ∀ M8, M8 = zk_up (zk_up M9 116 (vNt D.1) x) 117 (vNt D.1) 0 → mdF M M8 L L ∧ M8 79 5 = nI k' ∧ M8 79 6 = nI pl ∧ ¬ M8 79 5 = 0 := by
    intro M9 x k' pl hR h1 h2 h3 h4 M8 hM8
    subst hM8
    have e : ∀ j, zk_up (zk_up M9 116 (vNt D.1) x) 117 (vNt D.1) 0 79 j = M9 79 j := fun j => by rw [zk_up_row (by decide), zk_up_row (by decide)]
    exact ⟨mdF_tr (mdF_m h4) (mdF_tr (mdF_row (by omega)) (mdF_row (by omega))), by rw [e]; exact h2, by rw [e]; exact h3, by rw [e]; exact yv_nz h1 h2⟩
  rcases hx : vs_nn f T D (tkE f T p) with ⟨k', pl⟩ | ⟨q1, w⟩
  · rw [hx] at y1 hres
    obtain ⟨z1, z2, z3, z4⟩ := y1
    have hz := yv_nz z1 z2
    have hc2 : M2 112 2 = nI (vNt D.1) := by rw [z4.1 112 (by decide)]; exact hD.1.2.2
    simp only [zk_ldi_s, zk_ldl_s, zk_lda_r, zk_lda_a, zk_lda_n, zk_iv_s, zr_nil, zr_cons, zp_0, zp_s, zt_0, zt_s, zt2_0, zt2_s, zw_iconst, zw_bipush, zw_sipush, zw_lconst, zw_ldcs, zw_ldc, zw_ldcw, zw_ldc2, zw_iload_n, zw_lload_n, zw_aload_n, zw_istore_n, zw_lstore_n, zw_astore_n, zw_astoreN_n, zw_iload, zw_lload, zw_aload, zw_istore, zw_lstore, zw_astore, zw_astoreN, zw_iinc, zw_iadd, zw_isub, zw_imul, zw_iand, zw_ior, zw_ixor, zw_ishl, zw_ishr, zw_iushr, zw_idiv, zw_irem, zw_ladd, zw_lsub, zw_lmul, zw_land, zw_ldiv, zw_lrem, zw_lcmp, zw_i2l, zw_l2i, zw_dup, zw_pop, zw_dup2i, zw_goto, zw_if_eq, zw_if_ne, zw_if_lt, zw_if_ge, zw_if_gt, zw_if_le, zw_ic_eq, zw_ic_ne, zw_ic_lt, zw_ic_ge, zw_ic_gt, zw_ic_le, zw_ifnn, zw_ifnnN, zw_tsw, zw_lsw, zw_getf_l, zw_getf_r, zw_getf_i, zw_getf_z, zw_putf_i, zw_putf_z, zw_putf_l, zw_putf_r, zw_iaload, zw_caload, zw_laload, zw_aaload, zw_iastore, zw_castore, zw_lastore, zw_aastore, zw_alen, zw_newa, zw_newq, zw_new, zw_oini, zw_invs, zw_invv, zw_copy, zw_invt, zw_iret, zw_lret, zw_ret, zc_r, zc_a, zk_rvs, zk_cat2, List.getElem?_cons_zero, List.getElem?_cons_succ, Bool.false_eq_true, and_false, false_and, and_true, true_and, reduceIte, Nat.reduceEqDiff, Nat.reduceLT, Nat.reduceAdd, List.cons_append, List.nil_append, Option.toList_some, Option.toList_none, zk_cat_i, zk_cat_r, zk_cat_n, zk_same, Option.some.injEq, Value.int.injEq, Value.long.injEq, eq_self, false_implies, true_implies, zf_12, ho, hP2, zl_M, zc_n10, zc_cl, zc_in, not_true_eq_false, not_false_eq_true]
    refine zk_callS (cm_asksB hn hP hz 88) (by first | decide | omega) (Nat.le_refl _) (Nat.le_of_ble_eq_true rfl) ?_
    simp only [zk_ldi_s, zk_ldl_s, zk_lda_r, zk_lda_a, zk_lda_n, zk_iv_s, zr_nil, zr_cons, zp_0, zp_s, zt_0, zt_s, zt2_0, zt2_s, zw_iconst, zw_bipush, zw_sipush, zw_lconst, zw_ldcs, zw_ldc, zw_ldcw, zw_ldc2, zw_iload_n, zw_lload_n, zw_aload_n, zw_istore_n, zw_lstore_n, zw_astore_n, zw_astoreN_n, zw_iload, zw_lload, zw_aload, zw_istore, zw_lstore, zw_astore, zw_astoreN, zw_iinc, zw_iadd, zw_isub, zw_imul, zw_iand, zw_ior, zw_ixor, zw_ishl, zw_ishr, zw_iushr, zw_idiv, zw_irem, zw_ladd, zw_lsub, zw_lmul, zw_land, zw_ldiv, zw_lrem, zw_lcmp, zw_i2l, zw_l2i, zw_dup, zw_pop, zw_dup2i, zw_goto, zw_if_eq, zw_if_ne, zw_if_lt, zw_if_ge, zw_if_gt, zw_if_le, zw_ic_eq, zw_ic_ne, zw_ic_lt, zw_ic_ge, zw_ic_gt, zw_ic_le, zw_ifnn, zw_ifnnN, zw_tsw, zw_lsw, zw_getf_l, zw_getf_r, zw_getf_i, zw_getf_z, zw_putf_i, zw_putf_z, zw_putf_l, zw_putf_r, zw_iaload, zw_caload, zw_laload, zw_aaload, zw_iastore, zw_castore, zw_lastore, zw_aastore, zw_alen, zw_newa, zw_newq, zw_new, zw_oini, zw_invs, zw_invv, zw_copy, zw_invt, zw_iret, zw_lret, zw_ret, zc_r, zc_a, zk_rvs, zk_cat2, List.getElem?_cons_zero, List.getElem?_cons_succ, Bool.false_eq_true, and_false, false_and, and_true, true_and, reduceIte, Nat.reduceEqDiff, Nat.reduceLT, Nat.reduceAdd, List.cons_append, List.nil_append, Option.toList_some, Option.toList_none, zk_cat_i, zk_cat_r, zk_cat_n, zk_same, Option.some.injEq, Value.int.injEq, Value.long.injEq, eq_self, false_implies, true_implies, zf_12, ho, hP2, zl_M, zc_n10, zc_cl, zc_in, not_true_eq_false, not_false_eq_true, hc2]
    refine zk_callS (cm_numberB hn hP hz 1 9) (by first | decide | omega) (Nat.le_refl _) (Nat.le_of_ble_eq_true rfl) ?_
    generalize hM8 : zk_up (zk_up M2 116 (vNt D.1) 0) 117 (vNt D.1) 0 = M8
    obtain ⟨f1, f2, f3, f4⟩ := fin0 M2 0 k' pl hres.symm z1 z2 z3 z4 M8 hM8.symm
    simp only [zk_ldi_s, zk_ldl_s, zk_lda_r, zk_lda_a, zk_lda_n, zk_iv_s, zr_nil, zr_cons, zp_0, zp_s, zt_0, zt_s, zt2_0, zt2_s, zw_iconst, zw_bipush, zw_sipush, zw_lconst, zw_ldcs, zw_ldc, zw_ldcw, zw_ldc2, zw_iload_n, zw_lload_n, zw_aload_n, zw_istore_n, zw_lstore_n, zw_astore_n, zw_astoreN_n, zw_iload, zw_lload, zw_aload, zw_istore, zw_lstore, zw_astore, zw_astoreN, zw_iinc, zw_iadd, zw_isub, zw_imul, zw_iand, zw_ior, zw_ixor, zw_ishl, zw_ishr, zw_iushr, zw_idiv, zw_irem, zw_ladd, zw_lsub, zw_lmul, zw_land, zw_ldiv, zw_lrem, zw_lcmp, zw_i2l, zw_l2i, zw_dup, zw_pop, zw_dup2i, zw_goto, zw_if_eq, zw_if_ne, zw_if_lt, zw_if_ge, zw_if_gt, zw_if_le, zw_ic_eq, zw_ic_ne, zw_ic_lt, zw_ic_ge, zw_ic_gt, zw_ic_le, zw_ifnn, zw_ifnnN, zw_tsw, zw_lsw, zw_getf_l, zw_getf_r, zw_getf_i, zw_getf_z, zw_putf_i, zw_putf_z, zw_putf_l, zw_putf_r, zw_iaload, zw_caload, zw_laload, zw_aaload, zw_iastore, zw_castore, zw_lastore, zw_aastore, zw_alen, zw_newa, zw_newq, zw_new, zw_oini, zw_invs, zw_invv, zw_copy, zw_invt, zw_iret, zw_lret, zw_ret, zc_r, zc_a, zk_rvs, zk_cat2, List.getElem?_cons_zero, List.getElem?_cons_succ, Bool.false_eq_true, and_false, false_and, and_true, true_and, reduceIte, Nat.reduceEqDiff, Nat.reduceLT, Nat.reduceAdd, List.cons_append, List.nil_append, Option.toList_some, Option.toList_none, zk_cat_i, zk_cat_r, zk_cat_n, zk_same, Option.some.injEq, Value.int.injEq, Value.long.injEq, eq_self, false_implies, true_implies, zf_12, ho, hP2, zl_M, zc_n10, zc_cl, zc_in, not_true_eq_false, not_false_eq_true, cl, in20, hM8]
    refine zk_callS (cm_takesB hn hP f4 89) (by first | decide | omega) (Nat.le_refl _) (Nat.le_of_ble_eq_true rfl) ?_
    simp only [zk_ldi_s, zk_ldl_s, zk_lda_r, zk_lda_a, zk_lda_n, zk_iv_s, zr_nil, zr_cons, zp_0, zp_s, zt_0, zt_s, zt2_0, zt2_s, zw_iconst, zw_bipush, zw_sipush, zw_lconst, zw_ldcs, zw_ldc, zw_ldcw, zw_ldc2, zw_iload_n, zw_lload_n, zw_aload_n, zw_istore_n, zw_lstore_n, zw_astore_n, zw_astoreN_n, zw_iload, zw_lload, zw_aload, zw_istore, zw_lstore, zw_astore, zw_astoreN, zw_iinc, zw_iadd, zw_isub, zw_imul, zw_iand, zw_ior, zw_ixor, zw_ishl, zw_ishr, zw_iushr, zw_idiv, zw_irem, zw_ladd, zw_lsub, zw_lmul, zw_land, zw_ldiv, zw_lrem, zw_lcmp, zw_i2l, zw_l2i, zw_dup, zw_pop, zw_dup2i, zw_goto, zw_if_eq, zw_if_ne, zw_if_lt, zw_if_ge, zw_if_gt, zw_if_le, zw_ic_eq, zw_ic_ne, zw_ic_lt, zw_ic_ge, zw_ic_gt, zw_ic_le, zw_ifnn, zw_ifnnN, zw_tsw, zw_lsw, zw_getf_l, zw_getf_r, zw_getf_i, zw_getf_z, zw_putf_i, zw_putf_z, zw_putf_l, zw_putf_r, zw_iaload, zw_caload, zw_laload, zw_aaload, zw_iastore, zw_castore, zw_lastore, zw_aastore, zw_alen, zw_newa, zw_newq, zw_new, zw_oini, zw_invs, zw_invv, zw_copy, zw_invt, zw_iret, zw_lret, zw_ret, zc_r, zc_a, zk_rvs, zk_cat2, List.getElem?_cons_zero, List.getElem?_cons_succ, Bool.false_eq_true, and_false, false_and, and_true, true_and, reduceIte, Nat.reduceEqDiff, Nat.reduceLT, Nat.reduceAdd, List.cons_append, List.nil_append, Option.toList_some, Option.toList_none, zk_cat_i, zk_cat_r, zk_cat_n, zk_same, Option.some.injEq, Value.int.injEq, Value.long.injEq, eq_self, false_implies, true_implies, zf_12, ho, hP2, zl_M, zc_n10, zc_cl, zc_in, not_true_eq_false, not_false_eq_true]
    exact bad136 M8 _ _ _ k' pl hres.symm z1 f2 f3 f1
  have hz := y3 _ _ hx
  simp only [Option.some.injEq, Value.long.injEq] at hz
  subst hz
  have hnp : vs_nw f T D 2 10 p = .inr (q1, w) := by rw [vs_nw_nn, if_neg (show ¬ 10 ≤ vs_cnt D.1 2 from fun z => by have z2 : 10 ≤ vNt D.1 := z; omega)]; exact hx
  have hpp := vs_nw_pos hpos.2.1 hpos.1 hfb q1 w hnp
  rw [hx] at y1 hres
  simp only [vs_b] at hres
  obtain ⟨z1, z2⟩ := y1
  simp only [zk_ldi_s, zk_ldl_s, zk_lda_r, zk_lda_a, zk_lda_n, zk_iv_s, zr_nil, zr_cons, zp_0, zp_s, zt_0, zt_s, zt2_0, zt2_s, zw_iconst, zw_bipush, zw_sipush, zw_lconst, zw_ldcs, zw_ldc, zw_ldcw, zw_ldc2, zw_iload_n, zw_lload_n, zw_aload_n, zw_istore_n, zw_lstore_n, zw_astore_n, zw_astoreN_n, zw_iload, zw_lload, zw_aload, zw_istore, zw_lstore, zw_astore, zw_astoreN, zw_iinc, zw_iadd, zw_isub, zw_imul, zw_iand, zw_ior, zw_ixor, zw_ishl, zw_ishr, zw_iushr, zw_idiv, zw_irem, zw_ladd, zw_lsub, zw_lmul, zw_land, zw_ldiv, zw_lrem, zw_lcmp, zw_i2l, zw_l2i, zw_dup, zw_pop, zw_dup2i, zw_goto, zw_if_eq, zw_if_ne, zw_if_lt, zw_if_ge, zw_if_gt, zw_if_le, zw_ic_eq, zw_ic_ne, zw_ic_lt, zw_ic_ge, zw_ic_gt, zw_ic_le, zw_ifnn, zw_ifnnN, zw_tsw, zw_lsw, zw_getf_l, zw_getf_r, zw_getf_i, zw_getf_z, zw_putf_i, zw_putf_z, zw_putf_l, zw_putf_r, zw_iaload, zw_caload, zw_laload, zw_aaload, zw_iastore, zw_castore, zw_lastore, zw_aastore, zw_alen, zw_newa, zw_newq, zw_new, zw_oini, zw_invs, zw_invv, zw_copy, zw_invt, zw_iret, zw_lret, zw_ret, zc_r, zc_a, zk_rvs, zk_cat2, List.getElem?_cons_zero, List.getElem?_cons_succ, Bool.false_eq_true, and_false, false_and, and_true, true_and, reduceIte, Nat.reduceEqDiff, Nat.reduceLT, Nat.reduceAdd, List.cons_append, List.nil_append, Option.toList_some, Option.toList_none, zk_cat_i, zk_cat_r, zk_cat_n, zk_same, Option.some.injEq, Value.int.injEq, Value.long.injEq, eq_self, false_implies, true_implies, zf_12, ho, hP2, zl_M, zc_n10, zc_cl, zc_in, not_true_eq_false, not_false_eq_true]
  refine zk_callI (cm_asks hn hP z1 (mw_ok_fr hw z2.1) 88 (by unfold sp_wq; omega) 306 (by decide)) (by first | decide | omega) (Nat.le_refl _) (Nat.le_of_ble_eq_true rfl) (fun r M3 L9 P9 hpost => ?_)
  obtain ⟨hr9, hL9, hP9, u1⟩ := hpost
  subst hr9
  have hL8 := hL9.symm
  have hP8 := hP9.symm
  clear hL9 hP9
  subst hL8
  subst hP8
  rcases hx3 : vs_need f T 306 q1 with ⟨k', pl⟩ | ⟨q2, u⟩
  · rw [hx3] at u1 hres
    obtain ⟨t1, t2, t3, t4⟩ := u1
    have hz := yv_nz t1 t2
    have hF3 := mtF_tr z2 t4
    have hc2 : M3 112 2 = nI (vNt D.1) := by rw [hF3.1 112 (by decide)]; exact hD.1.2.2
    simp only [zk_ldi_s, zk_ldl_s, zk_lda_r, zk_lda_a, zk_lda_n, zk_iv_s, zr_nil, zr_cons, zp_0, zp_s, zt_0, zt_s, zt2_0, zt2_s, zw_iconst, zw_bipush, zw_sipush, zw_lconst, zw_ldcs, zw_ldc, zw_ldcw, zw_ldc2, zw_iload_n, zw_lload_n, zw_aload_n, zw_istore_n, zw_lstore_n, zw_astore_n, zw_astoreN_n, zw_iload, zw_lload, zw_aload, zw_istore, zw_lstore, zw_astore, zw_astoreN, zw_iinc, zw_iadd, zw_isub, zw_imul, zw_iand, zw_ior, zw_ixor, zw_ishl, zw_ishr, zw_iushr, zw_idiv, zw_irem, zw_ladd, zw_lsub, zw_lmul, zw_land, zw_ldiv, zw_lrem, zw_lcmp, zw_i2l, zw_l2i, zw_dup, zw_pop, zw_dup2i, zw_goto, zw_if_eq, zw_if_ne, zw_if_lt, zw_if_ge, zw_if_gt, zw_if_le, zw_ic_eq, zw_ic_ne, zw_ic_lt, zw_ic_ge, zw_ic_gt, zw_ic_le, zw_ifnn, zw_ifnnN, zw_tsw, zw_lsw, zw_getf_l, zw_getf_r, zw_getf_i, zw_getf_z, zw_putf_i, zw_putf_z, zw_putf_l, zw_putf_r, zw_iaload, zw_caload, zw_laload, zw_aaload, zw_iastore, zw_castore, zw_lastore, zw_aastore, zw_alen, zw_newa, zw_newq, zw_new, zw_oini, zw_invs, zw_invv, zw_copy, zw_invt, zw_iret, zw_lret, zw_ret, zc_r, zc_a, zk_rvs, zk_cat2, List.getElem?_cons_zero, List.getElem?_cons_succ, Bool.false_eq_true, and_false, false_and, and_true, true_and, reduceIte, Nat.reduceEqDiff, Nat.reduceLT, Nat.reduceAdd, List.cons_append, List.nil_append, Option.toList_some, Option.toList_none, zk_cat_i, zk_cat_r, zk_cat_n, zk_same, Option.some.injEq, Value.int.injEq, Value.long.injEq, eq_self, false_implies, true_implies, zf_12, ho, hP2, zl_M, zc_n10, zc_cl, zc_in, not_true_eq_false, not_false_eq_true, hc2]
    refine zk_callS (cm_numberB hn hP hz 1 9) (by first | decide | omega) (Nat.le_refl _) (Nat.le_of_ble_eq_true rfl) ?_
    generalize hM8 : zk_up (zk_up M3 116 (vNt D.1) 0) 117 (vNt D.1) 0 = M8
    obtain ⟨f1, f2, f3, f4⟩ := fin0 M3 0 k' pl hres.symm t1 t2 t3 hF3 M8 hM8.symm
    simp only [zk_ldi_s, zk_ldl_s, zk_lda_r, zk_lda_a, zk_lda_n, zk_iv_s, zr_nil, zr_cons, zp_0, zp_s, zt_0, zt_s, zt2_0, zt2_s, zw_iconst, zw_bipush, zw_sipush, zw_lconst, zw_ldcs, zw_ldc, zw_ldcw, zw_ldc2, zw_iload_n, zw_lload_n, zw_aload_n, zw_istore_n, zw_lstore_n, zw_astore_n, zw_astoreN_n, zw_iload, zw_lload, zw_aload, zw_istore, zw_lstore, zw_astore, zw_astoreN, zw_iinc, zw_iadd, zw_isub, zw_imul, zw_iand, zw_ior, zw_ixor, zw_ishl, zw_ishr, zw_iushr, zw_idiv, zw_irem, zw_ladd, zw_lsub, zw_lmul, zw_land, zw_ldiv, zw_lrem, zw_lcmp, zw_i2l, zw_l2i, zw_dup, zw_pop, zw_dup2i, zw_goto, zw_if_eq, zw_if_ne, zw_if_lt, zw_if_ge, zw_if_gt, zw_if_le, zw_ic_eq, zw_ic_ne, zw_ic_lt, zw_ic_ge, zw_ic_gt, zw_ic_le, zw_ifnn, zw_ifnnN, zw_tsw, zw_lsw, zw_getf_l, zw_getf_r, zw_getf_i, zw_getf_z, zw_putf_i, zw_putf_z, zw_putf_l, zw_putf_r, zw_iaload, zw_caload, zw_laload, zw_aaload, zw_iastore, zw_castore, zw_lastore, zw_aastore, zw_alen, zw_newa, zw_newq, zw_new, zw_oini, zw_invs, zw_invv, zw_copy, zw_invt, zw_iret, zw_lret, zw_ret, zc_r, zc_a, zk_rvs, zk_cat2, List.getElem?_cons_zero, List.getElem?_cons_succ, Bool.false_eq_true, and_false, false_and, and_true, true_and, reduceIte, Nat.reduceEqDiff, Nat.reduceLT, Nat.reduceAdd, List.cons_append, List.nil_append, Option.toList_some, Option.toList_none, zk_cat_i, zk_cat_r, zk_cat_n, zk_same, Option.some.injEq, Value.int.injEq, Value.long.injEq, eq_self, false_implies, true_implies, zf_12, ho, hP2, zl_M, zc_n10, zc_cl, zc_in, not_true_eq_false, not_false_eq_true, cl, in20, hM8]
    refine zk_callS (cm_takesB hn hP f4 89) (by first | decide | omega) (Nat.le_refl _) (Nat.le_of_ble_eq_true rfl) ?_
    simp only [zk_ldi_s, zk_ldl_s, zk_lda_r, zk_lda_a, zk_lda_n, zk_iv_s, zr_nil, zr_cons, zp_0, zp_s, zt_0, zt_s, zt2_0, zt2_s, zw_iconst, zw_bipush, zw_sipush, zw_lconst, zw_ldcs, zw_ldc, zw_ldcw, zw_ldc2, zw_iload_n, zw_lload_n, zw_aload_n, zw_istore_n, zw_lstore_n, zw_astore_n, zw_astoreN_n, zw_iload, zw_lload, zw_aload, zw_istore, zw_lstore, zw_astore, zw_astoreN, zw_iinc, zw_iadd, zw_isub, zw_imul, zw_iand, zw_ior, zw_ixor, zw_ishl, zw_ishr, zw_iushr, zw_idiv, zw_irem, zw_ladd, zw_lsub, zw_lmul, zw_land, zw_ldiv, zw_lrem, zw_lcmp, zw_i2l, zw_l2i, zw_dup, zw_pop, zw_dup2i, zw_goto, zw_if_eq, zw_if_ne, zw_if_lt, zw_if_ge, zw_if_gt, zw_if_le, zw_ic_eq, zw_ic_ne, zw_ic_lt, zw_ic_ge, zw_ic_gt, zw_ic_le, zw_ifnn, zw_ifnnN, zw_tsw, zw_lsw, zw_getf_l, zw_getf_r, zw_getf_i, zw_getf_z, zw_putf_i, zw_putf_z, zw_putf_l, zw_putf_r, zw_iaload, zw_caload, zw_laload, zw_aaload, zw_iastore, zw_castore, zw_lastore, zw_aastore, zw_alen, zw_newa, zw_newq, zw_new, zw_oini, zw_invs, zw_invv, zw_copy, zw_invt, zw_iret, zw_lret, zw_ret, zc_r, zc_a, zk_rvs, zk_cat2, List.getElem?_cons_zero, List.getElem?_cons_succ, Bool.false_eq_true, and_false, false_and, and_true, true_and, reduceIte, Nat.reduceEqDiff, Nat.reduceLT, Nat.reduceAdd, List.cons_append, List.nil_append, Option.toList_some, Option.toList_none, zk_cat_i, zk_cat_r, zk_cat_n, zk_same, Option.some.injEq, Value.int.injEq, Value.long.injEq, eq_self, false_implies, true_implies, zf_12, ho, hP2, zl_M, zc_n10, zc_cl, zc_in, not_true_eq_false, not_false_eq_true]
    exact bad136 M8 _ _ _ k' pl hres.symm t1 f2 f3 f1
  obtain ⟨g1, g2, -⟩ := vs_need_pos (f := f) (w := 306) hpp.2.1 (by decide) q2 u hx3
  rw [hx3] at u1 hres
  simp only at hres
  obtain ⟨t1, t2⟩ := u1
  have hF3 := mtF_tr z2 t2
  have hD3 := md_D_m hD hF3
  have hc2 : M3 112 2 = nI (vNt D.1) := hD3.1.2.2
  simp only [zk_ldi_s, zk_ldl_s, zk_lda_r, zk_lda_a, zk_lda_n, zk_iv_s, zr_nil, zr_cons, zp_0, zp_s, zt_0, zt_s, zt2_0, zt2_s, zw_iconst, zw_bipush, zw_sipush, zw_lconst, zw_ldcs, zw_ldc, zw_ldcw, zw_ldc2, zw_iload_n, zw_lload_n, zw_aload_n, zw_istore_n, zw_lstore_n, zw_astore_n, zw_astoreN_n, zw_iload, zw_lload, zw_aload, zw_istore, zw_lstore, zw_astore, zw_astoreN, zw_iinc, zw_iadd, zw_isub, zw_imul, zw_iand, zw_ior, zw_ixor, zw_ishl, zw_ishr, zw_iushr, zw_idiv, zw_irem, zw_ladd, zw_lsub, zw_lmul, zw_land, zw_ldiv, zw_lrem, zw_lcmp, zw_i2l, zw_l2i, zw_dup, zw_pop, zw_dup2i, zw_goto, zw_if_eq, zw_if_ne, zw_if_lt, zw_if_ge, zw_if_gt, zw_if_le, zw_ic_eq, zw_ic_ne, zw_ic_lt, zw_ic_ge, zw_ic_gt, zw_ic_le, zw_ifnn, zw_ifnnN, zw_tsw, zw_lsw, zw_getf_l, zw_getf_r, zw_getf_i, zw_getf_z, zw_putf_i, zw_putf_z, zw_putf_l, zw_putf_r, zw_iaload, zw_caload, zw_laload, zw_aaload, zw_iastore, zw_castore, zw_lastore, zw_aastore, zw_alen, zw_newa, zw_newq, zw_new, zw_oini, zw_invs, zw_invv, zw_copy, zw_invt, zw_iret, zw_lret, zw_ret, zc_r, zc_a, zk_rvs, zk_cat2, List.getElem?_cons_zero, List.getElem?_cons_succ, Bool.false_eq_true, and_false, false_and, and_true, true_and, reduceIte, Nat.reduceEqDiff, Nat.reduceLT, Nat.reduceAdd, List.cons_append, List.nil_append, Option.toList_some, Option.toList_none, zk_cat_i, zk_cat_r, zk_cat_n, zk_same, Option.some.injEq, Value.int.injEq, Value.long.injEq, eq_self, false_implies, true_implies, zf_12, ho, hP2, zl_M, zc_n10, zc_cl, zc_in, not_true_eq_false, not_false_eq_true, hc2]
  refine zk_callI (cm_number hn hP t1 1 9 (1 : Int32) (9 : Int32) rfl rfl (by decide) (by decide)) (by first | decide | omega) (Nat.le_refl _) (Nat.le_of_ble_eq_true rfl) (fun r M4 L9 P9 hpost => ?_)
  obtain ⟨hL9, hP9, r1, ⟨zz, rfl⟩, r3⟩ := hpost
  have hL8 := hL9.symm
  have hP8 := hP9.symm
  clear hL9 hP9
  subst hL8
  subst hP8
  generalize hM8 : zk_up (zk_up M4 116 (vNt D.1) zz) 117 (vNt D.1) 0 = M8
  rcases hx4 : vs_num f T 1 9 q2 with ⟨k', pl⟩ | ⟨q3, gg⟩
  · rw [hx4] at r1 hres
    obtain ⟨s1, s2, s3, s4⟩ := r1
    obtain ⟨f1, f2, f3, f4⟩ := fin0 M4 zz k' pl hres.symm s1 s2 s3 (mtF_tr hF3 s4) M8 hM8.symm
    simp only [zk_ldi_s, zk_ldl_s, zk_lda_r, zk_lda_a, zk_lda_n, zk_iv_s, zr_nil, zr_cons, zp_0, zp_s, zt_0, zt_s, zt2_0, zt2_s, zw_iconst, zw_bipush, zw_sipush, zw_lconst, zw_ldcs, zw_ldc, zw_ldcw, zw_ldc2, zw_iload_n, zw_lload_n, zw_aload_n, zw_istore_n, zw_lstore_n, zw_astore_n, zw_astoreN_n, zw_iload, zw_lload, zw_aload, zw_istore, zw_lstore, zw_astore, zw_astoreN, zw_iinc, zw_iadd, zw_isub, zw_imul, zw_iand, zw_ior, zw_ixor, zw_ishl, zw_ishr, zw_iushr, zw_idiv, zw_irem, zw_ladd, zw_lsub, zw_lmul, zw_land, zw_ldiv, zw_lrem, zw_lcmp, zw_i2l, zw_l2i, zw_dup, zw_pop, zw_dup2i, zw_goto, zw_if_eq, zw_if_ne, zw_if_lt, zw_if_ge, zw_if_gt, zw_if_le, zw_ic_eq, zw_ic_ne, zw_ic_lt, zw_ic_ge, zw_ic_gt, zw_ic_le, zw_ifnn, zw_ifnnN, zw_tsw, zw_lsw, zw_getf_l, zw_getf_r, zw_getf_i, zw_getf_z, zw_putf_i, zw_putf_z, zw_putf_l, zw_putf_r, zw_iaload, zw_caload, zw_laload, zw_aaload, zw_iastore, zw_castore, zw_lastore, zw_aastore, zw_alen, zw_newa, zw_newq, zw_new, zw_oini, zw_invs, zw_invv, zw_copy, zw_invt, zw_iret, zw_lret, zw_ret, zc_r, zc_a, zk_rvs, zk_cat2, List.getElem?_cons_zero, List.getElem?_cons_succ, Bool.false_eq_true, and_false, false_and, and_true, true_and, reduceIte, Nat.reduceEqDiff, Nat.reduceLT, Nat.reduceAdd, List.cons_append, List.nil_append, Option.toList_some, Option.toList_none, zk_cat_i, zk_cat_r, zk_cat_n, zk_same, Option.some.injEq, Value.int.injEq, Value.long.injEq, eq_self, false_implies, true_implies, zf_12, ho, hP2, zl_M, zc_n10, zc_cl, zc_in, not_true_eq_false, not_false_eq_true, cl, in20, hM8]
    refine zk_callS (cm_takesB hn hP f4 89) (by first | decide | omega) (Nat.le_refl _) (Nat.le_of_ble_eq_true rfl) ?_
    simp only [zk_ldi_s, zk_ldl_s, zk_lda_r, zk_lda_a, zk_lda_n, zk_iv_s, zr_nil, zr_cons, zp_0, zp_s, zt_0, zt_s, zt2_0, zt2_s, zw_iconst, zw_bipush, zw_sipush, zw_lconst, zw_ldcs, zw_ldc, zw_ldcw, zw_ldc2, zw_iload_n, zw_lload_n, zw_aload_n, zw_istore_n, zw_lstore_n, zw_astore_n, zw_astoreN_n, zw_iload, zw_lload, zw_aload, zw_istore, zw_lstore, zw_astore, zw_astoreN, zw_iinc, zw_iadd, zw_isub, zw_imul, zw_iand, zw_ior, zw_ixor, zw_ishl, zw_ishr, zw_iushr, zw_idiv, zw_irem, zw_ladd, zw_lsub, zw_lmul, zw_land, zw_ldiv, zw_lrem, zw_lcmp, zw_i2l, zw_l2i, zw_dup, zw_pop, zw_dup2i, zw_goto, zw_if_eq, zw_if_ne, zw_if_lt, zw_if_ge, zw_if_gt, zw_if_le, zw_ic_eq, zw_ic_ne, zw_ic_lt, zw_ic_ge, zw_ic_gt, zw_ic_le, zw_ifnn, zw_ifnnN, zw_tsw, zw_lsw, zw_getf_l, zw_getf_r, zw_getf_i, zw_getf_z, zw_putf_i, zw_putf_z, zw_putf_l, zw_putf_r, zw_iaload, zw_caload, zw_laload, zw_aaload, zw_iastore, zw_castore, zw_lastore, zw_aastore, zw_alen, zw_newa, zw_newq, zw_new, zw_oini, zw_invs, zw_invv, zw_copy, zw_invt, zw_iret, zw_lret, zw_ret, zc_r, zc_a, zk_rvs, zk_cat2, List.getElem?_cons_zero, List.getElem?_cons_succ, Bool.false_eq_true, and_false, false_and, and_true, true_and, reduceIte, Nat.reduceEqDiff, Nat.reduceLT, Nat.reduceAdd, List.cons_append, List.nil_append, Option.toList_some, Option.toList_none, zk_cat_i, zk_cat_r, zk_cat_n, zk_same, Option.some.injEq, Value.int.injEq, Value.long.injEq, eq_self, false_implies, true_implies, zf_12, ho, hP2, zl_M, zc_n10, zc_cl, zc_in, not_true_eq_false, not_false_eq_true]
    exact bad136 M8 _ _ _ k' pl hres.symm s1 f2 f3 f1
  obtain ⟨i1, i2, i3⟩ := vs_num_pos (f := f) (a := 1) (b := 9) g2 q3 gg hx4
  have hz := r3 _ _ hx4
  simp only [Option.some.injEq, Value.int.injEq] at hz
  subst hz
  rw [hx4] at r1 hres
  simp only at hres
  obtain ⟨s1, s2⟩ := r1
  have hF4 := mtF_tr hF3 s2
  have hD4 := md_D_m hD hF4
  have hD8 : md_D M8 L D Cs := by rw [← hM8]; exact md_D_wt (md_D_wt hD4 (Or.inl rfl) _) (Or.inr rfl) _
  have hF8 : mdF M M8 L L := by rw [← hM8]; exact mdF_tr (mdF_m hF4) (mdF_tr (mdF_row (by omega)) (mdF_row (by omega)))
  have hat8 : mt_at M8 f T q3 := mt_at_row s1 (by rw [← hM8, zk_up_row (by decide), zk_up_row (by decide)]) (by rw [← hM8, zk_up_row (by decide), zk_up_row (by decide)])
  have hg8 : M8 116 (vNt D.1) = nI gg := by rw [← hM8, zk_up_row (by decide)]; exact zk_up_at
  have hr8 : M8 117 (vNt D.1) = nI 0 := by rw [← hM8]; exact zk_up_at
  /- the NAME is set down -/
  have fin : ∀ (M9 : zk_MI) (v5 : Value) (rr q4 : Nat), (R = .inr (q4, vs_aT D w gg rr) ∨ (R = .inl (1, tkS f T q4) ∧ tkK f T q4 ≠ 59)) → q3 ≤ q4 → mt_at M9 f T q4 → md_D M9 L D Cs → mdF M M9 L L → M9 116 (vNt D.1) = nI gg → M9 117 (vNt D.1) = nI rr → Z 136 [.ref 79, .int (nI (tkS f T p)), .long (lI (nm_v w : Int)), zk_un, .int (nI (vNt D.1)), v5] [] n M9 L P := by
    intro M9 v5 rr q4 hR hq h1 h2 h3 h4 h5
    refine hZ B_X12_thingTold_136 _ _ _ _ _ _ _ k_X12_thingTold_136 ?_
    simp only [B_X12_thingTold_136, zk_ldi_s, zk_ldl_s, zk_lda_r, zk_lda_a, zk_lda_n, zk_iv_s, zr_nil, zr_cons, zp_0, zp_s, zt_0, zt_s, zt2_0, zt2_s, zw_iconst, zw_bipush, zw_sipush, zw_lconst, zw_ldcs, zw_ldc, zw_ldcw, zw_ldc2, zw_iload_n, zw_lload_n, zw_aload_n, zw_istore_n, zw_lstore_n, zw_astore_n, zw_astoreN_n, zw_iload, zw_lload, zw_aload, zw_istore, zw_lstore, zw_astore, zw_astoreN, zw_iinc, zw_iadd, zw_isub, zw_imul, zw_iand, zw_ior, zw_ixor, zw_ishl, zw_ishr, zw_iushr, zw_idiv, zw_irem, zw_ladd, zw_lsub, zw_lmul, zw_land, zw_ldiv, zw_lrem, zw_lcmp, zw_i2l, zw_l2i, zw_dup, zw_pop, zw_dup2i, zw_goto, zw_if_eq, zw_if_ne, zw_if_lt, zw_if_ge, zw_if_gt, zw_if_le, zw_ic_eq, zw_ic_ne, zw_ic_lt, zw_ic_ge, zw_ic_gt, zw_ic_le, zw_ifnn, zw_ifnnN, zw_tsw, zw_lsw, zw_getf_l, zw_getf_r, zw_getf_i, zw_getf_z, zw_putf_i, zw_putf_z, zw_putf_l, zw_putf_r, zw_iaload, zw_caload, zw_laload, zw_aaload, zw_iastore, zw_castore, zw_lastore, zw_aastore, zw_alen, zw_newa, zw_newq, zw_new, zw_oini, zw_invs, zw_invv, zw_copy, zw_invt, zw_iret, zw_lret, zw_ret, zc_r, zc_a, zk_rvs, zk_cat2, List.getElem?_cons_zero, List.getElem?_cons_succ, Bool.false_eq_true, and_false, false_and, and_true, true_and, reduceIte, Nat.reduceEqDiff, Nat.reduceLT, Nat.reduceAdd, List.cons_append, List.nil_append, Option.toList_some, Option.toList_none, zk_cat_i, zk_cat_r, zk_cat_n, zk_same, Option.some.injEq, Value.int.injEq, Value.long.injEq, eq_self, false_implies, true_implies, zf_12, ho, hP2, zl_M, zc_n10, zc_cl, zc_in, not_true_eq_false, not_false_eq_true]
    refine zk_callS (cm_isNamed hn hP h1.2.2.2.2.1 (k := 2) (c := vNt D.1) (by decide) h2.1.2.2 (by omega) (lI (nm_v w : Int)) (2 : Int32) rfl) (by first | decide | omega) (Nat.le_refl _) (Nat.le_of_ble_eq_true rfl) ?_
    simp only [zk_ldi_s, zk_ldl_s, zk_lda_r, zk_lda_a, zk_lda_n, zk_iv_s, zr_nil, zr_cons, zp_0, zp_s, zt_0, zt_s, zt2_0, zt2_s, zw_iconst, zw_bipush, zw_sipush, zw_lconst, zw_ldcs, zw_ldc, zw_ldcw, zw_ldc2, zw_iload_n, zw_lload_n, zw_aload_n, zw_istore_n, zw_lstore_n, zw_astore_n, zw_astoreN_n, zw_iload, zw_lload, zw_aload, zw_istore, zw_lstore, zw_astore, zw_astoreN, zw_iinc, zw_iadd, zw_isub, zw_imul, zw_iand, zw_ior, zw_ixor, zw_ishl, zw_ishr, zw_iushr, zw_idiv, zw_irem, zw_ladd, zw_lsub, zw_lmul, zw_land, zw_ldiv, zw_lrem, zw_lcmp, zw_i2l, zw_l2i, zw_dup, zw_pop, zw_dup2i, zw_goto, zw_if_eq, zw_if_ne, zw_if_lt, zw_if_ge, zw_if_gt, zw_if_le, zw_ic_eq, zw_ic_ne, zw_ic_lt, zw_ic_ge, zw_ic_gt, zw_ic_le, zw_ifnn, zw_ifnnN, zw_tsw, zw_lsw, zw_getf_l, zw_getf_r, zw_getf_i, zw_getf_z, zw_putf_i, zw_putf_z, zw_putf_l, zw_putf_r, zw_iaload, zw_caload, zw_laload, zw_aaload, zw_iastore, zw_castore, zw_lastore, zw_aastore, zw_alen, zw_newa, zw_newq, zw_new, zw_oini, zw_invs, zw_invv, zw_copy, zw_invt, zw_iret, zw_lret, zw_ret, zc_r, zc_a, zk_rvs, zk_cat2, List.getElem?_cons_zero, List.getElem?_cons_succ, Bool.false_eq_true, and_false, false_and, and_true, true_and, reduceIte, Nat.reduceEqDiff, Nat.reduceLT, Nat.reduceAdd, List.cons_append, List.nil_append, Option.toList_some, Option.toList_none, zk_cat_i, zk_cat_r, zk_cat_n, zk_same, Option.some.injEq, Value.int.injEq, Value.long.injEq, eq_self, false_implies, true_implies, zf_12, ho, hP2, zl_M, zc_n10, zc_cl, zc_in, not_true_eq_false, not_false_eq_true]
    have hFb : mdF M9 (zk_up M9 112 2 (nI (vNt D.1 + 1))) L (zk_up L 113 (10 * 2 + vNt D.1) (lI (nm_v w : Int))) := by
      obtain ⟨a1, a2, a3, a4, a5, a6, a7, a8, a9, a10, a11, a12⟩ := mdF_row (M := M9) (L := L) (q := 112) (k := 2) (x := nI (vNt D.1 + 1)) (by omega)
      exact ⟨a1, a2, fun q hq => zk_up_row hq, a4, fun i hi => zk_up_ne (by omega), a6, a7, a8, a9, a10, a11, a12⟩
    have hF := mdF_tr h3 hFb
    have hat : mt_at (zk_up M9 112 2 (nI (vNt D.1 + 1))) f T q4 := mt_at_row h1 (zk_up_row (by decide)) (zk_up_row (by decide))
    rcases hR with hR | ⟨hR, hR2⟩
    · rw [hR]
      refine Or.inl ⟨hat, mw_ok_F hw hF, ⟨Cs, ?_, by omega⟩, hF⟩
      obtain ⟨⟨c1, c2, c3⟩, e2, e3, e4, e5, e6, e7, e8, e9, e10, e11⟩ := h2
      have hcell : ∀ q, q ≠ 112 → zk_up M9 112 2 (nI (vNt D.1 + 1)) q = M9 q := fun q hq => zk_up_row hq
      refine ⟨⟨by rw [zk_up_ne (by decide)]; exact c1, by rw [zk_up_ne (by decide)]; exact c2, zk_up_at⟩, fun k i hk hi => ?_, fun a b ha hb => by rw [hcell 114 (by decide)]; exact e3 a b ha hb, fun i hi => by rw [hcell 115 (by decide)]; exact e4 i hi, fun t ht => ?_, fun t ht => ?_, fun p t hp ht => by rw [hcell 118 (by decide)]; exact e7 p t hp ht, by rw [hcell 119 (by decide)]; exact e8, fun k hk => md_rule_fr (e9 k hk) (hcell 120 (by decide)) (hcell 121 (by decide)), by rw [hcell 79 (by decide)]; exact e10, fun i hi => by rw [hcell 122 (by decide)]; exact e11 i hi⟩
      · show zk_up L 113 (10 * 2 + vNt D.1) (lI (nm_v w : Int)) 113 (10 * k + i) = lI (nm_v (vs_nmA D 2 w k i) : Int)
        unfold vs_nmA
        have hcc : i < vs_cnt D.1 k ∨ (k = 2 ∧ i = vNt D.1) := by
          rcases (show k = 0 ∨ k = 1 ∨ k = 2 by omega) with rfl | rfl | rfl
          · exact Or.inl hi
          · exact Or.inl hi
          · have hi2 : i < vNt D.1 + 1 := hi
            rcases Nat.lt_or_ge i (vNt D.1) with q | q
            · exact Or.inl q
            · exact Or.inr ⟨rfl, by omega⟩
        by_cases e : k = 2 ∧ i = vs_cnt D.1 2
        · rw [if_pos e, e.1, e.2]
          exact zk_up_at
        · have hcl : i < vs_cnt D.1 k := by
            rcases hcc with q | q
            · exact q
            · exact absurd q e
          have hc9 := vs_cnt_le hok hk
          rw [if_neg e, zk_up_ne (fun z => e (by
            have z2 : 10 * k + i = 10 * 2 + vNt D.1 := z.2
            have : k = 2 := by omega
            subst this
            exact ⟨rfl, show i = vNt D.1 by omega⟩))]
          exact e2 k i hk hcl
      · have ht2 : t < vNt D.1 + 1 := ht
        show _ = nI (sp_up1 (vWt D.1) (vNt D.1) gg t)
        unfold sp_up1
        rw [hcell 116 (by decide)]
        by_cases e : t = vNt D.1
        · rw [if_pos e, e]; exact h4
        · rw [if_neg e]; exact e5 t (by omega)
      · have ht2 : t < vNt D.1 + 1 := ht
        show _ = nI (sp_up1 (vHg D.1) (vNt D.1) rr t)
        unfold sp_up1
        rw [hcell 117 (by decide)]
        by_cases e : t = vNt D.1
        · rw [if_pos e, e]; exact h5
        · rw [if_neg e]; exact e6 t (by omega)
    · exact Or.inr ⟨q4, hR, hR2, hat, mw_ok_F hw hF, hF⟩
  simp only [zk_ldi_s, zk_ldl_s, zk_lda_r, zk_lda_a, zk_lda_n, zk_iv_s, zr_nil, zr_cons, zp_0, zp_s, zt_0, zt_s, zt2_0, zt2_s, zw_iconst, zw_bipush, zw_sipush, zw_lconst, zw_ldcs, zw_ldc, zw_ldcw, zw_ldc2, zw_iload_n, zw_lload_n, zw_aload_n, zw_istore_n, zw_lstore_n, zw_astore_n, zw_astoreN_n, zw_iload, zw_lload, zw_aload, zw_istore, zw_lstore, zw_astore, zw_astoreN, zw_iinc, zw_iadd, zw_isub, zw_imul, zw_iand, zw_ior, zw_ixor, zw_ishl, zw_ishr, zw_iushr, zw_idiv, zw_irem, zw_ladd, zw_lsub, zw_lmul, zw_land, zw_ldiv, zw_lrem, zw_lcmp, zw_i2l, zw_l2i, zw_dup, zw_pop, zw_dup2i, zw_goto, zw_if_eq, zw_if_ne, zw_if_lt, zw_if_ge, zw_if_gt, zw_if_le, zw_ic_eq, zw_ic_ne, zw_ic_lt, zw_ic_ge, zw_ic_gt, zw_ic_le, zw_ifnn, zw_ifnnN, zw_tsw, zw_lsw, zw_getf_l, zw_getf_r, zw_getf_i, zw_getf_z, zw_putf_i, zw_putf_z, zw_putf_l, zw_putf_r, zw_iaload, zw_caload, zw_laload, zw_aaload, zw_iastore, zw_castore, zw_lastore, zw_aastore, zw_alen, zw_newa, zw_newq, zw_new, zw_oini, zw_invs, zw_invv, zw_copy, zw_invt, zw_iret, zw_lret, zw_ret, zc_r, zc_a, zk_rvs, zk_cat2, List.getElem?_cons_zero, List.getElem?_cons_succ, Bool.false_eq_true, and_false, false_and, and_true, true_and, reduceIte, Nat.reduceEqDiff, Nat.reduceLT, Nat.reduceAdd, List.cons_append, List.nil_append, Option.toList_some, Option.toList_none, zk_cat_i, zk_cat_r, zk_cat_n, zk_same, Option.some.injEq, Value.int.injEq, Value.long.injEq, eq_self, false_implies, true_implies, zf_12, ho, hP2, zl_M, zc_n10, zc_cl, zc_in, not_true_eq_false, not_false_eq_true, cl, in20, hM8]
  refine zk_callI (cm_takes hn hP hat8 (mw_ok_F hw hF8) 89 (by unfold sp_wq; omega) 307 (by decide)) (by first | decide | omega) (Nat.le_refl _) (Nat.le_of_ble_eq_true rfl) (fun r M5 L9 P9 hpost => ?_)
  obtain ⟨hL9, hP9, l1, l2, l3⟩ := hpost
  have hL8 := hL9.symm
  have hP8 := hP9.symm
  clear hL9 hP9
  subst hL8
  subst hP8
  have hD5 := md_D_m hD8 l1
  have hF5 := mdF_tr hF8 (mdF_m (L := L) l1)
  have hg5 : M5 116 (vNt D.1) = nI gg := by rw [l1.1 116 (by decide)]; exact hg8
  have hr5 : M5 117 (vNt D.1) = nI 0 := by rw [l1.1 117 (by decide)]; exact hr8
  by_cases e307 : tkK f T q3 = 307
  · rw [if_pos e307] at hres
    obtain ⟨rfl, l4⟩ := l3 e307
    have hpos3 := tkK_pos (f := f) i2 (show tkK f T q3 ≠ -1 by omega)
    have bad105 : ∀ (M9 : zk_MI) (t : Int32) (k' pl : Nat), R = .inl (k', pl) → (1 ≤ k' ∧ k' ≤ 5) → M9 79 5 = nI k' → M9 79 6 = nI pl → mdF M M9 L L → Z 105 [.ref 79, .int (nI (tkS f T p)), .long (lI (nm_v w : Int)), zk_un, .int (nI (vNt D.1)), .int t] [] n M9 L P := by
      intro M9 t k' pl hR h1 h2 h3 h4
      have hz : ∀ x, ¬ zk_up M9 117 (vNt D.1) x 79 5 = 0 := fun x => by rw [zk_up_row (by decide)]; exact yv_nz h1 h2
      refine hZ B_X12_thingTold_105 _ _ _ _ _ _ _ k_X12_thingTold_105 ?_
      simp only [B_X12_thingTold_105, zk_ldi_s, zk_ldl_s, zk_lda_r, zk_lda_a, zk_lda_n, zk_iv_s, zr_nil, zr_cons, zp_0, zp_s, zt_0, zt_s, zt2_0, zt2_s, zw_iconst, zw_bipush, zw_sipush, zw_lconst, zw_ldcs, zw_ldc, zw_ldcw, zw_ldc2, zw_iload_n, zw_lload_n, zw_aload_n, zw_istore_n, zw_lstore_n, zw_astore_n, zw_astoreN_n, zw_iload, zw_lload, zw_aload, zw_istore, zw_lstore, zw_astore, zw_astoreN, zw_iinc, zw_iadd, zw_isub, zw_imul, zw_iand, zw_ior, zw_ixor, zw_ishl, zw_ishr, zw_iushr, zw_idiv, zw_irem, zw_ladd, zw_lsub, zw_lmul, zw_land, zw_ldiv, zw_lrem, zw_lcmp, zw_i2l, zw_l2i, zw_dup, zw_pop, zw_dup2i, zw_goto, zw_if_eq, zw_if_ne, zw_if_lt, zw_if_ge, zw_if_gt, zw_if_le, zw_ic_eq, zw_ic_ne, zw_ic_lt, zw_ic_ge, zw_ic_gt, zw_ic_le, zw_ifnn, zw_ifnnN, zw_tsw, zw_lsw, zw_getf_l, zw_getf_r, zw_getf_i, zw_getf_z, zw_putf_i, zw_putf_z, zw_putf_l, zw_putf_r, zw_iaload, zw_caload, zw_laload, zw_aaload, zw_iastore, zw_castore, zw_lastore, zw_aastore, zw_alen, zw_newa, zw_newq, zw_new, zw_oini, zw_invs, zw_invv, zw_copy, zw_invt, zw_iret, zw_lret, zw_ret, zc_r, zc_a, zk_rvs, zk_cat2, List.getElem?_cons_zero, List.getElem?_cons_succ, Bool.false_eq_true, and_false, false_and, and_true, true_and, reduceIte, Nat.reduceEqDiff, Nat.reduceLT, Nat.reduceAdd, List.cons_append, List.nil_append, Option.toList_some, Option.toList_none, zk_cat_i, zk_cat_r, zk_cat_n, zk_same, Option.some.injEq, Value.int.injEq, Value.long.injEq, eq_self, false_implies, true_implies, zf_12, ho, hP2, zl_M, zc_n10, zc_cl, zc_in, not_true_eq_false, not_false_eq_true, cl, in20, hz]
      exact bad136 _ _ _ _ k' pl hR h1 (by rw [zk_up_row (by decide)]; exact h2) (by rw [zk_up_row (by decide)]; exact h3) (mdF_tr h4 (mdF_row (by omega)))
    have loop : ∀ (j r p1 : Nat) (M9 : zk_MI) (v5 : Value), vs_b (vs_roots f T (dNm D 2) (vNt D.1) j r p1) (fun p4 r => .inr (p4, vs_aT D w gg r)) = R → 10 ≤ sp_pc r + j → r < 2 ^ vNt D.1 → q3 ≤ p1 → mt_at M9 f T p1 → md_D M9 L D Cs → mdF M M9 L L → M9 116 (vNt D.1) = nI gg → M9 117 (vNt D.1) = nI r → Z 66 [.ref 79, .int (nI (tkS f T p)), .long (lI (nm_v w : Int)), zk_un, .int (nI (vNt D.1)), v5] [] n M9 L P := by
      intro j
      induction j with
      | zero =>
        intro r p1 M9 v5 hq hj hr
        have h512 : r < 512 := Nat.lt_of_lt_of_le hr (Nat.pow_le_pow_right (by decide) (show vNt D.1 ≤ 9 by omega))
        have := sp_pc_512 r h512
        omega
      | succ j ih =>
        intro r p1 M9 v5 hq hj hr hqp hat hDD hFF hgg hrr
        have h512 : r < 512 := Nat.lt_of_lt_of_le hr (Nat.pow_le_pow_right (by decide) (show vNt D.1 ≤ 9 by omega))
        simp only [vs_roots] at hq
        rw [vs_ol_bar] at hq
        refine hZ B_X12_thingTold_66 _ _ _ _ _ _ _ k_X12_thingTold_66 ?_
        simp only [B_X12_thingTold_66, zk_ldi_s, zk_ldl_s, zk_lda_r, zk_lda_a, zk_lda_n, zk_iv_s, zr_nil, zr_cons, zp_0, zp_s, zt_0, zt_s, zt2_0, zt2_s, zw_iconst, zw_bipush, zw_sipush, zw_lconst, zw_ldcs, zw_ldc, zw_ldcw, zw_ldc2, zw_iload_n, zw_lload_n, zw_aload_n, zw_istore_n, zw_lstore_n, zw_astore_n, zw_astoreN_n, zw_iload, zw_lload, zw_aload, zw_istore, zw_lstore, zw_astore, zw_astoreN, zw_iinc, zw_iadd, zw_isub, zw_imul, zw_iand, zw_ior, zw_ixor, zw_ishl, zw_ishr, zw_iushr, zw_idiv, zw_irem, zw_ladd, zw_lsub, zw_lmul, zw_land, zw_ldiv, zw_lrem, zw_lcmp, zw_i2l, zw_l2i, zw_dup, zw_pop, zw_dup2i, zw_goto, zw_if_eq, zw_if_ne, zw_if_lt, zw_if_ge, zw_if_gt, zw_if_le, zw_ic_eq, zw_ic_ne, zw_ic_lt, zw_ic_ge, zw_ic_gt, zw_ic_le, zw_ifnn, zw_ifnnN, zw_tsw, zw_lsw, zw_getf_l, zw_getf_r, zw_getf_i, zw_getf_z, zw_putf_i, zw_putf_z, zw_putf_l, zw_putf_r, zw_iaload, zw_caload, zw_laload, zw_aaload, zw_iastore, zw_castore, zw_lastore, zw_aastore, zw_alen, zw_newa, zw_newq, zw_new, zw_oini, zw_invs, zw_invv, zw_copy, zw_invt, zw_iret, zw_lret, zw_ret, zc_r, zc_a, zk_rvs, zk_cat2, List.getElem?_cons_zero, List.getElem?_cons_succ, Bool.false_eq_true, and_false, false_and, and_true, true_and, reduceIte, Nat.reduceEqDiff, Nat.reduceLT, Nat.reduceAdd, List.cons_append, List.nil_append, Option.toList_some, Option.toList_none, zk_cat_i, zk_cat_r, zk_cat_n, zk_same, Option.some.injEq, Value.int.injEq, Value.long.injEq, eq_self, false_implies, true_implies, zf_12, ho, hP2, zl_M, zc_n10, zc_cl, zc_in, not_true_eq_false, not_false_eq_true]
        refine zk_callI (cm_oneOf hn hP hat (mw_ok_F hw hFF) hok hDD.1 hDD.2.1 (k := 2) (by decide) (2 : Int32) rfl) (by first | decide | omega) (Nat.le_refl _) (Nat.le_of_ble_eq_true rfl) (fun r MA L9 P9 hpost => ?_)
        obtain ⟨hL9, hP9, x1, x2, x3⟩ := hpost
        have hL8 := hL9.symm
        have hP8 := hP9.symm
        clear hL9 hP9
        subst hL8
        subst hP8
        rcases hx : vs_ol f T (dNm D 2) (vNt D.1) 0 p1 with ⟨k', pl⟩ | ⟨q4, a⟩
        · have hx' : vs_ol f T (dNm D 2) (vs_cnt D.1 2) 0 p1 = .inl (k', pl) := hx
          have hrv := x2 _ hx'
          subst hrv
          rw [hx'] at x1
          rw [hx] at hq
          obtain ⟨w1, w2, w3, w4⟩ := x1
          have hz := yv_nz w1 w2
          simp only [zk_ldi_s, zk_ldl_s, zk_lda_r, zk_lda_a, zk_lda_n, zk_iv_s, zr_nil, zr_cons, zp_0, zp_s, zt_0, zt_s, zt2_0, zt2_s, zw_iconst, zw_bipush, zw_sipush, zw_lconst, zw_ldcs, zw_ldc, zw_ldcw, zw_ldc2, zw_iload_n, zw_lload_n, zw_aload_n, zw_istore_n, zw_lstore_n, zw_astore_n, zw_astoreN_n, zw_iload, zw_lload, zw_aload, zw_istore, zw_lstore, zw_astore, zw_astoreN, zw_iinc, zw_iadd, zw_isub, zw_imul, zw_iand, zw_ior, zw_ixor, zw_ishl, zw_ishr, zw_iushr, zw_idiv, zw_irem, zw_ladd, zw_lsub, zw_lmul, zw_land, zw_ldiv, zw_lrem, zw_lcmp, zw_i2l, zw_l2i, zw_dup, zw_pop, zw_dup2i, zw_goto, zw_if_eq, zw_if_ne, zw_if_lt, zw_if_ge, zw_if_gt, zw_if_le, zw_ic_eq, zw_ic_ne, zw_ic_lt, zw_ic_ge, zw_ic_gt, zw_ic_le, zw_ifnn, zw_ifnnN, zw_tsw, zw_lsw, zw_getf_l, zw_getf_r, zw_getf_i, zw_getf_z, zw_putf_i, zw_putf_z, zw_putf_l, zw_putf_r, zw_iaload, zw_caload, zw_laload, zw_aaload, zw_iastore, zw_castore, zw_lastore, zw_aastore, zw_alen, zw_newa, zw_newq, zw_new, zw_oini, zw_invs, zw_invv, zw_copy, zw_invt, zw_iret, zw_lret, zw_ret, zc_r, zc_a, zk_rvs, zk_cat2, List.getElem?_cons_zero, List.getElem?_cons_succ, Bool.false_eq_true, and_false, false_and, and_true, true_and, reduceIte, Nat.reduceEqDiff, Nat.reduceLT, Nat.reduceAdd, List.cons_append, List.nil_append, Option.toList_some, Option.toList_none, zk_cat_i, zk_cat_r, zk_cat_n, zk_same, Option.some.injEq, Value.int.injEq, Value.long.injEq, eq_self, false_implies, true_implies, zf_12, ho, hP2, zl_M, zc_n10, zc_cl, zc_in, not_true_eq_false, not_false_eq_true, hz]
          exact bad105 MA 0 k' pl hq.symm w1 w2 w3 (mdF_tr hFF (mdF_m w4))
        obtain ⟨d1, d2, d3, -⟩ := vs_ol_pos (nm := dNm D 2) (c := vNt D.1) (bar := 0) hat.2.2.2.1 hfb q4 a hx
        have hx' : vs_ol f T (dNm D 2) (vs_cnt D.1 2) 0 p1 = .inr (q4, a) := hx
        obtain ⟨hrv, h40⟩ := x3 _ _ hx'
        subst hrv
        rw [hx'] at x1
        rw [hx] at hq
        simp only at hq
        obtain ⟨w1, w2⟩ := x1
        have hDA := md_D_m hDD w2
        have hFA := mdF_tr hFF (mdF_m (L := L) w2)
        have hgA : MA 116 (vNt D.1) = nI gg := by rw [w2.1 116 (by decide)]; exact hgg
        have hrA : MA 117 (vNt D.1) = nI r := by rw [w2.1 117 (by decide)]; exact hrr
        have ebit : ((nI r >>> (nI a &&& 31)) &&& 1 = 1) = (r.testBit a = true) := propext (zn_bit1 (by omega) (by omega))
        simp only [zk_ldi_s, zk_ldl_s, zk_lda_r, zk_lda_a, zk_lda_n, zk_iv_s, zr_nil, zr_cons, zp_0, zp_s, zt_0, zt_s, zt2_0, zt2_s, zw_iconst, zw_bipush, zw_sipush, zw_lconst, zw_ldcs, zw_ldc, zw_ldcw, zw_ldc2, zw_iload_n, zw_lload_n, zw_aload_n, zw_istore_n, zw_lstore_n, zw_astore_n, zw_astoreN_n, zw_iload, zw_lload, zw_aload, zw_istore, zw_lstore, zw_astore, zw_astoreN, zw_iinc, zw_iadd, zw_isub, zw_imul, zw_iand, zw_ior, zw_ixor, zw_ishl, zw_ishr, zw_iushr, zw_idiv, zw_irem, zw_ladd, zw_lsub, zw_lmul, zw_land, zw_ldiv, zw_lrem, zw_lcmp, zw_i2l, zw_l2i, zw_dup, zw_pop, zw_dup2i, zw_goto, zw_if_eq, zw_if_ne, zw_if_lt, zw_if_ge, zw_if_gt, zw_if_le, zw_ic_eq, zw_ic_ne, zw_ic_lt, zw_ic_ge, zw_ic_gt, zw_ic_le, zw_ifnn, zw_ifnnN, zw_tsw, zw_lsw, zw_getf_l, zw_getf_r, zw_getf_i, zw_getf_z, zw_putf_i, zw_putf_z, zw_putf_l, zw_putf_r, zw_iaload, zw_caload, zw_laload, zw_aaload, zw_iastore, zw_castore, zw_lastore, zw_aastore, zw_alen, zw_newa, zw_newq, zw_new, zw_oini, zw_invs, zw_invv, zw_copy, zw_invt, zw_iret, zw_lret, zw_ret, zc_r, zc_a, zk_rvs, zk_cat2, List.getElem?_cons_zero, List.getElem?_cons_succ, Bool.false_eq_true, and_false, false_and, and_true, true_and, reduceIte, Nat.reduceEqDiff, Nat.reduceLT, Nat.reduceAdd, List.cons_append, List.nil_append, Option.toList_some, Option.toList_none, zk_cat_i, zk_cat_r, zk_cat_n, zk_same, Option.some.injEq, Value.int.injEq, Value.long.injEq, eq_self, false_implies, true_implies, zf_12, ho, hP2, zl_M, zc_n10, zc_cl, zc_in, not_true_eq_false, not_false_eq_true, w1.2.2.2.2.1, cl, in20, hrA, ebit, h40]
        refine ⟨fun g => ?_, fun g => ?_⟩
        · rw [if_neg (show ¬ r.testBit a = true from fun z => by simp [z] at g)] at hq
          simp only [vs_b] at hq
          have hra : r.testBit a = false := by simpa using g
          have s2 : (1 : Int32) <<< (nI a &&& 31) = nI (2 ^ a) := zn_shl1 a (by omega)
          generalize hMB : zk_up MA 117 (vNt D.1) (nI (r ||| 2 ^ a)) = MB
          have hDB : md_D MB L D Cs := by rw [← hMB]; exact md_D_wt hDA (Or.inr rfl) _
          have hFB : mdF M MB L L := by rw [← hMB]; exact mdF_tr hFA (mdF_row (by omega))
          have hatB : mt_at MB f T q4 := mt_at_row w1 (by rw [← hMB, zk_up_row (by decide)]) (by rw [← hMB, zk_up_row (by decide)])
          have hgB : MB 116 (vNt D.1) = nI gg := by rw [← hMB, zk_up_row (by decide)]; exact hgA
          have hrB : MB 117 (vNt D.1) = nI (r ||| 2 ^ a) := by rw [← hMB]; exact zk_up_at
          have hr2 : r ||| 2 ^ a < 2 ^ vNt D.1 := Nat.or_lt_two_pow hr (Nat.pow_lt_pow_right (by decide) d3)
          have hpc := sp_pc_or r (by omega) a (by omega) hra
          have hci := mt_ci hatB
          have hlet := tk_ltr (f := f) (p := q4) d2 hfb
          have hlk : mtF MB (zk_up MB 79 2 (nI (tkS f T q4))) := mtF_up (by omega)
          refine hZ B_X12_thingTold_105 _ _ _ _ _ _ _ k_X12_thingTold_105 ?_
          simp only [B_X12_thingTold_105, zk_ldi_s, zk_ldl_s, zk_lda_r, zk_lda_a, zk_lda_n, zk_iv_s, zr_nil, zr_cons, zp_0, zp_s, zt_0, zt_s, zt2_0, zt2_s, zw_iconst, zw_bipush, zw_sipush, zw_lconst, zw_ldcs, zw_ldc, zw_ldcw, zw_ldc2, zw_iload_n, zw_lload_n, zw_aload_n, zw_istore_n, zw_lstore_n, zw_astore_n, zw_astoreN_n, zw_iload, zw_lload, zw_aload, zw_istore, zw_lstore, zw_astore, zw_astoreN, zw_iinc, zw_iadd, zw_isub, zw_imul, zw_iand, zw_ior, zw_ixor, zw_ishl, zw_ishr, zw_iushr, zw_idiv, zw_irem, zw_ladd, zw_lsub, zw_lmul, zw_land, zw_ldiv, zw_lrem, zw_lcmp, zw_i2l, zw_l2i, zw_dup, zw_pop, zw_dup2i, zw_goto, zw_if_eq, zw_if_ne, zw_if_lt, zw_if_ge, zw_if_gt, zw_if_le, zw_ic_eq, zw_ic_ne, zw_ic_lt, zw_ic_ge, zw_ic_gt, zw_ic_le, zw_ifnn, zw_ifnnN, zw_tsw, zw_lsw, zw_getf_l, zw_getf_r, zw_getf_i, zw_getf_z, zw_putf_i, zw_putf_z, zw_putf_l, zw_putf_r, zw_iaload, zw_caload, zw_laload, zw_aaload, zw_iastore, zw_castore, zw_lastore, zw_aastore, zw_alen, zw_newa, zw_newq, zw_new, zw_oini, zw_invs, zw_invv, zw_copy, zw_invt, zw_iret, zw_lret, zw_ret, zc_r, zc_a, zk_rvs, zk_cat2, List.getElem?_cons_zero, List.getElem?_cons_succ, Bool.false_eq_true, and_false, false_and, and_true, true_and, reduceIte, Nat.reduceEqDiff, Nat.reduceLT, Nat.reduceAdd, List.cons_append, List.nil_append, Option.toList_some, Option.toList_none, zk_cat_i, zk_cat_r, zk_cat_n, zk_same, Option.some.injEq, Value.int.injEq, Value.long.injEq, eq_self, false_implies, true_implies, zf_12, ho, hP2, zl_M, zc_n10, zc_cl, zc_in, not_true_eq_false, not_false_eq_true, cl, in20, hrA, s2, fa_or, hMB, hatB.2.2.2.2.1]
          refine zk_callS (cm_look hn hP hatB) (by first | decide | omega) (Nat.le_refl _) (Nat.le_of_ble_eq_true rfl) ?_
          simp only [zk_ldi_s, zk_ldl_s, zk_lda_r, zk_lda_a, zk_lda_n, zk_iv_s, zr_nil, zr_cons, zp_0, zp_s, zt_0, zt_s, zt2_0, zt2_s, zw_iconst, zw_bipush, zw_sipush, zw_lconst, zw_ldcs, zw_ldc, zw_ldcw, zw_ldc2, zw_iload_n, zw_lload_n, zw_aload_n, zw_istore_n, zw_lstore_n, zw_astore_n, zw_astoreN_n, zw_iload, zw_lload, zw_aload, zw_istore, zw_lstore, zw_astore, zw_astoreN, zw_iinc, zw_iadd, zw_isub, zw_imul, zw_iand, zw_ior, zw_ixor, zw_ishl, zw_ishr, zw_iushr, zw_idiv, zw_irem, zw_ladd, zw_lsub, zw_lmul, zw_land, zw_ldiv, zw_lrem, zw_lcmp, zw_i2l, zw_l2i, zw_dup, zw_pop, zw_dup2i, zw_goto, zw_if_eq, zw_if_ne, zw_if_lt, zw_if_ge, zw_if_gt, zw_if_le, zw_ic_eq, zw_ic_ne, zw_ic_lt, zw_ic_ge, zw_ic_gt, zw_ic_le, zw_ifnn, zw_ifnnN, zw_tsw, zw_lsw, zw_getf_l, zw_getf_r, zw_getf_i, zw_getf_z, zw_putf_i, zw_putf_z, zw_putf_l, zw_putf_r, zw_iaload, zw_caload, zw_laload, zw_aaload, zw_iastore, zw_castore, zw_lastore, zw_aastore, zw_alen, zw_newa, zw_newq, zw_new, zw_oini, zw_invs, zw_invv, zw_copy, zw_invt, zw_iret, zw_lret, zw_ret, zc_r, zc_a, zk_rvs, zk_cat2, List.getElem?_cons_zero, List.getElem?_cons_succ, Bool.false_eq_true, and_false, false_and, and_true, true_and, reduceIte, Nat.reduceEqDiff, Nat.reduceLT, Nat.reduceAdd, List.cons_append, List.nil_append, Option.toList_some, Option.toList_none, zk_cat_i, zk_cat_r, zk_cat_n, zk_same, Option.some.injEq, Value.int.injEq, Value.long.injEq, eq_self, false_implies, true_implies, zf_12, ho, hP2, zl_M, zc_n10, zc_cl, zc_in, not_true_eq_false, not_false_eq_true]
          refine zk_callS (cm_isLetter (tk_ci f T q4) hci.1 hci.2) (by first | decide | omega) (Nat.le_refl _) (Nat.le_of_ble_eq_true rfl) ?_
          by_cases hl9 : 97 ≤ tk_ci f T q4 ∧ tk_ci f T q4 ≤ 122
          · rw [if_pos hl9]
            rw [if_neg (hlet.1 hl9)] at hq
            simp only [zk_ldi_s, zk_ldl_s, zk_lda_r, zk_lda_a, zk_lda_n, zk_iv_s, zr_nil, zr_cons, zp_0, zp_s, zt_0, zt_s, zt2_0, zt2_s, zw_iconst, zw_bipush, zw_sipush, zw_lconst, zw_ldcs, zw_ldc, zw_ldcw, zw_ldc2, zw_iload_n, zw_lload_n, zw_aload_n, zw_istore_n, zw_lstore_n, zw_astore_n, zw_astoreN_n, zw_iload, zw_lload, zw_aload, zw_istore, zw_lstore, zw_astore, zw_astoreN, zw_iinc, zw_iadd, zw_isub, zw_imul, zw_iand, zw_ior, zw_ixor, zw_ishl, zw_ishr, zw_iushr, zw_idiv, zw_irem, zw_ladd, zw_lsub, zw_lmul, zw_land, zw_ldiv, zw_lrem, zw_lcmp, zw_i2l, zw_l2i, zw_dup, zw_pop, zw_dup2i, zw_goto, zw_if_eq, zw_if_ne, zw_if_lt, zw_if_ge, zw_if_gt, zw_if_le, zw_ic_eq, zw_ic_ne, zw_ic_lt, zw_ic_ge, zw_ic_gt, zw_ic_le, zw_ifnn, zw_ifnnN, zw_tsw, zw_lsw, zw_getf_l, zw_getf_r, zw_getf_i, zw_getf_z, zw_putf_i, zw_putf_z, zw_putf_l, zw_putf_r, zw_iaload, zw_caload, zw_laload, zw_aaload, zw_iastore, zw_castore, zw_lastore, zw_aastore, zw_alen, zw_newa, zw_newq, zw_new, zw_oini, zw_invs, zw_invv, zw_copy, zw_invt, zw_iret, zw_lret, zw_ret, zc_r, zc_a, zk_rvs, zk_cat2, List.getElem?_cons_zero, List.getElem?_cons_succ, Bool.false_eq_true, and_false, false_and, and_true, true_and, reduceIte, Nat.reduceEqDiff, Nat.reduceLT, Nat.reduceAdd, List.cons_append, List.nil_append, Option.toList_some, Option.toList_none, zk_cat_i, zk_cat_r, zk_cat_n, zk_same, Option.some.injEq, Value.int.injEq, Value.long.injEq, eq_self, false_implies, true_implies, zf_12, ho, hP2, zl_M, zc_n10, zc_cl, zc_in, not_true_eq_false, not_false_eq_true, (show ((1 : Int32) = 0) = False from by decide)]
            exact ih (r ||| 2 ^ a) q4 _ _ hq (by omega) hr2 (by omega) (mt_at_look hatB) (md_D_m hDB hlk) (mdF_tr hFB (mdF_m hlk)) (by rw [zk_up_row (by decide)]; exact hgB) (by rw [zk_up_row (by decide)]; exact hrB)
          · rw [if_neg hl9]
            simp only [zk_ldi_s, zk_ldl_s, zk_lda_r, zk_lda_a, zk_lda_n, zk_iv_s, zr_nil, zr_cons, zp_0, zp_s, zt_0, zt_s, zt2_0, zt2_s, zw_iconst, zw_bipush, zw_sipush, zw_lconst, zw_ldcs, zw_ldc, zw_ldcw, zw_ldc2, zw_iload_n, zw_lload_n, zw_aload_n, zw_istore_n, zw_lstore_n, zw_astore_n, zw_astoreN_n, zw_iload, zw_lload, zw_aload, zw_istore, zw_lstore, zw_astore, zw_astoreN, zw_iinc, zw_iadd, zw_isub, zw_imul, zw_iand, zw_ior, zw_ixor, zw_ishl, zw_ishr, zw_iushr, zw_idiv, zw_irem, zw_ladd, zw_lsub, zw_lmul, zw_land, zw_ldiv, zw_lrem, zw_lcmp, zw_i2l, zw_l2i, zw_dup, zw_pop, zw_dup2i, zw_goto, zw_if_eq, zw_if_ne, zw_if_lt, zw_if_ge, zw_if_gt, zw_if_le, zw_ic_eq, zw_ic_ne, zw_ic_lt, zw_ic_ge, zw_ic_gt, zw_ic_le, zw_ifnn, zw_ifnnN, zw_tsw, zw_lsw, zw_getf_l, zw_getf_r, zw_getf_i, zw_getf_z, zw_putf_i, zw_putf_z, zw_putf_l, zw_putf_r, zw_iaload, zw_caload, zw_laload, zw_aaload, zw_iastore, zw_castore, zw_lastore, zw_aastore, zw_alen, zw_newa, zw_newq, zw_new, zw_oini, zw_invs, zw_invv, zw_copy, zw_invt, zw_iret, zw_lret, zw_ret, zc_r, zc_a, zk_rvs, zk_cat2, List.getElem?_cons_zero, List.getElem?_cons_succ, Bool.false_eq_true, and_false, false_and, and_true, true_and, reduceIte, Nat.reduceEqDiff, Nat.reduceLT, Nat.reduceAdd, List.cons_append, List.nil_append, Option.toList_some, Option.toList_none, zk_cat_i, zk_cat_r, zk_cat_n, zk_same, Option.some.injEq, Value.int.injEq, Value.long.injEq, eq_self, false_implies, true_implies, zf_12, ho, hP2, zl_M, zc_n10, zc_cl, zc_in, not_true_eq_false, not_false_eq_true]
            refine fin _ _ (r ||| 2 ^ a) q4 ?_ (by omega) (mt_at_look hatB) (md_D_m hDB hlk) (mdF_tr hFB (mdF_m hlk)) (by rw [zk_up_row (by decide)]; exact hgB) (by rw [zk_up_row (by decide)]; exact hrB)
            by_cases e59 : tkK f T q4 = 59
            · rw [if_pos e59] at hq
              exact Or.inl hq.symm
            · rw [if_neg e59] at hq
              refine Or.inr ⟨?_, e59⟩
              have hj1 : j ≠ 0 := fun z => by
                have h5122 : r ||| 2 ^ a < 512 := Nat.lt_of_lt_of_le hr2 (Nat.pow_le_pow_right (by decide) (show vNt D.1 ≤ 9 by omega))
                have := sp_pc_512 _ h5122
                omega
              obtain ⟨j2, rfl⟩ := Nat.exists_eq_succ_of_ne_zero hj1
              simp only [Nat.succ_eq_add_one, vs_roots] at hq
              have hol : vs_ol f T (dNm D 2) (vNt D.1) (r ||| 2 ^ a) q4 = .inl (1, tkS f T q4) := by unfold vs_ol; rw [hlet.2 hl9]
              rw [hol] at hq
              exact hq.symm
        · rw [if_pos g] at hq
          refine zk_callS (cm_fail0 hn hP w1.2.2.2.2.1 3 (nI (tkS f T p1))) (by first | decide | omega) (Nat.le_refl _) (Nat.le_of_ble_eq_true rfl) ?_
          simp only [zk_ldi_s, zk_ldl_s, zk_lda_r, zk_lda_a, zk_lda_n, zk_iv_s, zr_nil, zr_cons, zp_0, zp_s, zt_0, zt_s, zt2_0, zt2_s, zw_iconst, zw_bipush, zw_sipush, zw_lconst, zw_ldcs, zw_ldc, zw_ldcw, zw_ldc2, zw_iload_n, zw_lload_n, zw_aload_n, zw_istore_n, zw_lstore_n, zw_astore_n, zw_astoreN_n, zw_iload, zw_lload, zw_aload, zw_istore, zw_lstore, zw_astore, zw_astoreN, zw_iinc, zw_iadd, zw_isub, zw_imul, zw_iand, zw_ior, zw_ixor, zw_ishl, zw_ishr, zw_iushr, zw_idiv, zw_irem, zw_ladd, zw_lsub, zw_lmul, zw_land, zw_ldiv, zw_lrem, zw_lcmp, zw_i2l, zw_l2i, zw_dup, zw_pop, zw_dup2i, zw_goto, zw_if_eq, zw_if_ne, zw_if_lt, zw_if_ge, zw_if_gt, zw_if_le, zw_ic_eq, zw_ic_ne, zw_ic_lt, zw_ic_ge, zw_ic_gt, zw_ic_le, zw_ifnn, zw_ifnnN, zw_tsw, zw_lsw, zw_getf_l, zw_getf_r, zw_getf_i, zw_getf_z, zw_putf_i, zw_putf_z, zw_putf_l, zw_putf_r, zw_iaload, zw_caload, zw_laload, zw_aaload, zw_iastore, zw_castore, zw_lastore, zw_aastore, zw_alen, zw_newa, zw_newq, zw_new, zw_oini, zw_invs, zw_invv, zw_copy, zw_invt, zw_iret, zw_lret, zw_ret, zc_r, zc_a, zk_rvs, zk_cat2, List.getElem?_cons_zero, List.getElem?_cons_succ, Bool.false_eq_true, and_false, false_and, and_true, true_and, reduceIte, Nat.reduceEqDiff, Nat.reduceLT, Nat.reduceAdd, List.cons_append, List.nil_append, Option.toList_some, Option.toList_none, zk_cat_i, zk_cat_r, zk_cat_n, zk_same, Option.some.injEq, Value.int.injEq, Value.long.injEq, eq_self, false_implies, true_implies, zf_12, ho, hP2, zl_M, zc_n10, zc_cl, zc_in, not_true_eq_false, not_false_eq_true]
          exact bad105 _ _ 3 _ hq.symm (by decide) mt_bad5.1 mt_bad5.2 (mdF_tr hFA (mdF_m mtF_bad))
    simp only [zk_ldi_s, zk_ldl_s, zk_lda_r, zk_lda_a, zk_lda_n, zk_iv_s, zr_nil, zr_cons, zp_0, zp_s, zt_0, zt_s, zt2_0, zt2_s, zw_iconst, zw_bipush, zw_sipush, zw_lconst, zw_ldcs, zw_ldc, zw_ldcw, zw_ldc2, zw_iload_n, zw_lload_n, zw_aload_n, zw_istore_n, zw_lstore_n, zw_astore_n, zw_astoreN_n, zw_iload, zw_lload, zw_aload, zw_istore, zw_lstore, zw_astore, zw_astoreN, zw_iinc, zw_iadd, zw_isub, zw_imul, zw_iand, zw_ior, zw_ixor, zw_ishl, zw_ishr, zw_iushr, zw_idiv, zw_irem, zw_ladd, zw_lsub, zw_lmul, zw_land, zw_ldiv, zw_lrem, zw_lcmp, zw_i2l, zw_l2i, zw_dup, zw_pop, zw_dup2i, zw_goto, zw_if_eq, zw_if_ne, zw_if_lt, zw_if_ge, zw_if_gt, zw_if_le, zw_ic_eq, zw_ic_ne, zw_ic_lt, zw_ic_ge, zw_ic_gt, zw_ic_le, zw_ifnn, zw_ifnnN, zw_tsw, zw_lsw, zw_getf_l, zw_getf_r, zw_getf_i, zw_getf_z, zw_putf_i, zw_putf_z, zw_putf_l, zw_putf_r, zw_iaload, zw_caload, zw_laload, zw_aaload, zw_iastore, zw_castore, zw_lastore, zw_aastore, zw_alen, zw_newa, zw_newq, zw_new, zw_oini, zw_invs, zw_invv, zw_copy, zw_invt, zw_iret, zw_lret, zw_ret, zc_r, zc_a, zk_rvs, zk_cat2, List.getElem?_cons_zero, List.getElem?_cons_succ, Bool.false_eq_true, and_false, false_and, and_true, true_and, reduceIte, Nat.reduceEqDiff, Nat.reduceLT, Nat.reduceAdd, List.cons_append, List.nil_append, Option.toList_some, Option.toList_none, zk_cat_i, zk_cat_r, zk_cat_n, zk_same, Option.some.injEq, Value.int.injEq, Value.long.injEq, eq_self, false_implies, true_implies, zf_12, ho, hP2, zl_M, zc_n10, zc_cl, zc_in, not_true_eq_false, not_false_eq_true, (show ((1 : Int32) = 0) = False from by decide)]
    exact loop 10 0 _ M5 _ hres (by omega) (Nat.two_pow_pos _) (by omega) l4 hD5 hF5 hg5 hr5
  · rw [if_neg e307] at hres
    obtain ⟨rfl, l4, -⟩ := l2 e307
    simp only [zk_ldi_s, zk_ldl_s, zk_lda_r, zk_lda_a, zk_lda_n, zk_iv_s, zr_nil, zr_cons, zp_0, zp_s, zt_0, zt_s, zt2_0, zt2_s, zw_iconst, zw_bipush, zw_sipush, zw_lconst, zw_ldcs, zw_ldc, zw_ldcw, zw_ldc2, zw_iload_n, zw_lload_n, zw_aload_n, zw_istore_n, zw_lstore_n, zw_astore_n, zw_astoreN_n, zw_iload, zw_lload, zw_aload, zw_istore, zw_lstore, zw_astore, zw_astoreN, zw_iinc, zw_iadd, zw_isub, zw_imul, zw_iand, zw_ior, zw_ixor, zw_ishl, zw_ishr, zw_iushr, zw_idiv, zw_irem, zw_ladd, zw_lsub, zw_lmul, zw_land, zw_ldiv, zw_lrem, zw_lcmp, zw_i2l, zw_l2i, zw_dup, zw_pop, zw_dup2i, zw_goto, zw_if_eq, zw_if_ne, zw_if_lt, zw_if_ge, zw_if_gt, zw_if_le, zw_ic_eq, zw_ic_ne, zw_ic_lt, zw_ic_ge, zw_ic_gt, zw_ic_le, zw_ifnn, zw_ifnnN, zw_tsw, zw_lsw, zw_getf_l, zw_getf_r, zw_getf_i, zw_getf_z, zw_putf_i, zw_putf_z, zw_putf_l, zw_putf_r, zw_iaload, zw_caload, zw_laload, zw_aaload, zw_iastore, zw_castore, zw_lastore, zw_aastore, zw_alen, zw_newa, zw_newq, zw_new, zw_oini, zw_invs, zw_invv, zw_copy, zw_invt, zw_iret, zw_lret, zw_ret, zc_r, zc_a, zk_rvs, zk_cat2, List.getElem?_cons_zero, List.getElem?_cons_succ, Bool.false_eq_true, and_false, false_and, and_true, true_and, reduceIte, Nat.reduceEqDiff, Nat.reduceLT, Nat.reduceAdd, List.cons_append, List.nil_append, Option.toList_some, Option.toList_none, zk_cat_i, zk_cat_r, zk_cat_n, zk_same, Option.some.injEq, Value.int.injEq, Value.long.injEq, eq_self, false_implies, true_implies, zf_12, ho, hP2, zl_M, zc_n10, zc_cl, zc_in, not_true_eq_false, not_false_eq_true]
    exact fin M5 _ 0 q3 (Or.inl hres.symm) (Nat.le_refl _) l4 hD5 hF5 hg5 hr5
end MS3
