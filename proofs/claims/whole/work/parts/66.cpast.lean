/-! ===== the class: what is kept ===== -/
def B_X3_init_0 : List zk_I := [(.aload_n 0, 1, 0, 0, 0, 0, []), (.invokespecial 3, 3, 0, 0, 0, 99, []), (.aload_n 0, 1, 0, 0, 0, 0, []), (.bipush 6, 2, 6, 0, 0, 0, []), (.newarray .int, 2, 0, 0, 0, 20, []), (.putfield 9, 3, 0, 3, 0, 0, []), (.aload_n 0, 1, 0, 0, 0, 0, []), (.bipush 60, 2, 60, 0, 0, 0, []), (.newarray .int, 2, 0, 0, 0, 20, []), (.putfield 15, 3, 0, 3, 1, 0, []), (.aload_n 0, 1, 0, 0, 0, 0, []), (.bipush 60, 2, 60, 0, 0, 0, []), (.newarray .int, 2, 0, 0, 0, 20, []), (.putfield 18, 3, 0, 3, 2, 0, []), (.aload_n 0, 1, 0, 0, 0, 0, []), (.bipush 10, 2, 10, 0, 0, 0, []), (.newarray .int, 2, 0, 0, 0, 20, []), (.putfield 21, 3, 0, 3, 3, 0, []), (.aload_n 0, 1, 0, 0, 0, 0, []), (.bipush 10, 2, 10, 0, 0, 0, []), (.newarray .int, 2, 0, 0, 0, 20, []), (.putfield 24, 3, 0, 3, 4, 0, []), (.aload_n 0, 1, 0, 0, 0, 0, []), (.iconst 0, 1, 0, 0, 0, 0, []), (.putfield 27, 3, 0, 3, 5, 0, []), (.return_, 1, 0, 0, 0, 0, [])]
theorem k_X3_init_0 : zk_ckb 3 true (zk_m 43) B_X3_init_0 0 = true := by decide +kernel
def B_X11_remember_0 : List zk_I := [(.aload_n 0, 1, 0, 0, 0, 0, []), (.getfield 126, 3, 0, 11, 13, 0, []), (.bipush 20, 2, 20, 0, 0, 0, []), (.if_icmp .ne 26, 3, 0, 32, 0, 0, []), (.aload_n 0, 1, 0, 0, 0, 0, []), (.aload_n 0, 1, 0, 0, 0, 0, []), (.getfield 291, 3, 0, 11, 12, 0, []), (.iconst 1, 1, 1, 0, 0, 0, []), (.iadd, 1, 0, 0, 0, 0, []), (.bipush 20, 2, 20, 0, 0, 0, []), (.irem, 1, 0, 0, 0, 0, []), (.putfield 291, 3, 0, 11, 12, 0, []), (.aload_n 0, 1, 0, 0, 0, 0, []), (.dup, 1, 0, 0, 0, 0, []), (.getfield 126, 3, 0, 11, 13, 0, []), (.iconst 1, 1, 1, 0, 0, 0, []), (.isub, 1, 0, 0, 0, 0, []), (.putfield 126, 3, 0, 11, 13, 0, [])]
theorem k_X11_remember_0 : zk_ckb 11 false (zk_m 148) B_X11_remember_0 0 = true := by decide +kernel
def B_X11_remember_32 : List zk_I := [(.aload_n 0, 1, 0, 0, 0, 0, []), (.getfield 291, 3, 0, 11, 12, 0, []), (.aload_n 0, 1, 0, 0, 0, 0, []), (.getfield 126, 3, 0, 11, 13, 0, []), (.iadd, 1, 0, 0, 0, 0, []), (.bipush 20, 2, 20, 0, 0, 0, []), (.irem, 1, 0, 0, 0, 0, []), (.istore_n 1, 1, 0, 1, 0, 0, []), (.aload_n 0, 1, 0, 0, 0, 0, []), (.getfield 76, 3, 0, 11, 7, 0, []), (.iload_n 1, 1, 0, 1, 0, 0, []), (.aaload, 1, 0, 0, 0, 0, []), (.astore_n 2, 1, 0, 2, 0, 0, []), (.aload_n 2, 1, 0, 2, 0, 0, []), (.ifnonnull 18, 3, 0, 71, 0, 0, []), (.new 69, 3, 0, 3, 0, 0, []), (.dup, 1, 0, 0, 0, 0, []), (.invokespecial 71, 3, 0, 1, 43, 3, []), (.astore_n 2, 1, 0, 2, 0, 0, []), (.aload_n 0, 1, 0, 0, 0, 0, []), (.getfield 76, 3, 0, 11, 7, 0, []), (.iload_n 1, 1, 0, 1, 0, 0, []), (.aload_n 2, 1, 0, 2, 0, 0, []), (.aastore, 1, 0, 0, 0, 0, [])]
theorem k_X11_remember_32 : zk_ckb 11 false (zk_m 148) B_X11_remember_32 32 = true := by decide +kernel
def B_X11_remember_71 : List zk_I := [(.aload_n 2, 1, 0, 2, 0, 0, []), (.aload_n 0, 1, 0, 0, 0, 0, []), (.getfield 72, 3, 0, 11, 6, 0, []), (.invokevirtual 294, 3, 0, 2, 44, 3, []), (.aload_n 0, 1, 0, 0, 0, 0, []), (.dup, 1, 0, 0, 0, 0, []), (.getfield 126, 3, 0, 11, 13, 0, []), (.iconst 1, 1, 1, 0, 0, 0, []), (.iadd, 1, 0, 0, 0, 0, []), (.putfield 126, 3, 0, 11, 13, 0, []), (.return_, 1, 0, 0, 0, 0, [])]
theorem k_X11_remember_71 : zk_ckb 11 false (zk_m 148) B_X11_remember_71 71 = true := by decide +kernel
def B_X11_undo_0 : List zk_I := [(.aload_n 0, 1, 0, 0, 0, 0, []), (.getfield 291, 3, 0, 11, 12, 0, []), (.aload_n 0, 1, 0, 0, 0, 0, []), (.getfield 126, 3, 0, 11, 13, 0, []), (.iadd, 1, 0, 0, 0, 0, []), (.iconst 1, 1, 1, 0, 0, 0, []), (.isub, 1, 0, 0, 0, 0, []), (.bipush 20, 2, 20, 0, 0, 0, []), (.iadd, 1, 0, 0, 0, 0, []), (.bipush 20, 2, 20, 0, 0, 0, []), (.irem, 1, 0, 0, 0, 0, []), (.istore_n 1, 1, 0, 1, 0, 0, []), (.aload_n 0, 1, 0, 0, 0, 0, []), (.getfield 126, 3, 0, 11, 13, 0, []), (.ifCond .eq 12, 3, 0, 34, 0, 0, []), (.aload_n 0, 1, 0, 0, 0, 0, []), (.getfield 76, 3, 0, 11, 7, 0, []), (.iload_n 1, 1, 0, 1, 0, 0, []), (.aaload, 1, 0, 0, 0, 0, []), (.ifnonnull 11, 3, 0, 42, 0, 0, [])]
theorem k_X11_undo_0 : zk_ckb 11 false (zk_m 139) B_X11_undo_0 0 = true := by decide +kernel
def B_X11_undo_34 : List zk_I := [(.aload_n 0, 1, 0, 0, 0, 0, []), (.iconst 4, 1, 4, 0, 0, 0, []), (.invokevirtual 107, 3, 0, 2, 146, 11, []), (.pop, 1, 0, 0, 0, 0, []), (.iconst 0, 1, 0, 0, 0, 0, []), (.ireturn, 1, 0, 1, 0, 0, [])]
theorem k_X11_undo_34 : zk_ckb 11 false (zk_m 139) B_X11_undo_34 34 = true := by decide +kernel
def B_X11_undo_42 : List zk_I := [(.aload_n 0, 1, 0, 0, 0, 0, []), (.getfield 72, 3, 0, 11, 6, 0, []), (.aload_n 0, 1, 0, 0, 0, 0, []), (.getfield 76, 3, 0, 11, 7, 0, []), (.iload_n 1, 1, 0, 1, 0, 0, []), (.aaload, 1, 0, 0, 0, 0, []), (.invokevirtual 294, 3, 0, 2, 44, 3, []), (.aload_n 0, 1, 0, 0, 0, 0, []), (.dup, 1, 0, 0, 0, 0, []), (.getfield 126, 3, 0, 11, 13, 0, []), (.iconst 1, 1, 1, 0, 0, 0, []), (.isub, 1, 0, 0, 0, 0, []), (.putfield 126, 3, 0, 11, 13, 0, []), (.iconst 1, 1, 1, 0, 0, 0, []), (.ireturn, 1, 0, 1, 0, 0, [])]
theorem k_X11_undo_42 : zk_ckb 11 false (zk_m 139) B_X11_undo_42 42 = true := by decide +kernel
theorem zl_mom {k : Nat} (hk : k < 20) : zk_lay (154 + 6 * k) = (3, 0) ∧ zk_lay (154 + 6 * k + 1) = (20, 6) ∧ zk_lay (154 + 6 * k + 2) = (20, 60) ∧ zk_lay (154 + 6 * k + 3) = (20, 60) ∧ zk_lay (154 + 6 * k + 4) = (20, 10) ∧ zk_lay (154 + 6 * k + 5) = (20, 10) := by
  have h : ∀ k, k < 20 → zk_lay (154 + 6 * k) = (3, 0) ∧ zk_lay (154 + 6 * k + 1) = (20, 6) ∧ zk_lay (154 + 6 * k + 2) = (20, 60) ∧ zk_lay (154 + 6 * k + 3) = (20, 60) ∧ zk_lay (154 + 6 * k + 4) = (20, 10) ∧ zk_lay (154 + 6 * k + 5) = (20, 10) := by decide +kernel
  exact h k hk
section CPa
variable {G : zk_G} {n : Nat} {M : zk_MI} {L : zk_ML} {P : zk_MP}
theorem zk_rvn : zk_rv none = .null := rfl
theorem zk_row_at {α : Type} {M : Nat → Nat → α} {p : Nat} {f : Nat → α} : zk_row M p f p = f := by simp [zk_row]
theorem ct_newMoment (p : Nat) (hl : zk_lay p = (3, 0) ∧ zk_lay (p + 1) = (20, 6) ∧ zk_lay (p + 2) = (20, 60) ∧ zk_lay (p + 3) = (20, 60) ∧ zk_lay (p + 4) = (20, 10) ∧ zk_lay (p + 5) = (20, 10)) :
    zk_C G 1 43 [.ref p] (p + 1) M L P (p + 6) (fun r M' L' P' => r = none ∧ zm_ok (p + 6) P' p ∧ (∀ q, q < p → M' q = M q ∧ L' q = L q) ∧ (∀ q, q ≠ p → P' q = P q) ∧ (∀ j, j ≠ 5 → M' p j = M p j) ∧ M' p 5 = 0 ∧ ∀ k, M' (p + 1) k = 0 ∧ M' (p + 2) k = 0 ∧ M' (p + 3) k = 0 ∧ M' (p + 4) k = 0 ∧ M' (p + 5) k = 0) := by
  obtain ⟨l0, l1, l2, l3, l4, l5⟩ := hl
  refine zk_meth (ow := 3) (kind := 2) (k := 0) (nL := 1) (ct := true) (l0 := [.ref p]) (by decide +kernel) (fun _ => by decide +kernel) (by decide +kernel) (by decide) (by decide) (fun h => absurd h (by decide)) (Nat.le_of_ble_eq_true rfl) rfl (by omega) (fun Z hZ => ?_)
  have o : ∀ m, p < m → zk_ok m p 3 := fun m hm => ⟨hm, by rw [l0]⟩
  refine hZ B_X3_init_0 _ _ _ _ _ _ _ k_X3_init_0 ?_
  simp only [B_X3_init_0, zk_ldi_s, zk_ldl_s, zk_lda_r, zk_lda_a, zk_lda_n, zk_iv_s, zr_nil, zr_cons, zp_0, zp_s, zt_0, zt_s, zt2_0, zt2_s, zw_iconst, zw_bipush, zw_sipush, zw_lconst, zw_ldcs, zw_ldc, zw_ldcw, zw_ldc2, zw_iload_n, zw_lload_n, zw_aload_n, zw_istore_n, zw_lstore_n, zw_astore_n, zw_astoreN_n, zw_iload, zw_lload, zw_aload, zw_istore, zw_lstore, zw_astore, zw_astoreN, zw_iinc, zw_iadd, zw_isub, zw_imul, zw_iand, zw_ior, zw_ixor, zw_ishl, zw_ishr, zw_iushr, zw_idiv, zw_irem, zw_ladd, zw_lsub, zw_lmul, zw_land, zw_ldiv, zw_lrem, zw_lcmp, zw_i2l, zw_l2i, zw_dup, zw_pop, zw_dup2i, zw_goto, zw_if_eq, zw_if_ne, zw_if_lt, zw_if_ge, zw_if_gt, zw_if_le, zw_ic_eq, zw_ic_ne, zw_ic_lt, zw_ic_ge, zw_ic_gt, zw_ic_le, zw_ifnn, zw_ifnnN, zw_tsw, zw_lsw, zw_getf_l, zw_getf_r, zw_getf_i, zw_getf_z, zw_putf_i, zw_putf_z, zw_putf_l, zw_putf_r, zw_iaload, zw_caload, zw_laload, zw_aaload, zw_iastore, zw_castore, zw_lastore, zw_aastore, zw_alen, zw_newa, zw_newq, zw_new, zw_oini, zw_invs, zw_invv, zw_copy, zw_invt, zw_iret, zw_lret, zw_ret, zc_r, zc_a, zk_rvs, zk_cat2, List.getElem?_cons_zero, List.getElem?_cons_succ, Bool.false_eq_true, and_false, false_and, and_true, true_and, reduceIte, Nat.reduceEqDiff, Nat.reduceLT, Nat.reduceAdd, List.cons_append, List.nil_append, Option.toList_some, Option.toList_none, zk_cat_i, zk_cat_r, zk_cat_n, zk_same, Option.some.injEq, Value.int.injEq, Value.long.injEq, eq_self, false_implies, true_implies, zf_3, o (p + 1) (by omega), o (p + 1 + 1) (by omega), o (p + 1 + 1 + 1) (by omega), o (p + 1 + 1 + 1 + 1) (by omega), o (p + 1 + 1 + 1 + 1 + 1) (by omega), o (p + 1 + 1 + 1 + 1 + 1 + 1) (by omega)]
  refine ⟨by decide, by decide, by omega, by decide, l1, by decide, by omega, by decide, l2, by decide, by omega, by decide, l3, by decide, by omega, by decide, l4, by decide, by omega, by decide, l5, by decide, ?_, fun q hq => ⟨?_, ?_⟩, fun q hq => ?_, fun j hj => ?_, zk_up_at, fun k => ⟨?_, ?_, ?_, ?_, ?_⟩⟩
  · refine ⟨⟨by omega, by rw [l0]⟩, ⟨by omega, by rw [l1]⟩, ⟨by omega, by rw [l2]⟩, ⟨by omega, by rw [l3]⟩, ⟨by omega, by rw [l4]⟩, ⟨by omega, by rw [l5]⟩, l1, l2, l3, l4, l5, ?_, ?_, ?_, ?_, zk_up_at⟩
    · rw [zk_up_ne (by omega), zk_up_ne (by omega), zk_up_ne (by omega), zk_up_ne (by omega), zk_up_at]
    · rw [zk_up_ne (by omega), zk_up_ne (by omega), zk_up_ne (by omega), zk_up_at]
    · rw [zk_up_ne (by omega), zk_up_ne (by omega), zk_up_at]
    · rw [zk_up_ne (by omega), zk_up_at]
  · rw [zk_up_row (by omega), zk_row_ne (by omega), zk_row_ne (by omega), zk_row_ne (by omega), zk_row_ne (by omega), zk_row_ne (by omega)]
  · rw [zk_row_ne (by omega), zk_row_ne (by omega), zk_row_ne (by omega), zk_row_ne (by omega), zk_row_ne (by omega)]
  · rw [zk_up_row hq, zk_up_row hq, zk_up_row hq, zk_up_row hq, zk_up_row hq]
  · rw [zk_up_ne (by omega), zk_row_ne (by omega), zk_row_ne (by omega), zk_row_ne (by omega), zk_row_ne (by omega), zk_row_ne (by omega)]
  · rw [zk_up_row (by omega), zk_row_ne (by omega), zk_row_ne (by omega), zk_row_ne (by omega), zk_row_ne (by omega), zk_row_at]
  · rw [zk_up_row (by omega), zk_row_ne (by omega), zk_row_ne (by omega), zk_row_ne (by omega), zk_row_at]
  · rw [zk_up_row (by omega), zk_row_ne (by omega), zk_row_ne (by omega), zk_row_at]
  · rw [zk_up_row (by omega), zk_row_ne (by omega), zk_row_at]
  · rw [zk_up_row (by omega), zk_row_at]
theorem zs_X_cg {P P2 : zk_MP} (h : zs_X P) (hq : ∀ q, q < 154 → q ≠ 46 → P2 q = P q) : zs_X P2 := by
  unfold zs_X at *
  rw [hq 0 (by decide) (by decide), hq 1 (by decide) (by decide), hq 5 (by decide) (by decide), hq 7 (by decide) (by decide), hq 8 (by decide) (by decide), hq 10 (by decide) (by decide), hq 11 (by decide) (by decide), hq 12 (by decide) (by decide), hq 14 (by decide) (by decide), hq 15 (by decide) (by decide), hq 21 (by decide) (by decide), hq 27 (by decide) (by decide), hq 33 (by decide) (by decide), hq 40 (by decide) (by decide), hq 49 (by decide) (by decide), hq 50 (by decide) (by decide), hq 52 (by decide) (by decide), hq 54 (by decide) (by decide), hq 64 (by decide) (by decide), hq 65 (by decide) (by decide), hq 67 (by decide) (by decide), hq 69 (by decide) (by decide)]
  exact h
/-- what is kept -/
def zx_past (n : Nat) (M : zk_MI) (P : zk_MP) (pl : List sp_S) : Prop := ∃ a pf, n = 154 + 6 * a ∧ a ≤ 20 ∧ pf < 20 ∧ (a < 20 → pf = 0) ∧ pl.length ≤ a ∧ M 0 12 = nI pf ∧ M 0 13 = nI pl.length ∧ (∀ k, k < 20 → P 46 k = if k < a then some (154 + 6 * k) else none) ∧ (∀ k, k < a → zm_ok n P (154 + 6 * k)) ∧ ∀ i s, pl[i]? = some s → zm_rep M (154 + 6 * ((pf + pl.length + 19 - i) % 20)) s
theorem zm_ok_mono {n n' : Nat} {P P' : zk_MP} {b : Nat} (h : zm_ok n P b) (hn : n ≤ n') (hP : P' b = P b) : zm_ok n' P' b := by
  unfold zm_ok at *
  obtain ⟨h1, h2, h3, h4, h5, h6, h7⟩ := h
  rw [hP]
  exact ⟨⟨Nat.lt_of_lt_of_le h1.1 hn, h1.2⟩, ⟨Nat.lt_of_lt_of_le h2.1 hn, h2.2⟩, ⟨Nat.lt_of_lt_of_le h3.1 hn, h3.2⟩, ⟨Nat.lt_of_lt_of_le h4.1 hn, h4.2⟩, ⟨Nat.lt_of_lt_of_le h5.1 hn, h5.2⟩, ⟨Nat.lt_of_lt_of_le h6.1 hn, h6.2⟩, h7⟩
/-- what remembering leaves: all below 154 but the count and the row -/
def zxR (n n2 : Nat) (M M2 : zk_MI) (L L2 : zk_ML) (P P2 : zk_MP) : Prop := n ≤ n2 ∧ n2 ≤ 274 ∧ (∀ q, q < 154 → q ≠ 0 → M2 q = M q) ∧ (∀ j, j ≠ 12 → j ≠ 13 → M2 0 j = M 0 j) ∧ (∀ q, q < 154 → L2 q = L q) ∧ ∀ q, q < 154 → q ≠ 46 → P2 q = P q
theorem ct_remember (hn : 154 ≤ n) (hP : zs_X P) {s : sp_S} (hs : zm_rep M 40 s) {pl : List sp_S} (hp : zx_past n M P pl) :
    ∃ n2, zk_C G 3 148 [.ref 0] n M L P n2 (fun r M' L' P' => r = none ∧ zxR n n2 M M' L L' P P' ∧ zx_past n2 M' P' (sp_keepL s pl)) := by
  obtain ⟨a, pf, p1, p2, p3, p4, p5, p6, p7, p8, p9, p10⟩ := hp
  subst p1
  have hmod : ∀ k, k < 100 → nI k - nI k / 20 * 20 = nI (k % 20) := fun k hk => by
    rw [fa_lit 20, pk_div (by omega) (by omega) (by omega), pk_mul, pk_sub (by omega)]
    congr 1
    omega
  have hKl : (sp_keepL s pl).length = if 20 ≤ pl.length then pl.length else pl.length + 1 := by
    unfold sp_keepL
    simp only [List.length_take, List.length_cons]
    split <;> omega
  /- behind the place of the new one: f its number -/
  have tail : ∀ (Z : zk_K) (n2 : Nat) (M2 : zk_MI) (L2 : zk_ML) (P2 : zk_MP) (a2 pf2 c2 f : Nat), zk_St G (zk_m 148) 11 false 3 n2 (fun r M' L' P' => r = none ∧ zxR (154 + 6 * a) n2 M M' L L' P P' ∧ zx_past n2 M' P' (sp_keepL s pl)) Z → n2 = 154 + 6 * a2 → a ≤ a2 → a2 ≤ 20 → pf2 < 20 → (a2 < 20 → pf2 = 0) → c2 + 1 = (sp_keepL s pl).length → c2 + 1 ≤ a2 → f < a2 → f = (pf2 + c2) % 20 → M2 0 12 = nI pf2 → M2 0 13 = nI c2 → (∀ k, k < 20 → P2 46 k = if k < a2 then some (154 + 6 * k) else none) → (∀ k, k < a2 → zm_ok n2 P2 (154 + 6 * k)) → (∀ i s', i < c2 → pl[i]? = some s' → zm_rep M2 (154 + 6 * ((pf2 + c2 + 19 - i) % 20)) s') → (∀ q, q < 154 → q ≠ 0 → M2 q = M q) → (∀ j, j ≠ 12 → j ≠ 13 → M2 0 j = M 0 j) → (∀ q, q < 154 → L2 q = L q) → (∀ q, q < 154 → q ≠ 46 → P2 q = P q) → Z 71 [.ref 0, .int (nI f), .ref (154 + 6 * f)] [] n2 M2 L2 P2 := by
    intro Z n2 M2 L2 P2 a2 pf2 c2 f hZ t1 t2 t3 t4 t5 t6 t7 t8 t9 t10 t11 t12 t13 t14 t15 t16 t17 t18
    have hn2 : 154 ≤ n2 := by omega
    have hP2z : zs_X P2 := zs_X_cg hP t18
    have ho := zo_X hn2
    have hP2 := hP2z
    unfold zs_X at hP2
    have hb2 := (zm_15 hn2 hP2z).2.2.2.2
    have hs2 : zm_rep M2 40 s := zm_rep_fr hs (fun q q1 q2 => t15 q (by omega) (by omega))
    have hzf := (t13 f t8).1
    refine hZ B_X11_remember_71 _ _ _ _ _ _ _ k_X11_remember_71 ?_
    simp only [B_X11_remember_71, zk_ldi_s, zk_ldl_s, zk_lda_r, zk_lda_a, zk_lda_n, zk_iv_s, zr_nil, zr_cons, zp_0, zp_s, zt_0, zt_s, zt2_0, zt2_s, zw_iconst, zw_bipush, zw_sipush, zw_lconst, zw_ldcs, zw_ldc, zw_ldcw, zw_ldc2, zw_iload_n, zw_lload_n, zw_aload_n, zw_istore_n, zw_lstore_n, zw_astore_n, zw_astoreN_n, zw_iload, zw_lload, zw_aload, zw_istore, zw_lstore, zw_astore, zw_astoreN, zw_iinc, zw_iadd, zw_isub, zw_imul, zw_iand, zw_ior, zw_ixor, zw_ishl, zw_ishr, zw_iushr, zw_idiv, zw_irem, zw_ladd, zw_lsub, zw_lmul, zw_land, zw_ldiv, zw_lrem, zw_lcmp, zw_i2l, zw_l2i, zw_dup, zw_pop, zw_dup2i, zw_goto, zw_if_eq, zw_if_ne, zw_if_lt, zw_if_ge, zw_if_gt, zw_if_le, zw_ic_eq, zw_ic_ne, zw_ic_lt, zw_ic_ge, zw_ic_gt, zw_ic_le, zw_ifnn, zw_ifnnN, zw_tsw, zw_lsw, zw_getf_l, zw_getf_r, zw_getf_i, zw_getf_z, zw_putf_i, zw_putf_z, zw_putf_l, zw_putf_r, zw_iaload, zw_caload, zw_laload, zw_aaload, zw_iastore, zw_castore, zw_lastore, zw_aastore, zw_alen, zw_newa, zw_newq, zw_new, zw_oini, zw_invs, zw_invv, zw_copy, zw_invt, zw_iret, zw_lret, zw_ret, zc_r, zc_a, zk_rvs, zk_cat2, List.getElem?_cons_zero, List.getElem?_cons_succ, Bool.false_eq_true, and_false, false_and, and_true, true_and, reduceIte, Nat.reduceEqDiff, Nat.reduceLT, Nat.reduceAdd, List.cons_append, List.nil_append, Option.toList_some, Option.toList_none, zk_cat_i, zk_cat_r, zk_cat_n, zk_same, Option.some.injEq, Value.int.injEq, Value.long.injEq, eq_self, false_implies, true_implies, zf_11, ho, hP2, zl_X, zc_n10, zc_cl, zc_in, not_true_eq_false, not_false_eq_true, hzf]
    refine zk_callI (ct_copy hn2 (t13 f t8) hb2 (by omega) hs2) (by first | decide | omega) (Nat.le_refl _) (Nat.le_of_ble_eq_true rfl) (fun r M3 L9 P9 hpost => ?_)
    obtain ⟨rfl, hL9, hP9, k1, k2⟩ := hpost
    have hL8 := hL9.symm
    have hP8 := hP9.symm
    subst hL8
    subst hP8
    have e13 : M3 0 13 = nI c2 := by rw [k2 0 (by omega)]; exact t11
    simp only [zk_ldi_s, zk_ldl_s, zk_lda_r, zk_lda_a, zk_lda_n, zk_iv_s, zr_nil, zr_cons, zp_0, zp_s, zt_0, zt_s, zt2_0, zt2_s, zw_iconst, zw_bipush, zw_sipush, zw_lconst, zw_ldcs, zw_ldc, zw_ldcw, zw_ldc2, zw_iload_n, zw_lload_n, zw_aload_n, zw_istore_n, zw_lstore_n, zw_astore_n, zw_astoreN_n, zw_iload, zw_lload, zw_aload, zw_istore, zw_lstore, zw_astore, zw_astoreN, zw_iinc, zw_iadd, zw_isub, zw_imul, zw_iand, zw_ior, zw_ixor, zw_ishl, zw_ishr, zw_iushr, zw_idiv, zw_irem, zw_ladd, zw_lsub, zw_lmul, zw_land, zw_ldiv, zw_lrem, zw_lcmp, zw_i2l, zw_l2i, zw_dup, zw_pop, zw_dup2i, zw_goto, zw_if_eq, zw_if_ne, zw_if_lt, zw_if_ge, zw_if_gt, zw_if_le, zw_ic_eq, zw_ic_ne, zw_ic_lt, zw_ic_ge, zw_ic_gt, zw_ic_le, zw_ifnn, zw_ifnnN, zw_tsw, zw_lsw, zw_getf_l, zw_getf_r, zw_getf_i, zw_getf_z, zw_putf_i, zw_putf_z, zw_putf_l, zw_putf_r, zw_iaload, zw_caload, zw_laload, zw_aaload, zw_iastore, zw_castore, zw_lastore, zw_aastore, zw_alen, zw_newa, zw_newq, zw_new, zw_oini, zw_invs, zw_invv, zw_copy, zw_invt, zw_iret, zw_lret, zw_ret, zc_r, zc_a, zk_rvs, zk_cat2, List.getElem?_cons_zero, List.getElem?_cons_succ, Bool.false_eq_true, and_false, false_and, and_true, true_and, reduceIte, Nat.reduceEqDiff, Nat.reduceLT, Nat.reduceAdd, List.cons_append, List.nil_append, Option.toList_some, Option.toList_none, zk_cat_i, zk_cat_r, zk_cat_n, zk_same, Option.some.injEq, Value.int.injEq, Value.long.injEq, eq_self, false_implies, true_implies, zf_11, ho, hP2, zl_X, zc_n10, zc_cl, zc_in, not_true_eq_false, not_false_eq_true, e13, nI_1]
    have hrow : ∀ q, q ≠ 0 → zk_up M3 0 13 (nI (c2 + 1)) q = M3 q := fun q hq => zk_up_row hq
    refine ⟨⟨by omega, by omega, fun q q1 q2 => ?_, fun j j1 j2 => ?_, t17, t18⟩, a2, pf2, t1, t3, t4, t5, by omega, ?_, ?_, t12, t13, fun i s' hi => ?_⟩
    · rw [hrow q q2, k2 q (by omega)]; exact t15 q q1 q2
    · rw [zk_up_ne (by omega), k2 0 (by omega)]; exact t16 j j1 j2
    · rw [zk_up_ne (by decide), k2 0 (by omega)]; exact t10
    · rw [zk_up_at, t6]
    · have hil := (List.getElem?_eq_some_iff.mp hi).1
      unfold sp_keepL at hi
      rw [List.getElem?_take, if_pos (by omega)] at hi
      rw [← t6]
      cases i with
      | zero =>
        simp at hi
        subst hi
        rw [show (pf2 + (c2 + 1) + 19 - 0) % 20 = f by omega]
        exact zm_rep_fr k1 (fun q q1 q2 => hrow q (by omega))
      | succ i =>
        simp only [List.getElem?_cons_succ] at hi
        have h9 := t14 i s' (by omega) hi
        rw [show (pf2 + c2 + 19 - i) % 20 = (pf2 + (c2 + 1) + 19 - (i + 1)) % 20 by omega] at h9
        have hne : (pf2 + (c2 + 1) + 19 - (i + 1)) % 20 ≠ f := by omega
        generalize (pf2 + (c2 + 1) + 19 - (i + 1)) % 20 = e at h9 hne ⊢
        exact zm_rep_fr h9 (fun q q1 q2 => by rw [hrow q (by omega)]; exact k2 q (by omega))
  have hPz : ∀ {P2 : zk_MP}, (∀ q, q < 154 → q ≠ 46 → P2 q = P q) → P2 0 7 = some 46 := fun h => by rw [h 0 (by decide) (by decide)]; exact hP.2.2.2.2.2.2.2.1
  by_cases hal : a < 20 ∧ pl.length = a
  · /- a new one -/
    have hpf : pf = 0 := p4 hal.1
    subst hpf
    refine ⟨154 + 6 * a + 6, ?_⟩
    have hmom := zl_mom hal.1
    refine zk_meth (ow := 11) (kind := 1) (k := 0) (nL := 3) (ct := false) (l0 := [.ref 0, zk_un, zk_un]) (by decide +kernel) (fun h => by cases h) (by decide +kernel) (by decide) (by decide) (fun h => absurd h (by decide)) (Nat.le_of_ble_eq_true rfl) rfl (by omega) (fun Z hZ => ?_)
    have ho := zo_X hn
    have hP2 := hP
    unfold zs_X at hP2
    have e20 : (nI pl.length = (20 : Int32)) = False := by rw [fa_lit 20, zn_eq (by omega) (by omega)]; simp; omega
    refine hZ B_X11_remember_0 _ _ _ _ _ _ _ k_X11_remember_0 ?_
    simp only [B_X11_remember_0, zk_ldi_s, zk_ldl_s, zk_lda_r, zk_lda_a, zk_lda_n, zk_iv_s, zr_nil, zr_cons, zp_0, zp_s, zt_0, zt_s, zt2_0, zt2_s, zw_iconst, zw_bipush, zw_sipush, zw_lconst, zw_ldcs, zw_ldc, zw_ldcw, zw_ldc2, zw_iload_n, zw_lload_n, zw_aload_n, zw_istore_n, zw_lstore_n, zw_astore_n, zw_astoreN_n, zw_iload, zw_lload, zw_aload, zw_istore, zw_lstore, zw_astore, zw_astoreN, zw_iinc, zw_iadd, zw_isub, zw_imul, zw_iand, zw_ior, zw_ixor, zw_ishl, zw_ishr, zw_iushr, zw_idiv, zw_irem, zw_ladd, zw_lsub, zw_lmul, zw_land, zw_ldiv, zw_lrem, zw_lcmp, zw_i2l, zw_l2i, zw_dup, zw_pop, zw_dup2i, zw_goto, zw_if_eq, zw_if_ne, zw_if_lt, zw_if_ge, zw_if_gt, zw_if_le, zw_ic_eq, zw_ic_ne, zw_ic_lt, zw_ic_ge, zw_ic_gt, zw_ic_le, zw_ifnn, zw_ifnnN, zw_tsw, zw_lsw, zw_getf_l, zw_getf_r, zw_getf_i, zw_getf_z, zw_putf_i, zw_putf_z, zw_putf_l, zw_putf_r, zw_iaload, zw_caload, zw_laload, zw_aaload, zw_iastore, zw_castore, zw_lastore, zw_aastore, zw_alen, zw_newa, zw_newq, zw_new, zw_oini, zw_invs, zw_invv, zw_copy, zw_invt, zw_iret, zw_lret, zw_ret, zc_r, zc_a, zk_rvs, zk_cat2, List.getElem?_cons_zero, List.getElem?_cons_succ, Bool.false_eq_true, and_false, false_and, and_true, true_and, reduceIte, Nat.reduceEqDiff, Nat.reduceLT, Nat.reduceAdd, List.cons_append, List.nil_append, Option.toList_some, Option.toList_none, zk_cat_i, zk_cat_r, zk_cat_n, zk_same, Option.some.injEq, Value.int.injEq, Value.long.injEq, eq_self, false_implies, true_implies, zf_11, ho, hP2, zl_X, zc_n10, zc_cl, zc_in, not_true_eq_false, not_false_eq_true, p7, e20]
    have ef : (0 + pl.length) % 20 = a := by omega
    have hPn : P 46 a = none := by rw [p8 a hal.1, if_neg (by omega)]
    refine hZ B_X11_remember_32 _ _ _ _ _ _ _ k_X11_remember_32 ?_
    simp only [B_X11_remember_32, zk_ldi_s, zk_ldl_s, zk_lda_r, zk_lda_a, zk_lda_n, zk_iv_s, zr_nil, zr_cons, zp_0, zp_s, zt_0, zt_s, zt2_0, zt2_s, zw_iconst, zw_bipush, zw_sipush, zw_lconst, zw_ldcs, zw_ldc, zw_ldcw, zw_ldc2, zw_iload_n, zw_lload_n, zw_aload_n, zw_istore_n, zw_lstore_n, zw_astore_n, zw_astoreN_n, zw_iload, zw_lload, zw_aload, zw_istore, zw_lstore, zw_astore, zw_astoreN, zw_iinc, zw_iadd, zw_isub, zw_imul, zw_iand, zw_ior, zw_ixor, zw_ishl, zw_ishr, zw_iushr, zw_idiv, zw_irem, zw_ladd, zw_lsub, zw_lmul, zw_land, zw_ldiv, zw_lrem, zw_lcmp, zw_i2l, zw_l2i, zw_dup, zw_pop, zw_dup2i, zw_goto, zw_if_eq, zw_if_ne, zw_if_lt, zw_if_ge, zw_if_gt, zw_if_le, zw_ic_eq, zw_ic_ne, zw_ic_lt, zw_ic_ge, zw_ic_gt, zw_ic_le, zw_ifnn, zw_ifnnN, zw_tsw, zw_lsw, zw_getf_l, zw_getf_r, zw_getf_i, zw_getf_z, zw_putf_i, zw_putf_z, zw_putf_l, zw_putf_r, zw_iaload, zw_caload, zw_laload, zw_aaload, zw_iastore, zw_castore, zw_lastore, zw_aastore, zw_alen, zw_newa, zw_newq, zw_new, zw_oini, zw_invs, zw_invv, zw_copy, zw_invt, zw_iret, zw_lret, zw_ret, zc_r, zc_a, zk_rvs, zk_cat2, List.getElem?_cons_zero, List.getElem?_cons_succ, Bool.false_eq_true, and_false, false_and, and_true, true_and, reduceIte, Nat.reduceEqDiff, Nat.reduceLT, Nat.reduceAdd, List.cons_append, List.nil_append, Option.toList_some, Option.toList_none, zk_cat_i, zk_cat_r, zk_cat_n, zk_same, Option.some.injEq, Value.int.injEq, Value.long.injEq, eq_self, false_implies, true_implies, zf_11, ho, hP2, zl_X, zc_n10, zc_cl, zc_in, not_true_eq_false, not_false_eq_true, p6, p7, nI_add, hmod (0 + pl.length) (by omega), ef, (show ¬ ((20 : Int32) = 0) from by decide), nI_clamp (show a < 2 ^ 31 by omega), vp_in_nI (show a < 20 by omega) (by omega), hPn, zk_rvn]
    refine ⟨by omega, by rw [hmom.1], ?_⟩
    have hz1 : zk_ok (154 + 6 * a + 1) (154 + 6 * a) 3 := ⟨by omega, by rw [hmom.1]⟩
    simp only [zk_ldi_s, zk_ldl_s, zk_lda_r, zk_lda_a, zk_lda_n, zk_iv_s, zr_nil, zr_cons, zp_0, zp_s, zt_0, zt_s, zt2_0, zt2_s, zw_iconst, zw_bipush, zw_sipush, zw_lconst, zw_ldcs, zw_ldc, zw_ldcw, zw_ldc2, zw_iload_n, zw_lload_n, zw_aload_n, zw_istore_n, zw_lstore_n, zw_astore_n, zw_astoreN_n, zw_iload, zw_lload, zw_aload, zw_istore, zw_lstore, zw_astore, zw_astoreN, zw_iinc, zw_iadd, zw_isub, zw_imul, zw_iand, zw_ior, zw_ixor, zw_ishl, zw_ishr, zw_iushr, zw_idiv, zw_irem, zw_ladd, zw_lsub, zw_lmul, zw_land, zw_ldiv, zw_lrem, zw_lcmp, zw_i2l, zw_l2i, zw_dup, zw_pop, zw_dup2i, zw_goto, zw_if_eq, zw_if_ne, zw_if_lt, zw_if_ge, zw_if_gt, zw_if_le, zw_ic_eq, zw_ic_ne, zw_ic_lt, zw_ic_ge, zw_ic_gt, zw_ic_le, zw_ifnn, zw_ifnnN, zw_tsw, zw_lsw, zw_getf_l, zw_getf_r, zw_getf_i, zw_getf_z, zw_putf_i, zw_putf_z, zw_putf_l, zw_putf_r, zw_iaload, zw_caload, zw_laload, zw_aaload, zw_iastore, zw_castore, zw_lastore, zw_aastore, zw_alen, zw_newa, zw_newq, zw_new, zw_oini, zw_invs, zw_invv, zw_copy, zw_invt, zw_iret, zw_lret, zw_ret, zc_r, zc_a, zk_rvs, zk_cat2, List.getElem?_cons_zero, List.getElem?_cons_succ, Bool.false_eq_true, and_false, false_and, and_true, true_and, reduceIte, Nat.reduceEqDiff, Nat.reduceLT, Nat.reduceAdd, List.cons_append, List.nil_append, Option.toList_some, Option.toList_none, zk_cat_i, zk_cat_r, zk_cat_n, zk_same, Option.some.injEq, Value.int.injEq, Value.long.injEq, eq_self, false_implies, true_implies, zf_11, ho, hP2, zl_X, zc_n10, zc_cl, zc_in, not_true_eq_false, not_false_eq_true, hz1]
    refine zk_callI (ct_newMoment (154 + 6 * a) hmom) (by first | decide | omega) (by omega) (Nat.le_of_ble_eq_true rfl) (fun r M2 L2 P2 hpost => ?_)
    obtain ⟨rfl, m1, m2, m3, m4, m5, m6⟩ := hpost
    have ho2 := zo_X (n := 154 + 6 * a + 6) (by omega)
    have hPr : ∀ q, q ≠ 154 + 6 * a → P2 q = P q := fun q hq => by rw [m3 q hq, zk_row_ne hq]
    have hMr : ∀ q, q < 154 + 6 * a → M2 q = M q ∧ L2 q = L q := fun q hq => by
      rw [(m2 q hq).1, (m2 q hq).2, zk_row_ne (by omega), zk_row_ne (by omega)]
      exact ⟨rfl, rfl⟩
    have hP07 : P2 0 7 = some 46 := by rw [hPr 0 (by omega)]; exact hP.2.2.2.2.2.2.2.1
    have hzo : zk_ok (154 + 6 * a + 6) (154 + 6 * a) 3 := m1.1
    simp only [zk_ldi_s, zk_ldl_s, zk_lda_r, zk_lda_a, zk_lda_n, zk_iv_s, zr_nil, zr_cons, zp_0, zp_s, zt_0, zt_s, zt2_0, zt2_s, zw_iconst, zw_bipush, zw_sipush, zw_lconst, zw_ldcs, zw_ldc, zw_ldcw, zw_ldc2, zw_iload_n, zw_lload_n, zw_aload_n, zw_istore_n, zw_lstore_n, zw_astore_n, zw_astoreN_n, zw_iload, zw_lload, zw_aload, zw_istore, zw_lstore, zw_astore, zw_astoreN, zw_iinc, zw_iadd, zw_isub, zw_imul, zw_iand, zw_ior, zw_ixor, zw_ishl, zw_ishr, zw_iushr, zw_idiv, zw_irem, zw_ladd, zw_lsub, zw_lmul, zw_land, zw_ldiv, zw_lrem, zw_lcmp, zw_i2l, zw_l2i, zw_dup, zw_pop, zw_dup2i, zw_goto, zw_if_eq, zw_if_ne, zw_if_lt, zw_if_ge, zw_if_gt, zw_if_le, zw_ic_eq, zw_ic_ne, zw_ic_lt, zw_ic_ge, zw_ic_gt, zw_ic_le, zw_ifnn, zw_ifnnN, zw_tsw, zw_lsw, zw_getf_l, zw_getf_r, zw_getf_i, zw_getf_z, zw_putf_i, zw_putf_z, zw_putf_l, zw_putf_r, zw_iaload, zw_caload, zw_laload, zw_aaload, zw_iastore, zw_castore, zw_lastore, zw_aastore, zw_alen, zw_newa, zw_newq, zw_new, zw_oini, zw_invs, zw_invv, zw_copy, zw_invt, zw_iret, zw_lret, zw_ret, zc_r, zc_a, zk_rvs, zk_cat2, List.getElem?_cons_zero, List.getElem?_cons_succ, Bool.false_eq_true, and_false, false_and, and_true, true_and, reduceIte, Nat.reduceEqDiff, Nat.reduceLT, Nat.reduceAdd, List.cons_append, List.nil_append, Option.toList_some, Option.toList_none, zk_cat_i, zk_cat_r, zk_cat_n, zk_same, Option.some.injEq, Value.int.injEq, Value.long.injEq, eq_self, false_implies, true_implies, zf_11, ho, hP2, zl_X, zc_n10, zc_cl, zc_in, not_true_eq_false, not_false_eq_true, ho2, hP07, zl_X, nI_clamp (show a < 2 ^ 31 by omega), vp_in_nI (show a < 20 by omega) (by omega), hzo]
    have hg : ∀ q, q ≠ 46 → zk_up P2 46 a (some (154 + 6 * a)) q = P2 q := fun q hq => zk_up_row hq
    have := tail Z (154 + 6 * a + 6) M2 L2 (zk_up P2 46 a (some (154 + 6 * a))) (a + 1) 0 pl.length a hZ (by omega) (by omega) (by omega) (by omega) (fun _ => rfl) (by rw [hKl, if_neg (by omega)]) (by omega) (by omega) (by omega) (by rw [(hMr 0 (by omega)).1]; exact p6) (by rw [(hMr 0 (by omega)).1]; exact p7) (fun k hk => ?_) (fun k hk => ?_) (fun i s' hi hs' => ?_) (fun q q1 q2 => (hMr q (by omega)).1) (fun j _ _ => by rw [(hMr 0 (by omega)).1]) (fun q hq => (hMr q (by omega)).2) (fun q q1 q2 => by rw [hg q q2]; exact hPr q (by omega))
    · exact this
    · by_cases e : k = a
      · subst e; rw [zk_up_at, if_pos (by omega)]
      · rw [zk_up_ne (by omega), hPr 46 (by omega), p8 k hk]
        by_cases e2 : k < a
        · rw [if_pos e2, if_pos (by omega)]
        · rw [if_neg e2, if_neg (by omega)]
    · by_cases e : k = a
      · subst e
        exact zm_ok_mono m1 (Nat.le_refl _) (hg _ (by omega))
      · exact zm_ok_mono (p9 k (by omega)) (by omega) (by rw [hg _ (by omega)]; exact hPr _ (by omega))
    · have h9 := p10 i s' hs'
      have hil := (List.getElem?_eq_some_iff.mp hs').1
      have hlt : (0 + pl.length + 19 - i) % 20 < a := by omega
      exact zm_rep_fr h9 (fun q q1 q2 => (hMr q (by omega)).1)
  · refine ⟨154 + 6 * a, ?_⟩
    refine zk_meth (ow := 11) (kind := 1) (k := 0) (nL := 3) (ct := false) (l0 := [.ref 0, zk_un, zk_un]) (by decide +kernel) (fun h => by cases h) (by decide +kernel) (by decide) (by decide) (fun h => absurd h (by decide)) (Nat.le_of_ble_eq_true rfl) rfl (by omega) (fun Z hZ => ?_)
    have ho := zo_X hn
    have hP2 := hP
    unfold zs_X at hP2
    have e20 : (nI pl.length = (20 : Int32)) = (pl.length = 20) := by rw [fa_lit 20, zn_eq (by omega) (by omega)]
    have go : ∀ (M2 : zk_MI) (pf2 c2 : Nat), pf2 < 20 → (a < 20 → pf2 = 0) → c2 + 1 = (sp_keepL s pl).length → c2 + 1 ≤ a → M2 0 12 = nI pf2 → M2 0 13 = nI c2 → (∀ i s', i < c2 → pl[i]? = some s' → zm_rep M2 (154 + 6 * ((pf2 + c2 + 19 - i) % 20)) s') → (∀ q, q ≠ 0 → M2 q = M q) → (∀ j, j ≠ 12 → j ≠ 13 → M2 0 j = M 0 j) → Z 32 [.ref 0, zk_un, zk_un] [] (154 + 6 * a) M2 L P := by
      intro M2 pf2 c2 q1 q2 q3 q4 q5 q6 q7 q8 q9
      have hf : (pf2 + c2) % 20 < a := by omega
      have hPn : P 46 ((pf2 + c2) % 20) = some (154 + 6 * ((pf2 + c2) % 20)) := by rw [p8 _ (by omega), if_pos hf]
      refine hZ B_X11_remember_32 _ _ _ _ _ _ _ k_X11_remember_32 ?_
      simp only [B_X11_remember_32, zk_ldi_s, zk_ldl_s, zk_lda_r, zk_lda_a, zk_lda_n, zk_iv_s, zr_nil, zr_cons, zp_0, zp_s, zt_0, zt_s, zt2_0, zt2_s, zw_iconst, zw_bipush, zw_sipush, zw_lconst, zw_ldcs, zw_ldc, zw_ldcw, zw_ldc2, zw_iload_n, zw_lload_n, zw_aload_n, zw_istore_n, zw_lstore_n, zw_astore_n, zw_astoreN_n, zw_iload, zw_lload, zw_aload, zw_istore, zw_lstore, zw_astore, zw_astoreN, zw_iinc, zw_iadd, zw_isub, zw_imul, zw_iand, zw_ior, zw_ixor, zw_ishl, zw_ishr, zw_iushr, zw_idiv, zw_irem, zw_ladd, zw_lsub, zw_lmul, zw_land, zw_ldiv, zw_lrem, zw_lcmp, zw_i2l, zw_l2i, zw_dup, zw_pop, zw_dup2i, zw_goto, zw_if_eq, zw_if_ne, zw_if_lt, zw_if_ge, zw_if_gt, zw_if_le, zw_ic_eq, zw_ic_ne, zw_ic_lt, zw_ic_ge, zw_ic_gt, zw_ic_le, zw_ifnn, zw_ifnnN, zw_tsw, zw_lsw, zw_getf_l, zw_getf_r, zw_getf_i, zw_getf_z, zw_putf_i, zw_putf_z, zw_putf_l, zw_putf_r, zw_iaload, zw_caload, zw_laload, zw_aaload, zw_iastore, zw_castore, zw_lastore, zw_aastore, zw_alen, zw_newa, zw_newq, zw_new, zw_oini, zw_invs, zw_invv, zw_copy, zw_invt, zw_iret, zw_lret, zw_ret, zc_r, zc_a, zk_rvs, zk_cat2, List.getElem?_cons_zero, List.getElem?_cons_succ, Bool.false_eq_true, and_false, false_and, and_true, true_and, reduceIte, Nat.reduceEqDiff, Nat.reduceLT, Nat.reduceAdd, List.cons_append, List.nil_append, Option.toList_some, Option.toList_none, zk_cat_i, zk_cat_r, zk_cat_n, zk_same, Option.some.injEq, Value.int.injEq, Value.long.injEq, eq_self, false_implies, true_implies, zf_11, ho, hP2, zl_X, zc_n10, zc_cl, zc_in, not_true_eq_false, not_false_eq_true, q5, q6, nI_add, hmod (pf2 + c2) (by omega), (show ¬ ((20 : Int32) = 0) from by decide), nI_clamp (show (pf2 + c2) % 20 < 2 ^ 31 by omega), vp_in_nI (show (pf2 + c2) % 20 < 20 by omega) (by omega), hPn]
      exact tail Z (154 + 6 * a) M2 L P a pf2 c2 _ hZ rfl (Nat.le_refl _) p2 q1 q2 q3 q4 hf rfl q5 q6 p8 p9 q7 (fun q _ h => q8 q h) q9 (fun _ _ => rfl) (fun _ _ _ => rfl)
    refine hZ B_X11_remember_0 _ _ _ _ _ _ _ k_X11_remember_0 ?_
    simp only [B_X11_remember_0, zk_ldi_s, zk_ldl_s, zk_lda_r, zk_lda_a, zk_lda_n, zk_iv_s, zr_nil, zr_cons, zp_0, zp_s, zt_0, zt_s, zt2_0, zt2_s, zw_iconst, zw_bipush, zw_sipush, zw_lconst, zw_ldcs, zw_ldc, zw_ldcw, zw_ldc2, zw_iload_n, zw_lload_n, zw_aload_n, zw_istore_n, zw_lstore_n, zw_astore_n, zw_astoreN_n, zw_iload, zw_lload, zw_aload, zw_istore, zw_lstore, zw_astore, zw_astoreN, zw_iinc, zw_iadd, zw_isub, zw_imul, zw_iand, zw_ior, zw_ixor, zw_ishl, zw_ishr, zw_iushr, zw_idiv, zw_irem, zw_ladd, zw_lsub, zw_lmul, zw_land, zw_ldiv, zw_lrem, zw_lcmp, zw_i2l, zw_l2i, zw_dup, zw_pop, zw_dup2i, zw_goto, zw_if_eq, zw_if_ne, zw_if_lt, zw_if_ge, zw_if_gt, zw_if_le, zw_ic_eq, zw_ic_ne, zw_ic_lt, zw_ic_ge, zw_ic_gt, zw_ic_le, zw_ifnn, zw_ifnnN, zw_tsw, zw_lsw, zw_getf_l, zw_getf_r, zw_getf_i, zw_getf_z, zw_putf_i, zw_putf_z, zw_putf_l, zw_putf_r, zw_iaload, zw_caload, zw_laload, zw_aaload, zw_iastore, zw_castore, zw_lastore, zw_aastore, zw_alen, zw_newa, zw_newq, zw_new, zw_oini, zw_invs, zw_invv, zw_copy, zw_invt, zw_iret, zw_lret, zw_ret, zc_r, zc_a, zk_rvs, zk_cat2, List.getElem?_cons_zero, List.getElem?_cons_succ, Bool.false_eq_true, and_false, false_and, and_true, true_and, reduceIte, Nat.reduceEqDiff, Nat.reduceLT, Nat.reduceAdd, List.cons_append, List.nil_append, Option.toList_some, Option.toList_none, zk_cat_i, zk_cat_r, zk_cat_n, zk_same, Option.some.injEq, Value.int.injEq, Value.long.injEq, eq_self, false_implies, true_implies, zf_11, ho, hP2, zl_X, zc_n10, zc_cl, zc_in, not_true_eq_false, not_false_eq_true, p7, e20]
    refine ⟨fun g => ?_, fun g => ?_⟩
    · exact go M pf pl.length p3 p4 (by rw [hKl, if_neg (by omega)]) (by omega) p6 p7 (fun i s' _ hs' => p10 i s' hs') (fun _ _ => rfl) (fun _ _ _ => rfl)
    · have u13 : ∀ x, zk_up M 0 12 x 0 13 = nI pl.length := fun x => by rw [zk_up_ne (by decide)]; exact p7
      have e19 : nI pl.length - 1 = nI 19 := by rw [g]; decide
      simp only [zk_ldi_s, zk_ldl_s, zk_lda_r, zk_lda_a, zk_lda_n, zk_iv_s, zr_nil, zr_cons, zp_0, zp_s, zt_0, zt_s, zt2_0, zt2_s, zw_iconst, zw_bipush, zw_sipush, zw_lconst, zw_ldcs, zw_ldc, zw_ldcw, zw_ldc2, zw_iload_n, zw_lload_n, zw_aload_n, zw_istore_n, zw_lstore_n, zw_astore_n, zw_astoreN_n, zw_iload, zw_lload, zw_aload, zw_istore, zw_lstore, zw_astore, zw_astoreN, zw_iinc, zw_iadd, zw_isub, zw_imul, zw_iand, zw_ior, zw_ixor, zw_ishl, zw_ishr, zw_iushr, zw_idiv, zw_irem, zw_ladd, zw_lsub, zw_lmul, zw_land, zw_ldiv, zw_lrem, zw_lcmp, zw_i2l, zw_l2i, zw_dup, zw_pop, zw_dup2i, zw_goto, zw_if_eq, zw_if_ne, zw_if_lt, zw_if_ge, zw_if_gt, zw_if_le, zw_ic_eq, zw_ic_ne, zw_ic_lt, zw_ic_ge, zw_ic_gt, zw_ic_le, zw_ifnn, zw_ifnnN, zw_tsw, zw_lsw, zw_getf_l, zw_getf_r, zw_getf_i, zw_getf_z, zw_putf_i, zw_putf_z, zw_putf_l, zw_putf_r, zw_iaload, zw_caload, zw_laload, zw_aaload, zw_iastore, zw_castore, zw_lastore, zw_aastore, zw_alen, zw_newa, zw_newq, zw_new, zw_oini, zw_invs, zw_invv, zw_copy, zw_invt, zw_iret, zw_lret, zw_ret, zc_r, zc_a, zk_rvs, zk_cat2, List.getElem?_cons_zero, List.getElem?_cons_succ, Bool.false_eq_true, and_false, false_and, and_true, true_and, reduceIte, Nat.reduceEqDiff, Nat.reduceLT, Nat.reduceAdd, List.cons_append, List.nil_append, Option.toList_some, Option.toList_none, zk_cat_i, zk_cat_r, zk_cat_n, zk_same, Option.some.injEq, Value.int.injEq, Value.long.injEq, eq_self, false_implies, true_implies, zf_11, ho, hP2, zl_X, zc_n10, zc_cl, zc_in, not_true_eq_false, not_false_eq_true, p6, nI_1, (show ¬ ((20 : Int32) = 0) from by decide), hmod (pf + 1) (by omega), u13, e19]
      refine go _ ((pf + 1) % 20) 19 (by omega) (fun z => by omega) (by rw [hKl, if_pos (by omega)]; omega) (by omega) (by rw [zk_up_ne (by decide)]; exact zk_up_at) zk_up_at (fun i s' hi hs' => ?_) (fun q hq => by rw [zk_up_row hq, zk_up_row hq]) (fun j j1 j2 => by rw [zk_up_ne (by omega), zk_up_ne (by omega)])
      have h9 := p10 i s' hs'
      rw [g, show (pf + 20 + 19 - i) % 20 = ((pf + 1) % 20 + 19 + 19 - i) % 20 by omega] at h9
      exact zm_rep_fr h9 (fun q q1 q2 => by rw [zk_up_row (by omega), zk_up_row (by omega)])
end CPa
