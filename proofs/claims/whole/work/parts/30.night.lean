/-! ===== forget, raise ===== -/
def B_X5_forget_0 : List zk_I := [(.aload_n 0, 1, 0, 0, 0, 0, []), (.getfield 41, 3, 0, 5, 2, 0, []), (.ifCond .ne 14, 3, 0, 18, 0, 0, []), (.aload_n 0, 1, 0, 0, 0, 0, []), (.iload_n 3, 1, 0, 3, 0, 0, []), (.putfield 99, 3, 0, 5, 3, 0, []), (.aload_n 0, 1, 0, 0, 0, 0, []), (.iload 4, 2, 0, 4, 0, 0, []), (.putfield 102, 3, 0, 5, 4, 0, [])]
theorem k_X5_forget_0 : zk_ckb 5 false (zk_m 68) B_X5_forget_0 0 = true := by decide +kernel
def B_X5_forget_18 : List zk_I := [(.aload_n 0, 1, 0, 0, 0, 0, []), (.dup, 1, 0, 0, 0, 0, []), (.getfield 41, 3, 0, 5, 2, 0, []), (.iconst 1, 1, 1, 0, 0, 0, []), (.iadd, 1, 0, 0, 0, 0, []), (.putfield 41, 3, 0, 5, 2, 0, []), (.aload_n 2, 1, 0, 2, 0, 0, []), (.getfield 105, 3, 0, 3, 0, 0, []), (.iload_n 3, 1, 0, 3, 0, 0, []), (.iaload, 1, 0, 0, 0, 0, []), (.bipush 10, 2, 10, 0, 0, 0, []), (.imul, 1, 0, 0, 0, 0, []), (.iload 4, 2, 0, 4, 0, 0, []), (.iadd, 1, 0, 0, 0, 0, []), (.istore 5, 2, 0, 5, 0, 0, []), (.aload_n 2, 1, 0, 2, 0, 0, []), (.getfield 108, 3, 0, 3, 2, 0, []), (.iload 5, 2, 0, 5, 0, 0, []), (.sipush 999, 3, 999, 0, 0, 0, []), (.aload_n 2, 1, 0, 2, 0, 0, []), (.getfield 108, 3, 0, 3, 2, 0, []), (.iload 5, 2, 0, 5, 0, 0, []), (.iaload, 1, 0, 0, 0, 0, []), (.aload_n 1, 1, 0, 1, 0, 0, []), (.getfield 111, 3, 0, 9, 5, 0, []), (.iload 4, 2, 0, 4, 0, 0, []), (.iaload, 1, 0, 0, 0, 0, []), (.iadd, 1, 0, 0, 0, 0, []), (.invokestatic 114, 3, 0, 2, 319, 15, []), (.iastore, 1, 0, 0, 0, 0, []), (.aload_n 2, 1, 0, 2, 0, 0, []), (.getfield 119, 3, 0, 3, 4, 0, []), (.iload 4, 2, 0, 4, 0, 0, []), (.dup2, 1, 0, 0, 0, 0, []), (.iaload, 1, 0, 0, 0, 0, []), (.iconst 1, 1, 1, 0, 0, 0, []), (.iload_n 3, 1, 0, 3, 0, 0, []), (.ishl, 1, 0, 0, 0, 0, []), (.ior, 1, 0, 0, 0, 0, []), (.iastore, 1, 0, 0, 0, 0, []), (.return_, 1, 0, 0, 0, 0, [])]
theorem k_X5_forget_18 : zk_ckb 5 false (zk_m 68) B_X5_forget_18 18 = true := by decide +kernel
def B_X5_raise_0 : List zk_I := [(.iconst 0, 1, 0, 0, 0, 0, []), (.istore 4, 2, 0, 4, 0, 0, [])]
theorem k_X5_raise_0 : zk_ckb 5 false (zk_m 69) B_X5_raise_0 0 = true := by decide +kernel
def B_X5_raise_3 : List zk_I := [(.iload 4, 2, 0, 4, 0, 0, []), (.aload_n 1, 1, 0, 1, 0, 0, []), (.getfield 44, 3, 0, 9, 2, 0, []), (.getfield 25, 3, 0, 4, 2, 0, []), (.if_icmp .ge 133, 3, 0, 145, 0, 0, []), (.iload_n 3, 1, 0, 3, 0, 0, []), (.bipush 10, 2, 10, 0, 0, 0, []), (.imul, 1, 0, 0, 0, 0, []), (.iload 4, 2, 0, 4, 0, 0, []), (.iadd, 1, 0, 0, 0, 0, []), (.istore 5, 2, 0, 5, 0, 0, []), (.aload_n 2, 1, 0, 2, 0, 0, []), (.getfield 108, 3, 0, 3, 2, 0, []), (.iload 5, 2, 0, 5, 0, 0, []), (.iaload, 1, 0, 0, 0, 0, []), (.istore 6, 2, 0, 6, 0, 0, []), (.iload 6, 2, 0, 6, 0, 0, []), (.ifCond .le 104, 3, 0, 139, 0, 0, []), (.iconst 1, 1, 1, 0, 0, 0, []), (.istore 7, 2, 0, 7, 0, 0, []), (.aload_n 1, 1, 0, 1, 0, 0, []), (.getfield 64, 3, 0, 9, 9, 0, []), (.iconst 3, 1, 3, 0, 0, 0, []), (.iaload, 1, 0, 0, 0, 0, []), (.iconst (-1), 1, (-1), 0, 0, 0, []), (.if_icmp .eq 56, 3, 0, 104, 0, 0, []), (.aload_n 0, 1, 0, 0, 0, 0, []), (.getfield 9, 3, 0, 5, 0, 0, []), (.aload_n 1, 1, 0, 1, 0, 0, []), (.aload_n 2, 1, 0, 2, 0, 0, []), (.iload 4, 2, 0, 4, 0, 0, []), (.invokevirtual 76, 3, 0, 4, 37, 2, []), (.aload_n 0, 1, 0, 0, 0, 0, []), (.getfield 9, 3, 0, 5, 0, 0, []), (.bipush (-19), 2, (-19), 0, 0, 0, []), (.iload 6, 2, 0, 6, 0, 0, []), (.invokevirtual 81, 3, 0, 3, 36, 2, []), (.aload_n 0, 1, 0, 0, 0, 0, []), (.getfield 9, 3, 0, 5, 0, 0, []), (.aload_n 1, 1, 0, 1, 0, 0, []), (.getfield 85, 3, 0, 9, 8, 0, []), (.aload_n 1, 1, 0, 1, 0, 0, []), (.getfield 64, 3, 0, 9, 9, 0, []), (.iconst 3, 1, 3, 0, 0, 0, []), (.iaload, 1, 0, 0, 0, 0, []), (.aload_n 1, 1, 0, 1, 0, 0, []), (.getfield 88, 3, 0, 9, 10, 0, []), (.iconst 3, 1, 3, 0, 0, 0, []), (.iaload, 1, 0, 0, 0, 0, []), (.invokevirtual 91, 3, 0, 4, 39, 2, []), (.iconst 0, 1, 0, 0, 0, 0, []), (.iload 6, 2, 0, 6, 0, 0, []), (.invokestatic 95, 3, 1, 3, 159, 11, []), (.istore 7, 2, 0, 7, 0, 0, [])]
theorem k_X5_raise_3 : zk_ckb 5 false (zk_m 69) B_X5_raise_3 3 = true := by decide +kernel
def B_X5_raise_104 : List zk_I := [(.aload_n 2, 1, 0, 2, 0, 0, []), (.getfield 108, 3, 0, 3, 2, 0, []), (.iload 5, 2, 0, 5, 0, 0, []), (.iload 6, 2, 0, 6, 0, 0, []), (.iload 7, 2, 0, 7, 0, 0, []), (.isub, 1, 0, 0, 0, 0, []), (.iastore, 1, 0, 0, 0, 0, []), (.aload_n 2, 1, 0, 2, 0, 0, []), (.getfield 122, 3, 0, 3, 3, 0, []), (.iload 4, 2, 0, 4, 0, 0, []), (.sipush 9999, 3, 9999, 0, 0, 0, []), (.aload_n 2, 1, 0, 2, 0, 0, []), (.getfield 122, 3, 0, 3, 3, 0, []), (.iload 4, 2, 0, 4, 0, 0, []), (.iaload, 1, 0, 0, 0, 0, []), (.iload 7, 2, 0, 7, 0, 0, []), (.iadd, 1, 0, 0, 0, 0, []), (.invokestatic 114, 3, 0, 2, 319, 15, []), (.iastore, 1, 0, 0, 0, 0, [])]
theorem k_X5_raise_104 : zk_ckb 5 false (zk_m 69) B_X5_raise_104 104 = true := by decide +kernel
def B_X5_raise_139 : List zk_I := [(.iinc 4 1, 3, 1, 4, 0, 0, []), (.goto (-139), 3, 0, 3, 0, 0, [])]
theorem k_X5_raise_139 : zk_ckb 5 false (zk_m 69) B_X5_raise_139 139 = true := by decide +kernel
def B_X5_raise_145 : List zk_I := [(.return_, 1, 0, 0, 0, 0, [])]
theorem k_X5_raise_145 : zk_ckb 5 false (zk_m 69) B_X5_raise_145 145 = true := by decide +kernel
def sp_up1 (f : Nat → Nat) (t x : Nat) : Nat → Nat := fun a => if a = t then x else f a
theorem zm_sn_ly {M : zk_MI} {b : Nat} {ly : Nat → Nat → Nat} {gn lo : Nat → Nat} (h : zm_sn M b ly gn lo) {p t x : Nat} (hp : p < 6) (ht : t < 10) (hx : x ≤ 999) : zm_sn (zk_up M (b + 3) (10 * p + t) (nI x)) b (sp_up2 ly p t x) gn lo := by
  obtain ⟨h1, h2, h3⟩ := h
  refine ⟨fun q u hq hu => ?_, fun u hu => by rw [zk_up_row (by omega)]; exact h2 u hu, fun u hu => by rw [zk_up_row (by omega)]; exact h3 u hu⟩
  unfold sp_up2
  by_cases e : q = p ∧ u = t
  · obtain ⟨rfl, rfl⟩ := e
    rw [zk_up_at, if_pos ⟨rfl, rfl⟩]
    exact ⟨rfl, hx⟩
  · rw [if_neg e, zk_up_ne (by omega)]
    exact h1 q u hq hu
theorem zm_sn_gn {M : zk_MI} {b : Nat} {ly : Nat → Nat → Nat} {gn lo : Nat → Nat} (h : zm_sn M b ly gn lo) {t x : Nat} (ht : t < 10) (hx : x ≤ 9999) : zm_sn (zk_up M (b + 4) t (nI x)) b ly (sp_up1 gn t x) lo := by
  obtain ⟨h1, h2, h3⟩ := h
  refine ⟨fun q u hq hu => by rw [zk_up_row (by omega)]; exact h1 q u hq hu, fun u hu => ?_, fun u hu => by rw [zk_up_row (by omega)]; exact h3 u hu⟩
  unfold sp_up1
  by_cases e : u = t
  · subst e
    rw [zk_up_at, if_pos rfl]
    exact ⟨rfl, hx⟩
  · rw [if_neg e, zk_up_ne (by omega)]
    exact h2 u hu
theorem zm_sn_lo {M : zk_MI} {b : Nat} {ly : Nat → Nat → Nat} {gn lo : Nat → Nat} (h : zm_sn M b ly gn lo) {t x : Nat} (ht : t < 10) (hx : x < 64) : zm_sn (zk_up M (b + 5) t (nI x)) b ly gn (sp_up1 lo t x) := by
  obtain ⟨h1, h2, h3⟩ := h
  refine ⟨fun q u hq hu => by rw [zk_up_row (by omega)]; exact h1 q u hq hu, fun u hu => by rw [zk_up_row (by omega)]; exact h2 u hu, fun u hu => ?_⟩
  unfold sp_up1
  by_cases e : u = t
  · subst e
    rw [zk_up_at, if_pos rfl]
    exact ⟨rfl, hx⟩
  · rw [if_neg e, zk_up_ne (by omega)]
    exact h3 u hu
theorem zn_min {a c : Nat} (ha : a < 2 ^ 31) (hc : c < 2 ^ 31) : (if nI a < nI c then nI a else nI c) = nI (min a c) := by
  by_cases h : a < c
  · rw [if_pos (nI_lt h hc), Nat.min_eq_left (by omega)]
  · rw [if_neg (by rw [nI_ltI ha hc]; exact h), Nat.min_eq_right (by omega)]
/-- what is FORGOTTEN: snow, who LOST it, how many, the first one -/
abbrev sp_X : Type := (Nat → Nat → Nat) × (Nat → Nat) × Nat × Nat × Nat
def sp_g0 (V : sp_V) (st : Nat → Nat) (p t : Nat) (x : sp_X) : sp_X := (sp_up2 x.1 (st p) t (min (x.1 (st p) t + vWt V t) 999), sp_up1 x.2.1 t (x.2.1 t ||| 2 ^ p), x.2.2.1 + 1, if x.2.2.1 = 0 then p else x.2.2.2.1, if x.2.2.1 = 0 then t else x.2.2.2.2)
/-- forgotten, firstWho, firstWhich in Nature's cell -/
def zn_fst (M : zk_MI) (x : sp_X) : Prop := M 12 2 = nI x.2.2.1 ∧ (x.2.2.1 ≠ 0 → M 12 3 = nI x.2.2.2.1 ∧ M 12 4 = nI x.2.2.2.2)
section FG
variable {G : zk_G} {n : Nat} {M : zk_MI} {L : zk_ML} {P : zk_MP}
theorem ct_forget (hn : 154 ≤ n) (hP : zs_X P) {v b : Nat} (hv : zv_ok n P v) (hv0 : 49 ≤ v) {V : sp_V} (hV : sp_vw V) (hVr : zv_rep M v V) (hb : zm_ok n P b) (hb0 : 15 ≤ b) (hvb : b + 5 < v ∨ v + 14 < b) {day : Nat} {st : Nat → Nat} {pt : Nat → Nat → Nat} {gn : Nat → Nat} {x : sp_X} (hk : zm_kn M b day st pt) (hs : zm_sn M b x.1 gn x.2.1) (hx : zn_fst M x) (hxf : x.2.2.1 ≤ 100) (p t : Nat) (hp : p < 6) (ht : t < vNt V) :
    zk_C G 1 68 [.ref 12, .ref v, .ref b, .int (nI p), .int (nI t)] n M L P n (fun r M' L' P' => r = none ∧ L' = L ∧ P' = P ∧ zm_sn M' b (sp_g0 V st p t x).1 gn (sp_g0 V st p t x).2.1 ∧ zn_fst M' (sp_g0 V st p t x) ∧ ∀ q, q ≠ 12 → q ≠ b + 3 → q ≠ b + 5 → M' q = M q) := by
  have hnt : vNt V ≤ 10 := hV.2.2.1
  refine zk_meth (ow := 5) (kind := 1) (k := 4) (nL := 6) (ct := false) (l0 := [.ref 12, .ref v, .ref b, .int (nI p), .int (nI t), zk_un]) (by decide +kernel) (fun h => by cases h) (by decide +kernel) (by decide) (by decide) (fun h => absurd h (by decide)) (Nat.le_of_ble_eq_true rfl) rfl (by omega) (fun Z hZ => ?_)
  have ho := zo_X hn
  have hv2 := hv
  unfold zv_ok at hv2
  have hb2 := hb
  unfold zm_ok at hb2
  have hw := hV.2.2.2.2.1 t ht
  have hstp := hk.2.2.1 p hp
  have hly := hs.1 (st p) t hstp.2 (by omega)
  have hlo := hs.2.2 t (by omega)
  have at18 : ∀ M1 : zk_MI, (∀ q, q ≠ 12 → M1 q = M q) → M1 12 2 = nI x.2.2.1 → (M1 12 3 = nI (sp_g0 V st p t x).2.2.2.1 ∧ M1 12 4 = nI (sp_g0 V st p t x).2.2.2.2) → Z 18 [.ref 12, .ref v, .ref b, .int (nI p), .int (nI t), zk_un] [] n M1 L P := by
    intro M1 h1 h2 h3
    have r1 : zk_up M1 12 2 (nI (x.2.2.1 + 1)) (b + 1) = M (b + 1) := by rw [zk_up_row (by omega)]; exact h1 _ (by omega)
    have r3 : zk_up M1 12 2 (nI (x.2.2.1 + 1)) (b + 3) = M (b + 3) := by rw [zk_up_row (by omega)]; exact h1 _ (by omega)
    have r9 : zk_up M1 12 2 (nI (x.2.2.1 + 1)) (v + 9) = M (v + 9) := by rw [zk_up_row (by omega)]; exact h1 _ (by omega)
    have c1 : (nI p).toNatClampNeg = p := nI_clamp (by omega)
    have c2 : (nI t).toNatClampNeg = t := nI_clamp (by omega)
    have c3 : (nI (10 * st p + t)).toNatClampNeg = 10 * st p + t := nI_clamp (by omega)
    have i1 : vp_in (nI p) 6 := vp_in_nI (by omega) (by omega)
    have i2 : vp_in (nI t) 10 := vp_in_nI (by omega) (by omega)
    have i3 : vp_in (nI (10 * st p + t)) 60 := vp_in_nI (by omega) (by omega)
    refine hZ B_X5_forget_18 _ _ _ _ _ _ _ k_X5_forget_18 ?_
    simp only [B_X5_forget_18, zk_ldi_s, zk_ldl_s, zk_lda_r, zk_lda_a, zk_lda_n, zk_iv_s, zr_nil, zr_cons, zp_0, zp_s, zt_0, zt_s, zt2_0, zt2_s, zw_iconst, zw_bipush, zw_sipush, zw_lconst, zw_ldcs, zw_ldc, zw_ldcw, zw_ldc2, zw_iload_n, zw_lload_n, zw_aload_n, zw_istore_n, zw_lstore_n, zw_astore_n, zw_astoreN_n, zw_iload, zw_lload, zw_aload, zw_istore, zw_lstore, zw_astore, zw_astoreN, zw_iinc, zw_iadd, zw_isub, zw_imul, zw_iand, zw_ior, zw_ixor, zw_ishl, zw_ishr, zw_iushr, zw_idiv, zw_irem, zw_ladd, zw_lsub, zw_lmul, zw_land, zw_ldiv, zw_lrem, zw_lcmp, zw_i2l, zw_l2i, zw_dup, zw_pop, zw_dup2i, zw_goto, zw_if_eq, zw_if_ne, zw_if_lt, zw_if_ge, zw_if_gt, zw_if_le, zw_ic_eq, zw_ic_ne, zw_ic_lt, zw_ic_ge, zw_ic_gt, zw_ic_le, zw_ifnn, zw_ifnnN, zw_tsw, zw_lsw, zw_getf_l, zw_getf_r, zw_getf_i, zw_getf_z, zw_putf_i, zw_putf_z, zw_putf_l, zw_putf_r, zw_iaload, zw_caload, zw_laload, zw_aaload, zw_iastore, zw_castore, zw_lastore, zw_aastore, zw_alen, zw_newa, zw_newq, zw_new, zw_oini, zw_invs, zw_invv, zw_copy, zw_invt, zw_iret, zw_lret, zw_ret, zc_r, zc_a, zk_rvs, zk_cat2, List.getElem?_cons_zero, List.getElem?_cons_succ, Bool.false_eq_true, and_false, false_and, and_true, true_and, reduceIte, Nat.reduceEqDiff, Nat.reduceLT, Nat.reduceAdd, List.cons_append, List.nil_append, Option.toList_some, Option.toList_none, zk_cat_i, zk_cat_r, zk_cat_n, zk_same, Option.some.injEq, Value.int.injEq, Value.long.injEq, eq_self, false_implies, true_implies, zf_3, zf_5, zf_9, ho, hv2, hb2, h2, nI_1, r1, r3, r9, c1, c2, c3, i1, i2, i3, hstp.1, zx_10, hly.1, hVr.2.2.2.2.1 t ht, nI_add]
    refine zk_callS (ct_min 999 _) (by decide) (Nat.le_refl _) (Nat.le_of_ble_eq_true rfl) ?_
    rw [fa_lit 999, zn_min (by omega) (by omega)]
    have r5 : zk_up (zk_up M1 12 2 (nI (x.2.2.1 + 1))) (b + 3) (10 * st p + t) (nI (min (x.1 (st p) t + vWt V t) 999)) (b + 5) = M (b + 5) := by rw [zk_up_row (by omega), zk_up_row (by omega)]; exact h1 _ (by omega)
    simp only [zk_ldi_s, zk_ldl_s, zk_lda_r, zk_lda_a, zk_lda_n, zk_iv_s, zr_nil, zr_cons, zp_0, zp_s, zt_0, zt_s, zt2_0, zt2_s, zw_iconst, zw_bipush, zw_sipush, zw_lconst, zw_ldcs, zw_ldc, zw_ldcw, zw_ldc2, zw_iload_n, zw_lload_n, zw_aload_n, zw_istore_n, zw_lstore_n, zw_astore_n, zw_astoreN_n, zw_iload, zw_lload, zw_aload, zw_istore, zw_lstore, zw_astore, zw_astoreN, zw_iinc, zw_iadd, zw_isub, zw_imul, zw_iand, zw_ior, zw_ixor, zw_ishl, zw_ishr, zw_iushr, zw_idiv, zw_irem, zw_ladd, zw_lsub, zw_lmul, zw_land, zw_ldiv, zw_lrem, zw_lcmp, zw_i2l, zw_l2i, zw_dup, zw_pop, zw_dup2i, zw_goto, zw_if_eq, zw_if_ne, zw_if_lt, zw_if_ge, zw_if_gt, zw_if_le, zw_ic_eq, zw_ic_ne, zw_ic_lt, zw_ic_ge, zw_ic_gt, zw_ic_le, zw_ifnn, zw_ifnnN, zw_tsw, zw_lsw, zw_getf_l, zw_getf_r, zw_getf_i, zw_getf_z, zw_putf_i, zw_putf_z, zw_putf_l, zw_putf_r, zw_iaload, zw_caload, zw_laload, zw_aaload, zw_iastore, zw_castore, zw_lastore, zw_aastore, zw_alen, zw_newa, zw_newq, zw_new, zw_oini, zw_invs, zw_invv, zw_copy, zw_invt, zw_iret, zw_lret, zw_ret, zc_r, zc_a, zk_rvs, zk_cat2, List.getElem?_cons_zero, List.getElem?_cons_succ, Bool.false_eq_true, and_false, false_and, and_true, true_and, reduceIte, Nat.reduceEqDiff, Nat.reduceLT, Nat.reduceAdd, List.cons_append, List.nil_append, Option.toList_some, Option.toList_none, zk_cat_i, zk_cat_r, zk_cat_n, zk_same, Option.some.injEq, Value.int.injEq, Value.long.injEq, eq_self, false_implies, true_implies, zf_3, zf_5, zf_9, ho, hb2, c1, c2, c3, i1, i2, i3, r5, hlo.1, zn_shl1 p (by omega), fa_or]
    have hor : x.2.1 t ||| 2 ^ p < 64 := Nat.or_lt_two_pow (n := 6) hlo.2 (Nat.pow_lt_pow_right (by decide) hp)
    have hs1 : zm_sn (zk_up M1 12 2 (nI (x.2.2.1 + 1))) b x.1 gn x.2.1 := zm_sn_fr hs (fun q q1 q2 => by rw [zk_up_row (by omega)]; exact h1 q (by omega))
    refine ⟨zm_sn_lo (zm_sn_ly hs1 hstp.2 (by omega) (Nat.min_le_right _ _)) (by omega) hor, ⟨?_, fun _ => ⟨?_, ?_⟩⟩, fun q q1 q2 q3 => ?_⟩
    · rw [zk_up_row (by omega), zk_up_row (by omega), zk_up_at]
      rfl
    · rw [zk_up_row (by omega), zk_up_row (by omega), zk_up_ne (by decide)]
      exact h3.1
    · rw [zk_up_row (by omega), zk_up_row (by omega), zk_up_ne (by decide)]
      exact h3.2
    · rw [zk_up_row q3, zk_up_row q2, zk_up_row q1]
      exact h1 q q1
  have e1 := zn_z (a := x.2.2.1) (by omega)
  refine hZ B_X5_forget_0 _ _ _ _ _ _ _ k_X5_forget_0 ?_
  simp only [B_X5_forget_0, zk_ldi_s, zk_ldl_s, zk_lda_r, zk_lda_a, zk_lda_n, zk_iv_s, zr_nil, zr_cons, zp_0, zp_s, zt_0, zt_s, zt2_0, zt2_s, zw_iconst, zw_bipush, zw_sipush, zw_lconst, zw_ldcs, zw_ldc, zw_ldcw, zw_ldc2, zw_iload_n, zw_lload_n, zw_aload_n, zw_istore_n, zw_lstore_n, zw_astore_n, zw_astoreN_n, zw_iload, zw_lload, zw_aload, zw_istore, zw_lstore, zw_astore, zw_astoreN, zw_iinc, zw_iadd, zw_isub, zw_imul, zw_iand, zw_ior, zw_ixor, zw_ishl, zw_ishr, zw_iushr, zw_idiv, zw_irem, zw_ladd, zw_lsub, zw_lmul, zw_land, zw_ldiv, zw_lrem, zw_lcmp, zw_i2l, zw_l2i, zw_dup, zw_pop, zw_dup2i, zw_goto, zw_if_eq, zw_if_ne, zw_if_lt, zw_if_ge, zw_if_gt, zw_if_le, zw_ic_eq, zw_ic_ne, zw_ic_lt, zw_ic_ge, zw_ic_gt, zw_ic_le, zw_ifnn, zw_ifnnN, zw_tsw, zw_lsw, zw_getf_l, zw_getf_r, zw_getf_i, zw_getf_z, zw_putf_i, zw_putf_z, zw_putf_l, zw_putf_r, zw_iaload, zw_caload, zw_laload, zw_aaload, zw_iastore, zw_castore, zw_lastore, zw_aastore, zw_alen, zw_newa, zw_newq, zw_new, zw_oini, zw_invs, zw_invv, zw_copy, zw_invt, zw_iret, zw_lret, zw_ret, zc_r, zc_a, zk_rvs, zk_cat2, List.getElem?_cons_zero, List.getElem?_cons_succ, Bool.false_eq_true, and_false, false_and, and_true, true_and, reduceIte, Nat.reduceEqDiff, Nat.reduceLT, Nat.reduceAdd, List.cons_append, List.nil_append, Option.toList_some, Option.toList_none, zk_cat_i, zk_cat_r, zk_cat_n, zk_same, Option.some.injEq, Value.int.injEq, Value.long.injEq, eq_self, false_implies, true_implies, zf_3, zf_5, zf_9, ho, hx.1, e1]
  refine ⟨fun h => ?_, fun h => ?_⟩
  · refine at18 M (fun _ _ => rfl) hx.1 ?_
    have := hx.2 h
    simp only [sp_g0, if_neg h]
    exact this
  · refine at18 _ (fun q hq => by rw [zk_up_row hq, zk_up_row hq]) (by rw [zk_up_ne (by decide), zk_up_ne (by decide)]; exact hx.1) ?_
    simp only [sp_g0, if_pos h]
    exact ⟨by rw [zk_up_ne (by decide), zk_up_at], zk_up_at⟩
end FG
/-- what rises in a PLACE: snow, GONE -/
abbrev sp_Y : Type := (Nat → Nat → Nat) × (Nat → Nat)
def sp_u (V : sp_V) (day : Nat) (pt : Nat → Nat → Nat) (p t l : Nat) : Nat := match vRl V 3 with
  | none => 1
  | some cs => sp_cl 0 l (sp_val cs (sp_e (vWt V t) (sp_ck pt t 6) day 0 0 l))
def sp_r0 (t p u : Nat) (y : sp_Y) : sp_Y := (sp_up2 y.1 p t (y.1 p t - u), sp_up1 y.2 t (min (y.2 t + u) 9999))
def sp_r1 (V : sp_V) (day : Nat) (pt : Nat → Nat → Nat) (p : Nat) (y : sp_Y) : Nat → sp_Y
  | 0 => y
  | t + 1 => if (sp_r1 V day pt p y t).1 p t = 0 then sp_r1 V day pt p y t else sp_r0 t p (sp_u V day pt p t ((sp_r1 V day pt p y t).1 p t)) (sp_r1 V day pt p y t)
def zr_inv (M : zk_MI) (b : Nat) (lo : Nat → Nat) (y : sp_Y) (M1 : zk_MI) : Prop := zk_mach M1 ∧ zm_sn M1 b y.1 y.2 lo ∧ ∀ q, q ≠ 2 → q ≠ 3 → q ≠ b + 3 → q ≠ b + 4 → M1 q = M q
section RS
variable {G : zk_G} {n : Nat} {M : zk_MI} {L : zk_ML} {P : zk_MP}
theorem ct_raise (hn : 154 ≤ n) (hP : zs_X P) {v b : Nat} (hv : zv_ok n P v) (hv0 : 49 ≤ v) {V : sp_V} (hV : sp_vw V) (hVr : zv_rep M v V) (hb : zm_ok n P b) (hb0 : 15 ≤ b) (hvb : b + 5 < v ∨ v + 14 < b) {day : Nat} {st : Nat → Nat} {pt : Nat → Nat → Nat} {lo : Nat → Nat} {y : sp_Y} (hk : zm_kn M b day st pt) (hs : zm_sn M b y.1 y.2 lo) (hm : zk_mach M) (p : Nat) (hp : p < 6) :
    zk_C G 3 69 [.ref 12, .ref v, .ref b, .int (nI p)] n M L P n (fun r M' L' P' => r = none ∧ L' = L ∧ P' = P ∧ zr_inv M b lo (sp_r1 V day pt p y (vNt V)) M') := by
  have hnt : vNt V ≤ 10 := hV.2.2.1
  have hday := hk.2.1
  refine zk_meth (ow := 5) (kind := 1) (k := 3) (nL := 8) (ct := false) (l0 := [.ref 12, .ref v, .ref b, .int (nI p), zk_un, zk_un, zk_un, zk_un]) (by decide +kernel) (fun h => by cases h) (by decide +kernel) (by decide) (by decide) (fun h => absurd h (by decide)) (Nat.le_of_ble_eq_true rfl) rfl (by omega) (fun Z hZ => ?_)
  have ho := zo_X hn
  have hP2 := hP
  unfold zs_X at hP2
  have hv2 := hv
  unfold zv_ok at hv2
  have hb2 := hb
  unfold zm_ok at hb2
  have loop : ∀ (k i : Nat) (M1 : zk_MI) (v5 v6 v7 : Value), i + k = vNt V → zr_inv M b lo (sp_r1 V day pt p y i) M1 → Z 3 [.ref 12, .ref v, .ref b, .int (nI p), .int (nI i), v5, v6, v7] [] n M1 L P := by
    intro k
    induction k with
    | zero =>
      intro i M1 v5 v6 v7 hi hI
      obtain rfl : i = vNt V := by omega
      have e0 : M1 (v + 5) 2 = nI (vNt V) := by rw [hI.2.2 _ (by omega) (by omega) (by omega) (by omega)]; exact hVr.2.2.1
      have e1 : nI (vNt V) ≤ nI (vNt V) := Int32.le_refl _
      refine hZ B_X5_raise_3 _ _ _ _ _ _ _ k_X5_raise_3 ?_
      simp only [B_X5_raise_3, zk_ldi_s, zk_ldl_s, zk_lda_r, zk_lda_a, zk_lda_n, zk_iv_s, zr_nil, zr_cons, zp_0, zp_s, zt_0, zt_s, zt2_0, zt2_s, zw_iconst, zw_bipush, zw_sipush, zw_lconst, zw_ldcs, zw_ldc, zw_ldcw, zw_ldc2, zw_iload_n, zw_lload_n, zw_aload_n, zw_istore_n, zw_lstore_n, zw_astore_n, zw_astoreN_n, zw_iload, zw_lload, zw_aload, zw_istore, zw_lstore, zw_astore, zw_astoreN, zw_iinc, zw_iadd, zw_isub, zw_imul, zw_iand, zw_ior, zw_ixor, zw_ishl, zw_ishr, zw_iushr, zw_idiv, zw_irem, zw_ladd, zw_lsub, zw_lmul, zw_land, zw_ldiv, zw_lrem, zw_lcmp, zw_i2l, zw_l2i, zw_dup, zw_pop, zw_dup2i, zw_goto, zw_if_eq, zw_if_ne, zw_if_lt, zw_if_ge, zw_if_gt, zw_if_le, zw_ic_eq, zw_ic_ne, zw_ic_lt, zw_ic_ge, zw_ic_gt, zw_ic_le, zw_ifnn, zw_ifnnN, zw_tsw, zw_lsw, zw_getf_l, zw_getf_r, zw_getf_i, zw_getf_z, zw_putf_i, zw_putf_z, zw_putf_l, zw_putf_r, zw_iaload, zw_caload, zw_laload, zw_aaload, zw_iastore, zw_castore, zw_lastore, zw_aastore, zw_alen, zw_newa, zw_newq, zw_new, zw_oini, zw_invs, zw_invv, zw_copy, zw_invt, zw_iret, zw_lret, zw_ret, zc_r, zc_a, zk_rvs, zk_cat2, List.getElem?_cons_zero, List.getElem?_cons_succ, Bool.false_eq_true, and_false, false_and, and_true, true_and, reduceIte, Nat.reduceEqDiff, Nat.reduceLT, Nat.reduceAdd, List.cons_append, List.nil_append, Option.toList_some, Option.toList_none, zk_cat_i, zk_cat_r, zk_cat_n, zk_same, Option.some.injEq, Value.int.injEq, Value.long.injEq, eq_self, false_implies, true_implies, zf_3, zf_4, zf_5, zf_9, ho, hv2, hb2, e0, e1, not_true_eq_false]
      refine hZ B_X5_raise_145 _ _ _ _ _ _ _ k_X5_raise_145 ?_
      simp only [B_X5_raise_145, zk_ldi_s, zk_ldl_s, zk_lda_r, zk_lda_a, zk_lda_n, zk_iv_s, zr_nil, zr_cons, zp_0, zp_s, zt_0, zt_s, zt2_0, zt2_s, zw_iconst, zw_bipush, zw_sipush, zw_lconst, zw_ldcs, zw_ldc, zw_ldcw, zw_ldc2, zw_iload_n, zw_lload_n, zw_aload_n, zw_istore_n, zw_lstore_n, zw_astore_n, zw_astoreN_n, zw_iload, zw_lload, zw_aload, zw_istore, zw_lstore, zw_astore, zw_astoreN, zw_iinc, zw_iadd, zw_isub, zw_imul, zw_iand, zw_ior, zw_ixor, zw_ishl, zw_ishr, zw_iushr, zw_idiv, zw_irem, zw_ladd, zw_lsub, zw_lmul, zw_land, zw_ldiv, zw_lrem, zw_lcmp, zw_i2l, zw_l2i, zw_dup, zw_pop, zw_dup2i, zw_goto, zw_if_eq, zw_if_ne, zw_if_lt, zw_if_ge, zw_if_gt, zw_if_le, zw_ic_eq, zw_ic_ne, zw_ic_lt, zw_ic_ge, zw_ic_gt, zw_ic_le, zw_ifnn, zw_ifnnN, zw_tsw, zw_lsw, zw_getf_l, zw_getf_r, zw_getf_i, zw_getf_z, zw_putf_i, zw_putf_z, zw_putf_l, zw_putf_r, zw_iaload, zw_caload, zw_laload, zw_aaload, zw_iastore, zw_castore, zw_lastore, zw_aastore, zw_alen, zw_newa, zw_newq, zw_new, zw_oini, zw_invs, zw_invv, zw_copy, zw_invt, zw_iret, zw_lret, zw_ret, zc_r, zc_a, zk_rvs, zk_cat2, List.getElem?_cons_zero, List.getElem?_cons_succ, Bool.false_eq_true, and_false, false_and, and_true, true_and, reduceIte, Nat.reduceEqDiff, Nat.reduceLT, Nat.reduceAdd, List.cons_append, List.nil_append, Option.toList_some, Option.toList_none, zk_cat_i, zk_cat_r, zk_cat_n, zk_same, Option.some.injEq, Value.int.injEq, Value.long.injEq, eq_self, false_implies, true_implies, zf_3, zf_4, zf_5, zf_9]
      exact hI
    | succ k ih =>
      intro i M1 v5 v6 v7 hi hI
      have hVr1 : zv_rep M1 v V := zv_rep_fr hVr (fun q h1 h2 => hI.2.2 q (by omega) (by omega) (by omega) (by omega))
      have e0 : M1 (v + 5) 2 = nI (vNt V) := hVr1.2.2.1
      have e1 : ¬ nI (vNt V) ≤ nI i := by rw [nI_leI (by omega) (by omega)]; omega
      have c1 : (nI i).toNatClampNeg = i := nI_clamp (by omega)
      have c3 : (nI (10 * p + i)).toNatClampNeg = 10 * p + i := nI_clamp (by omega)
      have i1 : vp_in (nI i) 10 := vp_in_nI (by omega) (by omega)
      have i3 : vp_in (nI (10 * p + i)) 60 := vp_in_nI (by omega) (by omega)
      have hly := hI.2.1.1 p i hp (by omega)
      have hgn := hI.2.1.2.1 i (by omega)
      have e2 := zn_npos (a := (sp_r1 V day pt p y i).1 p i) (by omega)
      have c0 : (3 : Int32).toNatClampNeg = 3 := by decide
      have i0 : vp_in 3 4 := vp_in_nI (n := 3) (by decide) (by decide)
      have e3 := zv_from hVr1 (k := 3) (by decide)
      have hk1 : zm_kn M1 b day st pt := zm_kn_fr hk (fun q q1 q2 => hI.2.2 q (by omega) (by omega) (by omega) (by omega))
      have fin : (sp_r1 V day pt p y i).1 p i ≠ 0 → ∀ (M2 : zk_MI) (u : Nat), u ≤ (sp_r1 V day pt p y i).1 p i → u = sp_u V day pt p i ((sp_r1 V day pt p y i).1 p i) → zr_inv M b lo (sp_r1 V day pt p y i) M2 → Z 104 [.ref 12, .ref v, .ref b, .int (nI p), .int (nI i), .int (nI (10 * p + i)), .int (nI ((sp_r1 V day pt p y i).1 p i)), .int (nI u)] [] n M2 L P := by
        intro h0 M2 u hu hue h2
        have hgn2 := h2.2.1.2.1 i (by omega)
        have r4 : zk_up M2 (b + 3) (10 * p + i) (nI ((sp_r1 V day pt p y i).1 p i - u)) (b + 4) = M2 (b + 4) := zk_up_row (by omega)
        refine hZ B_X5_raise_104 _ _ _ _ _ _ _ k_X5_raise_104 ?_
        simp only [B_X5_raise_104, zk_ldi_s, zk_ldl_s, zk_lda_r, zk_lda_a, zk_lda_n, zk_iv_s, zr_nil, zr_cons, zp_0, zp_s, zt_0, zt_s, zt2_0, zt2_s, zw_iconst, zw_bipush, zw_sipush, zw_lconst, zw_ldcs, zw_ldc, zw_ldcw, zw_ldc2, zw_iload_n, zw_lload_n, zw_aload_n, zw_istore_n, zw_lstore_n, zw_astore_n, zw_astoreN_n, zw_iload, zw_lload, zw_aload, zw_istore, zw_lstore, zw_astore, zw_astoreN, zw_iinc, zw_iadd, zw_isub, zw_imul, zw_iand, zw_ior, zw_ixor, zw_ishl, zw_ishr, zw_iushr, zw_idiv, zw_irem, zw_ladd, zw_lsub, zw_lmul, zw_land, zw_ldiv, zw_lrem, zw_lcmp, zw_i2l, zw_l2i, zw_dup, zw_pop, zw_dup2i, zw_goto, zw_if_eq, zw_if_ne, zw_if_lt, zw_if_ge, zw_if_gt, zw_if_le, zw_ic_eq, zw_ic_ne, zw_ic_lt, zw_ic_ge, zw_ic_gt, zw_ic_le, zw_ifnn, zw_ifnnN, zw_tsw, zw_lsw, zw_getf_l, zw_getf_r, zw_getf_i, zw_getf_z, zw_putf_i, zw_putf_z, zw_putf_l, zw_putf_r, zw_iaload, zw_caload, zw_laload, zw_aaload, zw_iastore, zw_castore, zw_lastore, zw_aastore, zw_alen, zw_newa, zw_newq, zw_new, zw_oini, zw_invs, zw_invv, zw_copy, zw_invt, zw_iret, zw_lret, zw_ret, zc_r, zc_a, zk_rvs, zk_cat2, List.getElem?_cons_zero, List.getElem?_cons_succ, Bool.false_eq_true, and_false, false_and, and_true, true_and, reduceIte, Nat.reduceEqDiff, Nat.reduceLT, Nat.reduceAdd, List.cons_append, List.nil_append, Option.toList_some, Option.toList_none, zk_cat_i, zk_cat_r, zk_cat_n, zk_same, Option.some.injEq, Value.int.injEq, Value.long.injEq, eq_self, false_implies, true_implies, zf_3, zf_4, zf_5, zf_9, ho, hb2, c1, c3, i1, i3, pk_sub hu, r4, hgn2.1, nI_add]
        refine zk_callS (ct_min 9999 _) (by decide) (Nat.le_refl _) (Nat.le_of_ble_eq_true rfl) ?_
        rw [fa_lit 9999, zn_min (by omega) (by omega)]
        simp only [zk_ldi_s, zk_ldl_s, zk_lda_r, zk_lda_a, zk_lda_n, zk_iv_s, zr_nil, zr_cons, zp_0, zp_s, zt_0, zt_s, zt2_0, zt2_s, zw_iconst, zw_bipush, zw_sipush, zw_lconst, zw_ldcs, zw_ldc, zw_ldcw, zw_ldc2, zw_iload_n, zw_lload_n, zw_aload_n, zw_istore_n, zw_lstore_n, zw_astore_n, zw_astoreN_n, zw_iload, zw_lload, zw_aload, zw_istore, zw_lstore, zw_astore, zw_astoreN, zw_iinc, zw_iadd, zw_isub, zw_imul, zw_iand, zw_ior, zw_ixor, zw_ishl, zw_ishr, zw_iushr, zw_idiv, zw_irem, zw_ladd, zw_lsub, zw_lmul, zw_land, zw_ldiv, zw_lrem, zw_lcmp, zw_i2l, zw_l2i, zw_dup, zw_pop, zw_dup2i, zw_goto, zw_if_eq, zw_if_ne, zw_if_lt, zw_if_ge, zw_if_gt, zw_if_le, zw_ic_eq, zw_ic_ne, zw_ic_lt, zw_ic_ge, zw_ic_gt, zw_ic_le, zw_ifnn, zw_ifnnN, zw_tsw, zw_lsw, zw_getf_l, zw_getf_r, zw_getf_i, zw_getf_z, zw_putf_i, zw_putf_z, zw_putf_l, zw_putf_r, zw_iaload, zw_caload, zw_laload, zw_aaload, zw_iastore, zw_castore, zw_lastore, zw_aastore, zw_alen, zw_newa, zw_newq, zw_new, zw_oini, zw_invs, zw_invv, zw_copy, zw_invt, zw_iret, zw_lret, zw_ret, zc_r, zc_a, zk_rvs, zk_cat2, List.getElem?_cons_zero, List.getElem?_cons_succ, Bool.false_eq_true, and_false, false_and, and_true, true_and, reduceIte, Nat.reduceEqDiff, Nat.reduceLT, Nat.reduceAdd, List.cons_append, List.nil_append, Option.toList_some, Option.toList_none, zk_cat_i, zk_cat_r, zk_cat_n, zk_same, Option.some.injEq, Value.int.injEq, Value.long.injEq, eq_self, false_implies, true_implies, zf_3, zf_4, zf_5, zf_9, ho, hb2, c1, i1]
        refine hZ B_X5_raise_139 _ _ _ _ _ _ _ k_X5_raise_139 ?_
        simp only [B_X5_raise_139, zk_ldi_s, zk_ldl_s, zk_lda_r, zk_lda_a, zk_lda_n, zk_iv_s, zr_nil, zr_cons, zp_0, zp_s, zt_0, zt_s, zt2_0, zt2_s, zw_iconst, zw_bipush, zw_sipush, zw_lconst, zw_ldcs, zw_ldc, zw_ldcw, zw_ldc2, zw_iload_n, zw_lload_n, zw_aload_n, zw_istore_n, zw_lstore_n, zw_astore_n, zw_astoreN_n, zw_iload, zw_lload, zw_aload, zw_istore, zw_lstore, zw_astore, zw_astoreN, zw_iinc, zw_iadd, zw_isub, zw_imul, zw_iand, zw_ior, zw_ixor, zw_ishl, zw_ishr, zw_iushr, zw_idiv, zw_irem, zw_ladd, zw_lsub, zw_lmul, zw_land, zw_ldiv, zw_lrem, zw_lcmp, zw_i2l, zw_l2i, zw_dup, zw_pop, zw_dup2i, zw_goto, zw_if_eq, zw_if_ne, zw_if_lt, zw_if_ge, zw_if_gt, zw_if_le, zw_ic_eq, zw_ic_ne, zw_ic_lt, zw_ic_ge, zw_ic_gt, zw_ic_le, zw_ifnn, zw_ifnnN, zw_tsw, zw_lsw, zw_getf_l, zw_getf_r, zw_getf_i, zw_getf_z, zw_putf_i, zw_putf_z, zw_putf_l, zw_putf_r, zw_iaload, zw_caload, zw_laload, zw_aaload, zw_iastore, zw_castore, zw_lastore, zw_aastore, zw_alen, zw_newa, zw_newq, zw_new, zw_oini, zw_invs, zw_invv, zw_copy, zw_invt, zw_iret, zw_lret, zw_ret, zc_r, zc_a, zk_rvs, zk_cat2, List.getElem?_cons_zero, List.getElem?_cons_succ, Bool.false_eq_true, and_false, false_and, and_true, true_and, reduceIte, Nat.reduceEqDiff, Nat.reduceLT, Nat.reduceAdd, List.cons_append, List.nil_append, Option.toList_some, Option.toList_none, zk_cat_i, zk_cat_r, zk_cat_n, zk_same, Option.some.injEq, Value.int.injEq, Value.long.injEq, eq_self, false_implies, true_implies, zf_3, zf_4, zf_5, zf_9, nI_1]
        refine ih (i + 1) _ _ _ _ (by omega) ?_
        have hs9 : sp_r1 V day pt p y (i + 1) = sp_r0 i p u (sp_r1 V day pt p y i) := by
          simp only [sp_r1]
          rw [if_neg h0, ← hue]
        rw [hs9]
        refine ⟨zk_mach_fr h2.1 (by rw [zk_up_row (by omega), zk_up_row (by omega)]) (by rw [zk_up_row (by omega), zk_up_row (by omega)]), zm_sn_gn (zm_sn_ly h2.2.1 hp (by omega) (by omega)) (by omega) (Nat.min_le_right _ _), fun q q2 q3 qa qb => ?_⟩
        rw [zk_up_row qb, zk_up_row qa]
        exact h2.2.2 q q2 q3 qa qb
      refine hZ B_X5_raise_3 _ _ _ _ _ _ _ k_X5_raise_3 ?_
      simp only [B_X5_raise_3, zk_ldi_s, zk_ldl_s, zk_lda_r, zk_lda_a, zk_lda_n, zk_iv_s, zr_nil, zr_cons, zp_0, zp_s, zt_0, zt_s, zt2_0, zt2_s, zw_iconst, zw_bipush, zw_sipush, zw_lconst, zw_ldcs, zw_ldc, zw_ldcw, zw_ldc2, zw_iload_n, zw_lload_n, zw_aload_n, zw_istore_n, zw_lstore_n, zw_astore_n, zw_astoreN_n, zw_iload, zw_lload, zw_aload, zw_istore, zw_lstore, zw_astore, zw_astoreN, zw_iinc, zw_iadd, zw_isub, zw_imul, zw_iand, zw_ior, zw_ixor, zw_ishl, zw_ishr, zw_iushr, zw_idiv, zw_irem, zw_ladd, zw_lsub, zw_lmul, zw_land, zw_ldiv, zw_lrem, zw_lcmp, zw_i2l, zw_l2i, zw_dup, zw_pop, zw_dup2i, zw_goto, zw_if_eq, zw_if_ne, zw_if_lt, zw_if_ge, zw_if_gt, zw_if_le, zw_ic_eq, zw_ic_ne, zw_ic_lt, zw_ic_ge, zw_ic_gt, zw_ic_le, zw_ifnn, zw_ifnnN, zw_tsw, zw_lsw, zw_getf_l, zw_getf_r, zw_getf_i, zw_getf_z, zw_putf_i, zw_putf_z, zw_putf_l, zw_putf_r, zw_iaload, zw_caload, zw_laload, zw_aaload, zw_iastore, zw_castore, zw_lastore, zw_aastore, zw_alen, zw_newa, zw_newq, zw_new, zw_oini, zw_invs, zw_invv, zw_copy, zw_invt, zw_iret, zw_lret, zw_ret, zc_r, zc_a, zk_rvs, zk_cat2, List.getElem?_cons_zero, List.getElem?_cons_succ, Bool.false_eq_true, and_false, false_and, and_true, true_and, reduceIte, Nat.reduceEqDiff, Nat.reduceLT, Nat.reduceAdd, List.cons_append, List.nil_append, Option.toList_some, Option.toList_none, zk_cat_i, zk_cat_r, zk_cat_n, zk_same, Option.some.injEq, Value.int.injEq, Value.long.injEq, eq_self, false_implies, true_implies, zf_3, zf_4, zf_5, zf_9, ho, hP2, hv2, hb2, e0, e1, not_false_eq_true, zx_10, c1, c3, i1, i3, hly.1, e2, c0, i0, e3]
      refine ⟨fun h => ?_, fun h => ⟨fun h2 => ?_, fun h2 => ?_⟩⟩
      · refine hZ B_X5_raise_139 _ _ _ _ _ _ _ k_X5_raise_139 ?_
        simp only [B_X5_raise_139, zk_ldi_s, zk_ldl_s, zk_lda_r, zk_lda_a, zk_lda_n, zk_iv_s, zr_nil, zr_cons, zp_0, zp_s, zt_0, zt_s, zt2_0, zt2_s, zw_iconst, zw_bipush, zw_sipush, zw_lconst, zw_ldcs, zw_ldc, zw_ldcw, zw_ldc2, zw_iload_n, zw_lload_n, zw_aload_n, zw_istore_n, zw_lstore_n, zw_astore_n, zw_astoreN_n, zw_iload, zw_lload, zw_aload, zw_istore, zw_lstore, zw_astore, zw_astoreN, zw_iinc, zw_iadd, zw_isub, zw_imul, zw_iand, zw_ior, zw_ixor, zw_ishl, zw_ishr, zw_iushr, zw_idiv, zw_irem, zw_ladd, zw_lsub, zw_lmul, zw_land, zw_ldiv, zw_lrem, zw_lcmp, zw_i2l, zw_l2i, zw_dup, zw_pop, zw_dup2i, zw_goto, zw_if_eq, zw_if_ne, zw_if_lt, zw_if_ge, zw_if_gt, zw_if_le, zw_ic_eq, zw_ic_ne, zw_ic_lt, zw_ic_ge, zw_ic_gt, zw_ic_le, zw_ifnn, zw_ifnnN, zw_tsw, zw_lsw, zw_getf_l, zw_getf_r, zw_getf_i, zw_getf_z, zw_putf_i, zw_putf_z, zw_putf_l, zw_putf_r, zw_iaload, zw_caload, zw_laload, zw_aaload, zw_iastore, zw_castore, zw_lastore, zw_aastore, zw_alen, zw_newa, zw_newq, zw_new, zw_oini, zw_invs, zw_invv, zw_copy, zw_invt, zw_iret, zw_lret, zw_ret, zc_r, zc_a, zk_rvs, zk_cat2, List.getElem?_cons_zero, List.getElem?_cons_succ, Bool.false_eq_true, and_false, false_and, and_true, true_and, reduceIte, Nat.reduceEqDiff, Nat.reduceLT, Nat.reduceAdd, List.cons_append, List.nil_append, Option.toList_some, Option.toList_none, zk_cat_i, zk_cat_r, zk_cat_n, zk_same, Option.some.injEq, Value.int.injEq, Value.long.injEq, eq_self, false_implies, true_implies, zf_3, zf_4, zf_5, zf_9, nI_1]
        refine ih (i + 1) M1 _ _ _ (by omega) ?_
        have hs9 : sp_r1 V day pt p y (i + 1) = sp_r1 V day pt p y i := by
          simp only [sp_r1]
          rw [if_pos h]
        rw [hs9]
        exact hI
      · exact fin h M1 1 (by omega) (by unfold sp_u; rw [h2]) hI
      · cases hr : vRl V 3 with
        | none => exact absurd hr h2
        | some cs =>
          refine zk_callS (ct_turnTo hn hP hv hv0 hV hVr1 hb hb0 hk1 i (by omega)) (by decide) (Nat.le_refl _) (Nat.le_of_ble_eq_true rfl) ?_
          simp only [zk_ldi_s, zk_ldl_s, zk_lda_r, zk_lda_a, zk_lda_n, zk_iv_s, zr_nil, zr_cons, zp_0, zp_s, zt_0, zt_s, zt2_0, zt2_s, zw_iconst, zw_bipush, zw_sipush, zw_lconst, zw_ldcs, zw_ldc, zw_ldcw, zw_ldc2, zw_iload_n, zw_lload_n, zw_aload_n, zw_istore_n, zw_lstore_n, zw_astore_n, zw_astoreN_n, zw_iload, zw_lload, zw_aload, zw_istore, zw_lstore, zw_astore, zw_astoreN, zw_iinc, zw_iadd, zw_isub, zw_imul, zw_iand, zw_ior, zw_ixor, zw_ishl, zw_ishr, zw_iushr, zw_idiv, zw_irem, zw_ladd, zw_lsub, zw_lmul, zw_land, zw_ldiv, zw_lrem, zw_lcmp, zw_i2l, zw_l2i, zw_dup, zw_pop, zw_dup2i, zw_goto, zw_if_eq, zw_if_ne, zw_if_lt, zw_if_ge, zw_if_gt, zw_if_le, zw_ic_eq, zw_ic_ne, zw_ic_lt, zw_ic_ge, zw_ic_gt, zw_ic_le, zw_ifnn, zw_ifnnN, zw_tsw, zw_lsw, zw_getf_l, zw_getf_r, zw_getf_i, zw_getf_z, zw_putf_i, zw_putf_z, zw_putf_l, zw_putf_r, zw_iaload, zw_caload, zw_laload, zw_aaload, zw_iastore, zw_castore, zw_lastore, zw_aastore, zw_alen, zw_newa, zw_newq, zw_new, zw_oini, zw_invs, zw_invv, zw_copy, zw_invt, zw_iret, zw_lret, zw_ret, zc_r, zc_a, zk_rvs, zk_cat2, List.getElem?_cons_zero, List.getElem?_cons_succ, Bool.false_eq_true, and_false, false_and, and_true, true_and, reduceIte, Nat.reduceEqDiff, Nat.reduceLT, Nat.reduceAdd, List.cons_append, List.nil_append, Option.toList_some, Option.toList_none, zk_cat_i, zk_cat_r, zk_cat_n, zk_same, Option.some.injEq, Value.int.injEq, Value.long.injEq, eq_self, false_implies, true_implies, zf_3, zf_4, zf_5, zf_9, ho, hP2]
          refine zk_callS (ct_tell hn hP (-19) _ (by decide) (by decide)) (by decide) (Nat.le_refl _) (Nat.le_of_ble_eq_true rfl) ?_
          have hrow : ∀ q, q ≠ 3 → zk_up (zk_tt M1 (vWt V i) (sp_pc (vHg V i)) (sp_ck pt i 6) day) 3 (-14 - (-19 : Int)).toNat (nI ((sp_r1 V day pt p y i).1 p i)) q = M1 q := fun q hq => by rw [zk_up_row hq, zk_tt_row hq]
          have hw := hV.2.2.2.2.1 i (by omega)
          have hck6 := sp_ck_le pt i 6
          have hpc := sp_pc_le (vHg V i)
          have hm1 : zk_mach (zk_up (zk_tt M1 (vWt V i) (sp_pc (vHg V i)) (sp_ck pt i 6) day) 3 (-14 - (-19 : Int)).toNat (nI ((sp_r1 V day pt p y i).1 p i))) := ⟨zk_told_up (zk_told_up (zk_told_up (zk_told_up (zk_told_up hI.1.1 (nI_v (by omega))) (nI_v (by omega))) (nI_v (by omega))) (nI_v (by omega))) (nI_v (by omega)), fun j hj => by rw [hrow 4 (by decide)]; exact hI.1.2 j hj⟩
          have e13 := hrow (v + 13) (by omega)
          have e14 := hrow (v + 14) (by omega)
          have key := ct_rule (G := G) (L := L) hn hP hv hv0 hV (zv_rep_fr hVr1 (fun q h1 h2 => hrow q (by omega))) hm1 (k := 3) (by omega) hr (w := vWt V i) (kn := sp_ck pt i 6) (d := day) (p := 0) (h := 0) (l := (sp_r1 V day pt p y i).1 p i) (by omega) (by omega) (by omega) (by omega) (by omega) (by omega) rfl rfl rfl (fun z => by omega) (fun _ => rfl)
          simp only [zk_ldi_s, zk_ldl_s, zk_lda_r, zk_lda_a, zk_lda_n, zk_iv_s, zr_nil, zr_cons, zp_0, zp_s, zt_0, zt_s, zt2_0, zt2_s, zw_iconst, zw_bipush, zw_sipush, zw_lconst, zw_ldcs, zw_ldc, zw_ldcw, zw_ldc2, zw_iload_n, zw_lload_n, zw_aload_n, zw_istore_n, zw_lstore_n, zw_astore_n, zw_astoreN_n, zw_iload, zw_lload, zw_aload, zw_istore, zw_lstore, zw_astore, zw_astoreN, zw_iinc, zw_iadd, zw_isub, zw_imul, zw_iand, zw_ior, zw_ixor, zw_ishl, zw_ishr, zw_iushr, zw_idiv, zw_irem, zw_ladd, zw_lsub, zw_lmul, zw_land, zw_ldiv, zw_lrem, zw_lcmp, zw_i2l, zw_l2i, zw_dup, zw_pop, zw_dup2i, zw_goto, zw_if_eq, zw_if_ne, zw_if_lt, zw_if_ge, zw_if_gt, zw_if_le, zw_ic_eq, zw_ic_ne, zw_ic_lt, zw_ic_ge, zw_ic_gt, zw_ic_le, zw_ifnn, zw_ifnnN, zw_tsw, zw_lsw, zw_getf_l, zw_getf_r, zw_getf_i, zw_getf_z, zw_putf_i, zw_putf_z, zw_putf_l, zw_putf_r, zw_iaload, zw_caload, zw_laload, zw_aaload, zw_iastore, zw_castore, zw_lastore, zw_aastore, zw_alen, zw_newa, zw_newq, zw_new, zw_oini, zw_invs, zw_invv, zw_copy, zw_invt, zw_iret, zw_lret, zw_ret, zc_r, zc_a, zk_rvs, zk_cat2, List.getElem?_cons_zero, List.getElem?_cons_succ, Bool.false_eq_true, and_false, false_and, and_true, true_and, reduceIte, Nat.reduceEqDiff, Nat.reduceLT, Nat.reduceAdd, List.cons_append, List.nil_append, Option.toList_some, Option.toList_none, zk_cat_i, zk_cat_r, zk_cat_n, zk_same, Option.some.injEq, Value.int.injEq, Value.long.injEq, eq_self, false_implies, true_implies, zf_3, zf_4, zf_5, zf_9, ho, hP2, hv2, c0, i0, e13, e14]
          rw [e13, e14] at key
          refine zk_callI key (by decide) (Nat.le_refl _) (Nat.le_of_ble_eq_true rfl) (fun r M' L' P' hpost => ?_)
          obtain ⟨rfl, hval, rfl, rfl, hfr⟩ := hpost
          simp only [zk_ldi_s, zk_ldl_s, zk_lda_r, zk_lda_a, zk_lda_n, zk_iv_s, zr_nil, zr_cons, zp_0, zp_s, zt_0, zt_s, zt2_0, zt2_s, zw_iconst, zw_bipush, zw_sipush, zw_lconst, zw_ldcs, zw_ldc, zw_ldcw, zw_ldc2, zw_iload_n, zw_lload_n, zw_aload_n, zw_istore_n, zw_lstore_n, zw_astore_n, zw_astoreN_n, zw_iload, zw_lload, zw_aload, zw_istore, zw_lstore, zw_astore, zw_astoreN, zw_iinc, zw_iadd, zw_isub, zw_imul, zw_iand, zw_ior, zw_ixor, zw_ishl, zw_ishr, zw_iushr, zw_idiv, zw_irem, zw_ladd, zw_lsub, zw_lmul, zw_land, zw_ldiv, zw_lrem, zw_lcmp, zw_i2l, zw_l2i, zw_dup, zw_pop, zw_dup2i, zw_goto, zw_if_eq, zw_if_ne, zw_if_lt, zw_if_ge, zw_if_gt, zw_if_le, zw_ic_eq, zw_ic_ne, zw_ic_lt, zw_ic_ge, zw_ic_gt, zw_ic_le, zw_ifnn, zw_ifnnN, zw_tsw, zw_lsw, zw_getf_l, zw_getf_r, zw_getf_i, zw_getf_z, zw_putf_i, zw_putf_z, zw_putf_l, zw_putf_r, zw_iaload, zw_caload, zw_laload, zw_aaload, zw_iastore, zw_castore, zw_lastore, zw_aastore, zw_alen, zw_newa, zw_newq, zw_new, zw_oini, zw_invs, zw_invv, zw_copy, zw_invt, zw_iret, zw_lret, zw_ret, zc_r, zc_a, zk_rvs, zk_cat2, List.getElem?_cons_zero, List.getElem?_cons_succ, Bool.false_eq_true, and_false, false_and, and_true, true_and, reduceIte, Nat.reduceEqDiff, Nat.reduceLT, Nat.reduceAdd, List.cons_append, List.nil_append, Option.toList_some, Option.toList_none, zk_cat_i, zk_cat_r, zk_cat_n, zk_same, Option.some.injEq, Value.int.injEq, Value.long.injEq, eq_self, false_implies, true_implies, zf_3, zf_4, zf_5, zf_9]
          refine zk_callS (ct_within _ _ _) (by decide) (Nat.le_refl _) (Nat.le_of_ble_eq_true rfl) ?_
          rw [zn_0, sp_cl_i (by omega) (by omega) hval]
          simp only [zk_ldi_s, zk_ldl_s, zk_lda_r, zk_lda_a, zk_lda_n, zk_iv_s, zr_nil, zr_cons, zp_0, zp_s, zt_0, zt_s, zt2_0, zt2_s, zw_iconst, zw_bipush, zw_sipush, zw_lconst, zw_ldcs, zw_ldc, zw_ldcw, zw_ldc2, zw_iload_n, zw_lload_n, zw_aload_n, zw_istore_n, zw_lstore_n, zw_astore_n, zw_astoreN_n, zw_iload, zw_lload, zw_aload, zw_istore, zw_lstore, zw_astore, zw_astoreN, zw_iinc, zw_iadd, zw_isub, zw_imul, zw_iand, zw_ior, zw_ixor, zw_ishl, zw_ishr, zw_iushr, zw_idiv, zw_irem, zw_ladd, zw_lsub, zw_lmul, zw_land, zw_ldiv, zw_lrem, zw_lcmp, zw_i2l, zw_l2i, zw_dup, zw_pop, zw_dup2i, zw_goto, zw_if_eq, zw_if_ne, zw_if_lt, zw_if_ge, zw_if_gt, zw_if_le, zw_ic_eq, zw_ic_ne, zw_ic_lt, zw_ic_ge, zw_ic_gt, zw_ic_le, zw_ifnn, zw_ifnnN, zw_tsw, zw_lsw, zw_getf_l, zw_getf_r, zw_getf_i, zw_getf_z, zw_putf_i, zw_putf_z, zw_putf_l, zw_putf_r, zw_iaload, zw_caload, zw_laload, zw_aaload, zw_iastore, zw_castore, zw_lastore, zw_aastore, zw_alen, zw_newa, zw_newq, zw_new, zw_oini, zw_invs, zw_invv, zw_copy, zw_invt, zw_iret, zw_lret, zw_ret, zc_r, zc_a, zk_rvs, zk_cat2, List.getElem?_cons_zero, List.getElem?_cons_succ, Bool.false_eq_true, and_false, false_and, and_true, true_and, reduceIte, Nat.reduceEqDiff, Nat.reduceLT, Nat.reduceAdd, List.cons_append, List.nil_append, Option.toList_some, Option.toList_none, zk_cat_i, zk_cat_r, zk_cat_n, zk_same, Option.some.injEq, Value.int.injEq, Value.long.injEq, eq_self, false_implies, true_implies, zf_3, zf_4, zf_5, zf_9]
          refine fin h M' _ (sp_cl_le (by omega)).2 (by unfold sp_u; rw [hr]) ⟨zk_mach_fr hm1 (hfr 3 (by decide)) (hfr 4 (by decide)), zm_sn_fr hI.2.1 (fun q q1 q2 => by rw [hfr q (by omega), hrow q (by omega)]), fun q q2 q3 qa qb => by rw [hfr q q2, hrow q q3]; exact hI.2.2 q q2 q3 qa qb⟩
  refine hZ B_X5_raise_0 _ _ _ _ _ _ _ k_X5_raise_0 ?_
  simp only [B_X5_raise_0, zk_ldi_s, zk_ldl_s, zk_lda_r, zk_lda_a, zk_lda_n, zk_iv_s, zr_nil, zr_cons, zp_0, zp_s, zt_0, zt_s, zt2_0, zt2_s, zw_iconst, zw_bipush, zw_sipush, zw_lconst, zw_ldcs, zw_ldc, zw_ldcw, zw_ldc2, zw_iload_n, zw_lload_n, zw_aload_n, zw_istore_n, zw_lstore_n, zw_astore_n, zw_astoreN_n, zw_iload, zw_lload, zw_aload, zw_istore, zw_lstore, zw_astore, zw_astoreN, zw_iinc, zw_iadd, zw_isub, zw_imul, zw_iand, zw_ior, zw_ixor, zw_ishl, zw_ishr, zw_iushr, zw_idiv, zw_irem, zw_ladd, zw_lsub, zw_lmul, zw_land, zw_ldiv, zw_lrem, zw_lcmp, zw_i2l, zw_l2i, zw_dup, zw_pop, zw_dup2i, zw_goto, zw_if_eq, zw_if_ne, zw_if_lt, zw_if_ge, zw_if_gt, zw_if_le, zw_ic_eq, zw_ic_ne, zw_ic_lt, zw_ic_ge, zw_ic_gt, zw_ic_le, zw_ifnn, zw_ifnnN, zw_tsw, zw_lsw, zw_getf_l, zw_getf_r, zw_getf_i, zw_getf_z, zw_putf_i, zw_putf_z, zw_putf_l, zw_putf_r, zw_iaload, zw_caload, zw_laload, zw_aaload, zw_iastore, zw_castore, zw_lastore, zw_aastore, zw_alen, zw_newa, zw_newq, zw_new, zw_oini, zw_invs, zw_invv, zw_copy, zw_invt, zw_iret, zw_lret, zw_ret, zc_r, zc_a, zk_rvs, zk_cat2, List.getElem?_cons_zero, List.getElem?_cons_succ, Bool.false_eq_true, and_false, false_and, and_true, true_and, reduceIte, Nat.reduceEqDiff, Nat.reduceLT, Nat.reduceAdd, List.cons_append, List.nil_append, Option.toList_some, Option.toList_none, zk_cat_i, zk_cat_r, zk_cat_n, zk_same, Option.some.injEq, Value.int.injEq, Value.long.injEq, eq_self, false_implies, true_implies, zf_3, zf_4, zf_5, zf_9]
  exact loop (vNt V) 0 M _ _ _ (by omega) ⟨hm, hs, fun _ _ _ _ _ => rfl⟩
end RS
