/-! ===== the model: a VALLEY is told ===== -/
theorem sp_wkd_or (f : Nat → Nat) (s z : Nat) : sp_wkd f s z = -3 ∨ 300 ≤ sp_wkd f s z := by
  unfold sp_wkd
  split
  · exact Or.inl rfl
  · split
    · exact Or.inr (by omega)
    · exact Or.inl rfl
theorem tk_ci1 {f : Nat → Nat} {T p : Nat} (hp : p ≤ T) : tk_ci f T p = -1 ↔ tkK f T p = -1 := by
  constructor
  · intro h
    unfold tk_ci at h
    unfold tkK
    split at h
    · omega
    · rw [if_pos (by omega)]
  · intro h
    unfold tk_ci
    by_cases hs : tkS f T p < T
    · exfalso
      unfold tkK at h
      rw [if_neg (by omega)] at h
      split at h
      · omega
      · split at h
        · omega
        · split at h
          · have := sp_wkd_or f (tkS f T p) (tkE f T p - tkS f T p)
            omega
          · omega
    · rw [if_neg hs]
def mwp (M : zk_MI) : zk_MI := fun q j => if (q = 79 ∧ (j = 1 ∨ j = 2 ∨ j = 3 ∨ j = 4 ∨ j = 5 ∨ j = 6 ∨ j = 7 ∨ j = 8 ∨ j = 51 ∨ j = 54)) ∨ q = 81 then 0 else M q j
theorem mwp_row {M : zk_MI} {q : Nat} (h : q ≠ 79) (h2 : q ≠ 81) : mwp M q = M q := by
  funext j
  unfold mwp
  rw [if_neg (by omega)]
theorem mwp_81 {M M' : zk_MI} : mwp M 81 = mwp M' 81 := by
  funext j
  unfold mwp
  rw [if_pos (Or.inr rfl), if_pos (Or.inr rfl)]
theorem mwp_79 {M : zk_MI} {j : Nat} (h : ¬ (j = 1 ∨ j = 2 ∨ j = 3 ∨ j = 4 ∨ j = 5 ∨ j = 6 ∨ j = 7 ∨ j = 8 ∨ j = 51 ∨ j = 54)) : mwp M 79 j = M 79 j := by
  unfold mwp
  rw [if_neg (by omega)]
theorem mwp_up {M : zk_MI} {j : Nat} {x : Int32} (h : j = 1 ∨ j = 2 ∨ j = 3 ∨ j = 4 ∨ j = 5 ∨ j = 6 ∨ j = 7 ∨ j = 8 ∨ j = 51 ∨ j = 54) : mwp (zk_up M 79 j x) = mwp M := by
  funext q k
  unfold mwp
  by_cases e : (q = 79 ∧ (k = 1 ∨ k = 2 ∨ k = 3 ∨ k = 4 ∨ k = 5 ∨ k = 6 ∨ k = 7 ∨ k = 8 ∨ k = 51 ∨ k = 54)) ∨ q = 81
  · rw [if_pos e, if_pos e]
  · rw [if_neg e, if_neg e, zk_up_ne (by omega)]
theorem mwp_u81 {M : zk_MI} {j : Nat} {x : Int32} : mwp (zk_up M 81 j x) = mwp M := by
  funext q k
  unfold mwp
  by_cases e : (q = 79 ∧ (k = 1 ∨ k = 2 ∨ k = 3 ∨ k = 4 ∨ k = 5 ∨ k = 6 ∨ k = 7 ∨ k = 8 ∨ k = 51 ∨ k = 54)) ∨ q = 81
  · rw [if_pos e, if_pos e]
  · rw [if_neg e, if_neg e, zk_up_ne (by omega)]
section MV2
variable {G : zk_G} {n : Nat} {M M' : zk_MI} {L L' : zk_ML} {P : zk_MP}
/-- what telling a VALLEY leaves as it was -/
def mdH (M M' : zk_MI) (L L' : zk_ML) : Prop := mdF (mwp M) (mwp M') L L'
theorem mdH_tr {M2 : zk_MI} {L2 : zk_ML} (h : mdH M M' L L') (g : mdH M' M2 L' L2) : mdH M M2 L L2 := mdF_tr h g
theorem mdH_F (h : mdF M M' L L') : mdH M M' L L' := by
  obtain ⟨a1, a2, a3, a4, a5, a6, a7, a8, a9, a10, a11, a12⟩ := h
  have hr : ∀ (X : zk_MI) q, q ≠ 79 → q ≠ 81 → mwp X q = X q := fun X q hq h2 => mwp_row hq h2
  refine ⟨fun q x y => ?_, fun j x1 x2 x3 x4 x5 x6 x7 x8 x9 x10 => ?_, a3, fun i x => by rw [hr _ 112 (by decide) (by decide), hr _ 112 (by decide) (by decide)]; exact a4 i x, a5, fun i x => by rw [hr _ 114 (by decide) (by decide), hr _ 114 (by decide) (by decide)]; exact a6 i x, fun i x => by rw [hr _ 116 (by decide) (by decide), hr _ 116 (by decide) (by decide)]; exact a7 i x, fun i x => by rw [hr _ 117 (by decide) (by decide), hr _ 117 (by decide) (by decide)]; exact a8 i x, fun i x => by rw [hr _ 119 (by decide) (by decide), hr _ 119 (by decide) (by decide)]; exact a9 i x, fun i x => by rw [hr _ 120 (by decide) (by decide), hr _ 120 (by decide) (by decide)]; exact a10 i x, fun i x => by rw [hr _ 121 (by decide) (by decide), hr _ 121 (by decide) (by decide)]; exact a11 i x, fun i x => by rw [hr _ 122 (by decide) (by decide), hr _ 122 (by decide) (by decide)]; exact a12 i x⟩
  · by_cases e : q = 81
    · subst e; exact mwp_81
    · rw [hr _ q x e, hr _ q x e]; exact a1 q x y
  · by_cases e : j = 1 ∨ j = 2 ∨ j = 3 ∨ j = 4 ∨ j = 5 ∨ j = 6 ∨ j = 7 ∨ j = 8 ∨ j = 51 ∨ j = 54
    · unfold mwp; rw [if_pos (Or.inl ⟨rfl, e⟩), if_pos (Or.inl ⟨rfl, e⟩)]
    · rw [mwp_79 e, mwp_79 e]
      exact a2 j x1 x2 x3 x4 x5 x6 x7 x8 x9 x10
theorem mdH_e (h : mwp M' = mwp M) : mdH M M' L L := by
  unfold mdH
  rw [h]
  exact mdF_rf
theorem mdH_G (h : mdG M M' L L') : mdH M M' L L' := by
  have := mdH_F h
  unfold mdH at this ⊢
  rw [mwp_up (by omega), mwp_up (by omega)] at this
  exact this
theorem mdH_row (h : mdH M M' L L') {q : Nat} (h1 : q ≠ 79) (h2 : q ≠ 81) (h3 : q < 112 ∨ 123 < q) : M' q = M q := by
  have := h.1 q h1 h3
  rw [mwp_row h1 h2, mwp_row h1 h2] at this
  exact this
theorem mdH_79 (h : mdH M M' L L') {j : Nat} (h1 : ¬ (j = 1 ∨ j = 2 ∨ j = 3 ∨ j = 4 ∨ j = 5 ∨ j = 6 ∨ j = 7 ∨ j = 8 ∨ j = 40 ∨ j = 51 ∨ j = 52 ∨ j = 54 ∨ j = 56 ∨ j = 57 ∨ j = 58)) : M' 79 j = M 79 j := by
  have := h.2.1 j (by omega) (by omega) (by omega) (by omega) (by omega) (by omega) (by omega) (by omega) (by omega) (by omega)
  rw [mwp_79 (by omega), mwp_79 (by omega)] at this
  exact this
theorem mdH_V (h : mdH M M' L L') {V : sp_V} (hV : zq_V M V) : zq_V M' V := by
  obtain ⟨a1, a2, a3, a4, a5, a6, a7, a8, a9, a10, a11, a12⟩ := h
  rw [mwp_row (by decide) (by decide), mwp_row (by decide) (by decide)] at a4 a6 a7 a8 a9 a10 a11 a12
  obtain ⟨h1, h2, h3, h4, h5, h6, h7, h8, h9, h10, h11⟩ := hV
  refine ⟨(a4 3 (by omega)).trans h1, (a4 4 (by omega)).trans h2, (a4 5 (by omega)).trans h3, fun a b ha hb => (a6 _ (by omega)).trans (h4 a b ha hb), fun t ht => (a7 _ (by omega)).trans (h5 t ht), fun t ht => (a8 _ (by omega)).trans (h6 t ht), fun k hk => ?_, (a9 4 (by omega)).trans h8, (a9 5 (by omega)).trans h9, (a9 6 (by omega)).trans h10, (a9 7 (by omega)).trans h11⟩
  have := h7 k hk
  cases hr : vRl V k with
  | none =>
    rw [hr] at this
    exact (a10 _ (by omega)).trans this
  | some cs =>
    rw [hr] at this
    obtain ⟨fr, g1, g2, g3, g4⟩ := this
    exact ⟨fr, (a10 _ (by omega)).trans g1, (a11 _ (by omega)).trans g2, g3, fun i hi => (a12 _ (by omega)).trans (g4 i hi)⟩
def mvR (M M' : zk_MI) (L L' : zk_ML) (r : Option Value) : vs_R vs_D → Prop
  | .inl (k, pl) => r = some (.int (-1)) ∧ (1 ≤ k ∧ k ≤ 5) ∧ M' 79 7 = nI k ∧ M' 79 8 = nI pl ∧ M' 79 1 = 0 ∧ M' 81 1 = M 81 1 + 1 ∧ (∀ j, j ≠ 1 → M' 81 j = M 81 j) ∧ mdH M M' L L'
  | .inr (c, D') => r = some (.int (nI c)) ∧ M' 79 7 = 0 ∧ M' 79 8 = -1 ∧ M' 79 1 = 0 ∧ M' 79 70 = 0 ∧ md_T M' L' D' ∧ (∀ q, q ≠ 113 → L' q = L q) ∧ (∀ q, q ≠ 79 → (q < 112 ∨ 123 < q) → q ≠ 126 → M' q = M q) ∧ ∀ j, ¬ (j = 1 ∨ j = 2 ∨ j = 3 ∨ j = 4 ∨ j = 5 ∨ j = 6 ∨ j = 7 ∨ j = 8 ∨ j = 40 ∨ j = 51 ∨ j = 52 ∨ j = 54 ∨ j = 56 ∨ j = 57 ∨ j = 58) → j ≠ 70 → M' 79 j = M 79 j
def mzf (M M' : zk_MI) (q i : Nat) (x : Int32) : Prop := (∀ k, k < i → M' q k = x) ∧ ∀ k, i ≤ k → M' q k = M q k
theorem mzf_0 {q : Nat} {x : Int32} : mzf M M q 0 x := ⟨fun k hk => absurd hk (Nat.not_lt_zero k), fun _ _ => rfl⟩
theorem mzf_up {q i : Nat} {x : Int32} (h : mzf M M' q i x) : mzf M (zk_up M' q i x) q (i + 1) x := by
  refine ⟨fun k hk => ?_, fun k hk => by rw [zk_up_ne (by omega)]; exact h.2 k (by omega)⟩
  by_cases e : k = i
  · rw [e]; exact zk_up_at
  · rw [zk_up_ne (by omega)]; exact h.1 k (by omega)
theorem mdF_1 (q m : Nat) (hq : (q = 112 ∧ m ≤ 3) ∨ (q = 114 ∧ m ≤ 36) ∨ q = 118 ∨ (q = 119 ∧ m ≤ 4) ∨ (q = 120 ∧ m ≤ 4)) (h1 : ∀ k, m ≤ k → M' q k = M q k) (h2 : ∀ r, r ≠ q → M' r = M r) : mdF M M' L L := by
  have cell : ∀ r i, (r = q → m ≤ i) → M' r i = M r i := fun r i h => by
    by_cases e : r = q
    · rw [e]; exact h1 i (h e)
    · rw [h2 r e]
  exact ⟨fun r a b => h2 r (by omega), fun j _ _ _ _ _ _ _ _ _ _ => by rw [h2 79 (by omega)], fun _ _ => rfl, fun i hi => cell 112 i (by omega), fun _ _ => rfl, fun i hi => cell 114 i (by omega), fun i hi => cell 116 i (by omega), fun i hi => cell 117 i (by omega), fun i hi => cell 119 i (by omega), fun i hi => cell 120 i (by omega), fun i hi => cell 121 i (by omega), fun i hi => cell 122 i (by omega)⟩
theorem vs_all_one {f : Nat → Nat} {T j c p : Nat} {D : vs_D} (h : tkK f T p ≠ -1) : vs_all f T (j + 1) c D p = vs_b (vs_one f T D p) (fun p2 D1 => vs_all f T j (c + 1) D1 p2) := by
  simp only [vs_all]
  rw [if_neg h]
  unfold vs_one
  rcases vs_st f T D p with e | ⟨p1, D1⟩
  · rfl
  · simp only [vs_b]
    rcases vs_need f T 59 p1 with e | ⟨p2, u⟩ <;> rfl
theorem cm_valley (hn : 154 ≤ n) (hP : zs_M P) {f : Nat → Nat} {T : Nat} (hT : T ≤ 1600) (ht : M 79 1 = nI T) (hf : ∀ k, k < T → M 80 k = nI (f k) ∧ f k ≤ 255) (hw : mw_ok M) (hm : Nat → Nat) : zk_C G 9 188 [.ref 79] n M L P n (fun r M' L' P' => P' = P ∧ mvR M M' L L' r (vs_all f T 70 0 (vs_0 hm) 0)) := by
  have hfb : ∀ i, i < T → f i ≤ 255 := fun i hi => (hf i hi).2
  generalize hres : vs_all f T 70 0 (vs_0 hm) 0 = R
  refine zk_meth (ow := 12) (kind := 1) (k := 0) (nL := 2) (ct := false) (l0 := [.ref 79, zk_un]) (by decide +kernel) (fun h => by cases h) (by decide +kernel) (by decide) (by decide) (fun h => absurd h (by decide)) (Nat.le_of_ble_eq_true rfl) rfl (by omega) (fun Z hZ => ?_)
  have ho := zo_M hn
  have hP2 := hP
  unfold zs_M at hP2
  have lA : ∀ (M0 : zk_MI), (∀ M9, mzf M0 M9 112 3 0 → (∀ q, q ≠ 112 → M9 q = M0 q) → Z 63 [.ref 79, .int (nI 3)] [] n M9 L P) → ∀ (j i : Nat) (M9 : zk_MI), i + j = 3 → mzf M0 M9 112 i 0 → (∀ q, q ≠ 112 → M9 q = M0 q) → Z 45 [.ref 79, .int (nI i)] [] n M9 L P := by
    intro M0 hc j
    induction j with
    | zero =>
      intro i M9 hi c1 hf
      obtain rfl : i = 3 := by omega
      refine hZ B_X12_valley_45 _ _ _ _ _ _ _ k_X12_valley_45 ?_
      simp only [B_X12_valley_45, zk_ldi_s, zk_ldl_s, zk_lda_r, zk_lda_a, zk_lda_n, zk_iv_s, zr_nil, zr_cons, zp_0, zp_s, zt_0, zt_s, zt2_0, zt2_s, zw_iconst, zw_bipush, zw_sipush, zw_lconst, zw_ldcs, zw_ldc, zw_ldcw, zw_ldc2, zw_iload_n, zw_lload_n, zw_aload_n, zw_istore_n, zw_lstore_n, zw_astore_n, zw_astoreN_n, zw_iload, zw_lload, zw_aload, zw_istore, zw_lstore, zw_astore, zw_astoreN, zw_iinc, zw_iadd, zw_isub, zw_imul, zw_iand, zw_ior, zw_ixor, zw_ishl, zw_ishr, zw_iushr, zw_idiv, zw_irem, zw_ladd, zw_lsub, zw_lmul, zw_land, zw_ldiv, zw_lrem, zw_lcmp, zw_i2l, zw_l2i, zw_dup, zw_pop, zw_dup2i, zw_goto, zw_if_eq, zw_if_ne, zw_if_lt, zw_if_ge, zw_if_gt, zw_if_le, zw_ic_eq, zw_ic_ne, zw_ic_lt, zw_ic_ge, zw_ic_gt, zw_ic_le, zw_ifnn, zw_ifnnN, zw_tsw, zw_lsw, zw_getf_l, zw_getf_r, zw_getf_i, zw_getf_z, zw_putf_i, zw_putf_z, zw_putf_l, zw_putf_r, zw_iaload, zw_caload, zw_laload, zw_aaload, zw_iastore, zw_castore, zw_lastore, zw_aastore, zw_alen, zw_newa, zw_newq, zw_new, zw_oini, zw_invs, zw_invv, zw_copy, zw_invt, zw_iret, zw_lret, zw_ret, zc_r, zc_a, zk_rvs, zk_cat2, List.getElem?_cons_zero, List.getElem?_cons_succ, Bool.false_eq_true, and_false, false_and, and_true, true_and, reduceIte, Nat.reduceEqDiff, Nat.reduceLT, Nat.reduceAdd, List.cons_append, List.nil_append, Option.toList_some, Option.toList_none, zk_cat_i, zk_cat_r, zk_cat_n, zk_same, Option.some.injEq, Value.int.injEq, Value.long.injEq, eq_self, false_implies, true_implies, zf_12, ho, hP2, zl_M, zc_n10, zc_cl, zc_in, not_true_eq_false, not_false_eq_true, (show ((3 : Int32) ≤ nI 3) = True from by decide)]
      exact hc M9 c1 hf
    | succ j ih =>
      intro i M9 hi c1 hf
      have e1 : ((3 : Int32) ≤ nI i) = False := by rw [fa_lit 3, zn_le (by omega) (by omega)]; simp; omega
      refine hZ B_X12_valley_45 _ _ _ _ _ _ _ k_X12_valley_45 ?_
      simp only [B_X12_valley_45, zk_ldi_s, zk_ldl_s, zk_lda_r, zk_lda_a, zk_lda_n, zk_iv_s, zr_nil, zr_cons, zp_0, zp_s, zt_0, zt_s, zt2_0, zt2_s, zw_iconst, zw_bipush, zw_sipush, zw_lconst, zw_ldcs, zw_ldc, zw_ldcw, zw_ldc2, zw_iload_n, zw_lload_n, zw_aload_n, zw_istore_n, zw_lstore_n, zw_astore_n, zw_astoreN_n, zw_iload, zw_lload, zw_aload, zw_istore, zw_lstore, zw_astore, zw_astoreN, zw_iinc, zw_iadd, zw_isub, zw_imul, zw_iand, zw_ior, zw_ixor, zw_ishl, zw_ishr, zw_iushr, zw_idiv, zw_irem, zw_ladd, zw_lsub, zw_lmul, zw_land, zw_ldiv, zw_lrem, zw_lcmp, zw_i2l, zw_l2i, zw_dup, zw_pop, zw_dup2i, zw_goto, zw_if_eq, zw_if_ne, zw_if_lt, zw_if_ge, zw_if_gt, zw_if_le, zw_ic_eq, zw_ic_ne, zw_ic_lt, zw_ic_ge, zw_ic_gt, zw_ic_le, zw_ifnn, zw_ifnnN, zw_tsw, zw_lsw, zw_getf_l, zw_getf_r, zw_getf_i, zw_getf_z, zw_putf_i, zw_putf_z, zw_putf_l, zw_putf_r, zw_iaload, zw_caload, zw_laload, zw_aaload, zw_iastore, zw_castore, zw_lastore, zw_aastore, zw_alen, zw_newa, zw_newq, zw_new, zw_oini, zw_invs, zw_invv, zw_copy, zw_invt, zw_iret, zw_lret, zw_ret, zc_r, zc_a, zk_rvs, zk_cat2, List.getElem?_cons_zero, List.getElem?_cons_succ, Bool.false_eq_true, and_false, false_and, and_true, true_and, reduceIte, Nat.reduceEqDiff, Nat.reduceLT, Nat.reduceAdd, List.cons_append, List.nil_append, Option.toList_some, Option.toList_none, zk_cat_i, zk_cat_r, zk_cat_n, zk_same, Option.some.injEq, Value.int.injEq, Value.long.injEq, eq_self, false_implies, true_implies, zf_12, ho, hP2, zl_M, zc_n10, zc_cl, zc_in, not_true_eq_false, not_false_eq_true, e1, nI_clamp (show i < 2 ^ 31 by omega), nI_1, vp_in_nI (show i < 6 by omega) (by omega)]
      exact ih (i + 1) _ (by omega) (mzf_up c1) (fun q hq => by rw [zk_up_row hq]; exact hf q hq)
  have lB : ∀ (M0 : zk_MI), (∀ M9, mzf M0 M9 114 36 0 → (∀ q, q ≠ 114 → M9 q = M0 q) → Z 84 [.ref 79, .int (nI 36)] [] n M9 L P) → ∀ (j i : Nat) (M9 : zk_MI), i + j = 36 → mzf M0 M9 114 i 0 → (∀ q, q ≠ 114 → M9 q = M0 q) → Z 65 [.ref 79, .int (nI i)] [] n M9 L P := by
    intro M0 hc j
    induction j with
    | zero =>
      intro i M9 hi c1 hf
      obtain rfl : i = 36 := by omega
      refine hZ B_X12_valley_65 _ _ _ _ _ _ _ k_X12_valley_65 ?_
      simp only [B_X12_valley_65, zk_ldi_s, zk_ldl_s, zk_lda_r, zk_lda_a, zk_lda_n, zk_iv_s, zr_nil, zr_cons, zp_0, zp_s, zt_0, zt_s, zt2_0, zt2_s, zw_iconst, zw_bipush, zw_sipush, zw_lconst, zw_ldcs, zw_ldc, zw_ldcw, zw_ldc2, zw_iload_n, zw_lload_n, zw_aload_n, zw_istore_n, zw_lstore_n, zw_astore_n, zw_astoreN_n, zw_iload, zw_lload, zw_aload, zw_istore, zw_lstore, zw_astore, zw_astoreN, zw_iinc, zw_iadd, zw_isub, zw_imul, zw_iand, zw_ior, zw_ixor, zw_ishl, zw_ishr, zw_iushr, zw_idiv, zw_irem, zw_ladd, zw_lsub, zw_lmul, zw_land, zw_ldiv, zw_lrem, zw_lcmp, zw_i2l, zw_l2i, zw_dup, zw_pop, zw_dup2i, zw_goto, zw_if_eq, zw_if_ne, zw_if_lt, zw_if_ge, zw_if_gt, zw_if_le, zw_ic_eq, zw_ic_ne, zw_ic_lt, zw_ic_ge, zw_ic_gt, zw_ic_le, zw_ifnn, zw_ifnnN, zw_tsw, zw_lsw, zw_getf_l, zw_getf_r, zw_getf_i, zw_getf_z, zw_putf_i, zw_putf_z, zw_putf_l, zw_putf_r, zw_iaload, zw_caload, zw_laload, zw_aaload, zw_iastore, zw_castore, zw_lastore, zw_aastore, zw_alen, zw_newa, zw_newq, zw_new, zw_oini, zw_invs, zw_invv, zw_copy, zw_invt, zw_iret, zw_lret, zw_ret, zc_r, zc_a, zk_rvs, zk_cat2, List.getElem?_cons_zero, List.getElem?_cons_succ, Bool.false_eq_true, and_false, false_and, and_true, true_and, reduceIte, Nat.reduceEqDiff, Nat.reduceLT, Nat.reduceAdd, List.cons_append, List.nil_append, Option.toList_some, Option.toList_none, zk_cat_i, zk_cat_r, zk_cat_n, zk_same, Option.some.injEq, Value.int.injEq, Value.long.injEq, eq_self, false_implies, true_implies, zf_12, ho, hP2, zl_M, zc_n10, zc_cl, zc_in, not_true_eq_false, not_false_eq_true, (show ((36 : Int32) ≤ nI 36) = True from by decide)]
      exact hc M9 c1 hf
    | succ j ih =>
      intro i M9 hi c1 hf
      have e1 : ((36 : Int32) ≤ nI i) = False := by rw [fa_lit 36, zn_le (by omega) (by omega)]; simp; omega
      refine hZ B_X12_valley_65 _ _ _ _ _ _ _ k_X12_valley_65 ?_
      simp only [B_X12_valley_65, zk_ldi_s, zk_ldl_s, zk_lda_r, zk_lda_a, zk_lda_n, zk_iv_s, zr_nil, zr_cons, zp_0, zp_s, zt_0, zt_s, zt2_0, zt2_s, zw_iconst, zw_bipush, zw_sipush, zw_lconst, zw_ldcs, zw_ldc, zw_ldcw, zw_ldc2, zw_iload_n, zw_lload_n, zw_aload_n, zw_istore_n, zw_lstore_n, zw_astore_n, zw_astoreN_n, zw_iload, zw_lload, zw_aload, zw_istore, zw_lstore, zw_astore, zw_astoreN, zw_iinc, zw_iadd, zw_isub, zw_imul, zw_iand, zw_ior, zw_ixor, zw_ishl, zw_ishr, zw_iushr, zw_idiv, zw_irem, zw_ladd, zw_lsub, zw_lmul, zw_land, zw_ldiv, zw_lrem, zw_lcmp, zw_i2l, zw_l2i, zw_dup, zw_pop, zw_dup2i, zw_goto, zw_if_eq, zw_if_ne, zw_if_lt, zw_if_ge, zw_if_gt, zw_if_le, zw_ic_eq, zw_ic_ne, zw_ic_lt, zw_ic_ge, zw_ic_gt, zw_ic_le, zw_ifnn, zw_ifnnN, zw_tsw, zw_lsw, zw_getf_l, zw_getf_r, zw_getf_i, zw_getf_z, zw_putf_i, zw_putf_z, zw_putf_l, zw_putf_r, zw_iaload, zw_caload, zw_laload, zw_aaload, zw_iastore, zw_castore, zw_lastore, zw_aastore, zw_alen, zw_newa, zw_newq, zw_new, zw_oini, zw_invs, zw_invv, zw_copy, zw_invt, zw_iret, zw_lret, zw_ret, zc_r, zc_a, zk_rvs, zk_cat2, List.getElem?_cons_zero, List.getElem?_cons_succ, Bool.false_eq_true, and_false, false_and, and_true, true_and, reduceIte, Nat.reduceEqDiff, Nat.reduceLT, Nat.reduceAdd, List.cons_append, List.nil_append, Option.toList_some, Option.toList_none, zk_cat_i, zk_cat_r, zk_cat_n, zk_same, Option.some.injEq, Value.int.injEq, Value.long.injEq, eq_self, false_implies, true_implies, zf_12, ho, hP2, zl_M, zc_n10, zc_cl, zc_in, not_true_eq_false, not_false_eq_true, e1, nI_clamp (show i < 2 ^ 31 by omega), nI_1, vp_in_nI (show i < 72 by omega) (by omega)]
      exact ih (i + 1) _ (by omega) (mzf_up c1) (fun q hq => by rw [zk_up_row hq]; exact hf q hq)
  have lC : ∀ (M0 : zk_MI), (∀ M9, mzf M0 M9 118 60 0 → (∀ q, q ≠ 118 → M9 q = M0 q) → Z 105 [.ref 79, .int (nI 60)] [] n M9 L P) → ∀ (j i : Nat) (M9 : zk_MI), i + j = 60 → mzf M0 M9 118 i 0 → (∀ q, q ≠ 118 → M9 q = M0 q) → Z 86 [.ref 79, .int (nI i)] [] n M9 L P := by
    intro M0 hc j
    induction j with
    | zero =>
      intro i M9 hi c1 hf
      obtain rfl : i = 60 := by omega
      refine hZ B_X12_valley_86 _ _ _ _ _ _ _ k_X12_valley_86 ?_
      simp only [B_X12_valley_86, zk_ldi_s, zk_ldl_s, zk_lda_r, zk_lda_a, zk_lda_n, zk_iv_s, zr_nil, zr_cons, zp_0, zp_s, zt_0, zt_s, zt2_0, zt2_s, zw_iconst, zw_bipush, zw_sipush, zw_lconst, zw_ldcs, zw_ldc, zw_ldcw, zw_ldc2, zw_iload_n, zw_lload_n, zw_aload_n, zw_istore_n, zw_lstore_n, zw_astore_n, zw_astoreN_n, zw_iload, zw_lload, zw_aload, zw_istore, zw_lstore, zw_astore, zw_astoreN, zw_iinc, zw_iadd, zw_isub, zw_imul, zw_iand, zw_ior, zw_ixor, zw_ishl, zw_ishr, zw_iushr, zw_idiv, zw_irem, zw_ladd, zw_lsub, zw_lmul, zw_land, zw_ldiv, zw_lrem, zw_lcmp, zw_i2l, zw_l2i, zw_dup, zw_pop, zw_dup2i, zw_goto, zw_if_eq, zw_if_ne, zw_if_lt, zw_if_ge, zw_if_gt, zw_if_le, zw_ic_eq, zw_ic_ne, zw_ic_lt, zw_ic_ge, zw_ic_gt, zw_ic_le, zw_ifnn, zw_ifnnN, zw_tsw, zw_lsw, zw_getf_l, zw_getf_r, zw_getf_i, zw_getf_z, zw_putf_i, zw_putf_z, zw_putf_l, zw_putf_r, zw_iaload, zw_caload, zw_laload, zw_aaload, zw_iastore, zw_castore, zw_lastore, zw_aastore, zw_alen, zw_newa, zw_newq, zw_new, zw_oini, zw_invs, zw_invv, zw_copy, zw_invt, zw_iret, zw_lret, zw_ret, zc_r, zc_a, zk_rvs, zk_cat2, List.getElem?_cons_zero, List.getElem?_cons_succ, Bool.false_eq_true, and_false, false_and, and_true, true_and, reduceIte, Nat.reduceEqDiff, Nat.reduceLT, Nat.reduceAdd, List.cons_append, List.nil_append, Option.toList_some, Option.toList_none, zk_cat_i, zk_cat_r, zk_cat_n, zk_same, Option.some.injEq, Value.int.injEq, Value.long.injEq, eq_self, false_implies, true_implies, zf_12, ho, hP2, zl_M, zc_n10, zc_cl, zc_in, not_true_eq_false, not_false_eq_true, (show ((60 : Int32) ≤ nI 60) = True from by decide)]
      exact hc M9 c1 hf
    | succ j ih =>
      intro i M9 hi c1 hf
      have e1 : ((60 : Int32) ≤ nI i) = False := by rw [fa_lit 60, zn_le (by omega) (by omega)]; simp; omega
      refine hZ B_X12_valley_86 _ _ _ _ _ _ _ k_X12_valley_86 ?_
      simp only [B_X12_valley_86, zk_ldi_s, zk_ldl_s, zk_lda_r, zk_lda_a, zk_lda_n, zk_iv_s, zr_nil, zr_cons, zp_0, zp_s, zt_0, zt_s, zt2_0, zt2_s, zw_iconst, zw_bipush, zw_sipush, zw_lconst, zw_ldcs, zw_ldc, zw_ldcw, zw_ldc2, zw_iload_n, zw_lload_n, zw_aload_n, zw_istore_n, zw_lstore_n, zw_astore_n, zw_astoreN_n, zw_iload, zw_lload, zw_aload, zw_istore, zw_lstore, zw_astore, zw_astoreN, zw_iinc, zw_iadd, zw_isub, zw_imul, zw_iand, zw_ior, zw_ixor, zw_ishl, zw_ishr, zw_iushr, zw_idiv, zw_irem, zw_ladd, zw_lsub, zw_lmul, zw_land, zw_ldiv, zw_lrem, zw_lcmp, zw_i2l, zw_l2i, zw_dup, zw_pop, zw_dup2i, zw_goto, zw_if_eq, zw_if_ne, zw_if_lt, zw_if_ge, zw_if_gt, zw_if_le, zw_ic_eq, zw_ic_ne, zw_ic_lt, zw_ic_ge, zw_ic_gt, zw_ic_le, zw_ifnn, zw_ifnnN, zw_tsw, zw_lsw, zw_getf_l, zw_getf_r, zw_getf_i, zw_getf_z, zw_putf_i, zw_putf_z, zw_putf_l, zw_putf_r, zw_iaload, zw_caload, zw_laload, zw_aaload, zw_iastore, zw_castore, zw_lastore, zw_aastore, zw_alen, zw_newa, zw_newq, zw_new, zw_oini, zw_invs, zw_invv, zw_copy, zw_invt, zw_iret, zw_lret, zw_ret, zc_r, zc_a, zk_rvs, zk_cat2, List.getElem?_cons_zero, List.getElem?_cons_succ, Bool.false_eq_true, and_false, false_and, and_true, true_and, reduceIte, Nat.reduceEqDiff, Nat.reduceLT, Nat.reduceAdd, List.cons_append, List.nil_append, Option.toList_some, Option.toList_none, zk_cat_i, zk_cat_r, zk_cat_n, zk_same, Option.some.injEq, Value.int.injEq, Value.long.injEq, eq_self, false_implies, true_implies, zf_12, ho, hP2, zl_M, zc_n10, zc_cl, zc_in, not_true_eq_false, not_false_eq_true, e1, nI_clamp (show i < 2 ^ 31 by omega), nI_1, vp_in_nI (show i < 120 by omega) (by omega)]
      exact ih (i + 1) _ (by omega) (mzf_up c1) (fun q hq => by rw [zk_up_row hq]; exact hf q hq)
  have lD : ∀ (M0 : zk_MI), (∀ M9, mzf M0 M9 120 4 (-1) → (∀ q, q ≠ 120 → M9 q = M0 q) → Z 156 [.ref 79, .int (nI 4)] [] n M9 L P) → ∀ (j i : Nat) (M9 : zk_MI), i + j = 4 → mzf M0 M9 120 i (-1) → (∀ q, q ≠ 120 → M9 q = M0 q) → Z 138 [.ref 79, .int (nI i)] [] n M9 L P := by
    intro M0 hc j
    induction j with
    | zero =>
      intro i M9 hi c1 hf
      obtain rfl : i = 4 := by omega
      refine hZ B_X12_valley_138 _ _ _ _ _ _ _ k_X12_valley_138 ?_
      simp only [B_X12_valley_138, zk_ldi_s, zk_ldl_s, zk_lda_r, zk_lda_a, zk_lda_n, zk_iv_s, zr_nil, zr_cons, zp_0, zp_s, zt_0, zt_s, zt2_0, zt2_s, zw_iconst, zw_bipush, zw_sipush, zw_lconst, zw_ldcs, zw_ldc, zw_ldcw, zw_ldc2, zw_iload_n, zw_lload_n, zw_aload_n, zw_istore_n, zw_lstore_n, zw_astore_n, zw_astoreN_n, zw_iload, zw_lload, zw_aload, zw_istore, zw_lstore, zw_astore, zw_astoreN, zw_iinc, zw_iadd, zw_isub, zw_imul, zw_iand, zw_ior, zw_ixor, zw_ishl, zw_ishr, zw_iushr, zw_idiv, zw_irem, zw_ladd, zw_lsub, zw_lmul, zw_land, zw_ldiv, zw_lrem, zw_lcmp, zw_i2l, zw_l2i, zw_dup, zw_pop, zw_dup2i, zw_goto, zw_if_eq, zw_if_ne, zw_if_lt, zw_if_ge, zw_if_gt, zw_if_le, zw_ic_eq, zw_ic_ne, zw_ic_lt, zw_ic_ge, zw_ic_gt, zw_ic_le, zw_ifnn, zw_ifnnN, zw_tsw, zw_lsw, zw_getf_l, zw_getf_r, zw_getf_i, zw_getf_z, zw_putf_i, zw_putf_z, zw_putf_l, zw_putf_r, zw_iaload, zw_caload, zw_laload, zw_aaload, zw_iastore, zw_castore, zw_lastore, zw_aastore, zw_alen, zw_newa, zw_newq, zw_new, zw_oini, zw_invs, zw_invv, zw_copy, zw_invt, zw_iret, zw_lret, zw_ret, zc_r, zc_a, zk_rvs, zk_cat2, List.getElem?_cons_zero, List.getElem?_cons_succ, Bool.false_eq_true, and_false, false_and, and_true, true_and, reduceIte, Nat.reduceEqDiff, Nat.reduceLT, Nat.reduceAdd, List.cons_append, List.nil_append, Option.toList_some, Option.toList_none, zk_cat_i, zk_cat_r, zk_cat_n, zk_same, Option.some.injEq, Value.int.injEq, Value.long.injEq, eq_self, false_implies, true_implies, zf_12, ho, hP2, zl_M, zc_n10, zc_cl, zc_in, not_true_eq_false, not_false_eq_true, (show ((4 : Int32) ≤ nI 4) = True from by decide)]
      exact hc M9 c1 hf
    | succ j ih =>
      intro i M9 hi c1 hf
      have e1 : ((4 : Int32) ≤ nI i) = False := by rw [fa_lit 4, zn_le (by omega) (by omega)]; simp; omega
      refine hZ B_X12_valley_138 _ _ _ _ _ _ _ k_X12_valley_138 ?_
      simp only [B_X12_valley_138, zk_ldi_s, zk_ldl_s, zk_lda_r, zk_lda_a, zk_lda_n, zk_iv_s, zr_nil, zr_cons, zp_0, zp_s, zt_0, zt_s, zt2_0, zt2_s, zw_iconst, zw_bipush, zw_sipush, zw_lconst, zw_ldcs, zw_ldc, zw_ldcw, zw_ldc2, zw_iload_n, zw_lload_n, zw_aload_n, zw_istore_n, zw_lstore_n, zw_astore_n, zw_astoreN_n, zw_iload, zw_lload, zw_aload, zw_istore, zw_lstore, zw_astore, zw_astoreN, zw_iinc, zw_iadd, zw_isub, zw_imul, zw_iand, zw_ior, zw_ixor, zw_ishl, zw_ishr, zw_iushr, zw_idiv, zw_irem, zw_ladd, zw_lsub, zw_lmul, zw_land, zw_ldiv, zw_lrem, zw_lcmp, zw_i2l, zw_l2i, zw_dup, zw_pop, zw_dup2i, zw_goto, zw_if_eq, zw_if_ne, zw_if_lt, zw_if_ge, zw_if_gt, zw_if_le, zw_ic_eq, zw_ic_ne, zw_ic_lt, zw_ic_ge, zw_ic_gt, zw_ic_le, zw_ifnn, zw_ifnnN, zw_tsw, zw_lsw, zw_getf_l, zw_getf_r, zw_getf_i, zw_getf_z, zw_putf_i, zw_putf_z, zw_putf_l, zw_putf_r, zw_iaload, zw_caload, zw_laload, zw_aaload, zw_iastore, zw_castore, zw_lastore, zw_aastore, zw_alen, zw_newa, zw_newq, zw_new, zw_oini, zw_invs, zw_invv, zw_copy, zw_invt, zw_iret, zw_lret, zw_ret, zc_r, zc_a, zk_rvs, zk_cat2, List.getElem?_cons_zero, List.getElem?_cons_succ, Bool.false_eq_true, and_false, false_and, and_true, true_and, reduceIte, Nat.reduceEqDiff, Nat.reduceLT, Nat.reduceAdd, List.cons_append, List.nil_append, Option.toList_some, Option.toList_none, zk_cat_i, zk_cat_r, zk_cat_n, zk_same, Option.some.injEq, Value.int.injEq, Value.long.injEq, eq_self, false_implies, true_implies, zf_12, ho, hP2, zl_M, zc_n10, zc_cl, zc_in, not_true_eq_false, not_false_eq_true, e1, nI_clamp (show i < 2 ^ 31 by omega), nI_1, vp_in_nI (show i < 8 by omega) (by omega)]
      exact ih (i + 1) _ (by omega) (mzf_up c1) (fun q hq => by rw [zk_up_row hq]; exact hf q hq)
  /- the end -/
  have bad178 : ∀ (M9 : zk_MI) (L9 : zk_ML) (v1 : Value) (k pl : Nat), R = .inl (k, pl) → (1 ≤ k ∧ k ≤ 5) → M9 79 5 = nI k → M9 79 6 = nI pl → M9 79 1 = 0 → M9 81 = M 81 → mdH M M9 L L9 → Z 178 [.ref 79, v1] [] n M9 L9 P := by
    intro M9 L9 v1 k pl hR h1 h2 h3 h4 h5 h6
    have hz := yv_nz h1 h2
    generalize hMA : zk_up (zk_up M9 79 7 (nI k)) 79 8 (nI pl) = MA
    have u5 : zk_up M9 79 7 (nI k) 79 6 = nI pl := by rw [zk_up_ne (by decide)]; exact h3
    have rA : ∀ j, j ≠ 7 → j ≠ 8 → MA 79 j = M9 79 j := fun j a b => by rw [← hMA, zk_up_ne (by omega), zk_up_ne (by omega)]
    have r81 : MA 81 = M 81 := by rw [← hMA, zk_up_row (by decide), zk_up_row (by decide)]; exact h5
    have a5 : MA 79 5 = nI k := by rw [rA 5 (by decide) (by decide)]; exact h2
    have hzA : ¬ MA 79 5 = 0 := by rw [a5]; rw [← h2]; exact hz
    have hkz : ¬ nI k = 0 := by rw [← h2]; exact hz
    have ewp : mwp MA = mwp M9 := by rw [← hMA, mwp_up (by omega), mwp_up (by omega)]
    refine hZ B_X12_valley_178 _ _ _ _ _ _ _ k_X12_valley_178 ?_
    simp only [B_X12_valley_178, zk_ldi_s, zk_ldl_s, zk_lda_r, zk_lda_a, zk_lda_n, zk_iv_s, zr_nil, zr_cons, zp_0, zp_s, zt_0, zt_s, zt2_0, zt2_s, zw_iconst, zw_bipush, zw_sipush, zw_lconst, zw_ldcs, zw_ldc, zw_ldcw, zw_ldc2, zw_iload_n, zw_lload_n, zw_aload_n, zw_istore_n, zw_lstore_n, zw_astore_n, zw_astoreN_n, zw_iload, zw_lload, zw_aload, zw_istore, zw_lstore, zw_astore, zw_astoreN, zw_iinc, zw_iadd, zw_isub, zw_imul, zw_iand, zw_ior, zw_ixor, zw_ishl, zw_ishr, zw_iushr, zw_idiv, zw_irem, zw_ladd, zw_lsub, zw_lmul, zw_land, zw_ldiv, zw_lrem, zw_lcmp, zw_i2l, zw_l2i, zw_dup, zw_pop, zw_dup2i, zw_goto, zw_if_eq, zw_if_ne, zw_if_lt, zw_if_ge, zw_if_gt, zw_if_le, zw_ic_eq, zw_ic_ne, zw_ic_lt, zw_ic_ge, zw_ic_gt, zw_ic_le, zw_ifnn, zw_ifnnN, zw_tsw, zw_lsw, zw_getf_l, zw_getf_r, zw_getf_i, zw_getf_z, zw_putf_i, zw_putf_z, zw_putf_l, zw_putf_r, zw_iaload, zw_caload, zw_laload, zw_aaload, zw_iastore, zw_castore, zw_lastore, zw_aastore, zw_alen, zw_newa, zw_newq, zw_new, zw_oini, zw_invs, zw_invv, zw_copy, zw_invt, zw_iret, zw_lret, zw_ret, zc_r, zc_a, zk_rvs, zk_cat2, List.getElem?_cons_zero, List.getElem?_cons_succ, Bool.false_eq_true, and_false, false_and, and_true, true_and, reduceIte, Nat.reduceEqDiff, Nat.reduceLT, Nat.reduceAdd, List.cons_append, List.nil_append, Option.toList_some, Option.toList_none, zk_cat_i, zk_cat_r, zk_cat_n, zk_same, Option.some.injEq, Value.int.injEq, Value.long.injEq, eq_self, false_implies, true_implies, zf_12, ho, hP2, zl_M, zc_n10, zc_cl, zc_in, not_true_eq_false, not_false_eq_true, h2, u5, hMA, a5, hkz, hzA, r81]
    rw [hR]
    have a7 : MA 79 7 = nI k := by rw [← hMA, zk_up_ne (by decide)]; exact zk_up_at
    have a8 : MA 79 8 = nI pl := by rw [← hMA]; exact zk_up_at
    refine ⟨rfl, h1, by rw [zk_up_row (by decide)]; exact a7, by rw [zk_up_row (by decide)]; exact a8, by rw [zk_up_row (by decide), rA 1 (by decide) (by decide)]; exact h4, zk_up_at, fun j hj => by rw [zk_up_ne (by omega), r81], mdH_tr h6 (mdH_e (by rw [mwp_u81, ewp]))⟩
  have good178 : ∀ (M9 : zk_MI) (L9 : zk_ML) (v1 : Value) (c p : Nat) (D : vs_D) (Cs : List Int), R = .inr (c, D) → vs_ok D → mt_at M9 f T p → md_D M9 L9 D Cs → Cs.length ≤ 1600 → M9 79 51 = nI c → M9 79 1 = 0 → M9 81 = M 81 → mdH M M9 L L9 → Z 178 [.ref 79, v1] [] n M9 L9 P := by
    intro M9 L9 v1 c p D Cs hR hok hat hDD hl h51 h4 h5 h6
    have h2 : M9 79 5 = 0 := hat.2.2.2.2.1
    have h3 := mt_6 hat
    generalize hMA : zk_up (zk_up M9 79 7 0) 79 8 (-1) = MA
    have u5 : ∀ x, zk_up M9 79 7 x 79 6 = -1 := fun x => by rw [zk_up_ne (by decide)]; exact h3
    have rA : ∀ j, j ≠ 7 → j ≠ 8 → MA 79 j = M9 79 j := fun j a b => by rw [← hMA, zk_up_ne (by omega), zk_up_ne (by omega)]
    have a5 : MA 79 5 = 0 := by rw [rA 5 (by decide) (by decide)]; exact h2
    have ewp : mwp MA = mwp M9 := by rw [← hMA, mwp_up (by omega), mwp_up (by omega)]
    have hDA : md_D MA L9 D Cs := by rw [← hMA]; exact md_D_79 (md_D_79 hDD (by decide)) (by decide)
    have r81 : MA 81 = M 81 := by rw [← hMA, zk_up_row (by decide), zk_up_row (by decide)]; exact h5
    have hH := mdH_tr h6 (mdH_e (L := L9) ewp)
    refine hZ B_X12_valley_178 _ _ _ _ _ _ _ k_X12_valley_178 ?_
    simp only [B_X12_valley_178, zk_ldi_s, zk_ldl_s, zk_lda_r, zk_lda_a, zk_lda_n, zk_iv_s, zr_nil, zr_cons, zp_0, zp_s, zt_0, zt_s, zt2_0, zt2_s, zw_iconst, zw_bipush, zw_sipush, zw_lconst, zw_ldcs, zw_ldc, zw_ldcw, zw_ldc2, zw_iload_n, zw_lload_n, zw_aload_n, zw_istore_n, zw_lstore_n, zw_astore_n, zw_astoreN_n, zw_iload, zw_lload, zw_aload, zw_istore, zw_lstore, zw_astore, zw_astoreN, zw_iinc, zw_iadd, zw_isub, zw_imul, zw_iand, zw_ior, zw_ixor, zw_ishl, zw_ishr, zw_iushr, zw_idiv, zw_irem, zw_ladd, zw_lsub, zw_lmul, zw_land, zw_ldiv, zw_lrem, zw_lcmp, zw_i2l, zw_l2i, zw_dup, zw_pop, zw_dup2i, zw_goto, zw_if_eq, zw_if_ne, zw_if_lt, zw_if_ge, zw_if_gt, zw_if_le, zw_ic_eq, zw_ic_ne, zw_ic_lt, zw_ic_ge, zw_ic_gt, zw_ic_le, zw_ifnn, zw_ifnnN, zw_tsw, zw_lsw, zw_getf_l, zw_getf_r, zw_getf_i, zw_getf_z, zw_putf_i, zw_putf_z, zw_putf_l, zw_putf_r, zw_iaload, zw_caload, zw_laload, zw_aaload, zw_iastore, zw_castore, zw_lastore, zw_aastore, zw_alen, zw_newa, zw_newq, zw_new, zw_oini, zw_invs, zw_invv, zw_copy, zw_invt, zw_iret, zw_lret, zw_ret, zc_r, zc_a, zk_rvs, zk_cat2, List.getElem?_cons_zero, List.getElem?_cons_succ, Bool.false_eq_true, and_false, false_and, and_true, true_and, reduceIte, Nat.reduceEqDiff, Nat.reduceLT, Nat.reduceAdd, List.cons_append, List.nil_append, Option.toList_some, Option.toList_none, zk_cat_i, zk_cat_r, zk_cat_n, zk_same, Option.some.injEq, Value.int.injEq, Value.long.injEq, eq_self, false_implies, true_implies, zf_12, ho, hP2, zl_M, zc_n10, zc_cl, zc_in, not_true_eq_false, not_false_eq_true, h2, u5, hMA, a5]
    refine hZ B_X12_valley_213 _ _ _ _ _ _ _ k_X12_valley_213 ?_
    simp only [B_X12_valley_213, zk_ldi_s, zk_ldl_s, zk_lda_r, zk_lda_a, zk_lda_n, zk_iv_s, zr_nil, zr_cons, zp_0, zp_s, zt_0, zt_s, zt2_0, zt2_s, zw_iconst, zw_bipush, zw_sipush, zw_lconst, zw_ldcs, zw_ldc, zw_ldcw, zw_ldc2, zw_iload_n, zw_lload_n, zw_aload_n, zw_istore_n, zw_lstore_n, zw_astore_n, zw_astoreN_n, zw_iload, zw_lload, zw_aload, zw_istore, zw_lstore, zw_astore, zw_astoreN, zw_iinc, zw_iadd, zw_isub, zw_imul, zw_iand, zw_ior, zw_ixor, zw_ishl, zw_ishr, zw_iushr, zw_idiv, zw_irem, zw_ladd, zw_lsub, zw_lmul, zw_land, zw_ldiv, zw_lrem, zw_lcmp, zw_i2l, zw_l2i, zw_dup, zw_pop, zw_dup2i, zw_goto, zw_if_eq, zw_if_ne, zw_if_lt, zw_if_ge, zw_if_gt, zw_if_le, zw_ic_eq, zw_ic_ne, zw_ic_lt, zw_ic_ge, zw_ic_gt, zw_ic_le, zw_ifnn, zw_ifnnN, zw_tsw, zw_lsw, zw_getf_l, zw_getf_r, zw_getf_i, zw_getf_z, zw_putf_i, zw_putf_z, zw_putf_l, zw_putf_r, zw_iaload, zw_caload, zw_laload, zw_aaload, zw_iastore, zw_castore, zw_lastore, zw_aastore, zw_alen, zw_newa, zw_newq, zw_new, zw_oini, zw_invs, zw_invv, zw_copy, zw_invt, zw_iret, zw_lret, zw_ret, zc_r, zc_a, zk_rvs, zk_cat2, List.getElem?_cons_zero, List.getElem?_cons_succ, Bool.false_eq_true, and_false, false_and, and_true, true_and, reduceIte, Nat.reduceEqDiff, Nat.reduceLT, Nat.reduceAdd, List.cons_append, List.nil_append, Option.toList_some, Option.toList_none, zk_cat_i, zk_cat_r, zk_cat_n, zk_same, Option.some.injEq, Value.int.injEq, Value.long.injEq, eq_self, false_implies, true_implies, zf_12, ho, hP2, zl_M, zc_n10, zc_cl, zc_in, not_true_eq_false, not_false_eq_true]
    refine zk_callI (cm_stands hn hP hok hDA hl) (by first | decide | omega) (Nat.le_refl _) (Nat.le_of_ble_eq_true rfl) (fun r M8 L8 P9 hpost => ?_)
    obtain ⟨rfl, hP9, x1, x2, x3, x4, x5⟩ := hpost
    have hP8 := hP9.symm
    clear hP9
    subst hP8
    have c51 : M8 79 51 = nI c := by rw [x3 51 (by decide), rA 51 (by decide) (by decide)]; exact h51
    simp only [zk_ldi_s, zk_ldl_s, zk_lda_r, zk_lda_a, zk_lda_n, zk_iv_s, zr_nil, zr_cons, zp_0, zp_s, zt_0, zt_s, zt2_0, zt2_s, zw_iconst, zw_bipush, zw_sipush, zw_lconst, zw_ldcs, zw_ldc, zw_ldcw, zw_ldc2, zw_iload_n, zw_lload_n, zw_aload_n, zw_istore_n, zw_lstore_n, zw_astore_n, zw_astoreN_n, zw_iload, zw_lload, zw_aload, zw_istore, zw_lstore, zw_astore, zw_astoreN, zw_iinc, zw_iadd, zw_isub, zw_imul, zw_iand, zw_ior, zw_ixor, zw_ishl, zw_ishr, zw_iushr, zw_idiv, zw_irem, zw_ladd, zw_lsub, zw_lmul, zw_land, zw_ldiv, zw_lrem, zw_lcmp, zw_i2l, zw_l2i, zw_dup, zw_pop, zw_dup2i, zw_goto, zw_if_eq, zw_if_ne, zw_if_lt, zw_if_ge, zw_if_gt, zw_if_le, zw_ic_eq, zw_ic_ne, zw_ic_lt, zw_ic_ge, zw_ic_gt, zw_ic_le, zw_ifnn, zw_ifnnN, zw_tsw, zw_lsw, zw_getf_l, zw_getf_r, zw_getf_i, zw_getf_z, zw_putf_i, zw_putf_z, zw_putf_l, zw_putf_r, zw_iaload, zw_caload, zw_laload, zw_aaload, zw_iastore, zw_castore, zw_lastore, zw_aastore, zw_alen, zw_newa, zw_newq, zw_new, zw_oini, zw_invs, zw_invv, zw_copy, zw_invt, zw_iret, zw_lret, zw_ret, zc_r, zc_a, zk_rvs, zk_cat2, List.getElem?_cons_zero, List.getElem?_cons_succ, Bool.false_eq_true, and_false, false_and, and_true, true_and, reduceIte, Nat.reduceEqDiff, Nat.reduceLT, Nat.reduceAdd, List.cons_append, List.nil_append, Option.toList_some, Option.toList_none, zk_cat_i, zk_cat_r, zk_cat_n, zk_same, Option.some.injEq, Value.int.injEq, Value.long.injEq, eq_self, false_implies, true_implies, zf_12, ho, hP2, zl_M, zc_n10, zc_cl, zc_in, not_true_eq_false, not_false_eq_true, c51]
    rw [hR]
    have a7 : MA 79 7 = 0 := by rw [← hMA, zk_up_ne (by decide)]; exact zk_up_at
    have a8 : MA 79 8 = -1 := by rw [← hMA]; exact zk_up_at
    refine ⟨rfl, by rw [x3 7 (by decide)]; exact a7, by rw [x3 8 (by decide)]; exact a8, by rw [x3 1 (by decide), rA 1 (by decide) (by decide)]; exact h4, x2, x1, fun q hq => by rw [x4 q hq]; exact hH.2.2.1 q hq, fun q a b c => ?_, fun j a b => by rw [x3 j b]; exact mdH_79 hH a⟩
    rw [x5 q a (by omega) c]
    by_cases e : q = 81
    · rw [e]; exact r81
    · exact mdH_row hH a e (by omega)
  /- STATEMENTS -/
  have loop : ∀ (j c p : Nat) (D : vs_D) (Cs : List Int) (M9 : zk_MI) (L9 : zk_ML) (v1 : Value), c + j = 70 → vs_all f T j c D p = R → vs_ok D → mt_at M9 f T p → mw_ok M9 → md_D M9 L9 D Cs → Cs.length ≤ p → M9 79 51 = nI c → M9 79 1 = 0 → M9 81 = M 81 → mdH M M9 L L9 → Z 156 [.ref 79, v1] [] n M9 L9 P := by
    intro j
    induction j with
    | zero =>
      intro c p D Cs M9 L9 v1 hc hq hok hat hw9 hDD hl h51 h1 h81 hH
      have hci := mt_ci hat
      have e1 : (iI (tk_ci f T p) = -1) = (tk_ci f T p = -1) := by rw [zi_m1, iI_eq (by omega) (by omega) (by omega) (by omega)]
      generalize hMB : zk_up M9 79 2 (nI (tkS f T p)) = MB
      have hatB : mt_at MB f T p := by rw [← hMB]; exact mt_at_look hat
      have hmB : mtF M9 MB := by rw [← hMB]; exact mtF_up (by omega)
      have hHB := mdH_tr hH (mdH_F (mdF_m (L := L9) hmB))
      refine hZ B_X12_valley_156 _ _ _ _ _ _ _ k_X12_valley_156 ?_
      simp only [B_X12_valley_156, zk_ldi_s, zk_ldl_s, zk_lda_r, zk_lda_a, zk_lda_n, zk_iv_s, zr_nil, zr_cons, zp_0, zp_s, zt_0, zt_s, zt2_0, zt2_s, zw_iconst, zw_bipush, zw_sipush, zw_lconst, zw_ldcs, zw_ldc, zw_ldcw, zw_ldc2, zw_iload_n, zw_lload_n, zw_aload_n, zw_istore_n, zw_lstore_n, zw_astore_n, zw_astoreN_n, zw_iload, zw_lload, zw_aload, zw_istore, zw_lstore, zw_astore, zw_astoreN, zw_iinc, zw_iadd, zw_isub, zw_imul, zw_iand, zw_ior, zw_ixor, zw_ishl, zw_ishr, zw_iushr, zw_idiv, zw_irem, zw_ladd, zw_lsub, zw_lmul, zw_land, zw_ldiv, zw_lrem, zw_lcmp, zw_i2l, zw_l2i, zw_dup, zw_pop, zw_dup2i, zw_goto, zw_if_eq, zw_if_ne, zw_if_lt, zw_if_ge, zw_if_gt, zw_if_le, zw_ic_eq, zw_ic_ne, zw_ic_lt, zw_ic_ge, zw_ic_gt, zw_ic_le, zw_ifnn, zw_ifnnN, zw_tsw, zw_lsw, zw_getf_l, zw_getf_r, zw_getf_i, zw_getf_z, zw_putf_i, zw_putf_z, zw_putf_l, zw_putf_r, zw_iaload, zw_caload, zw_laload, zw_aaload, zw_iastore, zw_castore, zw_lastore, zw_aastore, zw_alen, zw_newa, zw_newq, zw_new, zw_oini, zw_invs, zw_invv, zw_copy, zw_invt, zw_iret, zw_lret, zw_ret, zc_r, zc_a, zk_rvs, zk_cat2, List.getElem?_cons_zero, List.getElem?_cons_succ, Bool.false_eq_true, and_false, false_and, and_true, true_and, reduceIte, Nat.reduceEqDiff, Nat.reduceLT, Nat.reduceAdd, List.cons_append, List.nil_append, Option.toList_some, Option.toList_none, zk_cat_i, zk_cat_r, zk_cat_n, zk_same, Option.some.injEq, Value.int.injEq, Value.long.injEq, eq_self, false_implies, true_implies, zf_12, ho, hP2, zl_M, zc_n10, zc_cl, zc_in, not_true_eq_false, not_false_eq_true, hat.2.2.2.2.1]
      refine zk_callS (cm_look hn hP hat) (by first | decide | omega) (Nat.le_refl _) (Nat.le_of_ble_eq_true rfl) ?_
      simp only [zk_ldi_s, zk_ldl_s, zk_lda_r, zk_lda_a, zk_lda_n, zk_iv_s, zr_nil, zr_cons, zp_0, zp_s, zt_0, zt_s, zt2_0, zt2_s, zw_iconst, zw_bipush, zw_sipush, zw_lconst, zw_ldcs, zw_ldc, zw_ldcw, zw_ldc2, zw_iload_n, zw_lload_n, zw_aload_n, zw_istore_n, zw_lstore_n, zw_astore_n, zw_astoreN_n, zw_iload, zw_lload, zw_aload, zw_istore, zw_lstore, zw_astore, zw_astoreN, zw_iinc, zw_iadd, zw_isub, zw_imul, zw_iand, zw_ior, zw_ixor, zw_ishl, zw_ishr, zw_iushr, zw_idiv, zw_irem, zw_ladd, zw_lsub, zw_lmul, zw_land, zw_ldiv, zw_lrem, zw_lcmp, zw_i2l, zw_l2i, zw_dup, zw_pop, zw_dup2i, zw_goto, zw_if_eq, zw_if_ne, zw_if_lt, zw_if_ge, zw_if_gt, zw_if_le, zw_ic_eq, zw_ic_ne, zw_ic_lt, zw_ic_ge, zw_ic_gt, zw_ic_le, zw_ifnn, zw_ifnnN, zw_tsw, zw_lsw, zw_getf_l, zw_getf_r, zw_getf_i, zw_getf_z, zw_putf_i, zw_putf_z, zw_putf_l, zw_putf_r, zw_iaload, zw_caload, zw_laload, zw_aaload, zw_iastore, zw_castore, zw_lastore, zw_aastore, zw_alen, zw_newa, zw_newq, zw_new, zw_oini, zw_invs, zw_invv, zw_copy, zw_invt, zw_iret, zw_lret, zw_ret, zc_r, zc_a, zk_rvs, zk_cat2, List.getElem?_cons_zero, List.getElem?_cons_succ, Bool.false_eq_true, and_false, false_and, and_true, true_and, reduceIte, Nat.reduceEqDiff, Nat.reduceLT, Nat.reduceAdd, List.cons_append, List.nil_append, Option.toList_some, Option.toList_none, zk_cat_i, zk_cat_r, zk_cat_n, zk_same, Option.some.injEq, Value.int.injEq, Value.long.injEq, eq_self, false_implies, true_implies, zf_12, ho, hP2, zl_M, zc_n10, zc_cl, zc_in, not_true_eq_false, not_false_eq_true, e1, hMB]
      have hDB := md_D_m hDD hmB
      have b51 : MB 79 51 = nI c := by rw [hmB.2 51 (by decide) (by decide) (by decide) (by decide) (by decide)]; exact h51
      have b1 : MB 79 1 = 0 := by rw [hmB.2 1 (by decide) (by decide) (by decide) (by decide) (by decide)]; exact h1
      have b81 : MB 81 = M 81 := by rw [hmB.1 81 (by decide)]; exact h81
      have b2 : MB 79 2 = nI (tkS f T p) := by rw [← hMB]; exact zk_up_at
      simp only [vs_all] at hq
      refine ⟨fun g => ?_, fun g => ?_⟩
      rotate_left
      · have hk : tkK f T p ≠ -1 := fun z => g ((tk_ci1 hat.2.2.2.1).mpr z)
        rw [if_neg hk] at hq
        refine zk_callI (cm_statementTold hn hP hok hk hatB b2 (mw_ok_fr hw9 hmB.1) hDB hl b51 (by omega)) (by first | decide | omega) (Nat.le_refl _) (Nat.le_of_ble_eq_true rfl) (fun r M8 L8 P9 hpost => ?_)
        obtain ⟨rfl, hP9, x1⟩ := hpost
        have hP8 := hP9.symm
        clear hP9
        subst hP8
        rw [if_pos (show c = 70 by omega)] at x1
        obtain ⟨y1, y2, y3, y4⟩ := x1
        have hz := yv_nz y1 y2
        simp only [zk_ldi_s, zk_ldl_s, zk_lda_r, zk_lda_a, zk_lda_n, zk_iv_s, zr_nil, zr_cons, zp_0, zp_s, zt_0, zt_s, zt2_0, zt2_s, zw_iconst, zw_bipush, zw_sipush, zw_lconst, zw_ldcs, zw_ldc, zw_ldcw, zw_ldc2, zw_iload_n, zw_lload_n, zw_aload_n, zw_istore_n, zw_lstore_n, zw_astore_n, zw_astoreN_n, zw_iload, zw_lload, zw_aload, zw_istore, zw_lstore, zw_astore, zw_astoreN, zw_iinc, zw_iadd, zw_isub, zw_imul, zw_iand, zw_ior, zw_ixor, zw_ishl, zw_ishr, zw_iushr, zw_idiv, zw_irem, zw_ladd, zw_lsub, zw_lmul, zw_land, zw_ldiv, zw_lrem, zw_lcmp, zw_i2l, zw_l2i, zw_dup, zw_pop, zw_dup2i, zw_goto, zw_if_eq, zw_if_ne, zw_if_lt, zw_if_ge, zw_if_gt, zw_if_le, zw_ic_eq, zw_ic_ne, zw_ic_lt, zw_ic_ge, zw_ic_gt, zw_ic_le, zw_ifnn, zw_ifnnN, zw_tsw, zw_lsw, zw_getf_l, zw_getf_r, zw_getf_i, zw_getf_z, zw_putf_i, zw_putf_z, zw_putf_l, zw_putf_r, zw_iaload, zw_caload, zw_laload, zw_aaload, zw_iastore, zw_castore, zw_lastore, zw_aastore, zw_alen, zw_newa, zw_newq, zw_new, zw_oini, zw_invs, zw_invv, zw_copy, zw_invt, zw_iret, zw_lret, zw_ret, zc_r, zc_a, zk_rvs, zk_cat2, List.getElem?_cons_zero, List.getElem?_cons_succ, Bool.false_eq_true, and_false, false_and, and_true, true_and, reduceIte, Nat.reduceEqDiff, Nat.reduceLT, Nat.reduceAdd, List.cons_append, List.nil_append, Option.toList_some, Option.toList_none, zk_cat_i, zk_cat_r, zk_cat_n, zk_same, Option.some.injEq, Value.int.injEq, Value.long.injEq, eq_self, false_implies, true_implies, zf_12, ho, hP2, zl_M, zc_n10, zc_cl, zc_in, not_true_eq_false, not_false_eq_true]
        refine hZ B_X12_valley_156 _ _ _ _ _ _ _ k_X12_valley_156 ?_
        simp only [B_X12_valley_156, zk_ldi_s, zk_ldl_s, zk_lda_r, zk_lda_a, zk_lda_n, zk_iv_s, zr_nil, zr_cons, zp_0, zp_s, zt_0, zt_s, zt2_0, zt2_s, zw_iconst, zw_bipush, zw_sipush, zw_lconst, zw_ldcs, zw_ldc, zw_ldcw, zw_ldc2, zw_iload_n, zw_lload_n, zw_aload_n, zw_istore_n, zw_lstore_n, zw_astore_n, zw_astoreN_n, zw_iload, zw_lload, zw_aload, zw_istore, zw_lstore, zw_astore, zw_astoreN, zw_iinc, zw_iadd, zw_isub, zw_imul, zw_iand, zw_ior, zw_ixor, zw_ishl, zw_ishr, zw_iushr, zw_idiv, zw_irem, zw_ladd, zw_lsub, zw_lmul, zw_land, zw_ldiv, zw_lrem, zw_lcmp, zw_i2l, zw_l2i, zw_dup, zw_pop, zw_dup2i, zw_goto, zw_if_eq, zw_if_ne, zw_if_lt, zw_if_ge, zw_if_gt, zw_if_le, zw_ic_eq, zw_ic_ne, zw_ic_lt, zw_ic_ge, zw_ic_gt, zw_ic_le, zw_ifnn, zw_ifnnN, zw_tsw, zw_lsw, zw_getf_l, zw_getf_r, zw_getf_i, zw_getf_z, zw_putf_i, zw_putf_z, zw_putf_l, zw_putf_r, zw_iaload, zw_caload, zw_laload, zw_aaload, zw_iastore, zw_castore, zw_lastore, zw_aastore, zw_alen, zw_newa, zw_newq, zw_new, zw_oini, zw_invs, zw_invv, zw_copy, zw_invt, zw_iret, zw_lret, zw_ret, zc_r, zc_a, zk_rvs, zk_cat2, List.getElem?_cons_zero, List.getElem?_cons_succ, Bool.false_eq_true, and_false, false_and, and_true, true_and, reduceIte, Nat.reduceEqDiff, Nat.reduceLT, Nat.reduceAdd, List.cons_append, List.nil_append, Option.toList_some, Option.toList_none, zk_cat_i, zk_cat_r, zk_cat_n, zk_same, Option.some.injEq, Value.int.injEq, Value.long.injEq, eq_self, false_implies, true_implies, zf_12, ho, hP2, zl_M, zc_n10, zc_cl, zc_in, not_true_eq_false, not_false_eq_true, hz]
        exact bad178 M8 L8 _ 5 _ hq.symm y1 y2 y3 (by rw [mdG_79 y4 (by decide) (by decide) (by decide) (by decide) (by decide) (by decide) (by decide) (by decide) (by decide) (by decide) (by decide)]; exact b1) (by rw [mdG_row y4 (by decide) (by decide)]; exact b81) (mdH_tr hHB (mdH_G y4))
      · rw [if_pos ((tk_ci1 hat.2.2.2.1).mp g)] at hq
        exact good178 MB L9 _ c p D Cs hq.symm hok hatB hDB (by have := hat.2.2.2.1; omega) b51 b1 b81 hHB
    | succ j ih =>
      intro c p D Cs M9 L9 v1 hc hq hok hat hw9 hDD hl h51 h1 h81 hH
      have hci := mt_ci hat
      have e1 : (iI (tk_ci f T p) = -1) = (tk_ci f T p = -1) := by rw [zi_m1, iI_eq (by omega) (by omega) (by omega) (by omega)]
      generalize hMB : zk_up M9 79 2 (nI (tkS f T p)) = MB
      have hatB : mt_at MB f T p := by rw [← hMB]; exact mt_at_look hat
      have hmB : mtF M9 MB := by rw [← hMB]; exact mtF_up (by omega)
      have hHB := mdH_tr hH (mdH_F (mdF_m (L := L9) hmB))
      refine hZ B_X12_valley_156 _ _ _ _ _ _ _ k_X12_valley_156 ?_
      simp only [B_X12_valley_156, zk_ldi_s, zk_ldl_s, zk_lda_r, zk_lda_a, zk_lda_n, zk_iv_s, zr_nil, zr_cons, zp_0, zp_s, zt_0, zt_s, zt2_0, zt2_s, zw_iconst, zw_bipush, zw_sipush, zw_lconst, zw_ldcs, zw_ldc, zw_ldcw, zw_ldc2, zw_iload_n, zw_lload_n, zw_aload_n, zw_istore_n, zw_lstore_n, zw_astore_n, zw_astoreN_n, zw_iload, zw_lload, zw_aload, zw_istore, zw_lstore, zw_astore, zw_astoreN, zw_iinc, zw_iadd, zw_isub, zw_imul, zw_iand, zw_ior, zw_ixor, zw_ishl, zw_ishr, zw_iushr, zw_idiv, zw_irem, zw_ladd, zw_lsub, zw_lmul, zw_land, zw_ldiv, zw_lrem, zw_lcmp, zw_i2l, zw_l2i, zw_dup, zw_pop, zw_dup2i, zw_goto, zw_if_eq, zw_if_ne, zw_if_lt, zw_if_ge, zw_if_gt, zw_if_le, zw_ic_eq, zw_ic_ne, zw_ic_lt, zw_ic_ge, zw_ic_gt, zw_ic_le, zw_ifnn, zw_ifnnN, zw_tsw, zw_lsw, zw_getf_l, zw_getf_r, zw_getf_i, zw_getf_z, zw_putf_i, zw_putf_z, zw_putf_l, zw_putf_r, zw_iaload, zw_caload, zw_laload, zw_aaload, zw_iastore, zw_castore, zw_lastore, zw_aastore, zw_alen, zw_newa, zw_newq, zw_new, zw_oini, zw_invs, zw_invv, zw_copy, zw_invt, zw_iret, zw_lret, zw_ret, zc_r, zc_a, zk_rvs, zk_cat2, List.getElem?_cons_zero, List.getElem?_cons_succ, Bool.false_eq_true, and_false, false_and, and_true, true_and, reduceIte, Nat.reduceEqDiff, Nat.reduceLT, Nat.reduceAdd, List.cons_append, List.nil_append, Option.toList_some, Option.toList_none, zk_cat_i, zk_cat_r, zk_cat_n, zk_same, Option.some.injEq, Value.int.injEq, Value.long.injEq, eq_self, false_implies, true_implies, zf_12, ho, hP2, zl_M, zc_n10, zc_cl, zc_in, not_true_eq_false, not_false_eq_true, hat.2.2.2.2.1]
      refine zk_callS (cm_look hn hP hat) (by first | decide | omega) (Nat.le_refl _) (Nat.le_of_ble_eq_true rfl) ?_
      simp only [zk_ldi_s, zk_ldl_s, zk_lda_r, zk_lda_a, zk_lda_n, zk_iv_s, zr_nil, zr_cons, zp_0, zp_s, zt_0, zt_s, zt2_0, zt2_s, zw_iconst, zw_bipush, zw_sipush, zw_lconst, zw_ldcs, zw_ldc, zw_ldcw, zw_ldc2, zw_iload_n, zw_lload_n, zw_aload_n, zw_istore_n, zw_lstore_n, zw_astore_n, zw_astoreN_n, zw_iload, zw_lload, zw_aload, zw_istore, zw_lstore, zw_astore, zw_astoreN, zw_iinc, zw_iadd, zw_isub, zw_imul, zw_iand, zw_ior, zw_ixor, zw_ishl, zw_ishr, zw_iushr, zw_idiv, zw_irem, zw_ladd, zw_lsub, zw_lmul, zw_land, zw_ldiv, zw_lrem, zw_lcmp, zw_i2l, zw_l2i, zw_dup, zw_pop, zw_dup2i, zw_goto, zw_if_eq, zw_if_ne, zw_if_lt, zw_if_ge, zw_if_gt, zw_if_le, zw_ic_eq, zw_ic_ne, zw_ic_lt, zw_ic_ge, zw_ic_gt, zw_ic_le, zw_ifnn, zw_ifnnN, zw_tsw, zw_lsw, zw_getf_l, zw_getf_r, zw_getf_i, zw_getf_z, zw_putf_i, zw_putf_z, zw_putf_l, zw_putf_r, zw_iaload, zw_caload, zw_laload, zw_aaload, zw_iastore, zw_castore, zw_lastore, zw_aastore, zw_alen, zw_newa, zw_newq, zw_new, zw_oini, zw_invs, zw_invv, zw_copy, zw_invt, zw_iret, zw_lret, zw_ret, zc_r, zc_a, zk_rvs, zk_cat2, List.getElem?_cons_zero, List.getElem?_cons_succ, Bool.false_eq_true, and_false, false_and, and_true, true_and, reduceIte, Nat.reduceEqDiff, Nat.reduceLT, Nat.reduceAdd, List.cons_append, List.nil_append, Option.toList_some, Option.toList_none, zk_cat_i, zk_cat_r, zk_cat_n, zk_same, Option.some.injEq, Value.int.injEq, Value.long.injEq, eq_self, false_implies, true_implies, zf_12, ho, hP2, zl_M, zc_n10, zc_cl, zc_in, not_true_eq_false, not_false_eq_true, e1, hMB]
      have hDB := md_D_m hDD hmB
      have b51 : MB 79 51 = nI c := by rw [hmB.2 51 (by decide) (by decide) (by decide) (by decide) (by decide)]; exact h51
      have b1 : MB 79 1 = 0 := by rw [hmB.2 1 (by decide) (by decide) (by decide) (by decide) (by decide)]; exact h1
      have b81 : MB 81 = M 81 := by rw [hmB.1 81 (by decide)]; exact h81
      have b2 : MB 79 2 = nI (tkS f T p) := by rw [← hMB]; exact zk_up_at
      refine ⟨fun g => ?_, fun g => ?_⟩
      rotate_left
      · have hk : tkK f T p ≠ -1 := fun z => g ((tk_ci1 hat.2.2.2.1).mpr z)
        rw [vs_all_one hk] at hq
        refine zk_callI (cm_statementTold hn hP hok hk hatB b2 (mw_ok_fr hw9 hmB.1) hDB hl b51 (by omega)) (by first | decide | omega) (Nat.le_refl _) (Nat.le_of_ble_eq_true rfl) (fun r M8 L8 P9 hpost => ?_)
        obtain ⟨rfl, hP9, x1⟩ := hpost
        have hP8 := hP9.symm
        clear hP9
        subst hP8
        rw [if_neg (show ¬ c = 70 by omega)] at x1
        rcases hx : vs_one f T D p with ⟨k', pl⟩ | ⟨p2, D1⟩
        · rw [hx] at x1 hq
          obtain ⟨y1, y2, y3, y4⟩ := x1
          have hz := yv_nz y1 y2
          simp only [zk_ldi_s, zk_ldl_s, zk_lda_r, zk_lda_a, zk_lda_n, zk_iv_s, zr_nil, zr_cons, zp_0, zp_s, zt_0, zt_s, zt2_0, zt2_s, zw_iconst, zw_bipush, zw_sipush, zw_lconst, zw_ldcs, zw_ldc, zw_ldcw, zw_ldc2, zw_iload_n, zw_lload_n, zw_aload_n, zw_istore_n, zw_lstore_n, zw_astore_n, zw_astoreN_n, zw_iload, zw_lload, zw_aload, zw_istore, zw_lstore, zw_astore, zw_astoreN, zw_iinc, zw_iadd, zw_isub, zw_imul, zw_iand, zw_ior, zw_ixor, zw_ishl, zw_ishr, zw_iushr, zw_idiv, zw_irem, zw_ladd, zw_lsub, zw_lmul, zw_land, zw_ldiv, zw_lrem, zw_lcmp, zw_i2l, zw_l2i, zw_dup, zw_pop, zw_dup2i, zw_goto, zw_if_eq, zw_if_ne, zw_if_lt, zw_if_ge, zw_if_gt, zw_if_le, zw_ic_eq, zw_ic_ne, zw_ic_lt, zw_ic_ge, zw_ic_gt, zw_ic_le, zw_ifnn, zw_ifnnN, zw_tsw, zw_lsw, zw_getf_l, zw_getf_r, zw_getf_i, zw_getf_z, zw_putf_i, zw_putf_z, zw_putf_l, zw_putf_r, zw_iaload, zw_caload, zw_laload, zw_aaload, zw_iastore, zw_castore, zw_lastore, zw_aastore, zw_alen, zw_newa, zw_newq, zw_new, zw_oini, zw_invs, zw_invv, zw_copy, zw_invt, zw_iret, zw_lret, zw_ret, zc_r, zc_a, zk_rvs, zk_cat2, List.getElem?_cons_zero, List.getElem?_cons_succ, Bool.false_eq_true, and_false, false_and, and_true, true_and, reduceIte, Nat.reduceEqDiff, Nat.reduceLT, Nat.reduceAdd, List.cons_append, List.nil_append, Option.toList_some, Option.toList_none, zk_cat_i, zk_cat_r, zk_cat_n, zk_same, Option.some.injEq, Value.int.injEq, Value.long.injEq, eq_self, false_implies, true_implies, zf_12, ho, hP2, zl_M, zc_n10, zc_cl, zc_in, not_true_eq_false, not_false_eq_true]
          refine hZ B_X12_valley_156 _ _ _ _ _ _ _ k_X12_valley_156 ?_
          simp only [B_X12_valley_156, zk_ldi_s, zk_ldl_s, zk_lda_r, zk_lda_a, zk_lda_n, zk_iv_s, zr_nil, zr_cons, zp_0, zp_s, zt_0, zt_s, zt2_0, zt2_s, zw_iconst, zw_bipush, zw_sipush, zw_lconst, zw_ldcs, zw_ldc, zw_ldcw, zw_ldc2, zw_iload_n, zw_lload_n, zw_aload_n, zw_istore_n, zw_lstore_n, zw_astore_n, zw_astoreN_n, zw_iload, zw_lload, zw_aload, zw_istore, zw_lstore, zw_astore, zw_astoreN, zw_iinc, zw_iadd, zw_isub, zw_imul, zw_iand, zw_ior, zw_ixor, zw_ishl, zw_ishr, zw_iushr, zw_idiv, zw_irem, zw_ladd, zw_lsub, zw_lmul, zw_land, zw_ldiv, zw_lrem, zw_lcmp, zw_i2l, zw_l2i, zw_dup, zw_pop, zw_dup2i, zw_goto, zw_if_eq, zw_if_ne, zw_if_lt, zw_if_ge, zw_if_gt, zw_if_le, zw_ic_eq, zw_ic_ne, zw_ic_lt, zw_ic_ge, zw_ic_gt, zw_ic_le, zw_ifnn, zw_ifnnN, zw_tsw, zw_lsw, zw_getf_l, zw_getf_r, zw_getf_i, zw_getf_z, zw_putf_i, zw_putf_z, zw_putf_l, zw_putf_r, zw_iaload, zw_caload, zw_laload, zw_aaload, zw_iastore, zw_castore, zw_lastore, zw_aastore, zw_alen, zw_newa, zw_newq, zw_new, zw_oini, zw_invs, zw_invv, zw_copy, zw_invt, zw_iret, zw_lret, zw_ret, zc_r, zc_a, zk_rvs, zk_cat2, List.getElem?_cons_zero, List.getElem?_cons_succ, Bool.false_eq_true, and_false, false_and, and_true, true_and, reduceIte, Nat.reduceEqDiff, Nat.reduceLT, Nat.reduceAdd, List.cons_append, List.nil_append, Option.toList_some, Option.toList_none, zk_cat_i, zk_cat_r, zk_cat_n, zk_same, Option.some.injEq, Value.int.injEq, Value.long.injEq, eq_self, false_implies, true_implies, zf_12, ho, hP2, zl_M, zc_n10, zc_cl, zc_in, not_true_eq_false, not_false_eq_true, hz]
          exact bad178 M8 L8 _ k' pl hq.symm y1 y2 y3 (by rw [mdG_79 y4 (by decide) (by decide) (by decide) (by decide) (by decide) (by decide) (by decide) (by decide) (by decide) (by decide) (by decide)]; exact b1) (by rw [mdG_row y4 (by decide) (by decide)]; exact b81) (mdH_tr hHB (mdH_G y4))
        · have hok1 : vs_ok D1 := by
            unfold vs_one at hx
            have hs := vs_st_ok hT hat.2.2.2.1 hfb hok
            rcases hx2 : vs_st f T D p with e | ⟨p1, D2⟩
            · rw [hx2] at hx; cases hx
            · rw [hx2] at hx
              have h9 := (hs p1 D2 hx2).2.2
              simp only [vs_b] at hx
              rcases hx3 : vs_need f T 59 p1 with e | ⟨p3, u⟩
              · rw [hx3] at hx; cases hx
              · rw [hx3] at hx; cases hx; exact h9
          rw [hx] at x1 hq
          obtain ⟨y1, y2, ⟨Cs', y3, y5⟩, y6, y4⟩ := x1
          simp only [zk_ldi_s, zk_ldl_s, zk_lda_r, zk_lda_a, zk_lda_n, zk_iv_s, zr_nil, zr_cons, zp_0, zp_s, zt_0, zt_s, zt2_0, zt2_s, zw_iconst, zw_bipush, zw_sipush, zw_lconst, zw_ldcs, zw_ldc, zw_ldcw, zw_ldc2, zw_iload_n, zw_lload_n, zw_aload_n, zw_istore_n, zw_lstore_n, zw_astore_n, zw_astoreN_n, zw_iload, zw_lload, zw_aload, zw_istore, zw_lstore, zw_astore, zw_astoreN, zw_iinc, zw_iadd, zw_isub, zw_imul, zw_iand, zw_ior, zw_ixor, zw_ishl, zw_ishr, zw_iushr, zw_idiv, zw_irem, zw_ladd, zw_lsub, zw_lmul, zw_land, zw_ldiv, zw_lrem, zw_lcmp, zw_i2l, zw_l2i, zw_dup, zw_pop, zw_dup2i, zw_goto, zw_if_eq, zw_if_ne, zw_if_lt, zw_if_ge, zw_if_gt, zw_if_le, zw_ic_eq, zw_ic_ne, zw_ic_lt, zw_ic_ge, zw_ic_gt, zw_ic_le, zw_ifnn, zw_ifnnN, zw_tsw, zw_lsw, zw_getf_l, zw_getf_r, zw_getf_i, zw_getf_z, zw_putf_i, zw_putf_z, zw_putf_l, zw_putf_r, zw_iaload, zw_caload, zw_laload, zw_aaload, zw_iastore, zw_castore, zw_lastore, zw_aastore, zw_alen, zw_newa, zw_newq, zw_new, zw_oini, zw_invs, zw_invv, zw_copy, zw_invt, zw_iret, zw_lret, zw_ret, zc_r, zc_a, zk_rvs, zk_cat2, List.getElem?_cons_zero, List.getElem?_cons_succ, Bool.false_eq_true, and_false, false_and, and_true, true_and, reduceIte, Nat.reduceEqDiff, Nat.reduceLT, Nat.reduceAdd, List.cons_append, List.nil_append, Option.toList_some, Option.toList_none, zk_cat_i, zk_cat_r, zk_cat_n, zk_same, Option.some.injEq, Value.int.injEq, Value.long.injEq, eq_self, false_implies, true_implies, zf_12, ho, hP2, zl_M, zc_n10, zc_cl, zc_in, not_true_eq_false, not_false_eq_true]
          exact ih (c + 1) p2 D1 Cs' M8 L8 _ (by omega) hq hok1 y1 y2 y3 y5 y6 (by rw [mdG_79 y4 (by decide) (by decide) (by decide) (by decide) (by decide) (by decide) (by decide) (by decide) (by decide) (by decide) (by decide)]; exact b1) (by rw [mdG_row y4 (by decide) (by decide)]; exact b81) (mdH_tr hHB (mdH_G y4))
      · simp only [vs_all] at hq
        rw [if_pos ((tk_ci1 hat.2.2.2.1).mp g)] at hq
        exact good178 MB L9 _ c p D Cs hq.symm hok hatB hDB (by have := hat.2.2.2.1; omega) b51 b1 b81 hHB
  /- the beginning -/
  generalize hM0 : zk_up (zk_up (zk_up (zk_up (zk_up (zk_up (zk_up (zk_up M 79 3 (nI T)) 79 1 0) 79 2 0) 79 4 (-1)) 79 5 0) 79 6 (-1)) 79 51 0) 79 54 0 = M0
  have w0 : mwp M0 = mwp M := by rw [← hM0, mwp_up (by omega), mwp_up (by omega), mwp_up (by omega), mwp_up (by omega), mwp_up (by omega), mwp_up (by omega), mwp_up (by omega), mwp_up (by omega)]
  have r0 : ∀ q, q ≠ 79 → M0 q = M q := fun q hq => by rw [← hM0, zk_up_row hq, zk_up_row hq, zk_up_row hq, zk_up_row hq, zk_up_row hq, zk_up_row hq, zk_up_row hq, zk_up_row hq]
  have z54 : M0 79 54 = 0 := by rw [← hM0]; exact zk_up_at
  have z51 : M0 79 51 = 0 := by rw [← hM0, zk_up_ne (by decide)]; exact zk_up_at
  have z6 : M0 79 6 = -1 := by rw [← hM0, zk_up_ne (by decide), zk_up_ne (by decide)]; exact zk_up_at
  have z5 : M0 79 5 = 0 := by rw [← hM0, zk_up_ne (by decide), zk_up_ne (by decide), zk_up_ne (by decide)]; exact zk_up_at
  have z4 : M0 79 4 = -1 := by rw [← hM0, zk_up_ne (by decide), zk_up_ne (by decide), zk_up_ne (by decide), zk_up_ne (by decide)]; exact zk_up_at
  have z2 : M0 79 2 = 0 := by rw [← hM0, zk_up_ne (by decide), zk_up_ne (by decide), zk_up_ne (by decide), zk_up_ne (by decide), zk_up_ne (by decide)]; exact zk_up_at
  have z1 : M0 79 1 = 0 := by rw [← hM0, zk_up_ne (by decide), zk_up_ne (by decide), zk_up_ne (by decide), zk_up_ne (by decide), zk_up_ne (by decide), zk_up_ne (by decide)]; exact zk_up_at
  have z3 : M0 79 3 = nI T := by rw [← hM0, zk_up_ne (by decide), zk_up_ne (by decide), zk_up_ne (by decide), zk_up_ne (by decide), zk_up_ne (by decide), zk_up_ne (by decide), zk_up_ne (by decide)]; exact zk_up_at
  refine hZ B_X12_valley_0 _ _ _ _ _ _ _ k_X12_valley_0 ?_
  simp only [B_X12_valley_0, zk_ldi_s, zk_ldl_s, zk_lda_r, zk_lda_a, zk_lda_n, zk_iv_s, zr_nil, zr_cons, zp_0, zp_s, zt_0, zt_s, zt2_0, zt2_s, zw_iconst, zw_bipush, zw_sipush, zw_lconst, zw_ldcs, zw_ldc, zw_ldcw, zw_ldc2, zw_iload_n, zw_lload_n, zw_aload_n, zw_istore_n, zw_lstore_n, zw_astore_n, zw_astoreN_n, zw_iload, zw_lload, zw_aload, zw_istore, zw_lstore, zw_astore, zw_astoreN, zw_iinc, zw_iadd, zw_isub, zw_imul, zw_iand, zw_ior, zw_ixor, zw_ishl, zw_ishr, zw_iushr, zw_idiv, zw_irem, zw_ladd, zw_lsub, zw_lmul, zw_land, zw_ldiv, zw_lrem, zw_lcmp, zw_i2l, zw_l2i, zw_dup, zw_pop, zw_dup2i, zw_goto, zw_if_eq, zw_if_ne, zw_if_lt, zw_if_ge, zw_if_gt, zw_if_le, zw_ic_eq, zw_ic_ne, zw_ic_lt, zw_ic_ge, zw_ic_gt, zw_ic_le, zw_ifnn, zw_ifnnN, zw_tsw, zw_lsw, zw_getf_l, zw_getf_r, zw_getf_i, zw_getf_z, zw_putf_i, zw_putf_z, zw_putf_l, zw_putf_r, zw_iaload, zw_caload, zw_laload, zw_aaload, zw_iastore, zw_castore, zw_lastore, zw_aastore, zw_alen, zw_newa, zw_newq, zw_new, zw_oini, zw_invs, zw_invv, zw_copy, zw_invt, zw_iret, zw_lret, zw_ret, zc_r, zc_a, zk_rvs, zk_cat2, List.getElem?_cons_zero, List.getElem?_cons_succ, Bool.false_eq_true, and_false, false_and, and_true, true_and, reduceIte, Nat.reduceEqDiff, Nat.reduceLT, Nat.reduceAdd, List.cons_append, List.nil_append, Option.toList_some, Option.toList_none, zk_cat_i, zk_cat_r, zk_cat_n, zk_same, Option.some.injEq, Value.int.injEq, Value.long.injEq, eq_self, false_implies, true_implies, zf_12, ho, hP2, zl_M, zc_n10, zc_cl, zc_in, not_true_eq_false, not_false_eq_true, ht, hM0]
  refine lA M0 (fun M1 c112 f1 => ?_) 3 0 M0 (by omega) mzf_0 (fun _ _ => rfl)
  refine hZ B_X12_valley_63 _ _ _ _ _ _ _ k_X12_valley_63 ?_
  simp only [B_X12_valley_63, zk_ldi_s, zk_ldl_s, zk_lda_r, zk_lda_a, zk_lda_n, zk_iv_s, zr_nil, zr_cons, zp_0, zp_s, zt_0, zt_s, zt2_0, zt2_s, zw_iconst, zw_bipush, zw_sipush, zw_lconst, zw_ldcs, zw_ldc, zw_ldcw, zw_ldc2, zw_iload_n, zw_lload_n, zw_aload_n, zw_istore_n, zw_lstore_n, zw_astore_n, zw_astoreN_n, zw_iload, zw_lload, zw_aload, zw_istore, zw_lstore, zw_astore, zw_astoreN, zw_iinc, zw_iadd, zw_isub, zw_imul, zw_iand, zw_ior, zw_ixor, zw_ishl, zw_ishr, zw_iushr, zw_idiv, zw_irem, zw_ladd, zw_lsub, zw_lmul, zw_land, zw_ldiv, zw_lrem, zw_lcmp, zw_i2l, zw_l2i, zw_dup, zw_pop, zw_dup2i, zw_goto, zw_if_eq, zw_if_ne, zw_if_lt, zw_if_ge, zw_if_gt, zw_if_le, zw_ic_eq, zw_ic_ne, zw_ic_lt, zw_ic_ge, zw_ic_gt, zw_ic_le, zw_ifnn, zw_ifnnN, zw_tsw, zw_lsw, zw_getf_l, zw_getf_r, zw_getf_i, zw_getf_z, zw_putf_i, zw_putf_z, zw_putf_l, zw_putf_r, zw_iaload, zw_caload, zw_laload, zw_aaload, zw_iastore, zw_castore, zw_lastore, zw_aastore, zw_alen, zw_newa, zw_newq, zw_new, zw_oini, zw_invs, zw_invv, zw_copy, zw_invt, zw_iret, zw_lret, zw_ret, zc_r, zc_a, zk_rvs, zk_cat2, List.getElem?_cons_zero, List.getElem?_cons_succ, Bool.false_eq_true, and_false, false_and, and_true, true_and, reduceIte, Nat.reduceEqDiff, Nat.reduceLT, Nat.reduceAdd, List.cons_append, List.nil_append, Option.toList_some, Option.toList_none, zk_cat_i, zk_cat_r, zk_cat_n, zk_same, Option.some.injEq, Value.int.injEq, Value.long.injEq, eq_self, false_implies, true_implies, zf_12, ho, hP2, zl_M, zc_n10, zc_cl, zc_in, not_true_eq_false, not_false_eq_true]
  refine lB M1 (fun M2 c114 f2 => ?_) 36 0 M1 (by omega) mzf_0 (fun _ _ => rfl)
  refine hZ B_X12_valley_84 _ _ _ _ _ _ _ k_X12_valley_84 ?_
  simp only [B_X12_valley_84, zk_ldi_s, zk_ldl_s, zk_lda_r, zk_lda_a, zk_lda_n, zk_iv_s, zr_nil, zr_cons, zp_0, zp_s, zt_0, zt_s, zt2_0, zt2_s, zw_iconst, zw_bipush, zw_sipush, zw_lconst, zw_ldcs, zw_ldc, zw_ldcw, zw_ldc2, zw_iload_n, zw_lload_n, zw_aload_n, zw_istore_n, zw_lstore_n, zw_astore_n, zw_astoreN_n, zw_iload, zw_lload, zw_aload, zw_istore, zw_lstore, zw_astore, zw_astoreN, zw_iinc, zw_iadd, zw_isub, zw_imul, zw_iand, zw_ior, zw_ixor, zw_ishl, zw_ishr, zw_iushr, zw_idiv, zw_irem, zw_ladd, zw_lsub, zw_lmul, zw_land, zw_ldiv, zw_lrem, zw_lcmp, zw_i2l, zw_l2i, zw_dup, zw_pop, zw_dup2i, zw_goto, zw_if_eq, zw_if_ne, zw_if_lt, zw_if_ge, zw_if_gt, zw_if_le, zw_ic_eq, zw_ic_ne, zw_ic_lt, zw_ic_ge, zw_ic_gt, zw_ic_le, zw_ifnn, zw_ifnnN, zw_tsw, zw_lsw, zw_getf_l, zw_getf_r, zw_getf_i, zw_getf_z, zw_putf_i, zw_putf_z, zw_putf_l, zw_putf_r, zw_iaload, zw_caload, zw_laload, zw_aaload, zw_iastore, zw_castore, zw_lastore, zw_aastore, zw_alen, zw_newa, zw_newq, zw_new, zw_oini, zw_invs, zw_invv, zw_copy, zw_invt, zw_iret, zw_lret, zw_ret, zc_r, zc_a, zk_rvs, zk_cat2, List.getElem?_cons_zero, List.getElem?_cons_succ, Bool.false_eq_true, and_false, false_and, and_true, true_and, reduceIte, Nat.reduceEqDiff, Nat.reduceLT, Nat.reduceAdd, List.cons_append, List.nil_append, Option.toList_some, Option.toList_none, zk_cat_i, zk_cat_r, zk_cat_n, zk_same, Option.some.injEq, Value.int.injEq, Value.long.injEq, eq_self, false_implies, true_implies, zf_12, ho, hP2, zl_M, zc_n10, zc_cl, zc_in, not_true_eq_false, not_false_eq_true]
  refine lC M2 (fun M3 c118 f3 => ?_) 60 0 M2 (by omega) mzf_0 (fun _ _ => rfl)
  generalize hM4 : zk_up (zk_up (zk_up (zk_up M3 119 0 30) 119 1 20) 119 2 10) 119 3 0 = M4
  have f4 : ∀ q, q ≠ 119 → M4 q = M3 q := fun q hq => by rw [← hM4, zk_up_row hq, zk_up_row hq, zk_up_row hq, zk_up_row hq]
  have c119 : M4 119 0 = 30 ∧ M4 119 1 = 20 ∧ M4 119 2 = 10 ∧ M4 119 3 = 0 ∧ ∀ k, 4 ≤ k → M4 119 k = M3 119 k := by
    rw [← hM4]
    exact ⟨by rw [zk_up_ne (by decide), zk_up_ne (by decide), zk_up_ne (by decide)]; exact zk_up_at, by rw [zk_up_ne (by decide), zk_up_ne (by decide)]; exact zk_up_at, by rw [zk_up_ne (by decide)]; exact zk_up_at, zk_up_at, fun k hk => by rw [zk_up_ne (by omega), zk_up_ne (by omega), zk_up_ne (by omega), zk_up_ne (by omega)]⟩
  refine hZ B_X12_valley_105 _ _ _ _ _ _ _ k_X12_valley_105 ?_
  simp only [B_X12_valley_105, zk_ldi_s, zk_ldl_s, zk_lda_r, zk_lda_a, zk_lda_n, zk_iv_s, zr_nil, zr_cons, zp_0, zp_s, zt_0, zt_s, zt2_0, zt2_s, zw_iconst, zw_bipush, zw_sipush, zw_lconst, zw_ldcs, zw_ldc, zw_ldcw, zw_ldc2, zw_iload_n, zw_lload_n, zw_aload_n, zw_istore_n, zw_lstore_n, zw_astore_n, zw_astoreN_n, zw_iload, zw_lload, zw_aload, zw_istore, zw_lstore, zw_astore, zw_astoreN, zw_iinc, zw_iadd, zw_isub, zw_imul, zw_iand, zw_ior, zw_ixor, zw_ishl, zw_ishr, zw_iushr, zw_idiv, zw_irem, zw_ladd, zw_lsub, zw_lmul, zw_land, zw_ldiv, zw_lrem, zw_lcmp, zw_i2l, zw_l2i, zw_dup, zw_pop, zw_dup2i, zw_goto, zw_if_eq, zw_if_ne, zw_if_lt, zw_if_ge, zw_if_gt, zw_if_le, zw_ic_eq, zw_ic_ne, zw_ic_lt, zw_ic_ge, zw_ic_gt, zw_ic_le, zw_ifnn, zw_ifnnN, zw_tsw, zw_lsw, zw_getf_l, zw_getf_r, zw_getf_i, zw_getf_z, zw_putf_i, zw_putf_z, zw_putf_l, zw_putf_r, zw_iaload, zw_caload, zw_laload, zw_aaload, zw_iastore, zw_castore, zw_lastore, zw_aastore, zw_alen, zw_newa, zw_newq, zw_new, zw_oini, zw_invs, zw_invv, zw_copy, zw_invt, zw_iret, zw_lret, zw_ret, zc_r, zc_a, zk_rvs, zk_cat2, List.getElem?_cons_zero, List.getElem?_cons_succ, Bool.false_eq_true, and_false, false_and, and_true, true_and, reduceIte, Nat.reduceEqDiff, Nat.reduceLT, Nat.reduceAdd, List.cons_append, List.nil_append, Option.toList_some, Option.toList_none, zk_cat_i, zk_cat_r, zk_cat_n, zk_same, Option.some.injEq, Value.int.injEq, Value.long.injEq, eq_self, false_implies, true_implies, zf_12, ho, hP2, zl_M, zc_n10, zc_cl, zc_in, not_true_eq_false, not_false_eq_true, hM4]
  refine lD M4 (fun M5 c120 f5 => ?_) 4 0 M4 (by omega) mzf_0 (fun _ _ => rfl)
  have q79 : M5 79 = M0 79 := by rw [f5 79 (by decide), f4 79 (by decide), f3 79 (by decide), f2 79 (by decide), f1 79 (by decide)]
  have q80 : M5 80 = M 80 := by rw [f5 80 (by decide), f4 80 (by decide), f3 80 (by decide), f2 80 (by decide), f1 80 (by decide), r0 80 (by decide)]
  have q81 : M5 81 = M 81 := by rw [f5 81 (by decide), f4 81 (by decide), f3 81 (by decide), f2 81 (by decide), f1 81 (by decide), r0 81 (by decide)]
  have q112 : M5 112 = M1 112 := by rw [f5 112 (by decide), f4 112 (by decide), f3 112 (by decide), f2 112 (by decide)]
  have q114 : M5 114 = M2 114 := by rw [f5 114 (by decide), f4 114 (by decide), f3 114 (by decide)]
  have q118 : M5 118 = M3 118 := by rw [f5 118 (by decide), f4 118 (by decide)]
  have q119 : M5 119 = M4 119 := f5 119 (by decide)
  have hF1 : mdF M0 M1 L L := mdF_1 112 3 (by omega) c112.2 f1
  have hF2 : mdF M1 M2 L L := mdF_1 114 36 (by omega) c114.2 f2
  have hF3 : mdF M2 M3 L L := mdF_1 118 60 (by omega) c118.2 f3
  have hF4 : mdF M3 M4 L L := mdF_1 119 4 (by omega) c119.2.2.2.2 f4
  have hF5 : mdF M4 M5 L L := mdF_1 120 4 (by omega) c120.2 f5
  have hF := mdF_tr hF1 (mdF_tr hF2 (mdF_tr hF3 (mdF_tr hF4 hF5)))
  have hs := tkS_le (f := f) (T := T) (T - 0) 0 (by omega)
  have hat : mt_at M5 f T 0 := ⟨fun k hk => by rw [q80]; exact hf k hk, hT, by rw [q79]; exact z3, by omega, by rw [q79]; exact z5, ⟨0, by rw [q79]; exact z2, by omega, by omega, by rw [q79]; exact z6⟩, -1, by rw [q79]; exact z4.trans zi_m1, by omega, by omega, by omega⟩
  have hw5 : mw_ok M5 := fun q hq k hk => by
    have hb : q ≠ 79 ∧ (q < 112 ∨ 123 < q) := by unfold sp_wq at hq; omega
    rw [f5 q (by omega), f4 q (by omega), f3 q (by omega), f2 q (by omega), f1 q (by omega), r0 q (by omega)]
    exact hw q hq k hk
  have hD5 : md_D M5 L (vs_0 hm) [] := by
    refine ⟨⟨by rw [q112]; exact c112.1 0 (by decide), by rw [q112]; exact c112.1 1 (by decide), by rw [q112]; exact c112.1 2 (by decide)⟩, fun k i hk hi => ?_, fun a b ha hb => by rw [q114]; exact c114.1 _ (by omega), fun i hi => absurd hi (Nat.not_lt_zero i), fun t ht => absurd ht (Nat.not_lt_zero t), fun t ht => absurd ht (Nat.not_lt_zero t), fun p t hp ht => by rw [q118]; exact c118.1 _ (by omega), by rw [q119]; exact ⟨c119.1, c119.2.1, c119.2.2.1, c119.2.2.2.1⟩, fun k hk => c120.1 k hk, by rw [q79]; exact z54, fun i hi => absurd hi (Nat.not_lt_zero i)⟩
    rcases (show k = 0 ∨ k = 1 ∨ k = 2 by omega) with rfl | rfl | rfl <;> exact absurd hi (Nat.not_lt_zero i)
  exact loop 70 0 0 (vs_0 hm) [] M5 L _ (by omega) hres (vs_0_ok hm) hat hw5 hD5 (Nat.le_refl _) (by rw [q79]; exact z51) (by rw [q79]; exact z1) q81 (mdH_tr (mdH_e w0) (mdH_F hF))
end MV2
