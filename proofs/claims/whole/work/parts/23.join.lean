/-! ===== what joins two values ===== -/
def lI (z : Int) : Int64 := Int64.ofInt z
theorem lI_toInt {z : Int} (h1 : -9223372036854775808 ≤ z) (h2 : z < 9223372036854775808) : (lI z).toInt = z := by
  unfold lI
  rw [Int64.toInt_ofInt]
  exact fb_bmodL h1 h2
theorem lI_of (x : Int64) : lI x.toInt = x := by unfold lI; exact Int64.ofInt_toInt x
theorem lI_eqv {x : Int64} {z : Int} (h : x.toInt = z) : x = lI z := by rw [← h, lI_of]
theorem lI_le {a b : Int} (h1 : -9223372036854775808 ≤ a) (h2 : a < 9223372036854775808) (h3 : -9223372036854775808 ≤ b) (h4 : b < 9223372036854775808) : (lI a ≤ lI b) = (a ≤ b) := by
  rw [fa_le64, lI_toInt h1 h2, lI_toInt h3 h4]
theorem lI_lt {a b : Int} (h1 : -9223372036854775808 ≤ a) (h2 : a < 9223372036854775808) (h3 : -9223372036854775808 ≤ b) (h4 : b < 9223372036854775808) : (lI a < lI b) = (a < b) := by
  rw [fa_lt64, lI_toInt h1 h2, lI_toInt h3 h4]
theorem lI_eq {a b : Int} (h1 : -9223372036854775808 ≤ a) (h2 : a < 9223372036854775808) (h3 : -9223372036854775808 ≤ b) (h4 : b < 9223372036854775808) : (lI a = lI b) = (a = b) := by
  rw [fa_eq64, lI_toInt h1 h2, lI_toInt h3 h4]
theorem lI_i {a : Int} (h1 : -2147483648 ≤ a) (h2 : a < 2147483648) : (iI a).toInt64 = lI a := by
  apply lI_eqv
  rw [Int32.toInt_toInt64, iI_toInt h1 h2]
theorem iI_l {a : Int} (h1 : -2147483648 ≤ a) (h2 : a < 2147483648) : (lI a).toInt32 = iI a := by
  apply iI_eqv
  rw [Int64.toInt_toInt32, lI_toInt (by omega) (by omega)]
  exact fb_bmod h1 h2
theorem lI_add {a b : Int} (ha1 : -1000000000000000 ≤ a) (ha2 : a ≤ 1000000000000000) (hb1 : -1000000000000000 ≤ b) (hb2 : b ≤ 1000000000000000) : lI a + lI b = lI (a + b) := by
  apply lI_eqv
  rw [fb_addL] <;> rw [lI_toInt (by omega) (by omega), lI_toInt (by omega) (by omega)] <;> omega
theorem lI_sub {a b : Int} (ha1 : -1000000000000000 ≤ a) (ha2 : a ≤ 1000000000000000) (hb1 : -1000000000000000 ≤ b) (hb2 : b ≤ 1000000000000000) : lI a - lI b = lI (a - b) := by
  apply lI_eqv
  rw [fb_subL] <;> rw [lI_toInt (by omega) (by omega), lI_toInt (by omega) (by omega)] <;> omega
/-- values of SUMS -/
def sp_v (a : Int) : Prop := -1000000 ≤ a ∧ a ≤ 1000000
theorem sp_mul {a b : Int} (ha : sp_v a) (hb : sp_v b) : -1000000000000 ≤ a * b ∧ a * b ≤ 1000000000000 := by
  have h : (a * b).natAbs ≤ 1000000 * 1000000 := by
    rw [Int.natAbs_mul]
    exact Nat.mul_le_mul (by have := ha.1; have := ha.2; omega) (by have := hb.1; have := hb.2; omega)
  omega
theorem lI_mul {a b : Int} (ha : sp_v a) (hb : sp_v b) : lI a * lI b = lI (a * b) := by
  have h := sp_mul ha hb
  have ha1 := ha.1; have ha2 := ha.2; have hb1 := hb.1; have hb2 := hb.2
  apply lI_eqv
  rw [fb_mulL] <;> rw [lI_toInt (by omega) (by omega), lI_toInt (by omega) (by omega)] <;> omega
def sp_clip (z : Int) : Int := if z > 1000000 then 1000000 else if z < -1000000 then -1000000 else z
theorem sp_clip_v (z : Int) : sp_v (sp_clip z) := by unfold sp_clip sp_v; split <;> (try split) <;> omega
theorem sp_clip_id {z : Int} (h : sp_v z) : sp_clip z = z := by
  obtain ⟨h1, h2⟩ := h
  unfold sp_clip
  rw [if_neg (by omega), if_neg (by omega)]
def sp_fl (a b : Int) : Int := if b = 0 then 0 else if a.tdiv b * b ≠ a ∧ ¬ (a < 0 ↔ b < 0) then a.tdiv b - 1 else a.tdiv b
theorem sp_td (a b : Int) : -(a.natAbs : Int) ≤ a.tdiv b ∧ a.tdiv b ≤ a.natAbs := by
  have h : (a.tdiv b).natAbs ≤ a.natAbs := by
    rw [Int.natAbs_tdiv]
    exact Nat.div_le_self _ _
  omega
theorem sp_fl_v {a b : Int} (ha : sp_v a) : sp_v (sp_fl a b) := by
  obtain ⟨h1, h2⟩ := ha
  have h := sp_td a b
  unfold sp_fl sp_v
  split
  · omega
  · split
    · rename_i h3 h4
      have h5 : (a.tdiv b).natAbs * b.natAbs ≤ a.natAbs := by
        rw [Int.natAbs_tdiv]
        exact Nat.div_mul_le_self _ _
      have h6 : b.natAbs ≠ 0 := by omega
      rcases Nat.lt_or_ge 1 b.natAbs with q | q
      · have h7 : (a.tdiv b).natAbs * 2 ≤ (a.tdiv b).natAbs * b.natAbs := Nat.mul_le_mul_left _ q
        omega
      · exfalso
        apply h4.1
        have : b = 1 ∨ b = -1 := by omega
        rcases this with rfl | rfl
        · simp
        · rw [Int.tdiv_neg]; simp
    · omega
/-- BOTH, EITHER are asked of 0 and 1 alone -/
def sp_join (c a b : Int) : Int :=
  if c = -1 then sp_clip (a + b) else if c = -2 then sp_clip (a - b) else if c = -3 then sp_clip (a * b) else if c = -4 then sp_fl a b
  else if c = -5 then (if a < b then a else b) else if c = -6 then (if a > b then a else b) else if c = -7 then (if a < b then 1 else 0) else if c = -8 then (if a > b then 1 else 0) else if c = -9 then (if a = b then 1 else 0)
  else if c = -10 then a * b else (if a + b > 0 then 1 else 0)
theorem sp_join_v {c a b : Int} (ha : sp_v a) (hb : sp_v b) (h : c = -10 → (a = 0 ∨ a = 1) ∧ (b = 0 ∨ b = 1)) : sp_v (sp_join c a b) := by
  unfold sp_join
  split
  · exact sp_clip_v _
  split
  · exact sp_clip_v _
  split
  · exact sp_clip_v _
  split
  · exact sp_fl_v ha
  split
  · split <;> assumption
  split
  · split <;> assumption
  split
  · split <;> (constructor <;> omega)
  split
  · split <;> (constructor <;> omega)
  split
  · split <;> (constructor <;> omega)
  split
  · rename_i hc
    obtain ⟨rfl | rfl, rfl | rfl⟩ := h hc <;> (constructor <;> decide)
  · split <;> (constructor <;> omega)
theorem zn_xneg (x y : Int32) : (0 ≤ x ^^^ y) ↔ (x < 0 ↔ y < 0) := by
  have key : ∀ z : Int32, z < 0 ↔ z.toBitVec.msb = true := by
    intro z
    rw [fa_lt]
    show z.toBitVec.toInt < 0 ↔ _
    rw [BitVec.msb_eq_toInt]
    simp
  have h := key (x ^^^ y)
  rw [Int32.toBitVec_xor, BitVec.msb_xor] at h
  rw [← Int32.not_lt, h, key x, key y]
  cases x.toBitVec.msb <;> cases y.toBitVec.msb <;> simp
section JN
variable {G : zk_G} {n : Nat} {M : zk_MI} {L : zk_ML} {P : zk_MP}
theorem ct_floorDiv {a b : Int} (ha : sp_v a) (hb : sp_v b) (h0 : b ≠ 0) : zk_C G 0 316 [.int (iI a), .int (iI b)] n M L P n (zk_same (some (.int (iI (sp_fl a b)))) M L P) := by
  refine zk_meth (ow := 15) (kind := 0) (k := 2) (nL := 3) (ct := false) (l0 := [.int (iI a), .int (iI b), zk_un]) (by decide +kernel) (fun h => by cases h) (by decide +kernel) (by decide) (by decide) (fun _ => by decide +kernel) (Nat.le_of_ble_eq_true rfl) rfl (by omega) (fun Z hZ => ?_)
  have ha1 := ha.1; have ha2 := ha.2; have hb1 := hb.1; have hb2 := hb.2
  have hz : ¬ iI b = 0 := by rw [show (0 : Int32) = iI 0 from rfl, iI_eq (by omega) (by omega) (by omega) (by omega)]; exact h0
  have htd := sp_td a b
  have hdiv : iI a / iI b = iI (a.tdiv b) := by
    apply iI_eqv
    rw [Int32.toInt_div, iI_toInt (by omega) (by omega), iI_toInt (by omega) (by omega)]
    exact fb_bmod (by omega) (by omega)
  have hmul : iI (a.tdiv b) * iI b = iI (a.tdiv b * b) := by
    have h5 : (a.tdiv b).natAbs * b.natAbs ≤ a.natAbs := by
      rw [Int.natAbs_tdiv]
      exact Nat.div_mul_le_self _ _
    have h6 : (a.tdiv b * b).natAbs ≤ a.natAbs := by rw [Int.natAbs_mul]; exact h5
    apply iI_eqv
    rw [fb_mulI] <;> rw [iI_toInt (by omega) (by omega), iI_toInt (by omega) (by omega)] <;> omega
  have hmr : (a.tdiv b * b).natAbs ≤ a.natAbs := by
    rw [Int.natAbs_mul, Int.natAbs_tdiv]
    exact Nat.div_mul_le_self _ _
  have hx : (0 ≤ iI a ^^^ iI b) = (a < 0 ↔ b < 0) := by
    rw [zn_xneg, show (0 : Int32) = iI 0 from rfl, iI_lt (by omega) (by omega) (by omega) (by omega), iI_lt (by omega) (by omega) (by omega) (by omega)]
  have he : (iI (a.tdiv b * b) = iI a) = (a.tdiv b * b = a) := iI_eq (by omega) (by omega) (by omega) (by omega)
  have hs : iI (a.tdiv b) - 1 = iI (a.tdiv b - 1) := by
    apply iI_eqv
    rw [show (1 : Int32) = iI 1 from rfl, fb_subI] <;> rw [iI_toInt (by omega) (by omega), iI_toInt (by omega) (by omega)] <;> omega
  refine hZ B_J9_floorDiv_7cf53_0 _ _ _ _ _ _ _ k_J9_floorDiv_7cf53_0 ?_
  simp only [B_J9_floorDiv_7cf53_0, zk_ldi_s, zk_ldl_s, zk_lda_r, zk_lda_a, zk_lda_n, zk_iv_s, zr_nil, zr_cons, zp_0, zp_s, zt_0, zt_s, zt2_0, zt2_s, zw_iconst, zw_bipush, zw_sipush, zw_lconst, zw_ldcs, zw_ldc, zw_ldcw, zw_ldc2, zw_iload_n, zw_lload_n, zw_aload_n, zw_istore_n, zw_lstore_n, zw_astore_n, zw_astoreN_n, zw_iload, zw_lload, zw_aload, zw_istore, zw_lstore, zw_astore, zw_astoreN, zw_iinc, zw_iadd, zw_isub, zw_imul, zw_iand, zw_ior, zw_ixor, zw_ishl, zw_ishr, zw_iushr, zw_idiv, zw_irem, zw_ladd, zw_lsub, zw_lmul, zw_land, zw_ldiv, zw_lrem, zw_lcmp, zw_i2l, zw_l2i, zw_dup, zw_pop, zw_dup2i, zw_goto, zw_if_eq, zw_if_ne, zw_if_lt, zw_if_ge, zw_if_gt, zw_if_le, zw_ic_eq, zw_ic_ne, zw_ic_lt, zw_ic_ge, zw_ic_gt, zw_ic_le, zw_ifnn, zw_ifnnN, zw_tsw, zw_lsw, zw_getf_l, zw_getf_r, zw_getf_i, zw_getf_z, zw_putf_i, zw_putf_z, zw_putf_l, zw_putf_r, zw_iaload, zw_caload, zw_laload, zw_aaload, zw_iastore, zw_castore, zw_lastore, zw_aastore, zw_alen, zw_newa, zw_newq, zw_new, zw_oini, zw_invs, zw_invv, zw_copy, zw_invt, zw_iret, zw_lret, zw_ret, zc_r, zc_a, zk_rvs, zk_cat2, List.getElem?_cons_zero, List.getElem?_cons_succ, Bool.false_eq_true, and_false, false_and, and_true, true_and, reduceIte, Nat.reduceEqDiff, Nat.reduceLT, Nat.reduceAdd, List.cons_append, List.nil_append, Option.toList_some, Option.toList_none, zk_cat_i, zk_cat_r, zk_cat_n, zk_same, Option.some.injEq, Value.int.injEq, Value.long.injEq, eq_self, false_implies, true_implies, hz, not_false_eq_true, hdiv, hmul, hx, he, hs]
  refine ⟨fun h => ?_, fun h => ⟨fun g => ?_, fun g => ?_⟩⟩
  · refine hZ B_J9_floorDiv_7cf53_21 _ _ _ _ _ _ _ k_J9_floorDiv_7cf53_21 ?_
    simp only [B_J9_floorDiv_7cf53_21, zk_ldi_s, zk_ldl_s, zk_lda_r, zk_lda_a, zk_lda_n, zk_iv_s, zr_nil, zr_cons, zp_0, zp_s, zt_0, zt_s, zt2_0, zt2_s, zw_iconst, zw_bipush, zw_sipush, zw_lconst, zw_ldcs, zw_ldc, zw_ldcw, zw_ldc2, zw_iload_n, zw_lload_n, zw_aload_n, zw_istore_n, zw_lstore_n, zw_astore_n, zw_astoreN_n, zw_iload, zw_lload, zw_aload, zw_istore, zw_lstore, zw_astore, zw_astoreN, zw_iinc, zw_iadd, zw_isub, zw_imul, zw_iand, zw_ior, zw_ixor, zw_ishl, zw_ishr, zw_iushr, zw_idiv, zw_irem, zw_ladd, zw_lsub, zw_lmul, zw_land, zw_ldiv, zw_lrem, zw_lcmp, zw_i2l, zw_l2i, zw_dup, zw_pop, zw_dup2i, zw_goto, zw_if_eq, zw_if_ne, zw_if_lt, zw_if_ge, zw_if_gt, zw_if_le, zw_ic_eq, zw_ic_ne, zw_ic_lt, zw_ic_ge, zw_ic_gt, zw_ic_le, zw_ifnn, zw_ifnnN, zw_tsw, zw_lsw, zw_getf_l, zw_getf_r, zw_getf_i, zw_getf_z, zw_putf_i, zw_putf_z, zw_putf_l, zw_putf_r, zw_iaload, zw_caload, zw_laload, zw_aaload, zw_iastore, zw_castore, zw_lastore, zw_aastore, zw_alen, zw_newa, zw_newq, zw_new, zw_oini, zw_invs, zw_invv, zw_copy, zw_invt, zw_iret, zw_lret, zw_ret, zc_r, zc_a, zk_rvs, zk_cat2, List.getElem?_cons_zero, List.getElem?_cons_succ, Bool.false_eq_true, and_false, false_and, and_true, true_and, reduceIte, Nat.reduceEqDiff, Nat.reduceLT, Nat.reduceAdd, List.cons_append, List.nil_append, Option.toList_some, Option.toList_none, zk_cat_i, zk_cat_r, zk_cat_n, zk_same, Option.some.injEq, Value.int.injEq, Value.long.injEq, eq_self, false_implies, true_implies]
    unfold sp_fl
    rw [if_neg h0, if_neg (fun z => z.2 h)]
  · refine hZ B_J9_floorDiv_7cf53_21 _ _ _ _ _ _ _ k_J9_floorDiv_7cf53_21 ?_
    simp only [B_J9_floorDiv_7cf53_21, zk_ldi_s, zk_ldl_s, zk_lda_r, zk_lda_a, zk_lda_n, zk_iv_s, zr_nil, zr_cons, zp_0, zp_s, zt_0, zt_s, zt2_0, zt2_s, zw_iconst, zw_bipush, zw_sipush, zw_lconst, zw_ldcs, zw_ldc, zw_ldcw, zw_ldc2, zw_iload_n, zw_lload_n, zw_aload_n, zw_istore_n, zw_lstore_n, zw_astore_n, zw_astoreN_n, zw_iload, zw_lload, zw_aload, zw_istore, zw_lstore, zw_astore, zw_astoreN, zw_iinc, zw_iadd, zw_isub, zw_imul, zw_iand, zw_ior, zw_ixor, zw_ishl, zw_ishr, zw_iushr, zw_idiv, zw_irem, zw_ladd, zw_lsub, zw_lmul, zw_land, zw_ldiv, zw_lrem, zw_lcmp, zw_i2l, zw_l2i, zw_dup, zw_pop, zw_dup2i, zw_goto, zw_if_eq, zw_if_ne, zw_if_lt, zw_if_ge, zw_if_gt, zw_if_le, zw_ic_eq, zw_ic_ne, zw_ic_lt, zw_ic_ge, zw_ic_gt, zw_ic_le, zw_ifnn, zw_ifnnN, zw_tsw, zw_lsw, zw_getf_l, zw_getf_r, zw_getf_i, zw_getf_z, zw_putf_i, zw_putf_z, zw_putf_l, zw_putf_r, zw_iaload, zw_caload, zw_laload, zw_aaload, zw_iastore, zw_castore, zw_lastore, zw_aastore, zw_alen, zw_newa, zw_newq, zw_new, zw_oini, zw_invs, zw_invv, zw_copy, zw_invt, zw_iret, zw_lret, zw_ret, zc_r, zc_a, zk_rvs, zk_cat2, List.getElem?_cons_zero, List.getElem?_cons_succ, Bool.false_eq_true, and_false, false_and, and_true, true_and, reduceIte, Nat.reduceEqDiff, Nat.reduceLT, Nat.reduceAdd, List.cons_append, List.nil_append, Option.toList_some, Option.toList_none, zk_cat_i, zk_cat_r, zk_cat_n, zk_same, Option.some.injEq, Value.int.injEq, Value.long.injEq, eq_self, false_implies, true_implies]
    unfold sp_fl
    rw [if_neg h0, if_neg (fun z => z.1 g)]
  · unfold sp_fl
    rw [if_neg h0, if_pos ⟨g, h⟩]
end JN
