/-! ===== a VALLEY and how all is at a time, as values ===== -/
abbrev sp_V : Type := (Nat × Nat × Nat) × (Nat → Nat → Nat) × (Nat → Nat) × (Nat → Nat) × (Nat → Option (List Int)) × (Nat × Nat × Nat × Nat)
abbrev vNp (V : sp_V) : Nat := V.1.1
abbrev vNq (V : sp_V) : Nat := V.1.2.1
abbrev vNt (V : sp_V) : Nat := V.1.2.2
abbrev vWy (V : sp_V) : Nat → Nat → Nat := V.2.1
abbrev vWt (V : sp_V) : Nat → Nat := V.2.2.1
abbrev vHg (V : sp_V) : Nat → Nat := V.2.2.2.1
abbrev vRl (V : sp_V) : Nat → Option (List Int) := V.2.2.2.2.1
abbrev vCt (V : sp_V) : Nat := V.2.2.2.2.2.1
abbrev vBk (V : sp_V) : Nat := V.2.2.2.2.2.2.1
abbrev vTh (V : sp_V) : Nat := V.2.2.2.2.2.2.2.1
abbrev vBs (V : sp_V) : Nat := V.2.2.2.2.2.2.2.2
/-- a SUM's steps: what they may be, and that they come to a value -/
def sp_rok (cs : List Int) : Prop := (∀ c ∈ cs, -22 < c ∧ c ≤ 9999) ∧ cs.length ≤ 1600 ∧ ∀ e pn : Int → Int, (∀ c, sp_v (e c)) → (∀ x, sp_v (pn x)) → ∃ v, sp_rn e pn cs [] = some [v]
def sp_okc (k : Nat) (c : Int) : Prop := 0 ≤ c ∨ (-6 ≤ c ∧ c ≤ -1) ∨ c = -14 ∨ c = -15 ∨ c = -16 ∨ (k < 3 ∧ (c = -17 ∨ c = -18)) ∨ (k = 3 ∧ c = -19)
def sp_vw (V : sp_V) : Prop := vNp V ≤ 6 ∧ vNq V ≤ 6 ∧ vNt V ≤ 10 ∧ (∀ a b, vWy V a b ≤ 99) ∧ (∀ t, t < vNt V → 1 ≤ vWt V t ∧ vWt V t ≤ 9) ∧ (∀ t, t < vNt V → vHg V t < 2 ^ t) ∧ (∀ k cs, k < 4 → vRl V k = some cs → sp_rok cs ∧ ∀ c ∈ cs, sp_okc k c) ∧ 1 ≤ vCt V ∧ vCt V ≤ 99 ∧ vBk V ≤ 999 ∧ vTh V ≤ 99 ∧ vBs V ≤ 100
/-- the Valley at v -/
def zv_ok (n : Nat) (P : zk_MP) (v : Nat) : Prop := zk_ok n v 9 ∧ zk_ok n (v + 1) 4 ∧ zk_ok n (v + 2) 20 ∧ zk_ok n (v + 3) 4 ∧ zk_ok n (v + 4) 20 ∧ zk_ok n (v + 5) 4 ∧ zk_ok n (v + 6) 20 ∧ zk_ok n (v + 7) 20 ∧ zk_ok n (v + 8) 20 ∧ zk_ok n (v + 9) 20 ∧ zk_ok n (v + 10) 20 ∧ zk_ok n (v + 11) 20 ∧ zk_ok n (v + 12) 20 ∧ zk_ok n (v + 13) 20 ∧ zk_ok n (v + 14) 20 ∧
  zk_lay (v + 2) = (20, 36) ∧ zk_lay (v + 4) = (20, 36) ∧ zk_lay (v + 6) = (20, 60) ∧ zk_lay (v + 7) = (20, 36) ∧ zk_lay (v + 8) = (20, 6) ∧ zk_lay (v + 9) = (20, 10) ∧ zk_lay (v + 10) = (20, 10) ∧ zk_lay (v + 11) = (20, 60) ∧ zk_lay (v + 12) = (20, 1600) ∧ zk_lay (v + 13) = (20, 4) ∧ zk_lay (v + 14) = (20, 4) ∧
  P v 0 = some (v + 1) ∧ P v 1 = some (v + 3) ∧ P v 2 = some (v + 5) ∧ P v 3 = some (v + 7) ∧ P v 4 = some (v + 8) ∧ P v 5 = some (v + 9) ∧ P v 6 = some (v + 10) ∧ P v 7 = some (v + 11) ∧ P v 8 = some (v + 12) ∧ P v 9 = some (v + 13) ∧ P v 10 = some (v + 14) ∧ P (v + 1) 0 = some (v + 2) ∧ P (v + 3) 0 = some (v + 4) ∧ P (v + 5) 0 = some (v + 6)
def zv_rule (M : zk_MI) (v k : Nat) : Option (List Int) → Prop
  | none => M (v + 13) k = -1
  | some cs => ∃ f, M (v + 13) k = nI f ∧ M (v + 14) k = nI (f + cs.length) ∧ f + cs.length ≤ 1600 ∧ ∀ i, i < cs.length → M (v + 12) (f + i) = iI (cs.getD i 0)
def zv_rep (M : zk_MI) (v : Nat) (V : sp_V) : Prop := M (v + 1) 2 = nI (vNp V) ∧ M (v + 3) 2 = nI (vNq V) ∧ M (v + 5) 2 = nI (vNt V) ∧ (∀ a b, a < 6 → b < 6 → M (v + 7) (6 * a + b) = nI (vWy V a b)) ∧ (∀ t, t < vNt V → M (v + 9) t = nI (vWt V t)) ∧ (∀ t, t < vNt V → M (v + 10) t = nI (vHg V t)) ∧ (∀ k, k < 4 → zv_rule M v k (vRl V k)) ∧ M v 11 = nI (vCt V) ∧ M v 12 = nI (vBk V) ∧ M v 13 = nI (vTh V) ∧ M v 14 = nI (vBs V)
theorem zv_rep_fr {M M' : zk_MI} {v : Nat} {V : sp_V} (h : zv_rep M v V) (hq : ∀ q, v ≤ q → q ≤ v + 14 → M' q = M q) : zv_rep M' v V := by
  obtain ⟨h1, h2, h3, h4, h5, h6, h7, h8, h9, h10, h11⟩ := h
  refine ⟨by rw [hq _ (by omega) (by omega)]; exact h1, by rw [hq _ (by omega) (by omega)]; exact h2, by rw [hq _ (by omega) (by omega)]; exact h3, fun a b ha hb => by rw [hq _ (by omega) (by omega)]; exact h4 a b ha hb, fun t ht => by rw [hq _ (by omega) (by omega)]; exact h5 t ht, fun t ht => by rw [hq _ (by omega) (by omega)]; exact h6 t ht, fun k hk => ?_, by rw [hq _ (by omega) (by omega)]; exact h8, by rw [hq _ (by omega) (by omega)]; exact h9, by rw [hq _ (by omega) (by omega)]; exact h10, by rw [hq _ (by omega) (by omega)]; exact h11⟩
  have := h7 k hk
  cases hr : vRl V k with
  | none =>
    rw [hr] at this
    show M' (v + 13) k = -1
    rw [hq _ (by omega) (by omega)]
    exact this
  | some cs =>
    rw [hr] at this
    obtain ⟨f, f1, f2, f3, f4⟩ := this
    exact ⟨f, by rw [hq _ (by omega) (by omega)]; exact f1, by rw [hq _ (by omega) (by omega)]; exact f2, f3, fun i hi => by rw [hq _ (by omega) (by omega)]; exact f4 i hi⟩
/-- DAY, PLACES, points; snow, GONE, LOST -/
abbrev sp_S : Type := Nat × (Nat → Nat) × (Nat → Nat → Nat) × (Nat → Nat → Nat) × (Nat → Nat) × (Nat → Nat)
abbrev sDay (s : sp_S) : Nat := s.1
abbrev sSt (s : sp_S) : Nat → Nat := s.2.1
abbrev sPt (s : sp_S) : Nat → Nat → Nat := s.2.2.1
abbrev sLy (s : sp_S) : Nat → Nat → Nat := s.2.2.2.1
abbrev sGn (s : sp_S) : Nat → Nat := s.2.2.2.2.1
abbrev sLo (s : sp_S) : Nat → Nat := s.2.2.2.2.2
/-- what is known, in a Moment's rows -/
def zm_kn (M : zk_MI) (b day : Nat) (st : Nat → Nat) (pt : Nat → Nat → Nat) : Prop := M b 5 = nI day ∧ day ≤ 10000 ∧ (∀ p, p < 6 → M (b + 1) p = nI (st p) ∧ st p < 6) ∧ zm_pt M b pt
def zm_sn (M : zk_MI) (b : Nat) (ly : Nat → Nat → Nat) (gn lo : Nat → Nat) : Prop := zm_ly M b ly ∧ (∀ t, t < 10 → M (b + 4) t = nI (gn t) ∧ gn t ≤ 9999) ∧ ∀ t, t < 10 → M (b + 5) t = nI (lo t) ∧ lo t < 64
def zm_rep (M : zk_MI) (b : Nat) (s : sp_S) : Prop := zm_kn M b (sDay s) (sSt s) (sPt s) ∧ zm_sn M b (sLy s) (sGn s) (sLo s)
theorem zm_kn_fr {M M' : zk_MI} {b day : Nat} {st : Nat → Nat} {pt : Nat → Nat → Nat} (h : zm_kn M b day st pt) (hq : ∀ q, b ≤ q → q ≤ b + 2 → M' q = M q) : zm_kn M' b day st pt := by
  obtain ⟨h1, h2, h3, h4⟩ := h
  exact ⟨by rw [hq _ (by omega) (by omega)]; exact h1, h2, fun p hp => by rw [hq _ (by omega) (by omega)]; exact h3 p hp, fun p t hp ht => by rw [hq _ (by omega) (by omega)]; exact h4 p t hp ht⟩
theorem zm_sn_fr {M M' : zk_MI} {b : Nat} {ly : Nat → Nat → Nat} {gn lo : Nat → Nat} (h : zm_sn M b ly gn lo) (hq : ∀ q, b + 3 ≤ q → q ≤ b + 5 → M' q = M q) : zm_sn M' b ly gn lo := by
  obtain ⟨h1, h2, h3⟩ := h
  exact ⟨fun p t hp ht => by rw [hq _ (by omega) (by omega)]; exact h1 p t hp ht, fun t ht => by rw [hq _ (by omega) (by omega)]; exact h2 t ht, fun t ht => by rw [hq _ (by omega) (by omega)]; exact h3 t ht⟩
/-- told, his: values of SUMS -/
def zk_told (M : zk_MI) : Prop := ∀ k, k < 8 → sp_v (M 3 k).toInt
theorem sp_pc_le (a : Nat) : sp_pc a ≤ 10 := by
  unfold sp_pc
  have := List.length_filter_le (fun t => a.testBit t) (List.range 10)
  simpa using this
theorem nI_v {k : Nat} (h : k ≤ 1000000) : sp_v (nI k).toInt := by
  rw [nI_toInt (by omega)]
  constructor <;> omega
theorem zk_told_up {M : zk_MI} {k : Nat} {x : Int32} (h : zk_told M) (hx : sp_v x.toInt) : zk_told (zk_up M 3 k x) := by
  intro j hj
  by_cases e : j = k
  · subst e; rw [zk_up_at]; exact hx
  · rw [zk_up_ne (by simp [e])]; exact h j hj
def B_X2_turnTo_0 : List zk_I := [(.aload_n 0, 1, 0, 0, 0, 0, []), (.bipush (-14), 2, (-14), 0, 0, 0, []), (.aload_n 1, 1, 0, 1, 0, 0, []), (.getfield 25, 3, 0, 9, 5, 0, []), (.iload_n 3, 1, 0, 3, 0, 0, []), (.iaload, 1, 0, 0, 0, 0, []), (.invokevirtual 30, 3, 0, 3, 36, 2, []), (.aload_n 0, 1, 0, 0, 0, 0, []), (.bipush (-18), 2, (-18), 0, 0, 0, []), (.aload_n 1, 1, 0, 1, 0, 0, []), (.getfield 34, 3, 0, 9, 6, 0, []), (.iload_n 3, 1, 0, 3, 0, 0, []), (.iaload, 1, 0, 0, 0, 0, []), (.invokestatic 37, 3, 0, 1, 315, 14, []), (.invokevirtual 30, 3, 0, 3, 36, 2, []), (.aload_n 0, 1, 0, 0, 0, 0, []), (.bipush (-15), 2, (-15), 0, 0, 0, []), (.aload_n 2, 1, 0, 2, 0, 0, []), (.iload_n 3, 1, 0, 3, 0, 0, []), (.invokevirtual 43, 3, 0, 2, 50, 3, []), (.invokevirtual 30, 3, 0, 3, 36, 2, []), (.aload_n 0, 1, 0, 0, 0, 0, []), (.bipush (-16), 2, (-16), 0, 0, 0, []), (.aload_n 2, 1, 0, 2, 0, 0, []), (.getfield 48, 3, 0, 3, 5, 0, []), (.invokevirtual 30, 3, 0, 3, 36, 2, []), (.return_, 1, 0, 0, 0, 0, [])]
theorem k_X2_turnTo_0 : zk_ckb 2 false (zk_m 37) B_X2_turnTo_0 0 = true := by decide +kernel
def B_X2_learn_0 : List zk_I := [(.iconst 0, 1, 0, 0, 0, 0, []), (.istore 4, 2, 0, 4, 0, 0, [])]
theorem k_X2_learn_0 : zk_ckb 2 false (zk_m 38) B_X2_learn_0 0 = true := by decide +kernel
def B_X2_learn_3 : List zk_I := [(.iload 4, 2, 0, 4, 0, 0, []), (.bipush 10, 2, 10, 0, 0, 0, []), (.if_icmp .ge 23, 3, 0, 30, 0, 0, []), (.aload_n 0, 1, 0, 0, 0, 0, []), (.getfield 18, 3, 0, 2, 2, 0, []), (.iload 4, 2, 0, 4, 0, 0, []), (.aload_n 1, 1, 0, 1, 0, 0, []), (.iload_n 2, 1, 0, 2, 0, 0, []), (.iload 4, 2, 0, 4, 0, 0, []), (.invokevirtual 51, 3, 0, 3, 47, 3, []), (.iastore, 1, 0, 0, 0, 0, []), (.iinc 4 1, 3, 1, 4, 0, 0, []), (.goto (-24), 3, 0, 3, 0, 0, [])]
theorem k_X2_learn_3 : zk_ckb 2 false (zk_m 38) B_X2_learn_3 3 = true := by decide +kernel
def B_X2_learn_30 : List zk_I := [(.aload_n 0, 1, 0, 0, 0, 0, []), (.iload_n 3, 1, 0, 3, 0, 0, []), (.putfield 21, 3, 0, 2, 3, 0, []), (.return_, 1, 0, 0, 0, 0, [])]
theorem k_X2_learn_30 : zk_ckb 2 false (zk_m 38) B_X2_learn_30 30 = true := by decide +kernel
section TT
variable {G : zk_G} {n : Nat} {M : zk_MI} {L : zk_ML} {P : zk_MP}
def zk_tt (M : zk_MI) (w h k d : Nat) : zk_MI := zk_up (zk_up (zk_up (zk_up M 3 0 (nI w)) 3 4 (nI h)) 3 1 (nI k)) 3 2 (nI d)
theorem zk_tt_row {w h k d q : Nat} (hq : q ≠ 3) : zk_tt M w h k d q = M q := by
  unfold zk_tt
  rw [zk_up_row hq, zk_up_row hq, zk_up_row hq, zk_up_row hq]
theorem ct_turnTo (hn : 154 ≤ n) (hP : zs_X P) {v b : Nat} (hv : zv_ok n P v) (hv0 : 49 ≤ v) {V : sp_V} (hV : sp_vw V) (hVr : zv_rep M v V) (hb : zm_ok n P b) (hb0 : 15 ≤ b) {day : Nat} {st : Nat → Nat} {pt : Nat → Nat → Nat} (hk : zm_kn M b day st pt) (t : Nat) (ht : t < vNt V) : zk_C G 1 37 [.ref 1, .ref v, .ref b, .int (nI t)] n M L P n (zk_same none (zk_tt M (vWt V t) (sp_pc (vHg V t)) (sp_ck pt t 6) day) L P) := by
  have hnt : vNt V ≤ 10 := hV.2.2.1
  have hhg : vHg V t < 1024 := Nat.lt_of_lt_of_le (hV.2.2.2.2.2.1 t ht) (Nat.le_trans (Nat.pow_le_pow_right (by decide) (show t ≤ 10 by omega)) (by decide))
  refine zk_meth (ow := 2) (kind := 1) (k := 3) (nL := 4) (ct := false) (l0 := [.ref 1, .ref v, .ref b, .int (nI t)]) (by decide +kernel) (fun h => by cases h) (by decide +kernel) (by decide) (by decide) (fun h => absurd h (by decide)) (Nat.le_of_ble_eq_true rfl) rfl (by omega) (fun Z hZ => ?_)
  have ho := zo_X hn
  have hv2 := hv
  unfold zv_ok at hv2
  have hb2 := hb
  unfold zm_ok at hb2
  have hc : (nI t).toNatClampNeg = t := nI_clamp (by omega)
  have hin : vp_in (nI t) 10 := vp_in_nI (by omega) (by omega)
  have hw := hVr.2.2.2.2.1 t ht
  have hh := hVr.2.2.2.2.2.1 t ht
  refine hZ B_X2_turnTo_0 _ _ _ _ _ _ _ k_X2_turnTo_0 ?_
  simp only [B_X2_turnTo_0, zk_ldi_s, zk_ldl_s, zk_lda_r, zk_lda_a, zk_lda_n, zk_iv_s, zr_nil, zr_cons, zp_0, zp_s, zt_0, zt_s, zt2_0, zt2_s, zw_iconst, zw_bipush, zw_sipush, zw_lconst, zw_ldcs, zw_ldc, zw_ldcw, zw_ldc2, zw_iload_n, zw_lload_n, zw_aload_n, zw_istore_n, zw_lstore_n, zw_astore_n, zw_astoreN_n, zw_iload, zw_lload, zw_aload, zw_istore, zw_lstore, zw_astore, zw_astoreN, zw_iinc, zw_iadd, zw_isub, zw_imul, zw_iand, zw_ior, zw_ixor, zw_ishl, zw_ishr, zw_iushr, zw_idiv, zw_irem, zw_ladd, zw_lsub, zw_lmul, zw_land, zw_ldiv, zw_lrem, zw_lcmp, zw_i2l, zw_l2i, zw_dup, zw_pop, zw_dup2i, zw_goto, zw_if_eq, zw_if_ne, zw_if_lt, zw_if_ge, zw_if_gt, zw_if_le, zw_ic_eq, zw_ic_ne, zw_ic_lt, zw_ic_ge, zw_ic_gt, zw_ic_le, zw_ifnn, zw_ifnnN, zw_tsw, zw_lsw, zw_getf_l, zw_getf_r, zw_getf_i, zw_getf_z, zw_putf_i, zw_putf_z, zw_putf_l, zw_putf_r, zw_iaload, zw_caload, zw_laload, zw_aaload, zw_iastore, zw_castore, zw_lastore, zw_aastore, zw_alen, zw_newa, zw_newq, zw_new, zw_oini, zw_invs, zw_invv, zw_copy, zw_invt, zw_iret, zw_lret, zw_ret, zc_r, zc_a, zk_rvs, zk_cat2, List.getElem?_cons_zero, List.getElem?_cons_succ, Bool.false_eq_true, and_false, false_and, and_true, true_and, reduceIte, Nat.reduceEqDiff, Nat.reduceLT, Nat.reduceAdd, List.cons_append, List.nil_append, Option.toList_some, Option.toList_none, zk_cat_i, zk_cat_r, zk_cat_n, zk_same, Option.some.injEq, Value.int.injEq, Value.long.injEq, eq_self, false_implies, true_implies, zf_3, zf_9, ho, hv2, hc, hin, hw]
  refine zk_callS (ct_tell hn hP (-14) (nI (vWt V t)) (by decide) (by decide)) (by decide) (Nat.le_refl _) (Nat.le_of_ble_eq_true rfl) ?_
  simp only [zk_ldi_s, zk_ldl_s, zk_lda_r, zk_lda_a, zk_lda_n, zk_iv_s, zr_nil, zr_cons, zp_0, zp_s, zt_0, zt_s, zt2_0, zt2_s, zw_iconst, zw_bipush, zw_sipush, zw_lconst, zw_ldcs, zw_ldc, zw_ldcw, zw_ldc2, zw_iload_n, zw_lload_n, zw_aload_n, zw_istore_n, zw_lstore_n, zw_astore_n, zw_astoreN_n, zw_iload, zw_lload, zw_aload, zw_istore, zw_lstore, zw_astore, zw_astoreN, zw_iinc, zw_iadd, zw_isub, zw_imul, zw_iand, zw_ior, zw_ixor, zw_ishl, zw_ishr, zw_iushr, zw_idiv, zw_irem, zw_ladd, zw_lsub, zw_lmul, zw_land, zw_ldiv, zw_lrem, zw_lcmp, zw_i2l, zw_l2i, zw_dup, zw_pop, zw_dup2i, zw_goto, zw_if_eq, zw_if_ne, zw_if_lt, zw_if_ge, zw_if_gt, zw_if_le, zw_ic_eq, zw_ic_ne, zw_ic_lt, zw_ic_ge, zw_ic_gt, zw_ic_le, zw_ifnn, zw_ifnnN, zw_tsw, zw_lsw, zw_getf_l, zw_getf_r, zw_getf_i, zw_getf_z, zw_putf_i, zw_putf_z, zw_putf_l, zw_putf_r, zw_iaload, zw_caload, zw_laload, zw_aaload, zw_iastore, zw_castore, zw_lastore, zw_aastore, zw_alen, zw_newa, zw_newq, zw_new, zw_oini, zw_invs, zw_invv, zw_copy, zw_invt, zw_iret, zw_lret, zw_ret, zc_r, zc_a, zk_rvs, zk_cat2, List.getElem?_cons_zero, List.getElem?_cons_succ, Bool.false_eq_true, and_false, false_and, and_true, true_and, reduceIte, Nat.reduceEqDiff, Nat.reduceLT, Nat.reduceAdd, List.cons_append, List.nil_append, Option.toList_some, Option.toList_none, zk_cat_i, zk_cat_r, zk_cat_n, zk_same, Option.some.injEq, Value.int.injEq, Value.long.injEq, eq_self, false_implies, true_implies, zf_3, zf_9, ho, hv2, hc, hin, zk_up_row (show v + 10 ≠ 3 by omega), hh]
  refine zk_callS (ct_bitCount _ hhg) (by decide) (Nat.le_refl _) (Nat.le_of_ble_eq_true rfl) ?_
  simp only [zk_ldi_s, zk_ldl_s, zk_lda_r, zk_lda_a, zk_lda_n, zk_iv_s, zr_nil, zr_cons, zp_0, zp_s, zt_0, zt_s, zt2_0, zt2_s, zw_iconst, zw_bipush, zw_sipush, zw_lconst, zw_ldcs, zw_ldc, zw_ldcw, zw_ldc2, zw_iload_n, zw_lload_n, zw_aload_n, zw_istore_n, zw_lstore_n, zw_astore_n, zw_astoreN_n, zw_iload, zw_lload, zw_aload, zw_istore, zw_lstore, zw_astore, zw_astoreN, zw_iinc, zw_iadd, zw_isub, zw_imul, zw_iand, zw_ior, zw_ixor, zw_ishl, zw_ishr, zw_iushr, zw_idiv, zw_irem, zw_ladd, zw_lsub, zw_lmul, zw_land, zw_ldiv, zw_lrem, zw_lcmp, zw_i2l, zw_l2i, zw_dup, zw_pop, zw_dup2i, zw_goto, zw_if_eq, zw_if_ne, zw_if_lt, zw_if_ge, zw_if_gt, zw_if_le, zw_ic_eq, zw_ic_ne, zw_ic_lt, zw_ic_ge, zw_ic_gt, zw_ic_le, zw_ifnn, zw_ifnnN, zw_tsw, zw_lsw, zw_getf_l, zw_getf_r, zw_getf_i, zw_getf_z, zw_putf_i, zw_putf_z, zw_putf_l, zw_putf_r, zw_iaload, zw_caload, zw_laload, zw_aaload, zw_iastore, zw_castore, zw_lastore, zw_aastore, zw_alen, zw_newa, zw_newq, zw_new, zw_oini, zw_invs, zw_invv, zw_copy, zw_invt, zw_iret, zw_lret, zw_ret, zc_r, zc_a, zk_rvs, zk_cat2, List.getElem?_cons_zero, List.getElem?_cons_succ, Bool.false_eq_true, and_false, false_and, and_true, true_and, reduceIte, Nat.reduceEqDiff, Nat.reduceLT, Nat.reduceAdd, List.cons_append, List.nil_append, Option.toList_some, Option.toList_none, zk_cat_i, zk_cat_r, zk_cat_n, zk_same, Option.some.injEq, Value.int.injEq, Value.long.injEq, eq_self, false_implies, true_implies, zf_3, zf_9, ho]
  refine zk_callS (ct_tell hn hP (-18) _ (by decide) (by decide)) (by decide) (Nat.le_refl _) (Nat.le_of_ble_eq_true rfl) ?_
  simp only [zk_ldi_s, zk_ldl_s, zk_lda_r, zk_lda_a, zk_lda_n, zk_iv_s, zr_nil, zr_cons, zp_0, zp_s, zt_0, zt_s, zt2_0, zt2_s, zw_iconst, zw_bipush, zw_sipush, zw_lconst, zw_ldcs, zw_ldc, zw_ldcw, zw_ldc2, zw_iload_n, zw_lload_n, zw_aload_n, zw_istore_n, zw_lstore_n, zw_astore_n, zw_astoreN_n, zw_iload, zw_lload, zw_aload, zw_istore, zw_lstore, zw_astore, zw_astoreN, zw_iinc, zw_iadd, zw_isub, zw_imul, zw_iand, zw_ior, zw_ixor, zw_ishl, zw_ishr, zw_iushr, zw_idiv, zw_irem, zw_ladd, zw_lsub, zw_lmul, zw_land, zw_ldiv, zw_lrem, zw_lcmp, zw_i2l, zw_l2i, zw_dup, zw_pop, zw_dup2i, zw_goto, zw_if_eq, zw_if_ne, zw_if_lt, zw_if_ge, zw_if_gt, zw_if_le, zw_ic_eq, zw_ic_ne, zw_ic_lt, zw_ic_ge, zw_ic_gt, zw_ic_le, zw_ifnn, zw_ifnnN, zw_tsw, zw_lsw, zw_getf_l, zw_getf_r, zw_getf_i, zw_getf_z, zw_putf_i, zw_putf_z, zw_putf_l, zw_putf_r, zw_iaload, zw_caload, zw_laload, zw_aaload, zw_iastore, zw_castore, zw_lastore, zw_aastore, zw_alen, zw_newa, zw_newq, zw_new, zw_oini, zw_invs, zw_invv, zw_copy, zw_invt, zw_iret, zw_lret, zw_ret, zc_r, zc_a, zk_rvs, zk_cat2, List.getElem?_cons_zero, List.getElem?_cons_succ, Bool.false_eq_true, and_false, false_and, and_true, true_and, reduceIte, Nat.reduceEqDiff, Nat.reduceLT, Nat.reduceAdd, List.cons_append, List.nil_append, Option.toList_some, Option.toList_none, zk_cat_i, zk_cat_r, zk_cat_n, zk_same, Option.some.injEq, Value.int.injEq, Value.long.injEq, eq_self, false_implies, true_implies, zf_3, zf_9, ho, hb2]
  refine zk_callS (ct_countKnowing hb (pt := pt) (fun p t hp ht => by rw [zk_up_row (by omega), zk_up_row (by omega)]; exact hk.2.2.2 p t hp ht) t (by omega)) (by decide) (Nat.le_refl _) (Nat.le_of_ble_eq_true rfl) ?_
  simp only [zk_ldi_s, zk_ldl_s, zk_lda_r, zk_lda_a, zk_lda_n, zk_iv_s, zr_nil, zr_cons, zp_0, zp_s, zt_0, zt_s, zt2_0, zt2_s, zw_iconst, zw_bipush, zw_sipush, zw_lconst, zw_ldcs, zw_ldc, zw_ldcw, zw_ldc2, zw_iload_n, zw_lload_n, zw_aload_n, zw_istore_n, zw_lstore_n, zw_astore_n, zw_astoreN_n, zw_iload, zw_lload, zw_aload, zw_istore, zw_lstore, zw_astore, zw_astoreN, zw_iinc, zw_iadd, zw_isub, zw_imul, zw_iand, zw_ior, zw_ixor, zw_ishl, zw_ishr, zw_iushr, zw_idiv, zw_irem, zw_ladd, zw_lsub, zw_lmul, zw_land, zw_ldiv, zw_lrem, zw_lcmp, zw_i2l, zw_l2i, zw_dup, zw_pop, zw_dup2i, zw_goto, zw_if_eq, zw_if_ne, zw_if_lt, zw_if_ge, zw_if_gt, zw_if_le, zw_ic_eq, zw_ic_ne, zw_ic_lt, zw_ic_ge, zw_ic_gt, zw_ic_le, zw_ifnn, zw_ifnnN, zw_tsw, zw_lsw, zw_getf_l, zw_getf_r, zw_getf_i, zw_getf_z, zw_putf_i, zw_putf_z, zw_putf_l, zw_putf_r, zw_iaload, zw_caload, zw_laload, zw_aaload, zw_iastore, zw_castore, zw_lastore, zw_aastore, zw_alen, zw_newa, zw_newq, zw_new, zw_oini, zw_invs, zw_invv, zw_copy, zw_invt, zw_iret, zw_lret, zw_ret, zc_r, zc_a, zk_rvs, zk_cat2, List.getElem?_cons_zero, List.getElem?_cons_succ, Bool.false_eq_true, and_false, false_and, and_true, true_and, reduceIte, Nat.reduceEqDiff, Nat.reduceLT, Nat.reduceAdd, List.cons_append, List.nil_append, Option.toList_some, Option.toList_none, zk_cat_i, zk_cat_r, zk_cat_n, zk_same, Option.some.injEq, Value.int.injEq, Value.long.injEq, eq_self, false_implies, true_implies, zf_3, zf_9, ho]
  refine zk_callS (ct_tell hn hP (-15) _ (by decide) (by decide)) (by decide) (Nat.le_refl _) (Nat.le_of_ble_eq_true rfl) ?_
  simp only [zk_ldi_s, zk_ldl_s, zk_lda_r, zk_lda_a, zk_lda_n, zk_iv_s, zr_nil, zr_cons, zp_0, zp_s, zt_0, zt_s, zt2_0, zt2_s, zw_iconst, zw_bipush, zw_sipush, zw_lconst, zw_ldcs, zw_ldc, zw_ldcw, zw_ldc2, zw_iload_n, zw_lload_n, zw_aload_n, zw_istore_n, zw_lstore_n, zw_astore_n, zw_astoreN_n, zw_iload, zw_lload, zw_aload, zw_istore, zw_lstore, zw_astore, zw_astoreN, zw_iinc, zw_iadd, zw_isub, zw_imul, zw_iand, zw_ior, zw_ixor, zw_ishl, zw_ishr, zw_iushr, zw_idiv, zw_irem, zw_ladd, zw_lsub, zw_lmul, zw_land, zw_ldiv, zw_lrem, zw_lcmp, zw_i2l, zw_l2i, zw_dup, zw_pop, zw_dup2i, zw_goto, zw_if_eq, zw_if_ne, zw_if_lt, zw_if_ge, zw_if_gt, zw_if_le, zw_ic_eq, zw_ic_ne, zw_ic_lt, zw_ic_ge, zw_ic_gt, zw_ic_le, zw_ifnn, zw_ifnnN, zw_tsw, zw_lsw, zw_getf_l, zw_getf_r, zw_getf_i, zw_getf_z, zw_putf_i, zw_putf_z, zw_putf_l, zw_putf_r, zw_iaload, zw_caload, zw_laload, zw_aaload, zw_iastore, zw_castore, zw_lastore, zw_aastore, zw_alen, zw_newa, zw_newq, zw_new, zw_oini, zw_invs, zw_invv, zw_copy, zw_invt, zw_iret, zw_lret, zw_ret, zc_r, zc_a, zk_rvs, zk_cat2, List.getElem?_cons_zero, List.getElem?_cons_succ, Bool.false_eq_true, and_false, false_and, and_true, true_and, reduceIte, Nat.reduceEqDiff, Nat.reduceLT, Nat.reduceAdd, List.cons_append, List.nil_append, Option.toList_some, Option.toList_none, zk_cat_i, zk_cat_r, zk_cat_n, zk_same, Option.some.injEq, Value.int.injEq, Value.long.injEq, eq_self, false_implies, true_implies, zf_3, zf_9, ho, hb2, zk_up_row (show b ≠ 3 by omega), hk.1]
  refine zk_callS (ct_tell hn hP (-16) _ (by decide) (by decide)) (by decide) (Nat.le_refl _) (Nat.le_of_ble_eq_true rfl) ?_
  simp only [zk_ldi_s, zk_ldl_s, zk_lda_r, zk_lda_a, zk_lda_n, zk_iv_s, zr_nil, zr_cons, zp_0, zp_s, zt_0, zt_s, zt2_0, zt2_s, zw_iconst, zw_bipush, zw_sipush, zw_lconst, zw_ldcs, zw_ldc, zw_ldcw, zw_ldc2, zw_iload_n, zw_lload_n, zw_aload_n, zw_istore_n, zw_lstore_n, zw_astore_n, zw_astoreN_n, zw_iload, zw_lload, zw_aload, zw_istore, zw_lstore, zw_astore, zw_astoreN, zw_iinc, zw_iadd, zw_isub, zw_imul, zw_iand, zw_ior, zw_ixor, zw_ishl, zw_ishr, zw_iushr, zw_idiv, zw_irem, zw_ladd, zw_lsub, zw_lmul, zw_land, zw_ldiv, zw_lrem, zw_lcmp, zw_i2l, zw_l2i, zw_dup, zw_pop, zw_dup2i, zw_goto, zw_if_eq, zw_if_ne, zw_if_lt, zw_if_ge, zw_if_gt, zw_if_le, zw_ic_eq, zw_ic_ne, zw_ic_lt, zw_ic_ge, zw_ic_gt, zw_ic_le, zw_ifnn, zw_ifnnN, zw_tsw, zw_lsw, zw_getf_l, zw_getf_r, zw_getf_i, zw_getf_z, zw_putf_i, zw_putf_z, zw_putf_l, zw_putf_r, zw_iaload, zw_caload, zw_laload, zw_aaload, zw_iastore, zw_castore, zw_lastore, zw_aastore, zw_alen, zw_newa, zw_newq, zw_new, zw_oini, zw_invs, zw_invv, zw_copy, zw_invt, zw_iret, zw_lret, zw_ret, zc_r, zc_a, zk_rvs, zk_cat2, List.getElem?_cons_zero, List.getElem?_cons_succ, Bool.false_eq_true, and_false, false_and, and_true, true_and, reduceIte, Nat.reduceEqDiff, Nat.reduceLT, Nat.reduceAdd, List.cons_append, List.nil_append, Option.toList_some, Option.toList_none, zk_cat_i, zk_cat_r, zk_cat_n, zk_same, Option.some.injEq, Value.int.injEq, Value.long.injEq, eq_self, false_implies, true_implies, zf_3, zf_9]
  rfl
end TT
