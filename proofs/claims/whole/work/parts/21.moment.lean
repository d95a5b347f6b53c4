/-! ===== Moment: reading ===== -/
def B_X3_pointsOf_0 : List zk_I := [(.aload_n 0, 1, 0, 0, 0, 0, []), (.getfield 15, 3, 0, 3, 1, 0, []), (.iload_n 1, 1, 0, 1, 0, 0, []), (.bipush 10, 2, 10, 0, 0, 0, []), (.imul, 1, 0, 0, 0, 0, []), (.iload_n 2, 1, 0, 2, 0, 0, []), (.iadd, 1, 0, 0, 0, 0, []), (.iaload, 1, 0, 0, 0, 0, []), (.ireturn, 1, 0, 0, 0, 0, [])]
theorem k_X3_pointsOf_0 : zk_ckb 3 false (zk_m 47) B_X3_pointsOf_0 0 = true := by decide +kernel
def B_X3_knownBy_0 : List zk_I := [(.iconst 0, 1, 0, 0, 0, 0, []), (.istore_n 2, 1, 0, 2, 0, 0, []), (.iconst 0, 1, 0, 0, 0, 0, []), (.istore_n 3, 1, 0, 3, 0, 0, [])]
theorem k_X3_knownBy_0 : zk_ckb 3 false (zk_m 48) B_X3_knownBy_0 0 = true := by decide +kernel
def B_X3_knownBy_4 : List zk_I := [(.iload_n 3, 1, 0, 3, 0, 0, []), (.bipush 10, 2, 10, 0, 0, 0, []), (.if_icmp .ge 29, 3, 0, 36, 0, 0, []), (.aload_n 0, 1, 0, 0, 0, 0, []), (.getfield 15, 3, 0, 3, 1, 0, []), (.iload_n 1, 1, 0, 1, 0, 0, []), (.bipush 10, 2, 10, 0, 0, 0, []), (.imul, 1, 0, 0, 0, 0, []), (.iload_n 3, 1, 0, 3, 0, 0, []), (.iadd, 1, 0, 0, 0, 0, []), (.iaload, 1, 0, 0, 0, 0, []), (.ifCond .le 9, 3, 0, 30, 0, 0, []), (.iload_n 2, 1, 0, 2, 0, 0, []), (.iconst 1, 1, 1, 0, 0, 0, []), (.iload_n 3, 1, 0, 3, 0, 0, []), (.ishl, 1, 0, 0, 0, 0, []), (.ior, 1, 0, 0, 0, 0, []), (.istore_n 2, 1, 0, 2, 0, 0, []), (.iinc 3 1, 3, 1, 3, 0, 0, []), (.goto (-29), 3, 0, 4, 0, 0, [])]
theorem k_X3_knownBy_4 : zk_ckb 3 false (zk_m 48) B_X3_knownBy_4 4 = true := by decide +kernel
def B_X3_knownBy_30 : List zk_I := [(.iinc 3 1, 3, 1, 3, 0, 0, []), (.goto (-29), 3, 0, 4, 0, 0, [])]
theorem k_X3_knownBy_30 : zk_ckb 3 false (zk_m 48) B_X3_knownBy_30 30 = true := by decide +kernel
def B_X3_knownBy_36 : List zk_I := [(.iload_n 2, 1, 0, 2, 0, 0, []), (.ireturn, 1, 0, 0, 0, 0, [])]
theorem k_X3_knownBy_36 : zk_ckb 3 false (zk_m 48) B_X3_knownBy_36 36 = true := by decide +kernel
def B_X3_knowsAll_0 : List zk_I := [(.iload_n 2, 1, 0, 2, 0, 0, []), (.aload_n 0, 1, 0, 0, 0, 0, []), (.iload_n 1, 1, 0, 1, 0, 0, []), (.invokevirtual 47, 3, 0, 2, 48, 3, []), (.iconst (-1), 1, (-1), 0, 0, 0, []), (.ixor, 1, 0, 0, 0, 0, []), (.iand, 1, 0, 0, 0, 0, []), (.ifCond .ne 7, 3, 0, 16, 0, 0, []), (.iconst 1, 1, 1, 0, 0, 0, []), (.goto 4, 3, 0, 17, 0, 0, [])]
theorem k_X3_knowsAll_0 : zk_ckb 3 false (zk_m 49) B_X3_knowsAll_0 0 = true := by decide +kernel
def B_X3_knowsAll_16 : List zk_I := [(.iconst 0, 1, 0, 0, 0, 0, []), (.ireturn, 1, 0, 1, 0, 0, [])]
theorem k_X3_knowsAll_16 : zk_ckb 3 false (zk_m 49) B_X3_knowsAll_16 16 = true := by decide +kernel
def B_X3_knowsAll_17 : List zk_I := [(.ireturn, 1, 0, 1, 0, 0, [])]
theorem k_X3_knowsAll_17 : zk_ckb 3 false (zk_m 49) B_X3_knowsAll_17 17 = true := by decide +kernel
def B_X3_countKnowing_0 : List zk_I := [(.iconst 0, 1, 0, 0, 0, 0, []), (.istore_n 2, 1, 0, 2, 0, 0, []), (.iconst 0, 1, 0, 0, 0, 0, []), (.istore_n 3, 1, 0, 3, 0, 0, [])]
theorem k_X3_countKnowing_0 : zk_ckb 3 false (zk_m 50) B_X3_countKnowing_0 0 = true := by decide +kernel
def B_X3_countKnowing_4 : List zk_I := [(.iload_n 3, 1, 0, 3, 0, 0, []), (.bipush 6, 2, 6, 0, 0, 0, []), (.if_icmp .ge 26, 3, 0, 33, 0, 0, []), (.aload_n 0, 1, 0, 0, 0, 0, []), (.getfield 15, 3, 0, 3, 1, 0, []), (.iload_n 3, 1, 0, 3, 0, 0, []), (.bipush 10, 2, 10, 0, 0, 0, []), (.imul, 1, 0, 0, 0, 0, []), (.iload_n 1, 1, 0, 1, 0, 0, []), (.iadd, 1, 0, 0, 0, 0, []), (.iaload, 1, 0, 0, 0, 0, []), (.ifCond .le 6, 3, 0, 27, 0, 0, []), (.iinc 2 1, 3, 1, 2, 0, 0, []), (.iinc 3 1, 3, 1, 3, 0, 0, []), (.goto (-26), 3, 0, 4, 0, 0, [])]
theorem k_X3_countKnowing_4 : zk_ckb 3 false (zk_m 50) B_X3_countKnowing_4 4 = true := by decide +kernel
def B_X3_countKnowing_27 : List zk_I := [(.iinc 3 1, 3, 1, 3, 0, 0, []), (.goto (-26), 3, 0, 4, 0, 0, [])]
theorem k_X3_countKnowing_27 : zk_ckb 3 false (zk_m 50) B_X3_countKnowing_27 27 = true := by decide +kernel
def B_X3_countKnowing_33 : List zk_I := [(.iload_n 2, 1, 0, 2, 0, 0, []), (.ireturn, 1, 0, 0, 0, 0, [])]
theorem k_X3_countKnowing_33 : zk_ckb 3 false (zk_m 50) B_X3_countKnowing_33 33 = true := by decide +kernel
def B_X3_lyingIn_0 : List zk_I := [(.iconst 0, 1, 0, 0, 0, 0, []), (.istore_n 2, 1, 0, 2, 0, 0, []), (.iconst 0, 1, 0, 0, 0, 0, []), (.istore_n 3, 1, 0, 3, 0, 0, [])]
theorem k_X3_lyingIn_0 : zk_ckb 3 false (zk_m 51) B_X3_lyingIn_0 0 = true := by decide +kernel
def B_X3_lyingIn_4 : List zk_I := [(.iload_n 3, 1, 0, 3, 0, 0, []), (.bipush 10, 2, 10, 0, 0, 0, []), (.if_icmp .ge 23, 3, 0, 30, 0, 0, []), (.iload_n 2, 1, 0, 2, 0, 0, []), (.aload_n 0, 1, 0, 0, 0, 0, []), (.getfield 18, 3, 0, 3, 2, 0, []), (.iload_n 1, 1, 0, 1, 0, 0, []), (.bipush 10, 2, 10, 0, 0, 0, []), (.imul, 1, 0, 0, 0, 0, []), (.iload_n 3, 1, 0, 3, 0, 0, []), (.iadd, 1, 0, 0, 0, 0, []), (.iaload, 1, 0, 0, 0, 0, []), (.iadd, 1, 0, 0, 0, 0, []), (.istore_n 2, 1, 0, 2, 0, 0, []), (.iinc 3 1, 3, 1, 3, 0, 0, []), (.goto (-23), 3, 0, 4, 0, 0, [])]
theorem k_X3_lyingIn_4 : zk_ckb 3 false (zk_m 51) B_X3_lyingIn_4 4 = true := by decide +kernel
def B_X3_lyingIn_30 : List zk_I := [(.iload_n 2, 1, 0, 2, 0, 0, []), (.ireturn, 1, 0, 0, 0, 0, [])]
theorem k_X3_lyingIn_30 : zk_ckb 3 false (zk_m 51) B_X3_lyingIn_30 30 = true := by decide +kernel
def B_X3_lyingOf_0 : List zk_I := [(.iconst 0, 1, 0, 0, 0, 0, []), (.istore_n 2, 1, 0, 2, 0, 0, []), (.iconst 0, 1, 0, 0, 0, 0, []), (.istore_n 3, 1, 0, 3, 0, 0, [])]
theorem k_X3_lyingOf_0 : zk_ckb 3 false (zk_m 52) B_X3_lyingOf_0 0 = true := by decide +kernel
def B_X3_lyingOf_4 : List zk_I := [(.iload_n 3, 1, 0, 3, 0, 0, []), (.bipush 6, 2, 6, 0, 0, 0, []), (.if_icmp .ge 23, 3, 0, 30, 0, 0, []), (.iload_n 2, 1, 0, 2, 0, 0, []), (.aload_n 0, 1, 0, 0, 0, 0, []), (.getfield 18, 3, 0, 3, 2, 0, []), (.iload_n 3, 1, 0, 3, 0, 0, []), (.bipush 10, 2, 10, 0, 0, 0, []), (.imul, 1, 0, 0, 0, 0, []), (.iload_n 1, 1, 0, 1, 0, 0, []), (.iadd, 1, 0, 0, 0, 0, []), (.iaload, 1, 0, 0, 0, 0, []), (.iadd, 1, 0, 0, 0, 0, []), (.istore_n 2, 1, 0, 2, 0, 0, []), (.iinc 3 1, 3, 1, 3, 0, 0, []), (.goto (-23), 3, 0, 4, 0, 0, [])]
theorem k_X3_lyingOf_4 : zk_ckb 3 false (zk_m 52) B_X3_lyingOf_4 4 = true := by decide +kernel
def B_X3_lyingOf_30 : List zk_I := [(.iload_n 2, 1, 0, 2, 0, 0, []), (.ireturn, 1, 0, 0, 0, 0, [])]
theorem k_X3_lyingOf_30 : zk_ckb 3 false (zk_m 52) B_X3_lyingOf_30 30 = true := by decide +kernel
/-- a Moment stands at b, its rows behind it -/
def zm_ok (n : Nat) (P : zk_MP) (b : Nat) : Prop := zk_ok n b 3 ∧ zk_ok n (b + 1) 20 ∧ zk_ok n (b + 2) 20 ∧ zk_ok n (b + 3) 20 ∧ zk_ok n (b + 4) 20 ∧ zk_ok n (b + 5) 20 ∧ zk_lay (b + 1) = (20, 6) ∧ zk_lay (b + 2) = (20, 60) ∧ zk_lay (b + 3) = (20, 60) ∧ zk_lay (b + 4) = (20, 10) ∧ zk_lay (b + 5) = (20, 10) ∧ P b 0 = some (b + 1) ∧ P b 1 = some (b + 2) ∧ P b 2 = some (b + 3) ∧ P b 3 = some (b + 4) ∧ P b 4 = some (b + 5)
/-- points, snow of a Moment's rows -/
def zm_pt (M : zk_MI) (b : Nat) (pt : Nat → Nat → Nat) : Prop := ∀ p t, p < 6 → t < 10 → M (b + 2) (10 * p + t) = nI (pt p t) ∧ pt p t ≤ 99
def zm_ly (M : zk_MI) (b : Nat) (ly : Nat → Nat → Nat) : Prop := ∀ p t, p < 6 → t < 10 → M (b + 3) (10 * p + t) = nI (ly p t) ∧ ly p t ≤ 999
/-- what one KNOWS, as bits; how many KNOW it; what lies in a place, of a thing -/
def sp_kn (pt : Nat → Nat → Nat) (p : Nat) : Nat → Nat
  | 0 => 0
  | t + 1 => sp_kn pt p t + if pt p t = 0 then 0 else 2 ^ t
def sp_ck (pt : Nat → Nat → Nat) (t : Nat) : Nat → Nat
  | 0 => 0
  | p + 1 => sp_ck pt t p + if pt p t = 0 then 0 else 1
def sp_li (ly : Nat → Nat → Nat) (p : Nat) : Nat → Nat
  | 0 => 0
  | t + 1 => sp_li ly p t + ly p t
def sp_lo (ly : Nat → Nat → Nat) (t : Nat) : Nat → Nat
  | 0 => 0
  | p + 1 => sp_lo ly t p + ly p t
theorem sp_kn_lt (pt : Nat → Nat → Nat) (p : Nat) : ∀ t, sp_kn pt p t < 2 ^ t
  | 0 => by simp [sp_kn]
  | t + 1 => by
    have := sp_kn_lt pt p t
    simp only [sp_kn, Nat.pow_succ]
    split <;> omega
theorem sp_kn_bit (pt : Nat → Nat → Nat) (p : Nat) : ∀ k t, (sp_kn pt p k).testBit t = (decide (t < k) && !(pt p t == 0))
  | 0, t => by simp [sp_kn]
  | k + 1, t => by
    have hl := sp_kn_lt pt p k
    have ih := sp_kn_bit pt p k t
    simp only [sp_kn]
    by_cases h0 : pt p k = 0
    · rw [if_pos h0, Nat.add_zero, ih]
      by_cases htk : t = k
      · subst htk; simp [h0]
      · have : decide (t < k + 1) = decide (t < k) := by simp; omega
        rw [this]
    · rw [if_neg h0, Nat.add_comm, ← Nat.mul_one (2 ^ k), Nat.testBit_two_pow_mul_add _ hl]
      by_cases htk : t < k
      · rw [if_pos htk, ih]
        simp [htk]; omega
      · rw [if_neg htk]
        by_cases he : t = k
        · subst he; simp [h0]
        · have : ¬ t < k + 1 := by omega
          have h2 : t - k ≠ 0 := by omega
          obtain ⟨j, hj⟩ : ∃ j, t - k = j + 1 := ⟨t - k - 1, by omega⟩
          rw [hj, Nat.testBit_succ]
          simp [this]
theorem sp_ck_le (pt : Nat → Nat → Nat) (t : Nat) : ∀ p, sp_ck pt t p ≤ p
  | 0 => Nat.le_refl _
  | p + 1 => by
    have := sp_ck_le pt t p
    simp only [sp_ck]
    split <;> omega
theorem sp_li_le {ly : Nat → Nat → Nat} {p c : Nat} : ∀ t, (∀ u, u < t → ly p u ≤ c) → sp_li ly p t ≤ t * c
  | 0, _ => by simp [sp_li]
  | t + 1, h => by
    have h1 := sp_li_le t (fun u hu => h u (by omega))
    have h2 := h t (by omega)
    simp only [sp_li, Nat.succ_mul]
    omega
theorem sp_lo_le {ly : Nat → Nat → Nat} {t c : Nat} : ∀ p, (∀ u, u < p → ly u t ≤ c) → sp_lo ly t p ≤ p * c
  | 0, _ => by simp [sp_lo]
  | p + 1, h => by
    have h1 := sp_lo_le p (fun u hu => h u (by omega))
    have h2 := h p (by omega)
    simp only [sp_lo, Nat.succ_mul]
    omega
theorem zx_10 (p t : Nat) : nI p * 10 + nI t = nI (10 * p + t) := by rw [fa_lit 10, pk_mul, nI_add, Nat.mul_comm]
section MOM
variable {G : zk_G} {n b : Nat} {M : zk_MI} {L : zk_ML} {P : zk_MP}
theorem ct_pointsOf (hb : zm_ok n P b) {pt : Nat → Nat → Nat} (hpt : zm_pt M b pt) (p t : Nat) (hp : p < 6) (ht : t < 10) : zk_C G 0 47 [.ref b, .int (nI p), .int (nI t)] n M L P n (zk_same (some (.int (nI (pt p t)))) M L P) := by
  refine zk_meth (ow := 3) (kind := 1) (k := 2) (nL := 3) (ct := false) (l0 := [.ref b, .int (nI p), .int (nI t)]) (by decide +kernel) (fun h => by cases h) (by decide +kernel) (by decide) (by decide) (fun h => absurd h (by decide)) (Nat.le_of_ble_eq_true rfl) rfl (by omega) (fun Z hZ => ?_)
  unfold zm_ok at hb
  have hc : (nI (10 * p + t)).toNatClampNeg = 10 * p + t := nI_clamp (by omega)
  refine hZ B_X3_pointsOf_0 _ _ _ _ _ _ _ k_X3_pointsOf_0 ?_
  simp only [B_X3_pointsOf_0, zk_run, zk_wp, zk_pop, zk_rc, zk_rvs, zk_set, zk_set2, zk_cat2, List.getElem?_cons_zero, List.getElem?_cons_succ, Bool.false_eq_true, and_false, false_and, and_true, true_and, reduceIte, Nat.reduceEqDiff, Nat.reduceLT, Nat.reduceAdd, List.cons_append, List.nil_append, Option.toList_some, Option.toList_none, zk_cat_i, zk_cat_r, zk_cat_n, zk_same, Option.some.injEq, Value.int.injEq, Value.long.injEq, eq_self, false_implies, true_implies, zf_3, hb, zx_10, hc, (hpt p t hp ht).1]
  exact vp_in_nI (by omega) (by omega)
theorem ct_knownBy (hb : zm_ok n P b) {pt : Nat → Nat → Nat} (hpt : zm_pt M b pt) (p : Nat) (hp : p < 6) : zk_C G 0 48 [.ref b, .int (nI p)] n M L P n (zk_same (some (.int (nI (sp_kn pt p 10)))) M L P) := by
  refine zk_meth (ow := 3) (kind := 1) (k := 1) (nL := 4) (ct := false) (l0 := [.ref b, .int (nI p), zk_un, zk_un]) (by decide +kernel) (fun h => by cases h) (by decide +kernel) (by decide) (by decide) (fun h => absurd h (by decide)) (Nat.le_of_ble_eq_true rfl) rfl (by omega) (fun Z hZ => ?_)
  unfold zm_ok at hb
  refine hZ B_X3_knownBy_0 _ _ _ _ _ _ _ k_X3_knownBy_0 ?_
  simp only [B_X3_knownBy_0, zk_run, zk_wp, zk_pop, zk_rc, zk_rvs, zk_set, zk_set2, zk_cat2, List.getElem?_cons_zero, List.getElem?_cons_succ, Bool.false_eq_true, and_false, false_and, and_true, true_and, reduceIte, Nat.reduceEqDiff, Nat.reduceLT, Nat.reduceAdd, List.cons_append, List.nil_append, Option.toList_some, Option.toList_none, zk_cat_i, zk_cat_r, zk_cat_n, zk_same, Option.some.injEq, Value.int.injEq, Value.long.injEq, eq_self, false_implies, true_implies, zf_3]
  refine zk_iter (A := fun i => Z 4 [.ref b, .int (nI p), .int (nI (sp_kn pt p i)), .int (nI i)] [] n M L P) 10 (fun i hi ih => ?_) ?_
  · have e1 : ¬ (10 : Int32) ≤ nI i := by rw [fa_lit 10, nI_leI (by omega) (by omega)]; omega
    have hc : (nI (10 * p + i)).toNatClampNeg = 10 * p + i := nI_clamp (by omega)
    have hq := hpt p i hp hi
    refine hZ B_X3_knownBy_4 _ _ _ _ _ _ _ k_X3_knownBy_4 ?_
    simp only [B_X3_knownBy_4, zk_run, zk_wp, zk_pop, zk_rc, zk_rvs, zk_set, zk_set2, zk_cat2, List.getElem?_cons_zero, List.getElem?_cons_succ, Bool.false_eq_true, and_false, false_and, and_true, true_and, reduceIte, Nat.reduceEqDiff, Nat.reduceLT, Nat.reduceAdd, List.cons_append, List.nil_append, Option.toList_some, Option.toList_none, zk_cat_i, zk_cat_r, zk_cat_n, zk_same, Option.some.injEq, Value.int.injEq, Value.long.injEq, eq_self, false_implies, true_implies, zf_3, e1, not_false_eq_true, hb, zx_10, hc, hq.1, zn_npos (show pt p i < 2 ^ 31 by omega)]
    have e2 : nI i + 1 = nI (i + 1) := nI_1 i
    refine ⟨vp_in_nI (by omega) (by omega), fun h0 => ?_, fun h0 => ?_⟩
    · refine hZ B_X3_knownBy_30 _ _ _ _ _ _ _ k_X3_knownBy_30 ?_
      simp only [B_X3_knownBy_30, zk_run, zk_wp, zk_pop, zk_rc, zk_rvs, zk_set, zk_set2, zk_cat2, List.getElem?_cons_zero, List.getElem?_cons_succ, Bool.false_eq_true, and_false, false_and, and_true, true_and, reduceIte, Nat.reduceEqDiff, Nat.reduceLT, Nat.reduceAdd, List.cons_append, List.nil_append, Option.toList_some, Option.toList_none, zk_cat_i, zk_cat_r, zk_cat_n, zk_same, Option.some.injEq, Value.int.injEq, Value.long.injEq, eq_self, false_implies, true_implies, zf_3, e2]
      simp only [sp_kn, if_pos h0, Nat.add_zero] at ih
      exact ih
    · rw [zn_shl1 i (by omega), zn_or (sp_kn_lt pt p i), e2]
      simp only [sp_kn, if_neg h0] at ih
      exact ih
  · refine hZ B_X3_knownBy_4 _ _ _ _ _ _ _ k_X3_knownBy_4 ?_
    simp only [B_X3_knownBy_4, zk_run, zk_wp, zk_pop, zk_rc, zk_rvs, zk_set, zk_set2, zk_cat2, List.getElem?_cons_zero, List.getElem?_cons_succ, Bool.false_eq_true, and_false, false_and, and_true, true_and, reduceIte, Nat.reduceEqDiff, Nat.reduceLT, Nat.reduceAdd, List.cons_append, List.nil_append, Option.toList_some, Option.toList_none, zk_cat_i, zk_cat_r, zk_cat_n, zk_same, Option.some.injEq, Value.int.injEq, Value.long.injEq, eq_self, false_implies, true_implies, zf_3, (show ((10 : Int32) ≤ nI 10) from by decide), not_true_eq_false]
    refine hZ B_X3_knownBy_36 _ _ _ _ _ _ _ k_X3_knownBy_36 ?_
    simp only [B_X3_knownBy_36, zk_run, zk_wp, zk_pop, zk_rc, zk_rvs, zk_set, zk_set2, zk_cat2, List.getElem?_cons_zero, List.getElem?_cons_succ, Bool.false_eq_true, and_false, false_and, and_true, true_and, reduceIte, Nat.reduceEqDiff, Nat.reduceLT, Nat.reduceAdd, List.cons_append, List.nil_append, Option.toList_some, Option.toList_none, zk_cat_i, zk_cat_r, zk_cat_n, zk_same, Option.some.injEq, Value.int.injEq, Value.long.injEq, eq_self, false_implies, true_implies, zf_3]
theorem ct_knowsAll (hb : zm_ok n P b) {pt : Nat → Nat → Nat} (hpt : zm_pt M b pt) (p th : Nat) (hp : p < 6) (hth : th < 2 ^ 31) : zk_C G 1 49 [.ref b, .int (nI p), .int (nI th)] n M L P n (zk_same (some (.int (if zn_in th (sp_kn pt p 10) then 1 else 0))) M L P) := by
  refine zk_meth (ow := 3) (kind := 1) (k := 2) (nL := 3) (ct := false) (l0 := [.ref b, .int (nI p), .int (nI th)]) (by decide +kernel) (fun h => by cases h) (by decide +kernel) (by decide) (by decide) (fun h => absurd h (by decide)) (Nat.le_of_ble_eq_true rfl) rfl (by omega) (fun Z hZ => ?_)
  have hb2 := hb
  unfold zm_ok at hb2
  refine hZ B_X3_knowsAll_0 _ _ _ _ _ _ _ k_X3_knowsAll_0 ?_
  simp only [B_X3_knowsAll_0, zk_run, zk_wp, zk_pop, zk_rc, zk_rvs, zk_set, zk_set2, zk_cat2, List.getElem?_cons_zero, List.getElem?_cons_succ, Bool.false_eq_true, and_false, false_and, and_true, true_and, reduceIte, Nat.reduceEqDiff, Nat.reduceLT, Nat.reduceAdd, List.cons_append, List.nil_append, Option.toList_some, Option.toList_none, zk_cat_i, zk_cat_r, zk_cat_n, zk_same, Option.some.injEq, Value.int.injEq, Value.long.injEq, eq_self, false_implies, true_implies, hb2]
  refine zk_callS (ct_knownBy hb hpt p hp) (by decide) (Nat.le_refl _) (Nat.le_of_ble_eq_true rfl) ?_
  simp only [zk_run, zk_wp, zk_pop, zk_rc, zk_rvs, zk_set, zk_set2, zk_cat2, List.getElem?_cons_zero, List.getElem?_cons_succ, Bool.false_eq_true, and_false, false_and, and_true, true_and, reduceIte, Nat.reduceEqDiff, Nat.reduceLT, Nat.reduceAdd, List.cons_append, List.nil_append, Option.toList_some, Option.toList_none, zk_cat_i, zk_cat_r, zk_cat_n, zk_same, Option.some.injEq, Value.int.injEq, Value.long.injEq, eq_self, false_implies, true_implies, zn_sub hth]
  refine ⟨fun h => ?_, fun h => ?_⟩
  · refine hZ B_X3_knowsAll_16 _ _ _ _ _ _ _ k_X3_knowsAll_16 ?_
    simp only [B_X3_knowsAll_16, zk_run, zk_wp, zk_pop, zk_rc, zk_rvs, zk_set, zk_set2, zk_cat2, List.getElem?_cons_zero, List.getElem?_cons_succ, Bool.false_eq_true, and_false, false_and, and_true, true_and, reduceIte, Nat.reduceEqDiff, Nat.reduceLT, Nat.reduceAdd, List.cons_append, List.nil_append, Option.toList_some, Option.toList_none, zk_cat_i, zk_cat_r, zk_cat_n, zk_same, Option.some.injEq, Value.int.injEq, Value.long.injEq, eq_self, false_implies, true_implies]
    simp only [Bool.not_eq_true] at h
    simp [h, zk_b1]
  · refine hZ B_X3_knowsAll_17 _ _ _ _ _ _ _ k_X3_knowsAll_17 ?_
    simp only [B_X3_knowsAll_17, zk_run, zk_wp, zk_pop, zk_rc, zk_rvs, zk_set, zk_set2, zk_cat2, List.getElem?_cons_zero, List.getElem?_cons_succ, Bool.false_eq_true, and_false, false_and, and_true, true_and, reduceIte, Nat.reduceEqDiff, Nat.reduceLT, Nat.reduceAdd, List.cons_append, List.nil_append, Option.toList_some, Option.toList_none, zk_cat_i, zk_cat_r, zk_cat_n, zk_same, Option.some.injEq, Value.int.injEq, Value.long.injEq, eq_self, false_implies, true_implies]
    simp [h, zk_b1]
theorem ct_countKnowing (hb : zm_ok n P b) {pt : Nat → Nat → Nat} (hpt : zm_pt M b pt) (t : Nat) (ht : t < 10) : zk_C G 0 50 [.ref b, .int (nI t)] n M L P n (zk_same (some (.int (nI (sp_ck pt t 6)))) M L P) := by
  refine zk_meth (ow := 3) (kind := 1) (k := 1) (nL := 4) (ct := false) (l0 := [.ref b, .int (nI t), zk_un, zk_un]) (by decide +kernel) (fun h => by cases h) (by decide +kernel) (by decide) (by decide) (fun h => absurd h (by decide)) (Nat.le_of_ble_eq_true rfl) rfl (by omega) (fun Z hZ => ?_)
  unfold zm_ok at hb
  refine hZ B_X3_countKnowing_0 _ _ _ _ _ _ _ k_X3_countKnowing_0 ?_
  simp only [B_X3_countKnowing_0, zk_run, zk_wp, zk_pop, zk_rc, zk_rvs, zk_set, zk_set2, zk_cat2, List.getElem?_cons_zero, List.getElem?_cons_succ, Bool.false_eq_true, and_false, false_and, and_true, true_and, reduceIte, Nat.reduceEqDiff, Nat.reduceLT, Nat.reduceAdd, List.cons_append, List.nil_append, Option.toList_some, Option.toList_none, zk_cat_i, zk_cat_r, zk_cat_n, zk_same, Option.some.injEq, Value.int.injEq, Value.long.injEq, eq_self, false_implies, true_implies, zf_3]
  refine zk_iter (A := fun i => Z 4 [.ref b, .int (nI t), .int (nI (sp_ck pt t i)), .int (nI i)] [] n M L P) 6 (fun i hi ih => ?_) ?_
  · have e1 : ¬ (6 : Int32) ≤ nI i := by rw [fa_lit 6, nI_leI (by omega) (by omega)]; omega
    have hc : (nI (10 * i + t)).toNatClampNeg = 10 * i + t := nI_clamp (by omega)
    have hq := hpt i t hi ht
    refine hZ B_X3_countKnowing_4 _ _ _ _ _ _ _ k_X3_countKnowing_4 ?_
    simp only [B_X3_countKnowing_4, zk_run, zk_wp, zk_pop, zk_rc, zk_rvs, zk_set, zk_set2, zk_cat2, List.getElem?_cons_zero, List.getElem?_cons_succ, Bool.false_eq_true, and_false, false_and, and_true, true_and, reduceIte, Nat.reduceEqDiff, Nat.reduceLT, Nat.reduceAdd, List.cons_append, List.nil_append, Option.toList_some, Option.toList_none, zk_cat_i, zk_cat_r, zk_cat_n, zk_same, Option.some.injEq, Value.int.injEq, Value.long.injEq, eq_self, false_implies, true_implies, zf_3, e1, not_false_eq_true, hb, zx_10, hc, hq.1, zn_npos (show pt i t < 2 ^ 31 by omega), nI_1]
    refine ⟨vp_in_nI (by omega) (by omega), fun h0 => ?_, fun h0 => ?_⟩
    · refine hZ B_X3_countKnowing_27 _ _ _ _ _ _ _ k_X3_countKnowing_27 ?_
      simp only [B_X3_countKnowing_27, zk_run, zk_wp, zk_pop, zk_rc, zk_rvs, zk_set, zk_set2, zk_cat2, List.getElem?_cons_zero, List.getElem?_cons_succ, Bool.false_eq_true, and_false, false_and, and_true, true_and, reduceIte, Nat.reduceEqDiff, Nat.reduceLT, Nat.reduceAdd, List.cons_append, List.nil_append, Option.toList_some, Option.toList_none, zk_cat_i, zk_cat_r, zk_cat_n, zk_same, Option.some.injEq, Value.int.injEq, Value.long.injEq, eq_self, false_implies, true_implies, zf_3, nI_1]
      simp only [sp_ck, if_pos h0, Nat.add_zero] at ih
      exact ih
    · simp only [sp_ck, if_neg h0] at ih
      exact ih
  · refine hZ B_X3_countKnowing_4 _ _ _ _ _ _ _ k_X3_countKnowing_4 ?_
    simp only [B_X3_countKnowing_4, zk_run, zk_wp, zk_pop, zk_rc, zk_rvs, zk_set, zk_set2, zk_cat2, List.getElem?_cons_zero, List.getElem?_cons_succ, Bool.false_eq_true, and_false, false_and, and_true, true_and, reduceIte, Nat.reduceEqDiff, Nat.reduceLT, Nat.reduceAdd, List.cons_append, List.nil_append, Option.toList_some, Option.toList_none, zk_cat_i, zk_cat_r, zk_cat_n, zk_same, Option.some.injEq, Value.int.injEq, Value.long.injEq, eq_self, false_implies, true_implies, zf_3, (show ((6 : Int32) ≤ nI 6) from by decide), not_true_eq_false]
    refine hZ B_X3_countKnowing_33 _ _ _ _ _ _ _ k_X3_countKnowing_33 ?_
    simp only [B_X3_countKnowing_33, zk_run, zk_wp, zk_pop, zk_rc, zk_rvs, zk_set, zk_set2, zk_cat2, List.getElem?_cons_zero, List.getElem?_cons_succ, Bool.false_eq_true, and_false, false_and, and_true, true_and, reduceIte, Nat.reduceEqDiff, Nat.reduceLT, Nat.reduceAdd, List.cons_append, List.nil_append, Option.toList_some, Option.toList_none, zk_cat_i, zk_cat_r, zk_cat_n, zk_same, Option.some.injEq, Value.int.injEq, Value.long.injEq, eq_self, false_implies, true_implies, zf_3]
theorem ct_lyingIn (hb : zm_ok n P b) {ly : Nat → Nat → Nat} (hly : zm_ly M b ly) (p : Nat) (hp : p < 6) : zk_C G 0 51 [.ref b, .int (nI p)] n M L P n (zk_same (some (.int (nI (sp_li ly p 10)))) M L P) := by
  refine zk_meth (ow := 3) (kind := 1) (k := 1) (nL := 4) (ct := false) (l0 := [.ref b, .int (nI p), zk_un, zk_un]) (by decide +kernel) (fun h => by cases h) (by decide +kernel) (by decide) (by decide) (fun h => absurd h (by decide)) (Nat.le_of_ble_eq_true rfl) rfl (by omega) (fun Z hZ => ?_)
  unfold zm_ok at hb
  refine hZ B_X3_lyingIn_0 _ _ _ _ _ _ _ k_X3_lyingIn_0 ?_
  simp only [B_X3_lyingIn_0, zk_run, zk_wp, zk_pop, zk_rc, zk_rvs, zk_set, zk_set2, zk_cat2, List.getElem?_cons_zero, List.getElem?_cons_succ, Bool.false_eq_true, and_false, false_and, and_true, true_and, reduceIte, Nat.reduceEqDiff, Nat.reduceLT, Nat.reduceAdd, List.cons_append, List.nil_append, Option.toList_some, Option.toList_none, zk_cat_i, zk_cat_r, zk_cat_n, zk_same, Option.some.injEq, Value.int.injEq, Value.long.injEq, eq_self, false_implies, true_implies, zf_3]
  refine zk_iter (A := fun i => Z 4 [.ref b, .int (nI p), .int (nI (sp_li ly p i)), .int (nI i)] [] n M L P) 10 (fun i hi ih => ?_) ?_
  · have e1 : ¬ (10 : Int32) ≤ nI i := by rw [fa_lit 10, nI_leI (by omega) (by omega)]; omega
    have hc : (nI (10 * p + i)).toNatClampNeg = 10 * p + i := nI_clamp (by omega)
    refine hZ B_X3_lyingIn_4 _ _ _ _ _ _ _ k_X3_lyingIn_4 ?_
    simp only [B_X3_lyingIn_4, zk_run, zk_wp, zk_pop, zk_rc, zk_rvs, zk_set, zk_set2, zk_cat2, List.getElem?_cons_zero, List.getElem?_cons_succ, Bool.false_eq_true, and_false, false_and, and_true, true_and, reduceIte, Nat.reduceEqDiff, Nat.reduceLT, Nat.reduceAdd, List.cons_append, List.nil_append, Option.toList_some, Option.toList_none, zk_cat_i, zk_cat_r, zk_cat_n, zk_same, Option.some.injEq, Value.int.injEq, Value.long.injEq, eq_self, false_implies, true_implies, zf_3, e1, not_false_eq_true, hb, zx_10, hc, (hly p i hp hi).1, nI_1, nI_add]
    exact ⟨vp_in_nI (by omega) (by omega), ih⟩
  · refine hZ B_X3_lyingIn_4 _ _ _ _ _ _ _ k_X3_lyingIn_4 ?_
    simp only [B_X3_lyingIn_4, zk_run, zk_wp, zk_pop, zk_rc, zk_rvs, zk_set, zk_set2, zk_cat2, List.getElem?_cons_zero, List.getElem?_cons_succ, Bool.false_eq_true, and_false, false_and, and_true, true_and, reduceIte, Nat.reduceEqDiff, Nat.reduceLT, Nat.reduceAdd, List.cons_append, List.nil_append, Option.toList_some, Option.toList_none, zk_cat_i, zk_cat_r, zk_cat_n, zk_same, Option.some.injEq, Value.int.injEq, Value.long.injEq, eq_self, false_implies, true_implies, zf_3, (show ((10 : Int32) ≤ nI 10) from by decide), not_true_eq_false]
    refine hZ B_X3_lyingIn_30 _ _ _ _ _ _ _ k_X3_lyingIn_30 ?_
    simp only [B_X3_lyingIn_30, zk_run, zk_wp, zk_pop, zk_rc, zk_rvs, zk_set, zk_set2, zk_cat2, List.getElem?_cons_zero, List.getElem?_cons_succ, Bool.false_eq_true, and_false, false_and, and_true, true_and, reduceIte, Nat.reduceEqDiff, Nat.reduceLT, Nat.reduceAdd, List.cons_append, List.nil_append, Option.toList_some, Option.toList_none, zk_cat_i, zk_cat_r, zk_cat_n, zk_same, Option.some.injEq, Value.int.injEq, Value.long.injEq, eq_self, false_implies, true_implies, zf_3]
theorem ct_lyingOf (hb : zm_ok n P b) {ly : Nat → Nat → Nat} (hly : zm_ly M b ly) (t : Nat) (ht : t < 10) : zk_C G 0 52 [.ref b, .int (nI t)] n M L P n (zk_same (some (.int (nI (sp_lo ly t 6)))) M L P) := by
  refine zk_meth (ow := 3) (kind := 1) (k := 1) (nL := 4) (ct := false) (l0 := [.ref b, .int (nI t), zk_un, zk_un]) (by decide +kernel) (fun h => by cases h) (by decide +kernel) (by decide) (by decide) (fun h => absurd h (by decide)) (Nat.le_of_ble_eq_true rfl) rfl (by omega) (fun Z hZ => ?_)
  unfold zm_ok at hb
  refine hZ B_X3_lyingOf_0 _ _ _ _ _ _ _ k_X3_lyingOf_0 ?_
  simp only [B_X3_lyingOf_0, zk_run, zk_wp, zk_pop, zk_rc, zk_rvs, zk_set, zk_set2, zk_cat2, List.getElem?_cons_zero, List.getElem?_cons_succ, Bool.false_eq_true, and_false, false_and, and_true, true_and, reduceIte, Nat.reduceEqDiff, Nat.reduceLT, Nat.reduceAdd, List.cons_append, List.nil_append, Option.toList_some, Option.toList_none, zk_cat_i, zk_cat_r, zk_cat_n, zk_same, Option.some.injEq, Value.int.injEq, Value.long.injEq, eq_self, false_implies, true_implies, zf_3]
  refine zk_iter (A := fun i => Z 4 [.ref b, .int (nI t), .int (nI (sp_lo ly t i)), .int (nI i)] [] n M L P) 6 (fun i hi ih => ?_) ?_
  · have e1 : ¬ (6 : Int32) ≤ nI i := by rw [fa_lit 6, nI_leI (by omega) (by omega)]; omega
    have hc : (nI (10 * i + t)).toNatClampNeg = 10 * i + t := nI_clamp (by omega)
    refine hZ B_X3_lyingOf_4 _ _ _ _ _ _ _ k_X3_lyingOf_4 ?_
    simp only [B_X3_lyingOf_4, zk_run, zk_wp, zk_pop, zk_rc, zk_rvs, zk_set, zk_set2, zk_cat2, List.getElem?_cons_zero, List.getElem?_cons_succ, Bool.false_eq_true, and_false, false_and, and_true, true_and, reduceIte, Nat.reduceEqDiff, Nat.reduceLT, Nat.reduceAdd, List.cons_append, List.nil_append, Option.toList_some, Option.toList_none, zk_cat_i, zk_cat_r, zk_cat_n, zk_same, Option.some.injEq, Value.int.injEq, Value.long.injEq, eq_self, false_implies, true_implies, zf_3, e1, not_false_eq_true, hb, zx_10, hc, (hly i t hi ht).1, nI_1, nI_add]
    exact ⟨vp_in_nI (by omega) (by omega), ih⟩
  · refine hZ B_X3_lyingOf_4 _ _ _ _ _ _ _ k_X3_lyingOf_4 ?_
    simp only [B_X3_lyingOf_4, zk_run, zk_wp, zk_pop, zk_rc, zk_rvs, zk_set, zk_set2, zk_cat2, List.getElem?_cons_zero, List.getElem?_cons_succ, Bool.false_eq_true, and_false, false_and, and_true, true_and, reduceIte, Nat.reduceEqDiff, Nat.reduceLT, Nat.reduceAdd, List.cons_append, List.nil_append, Option.toList_some, Option.toList_none, zk_cat_i, zk_cat_r, zk_cat_n, zk_same, Option.some.injEq, Value.int.injEq, Value.long.injEq, eq_self, false_implies, true_implies, zf_3, (show ((6 : Int32) ≤ nI 6) from by decide), not_true_eq_false]
    refine hZ B_X3_lyingOf_30 _ _ _ _ _ _ _ k_X3_lyingOf_30 ?_
    simp only [B_X3_lyingOf_30, zk_run, zk_wp, zk_pop, zk_rc, zk_rvs, zk_set, zk_set2, zk_cat2, List.getElem?_cons_zero, List.getElem?_cons_succ, Bool.false_eq_true, and_false, false_and, and_true, true_and, reduceIte, Nat.reduceEqDiff, Nat.reduceLT, Nat.reduceAdd, List.cons_append, List.nil_append, Option.toList_some, Option.toList_none, zk_cat_i, zk_cat_r, zk_cat_n, zk_same, Option.some.injEq, Value.int.injEq, Value.long.injEq, eq_self, false_implies, true_implies, zf_3]
end MOM
