/-! ===== Machine.join ===== -/
theorem zk_swI {sw : List (Int32 × Nat)} {x : Int32} {A : Nat → Prop} {B : Prop} (t : Nat) (h1 : sw.all (fun q => q.1 != x || q.2 == t) = true) (h2 : sw.any (fun q => q.1 == x) = true) (h : A t) : (∀ q ∈ sw, x = q.1 → A q.2) ∧ ((∀ q ∈ sw, ¬ x = q.1) → B) := by
  refine ⟨fun q hq e => ?_, fun hn => ?_⟩
  · have := List.all_eq_true.mp h1 q hq
    simp only [Bool.or_eq_true, bne_iff_ne, ne_eq, beq_iff_eq] at this
    rcases this with z | z
    · exact absurd e.symm z
    · rw [z]; exact h
  · obtain ⟨q, hq, e⟩ := List.any_eq_true.mp h2
    exact absurd (by simpa using e : q.1 = x).symm (hn q hq)
theorem zk_swO {sw : List (Int32 × Nat)} {x : Int32} {A : Nat → Prop} {B : Prop} (h1 : ∀ q ∈ sw, ¬ x = q.1) (h : B) : (∀ q ∈ sw, x = q.1 → A q.2) ∧ ((∀ q ∈ sw, ¬ x = q.1) → B) := ⟨fun q hq e => absurd e (h1 q hq), fun _ => h⟩
theorem zk_l0 : zk_lc 0 0 = lI 0 := rfl
theorem zk_l1 : zk_lc 0 1 = lI 1 := rfl
theorem zk_lM : zk_lc 0 1000000 = lI 1000000 := rfl
theorem zk_lN : zk_lc 1 1000000 = lI (-1000000) := by decide
section JN2
variable {G : zk_G} {n : Nat} {M : zk_MI} {L : zk_ML} {P : zk_MP}
theorem ct_join (hn : 154 ≤ n) {c a b : Int} (hc1 : -11 ≤ c) (hc2 : c ≤ -1) (ha : sp_v a) (hb : sp_v b) (h01 : c ≤ -10 → (a = 0 ∨ a = 1) ∧ (b = 0 ∨ b = 1)) : zk_C G 1 42 [.int (iI c), .int (iI a), .int (iI b)] n M L P n (zk_same (some (.int (iI (sp_join c a b)))) M L P) := by
  refine zk_meth (ow := 2) (kind := 0) (k := 3) (nL := 5) (ct := false) (l0 := [.int (iI c), .int (iI a), .int (iI b), zk_un, zk_un]) (by decide +kernel) (fun h => by cases h) (by decide +kernel) (by decide) (by decide) (fun h => absurd h (by decide)) (Nat.le_of_ble_eq_true rfl) rfl (by omega) (fun Z hZ => ?_)
  have ha1 := ha.1; have ha2 := ha.2; have hb1 := hb.1; have hb2 := hb.2
  have tail : ∀ z, -1000000000000 ≤ z → z ≤ 1000000000000 → sp_clip z = sp_join c a b → Z 188 [.int (iI c), .int (iI a), .int (iI b), .long (lI z), zk_un] [] n M L P := by
    intro z z1 z2 hz
    have e1 : (lg_cmp (lI z) (lI 1000000) ≤ 0) = (z ≤ 1000000) := by rw [lg_cmp_le, lI_le (by omega) (by omega) (by omega) (by omega)]
    have e2 : (0 ≤ lg_cmp (lI z) (lI (-1000000))) = (-1000000 ≤ z) := by rw [lg_cmp_ge, lI_le (by omega) (by omega) (by omega) (by omega)]
    refine hZ B_X2_join_188 _ _ _ _ _ _ _ k_X2_join_188 ?_
    simp only [B_X2_join_188, zk_run, zk_wp, zk_pop, zk_rc, zk_rvs, zk_set, zk_set2, zk_cat2, List.getElem?_cons_zero, List.getElem?_cons_succ, Bool.false_eq_true, and_false, false_and, and_true, true_and, reduceIte, Nat.reduceEqDiff, Nat.reduceLT, Nat.reduceAdd, List.cons_append, List.nil_append, Option.toList_some, Option.toList_none, zk_cat_i, zk_cat_r, zk_cat_n, zk_same, Option.some.injEq, Value.int.injEq, Value.long.injEq, eq_self, false_implies, true_implies, zk_lM, e1]
    refine ⟨fun h => ?_, fun h => ?_⟩
    · refine hZ B_X2_join_201 _ _ _ _ _ _ _ k_X2_join_201 ?_
      simp only [B_X2_join_201, zk_run, zk_wp, zk_pop, zk_rc, zk_rvs, zk_set, zk_set2, zk_cat2, List.getElem?_cons_zero, List.getElem?_cons_succ, Bool.false_eq_true, and_false, false_and, and_true, true_and, reduceIte, Nat.reduceEqDiff, Nat.reduceLT, Nat.reduceAdd, List.cons_append, List.nil_append, Option.toList_some, Option.toList_none, zk_cat_i, zk_cat_r, zk_cat_n, zk_same, Option.some.injEq, Value.int.injEq, Value.long.injEq, eq_self, false_implies, true_implies, zk_lN, e2]
      refine ⟨fun g => ?_, fun g => ?_⟩
      · refine hZ B_X2_join_214 _ _ _ _ _ _ _ k_X2_join_214 ?_
        simp only [B_X2_join_214, zk_run, zk_wp, zk_pop, zk_rc, zk_rvs, zk_set, zk_set2, zk_cat2, List.getElem?_cons_zero, List.getElem?_cons_succ, Bool.false_eq_true, and_false, false_and, and_true, true_and, reduceIte, Nat.reduceEqDiff, Nat.reduceLT, Nat.reduceAdd, List.cons_append, List.nil_append, Option.toList_some, Option.toList_none, zk_cat_i, zk_cat_r, zk_cat_n, zk_same, Option.some.injEq, Value.int.injEq, Value.long.injEq, eq_self, false_implies, true_implies, iI_l (show -2147483648 ≤ z by omega) (show z < 2147483648 by omega)]
        rw [← hz, sp_clip_id ⟨g, h⟩]
      · refine hZ B_X2_join_216 _ _ _ _ _ _ _ k_X2_join_216 ?_
        simp only [B_X2_join_216, zk_run, zk_wp, zk_pop, zk_rc, zk_rvs, zk_set, zk_set2, zk_cat2, List.getElem?_cons_zero, List.getElem?_cons_succ, Bool.false_eq_true, and_false, false_and, and_true, true_and, reduceIte, Nat.reduceEqDiff, Nat.reduceLT, Nat.reduceAdd, List.cons_append, List.nil_append, Option.toList_some, Option.toList_none, zk_cat_i, zk_cat_r, zk_cat_n, zk_same, Option.some.injEq, Value.int.injEq, Value.long.injEq, eq_self, false_implies, true_implies]
        rw [← hz]
        unfold sp_clip
        rw [if_neg (by omega), if_pos (by omega)]
        rfl
    · refine hZ B_X2_join_216 _ _ _ _ _ _ _ k_X2_join_216 ?_
      simp only [B_X2_join_216, zk_run, zk_wp, zk_pop, zk_rc, zk_rvs, zk_set, zk_set2, zk_cat2, List.getElem?_cons_zero, List.getElem?_cons_succ, Bool.false_eq_true, and_false, false_and, and_true, true_and, reduceIte, Nat.reduceEqDiff, Nat.reduceLT, Nat.reduceAdd, List.cons_append, List.nil_append, Option.toList_some, Option.toList_none, zk_cat_i, zk_cat_r, zk_cat_n, zk_same, Option.some.injEq, Value.int.injEq, Value.long.injEq, eq_self, false_implies, true_implies]
      rw [← hz]
      unfold sp_clip
      rw [if_pos (by omega)]
      rfl
  have hia := lI_i (a := a) (by omega) (by omega)
  have hib := lI_i (a := b) (by omega) (by omega)
  have hle : (iI a ≤ iI b) = (a ≤ b) := iI_le (by omega) (by omega) (by omega) (by omega)
  have hge : (iI b ≤ iI a) = (b ≤ a) := iI_le (by omega) (by omega) (by omega) (by omega)
  have heq : (iI a = iI b) = (a = b) := iI_eq (by omega) (by omega) (by omega) (by omega)
  have hb0 : (iI b = 0) = (b = 0) := iI_eq (b := 0) (by omega) (by omega) (by omega) (by omega)
  refine hZ B_X2_join_0 _ _ _ _ _ _ _ k_X2_join_0 ?_
  simp only [B_X2_join_0, zk_run, zk_wp, zk_pop, zk_rc, zk_rvs, zk_set, zk_set2, zk_cat2, List.getElem?_cons_zero, List.getElem?_cons_succ, Bool.false_eq_true, and_false, false_and, and_true, true_and, reduceIte, Nat.reduceEqDiff, Nat.reduceLT, Nat.reduceAdd, List.cons_append, List.nil_append, Option.toList_some, Option.toList_none, zk_cat_i, zk_cat_r, zk_cat_n, zk_same, Option.some.injEq, Value.int.injEq, Value.long.injEq, eq_self, false_implies, true_implies]
  rcases (show c = -1 ∨ c = -2 ∨ c = -3 ∨ c = -4 ∨ c = -5 ∨ c = -6 ∨ c = -7 ∨ c = -8 ∨ c = -9 ∨ c = -10 ∨ c = -11 by omega) with rfl | rfl | rfl | rfl | rfl | rfl | rfl | rfl | rfl | rfl | rfl
  · refine zk_swI (A := fun t => Z t _ _ _ _ _ _) 56 (by decide) (by decide) ?_
    refine hZ B_X2_join_56 _ _ _ _ _ _ _ k_X2_join_56 ?_
    simp only [B_X2_join_56, zk_run, zk_wp, zk_pop, zk_rc, zk_rvs, zk_set, zk_set2, zk_cat2, List.getElem?_cons_zero, List.getElem?_cons_succ, Bool.false_eq_true, and_false, false_and, and_true, true_and, reduceIte, Nat.reduceEqDiff, Nat.reduceLT, Nat.reduceAdd, List.cons_append, List.nil_append, Option.toList_some, Option.toList_none, zk_cat_i, zk_cat_r, zk_cat_n, zk_same, Option.some.injEq, Value.int.injEq, Value.long.injEq, eq_self, false_implies, true_implies, hia, hib, lI_add (show -1000000000000000 ≤ a by omega) (by omega) (show -1000000000000000 ≤ b by omega) (by omega)]
    exact tail _ (by omega) (by omega) (by simp [sp_join])
  · refine zk_swI (A := fun t => Z t _ _ _ _ _ _) 65 (by decide) (by decide) ?_
    refine hZ B_X2_join_65 _ _ _ _ _ _ _ k_X2_join_65 ?_
    simp only [B_X2_join_65, zk_run, zk_wp, zk_pop, zk_rc, zk_rvs, zk_set, zk_set2, zk_cat2, List.getElem?_cons_zero, List.getElem?_cons_succ, Bool.false_eq_true, and_false, false_and, and_true, true_and, reduceIte, Nat.reduceEqDiff, Nat.reduceLT, Nat.reduceAdd, List.cons_append, List.nil_append, Option.toList_some, Option.toList_none, zk_cat_i, zk_cat_r, zk_cat_n, zk_same, Option.some.injEq, Value.int.injEq, Value.long.injEq, eq_self, false_implies, true_implies, hia, hib, lI_sub (show -1000000000000000 ≤ a by omega) (by omega) (show -1000000000000000 ≤ b by omega) (by omega)]
    exact tail _ (by omega) (by omega) (by simp [sp_join])
  · refine zk_swI (A := fun t => Z t _ _ _ _ _ _) 74 (by decide) (by decide) ?_
    refine hZ B_X2_join_74 _ _ _ _ _ _ _ k_X2_join_74 ?_
    simp only [B_X2_join_74, zk_run, zk_wp, zk_pop, zk_rc, zk_rvs, zk_set, zk_set2, zk_cat2, List.getElem?_cons_zero, List.getElem?_cons_succ, Bool.false_eq_true, and_false, false_and, and_true, true_and, reduceIte, Nat.reduceEqDiff, Nat.reduceLT, Nat.reduceAdd, List.cons_append, List.nil_append, Option.toList_some, Option.toList_none, zk_cat_i, zk_cat_r, zk_cat_n, zk_same, Option.some.injEq, Value.int.injEq, Value.long.injEq, eq_self, false_implies, true_implies, hia, hib, lI_mul ha hb]
    have := sp_mul ha hb
    exact tail _ this.1 this.2 (by simp [sp_join])
  · refine zk_swI (A := fun t => Z t _ _ _ _ _ _) 83 (by decide) (by decide) ?_
    refine hZ B_X2_join_83 _ _ _ _ _ _ _ k_X2_join_83 ?_
    simp only [B_X2_join_83, zk_run, zk_wp, zk_pop, zk_rc, zk_rvs, zk_set, zk_set2, zk_cat2, List.getElem?_cons_zero, List.getElem?_cons_succ, Bool.false_eq_true, and_false, false_and, and_true, true_and, reduceIte, Nat.reduceEqDiff, Nat.reduceLT, Nat.reduceAdd, List.cons_append, List.nil_append, Option.toList_some, Option.toList_none, zk_cat_i, zk_cat_r, zk_cat_n, zk_same, Option.some.injEq, Value.int.injEq, Value.long.injEq, eq_self, false_implies, true_implies, hb0, zk_l0]
    refine ⟨fun h => ?_, fun h => ?_⟩
    · refine hZ B_X2_join_91 _ _ _ _ _ _ _ k_X2_join_91 ?_
      simp only [B_X2_join_91, zk_run, zk_wp, zk_pop, zk_rc, zk_rvs, zk_set, zk_set2, zk_cat2, List.getElem?_cons_zero, List.getElem?_cons_succ, Bool.false_eq_true, and_false, false_and, and_true, true_and, reduceIte, Nat.reduceEqDiff, Nat.reduceLT, Nat.reduceAdd, List.cons_append, List.nil_append, Option.toList_some, Option.toList_none, zk_cat_i, zk_cat_r, zk_cat_n, zk_same, Option.some.injEq, Value.int.injEq, Value.long.injEq, eq_self, false_implies, true_implies]
      refine zk_callS (ct_floorDiv ha hb h) (by decide) (Nat.le_refl _) (Nat.le_of_ble_eq_true rfl) ?_
      have hv := sp_fl_v (b := b) ha
      have hv1 := hv.1; have hv2 := hv.2
      simp only [zk_run, zk_wp, zk_pop, zk_rc, zk_rvs, zk_set, zk_set2, zk_cat2, List.getElem?_cons_zero, List.getElem?_cons_succ, Bool.false_eq_true, and_false, false_and, and_true, true_and, reduceIte, Nat.reduceEqDiff, Nat.reduceLT, Nat.reduceAdd, List.cons_append, List.nil_append, Option.toList_some, Option.toList_none, zk_cat_i, zk_cat_r, zk_cat_n, zk_same, Option.some.injEq, Value.int.injEq, Value.long.injEq, eq_self, false_implies, true_implies, lI_i (show -2147483648 ≤ sp_fl a b by omega) (show sp_fl a b < 2147483648 by omega)]
      exact tail _ (by omega) (by omega) (by rw [sp_clip_id hv]; simp [sp_join])
    · refine hZ B_X2_join_97 _ _ _ _ _ _ _ k_X2_join_97 ?_
      simp only [B_X2_join_97, zk_run, zk_wp, zk_pop, zk_rc, zk_rvs, zk_set, zk_set2, zk_cat2, List.getElem?_cons_zero, List.getElem?_cons_succ, Bool.false_eq_true, and_false, false_and, and_true, true_and, reduceIte, Nat.reduceEqDiff, Nat.reduceLT, Nat.reduceAdd, List.cons_append, List.nil_append, Option.toList_some, Option.toList_none, zk_cat_i, zk_cat_r, zk_cat_n, zk_same, Option.some.injEq, Value.int.injEq, Value.long.injEq, eq_self, false_implies, true_implies]
      exact tail _ (by omega) (by omega) (by rw [sp_clip_id (by constructor <;> omega)]; simp [sp_join, sp_fl, h])
  · refine zk_swI (A := fun t => Z t _ _ _ _ _ _) 101 (by decide) (by decide) ?_
    refine hZ B_X2_join_101 _ _ _ _ _ _ _ k_X2_join_101 ?_
    simp only [B_X2_join_101, zk_run, zk_wp, zk_pop, zk_rc, zk_rvs, zk_set, zk_set2, zk_cat2, List.getElem?_cons_zero, List.getElem?_cons_succ, Bool.false_eq_true, and_false, false_and, and_true, true_and, reduceIte, Nat.reduceEqDiff, Nat.reduceLT, Nat.reduceAdd, List.cons_append, List.nil_append, Option.toList_some, Option.toList_none, zk_cat_i, zk_cat_r, zk_cat_n, zk_same, Option.some.injEq, Value.int.injEq, Value.long.injEq, eq_self, false_implies, true_implies, hge, hia]
    refine ⟨fun h => ?_, fun h => ?_⟩
    · refine hZ B_X2_join_111 _ _ _ _ _ _ _ k_X2_join_111 ?_
      simp only [B_X2_join_111, zk_run, zk_wp, zk_pop, zk_rc, zk_rvs, zk_set, zk_set2, zk_cat2, List.getElem?_cons_zero, List.getElem?_cons_succ, Bool.false_eq_true, and_false, false_and, and_true, true_and, reduceIte, Nat.reduceEqDiff, Nat.reduceLT, Nat.reduceAdd, List.cons_append, List.nil_append, Option.toList_some, Option.toList_none, zk_cat_i, zk_cat_r, zk_cat_n, zk_same, Option.some.injEq, Value.int.injEq, Value.long.injEq, eq_self, false_implies, true_implies, hib]
      exact tail _ (by omega) (by omega) (by rw [sp_clip_id hb]; simp [sp_join]; omega)
    · refine hZ B_X2_join_113 _ _ _ _ _ _ _ k_X2_join_113 ?_
      simp only [B_X2_join_113, zk_run, zk_wp, zk_pop, zk_rc, zk_rvs, zk_set, zk_set2, zk_cat2, List.getElem?_cons_zero, List.getElem?_cons_succ, Bool.false_eq_true, and_false, false_and, and_true, true_and, reduceIte, Nat.reduceEqDiff, Nat.reduceLT, Nat.reduceAdd, List.cons_append, List.nil_append, Option.toList_some, Option.toList_none, zk_cat_i, zk_cat_r, zk_cat_n, zk_same, Option.some.injEq, Value.int.injEq, Value.long.injEq, eq_self, false_implies, true_implies]
      exact tail _ (by omega) (by omega) (by rw [sp_clip_id ha]; simp [sp_join]; omega)
  · refine zk_swI (A := fun t => Z t _ _ _ _ _ _) 117 (by decide) (by decide) ?_
    refine hZ B_X2_join_117 _ _ _ _ _ _ _ k_X2_join_117 ?_
    simp only [B_X2_join_117, zk_run, zk_wp, zk_pop, zk_rc, zk_rvs, zk_set, zk_set2, zk_cat2, List.getElem?_cons_zero, List.getElem?_cons_succ, Bool.false_eq_true, and_false, false_and, and_true, true_and, reduceIte, Nat.reduceEqDiff, Nat.reduceLT, Nat.reduceAdd, List.cons_append, List.nil_append, Option.toList_some, Option.toList_none, zk_cat_i, zk_cat_r, zk_cat_n, zk_same, Option.some.injEq, Value.int.injEq, Value.long.injEq, eq_self, false_implies, true_implies, hle, hia]
    refine ⟨fun h => ?_, fun h => ?_⟩
    · refine hZ B_X2_join_127 _ _ _ _ _ _ _ k_X2_join_127 ?_
      simp only [B_X2_join_127, zk_run, zk_wp, zk_pop, zk_rc, zk_rvs, zk_set, zk_set2, zk_cat2, List.getElem?_cons_zero, List.getElem?_cons_succ, Bool.false_eq_true, and_false, false_and, and_true, true_and, reduceIte, Nat.reduceEqDiff, Nat.reduceLT, Nat.reduceAdd, List.cons_append, List.nil_append, Option.toList_some, Option.toList_none, zk_cat_i, zk_cat_r, zk_cat_n, zk_same, Option.some.injEq, Value.int.injEq, Value.long.injEq, eq_self, false_implies, true_implies, hib]
      exact tail _ (by omega) (by omega) (by rw [sp_clip_id hb]; simp [sp_join]; omega)
    · refine hZ B_X2_join_129 _ _ _ _ _ _ _ k_X2_join_129 ?_
      simp only [B_X2_join_129, zk_run, zk_wp, zk_pop, zk_rc, zk_rvs, zk_set, zk_set2, zk_cat2, List.getElem?_cons_zero, List.getElem?_cons_succ, Bool.false_eq_true, and_false, false_and, and_true, true_and, reduceIte, Nat.reduceEqDiff, Nat.reduceLT, Nat.reduceAdd, List.cons_append, List.nil_append, Option.toList_some, Option.toList_none, zk_cat_i, zk_cat_r, zk_cat_n, zk_same, Option.some.injEq, Value.int.injEq, Value.long.injEq, eq_self, false_implies, true_implies]
      exact tail _ (by omega) (by omega) (by rw [sp_clip_id ha]; simp [sp_join]; omega)
  · refine zk_swI (A := fun t => Z t _ _ _ _ _ _) 133 (by decide) (by decide) ?_
    refine hZ B_X2_join_133 _ _ _ _ _ _ _ k_X2_join_133 ?_
    simp only [B_X2_join_133, zk_run, zk_wp, zk_pop, zk_rc, zk_rvs, zk_set, zk_set2, zk_cat2, List.getElem?_cons_zero, List.getElem?_cons_succ, Bool.false_eq_true, and_false, false_and, and_true, true_and, reduceIte, Nat.reduceEqDiff, Nat.reduceLT, Nat.reduceAdd, List.cons_append, List.nil_append, Option.toList_some, Option.toList_none, zk_cat_i, zk_cat_r, zk_cat_n, zk_same, Option.some.injEq, Value.int.injEq, Value.long.injEq, eq_self, false_implies, true_implies, hge, zk_l1]
    refine ⟨fun h => ?_, fun h => ?_⟩
    · refine hZ B_X2_join_142 _ _ _ _ _ _ _ k_X2_join_142 ?_
      simp only [B_X2_join_142, zk_run, zk_wp, zk_pop, zk_rc, zk_rvs, zk_set, zk_set2, zk_cat2, List.getElem?_cons_zero, List.getElem?_cons_succ, Bool.false_eq_true, and_false, false_and, and_true, true_and, reduceIte, Nat.reduceEqDiff, Nat.reduceLT, Nat.reduceAdd, List.cons_append, List.nil_append, Option.toList_some, Option.toList_none, zk_cat_i, zk_cat_r, zk_cat_n, zk_same, Option.some.injEq, Value.int.injEq, Value.long.injEq, eq_self, false_implies, true_implies, zk_l0]
      exact tail _ (by omega) (by omega) (by rw [sp_clip_id (by constructor <;> omega)]; simp [sp_join]; omega)
    · refine hZ B_X2_join_143 _ _ _ _ _ _ _ k_X2_join_143 ?_
      simp only [B_X2_join_143, zk_run, zk_wp, zk_pop, zk_rc, zk_rvs, zk_set, zk_set2, zk_cat2, List.getElem?_cons_zero, List.getElem?_cons_succ, Bool.false_eq_true, and_false, false_and, and_true, true_and, reduceIte, Nat.reduceEqDiff, Nat.reduceLT, Nat.reduceAdd, List.cons_append, List.nil_append, Option.toList_some, Option.toList_none, zk_cat_i, zk_cat_r, zk_cat_n, zk_same, Option.some.injEq, Value.int.injEq, Value.long.injEq, eq_self, false_implies, true_implies]
      exact tail _ (by omega) (by omega) (by rw [sp_clip_id (by constructor <;> omega)]; simp [sp_join]; omega)
  · refine zk_swI (A := fun t => Z t _ _ _ _ _ _) 147 (by decide) (by decide) ?_
    refine hZ B_X2_join_147 _ _ _ _ _ _ _ k_X2_join_147 ?_
    simp only [B_X2_join_147, zk_run, zk_wp, zk_pop, zk_rc, zk_rvs, zk_set, zk_set2, zk_cat2, List.getElem?_cons_zero, List.getElem?_cons_succ, Bool.false_eq_true, and_false, false_and, and_true, true_and, reduceIte, Nat.reduceEqDiff, Nat.reduceLT, Nat.reduceAdd, List.cons_append, List.nil_append, Option.toList_some, Option.toList_none, zk_cat_i, zk_cat_r, zk_cat_n, zk_same, Option.some.injEq, Value.int.injEq, Value.long.injEq, eq_self, false_implies, true_implies, hle, zk_l1]
    refine ⟨fun h => ?_, fun h => ?_⟩
    · refine hZ B_X2_join_156 _ _ _ _ _ _ _ k_X2_join_156 ?_
      simp only [B_X2_join_156, zk_run, zk_wp, zk_pop, zk_rc, zk_rvs, zk_set, zk_set2, zk_cat2, List.getElem?_cons_zero, List.getElem?_cons_succ, Bool.false_eq_true, and_false, false_and, and_true, true_and, reduceIte, Nat.reduceEqDiff, Nat.reduceLT, Nat.reduceAdd, List.cons_append, List.nil_append, Option.toList_some, Option.toList_none, zk_cat_i, zk_cat_r, zk_cat_n, zk_same, Option.some.injEq, Value.int.injEq, Value.long.injEq, eq_self, false_implies, true_implies, zk_l0]
      exact tail _ (by omega) (by omega) (by rw [sp_clip_id (by constructor <;> omega)]; simp [sp_join]; omega)
    · refine hZ B_X2_join_157 _ _ _ _ _ _ _ k_X2_join_157 ?_
      simp only [B_X2_join_157, zk_run, zk_wp, zk_pop, zk_rc, zk_rvs, zk_set, zk_set2, zk_cat2, List.getElem?_cons_zero, List.getElem?_cons_succ, Bool.false_eq_true, and_false, false_and, and_true, true_and, reduceIte, Nat.reduceEqDiff, Nat.reduceLT, Nat.reduceAdd, List.cons_append, List.nil_append, Option.toList_some, Option.toList_none, zk_cat_i, zk_cat_r, zk_cat_n, zk_same, Option.some.injEq, Value.int.injEq, Value.long.injEq, eq_self, false_implies, true_implies]
      exact tail _ (by omega) (by omega) (by rw [sp_clip_id (by constructor <;> omega)]; simp [sp_join]; omega)
  · refine zk_swI (A := fun t => Z t _ _ _ _ _ _) 161 (by decide) (by decide) ?_
    refine hZ B_X2_join_161 _ _ _ _ _ _ _ k_X2_join_161 ?_
    simp only [B_X2_join_161, zk_run, zk_wp, zk_pop, zk_rc, zk_rvs, zk_set, zk_set2, zk_cat2, List.getElem?_cons_zero, List.getElem?_cons_succ, Bool.false_eq_true, and_false, false_and, and_true, true_and, reduceIte, Nat.reduceEqDiff, Nat.reduceLT, Nat.reduceAdd, List.cons_append, List.nil_append, Option.toList_some, Option.toList_none, zk_cat_i, zk_cat_r, zk_cat_n, zk_same, Option.some.injEq, Value.int.injEq, Value.long.injEq, eq_self, false_implies, true_implies, heq, zk_l1]
    refine ⟨fun h => ?_, fun h => ?_⟩
    · refine hZ B_X2_join_170 _ _ _ _ _ _ _ k_X2_join_170 ?_
      simp only [B_X2_join_170, zk_run, zk_wp, zk_pop, zk_rc, zk_rvs, zk_set, zk_set2, zk_cat2, List.getElem?_cons_zero, List.getElem?_cons_succ, Bool.false_eq_true, and_false, false_and, and_true, true_and, reduceIte, Nat.reduceEqDiff, Nat.reduceLT, Nat.reduceAdd, List.cons_append, List.nil_append, Option.toList_some, Option.toList_none, zk_cat_i, zk_cat_r, zk_cat_n, zk_same, Option.some.injEq, Value.int.injEq, Value.long.injEq, eq_self, false_implies, true_implies, zk_l0]
      exact tail _ (by omega) (by omega) (by rw [sp_clip_id (by constructor <;> omega)]; simp [sp_join, h])
    · refine hZ B_X2_join_171 _ _ _ _ _ _ _ k_X2_join_171 ?_
      simp only [B_X2_join_171, zk_run, zk_wp, zk_pop, zk_rc, zk_rvs, zk_set, zk_set2, zk_cat2, List.getElem?_cons_zero, List.getElem?_cons_succ, Bool.false_eq_true, and_false, false_and, and_true, true_and, reduceIte, Nat.reduceEqDiff, Nat.reduceLT, Nat.reduceAdd, List.cons_append, List.nil_append, Option.toList_some, Option.toList_none, zk_cat_i, zk_cat_r, zk_cat_n, zk_same, Option.some.injEq, Value.int.injEq, Value.long.injEq, eq_self, false_implies, true_implies]
      exact tail _ (by omega) (by omega) (by rw [sp_clip_id (by constructor <;> omega)]; simp [sp_join, h])
  · refine zk_swI (A := fun t => Z t _ _ _ _ _ _) 175 (by decide) (by decide) ?_
    have key : (iI a &&& iI b).toInt64 = lI (a * b) := by obtain ⟨rfl | rfl, rfl | rfl⟩ := h01 (by omega) <;> decide
    refine hZ B_X2_join_175 _ _ _ _ _ _ _ k_X2_join_175 ?_
    simp only [B_X2_join_175, zk_run, zk_wp, zk_pop, zk_rc, zk_rvs, zk_set, zk_set2, zk_cat2, List.getElem?_cons_zero, List.getElem?_cons_succ, Bool.false_eq_true, and_false, false_and, and_true, true_and, reduceIte, Nat.reduceEqDiff, Nat.reduceLT, Nat.reduceAdd, List.cons_append, List.nil_append, Option.toList_some, Option.toList_none, zk_cat_i, zk_cat_r, zk_cat_n, zk_same, Option.some.injEq, Value.int.injEq, Value.long.injEq, eq_self, false_implies, true_implies, key]
    have hr : 0 ≤ a * b ∧ a * b ≤ 1 := by obtain ⟨rfl | rfl, rfl | rfl⟩ := h01 (by omega) <;> decide
    exact tail _ (by omega) (by omega) (by rw [sp_clip_id (by constructor <;> omega)]; simp [sp_join])
  · refine zk_swO (A := fun t => Z t _ _ _ _ _ _) (by decide) ?_
    have key : (iI a ||| iI b).toInt64 = lI (if a + b > 0 then 1 else 0) := by obtain ⟨rfl | rfl, rfl | rfl⟩ := h01 (by omega) <;> decide
    refine hZ B_X2_join_183 _ _ _ _ _ _ _ k_X2_join_183 ?_
    simp only [B_X2_join_183, zk_run, zk_wp, zk_pop, zk_rc, zk_rvs, zk_set, zk_set2, zk_cat2, List.getElem?_cons_zero, List.getElem?_cons_succ, Bool.false_eq_true, and_false, false_and, and_true, true_and, reduceIte, Nat.reduceEqDiff, Nat.reduceLT, Nat.reduceAdd, List.cons_append, List.nil_append, Option.toList_some, Option.toList_none, zk_cat_i, zk_cat_r, zk_cat_n, zk_same, Option.some.injEq, Value.int.injEq, Value.long.injEq, eq_self, false_implies, true_implies, key]
    have hr : 0 ≤ (if a + b > 0 then (1 : Int) else 0) ∧ (if a + b > 0 then (1 : Int) else 0) ≤ 1 := by split <;> omega
    exact tail _ (by omega) (by omega) (by rw [sp_clip_id (by constructor <;> omega)]; simp [sp_join])
end JN2
