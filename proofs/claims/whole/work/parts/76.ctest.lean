/-! ===== the class: TESTS ===== -/
def B_X1_readTest_0 : List zk_I := [(.aload_n 0, 1, 0, 0, 0, 0, []), (.invokevirtual 48, 3, 0, 1, 26, 1, []), (.ifCond .ne 5, 3, 0, 9, 0, 0, []), (.iconst 0, 1, 0, 0, 0, 0, []), (.ireturn, 1, 0, 1, 0, 0, [])]
theorem k_X1_readTest_0 : zk_ckb 1 false (zk_m 25) B_X1_readTest_0 0 = true := by decide +kernel
def B_X1_readTest_9 : List zk_I := [(.iconst 0, 1, 0, 0, 0, 0, []), (.istore_n 1, 1, 0, 1, 0, 0, [])]
theorem k_X1_readTest_9 : zk_ckb 1 false (zk_m 25) B_X1_readTest_9 9 = true := by decide +kernel
def B_X1_readTest_11 : List zk_I := [(.iload_n 1, 1, 0, 1, 0, 0, []), (.sipush 1600, 3, 1600, 0, 0, 0, []), (.if_icmp .ge 37, 3, 0, 52, 0, 0, []), (.aload_n 0, 1, 0, 0, 0, 0, []), (.getfield 9, 3, 0, 1, 0, 0, []), (.sipush 324, 3, 324, 0, 0, 0, []), (.invokevirtual 51, 3, 0, 2, 92, 8, []), (.ifCond .eq 24, 3, 0, 52, 0, 0, []), (.aload_n 0, 1, 0, 0, 0, 0, []), (.invokevirtual 48, 3, 0, 1, 26, 1, []), (.ifCond .ne 5, 3, 0, 40, 0, 0, []), (.iconst 0, 1, 0, 0, 0, 0, []), (.ireturn, 1, 0, 1, 0, 0, [])]
theorem k_X1_readTest_11 : zk_ckb 1 false (zk_m 25) B_X1_readTest_11 11 = true := by decide +kernel
def B_X1_readTest_40 : List zk_I := [(.aload_n 0, 1, 0, 0, 0, 0, []), (.bipush (-11), 2, (-11), 0, 0, 0, []), (.invokevirtual 54, 3, 0, 2, 21, 1, []), (.iinc 1 1, 3, 1, 1, 0, 0, []), (.goto (-38), 3, 0, 11, 0, 0, [])]
theorem k_X1_readTest_40 : zk_ckb 1 false (zk_m 25) B_X1_readTest_40 40 = true := by decide +kernel
def B_X1_readTest_52 : List zk_I := [(.iconst 1, 1, 1, 0, 0, 0, []), (.ireturn, 1, 0, 1, 0, 0, [])]
theorem k_X1_readTest_52 : zk_ckb 1 false (zk_m 25) B_X1_readTest_52 52 = true := by decide +kernel
def B_X1_readBoth_0 : List zk_I := [(.aload_n 0, 1, 0, 0, 0, 0, []), (.invokevirtual 58, 3, 0, 1, 27, 1, []), (.ifCond .ne 5, 3, 0, 9, 0, 0, []), (.iconst 0, 1, 0, 0, 0, 0, []), (.ireturn, 1, 0, 1, 0, 0, [])]
theorem k_X1_readBoth_0 : zk_ckb 1 false (zk_m 26) B_X1_readBoth_0 0 = true := by decide +kernel
def B_X1_readBoth_9 : List zk_I := [(.iconst 0, 1, 0, 0, 0, 0, []), (.istore_n 1, 1, 0, 1, 0, 0, [])]
theorem k_X1_readBoth_9 : zk_ckb 1 false (zk_m 26) B_X1_readBoth_9 9 = true := by decide +kernel
def B_X1_readBoth_11 : List zk_I := [(.iload_n 1, 1, 0, 1, 0, 0, []), (.sipush 1600, 3, 1600, 0, 0, 0, []), (.if_icmp .ge 37, 3, 0, 52, 0, 0, []), (.aload_n 0, 1, 0, 0, 0, 0, []), (.getfield 9, 3, 0, 1, 0, 0, []), (.sipush 325, 3, 325, 0, 0, 0, []), (.invokevirtual 51, 3, 0, 2, 92, 8, []), (.ifCond .eq 24, 3, 0, 52, 0, 0, []), (.aload_n 0, 1, 0, 0, 0, 0, []), (.invokevirtual 58, 3, 0, 1, 27, 1, []), (.ifCond .ne 5, 3, 0, 40, 0, 0, []), (.iconst 0, 1, 0, 0, 0, 0, []), (.ireturn, 1, 0, 1, 0, 0, [])]
theorem k_X1_readBoth_11 : zk_ckb 1 false (zk_m 26) B_X1_readBoth_11 11 = true := by decide +kernel
def B_X1_readBoth_40 : List zk_I := [(.aload_n 0, 1, 0, 0, 0, 0, []), (.bipush (-10), 2, (-10), 0, 0, 0, []), (.invokevirtual 54, 3, 0, 2, 21, 1, []), (.iinc 1 1, 3, 1, 1, 0, 0, []), (.goto (-38), 3, 0, 11, 0, 0, [])]
theorem k_X1_readBoth_40 : zk_ckb 1 false (zk_m 26) B_X1_readBoth_40 40 = true := by decide +kernel
def B_X1_readBoth_52 : List zk_I := [(.iconst 1, 1, 1, 0, 0, 0, []), (.ireturn, 1, 0, 1, 0, 0, [])]
theorem k_X1_readBoth_52 : zk_ckb 1 false (zk_m 26) B_X1_readBoth_52 52 = true := by decide +kernel
def B_X1_readFact_0 : List zk_I := [(.aload_n 0, 1, 0, 0, 0, 0, []), (.getfield 9, 3, 0, 1, 0, 0, []), (.getfield 41, 3, 0, 8, 1, 0, []), (.lookupswitch 110 #[(91, 67), (326, 33), (327, 96)], 33, 0, 117, 0, 0, [(91, 74), (326, 40), (327, 103)])]
theorem k_X1_readFact_0 : zk_ckb 1 false (zk_m 27) B_X1_readFact_0 0 = true := by decide +kernel
def B_X1_readFact_40 : List zk_I := [(.aload_n 0, 1, 0, 0, 0, 0, []), (.invokevirtual 44, 3, 0, 1, 22, 1, []), (.ifCond .eq 10, 3, 0, 54, 0, 0, []), (.aload_n 0, 1, 0, 0, 0, 0, []), (.invokevirtual 58, 3, 0, 1, 27, 1, []), (.ifCond .ne 5, 3, 0, 56, 0, 0, [])]
theorem k_X1_readFact_40 : zk_ckb 1 false (zk_m 27) B_X1_readFact_40 40 = true := by decide +kernel
def B_X1_readFact_54 : List zk_I := [(.iconst 0, 1, 0, 0, 0, 0, []), (.ireturn, 1, 0, 1, 0, 0, [])]
theorem k_X1_readFact_54 : zk_ckb 1 false (zk_m 27) B_X1_readFact_54 54 = true := by decide +kernel
def B_X1_readFact_56 : List zk_I := [(.aload_n 0, 1, 0, 0, 0, 0, []), (.dup, 1, 0, 0, 0, 0, []), (.getfield 29, 3, 0, 1, 5, 0, []), (.iconst 1, 1, 1, 0, 0, 0, []), (.isub, 1, 0, 0, 0, 0, []), (.putfield 29, 3, 0, 1, 5, 0, []), (.aload_n 0, 1, 0, 0, 0, 0, []), (.bipush (-12), 2, (-12), 0, 0, 0, []), (.invokevirtual 54, 3, 0, 2, 21, 1, []), (.iconst 1, 1, 1, 0, 0, 0, []), (.ireturn, 1, 0, 1, 0, 0, [])]
theorem k_X1_readFact_56 : zk_ckb 1 false (zk_m 27) B_X1_readFact_56 56 = true := by decide +kernel
def B_X1_readFact_74 : List zk_I := [(.aload_n 0, 1, 0, 0, 0, 0, []), (.invokevirtual 44, 3, 0, 1, 22, 1, []), (.ifCond .eq 23, 3, 0, 101, 0, 0, []), (.aload_n 0, 1, 0, 0, 0, 0, []), (.invokevirtual 61, 3, 0, 1, 25, 1, []), (.ifCond .eq 16, 3, 0, 101, 0, 0, []), (.aload_n 0, 1, 0, 0, 0, 0, []), (.bipush 93, 2, 93, 0, 0, 0, []), (.invokevirtual 64, 3, 0, 2, 24, 1, []), (.ifCond .eq 7, 3, 0, 101, 0, 0, []), (.iconst 1, 1, 1, 0, 0, 0, []), (.goto 4, 3, 0, 102, 0, 0, [])]
theorem k_X1_readFact_74 : zk_ckb 1 false (zk_m 27) B_X1_readFact_74 74 = true := by decide +kernel
def B_X1_readFact_101 : List zk_I := [(.iconst 0, 1, 0, 0, 0, 0, [])]
theorem k_X1_readFact_101 : zk_ckb 1 false (zk_m 27) B_X1_readFact_101 101 = true := by decide +kernel
def B_X1_readFact_102 : List zk_I := [(.ireturn, 1, 0, 1, 0, 0, [])]
theorem k_X1_readFact_102 : zk_ckb 1 false (zk_m 27) B_X1_readFact_102 102 = true := by decide +kernel
def B_X1_readFact_103 : List zk_I := [(.aload_n 0, 1, 0, 0, 0, 0, []), (.iconst 1, 1, 1, 0, 0, 0, []), (.invokevirtual 54, 3, 0, 2, 21, 1, []), (.aload_n 0, 1, 0, 0, 0, 0, []), (.getfield 9, 3, 0, 1, 0, 0, []), (.invokevirtual 38, 3, 0, 1, 87, 8, []), (.iconst 1, 1, 1, 0, 0, 0, []), (.ireturn, 1, 0, 1, 0, 0, [])]
theorem k_X1_readFact_103 : zk_ckb 1 false (zk_m 27) B_X1_readFact_103 103 = true := by decide +kernel
def B_X1_readFact_117 : List zk_I := [(.aload_n 0, 1, 0, 0, 0, 0, []), (.invokevirtual 67, 3, 0, 1, 28, 1, []), (.ireturn, 1, 0, 1, 0, 0, [])]
theorem k_X1_readFact_117 : zk_ckb 1 false (zk_m 27) B_X1_readFact_117 117 = true := by decide +kernel
def B_X1_readComparison_0 : List zk_I := [(.aload_n 0, 1, 0, 0, 0, 0, []), (.invokevirtual 70, 3, 0, 1, 29, 1, []), (.ifCond .ne 5, 3, 0, 9, 0, 0, []), (.iconst 0, 1, 0, 0, 0, 0, []), (.ireturn, 1, 0, 1, 0, 0, [])]
theorem k_X1_readComparison_0 : zk_ckb 1 false (zk_m 28) B_X1_readComparison_0 0 = true := by decide +kernel
def B_X1_readComparison_9 : List zk_I := [(.aload_n 0, 1, 0, 0, 0, 0, []), (.getfield 9, 3, 0, 1, 0, 0, []), (.getfield 41, 3, 0, 8, 1, 0, []), (.istore_n 1, 1, 0, 1, 0, 0, []), (.iload_n 1, 1, 0, 1, 0, 0, []), (.bipush 60, 2, 60, 0, 0, 0, []), (.if_icmp .eq 24, 3, 0, 44, 0, 0, []), (.iload_n 1, 1, 0, 1, 0, 0, []), (.bipush 62, 2, 62, 0, 0, 0, []), (.if_icmp .eq 18, 3, 0, 44, 0, 0, []), (.iload_n 1, 1, 0, 1, 0, 0, []), (.bipush 61, 2, 61, 0, 0, 0, []), (.if_icmp .eq 12, 3, 0, 44, 0, 0, []), (.aload_n 0, 1, 0, 0, 0, 0, []), (.getfield 9, 3, 0, 1, 0, 0, []), (.iconst 1, 1, 1, 0, 0, 0, []), (.invokevirtual 32, 3, 0, 2, 86, 8, []), (.ireturn, 1, 0, 1, 0, 0, [])]
theorem k_X1_readComparison_9 : zk_ckb 1 false (zk_m 28) B_X1_readComparison_9 9 = true := by decide +kernel
def B_X1_readComparison_44 : List zk_I := [(.aload_n 0, 1, 0, 0, 0, 0, []), (.getfield 9, 3, 0, 1, 0, 0, []), (.invokevirtual 38, 3, 0, 1, 87, 8, []), (.aload_n 0, 1, 0, 0, 0, 0, []), (.invokevirtual 70, 3, 0, 1, 29, 1, []), (.ifCond .ne 5, 3, 0, 60, 0, 0, []), (.iconst 0, 1, 0, 0, 0, 0, []), (.ireturn, 1, 0, 1, 0, 0, [])]
theorem k_X1_readComparison_44 : zk_ckb 1 false (zk_m 28) B_X1_readComparison_44 44 = true := by decide +kernel
def B_X1_readComparison_60 : List zk_I := [(.aload_n 0, 1, 0, 0, 0, 0, []), (.iload_n 1, 1, 0, 1, 0, 0, []), (.bipush 60, 2, 60, 0, 0, 0, []), (.if_icmp .ne 8, 3, 0, 72, 0, 0, []), (.bipush (-7), 2, (-7), 0, 0, 0, []), (.goto 16, 3, 0, 85, 0, 0, [])]
theorem k_X1_readComparison_60 : zk_ckb 1 false (zk_m 28) B_X1_readComparison_60 60 = true := by decide +kernel
def B_X1_readComparison_72 : List zk_I := [(.iload_n 1, 1, 0, 1, 0, 0, []), (.bipush 62, 2, 62, 0, 0, 0, []), (.if_icmp .ne 8, 3, 0, 83, 0, 0, []), (.bipush (-8), 2, (-8), 0, 0, 0, []), (.goto 5, 3, 0, 85, 0, 0, [])]
theorem k_X1_readComparison_72 : zk_ckb 1 false (zk_m 28) B_X1_readComparison_72 72 = true := by decide +kernel
def B_X1_readComparison_83 : List zk_I := [(.bipush (-9), 2, (-9), 0, 0, 0, [])]
theorem k_X1_readComparison_83 : zk_ckb 1 false (zk_m 28) B_X1_readComparison_83 83 = true := by decide +kernel
def B_X1_readComparison_85 : List zk_I := [(.invokevirtual 54, 3, 0, 2, 21, 1, []), (.iconst 1, 1, 1, 0, 0, 0, []), (.ireturn, 1, 0, 1, 0, 0, [])]
theorem k_X1_readComparison_85 : zk_ckb 1 false (zk_m 28) B_X1_readComparison_85 85 = true := by decide +kernel
noncomputable def rt_cmp (f : Nat → Nat) (T : Nat) (sm : sp_F) (p : Nat) : sp_R := rd_bind (sm p) (fun p1 c1 => if tkK f T p1 = 60 ∨ tkK f T p1 = 62 ∨ tkK f T p1 = 61 then rd_bind (sm (tkE f T p1)) (fun p2 c2 => .inr (p2, c1 ++ c2 ++ [if tkK f T p1 = 60 then -7 else if tkK f T p1 = 62 then -8 else -9])) else .inl (1, tkS f T p1))
noncomputable def rt_fact (f : Nat → Nat) (T : Nat) (sm : sp_F) (nx : Option (sp_F × sp_F)) (p : Nat) : sp_R :=
  if tkK f T p = 326 then (match nx with
    | none => .inl (4, tkS f T p)
    | some x => rd_bind (x.1 (tkE f T p)) (fun p1 cs => .inr (p1, cs ++ [-12])))
  else if tkK f T p = 91 then (match nx with
    | none => .inl (4, tkS f T p)
    | some x => rd_bind (x.2 (tkE f T p)) (fun p1 cs => if tkK f T p1 = 93 then .inr (tkE f T p1, cs) else .inl (1, tkS f T p1)))
  else if tkK f T p = 327 then .inr (tkE f T p, [1])
  else rt_cmp f T sm p
noncomputable def rt_both (f : Nat → Nat) (T : Nat) (X : sp_F) (p : Nat) : sp_R := rd_bind (X p) (fun p1 cs => rd_lp f T 325 325 (-10) (-10) X 1600 p1 cs)
noncomputable def rt_test (f : Nat → Nat) (T : Nat) (X : sp_F) (p : Nat) : sp_R := rd_bind (rt_both f T X p) (fun p1 cs => rd_lp f T 324 324 (-11) (-11) (rt_both f T X) 1600 p1 cs)
noncomputable def rt_lev (f : Nat → Nat) (T sort : Nat) : Nat → sp_F × sp_F
  | 0 => (rt_fact f T (rd_lev f T sort 0).2 none, rt_test f T (rt_fact f T (rd_lev f T sort 0).2 none))
  | d + 1 => (rt_fact f T (rd_lev f T sort (d + 1)).2 (some (rt_lev f T sort d)), rt_test f T (rt_fact f T (rd_lev f T sort (d + 1)).2 (some (rt_lev f T sort d))))
theorem rd_bl_ok {f : Nat → Nat} {T : Nat} {a b ca cb : Int} (ha : a ≠ -1) (hb : b ≠ -1) {X : sp_F} (hX : rd_ok T X) : rd_ok T (fun p => rd_bind (X p) (fun p1 cs => rd_lp f T a b ca cb X 1600 p1 cs)) := by
  intro p p' cs hp h
  simp only at h
  cases hx : X p with
  | inl e => rw [hx] at h; cases h
  | inr y =>
    obtain ⟨p1, c1⟩ := y
    rw [hx] at h
    have h1 := hX _ _ _ hp hx
    have h2 := rd_lp_ok ha hb hX 1600 p1 c1 p' cs h1.2.1 h
    omega
theorem rt_cmp_ok {f : Nat → Nat} {T : Nat} {sm : sp_F} (hs : rd_ok T sm) : rd_ok T (rt_cmp f T sm) := by
  intro p p' cs hp h
  unfold rt_cmp at h
  cases hx : sm p with
  | inl e => rw [hx] at h; cases h
  | inr y =>
    obtain ⟨p1, c1⟩ := y
    rw [hx] at h
    have h1 := hs _ _ _ hp hx
    simp only [rd_bind] at h
    split at h
    · rename_i hk
      have hpos := tkK_pos (f := f) h1.2.1 (by rcases hk with z | z | z <;> rw [z] <;> decide)
      cases hx2 : sm (tkE f T p1) with
      | inl e => rw [hx2] at h; cases h
      | inr y2 =>
        obtain ⟨p2, c2⟩ := y2
        rw [hx2] at h
        have h3 := hs _ _ _ hpos.2.1 hx2
        simp only [Sum.inr.injEq, Prod.mk.injEq] at h
        obtain ⟨rfl, rfl⟩ := h
        simp only [List.length_append, List.length_cons, List.length_nil]
        omega
    · cases h
theorem rt_fact_ok {f : Nat → Nat} {T : Nat} {sm : sp_F} {nx : Option (sp_F × sp_F)} (hs : rd_ok T sm) (hnx : ∀ x, nx = some x → rd_ok T x.1 ∧ rd_ok T x.2) : rd_ok T (rt_fact f T sm nx) := by
  intro p p' cs hp h
  unfold rt_fact at h
  by_cases h1 : tkK f T p = 326
  · rw [if_pos h1] at h
    have hpos := tkK_pos (f := f) hp (by rw [h1]; decide)
    cases nx with
    | none => cases h
    | some x =>
      simp only at h
      cases hx : x.1 (tkE f T p) with
      | inl e => rw [hx] at h; cases h
      | inr y =>
        obtain ⟨p1, c1⟩ := y
        rw [hx] at h
        simp only [rd_bind, Sum.inr.injEq, Prod.mk.injEq] at h
        have h6 := (hnx x rfl).1 _ _ _ hpos.2.1 hx
        obtain ⟨rfl, rfl⟩ := h
        simp only [List.length_append, List.length_cons, List.length_nil]
        omega
  · rw [if_neg h1] at h
    by_cases h2 : tkK f T p = 91
    · rw [if_pos h2] at h
      have hpos := tkK_pos (f := f) hp (by rw [h2]; decide)
      cases nx with
      | none => cases h
      | some x =>
        simp only at h
        cases hx : x.2 (tkE f T p) with
        | inl e => rw [hx] at h; cases h
        | inr y =>
          obtain ⟨p1, c1⟩ := y
          rw [hx] at h
          simp only [rd_bind] at h
          have h6 := (hnx x rfl).2 _ _ _ hpos.2.1 hx
          split at h
          · rename_i hk
            have hpos2 := tkK_pos (f := f) h6.2.1 (by rw [hk]; decide)
            simp only [Sum.inr.injEq, Prod.mk.injEq] at h
            obtain ⟨rfl, rfl⟩ := h
            omega
          · cases h
    · rw [if_neg h2] at h
      by_cases h3 : tkK f T p = 327
      · rw [if_pos h3] at h
        have hpos := tkK_pos (f := f) hp (by rw [h3]; decide)
        simp only [Sum.inr.injEq, Prod.mk.injEq] at h
        obtain ⟨rfl, rfl⟩ := h
        simp only [List.length_cons, List.length_nil]
        omega
      · rw [if_neg h3] at h
        exact rt_cmp_ok hs p p' cs hp h
theorem rt_lev_ok (f : Nat → Nat) (T sort : Nat) : ∀ d, rd_ok T (rt_lev f T sort d).1 ∧ rd_ok T (rt_lev f T sort d).2
  | 0 => by
    have h := rt_fact_ok (f := f) (T := T) (nx := none) (rd_lev_ok f T sort 0).2 (fun x hx => by cases hx)
    exact ⟨h, rd_bl_ok (by decide) (by decide) (rd_bl_ok (by decide) (by decide) h)⟩
  | d + 1 => by
    have ih := rt_lev_ok f T sort d
    have h := rt_fact_ok (f := f) (T := T) (nx := some (rt_lev f T sort d)) (rd_lev_ok f T sort (d + 1)).2 (fun x hx => by cases hx; exact ih)
    exact ⟨h, rd_bl_ok (by decide) (by decide) (rd_bl_ok (by decide) (by decide) h)⟩
section CF5
variable {G : zk_G} {n : Nat} {M : zk_MI} {L : zk_ML} {P : zk_MP}
theorem ct_readBoth (hJ : zk_JS G) (hn : 154 ≤ n) (hP : zs_X P) {f : Nat → Nat} {T sort qs o D : Nat} (hS : zfS n P qs) (hD : 10 ≤ D) {X : sp_F} (hok : rd_ok T X) (hX : zfC G n L P f T sort qs 27 D o X) : zfC G n L P f T sort qs 26 (D + 1) o (fun p => rd_bind (X p) (fun p1 cs => rd_lp f T 325 325 (-10) (-10) X 1600 p1 cs)) := by
  intro M sz p hpre
  have hS2 := hS
  obtain ⟨q1, q2, q3, q4, q5, q6, q7⟩ := hS
  obtain ⟨hat, h3, h4, h5, hsz⟩ := hpre
  have hT := hat.1.2.1
  show zk_C G (D + 1) 26 [.ref 8] n M L P n (fun r M' L' P' => L' = L ∧ P' = P ∧ zfR M M' f T qs sz o r (rd_bind (X p) (fun p1 cs => rd_lp f T 325 325 (-10) (-10) X 1600 p1 cs)))
  generalize hres : rd_bind (X p) (fun p1 cs => rd_lp f T 325 325 (-10) (-10) X 1600 p1 cs) = R
  refine zk_meth (ow := 1) (kind := 1) (k := 0) (nL := 2) (ct := false) (l0 := [.ref 8, zk_un]) (by decide +kernel) (fun h => by cases h) (by decide +kernel) (by decide) (by decide) (fun h => absurd h (by decide)) (Nat.le_of_ble_eq_true rfl) rfl (by omega) (fun Z hZ => ?_)
  have ho := zo_X hn
  have hP2 := hP
  unfold zs_X at hP2
  refine hZ B_X1_readBoth_0 _ _ _ _ _ _ _ k_X1_readBoth_0 ?_
  simp only [B_X1_readBoth_0, zk_ldi_s, zk_ldl_s, zk_lda_r, zk_lda_a, zk_lda_n, zk_iv_s, zr_nil, zr_cons, zp_0, zp_s, zt_0, zt_s, zt2_0, zt2_s, zw_iconst, zw_bipush, zw_sipush, zw_lconst, zw_ldcs, zw_ldc, zw_ldcw, zw_ldc2, zw_iload_n, zw_lload_n, zw_aload_n, zw_istore_n, zw_lstore_n, zw_astore_n, zw_astoreN_n, zw_iload, zw_lload, zw_aload, zw_istore, zw_lstore, zw_astore, zw_astoreN, zw_iinc, zw_iadd, zw_isub, zw_imul, zw_iand, zw_ior, zw_ixor, zw_ishl, zw_ishr, zw_iushr, zw_idiv, zw_irem, zw_ladd, zw_lsub, zw_lmul, zw_land, zw_ldiv, zw_lrem, zw_lcmp, zw_i2l, zw_l2i, zw_dup, zw_pop, zw_dup2i, zw_goto, zw_if_eq, zw_if_ne, zw_if_lt, zw_if_ge, zw_if_gt, zw_if_le, zw_ic_eq, zw_ic_ne, zw_ic_lt, zw_ic_ge, zw_ic_gt, zw_ic_le, zw_ifnn, zw_ifnnN, zw_tsw, zw_lsw, zw_getf_l, zw_getf_r, zw_getf_i, zw_getf_z, zw_putf_i, zw_putf_z, zw_putf_l, zw_putf_r, zw_iaload, zw_caload, zw_laload, zw_aaload, zw_iastore, zw_castore, zw_lastore, zw_aastore, zw_alen, zw_newa, zw_newq, zw_new, zw_oini, zw_invs, zw_invv, zw_copy, zw_invt, zw_iret, zw_lret, zw_ret, zc_r, zc_a, zk_rvs, zk_cat2, List.getElem?_cons_zero, List.getElem?_cons_succ, Bool.false_eq_true, and_false, false_and, and_true, true_and, reduceIte, Nat.reduceEqDiff, Nat.reduceLT, Nat.reduceAdd, List.cons_append, List.nil_append, Option.toList_some, Option.toList_none, zk_cat_i, zk_cat_r, zk_cat_n, zk_same, Option.some.injEq, Value.int.injEq, Value.long.injEq, eq_self, false_implies, true_implies, zf_1, ho, hP2, zl_X, zc_n10, zc_cl, zc_in, not_true_eq_false, not_false_eq_true]
  refine zk_callI (hX M sz p ⟨hat, h3, h4, h5, hsz⟩) (by first | decide | omega) (Nat.le_refl _) (Nat.le_of_ble_eq_true rfl) (fun r M1 L9 P9 hpost => ?_)
  obtain ⟨hL9, hP9, hR⟩ := hpost
  have hL8 := hL9.symm
  have hP8 := hP9.symm
  subst hL8
  subst hP8
  cases hx : X p with
  | inl e =>
    obtain ⟨k, pl⟩ := e
    rw [hx] at hR hres
    obtain ⟨rfl, r2, r3, r4⟩ := hR
    simp only [zk_ldi_s, zk_ldl_s, zk_lda_r, zk_lda_a, zk_lda_n, zk_iv_s, zr_nil, zr_cons, zp_0, zp_s, zt_0, zt_s, zt2_0, zt2_s, zw_iconst, zw_bipush, zw_sipush, zw_lconst, zw_ldcs, zw_ldc, zw_ldcw, zw_ldc2, zw_iload_n, zw_lload_n, zw_aload_n, zw_istore_n, zw_lstore_n, zw_astore_n, zw_astoreN_n, zw_iload, zw_lload, zw_aload, zw_istore, zw_lstore, zw_astore, zw_astoreN, zw_iinc, zw_iadd, zw_isub, zw_imul, zw_iand, zw_ior, zw_ixor, zw_ishl, zw_ishr, zw_iushr, zw_idiv, zw_irem, zw_ladd, zw_lsub, zw_lmul, zw_land, zw_ldiv, zw_lrem, zw_lcmp, zw_i2l, zw_l2i, zw_dup, zw_pop, zw_dup2i, zw_goto, zw_if_eq, zw_if_ne, zw_if_lt, zw_if_ge, zw_if_gt, zw_if_le, zw_ic_eq, zw_ic_ne, zw_ic_lt, zw_ic_ge, zw_ic_gt, zw_ic_le, zw_ifnn, zw_ifnnN, zw_tsw, zw_lsw, zw_getf_l, zw_getf_r, zw_getf_i, zw_getf_z, zw_putf_i, zw_putf_z, zw_putf_l, zw_putf_r, zw_iaload, zw_caload, zw_laload, zw_aaload, zw_iastore, zw_castore, zw_lastore, zw_aastore, zw_alen, zw_newa, zw_newq, zw_new, zw_oini, zw_invs, zw_invv, zw_copy, zw_invt, zw_iret, zw_lret, zw_ret, zc_r, zc_a, zk_rvs, zk_cat2, List.getElem?_cons_zero, List.getElem?_cons_succ, Bool.false_eq_true, and_false, false_and, and_true, true_and, reduceIte, Nat.reduceEqDiff, Nat.reduceLT, Nat.reduceAdd, List.cons_append, List.nil_append, Option.toList_some, Option.toList_none, zk_cat_i, zk_cat_r, zk_cat_n, zk_same, Option.some.injEq, Value.int.injEq, Value.long.injEq, eq_self, false_implies, true_implies, zf_1, ho, hP2, zl_X, zc_n10, zc_cl, zc_in, not_true_eq_false, not_false_eq_true]
    rw [← hres]
    exact ⟨Or.inl rfl, rfl, r2, r3, r4⟩
  | inr y =>
    obtain ⟨p1, c1⟩ := y
    rw [hx] at hR hres
    obtain ⟨rfl, r2, r3, r4, r5⟩ := hR
    simp only [rd_bind] at hres
    have hok1 := hok _ _ _ hat.2.2.1 hx
    simp only [zk_ldi_s, zk_ldl_s, zk_lda_r, zk_lda_a, zk_lda_n, zk_iv_s, zr_nil, zr_cons, zp_0, zp_s, zt_0, zt_s, zt2_0, zt2_s, zw_iconst, zw_bipush, zw_sipush, zw_lconst, zw_ldcs, zw_ldc, zw_ldcw, zw_ldc2, zw_iload_n, zw_lload_n, zw_aload_n, zw_istore_n, zw_lstore_n, zw_astore_n, zw_astoreN_n, zw_iload, zw_lload, zw_aload, zw_istore, zw_lstore, zw_astore, zw_astoreN, zw_iinc, zw_iadd, zw_isub, zw_imul, zw_iand, zw_ior, zw_ixor, zw_ishl, zw_ishr, zw_iushr, zw_idiv, zw_irem, zw_ladd, zw_lsub, zw_lmul, zw_land, zw_ldiv, zw_lrem, zw_lcmp, zw_i2l, zw_l2i, zw_dup, zw_pop, zw_dup2i, zw_goto, zw_if_eq, zw_if_ne, zw_if_lt, zw_if_ge, zw_if_gt, zw_if_le, zw_ic_eq, zw_ic_ne, zw_ic_lt, zw_ic_ge, zw_ic_gt, zw_ic_le, zw_ifnn, zw_ifnnN, zw_tsw, zw_lsw, zw_getf_l, zw_getf_r, zw_getf_i, zw_getf_z, zw_putf_i, zw_putf_z, zw_putf_l, zw_putf_r, zw_iaload, zw_caload, zw_laload, zw_aaload, zw_iastore, zw_castore, zw_lastore, zw_aastore, zw_alen, zw_newa, zw_newq, zw_new, zw_oini, zw_invs, zw_invv, zw_copy, zw_invt, zw_iret, zw_lret, zw_ret, zc_r, zc_a, zk_rvs, zk_cat2, List.getElem?_cons_zero, List.getElem?_cons_succ, Bool.false_eq_true, and_false, false_and, and_true, true_and, reduceIte, Nat.reduceEqDiff, Nat.reduceLT, Nat.reduceAdd, List.cons_append, List.nil_append, Option.toList_some, Option.toList_none, zk_cat_i, zk_cat_r, zk_cat_n, zk_same, Option.some.injEq, Value.int.injEq, Value.long.injEq, eq_self, false_implies, true_implies, zf_1, ho, hP2, zl_X, zc_n10, zc_cl, zc_in, not_true_eq_false, not_false_eq_true]
    have loop : ∀ (j i p1 : Nat) (acc : List Int) (M1 : zk_MI), i + j = 1600 → rd_lp f T 325 325 (-10) (-10) X j p1 acc = R → zfG M M1 qs sz acc → zt_at M1 f T p1 → M1 8 5 = nI o → M1 7 7 = M 7 7 → sz + acc.length ≤ p1 → Z 11 [.ref 8, .int (nI i)] [] n M1 L P := by
      intro j
      induction j with
      | zero =>
        intro i p1 acc M1 hi hq g1 g2 g3 g4 g5
        obtain rfl : i = 1600 := by omega
        refine hZ B_X1_readBoth_11 _ _ _ _ _ _ _ k_X1_readBoth_11 ?_
        simp only [B_X1_readBoth_11, zk_ldi_s, zk_ldl_s, zk_lda_r, zk_lda_a, zk_lda_n, zk_iv_s, zr_nil, zr_cons, zp_0, zp_s, zt_0, zt_s, zt2_0, zt2_s, zw_iconst, zw_bipush, zw_sipush, zw_lconst, zw_ldcs, zw_ldc, zw_ldcw, zw_ldc2, zw_iload_n, zw_lload_n, zw_aload_n, zw_istore_n, zw_lstore_n, zw_astore_n, zw_astoreN_n, zw_iload, zw_lload, zw_aload, zw_istore, zw_lstore, zw_astore, zw_astoreN, zw_iinc, zw_iadd, zw_isub, zw_imul, zw_iand, zw_ior, zw_ixor, zw_ishl, zw_ishr, zw_iushr, zw_idiv, zw_irem, zw_ladd, zw_lsub, zw_lmul, zw_land, zw_ldiv, zw_lrem, zw_lcmp, zw_i2l, zw_l2i, zw_dup, zw_pop, zw_dup2i, zw_goto, zw_if_eq, zw_if_ne, zw_if_lt, zw_if_ge, zw_if_gt, zw_if_le, zw_ic_eq, zw_ic_ne, zw_ic_lt, zw_ic_ge, zw_ic_gt, zw_ic_le, zw_ifnn, zw_ifnnN, zw_tsw, zw_lsw, zw_getf_l, zw_getf_r, zw_getf_i, zw_getf_z, zw_putf_i, zw_putf_z, zw_putf_l, zw_putf_r, zw_iaload, zw_caload, zw_laload, zw_aaload, zw_iastore, zw_castore, zw_lastore, zw_aastore, zw_alen, zw_newa, zw_newq, zw_new, zw_oini, zw_invs, zw_invv, zw_copy, zw_invt, zw_iret, zw_lret, zw_ret, zc_r, zc_a, zk_rvs, zk_cat2, List.getElem?_cons_zero, List.getElem?_cons_succ, Bool.false_eq_true, and_false, false_and, and_true, true_and, reduceIte, Nat.reduceEqDiff, Nat.reduceLT, Nat.reduceAdd, List.cons_append, List.nil_append, Option.toList_some, Option.toList_none, zk_cat_i, zk_cat_r, zk_cat_n, zk_same, Option.some.injEq, Value.int.injEq, Value.long.injEq, eq_self, false_implies, true_implies, zf_1, ho, hP2, zl_X, zc_n10, zc_cl, zc_in, not_true_eq_false, not_false_eq_true, (show ((1600 : Int32) ≤ nI 1600) = True from by decide)]
        refine hZ B_X1_readBoth_52 _ _ _ _ _ _ _ k_X1_readBoth_52 ?_
        simp only [B_X1_readBoth_52, zk_ldi_s, zk_ldl_s, zk_lda_r, zk_lda_a, zk_lda_n, zk_iv_s, zr_nil, zr_cons, zp_0, zp_s, zt_0, zt_s, zt2_0, zt2_s, zw_iconst, zw_bipush, zw_sipush, zw_lconst, zw_ldcs, zw_ldc, zw_ldcw, zw_ldc2, zw_iload_n, zw_lload_n, zw_aload_n, zw_istore_n, zw_lstore_n, zw_astore_n, zw_astoreN_n, zw_iload, zw_lload, zw_aload, zw_istore, zw_lstore, zw_astore, zw_astoreN, zw_iinc, zw_iadd, zw_isub, zw_imul, zw_iand, zw_ior, zw_ixor, zw_ishl, zw_ishr, zw_iushr, zw_idiv, zw_irem, zw_ladd, zw_lsub, zw_lmul, zw_land, zw_ldiv, zw_lrem, zw_lcmp, zw_i2l, zw_l2i, zw_dup, zw_pop, zw_dup2i, zw_goto, zw_if_eq, zw_if_ne, zw_if_lt, zw_if_ge, zw_if_gt, zw_if_le, zw_ic_eq, zw_ic_ne, zw_ic_lt, zw_ic_ge, zw_ic_gt, zw_ic_le, zw_ifnn, zw_ifnnN, zw_tsw, zw_lsw, zw_getf_l, zw_getf_r, zw_getf_i, zw_getf_z, zw_putf_i, zw_putf_z, zw_putf_l, zw_putf_r, zw_iaload, zw_caload, zw_laload, zw_aaload, zw_iastore, zw_castore, zw_lastore, zw_aastore, zw_alen, zw_newa, zw_newq, zw_new, zw_oini, zw_invs, zw_invv, zw_copy, zw_invt, zw_iret, zw_lret, zw_ret, zc_r, zc_a, zk_rvs, zk_cat2, List.getElem?_cons_zero, List.getElem?_cons_succ, Bool.false_eq_true, and_false, false_and, and_true, true_and, reduceIte, Nat.reduceEqDiff, Nat.reduceLT, Nat.reduceAdd, List.cons_append, List.nil_append, Option.toList_some, Option.toList_none, zk_cat_i, zk_cat_r, zk_cat_n, zk_same, Option.some.injEq, Value.int.injEq, Value.long.injEq, eq_self, false_implies, true_implies, zf_1, ho, hP2, zl_X, zc_n10, zc_cl, zc_in, not_true_eq_false, not_false_eq_true]
        rw [← hq]
        exact ⟨Or.inr rfl, rfl, g2, g1, g3, g4⟩
      | succ j ih =>
        intro i p1 acc M1 hi hq g1 g2 g3 g4 g5
        have e1 : ((1600 : Int32) ≤ nI i) = False := by rw [fa_lit 1600, zn_le (by omega) (by omega)]; simp; omega
        simp only [rd_lp, ite_self, or_self] at hq
        refine hZ B_X1_readBoth_11 _ _ _ _ _ _ _ k_X1_readBoth_11 ?_
        simp only [B_X1_readBoth_11, zk_ldi_s, zk_ldl_s, zk_lda_r, zk_lda_a, zk_lda_n, zk_iv_s, zr_nil, zr_cons, zp_0, zp_s, zt_0, zt_s, zt2_0, zt2_s, zw_iconst, zw_bipush, zw_sipush, zw_lconst, zw_ldcs, zw_ldc, zw_ldcw, zw_ldc2, zw_iload_n, zw_lload_n, zw_aload_n, zw_istore_n, zw_lstore_n, zw_astore_n, zw_astoreN_n, zw_iload, zw_lload, zw_aload, zw_istore, zw_lstore, zw_astore, zw_astoreN, zw_iinc, zw_iadd, zw_isub, zw_imul, zw_iand, zw_ior, zw_ixor, zw_ishl, zw_ishr, zw_iushr, zw_idiv, zw_irem, zw_ladd, zw_lsub, zw_lmul, zw_land, zw_ldiv, zw_lrem, zw_lcmp, zw_i2l, zw_l2i, zw_dup, zw_pop, zw_dup2i, zw_goto, zw_if_eq, zw_if_ne, zw_if_lt, zw_if_ge, zw_if_gt, zw_if_le, zw_ic_eq, zw_ic_ne, zw_ic_lt, zw_ic_ge, zw_ic_gt, zw_ic_le, zw_ifnn, zw_ifnnN, zw_tsw, zw_lsw, zw_getf_l, zw_getf_r, zw_getf_i, zw_getf_z, zw_putf_i, zw_putf_z, zw_putf_l, zw_putf_r, zw_iaload, zw_caload, zw_laload, zw_aaload, zw_iastore, zw_castore, zw_lastore, zw_aastore, zw_alen, zw_newa, zw_newq, zw_new, zw_oini, zw_invs, zw_invv, zw_copy, zw_invt, zw_iret, zw_lret, zw_ret, zc_r, zc_a, zk_rvs, zk_cat2, List.getElem?_cons_zero, List.getElem?_cons_succ, Bool.false_eq_true, and_false, false_and, and_true, true_and, reduceIte, Nat.reduceEqDiff, Nat.reduceLT, Nat.reduceAdd, List.cons_append, List.nil_append, Option.toList_some, Option.toList_none, zk_cat_i, zk_cat_r, zk_cat_n, zk_same, Option.some.injEq, Value.int.injEq, Value.long.injEq, eq_self, false_implies, true_implies, zf_1, ho, hP2, zl_X, zc_n10, zc_cl, zc_in, not_true_eq_false, not_false_eq_true, e1]
        rw [show (325 : Int32) = iI 325 from by decide]
        refine zk_callI (ct_skip hJ hn hP g2 325 (by decide) (by decide)) (by first | decide | omega) (Nat.le_refl _) (Nat.le_of_ble_eq_true rfl) (fun r M2 L9 P9 hpost => ?_)
        obtain ⟨hL9, hP9, b1, b2⟩ := hpost
        have hL8 := hL9.symm
        have hP8 := hP9.symm
        subst hL8
        subst hP8
        by_cases hk : tkK f T p1 = 325
        · obtain ⟨rfl, k1, k2, k3⟩ := b2 hk
          rw [if_pos hk] at hq
          have hpos := tkK_pos (f := f) g2.2.2.1 (by rw [hk]; decide)
          simp only [zk_ldi_s, zk_ldl_s, zk_lda_r, zk_lda_a, zk_lda_n, zk_iv_s, zr_nil, zr_cons, zp_0, zp_s, zt_0, zt_s, zt2_0, zt2_s, zw_iconst, zw_bipush, zw_sipush, zw_lconst, zw_ldcs, zw_ldc, zw_ldcw, zw_ldc2, zw_iload_n, zw_lload_n, zw_aload_n, zw_istore_n, zw_lstore_n, zw_astore_n, zw_astoreN_n, zw_iload, zw_lload, zw_aload, zw_istore, zw_lstore, zw_astore, zw_astoreN, zw_iinc, zw_iadd, zw_isub, zw_imul, zw_iand, zw_ior, zw_ixor, zw_ishl, zw_ishr, zw_iushr, zw_idiv, zw_irem, zw_ladd, zw_lsub, zw_lmul, zw_land, zw_ldiv, zw_lrem, zw_lcmp, zw_i2l, zw_l2i, zw_dup, zw_pop, zw_dup2i, zw_goto, zw_if_eq, zw_if_ne, zw_if_lt, zw_if_ge, zw_if_gt, zw_if_le, zw_ic_eq, zw_ic_ne, zw_ic_lt, zw_ic_ge, zw_ic_gt, zw_ic_le, zw_ifnn, zw_ifnnN, zw_tsw, zw_lsw, zw_getf_l, zw_getf_r, zw_getf_i, zw_getf_z, zw_putf_i, zw_putf_z, zw_putf_l, zw_putf_r, zw_iaload, zw_caload, zw_laload, zw_aaload, zw_iastore, zw_castore, zw_lastore, zw_aastore, zw_alen, zw_newa, zw_newq, zw_new, zw_oini, zw_invs, zw_invv, zw_copy, zw_invt, zw_iret, zw_lret, zw_ret, zc_r, zc_a, zk_rvs, zk_cat2, List.getElem?_cons_zero, List.getElem?_cons_succ, Bool.false_eq_true, and_false, false_and, and_true, true_and, reduceIte, Nat.reduceEqDiff, Nat.reduceLT, Nat.reduceAdd, List.cons_append, List.nil_append, Option.toList_some, Option.toList_none, zk_cat_i, zk_cat_r, zk_cat_n, zk_same, Option.some.injEq, Value.int.injEq, Value.long.injEq, eq_self, false_implies, true_implies, zf_1, ho, hP2, zl_X, zc_n10, zc_cl, zc_in, not_true_eq_false, not_false_eq_true]
          have w2 : zfG M M2 qs sz acc := by
            have := zfG_tr g1 (zf_nx q6 g1.2.2 k2)
            rw [List.append_nil] at this
            exact this
          refine zk_callI (hX M2 (sz + acc.length) (tkE f T p1) ⟨k1, w2.2.2, by rw [w2.1.2.1 4 (by decide) (by decide)]; exact h4, by rw [k2 8 (by decide)]; exact g3, by omega⟩) (by first | decide | omega) (Nat.le_refl _) (Nat.le_of_ble_eq_true rfl) (fun r M3 L9 P9 hpost => ?_)
          obtain ⟨hL9, hP9, hR3⟩ := hpost
          have hL8 := hL9.symm
          have hP8 := hP9.symm
          subst hL8
          subst hP8
          cases hx3 : X (tkE f T p1) with
          | inl e =>
            obtain ⟨k, pl⟩ := e
            rw [hx3] at hR3 hq
            obtain ⟨rfl, s2, s3, s4⟩ := hR3
            simp only [zk_ldi_s, zk_ldl_s, zk_lda_r, zk_lda_a, zk_lda_n, zk_iv_s, zr_nil, zr_cons, zp_0, zp_s, zt_0, zt_s, zt2_0, zt2_s, zw_iconst, zw_bipush, zw_sipush, zw_lconst, zw_ldcs, zw_ldc, zw_ldcw, zw_ldc2, zw_iload_n, zw_lload_n, zw_aload_n, zw_istore_n, zw_lstore_n, zw_astore_n, zw_astoreN_n, zw_iload, zw_lload, zw_aload, zw_istore, zw_lstore, zw_astore, zw_astoreN, zw_iinc, zw_iadd, zw_isub, zw_imul, zw_iand, zw_ior, zw_ixor, zw_ishl, zw_ishr, zw_iushr, zw_idiv, zw_irem, zw_ladd, zw_lsub, zw_lmul, zw_land, zw_ldiv, zw_lrem, zw_lcmp, zw_i2l, zw_l2i, zw_dup, zw_pop, zw_dup2i, zw_goto, zw_if_eq, zw_if_ne, zw_if_lt, zw_if_ge, zw_if_gt, zw_if_le, zw_ic_eq, zw_ic_ne, zw_ic_lt, zw_ic_ge, zw_ic_gt, zw_ic_le, zw_ifnn, zw_ifnnN, zw_tsw, zw_lsw, zw_getf_l, zw_getf_r, zw_getf_i, zw_getf_z, zw_putf_i, zw_putf_z, zw_putf_l, zw_putf_r, zw_iaload, zw_caload, zw_laload, zw_aaload, zw_iastore, zw_castore, zw_lastore, zw_aastore, zw_alen, zw_newa, zw_newq, zw_new, zw_oini, zw_invs, zw_invv, zw_copy, zw_invt, zw_iret, zw_lret, zw_ret, zc_r, zc_a, zk_rvs, zk_cat2, List.getElem?_cons_zero, List.getElem?_cons_succ, Bool.false_eq_true, and_false, false_and, and_true, true_and, reduceIte, Nat.reduceEqDiff, Nat.reduceLT, Nat.reduceAdd, List.cons_append, List.nil_append, Option.toList_some, Option.toList_none, zk_cat_i, zk_cat_r, zk_cat_n, zk_same, Option.some.injEq, Value.int.injEq, Value.long.injEq, eq_self, false_implies, true_implies, zf_1, ho, hP2, zl_X, zc_n10, zc_cl, zc_in, not_true_eq_false, not_false_eq_true]
            rw [← hq]
            exact ⟨Or.inl rfl, rfl, s2, s3, zfF_tr w2.1 s4 (by omega)⟩
          | inr y =>
            obtain ⟨p3, c3⟩ := y
            rw [hx3] at hR3 hq
            obtain ⟨rfl, s2, s3, s4, s5⟩ := hR3
            simp only [rd_bind] at hq
            have hok3 := hok _ _ _ hpos.2.1 hx3
            have w3 := zfG_tr w2 s3
            have w33 : M3 8 3 = nI (sz + (acc ++ c3).length) := w3.2.2
            have hl3 : (acc ++ c3).length = acc.length + c3.length := List.length_append
            simp only [zk_ldi_s, zk_ldl_s, zk_lda_r, zk_lda_a, zk_lda_n, zk_iv_s, zr_nil, zr_cons, zp_0, zp_s, zt_0, zt_s, zt2_0, zt2_s, zw_iconst, zw_bipush, zw_sipush, zw_lconst, zw_ldcs, zw_ldc, zw_ldcw, zw_ldc2, zw_iload_n, zw_lload_n, zw_aload_n, zw_istore_n, zw_lstore_n, zw_astore_n, zw_astoreN_n, zw_iload, zw_lload, zw_aload, zw_istore, zw_lstore, zw_astore, zw_astoreN, zw_iinc, zw_iadd, zw_isub, zw_imul, zw_iand, zw_ior, zw_ixor, zw_ishl, zw_ishr, zw_iushr, zw_idiv, zw_irem, zw_ladd, zw_lsub, zw_lmul, zw_land, zw_ldiv, zw_lrem, zw_lcmp, zw_i2l, zw_l2i, zw_dup, zw_pop, zw_dup2i, zw_goto, zw_if_eq, zw_if_ne, zw_if_lt, zw_if_ge, zw_if_gt, zw_if_le, zw_ic_eq, zw_ic_ne, zw_ic_lt, zw_ic_ge, zw_ic_gt, zw_ic_le, zw_ifnn, zw_ifnnN, zw_tsw, zw_lsw, zw_getf_l, zw_getf_r, zw_getf_i, zw_getf_z, zw_putf_i, zw_putf_z, zw_putf_l, zw_putf_r, zw_iaload, zw_caload, zw_laload, zw_aaload, zw_iastore, zw_castore, zw_lastore, zw_aastore, zw_alen, zw_newa, zw_newq, zw_new, zw_oini, zw_invs, zw_invv, zw_copy, zw_invt, zw_iret, zw_lret, zw_ret, zc_r, zc_a, zk_rvs, zk_cat2, List.getElem?_cons_zero, List.getElem?_cons_succ, Bool.false_eq_true, and_false, false_and, and_true, true_and, reduceIte, Nat.reduceEqDiff, Nat.reduceLT, Nat.reduceAdd, List.cons_append, List.nil_append, Option.toList_some, Option.toList_none, zk_cat_i, zk_cat_r, zk_cat_n, zk_same, Option.some.injEq, Value.int.injEq, Value.long.injEq, eq_self, false_implies, true_implies, zf_1, ho, hP2, zl_X, zc_n10, zc_cl, zc_in, not_true_eq_false, not_false_eq_true]
            refine hZ B_X1_readBoth_40 _ _ _ _ _ _ _ k_X1_readBoth_40 ?_
            simp only [B_X1_readBoth_40, zk_ldi_s, zk_ldl_s, zk_lda_r, zk_lda_a, zk_lda_n, zk_iv_s, zr_nil, zr_cons, zp_0, zp_s, zt_0, zt_s, zt2_0, zt2_s, zw_iconst, zw_bipush, zw_sipush, zw_lconst, zw_ldcs, zw_ldc, zw_ldcw, zw_ldc2, zw_iload_n, zw_lload_n, zw_aload_n, zw_istore_n, zw_lstore_n, zw_astore_n, zw_astoreN_n, zw_iload, zw_lload, zw_aload, zw_istore, zw_lstore, zw_astore, zw_astoreN, zw_iinc, zw_iadd, zw_isub, zw_imul, zw_iand, zw_ior, zw_ixor, zw_ishl, zw_ishr, zw_iushr, zw_idiv, zw_irem, zw_ladd, zw_lsub, zw_lmul, zw_land, zw_ldiv, zw_lrem, zw_lcmp, zw_i2l, zw_l2i, zw_dup, zw_pop, zw_dup2i, zw_goto, zw_if_eq, zw_if_ne, zw_if_lt, zw_if_ge, zw_if_gt, zw_if_le, zw_ic_eq, zw_ic_ne, zw_ic_lt, zw_ic_ge, zw_ic_gt, zw_ic_le, zw_ifnn, zw_ifnnN, zw_tsw, zw_lsw, zw_getf_l, zw_getf_r, zw_getf_i, zw_getf_z, zw_putf_i, zw_putf_z, zw_putf_l, zw_putf_r, zw_iaload, zw_caload, zw_laload, zw_aaload, zw_iastore, zw_castore, zw_lastore, zw_aastore, zw_alen, zw_newa, zw_newq, zw_new, zw_oini, zw_invs, zw_invv, zw_copy, zw_invt, zw_iret, zw_lret, zw_ret, zc_r, zc_a, zk_rvs, zk_cat2, List.getElem?_cons_zero, List.getElem?_cons_succ, Bool.false_eq_true, and_false, false_and, and_true, true_and, reduceIte, Nat.reduceEqDiff, Nat.reduceLT, Nat.reduceAdd, List.cons_append, List.nil_append, Option.toList_some, Option.toList_none, zk_cat_i, zk_cat_r, zk_cat_n, zk_same, Option.some.injEq, Value.int.injEq, Value.long.injEq, eq_self, false_implies, true_implies, zf_1, ho, hP2, zl_X, zc_n10, zc_cl, zc_in, not_true_eq_false, not_false_eq_true]
            rw [show (-10 : Int32) = iI (-10) from by decide]
            refine zk_callI (ct_put hn hP hS2 w33 (by omega) (-10)) (by first | decide | omega) (Nat.le_refl _) (Nat.le_of_ble_eq_true rfl) (fun r M4 L9 P9 hpost => ?_)
            obtain ⟨hr9, hL9, hP9, t1, t2, t3, t4, t5⟩ := hpost
            subst hr9
            have hL8 := hL9.symm
            have hP8 := hP9.symm
            clear hL9 hP9
            subst hL8
            subst hP8
            simp only [zk_ldi_s, zk_ldl_s, zk_lda_r, zk_lda_a, zk_lda_n, zk_iv_s, zr_nil, zr_cons, zp_0, zp_s, zt_0, zt_s, zt2_0, zt2_s, zw_iconst, zw_bipush, zw_sipush, zw_lconst, zw_ldcs, zw_ldc, zw_ldcw, zw_ldc2, zw_iload_n, zw_lload_n, zw_aload_n, zw_istore_n, zw_lstore_n, zw_astore_n, zw_astoreN_n, zw_iload, zw_lload, zw_aload, zw_istore, zw_lstore, zw_astore, zw_astoreN, zw_iinc, zw_iadd, zw_isub, zw_imul, zw_iand, zw_ior, zw_ixor, zw_ishl, zw_ishr, zw_iushr, zw_idiv, zw_irem, zw_ladd, zw_lsub, zw_lmul, zw_land, zw_ldiv, zw_lrem, zw_lcmp, zw_i2l, zw_l2i, zw_dup, zw_pop, zw_dup2i, zw_goto, zw_if_eq, zw_if_ne, zw_if_lt, zw_if_ge, zw_if_gt, zw_if_le, zw_ic_eq, zw_ic_ne, zw_ic_lt, zw_ic_ge, zw_ic_gt, zw_ic_le, zw_ifnn, zw_ifnnN, zw_tsw, zw_lsw, zw_getf_l, zw_getf_r, zw_getf_i, zw_getf_z, zw_putf_i, zw_putf_z, zw_putf_l, zw_putf_r, zw_iaload, zw_caload, zw_laload, zw_aaload, zw_iastore, zw_castore, zw_lastore, zw_aastore, zw_alen, zw_newa, zw_newq, zw_new, zw_oini, zw_invs, zw_invv, zw_copy, zw_invt, zw_iret, zw_lret, zw_ret, zc_r, zc_a, zk_rvs, zk_cat2, List.getElem?_cons_zero, List.getElem?_cons_succ, Bool.false_eq_true, and_false, false_and, and_true, true_and, reduceIte, Nat.reduceEqDiff, Nat.reduceLT, Nat.reduceAdd, List.cons_append, List.nil_append, Option.toList_some, Option.toList_none, zk_cat_i, zk_cat_r, zk_cat_n, zk_same, Option.some.injEq, Value.int.injEq, Value.long.injEq, eq_self, false_implies, true_implies, zf_1, ho, hP2, zl_X, zc_n10, zc_cl, zc_in, not_true_eq_false, not_false_eq_true, nI_1]
            refine ih (i + 1) p3 (acc ++ c3 ++ [-10]) M4 (by omega) hq (zfG_tr w3 t1) (zt_at_cg s2 t4 t5 t2) (by rw [t3]; exact s4) ?_ ?_
            · rw [t2, s5, k3 7 (by decide)]; exact g4
            · rw [List.length_append, hl3]
              show sz + (acc.length + c3.length + 1) ≤ p3
              omega
        · obtain ⟨rfl, hMM⟩ := b1 hk
          have hM8 := hMM.symm
          subst hM8
          rw [if_neg hk] at hq
          simp only [zk_ldi_s, zk_ldl_s, zk_lda_r, zk_lda_a, zk_lda_n, zk_iv_s, zr_nil, zr_cons, zp_0, zp_s, zt_0, zt_s, zt2_0, zt2_s, zw_iconst, zw_bipush, zw_sipush, zw_lconst, zw_ldcs, zw_ldc, zw_ldcw, zw_ldc2, zw_iload_n, zw_lload_n, zw_aload_n, zw_istore_n, zw_lstore_n, zw_astore_n, zw_astoreN_n, zw_iload, zw_lload, zw_aload, zw_istore, zw_lstore, zw_astore, zw_astoreN, zw_iinc, zw_iadd, zw_isub, zw_imul, zw_iand, zw_ior, zw_ixor, zw_ishl, zw_ishr, zw_iushr, zw_idiv, zw_irem, zw_ladd, zw_lsub, zw_lmul, zw_land, zw_ldiv, zw_lrem, zw_lcmp, zw_i2l, zw_l2i, zw_dup, zw_pop, zw_dup2i, zw_goto, zw_if_eq, zw_if_ne, zw_if_lt, zw_if_ge, zw_if_gt, zw_if_le, zw_ic_eq, zw_ic_ne, zw_ic_lt, zw_ic_ge, zw_ic_gt, zw_ic_le, zw_ifnn, zw_ifnnN, zw_tsw, zw_lsw, zw_getf_l, zw_getf_r, zw_getf_i, zw_getf_z, zw_putf_i, zw_putf_z, zw_putf_l, zw_putf_r, zw_iaload, zw_caload, zw_laload, zw_aaload, zw_iastore, zw_castore, zw_lastore, zw_aastore, zw_alen, zw_newa, zw_newq, zw_new, zw_oini, zw_invs, zw_invv, zw_copy, zw_invt, zw_iret, zw_lret, zw_ret, zc_r, zc_a, zk_rvs, zk_cat2, List.getElem?_cons_zero, List.getElem?_cons_succ, Bool.false_eq_true, and_false, false_and, and_true, true_and, reduceIte, Nat.reduceEqDiff, Nat.reduceLT, Nat.reduceAdd, List.cons_append, List.nil_append, Option.toList_some, Option.toList_none, zk_cat_i, zk_cat_r, zk_cat_n, zk_same, Option.some.injEq, Value.int.injEq, Value.long.injEq, eq_self, false_implies, true_implies, zf_1, ho, hP2, zl_X, zc_n10, zc_cl, zc_in, not_true_eq_false, not_false_eq_true]
          refine hZ B_X1_readBoth_52 _ _ _ _ _ _ _ k_X1_readBoth_52 ?_
          simp only [B_X1_readBoth_52, zk_ldi_s, zk_ldl_s, zk_lda_r, zk_lda_a, zk_lda_n, zk_iv_s, zr_nil, zr_cons, zp_0, zp_s, zt_0, zt_s, zt2_0, zt2_s, zw_iconst, zw_bipush, zw_sipush, zw_lconst, zw_ldcs, zw_ldc, zw_ldcw, zw_ldc2, zw_iload_n, zw_lload_n, zw_aload_n, zw_istore_n, zw_lstore_n, zw_astore_n, zw_astoreN_n, zw_iload, zw_lload, zw_aload, zw_istore, zw_lstore, zw_astore, zw_astoreN, zw_iinc, zw_iadd, zw_isub, zw_imul, zw_iand, zw_ior, zw_ixor, zw_ishl, zw_ishr, zw_iushr, zw_idiv, zw_irem, zw_ladd, zw_lsub, zw_lmul, zw_land, zw_ldiv, zw_lrem, zw_lcmp, zw_i2l, zw_l2i, zw_dup, zw_pop, zw_dup2i, zw_goto, zw_if_eq, zw_if_ne, zw_if_lt, zw_if_ge, zw_if_gt, zw_if_le, zw_ic_eq, zw_ic_ne, zw_ic_lt, zw_ic_ge, zw_ic_gt, zw_ic_le, zw_ifnn, zw_ifnnN, zw_tsw, zw_lsw, zw_getf_l, zw_getf_r, zw_getf_i, zw_getf_z, zw_putf_i, zw_putf_z, zw_putf_l, zw_putf_r, zw_iaload, zw_caload, zw_laload, zw_aaload, zw_iastore, zw_castore, zw_lastore, zw_aastore, zw_alen, zw_newa, zw_newq, zw_new, zw_oini, zw_invs, zw_invv, zw_copy, zw_invt, zw_iret, zw_lret, zw_ret, zc_r, zc_a, zk_rvs, zk_cat2, List.getElem?_cons_zero, List.getElem?_cons_succ, Bool.false_eq_true, and_false, false_and, and_true, true_and, reduceIte, Nat.reduceEqDiff, Nat.reduceLT, Nat.reduceAdd, List.cons_append, List.nil_append, Option.toList_some, Option.toList_none, zk_cat_i, zk_cat_r, zk_cat_n, zk_same, Option.some.injEq, Value.int.injEq, Value.long.injEq, eq_self, false_implies, true_implies, zf_1, ho, hP2, zl_X, zc_n10, zc_cl, zc_in, not_true_eq_false, not_false_eq_true]
          rw [← hq]
          exact ⟨Or.inr rfl, rfl, g2, g1, g3, g4⟩
    refine hZ B_X1_readBoth_9 _ _ _ _ _ _ _ k_X1_readBoth_9 ?_
    simp only [B_X1_readBoth_9, zk_ldi_s, zk_ldl_s, zk_lda_r, zk_lda_a, zk_lda_n, zk_iv_s, zr_nil, zr_cons, zp_0, zp_s, zt_0, zt_s, zt2_0, zt2_s, zw_iconst, zw_bipush, zw_sipush, zw_lconst, zw_ldcs, zw_ldc, zw_ldcw, zw_ldc2, zw_iload_n, zw_lload_n, zw_aload_n, zw_istore_n, zw_lstore_n, zw_astore_n, zw_astoreN_n, zw_iload, zw_lload, zw_aload, zw_istore, zw_lstore, zw_astore, zw_astoreN, zw_iinc, zw_iadd, zw_isub, zw_imul, zw_iand, zw_ior, zw_ixor, zw_ishl, zw_ishr, zw_iushr, zw_idiv, zw_irem, zw_ladd, zw_lsub, zw_lmul, zw_land, zw_ldiv, zw_lrem, zw_lcmp, zw_i2l, zw_l2i, zw_dup, zw_pop, zw_dup2i, zw_goto, zw_if_eq, zw_if_ne, zw_if_lt, zw_if_ge, zw_if_gt, zw_if_le, zw_ic_eq, zw_ic_ne, zw_ic_lt, zw_ic_ge, zw_ic_gt, zw_ic_le, zw_ifnn, zw_ifnnN, zw_tsw, zw_lsw, zw_getf_l, zw_getf_r, zw_getf_i, zw_getf_z, zw_putf_i, zw_putf_z, zw_putf_l, zw_putf_r, zw_iaload, zw_caload, zw_laload, zw_aaload, zw_iastore, zw_castore, zw_lastore, zw_aastore, zw_alen, zw_newa, zw_newq, zw_new, zw_oini, zw_invs, zw_invv, zw_copy, zw_invt, zw_iret, zw_lret, zw_ret, zc_r, zc_a, zk_rvs, zk_cat2, List.getElem?_cons_zero, List.getElem?_cons_succ, Bool.false_eq_true, and_false, false_and, and_true, true_and, reduceIte, Nat.reduceEqDiff, Nat.reduceLT, Nat.reduceAdd, List.cons_append, List.nil_append, Option.toList_some, Option.toList_none, zk_cat_i, zk_cat_r, zk_cat_n, zk_same, Option.some.injEq, Value.int.injEq, Value.long.injEq, eq_self, false_implies, true_implies, zf_1, ho, hP2, zl_X, zc_n10, zc_cl, zc_in, not_true_eq_false, not_false_eq_true]
    exact loop 1600 0 p1 c1 M1 (by omega) hres r3 r2 r4 r5 (by omega)
theorem ct_readTest (hJ : zk_JS G) (hn : 154 ≤ n) (hP : zs_X P) {f : Nat → Nat} {T sort qs o D : Nat} (hS : zfS n P qs) (hD : 10 ≤ D) {X : sp_F} (hok : rd_ok T X) (hX : zfC G n L P f T sort qs 26 D o X) : zfC G n L P f T sort qs 25 (D + 1) o (fun p => rd_bind (X p) (fun p1 cs => rd_lp f T 324 324 (-11) (-11) X 1600 p1 cs)) := by
  intro M sz p hpre
  have hS2 := hS
  obtain ⟨q1, q2, q3, q4, q5, q6, q7⟩ := hS
  obtain ⟨hat, h3, h4, h5, hsz⟩ := hpre
  have hT := hat.1.2.1
  show zk_C G (D + 1) 25 [.ref 8] n M L P n (fun r M' L' P' => L' = L ∧ P' = P ∧ zfR M M' f T qs sz o r (rd_bind (X p) (fun p1 cs => rd_lp f T 324 324 (-11) (-11) X 1600 p1 cs)))
  generalize hres : rd_bind (X p) (fun p1 cs => rd_lp f T 324 324 (-11) (-11) X 1600 p1 cs) = R
  refine zk_meth (ow := 1) (kind := 1) (k := 0) (nL := 2) (ct := false) (l0 := [.ref 8, zk_un]) (by decide +kernel) (fun h => by cases h) (by decide +kernel) (by decide) (by decide) (fun h => absurd h (by decide)) (Nat.le_of_ble_eq_true rfl) rfl (by omega) (fun Z hZ => ?_)
  have ho := zo_X hn
  have hP2 := hP
  unfold zs_X at hP2
  refine hZ B_X1_readTest_0 _ _ _ _ _ _ _ k_X1_readTest_0 ?_
  simp only [B_X1_readTest_0, zk_ldi_s, zk_ldl_s, zk_lda_r, zk_lda_a, zk_lda_n, zk_iv_s, zr_nil, zr_cons, zp_0, zp_s, zt_0, zt_s, zt2_0, zt2_s, zw_iconst, zw_bipush, zw_sipush, zw_lconst, zw_ldcs, zw_ldc, zw_ldcw, zw_ldc2, zw_iload_n, zw_lload_n, zw_aload_n, zw_istore_n, zw_lstore_n, zw_astore_n, zw_astoreN_n, zw_iload, zw_lload, zw_aload, zw_istore, zw_lstore, zw_astore, zw_astoreN, zw_iinc, zw_iadd, zw_isub, zw_imul, zw_iand, zw_ior, zw_ixor, zw_ishl, zw_ishr, zw_iushr, zw_idiv, zw_irem, zw_ladd, zw_lsub, zw_lmul, zw_land, zw_ldiv, zw_lrem, zw_lcmp, zw_i2l, zw_l2i, zw_dup, zw_pop, zw_dup2i, zw_goto, zw_if_eq, zw_if_ne, zw_if_lt, zw_if_ge, zw_if_gt, zw_if_le, zw_ic_eq, zw_ic_ne, zw_ic_lt, zw_ic_ge, zw_ic_gt, zw_ic_le, zw_ifnn, zw_ifnnN, zw_tsw, zw_lsw, zw_getf_l, zw_getf_r, zw_getf_i, zw_getf_z, zw_putf_i, zw_putf_z, zw_putf_l, zw_putf_r, zw_iaload, zw_caload, zw_laload, zw_aaload, zw_iastore, zw_castore, zw_lastore, zw_aastore, zw_alen, zw_newa, zw_newq, zw_new, zw_oini, zw_invs, zw_invv, zw_copy, zw_invt, zw_iret, zw_lret, zw_ret, zc_r, zc_a, zk_rvs, zk_cat2, List.getElem?_cons_zero, List.getElem?_cons_succ, Bool.false_eq_true, and_false, false_and, and_true, true_and, reduceIte, Nat.reduceEqDiff, Nat.reduceLT, Nat.reduceAdd, List.cons_append, List.nil_append, Option.toList_some, Option.toList_none, zk_cat_i, zk_cat_r, zk_cat_n, zk_same, Option.some.injEq, Value.int.injEq, Value.long.injEq, eq_self, false_implies, true_implies, zf_1, ho, hP2, zl_X, zc_n10, zc_cl, zc_in, not_true_eq_false, not_false_eq_true]
  refine zk_callI (hX M sz p ⟨hat, h3, h4, h5, hsz⟩) (by first | decide | omega) (Nat.le_refl _) (Nat.le_of_ble_eq_true rfl) (fun r M1 L9 P9 hpost => ?_)
  obtain ⟨hL9, hP9, hR⟩ := hpost
  have hL8 := hL9.symm
  have hP8 := hP9.symm
  subst hL8
  subst hP8
  cases hx : X p with
  | inl e =>
    obtain ⟨k, pl⟩ := e
    rw [hx] at hR hres
    obtain ⟨rfl, r2, r3, r4⟩ := hR
    simp only [zk_ldi_s, zk_ldl_s, zk_lda_r, zk_lda_a, zk_lda_n, zk_iv_s, zr_nil, zr_cons, zp_0, zp_s, zt_0, zt_s, zt2_0, zt2_s, zw_iconst, zw_bipush, zw_sipush, zw_lconst, zw_ldcs, zw_ldc, zw_ldcw, zw_ldc2, zw_iload_n, zw_lload_n, zw_aload_n, zw_istore_n, zw_lstore_n, zw_astore_n, zw_astoreN_n, zw_iload, zw_lload, zw_aload, zw_istore, zw_lstore, zw_astore, zw_astoreN, zw_iinc, zw_iadd, zw_isub, zw_imul, zw_iand, zw_ior, zw_ixor, zw_ishl, zw_ishr, zw_iushr, zw_idiv, zw_irem, zw_ladd, zw_lsub, zw_lmul, zw_land, zw_ldiv, zw_lrem, zw_lcmp, zw_i2l, zw_l2i, zw_dup, zw_pop, zw_dup2i, zw_goto, zw_if_eq, zw_if_ne, zw_if_lt, zw_if_ge, zw_if_gt, zw_if_le, zw_ic_eq, zw_ic_ne, zw_ic_lt, zw_ic_ge, zw_ic_gt, zw_ic_le, zw_ifnn, zw_ifnnN, zw_tsw, zw_lsw, zw_getf_l, zw_getf_r, zw_getf_i, zw_getf_z, zw_putf_i, zw_putf_z, zw_putf_l, zw_putf_r, zw_iaload, zw_caload, zw_laload, zw_aaload, zw_iastore, zw_castore, zw_lastore, zw_aastore, zw_alen, zw_newa, zw_newq, zw_new, zw_oini, zw_invs, zw_invv, zw_copy, zw_invt, zw_iret, zw_lret, zw_ret, zc_r, zc_a, zk_rvs, zk_cat2, List.getElem?_cons_zero, List.getElem?_cons_succ, Bool.false_eq_true, and_false, false_and, and_true, true_and, reduceIte, Nat.reduceEqDiff, Nat.reduceLT, Nat.reduceAdd, List.cons_append, List.nil_append, Option.toList_some, Option.toList_none, zk_cat_i, zk_cat_r, zk_cat_n, zk_same, Option.some.injEq, Value.int.injEq, Value.long.injEq, eq_self, false_implies, true_implies, zf_1, ho, hP2, zl_X, zc_n10, zc_cl, zc_in, not_true_eq_false, not_false_eq_true]
    rw [← hres]
    exact ⟨Or.inl rfl, rfl, r2, r3, r4⟩
  | inr y =>
    obtain ⟨p1, c1⟩ := y
    rw [hx] at hR hres
    obtain ⟨rfl, r2, r3, r4, r5⟩ := hR
    simp only [rd_bind] at hres
    have hok1 := hok _ _ _ hat.2.2.1 hx
    simp only [zk_ldi_s, zk_ldl_s, zk_lda_r, zk_lda_a, zk_lda_n, zk_iv_s, zr_nil, zr_cons, zp_0, zp_s, zt_0, zt_s, zt2_0, zt2_s, zw_iconst, zw_bipush, zw_sipush, zw_lconst, zw_ldcs, zw_ldc, zw_ldcw, zw_ldc2, zw_iload_n, zw_lload_n, zw_aload_n, zw_istore_n, zw_lstore_n, zw_astore_n, zw_astoreN_n, zw_iload, zw_lload, zw_aload, zw_istore, zw_lstore, zw_astore, zw_astoreN, zw_iinc, zw_iadd, zw_isub, zw_imul, zw_iand, zw_ior, zw_ixor, zw_ishl, zw_ishr, zw_iushr, zw_idiv, zw_irem, zw_ladd, zw_lsub, zw_lmul, zw_land, zw_ldiv, zw_lrem, zw_lcmp, zw_i2l, zw_l2i, zw_dup, zw_pop, zw_dup2i, zw_goto, zw_if_eq, zw_if_ne, zw_if_lt, zw_if_ge, zw_if_gt, zw_if_le, zw_ic_eq, zw_ic_ne, zw_ic_lt, zw_ic_ge, zw_ic_gt, zw_ic_le, zw_ifnn, zw_ifnnN, zw_tsw, zw_lsw, zw_getf_l, zw_getf_r, zw_getf_i, zw_getf_z, zw_putf_i, zw_putf_z, zw_putf_l, zw_putf_r, zw_iaload, zw_caload, zw_laload, zw_aaload, zw_iastore, zw_castore, zw_lastore, zw_aastore, zw_alen, zw_newa, zw_newq, zw_new, zw_oini, zw_invs, zw_invv, zw_copy, zw_invt, zw_iret, zw_lret, zw_ret, zc_r, zc_a, zk_rvs, zk_cat2, List.getElem?_cons_zero, List.getElem?_cons_succ, Bool.false_eq_true, and_false, false_and, and_true, true_and, reduceIte, Nat.reduceEqDiff, Nat.reduceLT, Nat.reduceAdd, List.cons_append, List.nil_append, Option.toList_some, Option.toList_none, zk_cat_i, zk_cat_r, zk_cat_n, zk_same, Option.some.injEq, Value.int.injEq, Value.long.injEq, eq_self, false_implies, true_implies, zf_1, ho, hP2, zl_X, zc_n10, zc_cl, zc_in, not_true_eq_false, not_false_eq_true]
    have loop : ∀ (j i p1 : Nat) (acc : List Int) (M1 : zk_MI), i + j = 1600 → rd_lp f T 324 324 (-11) (-11) X j p1 acc = R → zfG M M1 qs sz acc → zt_at M1 f T p1 → M1 8 5 = nI o → M1 7 7 = M 7 7 → sz + acc.length ≤ p1 → Z 11 [.ref 8, .int (nI i)] [] n M1 L P := by
      intro j
      induction j with
      | zero =>
        intro i p1 acc M1 hi hq g1 g2 g3 g4 g5
        obtain rfl : i = 1600 := by omega
        refine hZ B_X1_readTest_11 _ _ _ _ _ _ _ k_X1_readTest_11 ?_
        simp only [B_X1_readTest_11, zk_ldi_s, zk_ldl_s, zk_lda_r, zk_lda_a, zk_lda_n, zk_iv_s, zr_nil, zr_cons, zp_0, zp_s, zt_0, zt_s, zt2_0, zt2_s, zw_iconst, zw_bipush, zw_sipush, zw_lconst, zw_ldcs, zw_ldc, zw_ldcw, zw_ldc2, zw_iload_n, zw_lload_n, zw_aload_n, zw_istore_n, zw_lstore_n, zw_astore_n, zw_astoreN_n, zw_iload, zw_lload, zw_aload, zw_istore, zw_lstore, zw_astore, zw_astoreN, zw_iinc, zw_iadd, zw_isub, zw_imul, zw_iand, zw_ior, zw_ixor, zw_ishl, zw_ishr, zw_iushr, zw_idiv, zw_irem, zw_ladd, zw_lsub, zw_lmul, zw_land, zw_ldiv, zw_lrem, zw_lcmp, zw_i2l, zw_l2i, zw_dup, zw_pop, zw_dup2i, zw_goto, zw_if_eq, zw_if_ne, zw_if_lt, zw_if_ge, zw_if_gt, zw_if_le, zw_ic_eq, zw_ic_ne, zw_ic_lt, zw_ic_ge, zw_ic_gt, zw_ic_le, zw_ifnn, zw_ifnnN, zw_tsw, zw_lsw, zw_getf_l, zw_getf_r, zw_getf_i, zw_getf_z, zw_putf_i, zw_putf_z, zw_putf_l, zw_putf_r, zw_iaload, zw_caload, zw_laload, zw_aaload, zw_iastore, zw_castore, zw_lastore, zw_aastore, zw_alen, zw_newa, zw_newq, zw_new, zw_oini, zw_invs, zw_invv, zw_copy, zw_invt, zw_iret, zw_lret, zw_ret, zc_r, zc_a, zk_rvs, zk_cat2, List.getElem?_cons_zero, List.getElem?_cons_succ, Bool.false_eq_true, and_false, false_and, and_true, true_and, reduceIte, Nat.reduceEqDiff, Nat.reduceLT, Nat.reduceAdd, List.cons_append, List.nil_append, Option.toList_some, Option.toList_none, zk_cat_i, zk_cat_r, zk_cat_n, zk_same, Option.some.injEq, Value.int.injEq, Value.long.injEq, eq_self, false_implies, true_implies, zf_1, ho, hP2, zl_X, zc_n10, zc_cl, zc_in, not_true_eq_false, not_false_eq_true, (show ((1600 : Int32) ≤ nI 1600) = True from by decide)]
        refine hZ B_X1_readTest_52 _ _ _ _ _ _ _ k_X1_readTest_52 ?_
        simp only [B_X1_readTest_52, zk_ldi_s, zk_ldl_s, zk_lda_r, zk_lda_a, zk_lda_n, zk_iv_s, zr_nil, zr_cons, zp_0, zp_s, zt_0, zt_s, zt2_0, zt2_s, zw_iconst, zw_bipush, zw_sipush, zw_lconst, zw_ldcs, zw_ldc, zw_ldcw, zw_ldc2, zw_iload_n, zw_lload_n, zw_aload_n, zw_istore_n, zw_lstore_n, zw_astore_n, zw_astoreN_n, zw_iload, zw_lload, zw_aload, zw_istore, zw_lstore, zw_astore, zw_astoreN, zw_iinc, zw_iadd, zw_isub, zw_imul, zw_iand, zw_ior, zw_ixor, zw_ishl, zw_ishr, zw_iushr, zw_idiv, zw_irem, zw_ladd, zw_lsub, zw_lmul, zw_land, zw_ldiv, zw_lrem, zw_lcmp, zw_i2l, zw_l2i, zw_dup, zw_pop, zw_dup2i, zw_goto, zw_if_eq, zw_if_ne, zw_if_lt, zw_if_ge, zw_if_gt, zw_if_le, zw_ic_eq, zw_ic_ne, zw_ic_lt, zw_ic_ge, zw_ic_gt, zw_ic_le, zw_ifnn, zw_ifnnN, zw_tsw, zw_lsw, zw_getf_l, zw_getf_r, zw_getf_i, zw_getf_z, zw_putf_i, zw_putf_z, zw_putf_l, zw_putf_r, zw_iaload, zw_caload, zw_laload, zw_aaload, zw_iastore, zw_castore, zw_lastore, zw_aastore, zw_alen, zw_newa, zw_newq, zw_new, zw_oini, zw_invs, zw_invv, zw_copy, zw_invt, zw_iret, zw_lret, zw_ret, zc_r, zc_a, zk_rvs, zk_cat2, List.getElem?_cons_zero, List.getElem?_cons_succ, Bool.false_eq_true, and_false, false_and, and_true, true_and, reduceIte, Nat.reduceEqDiff, Nat.reduceLT, Nat.reduceAdd, List.cons_append, List.nil_append, Option.toList_some, Option.toList_none, zk_cat_i, zk_cat_r, zk_cat_n, zk_same, Option.some.injEq, Value.int.injEq, Value.long.injEq, eq_self, false_implies, true_implies, zf_1, ho, hP2, zl_X, zc_n10, zc_cl, zc_in, not_true_eq_false, not_false_eq_true]
        rw [← hq]
        exact ⟨Or.inr rfl, rfl, g2, g1, g3, g4⟩
      | succ j ih =>
        intro i p1 acc M1 hi hq g1 g2 g3 g4 g5
        have e1 : ((1600 : Int32) ≤ nI i) = False := by rw [fa_lit 1600, zn_le (by omega) (by omega)]; simp; omega
        simp only [rd_lp, ite_self, or_self] at hq
        refine hZ B_X1_readTest_11 _ _ _ _ _ _ _ k_X1_readTest_11 ?_
        simp only [B_X1_readTest_11, zk_ldi_s, zk_ldl_s, zk_lda_r, zk_lda_a, zk_lda_n, zk_iv_s, zr_nil, zr_cons, zp_0, zp_s, zt_0, zt_s, zt2_0, zt2_s, zw_iconst, zw_bipush, zw_sipush, zw_lconst, zw_ldcs, zw_ldc, zw_ldcw, zw_ldc2, zw_iload_n, zw_lload_n, zw_aload_n, zw_istore_n, zw_lstore_n, zw_astore_n, zw_astoreN_n, zw_iload, zw_lload, zw_aload, zw_istore, zw_lstore, zw_astore, zw_astoreN, zw_iinc, zw_iadd, zw_isub, zw_imul, zw_iand, zw_ior, zw_ixor, zw_ishl, zw_ishr, zw_iushr, zw_idiv, zw_irem, zw_ladd, zw_lsub, zw_lmul, zw_land, zw_ldiv, zw_lrem, zw_lcmp, zw_i2l, zw_l2i, zw_dup, zw_pop, zw_dup2i, zw_goto, zw_if_eq, zw_if_ne, zw_if_lt, zw_if_ge, zw_if_gt, zw_if_le, zw_ic_eq, zw_ic_ne, zw_ic_lt, zw_ic_ge, zw_ic_gt, zw_ic_le, zw_ifnn, zw_ifnnN, zw_tsw, zw_lsw, zw_getf_l, zw_getf_r, zw_getf_i, zw_getf_z, zw_putf_i, zw_putf_z, zw_putf_l, zw_putf_r, zw_iaload, zw_caload, zw_laload, zw_aaload, zw_iastore, zw_castore, zw_lastore, zw_aastore, zw_alen, zw_newa, zw_newq, zw_new, zw_oini, zw_invs, zw_invv, zw_copy, zw_invt, zw_iret, zw_lret, zw_ret, zc_r, zc_a, zk_rvs, zk_cat2, List.getElem?_cons_zero, List.getElem?_cons_succ, Bool.false_eq_true, and_false, false_and, and_true, true_and, reduceIte, Nat.reduceEqDiff, Nat.reduceLT, Nat.reduceAdd, List.cons_append, List.nil_append, Option.toList_some, Option.toList_none, zk_cat_i, zk_cat_r, zk_cat_n, zk_same, Option.some.injEq, Value.int.injEq, Value.long.injEq, eq_self, false_implies, true_implies, zf_1, ho, hP2, zl_X, zc_n10, zc_cl, zc_in, not_true_eq_false, not_false_eq_true, e1]
        rw [show (324 : Int32) = iI 324 from by decide]
        refine zk_callI (ct_skip hJ hn hP g2 324 (by decide) (by decide)) (by first | decide | omega) (Nat.le_refl _) (Nat.le_of_ble_eq_true rfl) (fun r M2 L9 P9 hpost => ?_)
        obtain ⟨hL9, hP9, b1, b2⟩ := hpost
        have hL8 := hL9.symm
        have hP8 := hP9.symm
        subst hL8
        subst hP8
        by_cases hk : tkK f T p1 = 324
        · obtain ⟨rfl, k1, k2, k3⟩ := b2 hk
          rw [if_pos hk] at hq
          have hpos := tkK_pos (f := f) g2.2.2.1 (by rw [hk]; decide)
          simp only [zk_ldi_s, zk_ldl_s, zk_lda_r, zk_lda_a, zk_lda_n, zk_iv_s, zr_nil, zr_cons, zp_0, zp_s, zt_0, zt_s, zt2_0, zt2_s, zw_iconst, zw_bipush, zw_sipush, zw_lconst, zw_ldcs, zw_ldc, zw_ldcw, zw_ldc2, zw_iload_n, zw_lload_n, zw_aload_n, zw_istore_n, zw_lstore_n, zw_astore_n, zw_astoreN_n, zw_iload, zw_lload, zw_aload, zw_istore, zw_lstore, zw_astore, zw_astoreN, zw_iinc, zw_iadd, zw_isub, zw_imul, zw_iand, zw_ior, zw_ixor, zw_ishl, zw_ishr, zw_iushr, zw_idiv, zw_irem, zw_ladd, zw_lsub, zw_lmul, zw_land, zw_ldiv, zw_lrem, zw_lcmp, zw_i2l, zw_l2i, zw_dup, zw_pop, zw_dup2i, zw_goto, zw_if_eq, zw_if_ne, zw_if_lt, zw_if_ge, zw_if_gt, zw_if_le, zw_ic_eq, zw_ic_ne, zw_ic_lt, zw_ic_ge, zw_ic_gt, zw_ic_le, zw_ifnn, zw_ifnnN, zw_tsw, zw_lsw, zw_getf_l, zw_getf_r, zw_getf_i, zw_getf_z, zw_putf_i, zw_putf_z, zw_putf_l, zw_putf_r, zw_iaload, zw_caload, zw_laload, zw_aaload, zw_iastore, zw_castore, zw_lastore, zw_aastore, zw_alen, zw_newa, zw_newq, zw_new, zw_oini, zw_invs, zw_invv, zw_copy, zw_invt, zw_iret, zw_lret, zw_ret, zc_r, zc_a, zk_rvs, zk_cat2, List.getElem?_cons_zero, List.getElem?_cons_succ, Bool.false_eq_true, and_false, false_and, and_true, true_and, reduceIte, Nat.reduceEqDiff, Nat.reduceLT, Nat.reduceAdd, List.cons_append, List.nil_append, Option.toList_some, Option.toList_none, zk_cat_i, zk_cat_r, zk_cat_n, zk_same, Option.some.injEq, Value.int.injEq, Value.long.injEq, eq_self, false_implies, true_implies, zf_1, ho, hP2, zl_X, zc_n10, zc_cl, zc_in, not_true_eq_false, not_false_eq_true]
          have w2 : zfG M M2 qs sz acc := by
            have := zfG_tr g1 (zf_nx q6 g1.2.2 k2)
            rw [List.append_nil] at this
            exact this
          refine zk_callI (hX M2 (sz + acc.length) (tkE f T p1) ⟨k1, w2.2.2, by rw [w2.1.2.1 4 (by decide) (by decide)]; exact h4, by rw [k2 8 (by decide)]; exact g3, by omega⟩) (by first | decide | omega) (Nat.le_refl _) (Nat.le_of_ble_eq_true rfl) (fun r M3 L9 P9 hpost => ?_)
          obtain ⟨hL9, hP9, hR3⟩ := hpost
          have hL8 := hL9.symm
          have hP8 := hP9.symm
          subst hL8
          subst hP8
          cases hx3 : X (tkE f T p1) with
          | inl e =>
            obtain ⟨k, pl⟩ := e
            rw [hx3] at hR3 hq
            obtain ⟨rfl, s2, s3, s4⟩ := hR3
            simp only [zk_ldi_s, zk_ldl_s, zk_lda_r, zk_lda_a, zk_lda_n, zk_iv_s, zr_nil, zr_cons, zp_0, zp_s, zt_0, zt_s, zt2_0, zt2_s, zw_iconst, zw_bipush, zw_sipush, zw_lconst, zw_ldcs, zw_ldc, zw_ldcw, zw_ldc2, zw_iload_n, zw_lload_n, zw_aload_n, zw_istore_n, zw_lstore_n, zw_astore_n, zw_astoreN_n, zw_iload, zw_lload, zw_aload, zw_istore, zw_lstore, zw_astore, zw_astoreN, zw_iinc, zw_iadd, zw_isub, zw_imul, zw_iand, zw_ior, zw_ixor, zw_ishl, zw_ishr, zw_iushr, zw_idiv, zw_irem, zw_ladd, zw_lsub, zw_lmul, zw_land, zw_ldiv, zw_lrem, zw_lcmp, zw_i2l, zw_l2i, zw_dup, zw_pop, zw_dup2i, zw_goto, zw_if_eq, zw_if_ne, zw_if_lt, zw_if_ge, zw_if_gt, zw_if_le, zw_ic_eq, zw_ic_ne, zw_ic_lt, zw_ic_ge, zw_ic_gt, zw_ic_le, zw_ifnn, zw_ifnnN, zw_tsw, zw_lsw, zw_getf_l, zw_getf_r, zw_getf_i, zw_getf_z, zw_putf_i, zw_putf_z, zw_putf_l, zw_putf_r, zw_iaload, zw_caload, zw_laload, zw_aaload, zw_iastore, zw_castore, zw_lastore, zw_aastore, zw_alen, zw_newa, zw_newq, zw_new, zw_oini, zw_invs, zw_invv, zw_copy, zw_invt, zw_iret, zw_lret, zw_ret, zc_r, zc_a, zk_rvs, zk_cat2, List.getElem?_cons_zero, List.getElem?_cons_succ, Bool.false_eq_true, and_false, false_and, and_true, true_and, reduceIte, Nat.reduceEqDiff, Nat.reduceLT, Nat.reduceAdd, List.cons_append, List.nil_append, Option.toList_some, Option.toList_none, zk_cat_i, zk_cat_r, zk_cat_n, zk_same, Option.some.injEq, Value.int.injEq, Value.long.injEq, eq_self, false_implies, true_implies, zf_1, ho, hP2, zl_X, zc_n10, zc_cl, zc_in, not_true_eq_false, not_false_eq_true]
            rw [← hq]
            exact ⟨Or.inl rfl, rfl, s2, s3, zfF_tr w2.1 s4 (by omega)⟩
          | inr y =>
            obtain ⟨p3, c3⟩ := y
            rw [hx3] at hR3 hq
            obtain ⟨rfl, s2, s3, s4, s5⟩ := hR3
            simp only [rd_bind] at hq
            have hok3 := hok _ _ _ hpos.2.1 hx3
            have w3 := zfG_tr w2 s3
            have w33 : M3 8 3 = nI (sz + (acc ++ c3).length) := w3.2.2
            have hl3 : (acc ++ c3).length = acc.length + c3.length := List.length_append
            simp only [zk_ldi_s, zk_ldl_s, zk_lda_r, zk_lda_a, zk_lda_n, zk_iv_s, zr_nil, zr_cons, zp_0, zp_s, zt_0, zt_s, zt2_0, zt2_s, zw_iconst, zw_bipush, zw_sipush, zw_lconst, zw_ldcs, zw_ldc, zw_ldcw, zw_ldc2, zw_iload_n, zw_lload_n, zw_aload_n, zw_istore_n, zw_lstore_n, zw_astore_n, zw_astoreN_n, zw_iload, zw_lload, zw_aload, zw_istore, zw_lstore, zw_astore, zw_astoreN, zw_iinc, zw_iadd, zw_isub, zw_imul, zw_iand, zw_ior, zw_ixor, zw_ishl, zw_ishr, zw_iushr, zw_idiv, zw_irem, zw_ladd, zw_lsub, zw_lmul, zw_land, zw_ldiv, zw_lrem, zw_lcmp, zw_i2l, zw_l2i, zw_dup, zw_pop, zw_dup2i, zw_goto, zw_if_eq, zw_if_ne, zw_if_lt, zw_if_ge, zw_if_gt, zw_if_le, zw_ic_eq, zw_ic_ne, zw_ic_lt, zw_ic_ge, zw_ic_gt, zw_ic_le, zw_ifnn, zw_ifnnN, zw_tsw, zw_lsw, zw_getf_l, zw_getf_r, zw_getf_i, zw_getf_z, zw_putf_i, zw_putf_z, zw_putf_l, zw_putf_r, zw_iaload, zw_caload, zw_laload, zw_aaload, zw_iastore, zw_castore, zw_lastore, zw_aastore, zw_alen, zw_newa, zw_newq, zw_new, zw_oini, zw_invs, zw_invv, zw_copy, zw_invt, zw_iret, zw_lret, zw_ret, zc_r, zc_a, zk_rvs, zk_cat2, List.getElem?_cons_zero, List.getElem?_cons_succ, Bool.false_eq_true, and_false, false_and, and_true, true_and, reduceIte, Nat.reduceEqDiff, Nat.reduceLT, Nat.reduceAdd, List.cons_append, List.nil_append, Option.toList_some, Option.toList_none, zk_cat_i, zk_cat_r, zk_cat_n, zk_same, Option.some.injEq, Value.int.injEq, Value.long.injEq, eq_self, false_implies, true_implies, zf_1, ho, hP2, zl_X, zc_n10, zc_cl, zc_in, not_true_eq_false, not_false_eq_true]
            refine hZ B_X1_readTest_40 _ _ _ _ _ _ _ k_X1_readTest_40 ?_
            simp only [B_X1_readTest_40, zk_ldi_s, zk_ldl_s, zk_lda_r, zk_lda_a, zk_lda_n, zk_iv_s, zr_nil, zr_cons, zp_0, zp_s, zt_0, zt_s, zt2_0, zt2_s, zw_iconst, zw_bipush, zw_sipush, zw_lconst, zw_ldcs, zw_ldc, zw_ldcw, zw_ldc2, zw_iload_n, zw_lload_n, zw_aload_n, zw_istore_n, zw_lstore_n, zw_astore_n, zw_astoreN_n, zw_iload, zw_lload, zw_aload, zw_istore, zw_lstore, zw_astore, zw_astoreN, zw_iinc, zw_iadd, zw_isub, zw_imul, zw_iand, zw_ior, zw_ixor, zw_ishl, zw_ishr, zw_iushr, zw_idiv, zw_irem, zw_ladd, zw_lsub, zw_lmul, zw_land, zw_ldiv, zw_lrem, zw_lcmp, zw_i2l, zw_l2i, zw_dup, zw_pop, zw_dup2i, zw_goto, zw_if_eq, zw_if_ne, zw_if_lt, zw_if_ge, zw_if_gt, zw_if_le, zw_ic_eq, zw_ic_ne, zw_ic_lt, zw_ic_ge, zw_ic_gt, zw_ic_le, zw_ifnn, zw_ifnnN, zw_tsw, zw_lsw, zw_getf_l, zw_getf_r, zw_getf_i, zw_getf_z, zw_putf_i, zw_putf_z, zw_putf_l, zw_putf_r, zw_iaload, zw_caload, zw_laload, zw_aaload, zw_iastore, zw_castore, zw_lastore, zw_aastore, zw_alen, zw_newa, zw_newq, zw_new, zw_oini, zw_invs, zw_invv, zw_copy, zw_invt, zw_iret, zw_lret, zw_ret, zc_r, zc_a, zk_rvs, zk_cat2, List.getElem?_cons_zero, List.getElem?_cons_succ, Bool.false_eq_true, and_false, false_and, and_true, true_and, reduceIte, Nat.reduceEqDiff, Nat.reduceLT, Nat.reduceAdd, List.cons_append, List.nil_append, Option.toList_some, Option.toList_none, zk_cat_i, zk_cat_r, zk_cat_n, zk_same, Option.some.injEq, Value.int.injEq, Value.long.injEq, eq_self, false_implies, true_implies, zf_1, ho, hP2, zl_X, zc_n10, zc_cl, zc_in, not_true_eq_false, not_false_eq_true]
            rw [show (-11 : Int32) = iI (-11) from by decide]
            refine zk_callI (ct_put hn hP hS2 w33 (by omega) (-11)) (by first | decide | omega) (Nat.le_refl _) (Nat.le_of_ble_eq_true rfl) (fun r M4 L9 P9 hpost => ?_)
            obtain ⟨hr9, hL9, hP9, t1, t2, t3, t4, t5⟩ := hpost
            subst hr9
            have hL8 := hL9.symm
            have hP8 := hP9.symm
            clear hL9 hP9
            subst hL8
            subst hP8
            simp only [zk_ldi_s, zk_ldl_s, zk_lda_r, zk_lda_a, zk_lda_n, zk_iv_s, zr_nil, zr_cons, zp_0, zp_s, zt_0, zt_s, zt2_0, zt2_s, zw_iconst, zw_bipush, zw_sipush, zw_lconst, zw_ldcs, zw_ldc, zw_ldcw, zw_ldc2, zw_iload_n, zw_lload_n, zw_aload_n, zw_istore_n, zw_lstore_n, zw_astore_n, zw_astoreN_n, zw_iload, zw_lload, zw_aload, zw_istore, zw_lstore, zw_astore, zw_astoreN, zw_iinc, zw_iadd, zw_isub, zw_imul, zw_iand, zw_ior, zw_ixor, zw_ishl, zw_ishr, zw_iushr, zw_idiv, zw_irem, zw_ladd, zw_lsub, zw_lmul, zw_land, zw_ldiv, zw_lrem, zw_lcmp, zw_i2l, zw_l2i, zw_dup, zw_pop, zw_dup2i, zw_goto, zw_if_eq, zw_if_ne, zw_if_lt, zw_if_ge, zw_if_gt, zw_if_le, zw_ic_eq, zw_ic_ne, zw_ic_lt, zw_ic_ge, zw_ic_gt, zw_ic_le, zw_ifnn, zw_ifnnN, zw_tsw, zw_lsw, zw_getf_l, zw_getf_r, zw_getf_i, zw_getf_z, zw_putf_i, zw_putf_z, zw_putf_l, zw_putf_r, zw_iaload, zw_caload, zw_laload, zw_aaload, zw_iastore, zw_castore, zw_lastore, zw_aastore, zw_alen, zw_newa, zw_newq, zw_new, zw_oini, zw_invs, zw_invv, zw_copy, zw_invt, zw_iret, zw_lret, zw_ret, zc_r, zc_a, zk_rvs, zk_cat2, List.getElem?_cons_zero, List.getElem?_cons_succ, Bool.false_eq_true, and_false, false_and, and_true, true_and, reduceIte, Nat.reduceEqDiff, Nat.reduceLT, Nat.reduceAdd, List.cons_append, List.nil_append, Option.toList_some, Option.toList_none, zk_cat_i, zk_cat_r, zk_cat_n, zk_same, Option.some.injEq, Value.int.injEq, Value.long.injEq, eq_self, false_implies, true_implies, zf_1, ho, hP2, zl_X, zc_n10, zc_cl, zc_in, not_true_eq_false, not_false_eq_true, nI_1]
            refine ih (i + 1) p3 (acc ++ c3 ++ [-11]) M4 (by omega) hq (zfG_tr w3 t1) (zt_at_cg s2 t4 t5 t2) (by rw [t3]; exact s4) ?_ ?_
            · rw [t2, s5, k3 7 (by decide)]; exact g4
            · rw [List.length_append, hl3]
              show sz + (acc.length + c3.length + 1) ≤ p3
              omega
        · obtain ⟨rfl, hMM⟩ := b1 hk
          have hM8 := hMM.symm
          subst hM8
          rw [if_neg hk] at hq
          simp only [zk_ldi_s, zk_ldl_s, zk_lda_r, zk_lda_a, zk_lda_n, zk_iv_s, zr_nil, zr_cons, zp_0, zp_s, zt_0, zt_s, zt2_0, zt2_s, zw_iconst, zw_bipush, zw_sipush, zw_lconst, zw_ldcs, zw_ldc, zw_ldcw, zw_ldc2, zw_iload_n, zw_lload_n, zw_aload_n, zw_istore_n, zw_lstore_n, zw_astore_n, zw_astoreN_n, zw_iload, zw_lload, zw_aload, zw_istore, zw_lstore, zw_astore, zw_astoreN, zw_iinc, zw_iadd, zw_isub, zw_imul, zw_iand, zw_ior, zw_ixor, zw_ishl, zw_ishr, zw_iushr, zw_idiv, zw_irem, zw_ladd, zw_lsub, zw_lmul, zw_land, zw_ldiv, zw_lrem, zw_lcmp, zw_i2l, zw_l2i, zw_dup, zw_pop, zw_dup2i, zw_goto, zw_if_eq, zw_if_ne, zw_if_lt, zw_if_ge, zw_if_gt, zw_if_le, zw_ic_eq, zw_ic_ne, zw_ic_lt, zw_ic_ge, zw_ic_gt, zw_ic_le, zw_ifnn, zw_ifnnN, zw_tsw, zw_lsw, zw_getf_l, zw_getf_r, zw_getf_i, zw_getf_z, zw_putf_i, zw_putf_z, zw_putf_l, zw_putf_r, zw_iaload, zw_caload, zw_laload, zw_aaload, zw_iastore, zw_castore, zw_lastore, zw_aastore, zw_alen, zw_newa, zw_newq, zw_new, zw_oini, zw_invs, zw_invv, zw_copy, zw_invt, zw_iret, zw_lret, zw_ret, zc_r, zc_a, zk_rvs, zk_cat2, List.getElem?_cons_zero, List.getElem?_cons_succ, Bool.false_eq_true, and_false, false_and, and_true, true_and, reduceIte, Nat.reduceEqDiff, Nat.reduceLT, Nat.reduceAdd, List.cons_append, List.nil_append, Option.toList_some, Option.toList_none, zk_cat_i, zk_cat_r, zk_cat_n, zk_same, Option.some.injEq, Value.int.injEq, Value.long.injEq, eq_self, false_implies, true_implies, zf_1, ho, hP2, zl_X, zc_n10, zc_cl, zc_in, not_true_eq_false, not_false_eq_true]
          refine hZ B_X1_readTest_52 _ _ _ _ _ _ _ k_X1_readTest_52 ?_
          simp only [B_X1_readTest_52, zk_ldi_s, zk_ldl_s, zk_lda_r, zk_lda_a, zk_lda_n, zk_iv_s, zr_nil, zr_cons, zp_0, zp_s, zt_0, zt_s, zt2_0, zt2_s, zw_iconst, zw_bipush, zw_sipush, zw_lconst, zw_ldcs, zw_ldc, zw_ldcw, zw_ldc2, zw_iload_n, zw_lload_n, zw_aload_n, zw_istore_n, zw_lstore_n, zw_astore_n, zw_astoreN_n, zw_iload, zw_lload, zw_aload, zw_istore, zw_lstore, zw_astore, zw_astoreN, zw_iinc, zw_iadd, zw_isub, zw_imul, zw_iand, zw_ior, zw_ixor, zw_ishl, zw_ishr, zw_iushr, zw_idiv, zw_irem, zw_ladd, zw_lsub, zw_lmul, zw_land, zw_ldiv, zw_lrem, zw_lcmp, zw_i2l, zw_l2i, zw_dup, zw_pop, zw_dup2i, zw_goto, zw_if_eq, zw_if_ne, zw_if_lt, zw_if_ge, zw_if_gt, zw_if_le, zw_ic_eq, zw_ic_ne, zw_ic_lt, zw_ic_ge, zw_ic_gt, zw_ic_le, zw_ifnn, zw_ifnnN, zw_tsw, zw_lsw, zw_getf_l, zw_getf_r, zw_getf_i, zw_getf_z, zw_putf_i, zw_putf_z, zw_putf_l, zw_putf_r, zw_iaload, zw_caload, zw_laload, zw_aaload, zw_iastore, zw_castore, zw_lastore, zw_aastore, zw_alen, zw_newa, zw_newq, zw_new, zw_oini, zw_invs, zw_invv, zw_copy, zw_invt, zw_iret, zw_lret, zw_ret, zc_r, zc_a, zk_rvs, zk_cat2, List.getElem?_cons_zero, List.getElem?_cons_succ, Bool.false_eq_true, and_false, false_and, and_true, true_and, reduceIte, Nat.reduceEqDiff, Nat.reduceLT, Nat.reduceAdd, List.cons_append, List.nil_append, Option.toList_some, Option.toList_none, zk_cat_i, zk_cat_r, zk_cat_n, zk_same, Option.some.injEq, Value.int.injEq, Value.long.injEq, eq_self, false_implies, true_implies, zf_1, ho, hP2, zl_X, zc_n10, zc_cl, zc_in, not_true_eq_false, not_false_eq_true]
          rw [← hq]
          exact ⟨Or.inr rfl, rfl, g2, g1, g3, g4⟩
    refine hZ B_X1_readTest_9 _ _ _ _ _ _ _ k_X1_readTest_9 ?_
    simp only [B_X1_readTest_9, zk_ldi_s, zk_ldl_s, zk_lda_r, zk_lda_a, zk_lda_n, zk_iv_s, zr_nil, zr_cons, zp_0, zp_s, zt_0, zt_s, zt2_0, zt2_s, zw_iconst, zw_bipush, zw_sipush, zw_lconst, zw_ldcs, zw_ldc, zw_ldcw, zw_ldc2, zw_iload_n, zw_lload_n, zw_aload_n, zw_istore_n, zw_lstore_n, zw_astore_n, zw_astoreN_n, zw_iload, zw_lload, zw_aload, zw_istore, zw_lstore, zw_astore, zw_astoreN, zw_iinc, zw_iadd, zw_isub, zw_imul, zw_iand, zw_ior, zw_ixor, zw_ishl, zw_ishr, zw_iushr, zw_idiv, zw_irem, zw_ladd, zw_lsub, zw_lmul, zw_land, zw_ldiv, zw_lrem, zw_lcmp, zw_i2l, zw_l2i, zw_dup, zw_pop, zw_dup2i, zw_goto, zw_if_eq, zw_if_ne, zw_if_lt, zw_if_ge, zw_if_gt, zw_if_le, zw_ic_eq, zw_ic_ne, zw_ic_lt, zw_ic_ge, zw_ic_gt, zw_ic_le, zw_ifnn, zw_ifnnN, zw_tsw, zw_lsw, zw_getf_l, zw_getf_r, zw_getf_i, zw_getf_z, zw_putf_i, zw_putf_z, zw_putf_l, zw_putf_r, zw_iaload, zw_caload, zw_laload, zw_aaload, zw_iastore, zw_castore, zw_lastore, zw_aastore, zw_alen, zw_newa, zw_newq, zw_new, zw_oini, zw_invs, zw_invv, zw_copy, zw_invt, zw_iret, zw_lret, zw_ret, zc_r, zc_a, zk_rvs, zk_cat2, List.getElem?_cons_zero, List.getElem?_cons_succ, Bool.false_eq_true, and_false, false_and, and_true, true_and, reduceIte, Nat.reduceEqDiff, Nat.reduceLT, Nat.reduceAdd, List.cons_append, List.nil_append, Option.toList_some, Option.toList_none, zk_cat_i, zk_cat_r, zk_cat_n, zk_same, Option.some.injEq, Value.int.injEq, Value.long.injEq, eq_self, false_implies, true_implies, zf_1, ho, hP2, zl_X, zc_n10, zc_cl, zc_in, not_true_eq_false, not_false_eq_true]
    exact loop 1600 0 p1 c1 M1 (by omega) hres r3 r2 r4 r5 (by omega)
theorem ct_readComparison (hJ : zk_JS G) (hn : 154 ≤ n) (hP : zs_X P) {f : Nat → Nat} {T sort qs o D : Nat} (hS : zfS n P qs) (hD : 10 ≤ D) {X : sp_F} (hok : rd_ok T X) (hX : zfC G n L P f T sort qs 29 D o X) : zfC G n L P f T sort qs 28 (D + 1) o (rt_cmp f T X) := by
  intro M sz p hpre
  have hS2 := hS
  obtain ⟨q1, q2, q3, q4, q5, q6, q7⟩ := hS
  obtain ⟨hat, h3, h4, h5, hsz⟩ := hpre
  have hT := hat.1.2.1
  show zk_C G (D + 1) 28 [.ref 8] n M L P n (fun r M' L' P' => L' = L ∧ P' = P ∧ zfR M M' f T qs sz o r (rt_cmp f T X p))
  generalize hres : rt_cmp f T X p = R
  unfold rt_cmp at hres
  refine zk_meth (ow := 1) (kind := 1) (k := 0) (nL := 2) (ct := false) (l0 := [.ref 8, zk_un]) (by decide +kernel) (fun h => by cases h) (by decide +kernel) (by decide) (by decide) (fun h => absurd h (by decide)) (Nat.le_of_ble_eq_true rfl) rfl (by omega) (fun Z hZ => ?_)
  have ho := zo_X hn
  have hP2 := hP
  unfold zs_X at hP2
  refine hZ B_X1_readComparison_0 _ _ _ _ _ _ _ k_X1_readComparison_0 ?_
  simp only [B_X1_readComparison_0, zk_ldi_s, zk_ldl_s, zk_lda_r, zk_lda_a, zk_lda_n, zk_iv_s, zr_nil, zr_cons, zp_0, zp_s, zt_0, zt_s, zt2_0, zt2_s, zw_iconst, zw_bipush, zw_sipush, zw_lconst, zw_ldcs, zw_ldc, zw_ldcw, zw_ldc2, zw_iload_n, zw_lload_n, zw_aload_n, zw_istore_n, zw_lstore_n, zw_astore_n, zw_astoreN_n, zw_iload, zw_lload, zw_aload, zw_istore, zw_lstore, zw_astore, zw_astoreN, zw_iinc, zw_iadd, zw_isub, zw_imul, zw_iand, zw_ior, zw_ixor, zw_ishl, zw_ishr, zw_iushr, zw_idiv, zw_irem, zw_ladd, zw_lsub, zw_lmul, zw_land, zw_ldiv, zw_lrem, zw_lcmp, zw_i2l, zw_l2i, zw_dup, zw_pop, zw_dup2i, zw_goto, zw_if_eq, zw_if_ne, zw_if_lt, zw_if_ge, zw_if_gt, zw_if_le, zw_ic_eq, zw_ic_ne, zw_ic_lt, zw_ic_ge, zw_ic_gt, zw_ic_le, zw_ifnn, zw_ifnnN, zw_tsw, zw_lsw, zw_getf_l, zw_getf_r, zw_getf_i, zw_getf_z, zw_putf_i, zw_putf_z, zw_putf_l, zw_putf_r, zw_iaload, zw_caload, zw_laload, zw_aaload, zw_iastore, zw_castore, zw_lastore, zw_aastore, zw_alen, zw_newa, zw_newq, zw_new, zw_oini, zw_invs, zw_invv, zw_copy, zw_invt, zw_iret, zw_lret, zw_ret, zc_r, zc_a, zk_rvs, zk_cat2, List.getElem?_cons_zero, List.getElem?_cons_succ, Bool.false_eq_true, and_false, false_and, and_true, true_and, reduceIte, Nat.reduceEqDiff, Nat.reduceLT, Nat.reduceAdd, List.cons_append, List.nil_append, Option.toList_some, Option.toList_none, zk_cat_i, zk_cat_r, zk_cat_n, zk_same, Option.some.injEq, Value.int.injEq, Value.long.injEq, eq_self, false_implies, true_implies, zf_1, zf_8, ho, hP2, zl_X, zc_n10, zc_cl, zc_in, not_true_eq_false, not_false_eq_true]
  refine zk_callI (hX M sz p ⟨hat, h3, h4, h5, hsz⟩) (by first | decide | omega) (Nat.le_refl _) (Nat.le_of_ble_eq_true rfl) (fun r M1 L9 P9 hpost => ?_)
  obtain ⟨hL9, hP9, hR⟩ := hpost
  have hL8 := hL9.symm
  have hP8 := hP9.symm
  subst hL8
  subst hP8
  cases hx : X p with
  | inl e =>
    obtain ⟨k, pl⟩ := e
    rw [hx] at hR hres
    obtain ⟨rfl, r2, r3, r4⟩ := hR
    simp only [zk_ldi_s, zk_ldl_s, zk_lda_r, zk_lda_a, zk_lda_n, zk_iv_s, zr_nil, zr_cons, zp_0, zp_s, zt_0, zt_s, zt2_0, zt2_s, zw_iconst, zw_bipush, zw_sipush, zw_lconst, zw_ldcs, zw_ldc, zw_ldcw, zw_ldc2, zw_iload_n, zw_lload_n, zw_aload_n, zw_istore_n, zw_lstore_n, zw_astore_n, zw_astoreN_n, zw_iload, zw_lload, zw_aload, zw_istore, zw_lstore, zw_astore, zw_astoreN, zw_iinc, zw_iadd, zw_isub, zw_imul, zw_iand, zw_ior, zw_ixor, zw_ishl, zw_ishr, zw_iushr, zw_idiv, zw_irem, zw_ladd, zw_lsub, zw_lmul, zw_land, zw_ldiv, zw_lrem, zw_lcmp, zw_i2l, zw_l2i, zw_dup, zw_pop, zw_dup2i, zw_goto, zw_if_eq, zw_if_ne, zw_if_lt, zw_if_ge, zw_if_gt, zw_if_le, zw_ic_eq, zw_ic_ne, zw_ic_lt, zw_ic_ge, zw_ic_gt, zw_ic_le, zw_ifnn, zw_ifnnN, zw_tsw, zw_lsw, zw_getf_l, zw_getf_r, zw_getf_i, zw_getf_z, zw_putf_i, zw_putf_z, zw_putf_l, zw_putf_r, zw_iaload, zw_caload, zw_laload, zw_aaload, zw_iastore, zw_castore, zw_lastore, zw_aastore, zw_alen, zw_newa, zw_newq, zw_new, zw_oini, zw_invs, zw_invv, zw_copy, zw_invt, zw_iret, zw_lret, zw_ret, zc_r, zc_a, zk_rvs, zk_cat2, List.getElem?_cons_zero, List.getElem?_cons_succ, Bool.false_eq_true, and_false, false_and, and_true, true_and, reduceIte, Nat.reduceEqDiff, Nat.reduceLT, Nat.reduceAdd, List.cons_append, List.nil_append, Option.toList_some, Option.toList_none, zk_cat_i, zk_cat_r, zk_cat_n, zk_same, Option.some.injEq, Value.int.injEq, Value.long.injEq, eq_self, false_implies, true_implies, zf_1, zf_8, ho, hP2, zl_X, zc_n10, zc_cl, zc_in, not_true_eq_false, not_false_eq_true]
    rw [← hres]
    exact ⟨Or.inl rfl, rfl, r2, r3, r4⟩
  | inr y =>
    obtain ⟨p1, c1⟩ := y
    rw [hx] at hR hres
    obtain ⟨rfl, r2, r3, r4, r5⟩ := hR
    simp only [rd_bind] at hres
    have hok1 := hok _ _ _ hat.2.2.1 hx
    have kA : (M1 7 1 = (60 : Int32)) = (tkK f T p1 = 60) := by rw [show (60 : Int32) = iI 60 from by decide]; exact zt_kd r2 _ (by decide) (by decide)
    have kB : (M1 7 1 = (62 : Int32)) = (tkK f T p1 = 62) := by rw [show (62 : Int32) = iI 62 from by decide]; exact zt_kd r2 _ (by decide) (by decide)
    have kC : (M1 7 1 = (61 : Int32)) = (tkK f T p1 = 61) := by rw [show (61 : Int32) = iI 61 from by decide]; exact zt_kd r2 _ (by decide) (by decide)
    have go : (tkK f T p1 = 60 ∨ tkK f T p1 = 62 ∨ tkK f T p1 = 61) → Z 44 [.ref 8, .int (M1 7 1)] [] n M1 L P := by
      intro hk
      rw [if_pos hk] at hres
      have hpos := tkK_pos (f := f) r2.2.2.1 (by rcases hk with z | z | z <;> rw [z] <;> decide)
      refine hZ B_X1_readComparison_44 _ _ _ _ _ _ _ k_X1_readComparison_44 ?_
      simp only [B_X1_readComparison_44, zk_ldi_s, zk_ldl_s, zk_lda_r, zk_lda_a, zk_lda_n, zk_iv_s, zr_nil, zr_cons, zp_0, zp_s, zt_0, zt_s, zt2_0, zt2_s, zw_iconst, zw_bipush, zw_sipush, zw_lconst, zw_ldcs, zw_ldc, zw_ldcw, zw_ldc2, zw_iload_n, zw_lload_n, zw_aload_n, zw_istore_n, zw_lstore_n, zw_astore_n, zw_astoreN_n, zw_iload, zw_lload, zw_aload, zw_istore, zw_lstore, zw_astore, zw_astoreN, zw_iinc, zw_iadd, zw_isub, zw_imul, zw_iand, zw_ior, zw_ixor, zw_ishl, zw_ishr, zw_iushr, zw_idiv, zw_irem, zw_ladd, zw_lsub, zw_lmul, zw_land, zw_ldiv, zw_lrem, zw_lcmp, zw_i2l, zw_l2i, zw_dup, zw_pop, zw_dup2i, zw_goto, zw_if_eq, zw_if_ne, zw_if_lt, zw_if_ge, zw_if_gt, zw_if_le, zw_ic_eq, zw_ic_ne, zw_ic_lt, zw_ic_ge, zw_ic_gt, zw_ic_le, zw_ifnn, zw_ifnnN, zw_tsw, zw_lsw, zw_getf_l, zw_getf_r, zw_getf_i, zw_getf_z, zw_putf_i, zw_putf_z, zw_putf_l, zw_putf_r, zw_iaload, zw_caload, zw_laload, zw_aaload, zw_iastore, zw_castore, zw_lastore, zw_aastore, zw_alen, zw_newa, zw_newq, zw_new, zw_oini, zw_invs, zw_invv, zw_copy, zw_invt, zw_iret, zw_lret, zw_ret, zc_r, zc_a, zk_rvs, zk_cat2, List.getElem?_cons_zero, List.getElem?_cons_succ, Bool.false_eq_true, and_false, false_and, and_true, true_and, reduceIte, Nat.reduceEqDiff, Nat.reduceLT, Nat.reduceAdd, List.cons_append, List.nil_append, Option.toList_some, Option.toList_none, zk_cat_i, zk_cat_r, zk_cat_n, zk_same, Option.some.injEq, Value.int.injEq, Value.long.injEq, eq_self, false_implies, true_implies, zf_1, zf_8, ho, hP2, zl_X, zc_n10, zc_cl, zc_in, not_true_eq_false, not_false_eq_true]
      refine zk_callI (ct_nextA hJ hn hP r2) (by first | decide | omega) (Nat.le_refl _) (Nat.le_of_ble_eq_true rfl) (fun r M2 L9 P9 hpost => ?_)
      obtain ⟨hr9, hL9, hP9, k1, k2, k3⟩ := hpost
      subst hr9
      have hL8 := hL9.symm
      have hP8 := hP9.symm
      clear hL9 hP9
      subst hL8
      subst hP8
      simp only [zk_ldi_s, zk_ldl_s, zk_lda_r, zk_lda_a, zk_lda_n, zk_iv_s, zr_nil, zr_cons, zp_0, zp_s, zt_0, zt_s, zt2_0, zt2_s, zw_iconst, zw_bipush, zw_sipush, zw_lconst, zw_ldcs, zw_ldc, zw_ldcw, zw_ldc2, zw_iload_n, zw_lload_n, zw_aload_n, zw_istore_n, zw_lstore_n, zw_astore_n, zw_astoreN_n, zw_iload, zw_lload, zw_aload, zw_istore, zw_lstore, zw_astore, zw_astoreN, zw_iinc, zw_iadd, zw_isub, zw_imul, zw_iand, zw_ior, zw_ixor, zw_ishl, zw_ishr, zw_iushr, zw_idiv, zw_irem, zw_ladd, zw_lsub, zw_lmul, zw_land, zw_ldiv, zw_lrem, zw_lcmp, zw_i2l, zw_l2i, zw_dup, zw_pop, zw_dup2i, zw_goto, zw_if_eq, zw_if_ne, zw_if_lt, zw_if_ge, zw_if_gt, zw_if_le, zw_ic_eq, zw_ic_ne, zw_ic_lt, zw_ic_ge, zw_ic_gt, zw_ic_le, zw_ifnn, zw_ifnnN, zw_tsw, zw_lsw, zw_getf_l, zw_getf_r, zw_getf_i, zw_getf_z, zw_putf_i, zw_putf_z, zw_putf_l, zw_putf_r, zw_iaload, zw_caload, zw_laload, zw_aaload, zw_iastore, zw_castore, zw_lastore, zw_aastore, zw_alen, zw_newa, zw_newq, zw_new, zw_oini, zw_invs, zw_invv, zw_copy, zw_invt, zw_iret, zw_lret, zw_ret, zc_r, zc_a, zk_rvs, zk_cat2, List.getElem?_cons_zero, List.getElem?_cons_succ, Bool.false_eq_true, and_false, false_and, and_true, true_and, reduceIte, Nat.reduceEqDiff, Nat.reduceLT, Nat.reduceAdd, List.cons_append, List.nil_append, Option.toList_some, Option.toList_none, zk_cat_i, zk_cat_r, zk_cat_n, zk_same, Option.some.injEq, Value.int.injEq, Value.long.injEq, eq_self, false_implies, true_implies, zf_1, zf_8, ho, hP2, zl_X, zc_n10, zc_cl, zc_in, not_true_eq_false, not_false_eq_true]
      have w2 : zfG M M2 qs sz c1 := by
        have := zfG_tr r3 (zf_nx q6 r3.2.2 k2)
        rw [List.append_nil] at this
        exact this
      refine zk_callI (hX M2 (sz + c1.length) (tkE f T p1) ⟨k1, w2.2.2, by rw [w2.1.2.1 4 (by decide) (by decide)]; exact h4, by rw [k2 8 (by decide)]; exact r4, by omega⟩) (by first | decide | omega) (Nat.le_refl _) (Nat.le_of_ble_eq_true rfl) (fun r M3 L9 P9 hpost => ?_)
      obtain ⟨hL9, hP9, hR3⟩ := hpost
      have hL8 := hL9.symm
      have hP8 := hP9.symm
      subst hL8
      subst hP8
      cases hx3 : X (tkE f T p1) with
      | inl e =>
        obtain ⟨k, pl⟩ := e
        rw [hx3] at hR3 hres
        obtain ⟨rfl, s2, s3, s4⟩ := hR3
        simp only [zk_ldi_s, zk_ldl_s, zk_lda_r, zk_lda_a, zk_lda_n, zk_iv_s, zr_nil, zr_cons, zp_0, zp_s, zt_0, zt_s, zt2_0, zt2_s, zw_iconst, zw_bipush, zw_sipush, zw_lconst, zw_ldcs, zw_ldc, zw_ldcw, zw_ldc2, zw_iload_n, zw_lload_n, zw_aload_n, zw_istore_n, zw_lstore_n, zw_astore_n, zw_astoreN_n, zw_iload, zw_lload, zw_aload, zw_istore, zw_lstore, zw_astore, zw_astoreN, zw_iinc, zw_iadd, zw_isub, zw_imul, zw_iand, zw_ior, zw_ixor, zw_ishl, zw_ishr, zw_iushr, zw_idiv, zw_irem, zw_ladd, zw_lsub, zw_lmul, zw_land, zw_ldiv, zw_lrem, zw_lcmp, zw_i2l, zw_l2i, zw_dup, zw_pop, zw_dup2i, zw_goto, zw_if_eq, zw_if_ne, zw_if_lt, zw_if_ge, zw_if_gt, zw_if_le, zw_ic_eq, zw_ic_ne, zw_ic_lt, zw_ic_ge, zw_ic_gt, zw_ic_le, zw_ifnn, zw_ifnnN, zw_tsw, zw_lsw, zw_getf_l, zw_getf_r, zw_getf_i, zw_getf_z, zw_putf_i, zw_putf_z, zw_putf_l, zw_putf_r, zw_iaload, zw_caload, zw_laload, zw_aaload, zw_iastore, zw_castore, zw_lastore, zw_aastore, zw_alen, zw_newa, zw_newq, zw_new, zw_oini, zw_invs, zw_invv, zw_copy, zw_invt, zw_iret, zw_lret, zw_ret, zc_r, zc_a, zk_rvs, zk_cat2, List.getElem?_cons_zero, List.getElem?_cons_succ, Bool.false_eq_true, and_false, false_and, and_true, true_and, reduceIte, Nat.reduceEqDiff, Nat.reduceLT, Nat.reduceAdd, List.cons_append, List.nil_append, Option.toList_some, Option.toList_none, zk_cat_i, zk_cat_r, zk_cat_n, zk_same, Option.some.injEq, Value.int.injEq, Value.long.injEq, eq_self, false_implies, true_implies, zf_1, zf_8, ho, hP2, zl_X, zc_n10, zc_cl, zc_in, not_true_eq_false, not_false_eq_true]
        rw [← hres]
        exact ⟨Or.inl rfl, rfl, s2, s3, zfF_tr w2.1 s4 (by omega)⟩
      | inr y =>
        obtain ⟨p3, c3⟩ := y
        rw [hx3] at hR3 hres
        obtain ⟨rfl, s2, s3, s4, s5⟩ := hR3
        simp only at hres
        have hok3 := hok _ _ _ hpos.2.1 hx3
        have w3 := zfG_tr w2 s3
        have hl3 : (c1 ++ c3).length = c1.length + c3.length := List.length_append
        have put : ∀ (x : Int32) (op : Int), x = iI op → op = (if tkK f T p1 = 60 then -7 else if tkK f T p1 = 62 then -8 else -9) → Z 85 [.ref 8, .int (M1 7 1)] [.int x, .ref 8] n M3 L P := by
          intro x op hxo hop
          subst hxo
          refine hZ B_X1_readComparison_85 _ _ _ _ _ _ _ k_X1_readComparison_85 ?_
          simp only [B_X1_readComparison_85, zk_ldi_s, zk_ldl_s, zk_lda_r, zk_lda_a, zk_lda_n, zk_iv_s, zr_nil, zr_cons, zp_0, zp_s, zt_0, zt_s, zt2_0, zt2_s, zw_iconst, zw_bipush, zw_sipush, zw_lconst, zw_ldcs, zw_ldc, zw_ldcw, zw_ldc2, zw_iload_n, zw_lload_n, zw_aload_n, zw_istore_n, zw_lstore_n, zw_astore_n, zw_astoreN_n, zw_iload, zw_lload, zw_aload, zw_istore, zw_lstore, zw_astore, zw_astoreN, zw_iinc, zw_iadd, zw_isub, zw_imul, zw_iand, zw_ior, zw_ixor, zw_ishl, zw_ishr, zw_iushr, zw_idiv, zw_irem, zw_ladd, zw_lsub, zw_lmul, zw_land, zw_ldiv, zw_lrem, zw_lcmp, zw_i2l, zw_l2i, zw_dup, zw_pop, zw_dup2i, zw_goto, zw_if_eq, zw_if_ne, zw_if_lt, zw_if_ge, zw_if_gt, zw_if_le, zw_ic_eq, zw_ic_ne, zw_ic_lt, zw_ic_ge, zw_ic_gt, zw_ic_le, zw_ifnn, zw_ifnnN, zw_tsw, zw_lsw, zw_getf_l, zw_getf_r, zw_getf_i, zw_getf_z, zw_putf_i, zw_putf_z, zw_putf_l, zw_putf_r, zw_iaload, zw_caload, zw_laload, zw_aaload, zw_iastore, zw_castore, zw_lastore, zw_aastore, zw_alen, zw_newa, zw_newq, zw_new, zw_oini, zw_invs, zw_invv, zw_copy, zw_invt, zw_iret, zw_lret, zw_ret, zc_r, zc_a, zk_rvs, zk_cat2, List.getElem?_cons_zero, List.getElem?_cons_succ, Bool.false_eq_true, and_false, false_and, and_true, true_and, reduceIte, Nat.reduceEqDiff, Nat.reduceLT, Nat.reduceAdd, List.cons_append, List.nil_append, Option.toList_some, Option.toList_none, zk_cat_i, zk_cat_r, zk_cat_n, zk_same, Option.some.injEq, Value.int.injEq, Value.long.injEq, eq_self, false_implies, true_implies, zf_1, zf_8, ho, hP2, zl_X, zc_n10, zc_cl, zc_in, not_true_eq_false, not_false_eq_true]
          refine zk_callI (ct_put hn hP hS2 w3.2.2 (by omega) op) (by first | decide | omega) (Nat.le_refl _) (Nat.le_of_ble_eq_true rfl) (fun r M4 L9 P9 hpost => ?_)
          obtain ⟨hr9, hL9, hP9, t1, t2, t3, t4, t5⟩ := hpost
          subst hr9
          have hL8 := hL9.symm
          have hP8 := hP9.symm
          clear hL9 hP9
          subst hL8
          subst hP8
          simp only [zk_ldi_s, zk_ldl_s, zk_lda_r, zk_lda_a, zk_lda_n, zk_iv_s, zr_nil, zr_cons, zp_0, zp_s, zt_0, zt_s, zt2_0, zt2_s, zw_iconst, zw_bipush, zw_sipush, zw_lconst, zw_ldcs, zw_ldc, zw_ldcw, zw_ldc2, zw_iload_n, zw_lload_n, zw_aload_n, zw_istore_n, zw_lstore_n, zw_astore_n, zw_astoreN_n, zw_iload, zw_lload, zw_aload, zw_istore, zw_lstore, zw_astore, zw_astoreN, zw_iinc, zw_iadd, zw_isub, zw_imul, zw_iand, zw_ior, zw_ixor, zw_ishl, zw_ishr, zw_iushr, zw_idiv, zw_irem, zw_ladd, zw_lsub, zw_lmul, zw_land, zw_ldiv, zw_lrem, zw_lcmp, zw_i2l, zw_l2i, zw_dup, zw_pop, zw_dup2i, zw_goto, zw_if_eq, zw_if_ne, zw_if_lt, zw_if_ge, zw_if_gt, zw_if_le, zw_ic_eq, zw_ic_ne, zw_ic_lt, zw_ic_ge, zw_ic_gt, zw_ic_le, zw_ifnn, zw_ifnnN, zw_tsw, zw_lsw, zw_getf_l, zw_getf_r, zw_getf_i, zw_getf_z, zw_putf_i, zw_putf_z, zw_putf_l, zw_putf_r, zw_iaload, zw_caload, zw_laload, zw_aaload, zw_iastore, zw_castore, zw_lastore, zw_aastore, zw_alen, zw_newa, zw_newq, zw_new, zw_oini, zw_invs, zw_invv, zw_copy, zw_invt, zw_iret, zw_lret, zw_ret, zc_r, zc_a, zk_rvs, zk_cat2, List.getElem?_cons_zero, List.getElem?_cons_succ, Bool.false_eq_true, and_false, false_and, and_true, true_and, reduceIte, Nat.reduceEqDiff, Nat.reduceLT, Nat.reduceAdd, List.cons_append, List.nil_append, Option.toList_some, Option.toList_none, zk_cat_i, zk_cat_r, zk_cat_n, zk_same, Option.some.injEq, Value.int.injEq, Value.long.injEq, eq_self, false_implies, true_implies, zf_1, zf_8, ho, hP2, zl_X, zc_n10, zc_cl, zc_in, not_true_eq_false, not_false_eq_true]
          rw [← hop] at hres
          rw [← hres]
          exact ⟨Or.inr rfl, rfl, zt_at_cg s2 t4 t5 t2, zfG_tr w3 t1, by rw [t3]; exact s4, by rw [t2, s5, k3 7 (by decide)]; exact r5⟩
        simp only [zk_ldi_s, zk_ldl_s, zk_lda_r, zk_lda_a, zk_lda_n, zk_iv_s, zr_nil, zr_cons, zp_0, zp_s, zt_0, zt_s, zt2_0, zt2_s, zw_iconst, zw_bipush, zw_sipush, zw_lconst, zw_ldcs, zw_ldc, zw_ldcw, zw_ldc2, zw_iload_n, zw_lload_n, zw_aload_n, zw_istore_n, zw_lstore_n, zw_astore_n, zw_astoreN_n, zw_iload, zw_lload, zw_aload, zw_istore, zw_lstore, zw_astore, zw_astoreN, zw_iinc, zw_iadd, zw_isub, zw_imul, zw_iand, zw_ior, zw_ixor, zw_ishl, zw_ishr, zw_iushr, zw_idiv, zw_irem, zw_ladd, zw_lsub, zw_lmul, zw_land, zw_ldiv, zw_lrem, zw_lcmp, zw_i2l, zw_l2i, zw_dup, zw_pop, zw_dup2i, zw_goto, zw_if_eq, zw_if_ne, zw_if_lt, zw_if_ge, zw_if_gt, zw_if_le, zw_ic_eq, zw_ic_ne, zw_ic_lt, zw_ic_ge, zw_ic_gt, zw_ic_le, zw_ifnn, zw_ifnnN, zw_tsw, zw_lsw, zw_getf_l, zw_getf_r, zw_getf_i, zw_getf_z, zw_putf_i, zw_putf_z, zw_putf_l, zw_putf_r, zw_iaload, zw_caload, zw_laload, zw_aaload, zw_iastore, zw_castore, zw_lastore, zw_aastore, zw_alen, zw_newa, zw_newq, zw_new, zw_oini, zw_invs, zw_invv, zw_copy, zw_invt, zw_iret, zw_lret, zw_ret, zc_r, zc_a, zk_rvs, zk_cat2, List.getElem?_cons_zero, List.getElem?_cons_succ, Bool.false_eq_true, and_false, false_and, and_true, true_and, reduceIte, Nat.reduceEqDiff, Nat.reduceLT, Nat.reduceAdd, List.cons_append, List.nil_append, Option.toList_some, Option.toList_none, zk_cat_i, zk_cat_r, zk_cat_n, zk_same, Option.some.injEq, Value.int.injEq, Value.long.injEq, eq_self, false_implies, true_implies, zf_1, zf_8, ho, hP2, zl_X, zc_n10, zc_cl, zc_in, not_true_eq_false, not_false_eq_true]
        refine hZ B_X1_readComparison_60 _ _ _ _ _ _ _ k_X1_readComparison_60 ?_
        simp only [B_X1_readComparison_60, zk_ldi_s, zk_ldl_s, zk_lda_r, zk_lda_a, zk_lda_n, zk_iv_s, zr_nil, zr_cons, zp_0, zp_s, zt_0, zt_s, zt2_0, zt2_s, zw_iconst, zw_bipush, zw_sipush, zw_lconst, zw_ldcs, zw_ldc, zw_ldcw, zw_ldc2, zw_iload_n, zw_lload_n, zw_aload_n, zw_istore_n, zw_lstore_n, zw_astore_n, zw_astoreN_n, zw_iload, zw_lload, zw_aload, zw_istore, zw_lstore, zw_astore, zw_astoreN, zw_iinc, zw_iadd, zw_isub, zw_imul, zw_iand, zw_ior, zw_ixor, zw_ishl, zw_ishr, zw_iushr, zw_idiv, zw_irem, zw_ladd, zw_lsub, zw_lmul, zw_land, zw_ldiv, zw_lrem, zw_lcmp, zw_i2l, zw_l2i, zw_dup, zw_pop, zw_dup2i, zw_goto, zw_if_eq, zw_if_ne, zw_if_lt, zw_if_ge, zw_if_gt, zw_if_le, zw_ic_eq, zw_ic_ne, zw_ic_lt, zw_ic_ge, zw_ic_gt, zw_ic_le, zw_ifnn, zw_ifnnN, zw_tsw, zw_lsw, zw_getf_l, zw_getf_r, zw_getf_i, zw_getf_z, zw_putf_i, zw_putf_z, zw_putf_l, zw_putf_r, zw_iaload, zw_caload, zw_laload, zw_aaload, zw_iastore, zw_castore, zw_lastore, zw_aastore, zw_alen, zw_newa, zw_newq, zw_new, zw_oini, zw_invs, zw_invv, zw_copy, zw_invt, zw_iret, zw_lret, zw_ret, zc_r, zc_a, zk_rvs, zk_cat2, List.getElem?_cons_zero, List.getElem?_cons_succ, Bool.false_eq_true, and_false, false_and, and_true, true_and, reduceIte, Nat.reduceEqDiff, Nat.reduceLT, Nat.reduceAdd, List.cons_append, List.nil_append, Option.toList_some, Option.toList_none, zk_cat_i, zk_cat_r, zk_cat_n, zk_same, Option.some.injEq, Value.int.injEq, Value.long.injEq, eq_self, false_implies, true_implies, zf_1, zf_8, ho, hP2, zl_X, zc_n10, zc_cl, zc_in, not_true_eq_false, not_false_eq_true, kA]
        refine ⟨fun z => ?_, fun z => ?_⟩
        · refine hZ B_X1_readComparison_72 _ _ _ _ _ _ _ k_X1_readComparison_72 ?_
          simp only [B_X1_readComparison_72, zk_ldi_s, zk_ldl_s, zk_lda_r, zk_lda_a, zk_lda_n, zk_iv_s, zr_nil, zr_cons, zp_0, zp_s, zt_0, zt_s, zt2_0, zt2_s, zw_iconst, zw_bipush, zw_sipush, zw_lconst, zw_ldcs, zw_ldc, zw_ldcw, zw_ldc2, zw_iload_n, zw_lload_n, zw_aload_n, zw_istore_n, zw_lstore_n, zw_astore_n, zw_astoreN_n, zw_iload, zw_lload, zw_aload, zw_istore, zw_lstore, zw_astore, zw_astoreN, zw_iinc, zw_iadd, zw_isub, zw_imul, zw_iand, zw_ior, zw_ixor, zw_ishl, zw_ishr, zw_iushr, zw_idiv, zw_irem, zw_ladd, zw_lsub, zw_lmul, zw_land, zw_ldiv, zw_lrem, zw_lcmp, zw_i2l, zw_l2i, zw_dup, zw_pop, zw_dup2i, zw_goto, zw_if_eq, zw_if_ne, zw_if_lt, zw_if_ge, zw_if_gt, zw_if_le, zw_ic_eq, zw_ic_ne, zw_ic_lt, zw_ic_ge, zw_ic_gt, zw_ic_le, zw_ifnn, zw_ifnnN, zw_tsw, zw_lsw, zw_getf_l, zw_getf_r, zw_getf_i, zw_getf_z, zw_putf_i, zw_putf_z, zw_putf_l, zw_putf_r, zw_iaload, zw_caload, zw_laload, zw_aaload, zw_iastore, zw_castore, zw_lastore, zw_aastore, zw_alen, zw_newa, zw_newq, zw_new, zw_oini, zw_invs, zw_invv, zw_copy, zw_invt, zw_iret, zw_lret, zw_ret, zc_r, zc_a, zk_rvs, zk_cat2, List.getElem?_cons_zero, List.getElem?_cons_succ, Bool.false_eq_true, and_false, false_and, and_true, true_and, reduceIte, Nat.reduceEqDiff, Nat.reduceLT, Nat.reduceAdd, List.cons_append, List.nil_append, Option.toList_some, Option.toList_none, zk_cat_i, zk_cat_r, zk_cat_n, zk_same, Option.some.injEq, Value.int.injEq, Value.long.injEq, eq_self, false_implies, true_implies, zf_1, zf_8, ho, hP2, zl_X, zc_n10, zc_cl, zc_in, not_true_eq_false, not_false_eq_true, kB]
          refine ⟨fun z2 => ?_, fun z2 => ?_⟩
          · refine hZ B_X1_readComparison_83 _ _ _ _ _ _ _ k_X1_readComparison_83 ?_
            simp only [B_X1_readComparison_83, zk_ldi_s, zk_ldl_s, zk_lda_r, zk_lda_a, zk_lda_n, zk_iv_s, zr_nil, zr_cons, zp_0, zp_s, zt_0, zt_s, zt2_0, zt2_s, zw_iconst, zw_bipush, zw_sipush, zw_lconst, zw_ldcs, zw_ldc, zw_ldcw, zw_ldc2, zw_iload_n, zw_lload_n, zw_aload_n, zw_istore_n, zw_lstore_n, zw_astore_n, zw_astoreN_n, zw_iload, zw_lload, zw_aload, zw_istore, zw_lstore, zw_astore, zw_astoreN, zw_iinc, zw_iadd, zw_isub, zw_imul, zw_iand, zw_ior, zw_ixor, zw_ishl, zw_ishr, zw_iushr, zw_idiv, zw_irem, zw_ladd, zw_lsub, zw_lmul, zw_land, zw_ldiv, zw_lrem, zw_lcmp, zw_i2l, zw_l2i, zw_dup, zw_pop, zw_dup2i, zw_goto, zw_if_eq, zw_if_ne, zw_if_lt, zw_if_ge, zw_if_gt, zw_if_le, zw_ic_eq, zw_ic_ne, zw_ic_lt, zw_ic_ge, zw_ic_gt, zw_ic_le, zw_ifnn, zw_ifnnN, zw_tsw, zw_lsw, zw_getf_l, zw_getf_r, zw_getf_i, zw_getf_z, zw_putf_i, zw_putf_z, zw_putf_l, zw_putf_r, zw_iaload, zw_caload, zw_laload, zw_aaload, zw_iastore, zw_castore, zw_lastore, zw_aastore, zw_alen, zw_newa, zw_newq, zw_new, zw_oini, zw_invs, zw_invv, zw_copy, zw_invt, zw_iret, zw_lret, zw_ret, zc_r, zc_a, zk_rvs, zk_cat2, List.getElem?_cons_zero, List.getElem?_cons_succ, Bool.false_eq_true, and_false, false_and, and_true, true_and, reduceIte, Nat.reduceEqDiff, Nat.reduceLT, Nat.reduceAdd, List.cons_append, List.nil_append, Option.toList_some, Option.toList_none, zk_cat_i, zk_cat_r, zk_cat_n, zk_same, Option.some.injEq, Value.int.injEq, Value.long.injEq, eq_self, false_implies, true_implies, zf_1, zf_8, ho, hP2, zl_X, zc_n10, zc_cl, zc_in, not_true_eq_false, not_false_eq_true]
            exact put _ (-9) (by decide) (by rw [if_neg z, if_neg z2])
          · exact put _ (-8) (by decide) (by rw [if_neg z, if_pos z2])
        · exact put _ (-7) (by decide) (by rw [if_pos z])
    simp only [zk_ldi_s, zk_ldl_s, zk_lda_r, zk_lda_a, zk_lda_n, zk_iv_s, zr_nil, zr_cons, zp_0, zp_s, zt_0, zt_s, zt2_0, zt2_s, zw_iconst, zw_bipush, zw_sipush, zw_lconst, zw_ldcs, zw_ldc, zw_ldcw, zw_ldc2, zw_iload_n, zw_lload_n, zw_aload_n, zw_istore_n, zw_lstore_n, zw_astore_n, zw_astoreN_n, zw_iload, zw_lload, zw_aload, zw_istore, zw_lstore, zw_astore, zw_astoreN, zw_iinc, zw_iadd, zw_isub, zw_imul, zw_iand, zw_ior, zw_ixor, zw_ishl, zw_ishr, zw_iushr, zw_idiv, zw_irem, zw_ladd, zw_lsub, zw_lmul, zw_land, zw_ldiv, zw_lrem, zw_lcmp, zw_i2l, zw_l2i, zw_dup, zw_pop, zw_dup2i, zw_goto, zw_if_eq, zw_if_ne, zw_if_lt, zw_if_ge, zw_if_gt, zw_if_le, zw_ic_eq, zw_ic_ne, zw_ic_lt, zw_ic_ge, zw_ic_gt, zw_ic_le, zw_ifnn, zw_ifnnN, zw_tsw, zw_lsw, zw_getf_l, zw_getf_r, zw_getf_i, zw_getf_z, zw_putf_i, zw_putf_z, zw_putf_l, zw_putf_r, zw_iaload, zw_caload, zw_laload, zw_aaload, zw_iastore, zw_castore, zw_lastore, zw_aastore, zw_alen, zw_newa, zw_newq, zw_new, zw_oini, zw_invs, zw_invv, zw_copy, zw_invt, zw_iret, zw_lret, zw_ret, zc_r, zc_a, zk_rvs, zk_cat2, List.getElem?_cons_zero, List.getElem?_cons_succ, Bool.false_eq_true, and_false, false_and, and_true, true_and, reduceIte, Nat.reduceEqDiff, Nat.reduceLT, Nat.reduceAdd, List.cons_append, List.nil_append, Option.toList_some, Option.toList_none, zk_cat_i, zk_cat_r, zk_cat_n, zk_same, Option.some.injEq, Value.int.injEq, Value.long.injEq, eq_self, false_implies, true_implies, zf_1, zf_8, ho, hP2, zl_X, zc_n10, zc_cl, zc_in, not_true_eq_false, not_false_eq_true]
    refine hZ B_X1_readComparison_9 _ _ _ _ _ _ _ k_X1_readComparison_9 ?_
    simp only [B_X1_readComparison_9, zk_ldi_s, zk_ldl_s, zk_lda_r, zk_lda_a, zk_lda_n, zk_iv_s, zr_nil, zr_cons, zp_0, zp_s, zt_0, zt_s, zt2_0, zt2_s, zw_iconst, zw_bipush, zw_sipush, zw_lconst, zw_ldcs, zw_ldc, zw_ldcw, zw_ldc2, zw_iload_n, zw_lload_n, zw_aload_n, zw_istore_n, zw_lstore_n, zw_astore_n, zw_astoreN_n, zw_iload, zw_lload, zw_aload, zw_istore, zw_lstore, zw_astore, zw_astoreN, zw_iinc, zw_iadd, zw_isub, zw_imul, zw_iand, zw_ior, zw_ixor, zw_ishl, zw_ishr, zw_iushr, zw_idiv, zw_irem, zw_ladd, zw_lsub, zw_lmul, zw_land, zw_ldiv, zw_lrem, zw_lcmp, zw_i2l, zw_l2i, zw_dup, zw_pop, zw_dup2i, zw_goto, zw_if_eq, zw_if_ne, zw_if_lt, zw_if_ge, zw_if_gt, zw_if_le, zw_ic_eq, zw_ic_ne, zw_ic_lt, zw_ic_ge, zw_ic_gt, zw_ic_le, zw_ifnn, zw_ifnnN, zw_tsw, zw_lsw, zw_getf_l, zw_getf_r, zw_getf_i, zw_getf_z, zw_putf_i, zw_putf_z, zw_putf_l, zw_putf_r, zw_iaload, zw_caload, zw_laload, zw_aaload, zw_iastore, zw_castore, zw_lastore, zw_aastore, zw_alen, zw_newa, zw_newq, zw_new, zw_oini, zw_invs, zw_invv, zw_copy, zw_invt, zw_iret, zw_lret, zw_ret, zc_r, zc_a, zk_rvs, zk_cat2, List.getElem?_cons_zero, List.getElem?_cons_succ, Bool.false_eq_true, and_false, false_and, and_true, true_and, reduceIte, Nat.reduceEqDiff, Nat.reduceLT, Nat.reduceAdd, List.cons_append, List.nil_append, Option.toList_some, Option.toList_none, zk_cat_i, zk_cat_r, zk_cat_n, zk_same, Option.some.injEq, Value.int.injEq, Value.long.injEq, eq_self, false_implies, true_implies, zf_1, zf_8, ho, hP2, zl_X, zc_n10, zc_cl, zc_in, not_true_eq_false, not_false_eq_true, kA, kB, kC]
    refine ⟨fun z => go (Or.inl z), fun z => ⟨fun z2 => go (Or.inr (Or.inl z2)), fun z2 => ⟨fun z3 => go (Or.inr (Or.inr z3)), fun z3 => ?_⟩⟩⟩
    rw [if_neg (fun w => w.elim z (fun w => w.elim z2 z3))] at hres
    rw [show (1 : Int32) = nI 1 from rfl]
    refine zk_callS (ct_refuseHere hn hP r2 1) (by first | decide | omega) (Nat.le_refl _) (Nat.le_of_ble_eq_true rfl) ?_
    simp only [zk_ldi_s, zk_ldl_s, zk_lda_r, zk_lda_a, zk_lda_n, zk_iv_s, zr_nil, zr_cons, zp_0, zp_s, zt_0, zt_s, zt2_0, zt2_s, zw_iconst, zw_bipush, zw_sipush, zw_lconst, zw_ldcs, zw_ldc, zw_ldcw, zw_ldc2, zw_iload_n, zw_lload_n, zw_aload_n, zw_istore_n, zw_lstore_n, zw_astore_n, zw_astoreN_n, zw_iload, zw_lload, zw_aload, zw_istore, zw_lstore, zw_astore, zw_astoreN, zw_iinc, zw_iadd, zw_isub, zw_imul, zw_iand, zw_ior, zw_ixor, zw_ishl, zw_ishr, zw_iushr, zw_idiv, zw_irem, zw_ladd, zw_lsub, zw_lmul, zw_land, zw_ldiv, zw_lrem, zw_lcmp, zw_i2l, zw_l2i, zw_dup, zw_pop, zw_dup2i, zw_goto, zw_if_eq, zw_if_ne, zw_if_lt, zw_if_ge, zw_if_gt, zw_if_le, zw_ic_eq, zw_ic_ne, zw_ic_lt, zw_ic_ge, zw_ic_gt, zw_ic_le, zw_ifnn, zw_ifnnN, zw_tsw, zw_lsw, zw_getf_l, zw_getf_r, zw_getf_i, zw_getf_z, zw_putf_i, zw_putf_z, zw_putf_l, zw_putf_r, zw_iaload, zw_caload, zw_laload, zw_aaload, zw_iastore, zw_castore, zw_lastore, zw_aastore, zw_alen, zw_newa, zw_newq, zw_new, zw_oini, zw_invs, zw_invv, zw_copy, zw_invt, zw_iret, zw_lret, zw_ret, zc_r, zc_a, zk_rvs, zk_cat2, List.getElem?_cons_zero, List.getElem?_cons_succ, Bool.false_eq_true, and_false, false_and, and_true, true_and, reduceIte, Nat.reduceEqDiff, Nat.reduceLT, Nat.reduceAdd, List.cons_append, List.nil_append, Option.toList_some, Option.toList_none, zk_cat_i, zk_cat_r, zk_cat_n, zk_same, Option.some.injEq, Value.int.injEq, Value.long.injEq, eq_self, false_implies, true_implies, zf_1, zf_8, ho, hP2, zl_X, zc_n10, zc_cl, zc_in, not_true_eq_false, not_false_eq_true]
    rw [← hres]
    exact ⟨Or.inl rfl, rfl, zf_end q6 r3 rfl⟩
def zf_t (G : zk_G) (n : Nat) (L : zk_ML) (P : zk_MP) (f : Nat → Nat) (T sort qs D o : Nat) : Option (sp_F × sp_F) → Prop
  | none => o = 6
  | some x => o < 6 ∧ rd_ok T x.1 ∧ rd_ok T x.2 ∧ (∃ Da, Da ≤ D ∧ zfC G n L P f T sort qs 27 Da (o + 1) x.1) ∧ ∃ Db, Db ≤ D ∧ zfC G n L P f T sort qs 25 Db (o + 1) x.2
theorem zf_t_le {f : Nat → Nat} {T sort qs D o : Nat} {nx : Option (sp_F × sp_F)} (h : zf_t G n L P f T sort qs D o nx) : o ≤ 6 := by
  cases nx with
  | none => exact Nat.le_of_eq h
  | some x => exact Nat.le_of_lt h.1
theorem ct_readFact (hJ : zk_JS G) (hn : 154 ≤ n) (hP : zs_X P) {f : Nat → Nat} {T sort qs o D : Nat} (hS : zfS n P qs) (hD : 10 ≤ D) {sm : sp_F} {nx : Option (sp_F × sp_F)} (hsm : zfC G n L P f T sort qs 28 D o (rt_cmp f T sm)) (hnx : zf_t G n L P f T sort qs D o nx) : zfC G n L P f T sort qs 27 (D + 1) o (rt_fact f T sm nx) := by
  intro M sz p hpre
  have hS2 := hS
  have hpre2 := hpre
  obtain ⟨q1, q2, q3, q4, q5, q6, q7⟩ := hS
  obtain ⟨hat, h3, h4, h5, hsz⟩ := hpre
  have hT := hat.1.2.1
  have ho6 := zf_t_le hnx
  show zk_C G (D + 1) 27 [.ref 8] n M L P n (fun r M' L' P' => L' = L ∧ P' = P ∧ zfR M M' f T qs sz o r (rt_fact f T sm nx p))
  generalize hres : rt_fact f T sm nx p = R
  unfold rt_fact at hres
  refine zk_meth (ow := 1) (kind := 1) (k := 0) (nL := 1) (ct := false) (l0 := [.ref 8]) (by decide +kernel) (fun h => by cases h) (by decide +kernel) (by decide) (by decide) (fun h => absurd h (by decide)) (Nat.le_of_ble_eq_true rfl) rfl (by omega) (fun Z hZ => ?_)
  have ho := zo_X hn
  have hP2 := hP
  unfold zs_X at hP2
  have eA : (M 7 1 = (91 : Int32)) = (tkK f T p = 91) := by rw [show (91 : Int32) = iI 91 from by decide]; exact zt_kd hat _ (by decide) (by decide)
  have eB : (M 7 1 = (326 : Int32)) = (tkK f T p = 326) := by rw [show (326 : Int32) = iI 326 from by decide]; exact zt_kd hat _ (by decide) (by decide)
  have eC : (M 7 1 = (327 : Int32)) = (tkK f T p = 327) := by rw [show (327 : Int32) = iI 327 from by decide]; exact zt_kd hat _ (by decide) (by decide)
  have no : ∀ (M' : zk_MI) (k pl : Nat), R = .inl (k, pl) → M' 7 6 = nI k ∧ M' 7 7 = nI pl ∧ zfF M M' qs sz → Z 54 [.ref 8] [] n M' L P ∧ Z 101 [.ref 8] [] n M' L P := fun M' k pl hR hM => by
    constructor
    · refine hZ B_X1_readFact_54 _ _ _ _ _ _ _ k_X1_readFact_54 ?_
      simp only [B_X1_readFact_54, zk_ldi_s, zk_ldl_s, zk_lda_r, zk_lda_a, zk_lda_n, zk_iv_s, zr_nil, zr_cons, zp_0, zp_s, zt_0, zt_s, zt2_0, zt2_s, zw_iconst, zw_bipush, zw_sipush, zw_lconst, zw_ldcs, zw_ldc, zw_ldcw, zw_ldc2, zw_iload_n, zw_lload_n, zw_aload_n, zw_istore_n, zw_lstore_n, zw_astore_n, zw_astoreN_n, zw_iload, zw_lload, zw_aload, zw_istore, zw_lstore, zw_astore, zw_astoreN, zw_iinc, zw_iadd, zw_isub, zw_imul, zw_iand, zw_ior, zw_ixor, zw_ishl, zw_ishr, zw_iushr, zw_idiv, zw_irem, zw_ladd, zw_lsub, zw_lmul, zw_land, zw_ldiv, zw_lrem, zw_lcmp, zw_i2l, zw_l2i, zw_dup, zw_pop, zw_dup2i, zw_goto, zw_if_eq, zw_if_ne, zw_if_lt, zw_if_ge, zw_if_gt, zw_if_le, zw_ic_eq, zw_ic_ne, zw_ic_lt, zw_ic_ge, zw_ic_gt, zw_ic_le, zw_ifnn, zw_ifnnN, zw_tsw, zw_lsw, zw_getf_l, zw_getf_r, zw_getf_i, zw_getf_z, zw_putf_i, zw_putf_z, zw_putf_l, zw_putf_r, zw_iaload, zw_caload, zw_laload, zw_aaload, zw_iastore, zw_castore, zw_lastore, zw_aastore, zw_alen, zw_newa, zw_newq, zw_new, zw_oini, zw_invs, zw_invv, zw_copy, zw_invt, zw_iret, zw_lret, zw_ret, zc_r, zc_a, zk_rvs, zk_cat2, List.getElem?_cons_zero, List.getElem?_cons_succ, Bool.false_eq_true, and_false, false_and, and_true, true_and, reduceIte, Nat.reduceEqDiff, Nat.reduceLT, Nat.reduceAdd, List.cons_append, List.nil_append, Option.toList_some, Option.toList_none, zk_cat_i, zk_cat_r, zk_cat_n, zk_same, Option.some.injEq, Value.int.injEq, Value.long.injEq, eq_self, false_implies, true_implies, zf_1, zf_8, ho, hP2, zl_X, zc_n10, zc_cl, zc_in, not_true_eq_false, not_false_eq_true]
      rw [hR]
      exact ⟨Or.inl rfl, rfl, hM⟩
    · refine hZ B_X1_readFact_101 _ _ _ _ _ _ _ k_X1_readFact_101 ?_
      simp only [B_X1_readFact_101, zk_ldi_s, zk_ldl_s, zk_lda_r, zk_lda_a, zk_lda_n, zk_iv_s, zr_nil, zr_cons, zp_0, zp_s, zt_0, zt_s, zt2_0, zt2_s, zw_iconst, zw_bipush, zw_sipush, zw_lconst, zw_ldcs, zw_ldc, zw_ldcw, zw_ldc2, zw_iload_n, zw_lload_n, zw_aload_n, zw_istore_n, zw_lstore_n, zw_astore_n, zw_astoreN_n, zw_iload, zw_lload, zw_aload, zw_istore, zw_lstore, zw_astore, zw_astoreN, zw_iinc, zw_iadd, zw_isub, zw_imul, zw_iand, zw_ior, zw_ixor, zw_ishl, zw_ishr, zw_iushr, zw_idiv, zw_irem, zw_ladd, zw_lsub, zw_lmul, zw_land, zw_ldiv, zw_lrem, zw_lcmp, zw_i2l, zw_l2i, zw_dup, zw_pop, zw_dup2i, zw_goto, zw_if_eq, zw_if_ne, zw_if_lt, zw_if_ge, zw_if_gt, zw_if_le, zw_ic_eq, zw_ic_ne, zw_ic_lt, zw_ic_ge, zw_ic_gt, zw_ic_le, zw_ifnn, zw_ifnnN, zw_tsw, zw_lsw, zw_getf_l, zw_getf_r, zw_getf_i, zw_getf_z, zw_putf_i, zw_putf_z, zw_putf_l, zw_putf_r, zw_iaload, zw_caload, zw_laload, zw_aaload, zw_iastore, zw_castore, zw_lastore, zw_aastore, zw_alen, zw_newa, zw_newq, zw_new, zw_oini, zw_invs, zw_invv, zw_copy, zw_invt, zw_iret, zw_lret, zw_ret, zc_r, zc_a, zk_rvs, zk_cat2, List.getElem?_cons_zero, List.getElem?_cons_succ, Bool.false_eq_true, and_false, false_and, and_true, true_and, reduceIte, Nat.reduceEqDiff, Nat.reduceLT, Nat.reduceAdd, List.cons_append, List.nil_append, Option.toList_some, Option.toList_none, zk_cat_i, zk_cat_r, zk_cat_n, zk_same, Option.some.injEq, Value.int.injEq, Value.long.injEq, eq_self, false_implies, true_implies, zf_1, zf_8, ho, hP2, zl_X, zc_n10, zc_cl, zc_in, not_true_eq_false, not_false_eq_true]
      refine hZ B_X1_readFact_102 _ _ _ _ _ _ _ k_X1_readFact_102 ?_
      simp only [B_X1_readFact_102, zk_ldi_s, zk_ldl_s, zk_lda_r, zk_lda_a, zk_lda_n, zk_iv_s, zr_nil, zr_cons, zp_0, zp_s, zt_0, zt_s, zt2_0, zt2_s, zw_iconst, zw_bipush, zw_sipush, zw_lconst, zw_ldcs, zw_ldc, zw_ldcw, zw_ldc2, zw_iload_n, zw_lload_n, zw_aload_n, zw_istore_n, zw_lstore_n, zw_astore_n, zw_astoreN_n, zw_iload, zw_lload, zw_aload, zw_istore, zw_lstore, zw_astore, zw_astoreN, zw_iinc, zw_iadd, zw_isub, zw_imul, zw_iand, zw_ior, zw_ixor, zw_ishl, zw_ishr, zw_iushr, zw_idiv, zw_irem, zw_ladd, zw_lsub, zw_lmul, zw_land, zw_ldiv, zw_lrem, zw_lcmp, zw_i2l, zw_l2i, zw_dup, zw_pop, zw_dup2i, zw_goto, zw_if_eq, zw_if_ne, zw_if_lt, zw_if_ge, zw_if_gt, zw_if_le, zw_ic_eq, zw_ic_ne, zw_ic_lt, zw_ic_ge, zw_ic_gt, zw_ic_le, zw_ifnn, zw_ifnnN, zw_tsw, zw_lsw, zw_getf_l, zw_getf_r, zw_getf_i, zw_getf_z, zw_putf_i, zw_putf_z, zw_putf_l, zw_putf_r, zw_iaload, zw_caload, zw_laload, zw_aaload, zw_iastore, zw_castore, zw_lastore, zw_aastore, zw_alen, zw_newa, zw_newq, zw_new, zw_oini, zw_invs, zw_invv, zw_copy, zw_invt, zw_iret, zw_lret, zw_ret, zc_r, zc_a, zk_rvs, zk_cat2, List.getElem?_cons_zero, List.getElem?_cons_succ, Bool.false_eq_true, and_false, false_and, and_true, true_and, reduceIte, Nat.reduceEqDiff, Nat.reduceLT, Nat.reduceAdd, List.cons_append, List.nil_append, Option.toList_some, Option.toList_none, zk_cat_i, zk_cat_r, zk_cat_n, zk_same, Option.some.injEq, Value.int.injEq, Value.long.injEq, eq_self, false_implies, true_implies, zf_1, zf_8, ho, hP2, zl_X, zc_n10, zc_cl, zc_in, not_true_eq_false, not_false_eq_true]
      rw [hR]
      exact ⟨Or.inl rfl, rfl, hM⟩
  have bool : ∀ (M' : zk_MI) (r : Option Value), zfR M M' f T qs sz o r R → r = some (.int 0) ∨ r = some (.int 1) := fun M' r h => by
    rcases R with ⟨k, pl⟩ | ⟨p', cs⟩
    · exact Or.inl h.1
    · exact Or.inr h.1
  refine hZ B_X1_readFact_0 _ _ _ _ _ _ _ k_X1_readFact_0 ?_
  simp only [B_X1_readFact_0, zk_ldi_s, zk_ldl_s, zk_lda_r, zk_lda_a, zk_lda_n, zk_iv_s, zr_nil, zr_cons, zp_0, zp_s, zt_0, zt_s, zt2_0, zt2_s, zw_iconst, zw_bipush, zw_sipush, zw_lconst, zw_ldcs, zw_ldc, zw_ldcw, zw_ldc2, zw_iload_n, zw_lload_n, zw_aload_n, zw_istore_n, zw_lstore_n, zw_astore_n, zw_astoreN_n, zw_iload, zw_lload, zw_aload, zw_istore, zw_lstore, zw_astore, zw_astoreN, zw_iinc, zw_iadd, zw_isub, zw_imul, zw_iand, zw_ior, zw_ixor, zw_ishl, zw_ishr, zw_iushr, zw_idiv, zw_irem, zw_ladd, zw_lsub, zw_lmul, zw_land, zw_ldiv, zw_lrem, zw_lcmp, zw_i2l, zw_l2i, zw_dup, zw_pop, zw_dup2i, zw_goto, zw_if_eq, zw_if_ne, zw_if_lt, zw_if_ge, zw_if_gt, zw_if_le, zw_ic_eq, zw_ic_ne, zw_ic_lt, zw_ic_ge, zw_ic_gt, zw_ic_le, zw_ifnn, zw_ifnnN, zw_tsw, zw_lsw, zw_getf_l, zw_getf_r, zw_getf_i, zw_getf_z, zw_putf_i, zw_putf_z, zw_putf_l, zw_putf_r, zw_iaload, zw_caload, zw_laload, zw_aaload, zw_iastore, zw_castore, zw_lastore, zw_aastore, zw_alen, zw_newa, zw_newq, zw_new, zw_oini, zw_invs, zw_invv, zw_copy, zw_invt, zw_iret, zw_lret, zw_ret, zc_r, zc_a, zk_rvs, zk_cat2, List.getElem?_cons_zero, List.getElem?_cons_succ, Bool.false_eq_true, and_false, false_and, and_true, true_and, reduceIte, Nat.reduceEqDiff, Nat.reduceLT, Nat.reduceAdd, List.cons_append, List.nil_append, Option.toList_some, Option.toList_none, zk_cat_i, zk_cat_r, zk_cat_n, zk_same, Option.some.injEq, Value.int.injEq, Value.long.injEq, eq_self, false_implies, true_implies, zf_1, zf_8, ho, hP2, zl_X, zc_n10, zc_cl, zc_in, not_true_eq_false, not_false_eq_true, sp_sw, List.not_mem_nil, eA, eB, eC]
  refine ⟨⟨fun g => ?_, fun g => ?_, fun g => ?_, fun _ => trivial⟩, fun g => ?_⟩
  · rw [if_neg (by omega), if_pos g] at hres
    have hpos := tkK_pos (f := f) hat.2.2.1 (by omega)
    refine hZ B_X1_readFact_74 _ _ _ _ _ _ _ k_X1_readFact_74 ?_
    simp only [B_X1_readFact_74, zk_ldi_s, zk_ldl_s, zk_lda_r, zk_lda_a, zk_lda_n, zk_iv_s, zr_nil, zr_cons, zp_0, zp_s, zt_0, zt_s, zt2_0, zt2_s, zw_iconst, zw_bipush, zw_sipush, zw_lconst, zw_ldcs, zw_ldc, zw_ldcw, zw_ldc2, zw_iload_n, zw_lload_n, zw_aload_n, zw_istore_n, zw_lstore_n, zw_astore_n, zw_astoreN_n, zw_iload, zw_lload, zw_aload, zw_istore, zw_lstore, zw_astore, zw_astoreN, zw_iinc, zw_iadd, zw_isub, zw_imul, zw_iand, zw_ior, zw_ixor, zw_ishl, zw_ishr, zw_iushr, zw_idiv, zw_irem, zw_ladd, zw_lsub, zw_lmul, zw_land, zw_ldiv, zw_lrem, zw_lcmp, zw_i2l, zw_l2i, zw_dup, zw_pop, zw_dup2i, zw_goto, zw_if_eq, zw_if_ne, zw_if_lt, zw_if_ge, zw_if_gt, zw_if_le, zw_ic_eq, zw_ic_ne, zw_ic_lt, zw_ic_ge, zw_ic_gt, zw_ic_le, zw_ifnn, zw_ifnnN, zw_tsw, zw_lsw, zw_getf_l, zw_getf_r, zw_getf_i, zw_getf_z, zw_putf_i, zw_putf_z, zw_putf_l, zw_putf_r, zw_iaload, zw_caload, zw_laload, zw_aaload, zw_iastore, zw_castore, zw_lastore, zw_aastore, zw_alen, zw_newa, zw_newq, zw_new, zw_oini, zw_invs, zw_invv, zw_copy, zw_invt, zw_iret, zw_lret, zw_ret, zc_r, zc_a, zk_rvs, zk_cat2, List.getElem?_cons_zero, List.getElem?_cons_succ, Bool.false_eq_true, and_false, false_and, and_true, true_and, reduceIte, Nat.reduceEqDiff, Nat.reduceLT, Nat.reduceAdd, List.cons_append, List.nil_append, Option.toList_some, Option.toList_none, zk_cat_i, zk_cat_r, zk_cat_n, zk_same, Option.some.injEq, Value.int.injEq, Value.long.injEq, eq_self, false_implies, true_implies, zf_1, zf_8, ho, hP2, zl_X, zc_n10, zc_cl, zc_in, not_true_eq_false, not_false_eq_true]
    refine zk_callI (ct_openHere hJ hn hP hat h5 ho6) (by first | decide | omega) (Nat.le_refl _) (Nat.le_of_ble_eq_true rfl) (fun r M2 L9 P9 hpost => ?_)
    obtain ⟨hL9, hP9, b1, b2⟩ := hpost
    have hL8 := hL9.symm
    have hP8 := hP9.symm
    subst hL8
    subst hP8
    cases nx with
    | none =>
      obtain ⟨rfl, b4⟩ := b1 hnx
      simp only [zk_ldi_s, zk_ldl_s, zk_lda_r, zk_lda_a, zk_lda_n, zk_iv_s, zr_nil, zr_cons, zp_0, zp_s, zt_0, zt_s, zt2_0, zt2_s, zw_iconst, zw_bipush, zw_sipush, zw_lconst, zw_ldcs, zw_ldc, zw_ldcw, zw_ldc2, zw_iload_n, zw_lload_n, zw_aload_n, zw_istore_n, zw_lstore_n, zw_astore_n, zw_astoreN_n, zw_iload, zw_lload, zw_aload, zw_istore, zw_lstore, zw_astore, zw_astoreN, zw_iinc, zw_iadd, zw_isub, zw_imul, zw_iand, zw_ior, zw_ixor, zw_ishl, zw_ishr, zw_iushr, zw_idiv, zw_irem, zw_ladd, zw_lsub, zw_lmul, zw_land, zw_ldiv, zw_lrem, zw_lcmp, zw_i2l, zw_l2i, zw_dup, zw_pop, zw_dup2i, zw_goto, zw_if_eq, zw_if_ne, zw_if_lt, zw_if_ge, zw_if_gt, zw_if_le, zw_ic_eq, zw_ic_ne, zw_ic_lt, zw_ic_ge, zw_ic_gt, zw_ic_le, zw_ifnn, zw_ifnnN, zw_tsw, zw_lsw, zw_getf_l, zw_getf_r, zw_getf_i, zw_getf_z, zw_putf_i, zw_putf_z, zw_putf_l, zw_putf_r, zw_iaload, zw_caload, zw_laload, zw_aaload, zw_iastore, zw_castore, zw_lastore, zw_aastore, zw_alen, zw_newa, zw_newq, zw_new, zw_oini, zw_invs, zw_invv, zw_copy, zw_invt, zw_iret, zw_lret, zw_ret, zc_r, zc_a, zk_rvs, zk_cat2, List.getElem?_cons_zero, List.getElem?_cons_succ, Bool.false_eq_true, and_false, false_and, and_true, true_and, reduceIte, Nat.reduceEqDiff, Nat.reduceLT, Nat.reduceAdd, List.cons_append, List.nil_append, Option.toList_some, Option.toList_none, zk_cat_i, zk_cat_r, zk_cat_n, zk_same, Option.some.injEq, Value.int.injEq, Value.long.injEq, eq_self, false_implies, true_implies, zf_1, zf_8, ho, hP2, zl_X, zc_n10, zc_cl, zc_in, not_true_eq_false, not_false_eq_true]
      exact (no _ _ _ hres.symm (zf_end q6 (zf_id h3) b4)).2
    | some x =>
      obtain ⟨x1, x2, x3, ⟨Da, hDa, x4⟩, Db, hDb, x5⟩ := hnx
      obtain ⟨rfl, c1, c2, c3, c4, c5⟩ := b2 x1
      have w2 : zfG M M2 qs sz [] := zf_mv q6 q7 h3 c3 c4
      simp only [zk_ldi_s, zk_ldl_s, zk_lda_r, zk_lda_a, zk_lda_n, zk_iv_s, zr_nil, zr_cons, zp_0, zp_s, zt_0, zt_s, zt2_0, zt2_s, zw_iconst, zw_bipush, zw_sipush, zw_lconst, zw_ldcs, zw_ldc, zw_ldcw, zw_ldc2, zw_iload_n, zw_lload_n, zw_aload_n, zw_istore_n, zw_lstore_n, zw_astore_n, zw_astoreN_n, zw_iload, zw_lload, zw_aload, zw_istore, zw_lstore, zw_astore, zw_astoreN, zw_iinc, zw_iadd, zw_isub, zw_imul, zw_iand, zw_ior, zw_ixor, zw_ishl, zw_ishr, zw_iushr, zw_idiv, zw_irem, zw_ladd, zw_lsub, zw_lmul, zw_land, zw_ldiv, zw_lrem, zw_lcmp, zw_i2l, zw_l2i, zw_dup, zw_pop, zw_dup2i, zw_goto, zw_if_eq, zw_if_ne, zw_if_lt, zw_if_ge, zw_if_gt, zw_if_le, zw_ic_eq, zw_ic_ne, zw_ic_lt, zw_ic_ge, zw_ic_gt, zw_ic_le, zw_ifnn, zw_ifnnN, zw_tsw, zw_lsw, zw_getf_l, zw_getf_r, zw_getf_i, zw_getf_z, zw_putf_i, zw_putf_z, zw_putf_l, zw_putf_r, zw_iaload, zw_caload, zw_laload, zw_aaload, zw_iastore, zw_castore, zw_lastore, zw_aastore, zw_alen, zw_newa, zw_newq, zw_new, zw_oini, zw_invs, zw_invv, zw_copy, zw_invt, zw_iret, zw_lret, zw_ret, zc_r, zc_a, zk_rvs, zk_cat2, List.getElem?_cons_zero, List.getElem?_cons_succ, Bool.false_eq_true, and_false, false_and, and_true, true_and, reduceIte, Nat.reduceEqDiff, Nat.reduceLT, Nat.reduceAdd, List.cons_append, List.nil_append, Option.toList_some, Option.toList_none, zk_cat_i, zk_cat_r, zk_cat_n, zk_same, Option.some.injEq, Value.int.injEq, Value.long.injEq, eq_self, false_implies, true_implies, zf_1, zf_8, ho, hP2, zl_X, zc_n10, zc_cl, zc_in, not_true_eq_false, not_false_eq_true]
      refine zk_callI (x5 M2 sz _ ⟨c1, w2.2.2, by rw [w2.1.2.1 4 (by decide) (by decide)]; exact h4, c2, by omega⟩) (by first | decide | omega) (Nat.le_refl _) (Nat.le_of_ble_eq_true rfl) (fun r M3 L9 P9 hpost => ?_)
      obtain ⟨hL9, hP9, hR⟩ := hpost
      have hL8 := hL9.symm
      have hP8 := hP9.symm
      subst hL8
      subst hP8
      simp only at hres
      cases hx : x.2 (tkE f T p) with
      | inl e =>
        obtain ⟨k, pl⟩ := e
        rw [hx] at hR hres
        obtain ⟨rfl, r2, r3, r4⟩ := hR
        simp only [zk_ldi_s, zk_ldl_s, zk_lda_r, zk_lda_a, zk_lda_n, zk_iv_s, zr_nil, zr_cons, zp_0, zp_s, zt_0, zt_s, zt2_0, zt2_s, zw_iconst, zw_bipush, zw_sipush, zw_lconst, zw_ldcs, zw_ldc, zw_ldcw, zw_ldc2, zw_iload_n, zw_lload_n, zw_aload_n, zw_istore_n, zw_lstore_n, zw_astore_n, zw_astoreN_n, zw_iload, zw_lload, zw_aload, zw_istore, zw_lstore, zw_astore, zw_astoreN, zw_iinc, zw_iadd, zw_isub, zw_imul, zw_iand, zw_ior, zw_ixor, zw_ishl, zw_ishr, zw_iushr, zw_idiv, zw_irem, zw_ladd, zw_lsub, zw_lmul, zw_land, zw_ldiv, zw_lrem, zw_lcmp, zw_i2l, zw_l2i, zw_dup, zw_pop, zw_dup2i, zw_goto, zw_if_eq, zw_if_ne, zw_if_lt, zw_if_ge, zw_if_gt, zw_if_le, zw_ic_eq, zw_ic_ne, zw_ic_lt, zw_ic_ge, zw_ic_gt, zw_ic_le, zw_ifnn, zw_ifnnN, zw_tsw, zw_lsw, zw_getf_l, zw_getf_r, zw_getf_i, zw_getf_z, zw_putf_i, zw_putf_z, zw_putf_l, zw_putf_r, zw_iaload, zw_caload, zw_laload, zw_aaload, zw_iastore, zw_castore, zw_lastore, zw_aastore, zw_alen, zw_newa, zw_newq, zw_new, zw_oini, zw_invs, zw_invv, zw_copy, zw_invt, zw_iret, zw_lret, zw_ret, zc_r, zc_a, zk_rvs, zk_cat2, List.getElem?_cons_zero, List.getElem?_cons_succ, Bool.false_eq_true, and_false, false_and, and_true, true_and, reduceIte, Nat.reduceEqDiff, Nat.reduceLT, Nat.reduceAdd, List.cons_append, List.nil_append, Option.toList_some, Option.toList_none, zk_cat_i, zk_cat_r, zk_cat_n, zk_same, Option.some.injEq, Value.int.injEq, Value.long.injEq, eq_self, false_implies, true_implies, zf_1, zf_8, ho, hP2, zl_X, zc_n10, zc_cl, zc_in, not_true_eq_false, not_false_eq_true]
        exact (no _ _ _ hres.symm ⟨r2, r3, zfF_tr w2.1 r4 (Nat.le_refl _)⟩).2
      | inr y =>
        obtain ⟨p3, cs3⟩ := y
        rw [hx] at hR hres
        obtain ⟨rfl, r2, r3, r4, r5⟩ := hR
        simp only [rd_bind] at hres
        have hok3 := x3 _ _ _ hpos.2.1 hx
        have w3 : zfG M M3 qs sz cs3 := zfG_tr w2 r3
        simp only [zk_ldi_s, zk_ldl_s, zk_lda_r, zk_lda_a, zk_lda_n, zk_iv_s, zr_nil, zr_cons, zp_0, zp_s, zt_0, zt_s, zt2_0, zt2_s, zw_iconst, zw_bipush, zw_sipush, zw_lconst, zw_ldcs, zw_ldc, zw_ldcw, zw_ldc2, zw_iload_n, zw_lload_n, zw_aload_n, zw_istore_n, zw_lstore_n, zw_astore_n, zw_astoreN_n, zw_iload, zw_lload, zw_aload, zw_istore, zw_lstore, zw_astore, zw_astoreN, zw_iinc, zw_iadd, zw_isub, zw_imul, zw_iand, zw_ior, zw_ixor, zw_ishl, zw_ishr, zw_iushr, zw_idiv, zw_irem, zw_ladd, zw_lsub, zw_lmul, zw_land, zw_ldiv, zw_lrem, zw_lcmp, zw_i2l, zw_l2i, zw_dup, zw_pop, zw_dup2i, zw_goto, zw_if_eq, zw_if_ne, zw_if_lt, zw_if_ge, zw_if_gt, zw_if_le, zw_ic_eq, zw_ic_ne, zw_ic_lt, zw_ic_ge, zw_ic_gt, zw_ic_le, zw_ifnn, zw_ifnnN, zw_tsw, zw_lsw, zw_getf_l, zw_getf_r, zw_getf_i, zw_getf_z, zw_putf_i, zw_putf_z, zw_putf_l, zw_putf_r, zw_iaload, zw_caload, zw_laload, zw_aaload, zw_iastore, zw_castore, zw_lastore, zw_aastore, zw_alen, zw_newa, zw_newq, zw_new, zw_oini, zw_invs, zw_invv, zw_copy, zw_invt, zw_iret, zw_lret, zw_ret, zc_r, zc_a, zk_rvs, zk_cat2, List.getElem?_cons_zero, List.getElem?_cons_succ, Bool.false_eq_true, and_false, false_and, and_true, true_and, reduceIte, Nat.reduceEqDiff, Nat.reduceLT, Nat.reduceAdd, List.cons_append, List.nil_append, Option.toList_some, Option.toList_none, zk_cat_i, zk_cat_r, zk_cat_n, zk_same, Option.some.injEq, Value.int.injEq, Value.long.injEq, eq_self, false_implies, true_implies, zf_1, zf_8, ho, hP2, zl_X, zc_n10, zc_cl, zc_in, not_true_eq_false, not_false_eq_true]
        rw [show (93 : Int32) = iI 93 from by decide]
        refine zk_callI (ct_shut hJ hn hP r2 r4 93 (by decide) (by decide)) (by first | decide | omega) (Nat.le_refl _) (Nat.le_of_ble_eq_true rfl) (fun r M6 L9 P9 hpost => ?_)
        obtain ⟨hL9, hP9, b1, b2⟩ := hpost
        have hL8 := hL9.symm
        have hP8 := hP9.symm
        subst hL8
        subst hP8
        by_cases g3 : tkK f T p3 = 93
        · obtain ⟨rfl, e1, e2, e3, e4, e5⟩ := b2 g3
          rw [if_pos g3] at hres
          have w6 : zfG M M6 qs sz cs3 := by
            have := zfG_tr w3 (zf_mv q6 q7 w3.2.2 e3 e4)
            rw [List.append_nil] at this
            exact this
          simp only [zk_ldi_s, zk_ldl_s, zk_lda_r, zk_lda_a, zk_lda_n, zk_iv_s, zr_nil, zr_cons, zp_0, zp_s, zt_0, zt_s, zt2_0, zt2_s, zw_iconst, zw_bipush, zw_sipush, zw_lconst, zw_ldcs, zw_ldc, zw_ldcw, zw_ldc2, zw_iload_n, zw_lload_n, zw_aload_n, zw_istore_n, zw_lstore_n, zw_astore_n, zw_astoreN_n, zw_iload, zw_lload, zw_aload, zw_istore, zw_lstore, zw_astore, zw_astoreN, zw_iinc, zw_iadd, zw_isub, zw_imul, zw_iand, zw_ior, zw_ixor, zw_ishl, zw_ishr, zw_iushr, zw_idiv, zw_irem, zw_ladd, zw_lsub, zw_lmul, zw_land, zw_ldiv, zw_lrem, zw_lcmp, zw_i2l, zw_l2i, zw_dup, zw_pop, zw_dup2i, zw_goto, zw_if_eq, zw_if_ne, zw_if_lt, zw_if_ge, zw_if_gt, zw_if_le, zw_ic_eq, zw_ic_ne, zw_ic_lt, zw_ic_ge, zw_ic_gt, zw_ic_le, zw_ifnn, zw_ifnnN, zw_tsw, zw_lsw, zw_getf_l, zw_getf_r, zw_getf_i, zw_getf_z, zw_putf_i, zw_putf_z, zw_putf_l, zw_putf_r, zw_iaload, zw_caload, zw_laload, zw_aaload, zw_iastore, zw_castore, zw_lastore, zw_aastore, zw_alen, zw_newa, zw_newq, zw_new, zw_oini, zw_invs, zw_invv, zw_copy, zw_invt, zw_iret, zw_lret, zw_ret, zc_r, zc_a, zk_rvs, zk_cat2, List.getElem?_cons_zero, List.getElem?_cons_succ, Bool.false_eq_true, and_false, false_and, and_true, true_and, reduceIte, Nat.reduceEqDiff, Nat.reduceLT, Nat.reduceAdd, List.cons_append, List.nil_append, Option.toList_some, Option.toList_none, zk_cat_i, zk_cat_r, zk_cat_n, zk_same, Option.some.injEq, Value.int.injEq, Value.long.injEq, eq_self, false_implies, true_implies, zf_1, zf_8, ho, hP2, zl_X, zc_n10, zc_cl, zc_in, not_true_eq_false, not_false_eq_true]
          refine hZ B_X1_readFact_102 _ _ _ _ _ _ _ k_X1_readFact_102 ?_
          simp only [B_X1_readFact_102, zk_ldi_s, zk_ldl_s, zk_lda_r, zk_lda_a, zk_lda_n, zk_iv_s, zr_nil, zr_cons, zp_0, zp_s, zt_0, zt_s, zt2_0, zt2_s, zw_iconst, zw_bipush, zw_sipush, zw_lconst, zw_ldcs, zw_ldc, zw_ldcw, zw_ldc2, zw_iload_n, zw_lload_n, zw_aload_n, zw_istore_n, zw_lstore_n, zw_astore_n, zw_astoreN_n, zw_iload, zw_lload, zw_aload, zw_istore, zw_lstore, zw_astore, zw_astoreN, zw_iinc, zw_iadd, zw_isub, zw_imul, zw_iand, zw_ior, zw_ixor, zw_ishl, zw_ishr, zw_iushr, zw_idiv, zw_irem, zw_ladd, zw_lsub, zw_lmul, zw_land, zw_ldiv, zw_lrem, zw_lcmp, zw_i2l, zw_l2i, zw_dup, zw_pop, zw_dup2i, zw_goto, zw_if_eq, zw_if_ne, zw_if_lt, zw_if_ge, zw_if_gt, zw_if_le, zw_ic_eq, zw_ic_ne, zw_ic_lt, zw_ic_ge, zw_ic_gt, zw_ic_le, zw_ifnn, zw_ifnnN, zw_tsw, zw_lsw, zw_getf_l, zw_getf_r, zw_getf_i, zw_getf_z, zw_putf_i, zw_putf_z, zw_putf_l, zw_putf_r, zw_iaload, zw_caload, zw_laload, zw_aaload, zw_iastore, zw_castore, zw_lastore, zw_aastore, zw_alen, zw_newa, zw_newq, zw_new, zw_oini, zw_invs, zw_invv, zw_copy, zw_invt, zw_iret, zw_lret, zw_ret, zc_r, zc_a, zk_rvs, zk_cat2, List.getElem?_cons_zero, List.getElem?_cons_succ, Bool.false_eq_true, and_false, false_and, and_true, true_and, reduceIte, Nat.reduceEqDiff, Nat.reduceLT, Nat.reduceAdd, List.cons_append, List.nil_append, Option.toList_some, Option.toList_none, zk_cat_i, zk_cat_r, zk_cat_n, zk_same, Option.some.injEq, Value.int.injEq, Value.long.injEq, eq_self, false_implies, true_implies, zf_1, zf_8, ho, hP2, zl_X, zc_n10, zc_cl, zc_in, not_true_eq_false, not_false_eq_true]
          rw [← hres]
          exact ⟨Or.inr rfl, rfl, e1, w6, e2, by rw [e5, r5]; exact c5⟩
        · obtain ⟨rfl, b4⟩ := b1 g3
          rw [if_neg g3] at hres
          simp only [zk_ldi_s, zk_ldl_s, zk_lda_r, zk_lda_a, zk_lda_n, zk_iv_s, zr_nil, zr_cons, zp_0, zp_s, zt_0, zt_s, zt2_0, zt2_s, zw_iconst, zw_bipush, zw_sipush, zw_lconst, zw_ldcs, zw_ldc, zw_ldcw, zw_ldc2, zw_iload_n, zw_lload_n, zw_aload_n, zw_istore_n, zw_lstore_n, zw_astore_n, zw_astoreN_n, zw_iload, zw_lload, zw_aload, zw_istore, zw_lstore, zw_astore, zw_astoreN, zw_iinc, zw_iadd, zw_isub, zw_imul, zw_iand, zw_ior, zw_ixor, zw_ishl, zw_ishr, zw_iushr, zw_idiv, zw_irem, zw_ladd, zw_lsub, zw_lmul, zw_land, zw_ldiv, zw_lrem, zw_lcmp, zw_i2l, zw_l2i, zw_dup, zw_pop, zw_dup2i, zw_goto, zw_if_eq, zw_if_ne, zw_if_lt, zw_if_ge, zw_if_gt, zw_if_le, zw_ic_eq, zw_ic_ne, zw_ic_lt, zw_ic_ge, zw_ic_gt, zw_ic_le, zw_ifnn, zw_ifnnN, zw_tsw, zw_lsw, zw_getf_l, zw_getf_r, zw_getf_i, zw_getf_z, zw_putf_i, zw_putf_z, zw_putf_l, zw_putf_r, zw_iaload, zw_caload, zw_laload, zw_aaload, zw_iastore, zw_castore, zw_lastore, zw_aastore, zw_alen, zw_newa, zw_newq, zw_new, zw_oini, zw_invs, zw_invv, zw_copy, zw_invt, zw_iret, zw_lret, zw_ret, zc_r, zc_a, zk_rvs, zk_cat2, List.getElem?_cons_zero, List.getElem?_cons_succ, Bool.false_eq_true, and_false, false_and, and_true, true_and, reduceIte, Nat.reduceEqDiff, Nat.reduceLT, Nat.reduceAdd, List.cons_append, List.nil_append, Option.toList_some, Option.toList_none, zk_cat_i, zk_cat_r, zk_cat_n, zk_same, Option.some.injEq, Value.int.injEq, Value.long.injEq, eq_self, false_implies, true_implies, zf_1, zf_8, ho, hP2, zl_X, zc_n10, zc_cl, zc_in, not_true_eq_false, not_false_eq_true]
          exact (no _ _ _ hres.symm (zf_end q6 w3 b4)).2
  · rw [if_pos g] at hres
    have hpos := tkK_pos (f := f) hat.2.2.1 (by omega)
    refine hZ B_X1_readFact_40 _ _ _ _ _ _ _ k_X1_readFact_40 ?_
    simp only [B_X1_readFact_40, zk_ldi_s, zk_ldl_s, zk_lda_r, zk_lda_a, zk_lda_n, zk_iv_s, zr_nil, zr_cons, zp_0, zp_s, zt_0, zt_s, zt2_0, zt2_s, zw_iconst, zw_bipush, zw_sipush, zw_lconst, zw_ldcs, zw_ldc, zw_ldcw, zw_ldc2, zw_iload_n, zw_lload_n, zw_aload_n, zw_istore_n, zw_lstore_n, zw_astore_n, zw_astoreN_n, zw_iload, zw_lload, zw_aload, zw_istore, zw_lstore, zw_astore, zw_astoreN, zw_iinc, zw_iadd, zw_isub, zw_imul, zw_iand, zw_ior, zw_ixor, zw_ishl, zw_ishr, zw_iushr, zw_idiv, zw_irem, zw_ladd, zw_lsub, zw_lmul, zw_land, zw_ldiv, zw_lrem, zw_lcmp, zw_i2l, zw_l2i, zw_dup, zw_pop, zw_dup2i, zw_goto, zw_if_eq, zw_if_ne, zw_if_lt, zw_if_ge, zw_if_gt, zw_if_le, zw_ic_eq, zw_ic_ne, zw_ic_lt, zw_ic_ge, zw_ic_gt, zw_ic_le, zw_ifnn, zw_ifnnN, zw_tsw, zw_lsw, zw_getf_l, zw_getf_r, zw_getf_i, zw_getf_z, zw_putf_i, zw_putf_z, zw_putf_l, zw_putf_r, zw_iaload, zw_caload, zw_laload, zw_aaload, zw_iastore, zw_castore, zw_lastore, zw_aastore, zw_alen, zw_newa, zw_newq, zw_new, zw_oini, zw_invs, zw_invv, zw_copy, zw_invt, zw_iret, zw_lret, zw_ret, zc_r, zc_a, zk_rvs, zk_cat2, List.getElem?_cons_zero, List.getElem?_cons_succ, Bool.false_eq_true, and_false, false_and, and_true, true_and, reduceIte, Nat.reduceEqDiff, Nat.reduceLT, Nat.reduceAdd, List.cons_append, List.nil_append, Option.toList_some, Option.toList_none, zk_cat_i, zk_cat_r, zk_cat_n, zk_same, Option.some.injEq, Value.int.injEq, Value.long.injEq, eq_self, false_implies, true_implies, zf_1, zf_8, ho, hP2, zl_X, zc_n10, zc_cl, zc_in, not_true_eq_false, not_false_eq_true]
    refine zk_callI (ct_openHere hJ hn hP hat h5 ho6) (by first | decide | omega) (Nat.le_refl _) (Nat.le_of_ble_eq_true rfl) (fun r M2 L9 P9 hpost => ?_)
    obtain ⟨hL9, hP9, b1, b2⟩ := hpost
    have hL8 := hL9.symm
    have hP8 := hP9.symm
    subst hL8
    subst hP8
    cases nx with
    | none =>
      obtain ⟨rfl, b4⟩ := b1 hnx
      simp only [zk_ldi_s, zk_ldl_s, zk_lda_r, zk_lda_a, zk_lda_n, zk_iv_s, zr_nil, zr_cons, zp_0, zp_s, zt_0, zt_s, zt2_0, zt2_s, zw_iconst, zw_bipush, zw_sipush, zw_lconst, zw_ldcs, zw_ldc, zw_ldcw, zw_ldc2, zw_iload_n, zw_lload_n, zw_aload_n, zw_istore_n, zw_lstore_n, zw_astore_n, zw_astoreN_n, zw_iload, zw_lload, zw_aload, zw_istore, zw_lstore, zw_astore, zw_astoreN, zw_iinc, zw_iadd, zw_isub, zw_imul, zw_iand, zw_ior, zw_ixor, zw_ishl, zw_ishr, zw_iushr, zw_idiv, zw_irem, zw_ladd, zw_lsub, zw_lmul, zw_land, zw_ldiv, zw_lrem, zw_lcmp, zw_i2l, zw_l2i, zw_dup, zw_pop, zw_dup2i, zw_goto, zw_if_eq, zw_if_ne, zw_if_lt, zw_if_ge, zw_if_gt, zw_if_le, zw_ic_eq, zw_ic_ne, zw_ic_lt, zw_ic_ge, zw_ic_gt, zw_ic_le, zw_ifnn, zw_ifnnN, zw_tsw, zw_lsw, zw_getf_l, zw_getf_r, zw_getf_i, zw_getf_z, zw_putf_i, zw_putf_z, zw_putf_l, zw_putf_r, zw_iaload, zw_caload, zw_laload, zw_aaload, zw_iastore, zw_castore, zw_lastore, zw_aastore, zw_alen, zw_newa, zw_newq, zw_new, zw_oini, zw_invs, zw_invv, zw_copy, zw_invt, zw_iret, zw_lret, zw_ret, zc_r, zc_a, zk_rvs, zk_cat2, List.getElem?_cons_zero, List.getElem?_cons_succ, Bool.false_eq_true, and_false, false_and, and_true, true_and, reduceIte, Nat.reduceEqDiff, Nat.reduceLT, Nat.reduceAdd, List.cons_append, List.nil_append, Option.toList_some, Option.toList_none, zk_cat_i, zk_cat_r, zk_cat_n, zk_same, Option.some.injEq, Value.int.injEq, Value.long.injEq, eq_self, false_implies, true_implies, zf_1, zf_8, ho, hP2, zl_X, zc_n10, zc_cl, zc_in, not_true_eq_false, not_false_eq_true]
      exact (no _ _ _ hres.symm (zf_end q6 (zf_id h3) b4)).1
    | some x =>
      obtain ⟨x1, x2, x3, ⟨Da, hDa, x4⟩, Db, hDb, x5⟩ := hnx
      obtain ⟨rfl, c1, c2, c3, c4, c5⟩ := b2 x1
      have w2 : zfG M M2 qs sz [] := zf_mv q6 q7 h3 c3 c4
      simp only [zk_ldi_s, zk_ldl_s, zk_lda_r, zk_lda_a, zk_lda_n, zk_iv_s, zr_nil, zr_cons, zp_0, zp_s, zt_0, zt_s, zt2_0, zt2_s, zw_iconst, zw_bipush, zw_sipush, zw_lconst, zw_ldcs, zw_ldc, zw_ldcw, zw_ldc2, zw_iload_n, zw_lload_n, zw_aload_n, zw_istore_n, zw_lstore_n, zw_astore_n, zw_astoreN_n, zw_iload, zw_lload, zw_aload, zw_istore, zw_lstore, zw_astore, zw_astoreN, zw_iinc, zw_iadd, zw_isub, zw_imul, zw_iand, zw_ior, zw_ixor, zw_ishl, zw_ishr, zw_iushr, zw_idiv, zw_irem, zw_ladd, zw_lsub, zw_lmul, zw_land, zw_ldiv, zw_lrem, zw_lcmp, zw_i2l, zw_l2i, zw_dup, zw_pop, zw_dup2i, zw_goto, zw_if_eq, zw_if_ne, zw_if_lt, zw_if_ge, zw_if_gt, zw_if_le, zw_ic_eq, zw_ic_ne, zw_ic_lt, zw_ic_ge, zw_ic_gt, zw_ic_le, zw_ifnn, zw_ifnnN, zw_tsw, zw_lsw, zw_getf_l, zw_getf_r, zw_getf_i, zw_getf_z, zw_putf_i, zw_putf_z, zw_putf_l, zw_putf_r, zw_iaload, zw_caload, zw_laload, zw_aaload, zw_iastore, zw_castore, zw_lastore, zw_aastore, zw_alen, zw_newa, zw_newq, zw_new, zw_oini, zw_invs, zw_invv, zw_copy, zw_invt, zw_iret, zw_lret, zw_ret, zc_r, zc_a, zk_rvs, zk_cat2, List.getElem?_cons_zero, List.getElem?_cons_succ, Bool.false_eq_true, and_false, false_and, and_true, true_and, reduceIte, Nat.reduceEqDiff, Nat.reduceLT, Nat.reduceAdd, List.cons_append, List.nil_append, Option.toList_some, Option.toList_none, zk_cat_i, zk_cat_r, zk_cat_n, zk_same, Option.some.injEq, Value.int.injEq, Value.long.injEq, eq_self, false_implies, true_implies, zf_1, zf_8, ho, hP2, zl_X, zc_n10, zc_cl, zc_in, not_true_eq_false, not_false_eq_true]
      refine zk_callI (x4 M2 sz _ ⟨c1, w2.2.2, by rw [w2.1.2.1 4 (by decide) (by decide)]; exact h4, c2, by omega⟩) (by first | decide | omega) (Nat.le_refl _) (Nat.le_of_ble_eq_true rfl) (fun r M3 L9 P9 hpost => ?_)
      obtain ⟨hL9, hP9, hR⟩ := hpost
      have hL8 := hL9.symm
      have hP8 := hP9.symm
      subst hL8
      subst hP8
      simp only at hres
      cases hx : x.1 (tkE f T p) with
      | inl e =>
        obtain ⟨k, pl⟩ := e
        rw [hx] at hR hres
        obtain ⟨rfl, r2, r3, r4⟩ := hR
        simp only [zk_ldi_s, zk_ldl_s, zk_lda_r, zk_lda_a, zk_lda_n, zk_iv_s, zr_nil, zr_cons, zp_0, zp_s, zt_0, zt_s, zt2_0, zt2_s, zw_iconst, zw_bipush, zw_sipush, zw_lconst, zw_ldcs, zw_ldc, zw_ldcw, zw_ldc2, zw_iload_n, zw_lload_n, zw_aload_n, zw_istore_n, zw_lstore_n, zw_astore_n, zw_astoreN_n, zw_iload, zw_lload, zw_aload, zw_istore, zw_lstore, zw_astore, zw_astoreN, zw_iinc, zw_iadd, zw_isub, zw_imul, zw_iand, zw_ior, zw_ixor, zw_ishl, zw_ishr, zw_iushr, zw_idiv, zw_irem, zw_ladd, zw_lsub, zw_lmul, zw_land, zw_ldiv, zw_lrem, zw_lcmp, zw_i2l, zw_l2i, zw_dup, zw_pop, zw_dup2i, zw_goto, zw_if_eq, zw_if_ne, zw_if_lt, zw_if_ge, zw_if_gt, zw_if_le, zw_ic_eq, zw_ic_ne, zw_ic_lt, zw_ic_ge, zw_ic_gt, zw_ic_le, zw_ifnn, zw_ifnnN, zw_tsw, zw_lsw, zw_getf_l, zw_getf_r, zw_getf_i, zw_getf_z, zw_putf_i, zw_putf_z, zw_putf_l, zw_putf_r, zw_iaload, zw_caload, zw_laload, zw_aaload, zw_iastore, zw_castore, zw_lastore, zw_aastore, zw_alen, zw_newa, zw_newq, zw_new, zw_oini, zw_invs, zw_invv, zw_copy, zw_invt, zw_iret, zw_lret, zw_ret, zc_r, zc_a, zk_rvs, zk_cat2, List.getElem?_cons_zero, List.getElem?_cons_succ, Bool.false_eq_true, and_false, false_and, and_true, true_and, reduceIte, Nat.reduceEqDiff, Nat.reduceLT, Nat.reduceAdd, List.cons_append, List.nil_append, Option.toList_some, Option.toList_none, zk_cat_i, zk_cat_r, zk_cat_n, zk_same, Option.some.injEq, Value.int.injEq, Value.long.injEq, eq_self, false_implies, true_implies, zf_1, zf_8, ho, hP2, zl_X, zc_n10, zc_cl, zc_in, not_true_eq_false, not_false_eq_true]
        exact (no _ _ _ hres.symm ⟨r2, r3, zfF_tr w2.1 r4 (Nat.le_refl _)⟩).1
      | inr y =>
        obtain ⟨p3, cs3⟩ := y
        rw [hx] at hR hres
        obtain ⟨rfl, r2, r3, r4, r5⟩ := hR
        simp only [rd_bind] at hres
        have hok3 := x2 _ _ _ hpos.2.1 hx
        have w3 : zfG M M3 qs sz cs3 := zfG_tr w2 r3
        simp only [zk_ldi_s, zk_ldl_s, zk_lda_r, zk_lda_a, zk_lda_n, zk_iv_s, zr_nil, zr_cons, zp_0, zp_s, zt_0, zt_s, zt2_0, zt2_s, zw_iconst, zw_bipush, zw_sipush, zw_lconst, zw_ldcs, zw_ldc, zw_ldcw, zw_ldc2, zw_iload_n, zw_lload_n, zw_aload_n, zw_istore_n, zw_lstore_n, zw_astore_n, zw_astoreN_n, zw_iload, zw_lload, zw_aload, zw_istore, zw_lstore, zw_astore, zw_astoreN, zw_iinc, zw_iadd, zw_isub, zw_imul, zw_iand, zw_ior, zw_ixor, zw_ishl, zw_ishr, zw_iushr, zw_idiv, zw_irem, zw_ladd, zw_lsub, zw_lmul, zw_land, zw_ldiv, zw_lrem, zw_lcmp, zw_i2l, zw_l2i, zw_dup, zw_pop, zw_dup2i, zw_goto, zw_if_eq, zw_if_ne, zw_if_lt, zw_if_ge, zw_if_gt, zw_if_le, zw_ic_eq, zw_ic_ne, zw_ic_lt, zw_ic_ge, zw_ic_gt, zw_ic_le, zw_ifnn, zw_ifnnN, zw_tsw, zw_lsw, zw_getf_l, zw_getf_r, zw_getf_i, zw_getf_z, zw_putf_i, zw_putf_z, zw_putf_l, zw_putf_r, zw_iaload, zw_caload, zw_laload, zw_aaload, zw_iastore, zw_castore, zw_lastore, zw_aastore, zw_alen, zw_newa, zw_newq, zw_new, zw_oini, zw_invs, zw_invv, zw_copy, zw_invt, zw_iret, zw_lret, zw_ret, zc_r, zc_a, zk_rvs, zk_cat2, List.getElem?_cons_zero, List.getElem?_cons_succ, Bool.false_eq_true, and_false, false_and, and_true, true_and, reduceIte, Nat.reduceEqDiff, Nat.reduceLT, Nat.reduceAdd, List.cons_append, List.nil_append, Option.toList_some, Option.toList_none, zk_cat_i, zk_cat_r, zk_cat_n, zk_same, Option.some.injEq, Value.int.injEq, Value.long.injEq, eq_self, false_implies, true_implies, zf_1, zf_8, ho, hP2, zl_X, zc_n10, zc_cl, zc_in, not_true_eq_false, not_false_eq_true]
        refine hZ B_X1_readFact_56 _ _ _ _ _ _ _ k_X1_readFact_56 ?_
        simp only [B_X1_readFact_56, zk_ldi_s, zk_ldl_s, zk_lda_r, zk_lda_a, zk_lda_n, zk_iv_s, zr_nil, zr_cons, zp_0, zp_s, zt_0, zt_s, zt2_0, zt2_s, zw_iconst, zw_bipush, zw_sipush, zw_lconst, zw_ldcs, zw_ldc, zw_ldcw, zw_ldc2, zw_iload_n, zw_lload_n, zw_aload_n, zw_istore_n, zw_lstore_n, zw_astore_n, zw_astoreN_n, zw_iload, zw_lload, zw_aload, zw_istore, zw_lstore, zw_astore, zw_astoreN, zw_iinc, zw_iadd, zw_isub, zw_imul, zw_iand, zw_ior, zw_ixor, zw_ishl, zw_ishr, zw_iushr, zw_idiv, zw_irem, zw_ladd, zw_lsub, zw_lmul, zw_land, zw_ldiv, zw_lrem, zw_lcmp, zw_i2l, zw_l2i, zw_dup, zw_pop, zw_dup2i, zw_goto, zw_if_eq, zw_if_ne, zw_if_lt, zw_if_ge, zw_if_gt, zw_if_le, zw_ic_eq, zw_ic_ne, zw_ic_lt, zw_ic_ge, zw_ic_gt, zw_ic_le, zw_ifnn, zw_ifnnN, zw_tsw, zw_lsw, zw_getf_l, zw_getf_r, zw_getf_i, zw_getf_z, zw_putf_i, zw_putf_z, zw_putf_l, zw_putf_r, zw_iaload, zw_caload, zw_laload, zw_aaload, zw_iastore, zw_castore, zw_lastore, zw_aastore, zw_alen, zw_newa, zw_newq, zw_new, zw_oini, zw_invs, zw_invv, zw_copy, zw_invt, zw_iret, zw_lret, zw_ret, zc_r, zc_a, zk_rvs, zk_cat2, List.getElem?_cons_zero, List.getElem?_cons_succ, Bool.false_eq_true, and_false, false_and, and_true, true_and, reduceIte, Nat.reduceEqDiff, Nat.reduceLT, Nat.reduceAdd, List.cons_append, List.nil_append, Option.toList_some, Option.toList_none, zk_cat_i, zk_cat_r, zk_cat_n, zk_same, Option.some.injEq, Value.int.injEq, Value.long.injEq, eq_self, false_implies, true_implies, zf_1, zf_8, ho, hP2, zl_X, zc_n10, zc_cl, zc_in, not_true_eq_false, not_false_eq_true, r4, nI_s1]
        have w4 : zfG M (zk_up M3 8 5 (nI o)) qs sz cs3 := by
          have := zfG_tr w3 (zf_mv (M1 := zk_up M3 8 5 (nI o)) q6 q7 w3.2.2 (fun q a b => zk_up_row b) (fun j a => zk_up_ne (by omega)))
          rw [List.append_nil] at this
          exact this
        rw [show (-12 : Int32) = iI (-12) from by decide]
        refine zk_callI (ct_put hn hP hS2 w4.2.2 (by omega) (-12)) (by first | decide | omega) (Nat.le_refl _) (Nat.le_of_ble_eq_true rfl) (fun r M7 L9 P9 hpost => ?_)
        obtain ⟨hr9, hL9, hP9, t1, t2, t3, t4, t5⟩ := hpost
        subst hr9
        have hL8 := hL9.symm
        have hP8 := hP9.symm
        clear hL9 hP9
        subst hL8
        subst hP8
        simp only [zk_ldi_s, zk_ldl_s, zk_lda_r, zk_lda_a, zk_lda_n, zk_iv_s, zr_nil, zr_cons, zp_0, zp_s, zt_0, zt_s, zt2_0, zt2_s, zw_iconst, zw_bipush, zw_sipush, zw_lconst, zw_ldcs, zw_ldc, zw_ldcw, zw_ldc2, zw_iload_n, zw_lload_n, zw_aload_n, zw_istore_n, zw_lstore_n, zw_astore_n, zw_astoreN_n, zw_iload, zw_lload, zw_aload, zw_istore, zw_lstore, zw_astore, zw_astoreN, zw_iinc, zw_iadd, zw_isub, zw_imul, zw_iand, zw_ior, zw_ixor, zw_ishl, zw_ishr, zw_iushr, zw_idiv, zw_irem, zw_ladd, zw_lsub, zw_lmul, zw_land, zw_ldiv, zw_lrem, zw_lcmp, zw_i2l, zw_l2i, zw_dup, zw_pop, zw_dup2i, zw_goto, zw_if_eq, zw_if_ne, zw_if_lt, zw_if_ge, zw_if_gt, zw_if_le, zw_ic_eq, zw_ic_ne, zw_ic_lt, zw_ic_ge, zw_ic_gt, zw_ic_le, zw_ifnn, zw_ifnnN, zw_tsw, zw_lsw, zw_getf_l, zw_getf_r, zw_getf_i, zw_getf_z, zw_putf_i, zw_putf_z, zw_putf_l, zw_putf_r, zw_iaload, zw_caload, zw_laload, zw_aaload, zw_iastore, zw_castore, zw_lastore, zw_aastore, zw_alen, zw_newa, zw_newq, zw_new, zw_oini, zw_invs, zw_invv, zw_copy, zw_invt, zw_iret, zw_lret, zw_ret, zc_r, zc_a, zk_rvs, zk_cat2, List.getElem?_cons_zero, List.getElem?_cons_succ, Bool.false_eq_true, and_false, false_and, and_true, true_and, reduceIte, Nat.reduceEqDiff, Nat.reduceLT, Nat.reduceAdd, List.cons_append, List.nil_append, Option.toList_some, Option.toList_none, zk_cat_i, zk_cat_r, zk_cat_n, zk_same, Option.some.injEq, Value.int.injEq, Value.long.injEq, eq_self, false_implies, true_implies, zf_1, zf_8, ho, hP2, zl_X, zc_n10, zc_cl, zc_in, not_true_eq_false, not_false_eq_true]
        rw [← hres]
        exact ⟨Or.inr rfl, rfl, zt_at_cg r2 (by rw [t4]; exact zk_up_row (by decide)) (by rw [t5]; exact zk_up_row (by decide)) (by rw [t2]; exact zk_up_row (by decide)), zfG_tr w4 t1, by rw [t3]; exact zk_up_at, by rw [t2, zk_up_row (by decide), r5]; exact c5⟩
  · rw [if_neg (by omega), if_neg (by omega), if_pos g] at hres
    have hpos := tkK_pos (f := f) hat.2.2.1 (by omega)
    refine hZ B_X1_readFact_103 _ _ _ _ _ _ _ k_X1_readFact_103 ?_
    simp only [B_X1_readFact_103, zk_ldi_s, zk_ldl_s, zk_lda_r, zk_lda_a, zk_lda_n, zk_iv_s, zr_nil, zr_cons, zp_0, zp_s, zt_0, zt_s, zt2_0, zt2_s, zw_iconst, zw_bipush, zw_sipush, zw_lconst, zw_ldcs, zw_ldc, zw_ldcw, zw_ldc2, zw_iload_n, zw_lload_n, zw_aload_n, zw_istore_n, zw_lstore_n, zw_astore_n, zw_astoreN_n, zw_iload, zw_lload, zw_aload, zw_istore, zw_lstore, zw_astore, zw_astoreN, zw_iinc, zw_iadd, zw_isub, zw_imul, zw_iand, zw_ior, zw_ixor, zw_ishl, zw_ishr, zw_iushr, zw_idiv, zw_irem, zw_ladd, zw_lsub, zw_lmul, zw_land, zw_ldiv, zw_lrem, zw_lcmp, zw_i2l, zw_l2i, zw_dup, zw_pop, zw_dup2i, zw_goto, zw_if_eq, zw_if_ne, zw_if_lt, zw_if_ge, zw_if_gt, zw_if_le, zw_ic_eq, zw_ic_ne, zw_ic_lt, zw_ic_ge, zw_ic_gt, zw_ic_le, zw_ifnn, zw_ifnnN, zw_tsw, zw_lsw, zw_getf_l, zw_getf_r, zw_getf_i, zw_getf_z, zw_putf_i, zw_putf_z, zw_putf_l, zw_putf_r, zw_iaload, zw_caload, zw_laload, zw_aaload, zw_iastore, zw_castore, zw_lastore, zw_aastore, zw_alen, zw_newa, zw_newq, zw_new, zw_oini, zw_invs, zw_invv, zw_copy, zw_invt, zw_iret, zw_lret, zw_ret, zc_r, zc_a, zk_rvs, zk_cat2, List.getElem?_cons_zero, List.getElem?_cons_succ, Bool.false_eq_true, and_false, false_and, and_true, true_and, reduceIte, Nat.reduceEqDiff, Nat.reduceLT, Nat.reduceAdd, List.cons_append, List.nil_append, Option.toList_some, Option.toList_none, zk_cat_i, zk_cat_r, zk_cat_n, zk_same, Option.some.injEq, Value.int.injEq, Value.long.injEq, eq_self, false_implies, true_implies, zf_1, zf_8, ho, hP2, zl_X, zc_n10, zc_cl, zc_in, not_true_eq_false, not_false_eq_true]
    rw [show (1 : Int32) = iI 1 from by decide]
    refine zk_callI (ct_put hn hP hS2 h3 (by omega) 1) (by first | decide | omega) (Nat.le_refl _) (Nat.le_of_ble_eq_true rfl) (fun r M7 L9 P9 hpost => ?_)
    obtain ⟨hr9, hL9, hP9, t1, t2, t3, t4, t5⟩ := hpost
    subst hr9
    have hL8 := hL9.symm
    have hP8 := hP9.symm
    clear hL9 hP9
    subst hL8
    subst hP8
    simp only [zk_ldi_s, zk_ldl_s, zk_lda_r, zk_lda_a, zk_lda_n, zk_iv_s, zr_nil, zr_cons, zp_0, zp_s, zt_0, zt_s, zt2_0, zt2_s, zw_iconst, zw_bipush, zw_sipush, zw_lconst, zw_ldcs, zw_ldc, zw_ldcw, zw_ldc2, zw_iload_n, zw_lload_n, zw_aload_n, zw_istore_n, zw_lstore_n, zw_astore_n, zw_astoreN_n, zw_iload, zw_lload, zw_aload, zw_istore, zw_lstore, zw_astore, zw_astoreN, zw_iinc, zw_iadd, zw_isub, zw_imul, zw_iand, zw_ior, zw_ixor, zw_ishl, zw_ishr, zw_iushr, zw_idiv, zw_irem, zw_ladd, zw_lsub, zw_lmul, zw_land, zw_ldiv, zw_lrem, zw_lcmp, zw_i2l, zw_l2i, zw_dup, zw_pop, zw_dup2i, zw_goto, zw_if_eq, zw_if_ne, zw_if_lt, zw_if_ge, zw_if_gt, zw_if_le, zw_ic_eq, zw_ic_ne, zw_ic_lt, zw_ic_ge, zw_ic_gt, zw_ic_le, zw_ifnn, zw_ifnnN, zw_tsw, zw_lsw, zw_getf_l, zw_getf_r, zw_getf_i, zw_getf_z, zw_putf_i, zw_putf_z, zw_putf_l, zw_putf_r, zw_iaload, zw_caload, zw_laload, zw_aaload, zw_iastore, zw_castore, zw_lastore, zw_aastore, zw_alen, zw_newa, zw_newq, zw_new, zw_oini, zw_invs, zw_invv, zw_copy, zw_invt, zw_iret, zw_lret, zw_ret, zc_r, zc_a, zk_rvs, zk_cat2, List.getElem?_cons_zero, List.getElem?_cons_succ, Bool.false_eq_true, and_false, false_and, and_true, true_and, reduceIte, Nat.reduceEqDiff, Nat.reduceLT, Nat.reduceAdd, List.cons_append, List.nil_append, Option.toList_some, Option.toList_none, zk_cat_i, zk_cat_r, zk_cat_n, zk_same, Option.some.injEq, Value.int.injEq, Value.long.injEq, eq_self, false_implies, true_implies, zf_1, zf_8, ho, hP2, zl_X, zc_n10, zc_cl, zc_in, not_true_eq_false, not_false_eq_true]
    refine zk_callI (ct_nextA hJ hn hP (zt_at_cg hat t4 t5 t2)) (by first | decide | omega) (Nat.le_refl _) (Nat.le_of_ble_eq_true rfl) (fun r M1 L9 P9 hpost => ?_)
    obtain ⟨hr9, hL9, hP9, k1, k2, k3⟩ := hpost
    subst hr9
    have hL8 := hL9.symm
    have hP8 := hP9.symm
    clear hL9 hP9
    subst hL8
    subst hP8
    simp only [zk_ldi_s, zk_ldl_s, zk_lda_r, zk_lda_a, zk_lda_n, zk_iv_s, zr_nil, zr_cons, zp_0, zp_s, zt_0, zt_s, zt2_0, zt2_s, zw_iconst, zw_bipush, zw_sipush, zw_lconst, zw_ldcs, zw_ldc, zw_ldcw, zw_ldc2, zw_iload_n, zw_lload_n, zw_aload_n, zw_istore_n, zw_lstore_n, zw_astore_n, zw_astoreN_n, zw_iload, zw_lload, zw_aload, zw_istore, zw_lstore, zw_astore, zw_astoreN, zw_iinc, zw_iadd, zw_isub, zw_imul, zw_iand, zw_ior, zw_ixor, zw_ishl, zw_ishr, zw_iushr, zw_idiv, zw_irem, zw_ladd, zw_lsub, zw_lmul, zw_land, zw_ldiv, zw_lrem, zw_lcmp, zw_i2l, zw_l2i, zw_dup, zw_pop, zw_dup2i, zw_goto, zw_if_eq, zw_if_ne, zw_if_lt, zw_if_ge, zw_if_gt, zw_if_le, zw_ic_eq, zw_ic_ne, zw_ic_lt, zw_ic_ge, zw_ic_gt, zw_ic_le, zw_ifnn, zw_ifnnN, zw_tsw, zw_lsw, zw_getf_l, zw_getf_r, zw_getf_i, zw_getf_z, zw_putf_i, zw_putf_z, zw_putf_l, zw_putf_r, zw_iaload, zw_caload, zw_laload, zw_aaload, zw_iastore, zw_castore, zw_lastore, zw_aastore, zw_alen, zw_newa, zw_newq, zw_new, zw_oini, zw_invs, zw_invv, zw_copy, zw_invt, zw_iret, zw_lret, zw_ret, zc_r, zc_a, zk_rvs, zk_cat2, List.getElem?_cons_zero, List.getElem?_cons_succ, Bool.false_eq_true, and_false, false_and, and_true, true_and, reduceIte, Nat.reduceEqDiff, Nat.reduceLT, Nat.reduceAdd, List.cons_append, List.nil_append, Option.toList_some, Option.toList_none, zk_cat_i, zk_cat_r, zk_cat_n, zk_same, Option.some.injEq, Value.int.injEq, Value.long.injEq, eq_self, false_implies, true_implies, zf_1, zf_8, ho, hP2, zl_X, zc_n10, zc_cl, zc_in, not_true_eq_false, not_false_eq_true]
    rw [← hres]
    refine ⟨Or.inr rfl, rfl, k1, ?_, by rw [k2 8 (by decide), t3]; exact h5, by rw [k3 7 (by decide), t2]⟩
    have := zfG_tr t1 (zf_nx q6 t1.2.2 k2)
    rw [List.append_nil] at this
    exact this
  · rw [if_neg (by omega), if_neg (by omega), if_neg (by omega)] at hres
    refine hZ B_X1_readFact_117 _ _ _ _ _ _ _ k_X1_readFact_117 ?_
    simp only [B_X1_readFact_117, zk_ldi_s, zk_ldl_s, zk_lda_r, zk_lda_a, zk_lda_n, zk_iv_s, zr_nil, zr_cons, zp_0, zp_s, zt_0, zt_s, zt2_0, zt2_s, zw_iconst, zw_bipush, zw_sipush, zw_lconst, zw_ldcs, zw_ldc, zw_ldcw, zw_ldc2, zw_iload_n, zw_lload_n, zw_aload_n, zw_istore_n, zw_lstore_n, zw_astore_n, zw_astoreN_n, zw_iload, zw_lload, zw_aload, zw_istore, zw_lstore, zw_astore, zw_astoreN, zw_iinc, zw_iadd, zw_isub, zw_imul, zw_iand, zw_ior, zw_ixor, zw_ishl, zw_ishr, zw_iushr, zw_idiv, zw_irem, zw_ladd, zw_lsub, zw_lmul, zw_land, zw_ldiv, zw_lrem, zw_lcmp, zw_i2l, zw_l2i, zw_dup, zw_pop, zw_dup2i, zw_goto, zw_if_eq, zw_if_ne, zw_if_lt, zw_if_ge, zw_if_gt, zw_if_le, zw_ic_eq, zw_ic_ne, zw_ic_lt, zw_ic_ge, zw_ic_gt, zw_ic_le, zw_ifnn, zw_ifnnN, zw_tsw, zw_lsw, zw_getf_l, zw_getf_r, zw_getf_i, zw_getf_z, zw_putf_i, zw_putf_z, zw_putf_l, zw_putf_r, zw_iaload, zw_caload, zw_laload, zw_aaload, zw_iastore, zw_castore, zw_lastore, zw_aastore, zw_alen, zw_newa, zw_newq, zw_new, zw_oini, zw_invs, zw_invv, zw_copy, zw_invt, zw_iret, zw_lret, zw_ret, zc_r, zc_a, zk_rvs, zk_cat2, List.getElem?_cons_zero, List.getElem?_cons_succ, Bool.false_eq_true, and_false, false_and, and_true, true_and, reduceIte, Nat.reduceEqDiff, Nat.reduceLT, Nat.reduceAdd, List.cons_append, List.nil_append, Option.toList_some, Option.toList_none, zk_cat_i, zk_cat_r, zk_cat_n, zk_same, Option.some.injEq, Value.int.injEq, Value.long.injEq, eq_self, false_implies, true_implies, zf_1, zf_8, ho, hP2, zl_X, zc_n10, zc_cl, zc_in, not_true_eq_false, not_false_eq_true]
    refine zk_callI (hsm M sz p hpre2) (by first | decide | omega) (Nat.le_refl _) (Nat.le_of_ble_eq_true rfl) (fun r M2 L9 P9 hpost => ?_)
    obtain ⟨hL9, hP9, hR⟩ := hpost
    have hL8 := hL9.symm
    have hP8 := hP9.symm
    subst hL8
    subst hP8
    rw [hres] at hR
    rcases bool _ _ hR with rfl | rfl
    · simp only [zk_ldi_s, zk_ldl_s, zk_lda_r, zk_lda_a, zk_lda_n, zk_iv_s, zr_nil, zr_cons, zp_0, zp_s, zt_0, zt_s, zt2_0, zt2_s, zw_iconst, zw_bipush, zw_sipush, zw_lconst, zw_ldcs, zw_ldc, zw_ldcw, zw_ldc2, zw_iload_n, zw_lload_n, zw_aload_n, zw_istore_n, zw_lstore_n, zw_astore_n, zw_astoreN_n, zw_iload, zw_lload, zw_aload, zw_istore, zw_lstore, zw_astore, zw_astoreN, zw_iinc, zw_iadd, zw_isub, zw_imul, zw_iand, zw_ior, zw_ixor, zw_ishl, zw_ishr, zw_iushr, zw_idiv, zw_irem, zw_ladd, zw_lsub, zw_lmul, zw_land, zw_ldiv, zw_lrem, zw_lcmp, zw_i2l, zw_l2i, zw_dup, zw_pop, zw_dup2i, zw_goto, zw_if_eq, zw_if_ne, zw_if_lt, zw_if_ge, zw_if_gt, zw_if_le, zw_ic_eq, zw_ic_ne, zw_ic_lt, zw_ic_ge, zw_ic_gt, zw_ic_le, zw_ifnn, zw_ifnnN, zw_tsw, zw_lsw, zw_getf_l, zw_getf_r, zw_getf_i, zw_getf_z, zw_putf_i, zw_putf_z, zw_putf_l, zw_putf_r, zw_iaload, zw_caload, zw_laload, zw_aaload, zw_iastore, zw_castore, zw_lastore, zw_aastore, zw_alen, zw_newa, zw_newq, zw_new, zw_oini, zw_invs, zw_invv, zw_copy, zw_invt, zw_iret, zw_lret, zw_ret, zc_r, zc_a, zk_rvs, zk_cat2, List.getElem?_cons_zero, List.getElem?_cons_succ, Bool.false_eq_true, and_false, false_and, and_true, true_and, reduceIte, Nat.reduceEqDiff, Nat.reduceLT, Nat.reduceAdd, List.cons_append, List.nil_append, Option.toList_some, Option.toList_none, zk_cat_i, zk_cat_r, zk_cat_n, zk_same, Option.some.injEq, Value.int.injEq, Value.long.injEq, eq_self, false_implies, true_implies, zf_1, zf_8, ho, hP2, zl_X, zc_n10, zc_cl, zc_in, not_true_eq_false, not_false_eq_true]
      exact ⟨Or.inl rfl, hR⟩
    · simp only [zk_ldi_s, zk_ldl_s, zk_lda_r, zk_lda_a, zk_lda_n, zk_iv_s, zr_nil, zr_cons, zp_0, zp_s, zt_0, zt_s, zt2_0, zt2_s, zw_iconst, zw_bipush, zw_sipush, zw_lconst, zw_ldcs, zw_ldc, zw_ldcw, zw_ldc2, zw_iload_n, zw_lload_n, zw_aload_n, zw_istore_n, zw_lstore_n, zw_astore_n, zw_astoreN_n, zw_iload, zw_lload, zw_aload, zw_istore, zw_lstore, zw_astore, zw_astoreN, zw_iinc, zw_iadd, zw_isub, zw_imul, zw_iand, zw_ior, zw_ixor, zw_ishl, zw_ishr, zw_iushr, zw_idiv, zw_irem, zw_ladd, zw_lsub, zw_lmul, zw_land, zw_ldiv, zw_lrem, zw_lcmp, zw_i2l, zw_l2i, zw_dup, zw_pop, zw_dup2i, zw_goto, zw_if_eq, zw_if_ne, zw_if_lt, zw_if_ge, zw_if_gt, zw_if_le, zw_ic_eq, zw_ic_ne, zw_ic_lt, zw_ic_ge, zw_ic_gt, zw_ic_le, zw_ifnn, zw_ifnnN, zw_tsw, zw_lsw, zw_getf_l, zw_getf_r, zw_getf_i, zw_getf_z, zw_putf_i, zw_putf_z, zw_putf_l, zw_putf_r, zw_iaload, zw_caload, zw_laload, zw_aaload, zw_iastore, zw_castore, zw_lastore, zw_aastore, zw_alen, zw_newa, zw_newq, zw_new, zw_oini, zw_invs, zw_invv, zw_copy, zw_invt, zw_iret, zw_lret, zw_ret, zc_r, zc_a, zk_rvs, zk_cat2, List.getElem?_cons_zero, List.getElem?_cons_succ, Bool.false_eq_true, and_false, false_and, and_true, true_and, reduceIte, Nat.reduceEqDiff, Nat.reduceLT, Nat.reduceAdd, List.cons_append, List.nil_append, Option.toList_some, Option.toList_none, zk_cat_i, zk_cat_r, zk_cat_n, zk_same, Option.some.injEq, Value.int.injEq, Value.long.injEq, eq_self, false_implies, true_implies, zf_1, zf_8, ho, hP2, zl_X, zc_n10, zc_cl, zc_in, not_true_eq_false, not_false_eq_true]
      exact ⟨Or.inr rfl, hR⟩
/-- FACTS and TESTS, d brackets below the last -/
theorem ct_tlev (hJ : zk_JS G) (hn : 154 ≤ n) (hP : zs_X P) {f : Nat → Nat} {T sort qs : Nat} (hS : zfS n P qs) (hs4 : sort ≤ 4) : ∀ d, d ≤ 6 → zfC G n L P f T sort qs 27 (17 + 4 * d) (6 - d) (rt_lev f T sort d).1 ∧ zfC G n L P f T sort qs 25 (19 + 4 * d) (6 - d) (rt_lev f T sort d).2 := by
  intro d
  induction d with
  | zero =>
    intro _
    have hc := ct_readComparison hJ hn hP hS (by omega) (rd_lev_ok f T sort 0).2 (ct_lev (L := L) (f := f) (T := T) (sort := sort) hJ hn hP hS hs4 0 (by decide)).2
    have h := ct_readFact hJ hn hP hS (by omega) hc (nx := none) rfl
    have h2 := ct_readTest hJ hn hP hS (by omega) (rd_bl_ok (by decide) (by decide) (rt_lev_ok f T sort 0).1) (ct_readBoth hJ hn hP hS (by omega) (rt_lev_ok f T sort 0).1 h)
    exact ⟨h, h2⟩
  | succ d ih =>
    intro hd
    obtain ⟨i1, i2⟩ := ih (by omega)
    have ho : 6 - d = 6 - (d + 1) + 1 := by omega
    rw [ho] at i1 i2
    have hc := ct_readComparison hJ hn hP hS (by omega) (rd_lev_ok f T sort (d + 1)).2 (ct_lev (L := L) (f := f) (T := T) (sort := sort) hJ hn hP hS hs4 (d + 1) hd).2
    have h := ct_readFact hJ hn hP hS (by omega) hc (nx := some (rt_lev f T sort d)) ⟨by omega, (rt_lev_ok f T sort d).1, (rt_lev_ok f T sort d).2, ⟨_, by omega, i1⟩, _, by omega, i2⟩
    have e : 15 + 4 * (d + 1) + 1 + 1 = 17 + 4 * (d + 1) := by omega
    rw [e] at h
    have h2 := ct_readTest hJ hn hP hS (by omega) (rd_bl_ok (by decide) (by decide) (rt_lev_ok f T sort (d + 1)).1) (ct_readBoth hJ hn hP hS (by omega) (rt_lev_ok f T sort (d + 1)).1 h)
    have e2 : 17 + 4 * (d + 1) + 1 + 1 = 19 + 4 * (d + 1) := by omega
    rw [e2] at h2
    exact ⟨h, h2⟩
end CF5
