/-! ===== SUMS, read downward ===== -/
abbrev sp_R : Type := (Nat × Nat) ⊕ (Nat × List Int)
abbrev sp_F : Type := Nat → sp_R
def rd_st (sort : Nat) (k : Int) : Option Int := if k = 306 then some (-14) else if k = 317 then some (-15) else if k = 318 then (if sort = 4 then none else some (-16)) else if k = 319 then (if sort ≤ 2 then some (-17) else none) else if k = 320 then (if sort = 3 then none else some (-18)) else if k = 321 then (if 3 ≤ sort then some (-19) else none) else if k = 322 then (if sort = 4 then some (-20) else none) else if k = 323 then (if sort = 4 then some (-21) else none) else none
def rd_bind (r : sp_R) (g : Nat → List Int → sp_R) : sp_R := match r with
  | .inl e => .inl e
  | .inr (p, cs) => g p cs
section RD
variable (f : Nat → Nat) (T sort : Nat)
noncomputable def rd_par (sm : sp_F) (p : Nat) : sp_R := rd_bind (sm (tkE f T p)) (fun p1 cs => if tkK f T p1 = 41 then .inr (tkE f T p1, cs) else .inl (1, tkS f T p1))
noncomputable def rd_pair (sm : sp_F) (p : Nat) (st : Int) : sp_R := rd_bind (sm (tkE f T p)) (fun p1 c1 => if tkK f T p1 ≠ 44 then .inl (1, tkS f T p1) else rd_bind (sm (tkE f T p1)) (fun p2 c2 => if tkK f T p2 = 41 then .inr (tkE f T p2, c1 ++ c2 ++ [st]) else .inl (1, tkS f T p2)))
noncomputable def rd_part (nx : Option (sp_F × sp_F)) (p : Nat) : sp_R :=
  if tkK f T p = 40 then (match nx with
    | none => .inl (4, tkS f T p)
    | some x => rd_par f T x.2 p)
  else if tkK f T p = 328 ∨ tkK f T p = 329 then (if tkK f T (tkE f T p) ≠ 40 then .inl (1, tkS f T (tkE f T p)) else match nx with
    | none => .inl (4, tkS f T (tkE f T p))
    | some x => rd_pair f T x.2 (tkE f T p) (if tkK f T p = 328 then -5 else -6))
  else if tkK f T p = -2 then (match tk_nb f T p with
    | some pl => .inl (1, pl)
    | none => .inr (tkE f T p, [(tkV f T p : Int)]))
  else if sort = 4 ∧ tkK f T p = 319 then (match nx with
    | none => .inl (4, tkS f T p)
    | some x => rd_bind (x.1 (tkE f T p)) (fun p1 cs => .inr (p1, cs ++ [-13])))
  else match rd_st sort (tkK f T p) with
    | none => .inl (1, tkS f T p)
    | some c => .inr (tkE f T p, [c])
noncomputable def rd_lp (a b ca cb : Int) (X : sp_F) : Nat → Nat → List Int → sp_R
  | 0, p, acc => .inr (p, acc)
  | j + 1, p, acc => if tkK f T p = a ∨ tkK f T p = b then rd_bind (X (tkE f T p)) (fun p1 cs => rd_lp a b ca cb X j p1 (acc ++ cs ++ [if tkK f T p = a then ca else cb])) else .inr (p, acc)
noncomputable def rd_prod (X : sp_F) (p : Nat) : sp_R := rd_bind (X p) (fun p1 cs => rd_lp f T 42 47 (-3) (-4) X 1600 p1 cs)
noncomputable def rd_sum (X : sp_F) (p : Nat) : sp_R := rd_bind (rd_prod f T X p) (fun p1 cs => rd_lp f T 43 45 (-1) (-2) (rd_prod f T X) 1600 p1 cs)
noncomputable def rd_lev : Nat → sp_F × sp_F
  | 0 => (rd_part f T sort none, rd_sum f T (rd_part f T sort none))
  | d + 1 => (rd_part f T sort (some (rd_lev d)), rd_sum f T (rd_part f T sort (some (rd_lev d))))
end RD
/-- what is read: it goes on, and gives no more steps than bytes -/
def rd_ok (T : Nat) (X : sp_F) : Prop := ∀ p p' cs, p ≤ T → X p = .inr (p', cs) → p < p' ∧ p' ≤ T ∧ cs.length + p ≤ p'
theorem tkK_pos {f : Nat → Nat} {T p : Nat} (hp : p ≤ T) (h : tkK f T p ≠ -1) : p < tkE f T p ∧ tkE f T p ≤ T ∧ tkS f T p < T ∧ tkS f T p < tkE f T p ∧ p ≤ tkS f T p := by
  have hs := tkS_le (f := f) (T := T) (T - p) p (by omega)
  have he := tkE_le f hp
  have : tkS f T p < T := by
    rcases Nat.lt_or_ge (tkS f T p) T with q | q
    · exact q
    · exact absurd (by unfold tkK; rw [if_pos q]) h
  have := he.2.2 this
  omega
theorem rd_lp_ok {f : Nat → Nat} {T : Nat} {a b ca cb : Int} (ha : a ≠ -1) (hb : b ≠ -1) {X : sp_F} (hX : rd_ok T X) : ∀ (j p : Nat) (acc : List Int) (p' : Nat) (cs : List Int), p ≤ T → rd_lp f T a b ca cb X j p acc = .inr (p', cs) → p ≤ p' ∧ p' ≤ T ∧ cs.length + p ≤ p' + acc.length
  | 0, p, acc, p', cs, hp, h => by
    simp only [rd_lp, Sum.inr.injEq, Prod.mk.injEq] at h
    obtain ⟨rfl, rfl⟩ := h
    omega
  | j + 1, p, acc, p', cs, hp, h => by
    simp only [rd_lp] at h
    by_cases hk : tkK f T p = a ∨ tkK f T p = b
    · rw [if_pos hk] at h
      have hpos := tkK_pos (f := f) hp (by rcases hk with z | z <;> rw [z] <;> assumption)
      cases hx : X (tkE f T p) with
      | inl e => rw [hx] at h; cases h
      | inr y =>
        obtain ⟨p1, c1⟩ := y
        rw [hx] at h
        simp only [rd_bind] at h
        have h1 := hX _ _ _ hpos.2.1 hx
        have h2 := rd_lp_ok ha hb hX j p1 _ p' cs h1.2.1 h
        simp only [List.length_append, List.length_cons, List.length_nil] at h2
        omega
    · rw [if_neg hk] at h
      simp only [Sum.inr.injEq, Prod.mk.injEq] at h
      obtain ⟨rfl, rfl⟩ := h
      omega
theorem rd_prod_ok {f : Nat → Nat} {T : Nat} {X : sp_F} (hX : rd_ok T X) : rd_ok T (rd_prod f T X) := by
  intro p p' cs hp h
  unfold rd_prod at h
  cases hx : X p with
  | inl e => rw [hx] at h; cases h
  | inr y =>
    obtain ⟨p1, c1⟩ := y
    rw [hx] at h
    have h1 := hX _ _ _ hp hx
    have h2 := rd_lp_ok (by decide) (by decide) hX 1600 p1 c1 p' cs h1.2.1 h
    omega
theorem rd_sum_ok {f : Nat → Nat} {T : Nat} {X : sp_F} (hX : rd_ok T X) : rd_ok T (rd_sum f T X) := by
  intro p p' cs hp h
  unfold rd_sum at h
  cases hx : rd_prod f T X p with
  | inl e => rw [hx] at h; cases h
  | inr y =>
    obtain ⟨p1, c1⟩ := y
    rw [hx] at h
    have h1 := rd_prod_ok hX _ _ _ hp hx
    have h2 := rd_lp_ok (by decide) (by decide) (rd_prod_ok hX) 1600 p1 c1 p' cs h1.2.1 h
    omega
theorem rd_part_ok {f : Nat → Nat} {T sort : Nat} {nx : Option (sp_F × sp_F)} (hnx : ∀ x, nx = some x → rd_ok T x.1 ∧ rd_ok T x.2) : rd_ok T (rd_part f T sort nx) := by
  intro p p' cs hp h
  unfold rd_part at h
  by_cases h1 : tkK f T p = 40
  · rw [if_pos h1] at h
    have hpos := tkK_pos (f := f) hp (by rw [h1]; decide)
    cases nx with
    | none => cases h
    | some x =>
      simp only [rd_par] at h
      cases hx : x.2 (tkE f T p) with
      | inl e => rw [hx] at h; cases h
      | inr y =>
        obtain ⟨p1, c1⟩ := y
        rw [hx] at h
        simp only [rd_bind] at h
        have h2 := (hnx x rfl).2 _ _ _ hpos.2.1 hx
        split at h
        · rename_i hk
          have hpos2 := tkK_pos (f := f) h2.2.1 (by rw [hk]; decide)
          simp only [Sum.inr.injEq, Prod.mk.injEq] at h
          obtain ⟨rfl, rfl⟩ := h
          omega
        · cases h
  · rw [if_neg h1] at h
    by_cases h3 : tkK f T p = 328 ∨ tkK f T p = 329
    · rw [if_pos h3] at h
      have hpos := tkK_pos (f := f) hp (by rcases h3 with z | z <;> rw [z] <;> decide)
      by_cases h4 : tkK f T (tkE f T p) ≠ 40
      · rw [if_pos h4] at h; cases h
      · rw [if_neg h4] at h
        simp only [ne_eq, Decidable.not_not] at h4
        have hpos2 := tkK_pos (f := f) hpos.2.1 (by rw [h4]; decide)
        cases nx with
        | none => cases h
        | some x =>
          simp only [rd_pair] at h
          cases hx : x.2 (tkE f T (tkE f T p)) with
          | inl e => rw [hx] at h; cases h
          | inr y =>
            obtain ⟨p1, c1⟩ := y
            rw [hx] at h
            simp only [rd_bind] at h
            have h5 := (hnx x rfl).2 _ _ _ hpos2.2.1 hx
            by_cases h6 : tkK f T p1 ≠ 44
            · rw [if_pos h6] at h; cases h
            · rw [if_neg h6] at h
              simp only [ne_eq, Decidable.not_not] at h6
              have hpos3 := tkK_pos (f := f) h5.2.1 (by rw [h6]; decide)
              cases hx2 : x.2 (tkE f T p1) with
              | inl e => rw [hx2] at h; cases h
              | inr y2 =>
                obtain ⟨p2, c2⟩ := y2
                rw [hx2] at h
                simp only at h
                have h7 := (hnx x rfl).2 _ _ _ hpos3.2.1 hx2
                split at h
                · rename_i hk
                  have hpos4 := tkK_pos (f := f) h7.2.1 (by rw [hk]; decide)
                  simp only [Sum.inr.injEq, Prod.mk.injEq] at h
                  obtain ⟨rfl, rfl⟩ := h
                  simp only [List.length_append, List.length_cons, List.length_nil]
                  omega
                · cases h
    · rw [if_neg h3] at h
      by_cases h4 : tkK f T p = -2
      · rw [if_pos h4] at h
        have hpos := tkK_pos (f := f) hp (by rw [h4]; decide)
        cases hq : tk_nb f T p with
        | some pl => rw [hq] at h; cases h
        | none =>
          rw [hq] at h
          simp only [Sum.inr.injEq, Prod.mk.injEq] at h
          obtain ⟨rfl, rfl⟩ := h
          simp only [List.length_cons, List.length_nil]
          omega
      · rw [if_neg h4] at h
        by_cases h5 : sort = 4 ∧ tkK f T p = 319
        · rw [if_pos h5] at h
          have hpos := tkK_pos (f := f) hp (by rw [h5.2]; decide)
          cases nx with
          | none => cases h
          | some x =>
            simp only at h
            cases hx : x.1 (tkE f T p) with
            | inl e => rw [hx] at h; cases h
            | inr y =>
              obtain ⟨p1, c1⟩ := y
              rw [hx] at h
              simp only [rd_bind, Sum.inr.injEq, Prod.mk.injEq] at h
              have h6 := (hnx x rfl).1 _ _ _ hpos.2.1 hx
              obtain ⟨rfl, rfl⟩ := h
              simp only [List.length_append, List.length_cons, List.length_nil]
              omega
        · rw [if_neg h5] at h
          cases hq : rd_st sort (tkK f T p) with
          | none => rw [hq] at h; cases h
          | some c =>
            have hpos := tkK_pos (f := f) hp (fun z => by rw [z] at hq; cases hq)
            rw [hq] at h
            simp only [Sum.inr.injEq, Prod.mk.injEq] at h
            obtain ⟨rfl, rfl⟩ := h
            simp only [List.length_cons, List.length_nil]
            omega
theorem rd_lev_ok (f : Nat → Nat) (T sort : Nat) : ∀ d, rd_ok T (rd_lev f T sort d).1 ∧ rd_ok T (rd_lev f T sort d).2
  | 0 => by
    have h := rd_part_ok (f := f) (T := T) (sort := sort) (nx := none) (fun x hx => by cases hx)
    exact ⟨h, rd_sum_ok h⟩
  | d + 1 => by
    have ih := rd_lev_ok f T sort d
    have h := rd_part_ok (f := f) (T := T) (sort := sort) (nx := some (rd_lev f T sort d)) (fun x hx => by cases hx; exact ih)
    exact ⟨h, rd_sum_ok h⟩
def B_X1_put_0 : List zk_I := [(.aload_n 0, 1, 0, 0, 0, 0, []), (.getfield 22, 3, 0, 1, 3, 0, []), (.ifCond .lt 35, 3, 0, 39, 0, 0, []), (.aload_n 0, 1, 0, 0, 0, 0, []), (.getfield 22, 3, 0, 1, 3, 0, []), (.aload_n 0, 1, 0, 0, 0, 0, []), (.getfield 19, 3, 0, 1, 2, 0, []), (.arraylength, 1, 0, 0, 0, 0, []), (.if_icmp .ge 23, 3, 0, 39, 0, 0, []), (.aload_n 0, 1, 0, 0, 0, 0, []), (.getfield 19, 3, 0, 1, 2, 0, []), (.aload_n 0, 1, 0, 0, 0, 0, []), (.getfield 22, 3, 0, 1, 3, 0, []), (.iload_n 1, 1, 0, 1, 0, 0, []), (.iastore, 1, 0, 0, 0, 0, []), (.aload_n 0, 1, 0, 0, 0, 0, []), (.dup, 1, 0, 0, 0, 0, []), (.getfield 22, 3, 0, 1, 3, 0, []), (.iconst 1, 1, 1, 0, 0, 0, []), (.iadd, 1, 0, 0, 0, 0, []), (.putfield 22, 3, 0, 1, 3, 0, [])]
theorem k_X1_put_0 : zk_ckb 1 false (zk_m 21) B_X1_put_0 0 = true := by decide +kernel
def B_X1_put_39 : List zk_I := [(.return_, 1, 0, 0, 0, 0, [])]
theorem k_X1_put_39 : zk_ckb 1 false (zk_m 21) B_X1_put_39 39 = true := by decide +kernel
def B_X1_openHere_0 : List zk_I := [(.aload_n 0, 1, 0, 0, 0, 0, []), (.getfield 29, 3, 0, 1, 5, 0, []), (.bipush 6, 2, 6, 0, 0, 0, []), (.if_icmp .lt 12, 3, 0, 18, 0, 0, []), (.aload_n 0, 1, 0, 0, 0, 0, []), (.getfield 9, 3, 0, 1, 0, 0, []), (.iconst 4, 1, 4, 0, 0, 0, []), (.invokevirtual 32, 3, 0, 2, 86, 8, []), (.ireturn, 1, 0, 1, 0, 0, [])]
theorem k_X1_openHere_0 : zk_ckb 1 false (zk_m 22) B_X1_openHere_0 0 = true := by decide +kernel
def B_X1_openHere_18 : List zk_I := [(.aload_n 0, 1, 0, 0, 0, 0, []), (.dup, 1, 0, 0, 0, 0, []), (.getfield 29, 3, 0, 1, 5, 0, []), (.iconst 1, 1, 1, 0, 0, 0, []), (.iadd, 1, 0, 0, 0, 0, []), (.putfield 29, 3, 0, 1, 5, 0, []), (.aload_n 0, 1, 0, 0, 0, 0, []), (.getfield 9, 3, 0, 1, 0, 0, []), (.invokevirtual 38, 3, 0, 1, 87, 8, []), (.iconst 1, 1, 1, 0, 0, 0, []), (.ireturn, 1, 0, 1, 0, 0, [])]
theorem k_X1_openHere_18 : zk_ckb 1 false (zk_m 22) B_X1_openHere_18 18 = true := by decide +kernel
def B_X1_openBracket_0 : List zk_I := [(.aload_n 0, 1, 0, 0, 0, 0, []), (.getfield 9, 3, 0, 1, 0, 0, []), (.getfield 41, 3, 0, 8, 1, 0, []), (.bipush 40, 2, 40, 0, 0, 0, []), (.if_icmp .ne 10, 3, 0, 19, 0, 0, []), (.aload_n 0, 1, 0, 0, 0, 0, []), (.invokevirtual 44, 3, 0, 1, 22, 1, []), (.goto 11, 3, 0, 27, 0, 0, [])]
theorem k_X1_openBracket_0 : zk_ckb 1 false (zk_m 23) B_X1_openBracket_0 0 = true := by decide +kernel
def B_X1_openBracket_19 : List zk_I := [(.aload_n 0, 1, 0, 0, 0, 0, []), (.getfield 9, 3, 0, 1, 0, 0, []), (.iconst 1, 1, 1, 0, 0, 0, []), (.invokevirtual 32, 3, 0, 2, 86, 8, [])]
theorem k_X1_openBracket_19 : zk_ckb 1 false (zk_m 23) B_X1_openBracket_19 19 = true := by decide +kernel
def B_X1_openBracket_27 : List zk_I := [(.ireturn, 1, 0, 1, 0, 0, [])]
theorem k_X1_openBracket_27 : zk_ckb 1 false (zk_m 23) B_X1_openBracket_27 27 = true := by decide +kernel
def B_X1_shut_0 : List zk_I := [(.aload_n 0, 1, 0, 0, 0, 0, []), (.getfield 9, 3, 0, 1, 0, 0, []), (.getfield 41, 3, 0, 8, 1, 0, []), (.iload_n 1, 1, 0, 1, 0, 0, []), (.if_icmp .eq 12, 3, 0, 20, 0, 0, []), (.aload_n 0, 1, 0, 0, 0, 0, []), (.getfield 9, 3, 0, 1, 0, 0, []), (.iconst 1, 1, 1, 0, 0, 0, []), (.invokevirtual 32, 3, 0, 2, 86, 8, []), (.ireturn, 1, 0, 1, 0, 0, [])]
theorem k_X1_shut_0 : zk_ckb 1 false (zk_m 24) B_X1_shut_0 0 = true := by decide +kernel
def B_X1_shut_20 : List zk_I := [(.aload_n 0, 1, 0, 0, 0, 0, []), (.dup, 1, 0, 0, 0, 0, []), (.getfield 29, 3, 0, 1, 5, 0, []), (.iconst 1, 1, 1, 0, 0, 0, []), (.isub, 1, 0, 0, 0, 0, []), (.putfield 29, 3, 0, 1, 5, 0, []), (.aload_n 0, 1, 0, 0, 0, 0, []), (.getfield 9, 3, 0, 1, 0, 0, []), (.invokevirtual 38, 3, 0, 1, 87, 8, []), (.iconst 1, 1, 1, 0, 0, 0, []), (.ireturn, 1, 0, 1, 0, 0, [])]
theorem k_X1_shut_20 : zk_ckb 1 false (zk_m 24) B_X1_shut_20 20 = true := by decide +kernel
def B_X1_readSum_0 : List zk_I := [(.aload_n 0, 1, 0, 0, 0, 0, []), (.invokevirtual 73, 3, 0, 1, 30, 1, []), (.ifCond .ne 5, 3, 0, 9, 0, 0, []), (.iconst 0, 1, 0, 0, 0, 0, []), (.ireturn, 1, 0, 1, 0, 0, [])]
theorem k_X1_readSum_0 : zk_ckb 1 false (zk_m 29) B_X1_readSum_0 0 = true := by decide +kernel
def B_X1_readSum_9 : List zk_I := [(.iconst 0, 1, 0, 0, 0, 0, []), (.istore_n 1, 1, 0, 1, 0, 0, [])]
theorem k_X1_readSum_9 : zk_ckb 1 false (zk_m 29) B_X1_readSum_9 9 = true := by decide +kernel
def B_X1_readSum_11 : List zk_I := [(.iload_n 1, 1, 0, 1, 0, 0, []), (.sipush 1600, 3, 1600, 0, 0, 0, []), (.if_icmp .ge 64, 3, 0, 79, 0, 0, []), (.aload_n 0, 1, 0, 0, 0, 0, []), (.getfield 9, 3, 0, 1, 0, 0, []), (.getfield 41, 3, 0, 8, 1, 0, []), (.istore_n 2, 1, 0, 2, 0, 0, []), (.iload_n 2, 1, 0, 2, 0, 0, []), (.bipush 43, 2, 43, 0, 0, 0, []), (.if_icmp .eq 12, 3, 0, 41, 0, 0, []), (.iload_n 2, 1, 0, 2, 0, 0, []), (.bipush 45, 2, 45, 0, 0, 0, []), (.if_icmp .eq 6, 3, 0, 41, 0, 0, []), (.goto 41, 3, 0, 79, 0, 0, [])]
theorem k_X1_readSum_11 : zk_ckb 1 false (zk_m 29) B_X1_readSum_11 11 = true := by decide +kernel
def B_X1_readSum_41 : List zk_I := [(.aload_n 0, 1, 0, 0, 0, 0, []), (.getfield 9, 3, 0, 1, 0, 0, []), (.invokevirtual 38, 3, 0, 1, 87, 8, []), (.aload_n 0, 1, 0, 0, 0, 0, []), (.invokevirtual 73, 3, 0, 1, 30, 1, []), (.ifCond .ne 5, 3, 0, 57, 0, 0, []), (.iconst 0, 1, 0, 0, 0, 0, []), (.ireturn, 1, 0, 1, 0, 0, [])]
theorem k_X1_readSum_41 : zk_ckb 1 false (zk_m 29) B_X1_readSum_41 41 = true := by decide +kernel
def B_X1_readSum_57 : List zk_I := [(.aload_n 0, 1, 0, 0, 0, 0, []), (.iload_n 2, 1, 0, 2, 0, 0, []), (.bipush 43, 2, 43, 0, 0, 0, []), (.if_icmp .ne 7, 3, 0, 68, 0, 0, []), (.iconst (-1), 1, (-1), 0, 0, 0, []), (.goto 5, 3, 0, 70, 0, 0, [])]
theorem k_X1_readSum_57 : zk_ckb 1 false (zk_m 29) B_X1_readSum_57 57 = true := by decide +kernel
def B_X1_readSum_68 : List zk_I := [(.bipush (-2), 2, (-2), 0, 0, 0, [])]
theorem k_X1_readSum_68 : zk_ckb 1 false (zk_m 29) B_X1_readSum_68 68 = true := by decide +kernel
def B_X1_readSum_70 : List zk_I := [(.invokevirtual 54, 3, 0, 2, 21, 1, []), (.iinc 1 1, 3, 1, 1, 0, 0, []), (.goto (-65), 3, 0, 11, 0, 0, [])]
theorem k_X1_readSum_70 : zk_ckb 1 false (zk_m 29) B_X1_readSum_70 70 = true := by decide +kernel
def B_X1_readSum_79 : List zk_I := [(.iconst 1, 1, 1, 0, 0, 0, []), (.ireturn, 1, 0, 1, 0, 0, [])]
theorem k_X1_readSum_79 : zk_ckb 1 false (zk_m 29) B_X1_readSum_79 79 = true := by decide +kernel
def B_X1_readProduct_0 : List zk_I := [(.aload_n 0, 1, 0, 0, 0, 0, []), (.invokevirtual 76, 3, 0, 1, 31, 1, []), (.ifCond .ne 5, 3, 0, 9, 0, 0, []), (.iconst 0, 1, 0, 0, 0, 0, []), (.ireturn, 1, 0, 1, 0, 0, [])]
theorem k_X1_readProduct_0 : zk_ckb 1 false (zk_m 30) B_X1_readProduct_0 0 = true := by decide +kernel
def B_X1_readProduct_9 : List zk_I := [(.iconst 0, 1, 0, 0, 0, 0, []), (.istore_n 1, 1, 0, 1, 0, 0, [])]
theorem k_X1_readProduct_9 : zk_ckb 1 false (zk_m 30) B_X1_readProduct_9 9 = true := by decide +kernel
def B_X1_readProduct_11 : List zk_I := [(.iload_n 1, 1, 0, 1, 0, 0, []), (.sipush 1600, 3, 1600, 0, 0, 0, []), (.if_icmp .ge 65, 3, 0, 80, 0, 0, []), (.aload_n 0, 1, 0, 0, 0, 0, []), (.getfield 9, 3, 0, 1, 0, 0, []), (.getfield 41, 3, 0, 8, 1, 0, []), (.istore_n 2, 1, 0, 2, 0, 0, []), (.iload_n 2, 1, 0, 2, 0, 0, []), (.bipush 42, 2, 42, 0, 0, 0, []), (.if_icmp .eq 12, 3, 0, 41, 0, 0, []), (.iload_n 2, 1, 0, 2, 0, 0, []), (.bipush 47, 2, 47, 0, 0, 0, []), (.if_icmp .eq 6, 3, 0, 41, 0, 0, []), (.goto 42, 3, 0, 80, 0, 0, [])]
theorem k_X1_readProduct_11 : zk_ckb 1 false (zk_m 30) B_X1_readProduct_11 11 = true := by decide +kernel
def B_X1_readProduct_41 : List zk_I := [(.aload_n 0, 1, 0, 0, 0, 0, []), (.getfield 9, 3, 0, 1, 0, 0, []), (.invokevirtual 38, 3, 0, 1, 87, 8, []), (.aload_n 0, 1, 0, 0, 0, 0, []), (.invokevirtual 76, 3, 0, 1, 31, 1, []), (.ifCond .ne 5, 3, 0, 57, 0, 0, []), (.iconst 0, 1, 0, 0, 0, 0, []), (.ireturn, 1, 0, 1, 0, 0, [])]
theorem k_X1_readProduct_41 : zk_ckb 1 false (zk_m 30) B_X1_readProduct_41 41 = true := by decide +kernel
def B_X1_readProduct_57 : List zk_I := [(.aload_n 0, 1, 0, 0, 0, 0, []), (.iload_n 2, 1, 0, 2, 0, 0, []), (.bipush 42, 2, 42, 0, 0, 0, []), (.if_icmp .ne 8, 3, 0, 69, 0, 0, []), (.bipush (-3), 2, (-3), 0, 0, 0, []), (.goto 5, 3, 0, 71, 0, 0, [])]
theorem k_X1_readProduct_57 : zk_ckb 1 false (zk_m 30) B_X1_readProduct_57 57 = true := by decide +kernel
def B_X1_readProduct_69 : List zk_I := [(.bipush (-4), 2, (-4), 0, 0, 0, [])]
theorem k_X1_readProduct_69 : zk_ckb 1 false (zk_m 30) B_X1_readProduct_69 69 = true := by decide +kernel
def B_X1_readProduct_71 : List zk_I := [(.invokevirtual 54, 3, 0, 2, 21, 1, []), (.iinc 1 1, 3, 1, 1, 0, 0, []), (.goto (-66), 3, 0, 11, 0, 0, [])]
theorem k_X1_readProduct_71 : zk_ckb 1 false (zk_m 30) B_X1_readProduct_71 71 = true := by decide +kernel
def B_X1_readProduct_80 : List zk_I := [(.iconst 1, 1, 1, 0, 0, 0, []), (.ireturn, 1, 0, 1, 0, 0, [])]
theorem k_X1_readProduct_80 : zk_ckb 1 false (zk_m 30) B_X1_readProduct_80 80 = true := by decide +kernel
def B_X1_readPart_0 : List zk_I := [(.aload_n 0, 1, 0, 0, 0, 0, []), (.getfield 9, 3, 0, 1, 0, 0, []), (.getfield 41, 3, 0, 8, 1, 0, []), (.lookupswitch 116 #[(-2, 84), (40, 41), (328, 70), (329, 77)], 41, 0, 123, 0, 0, [((-2), 91), (40, 48), (328, 77), (329, 84)])]
theorem k_X1_readPart_0 : zk_ckb 1 false (zk_m 31) B_X1_readPart_0 0 = true := by decide +kernel
def B_X1_readPart_48 : List zk_I := [(.aload_n 0, 1, 0, 0, 0, 0, []), (.invokevirtual 44, 3, 0, 1, 22, 1, []), (.ifCond .eq 23, 3, 0, 75, 0, 0, []), (.aload_n 0, 1, 0, 0, 0, 0, []), (.invokevirtual 70, 3, 0, 1, 29, 1, []), (.ifCond .eq 16, 3, 0, 75, 0, 0, []), (.aload_n 0, 1, 0, 0, 0, 0, []), (.bipush 41, 2, 41, 0, 0, 0, []), (.invokevirtual 64, 3, 0, 2, 24, 1, []), (.ifCond .eq 7, 3, 0, 75, 0, 0, []), (.iconst 1, 1, 1, 0, 0, 0, []), (.goto 4, 3, 0, 76, 0, 0, [])]
theorem k_X1_readPart_48 : zk_ckb 1 false (zk_m 31) B_X1_readPart_48 48 = true := by decide +kernel
def B_X1_readPart_75 : List zk_I := [(.iconst 0, 1, 0, 0, 0, 0, [])]
theorem k_X1_readPart_75 : zk_ckb 1 false (zk_m 31) B_X1_readPart_75 75 = true := by decide +kernel
def B_X1_readPart_76 : List zk_I := [(.ireturn, 1, 0, 1, 0, 0, [])]
theorem k_X1_readPart_76 : zk_ckb 1 false (zk_m 31) B_X1_readPart_76 76 = true := by decide +kernel
def B_X1_readPart_77 : List zk_I := [(.aload_n 0, 1, 0, 0, 0, 0, []), (.bipush (-5), 2, (-5), 0, 0, 0, []), (.invokevirtual 79, 3, 0, 2, 32, 1, []), (.ireturn, 1, 0, 1, 0, 0, [])]
theorem k_X1_readPart_77 : zk_ckb 1 false (zk_m 31) B_X1_readPart_77 77 = true := by decide +kernel
def B_X1_readPart_84 : List zk_I := [(.aload_n 0, 1, 0, 0, 0, 0, []), (.bipush (-6), 2, (-6), 0, 0, 0, []), (.invokevirtual 79, 3, 0, 2, 32, 1, []), (.ireturn, 1, 0, 1, 0, 0, [])]
theorem k_X1_readPart_84 : zk_ckb 1 false (zk_m 31) B_X1_readPart_84 84 = true := by decide +kernel
def B_X1_readPart_91 : List zk_I := [(.aload_n 0, 1, 0, 0, 0, 0, []), (.getfield 9, 3, 0, 1, 0, 0, []), (.invokevirtual 82, 3, 0, 1, 94, 8, []), (.ifCond .ne 5, 3, 0, 103, 0, 0, []), (.iconst 0, 1, 0, 0, 0, 0, []), (.ireturn, 1, 0, 1, 0, 0, [])]
theorem k_X1_readPart_91 : zk_ckb 1 false (zk_m 31) B_X1_readPart_91 91 = true := by decide +kernel
def B_X1_readPart_103 : List zk_I := [(.aload_n 0, 1, 0, 0, 0, 0, []), (.aload_n 0, 1, 0, 0, 0, 0, []), (.getfield 9, 3, 0, 1, 0, 0, []), (.getfield 85, 3, 0, 8, 4, 0, []), (.invokevirtual 54, 3, 0, 2, 21, 1, []), (.aload_n 0, 1, 0, 0, 0, 0, []), (.getfield 9, 3, 0, 1, 0, 0, []), (.invokevirtual 38, 3, 0, 1, 87, 8, []), (.iconst 1, 1, 1, 0, 0, 0, []), (.ireturn, 1, 0, 1, 0, 0, [])]
theorem k_X1_readPart_103 : zk_ckb 1 false (zk_m 31) B_X1_readPart_103 103 = true := by decide +kernel
def B_X1_readPart_123 : List zk_I := [(.aload_n 0, 1, 0, 0, 0, 0, []), (.invokevirtual 88, 3, 0, 1, 33, 1, []), (.ireturn, 1, 0, 1, 0, 0, [])]
theorem k_X1_readPart_123 : zk_ckb 1 false (zk_m 31) B_X1_readPart_123 123 = true := by decide +kernel
def B_X1_readPair_0 : List zk_I := [(.aload_n 0, 1, 0, 0, 0, 0, []), (.getfield 9, 3, 0, 1, 0, 0, []), (.invokevirtual 38, 3, 0, 1, 87, 8, []), (.aload_n 0, 1, 0, 0, 0, 0, []), (.invokevirtual 91, 3, 0, 1, 23, 1, []), (.ifCond .eq 38, 3, 0, 49, 0, 0, []), (.aload_n 0, 1, 0, 0, 0, 0, []), (.invokevirtual 70, 3, 0, 1, 29, 1, []), (.ifCond .eq 31, 3, 0, 49, 0, 0, []), (.aload_n 0, 1, 0, 0, 0, 0, []), (.getfield 9, 3, 0, 1, 0, 0, []), (.bipush 44, 2, 44, 0, 0, 0, []), (.invokevirtual 94, 3, 0, 2, 93, 8, []), (.ifCond .eq 19, 3, 0, 49, 0, 0, []), (.aload_n 0, 1, 0, 0, 0, 0, []), (.invokevirtual 70, 3, 0, 1, 29, 1, []), (.ifCond .eq 12, 3, 0, 49, 0, 0, []), (.aload_n 0, 1, 0, 0, 0, 0, []), (.bipush 41, 2, 41, 0, 0, 0, []), (.invokevirtual 64, 3, 0, 2, 24, 1, []), (.ifCond .ne 5, 3, 0, 51, 0, 0, [])]
theorem k_X1_readPair_0 : zk_ckb 1 false (zk_m 32) B_X1_readPair_0 0 = true := by decide +kernel
def B_X1_readPair_49 : List zk_I := [(.iconst 0, 1, 0, 0, 0, 0, []), (.ireturn, 1, 0, 1, 0, 0, [])]
theorem k_X1_readPair_49 : zk_ckb 1 false (zk_m 32) B_X1_readPair_49 49 = true := by decide +kernel
def B_X1_readPair_51 : List zk_I := [(.aload_n 0, 1, 0, 0, 0, 0, []), (.iload_n 1, 1, 0, 1, 0, 0, []), (.invokevirtual 54, 3, 0, 2, 21, 1, []), (.iconst 1, 1, 1, 0, 0, 0, []), (.ireturn, 1, 0, 1, 0, 0, [])]
theorem k_X1_readPair_51 : zk_ckb 1 false (zk_m 32) B_X1_readPair_51 51 = true := by decide +kernel
def B_X1_readWord_0 : List zk_I := [(.aload_n 0, 1, 0, 0, 0, 0, []), (.getfield 26, 3, 0, 1, 4, 0, []), (.iconst 4, 1, 4, 0, 0, 0, []), (.if_icmp .ne 50, 3, 0, 55, 0, 0, []), (.aload_n 0, 1, 0, 0, 0, 0, []), (.getfield 9, 3, 0, 1, 0, 0, []), (.getfield 41, 3, 0, 8, 1, 0, []), (.sipush 319, 3, 319, 0, 0, 0, []), (.if_icmp .ne 37, 3, 0, 55, 0, 0, []), (.aload_n 0, 1, 0, 0, 0, 0, []), (.invokevirtual 44, 3, 0, 1, 22, 1, []), (.ifCond .eq 10, 3, 0, 35, 0, 0, []), (.aload_n 0, 1, 0, 0, 0, 0, []), (.invokevirtual 76, 3, 0, 1, 31, 1, []), (.ifCond .ne 5, 3, 0, 37, 0, 0, [])]
theorem k_X1_readWord_0 : zk_ckb 1 false (zk_m 33) B_X1_readWord_0 0 = true := by decide +kernel
def B_X1_readWord_35 : List zk_I := [(.iconst 0, 1, 0, 0, 0, 0, []), (.ireturn, 1, 0, 1, 0, 0, [])]
theorem k_X1_readWord_35 : zk_ckb 1 false (zk_m 33) B_X1_readWord_35 35 = true := by decide +kernel
def B_X1_readWord_37 : List zk_I := [(.aload_n 0, 1, 0, 0, 0, 0, []), (.dup, 1, 0, 0, 0, 0, []), (.getfield 29, 3, 0, 1, 5, 0, []), (.iconst 1, 1, 1, 0, 0, 0, []), (.isub, 1, 0, 0, 0, 0, []), (.putfield 29, 3, 0, 1, 5, 0, []), (.aload_n 0, 1, 0, 0, 0, 0, []), (.bipush (-13), 2, (-13), 0, 0, 0, []), (.invokevirtual 54, 3, 0, 2, 21, 1, []), (.iconst 1, 1, 1, 0, 0, 0, []), (.ireturn, 1, 0, 1, 0, 0, [])]
theorem k_X1_readWord_37 : zk_ckb 1 false (zk_m 33) B_X1_readWord_37 37 = true := by decide +kernel
def B_X1_readWord_55 : List zk_I := [(.aload_n 0, 1, 0, 0, 0, 0, []), (.aload_n 0, 1, 0, 0, 0, 0, []), (.getfield 9, 3, 0, 1, 0, 0, []), (.getfield 41, 3, 0, 8, 1, 0, []), (.invokevirtual 97, 3, 0, 2, 34, 1, []), (.istore_n 1, 1, 0, 1, 0, 0, []), (.iload_n 1, 1, 0, 1, 0, 0, []), (.bipush (-22), 2, (-22), 0, 0, 0, []), (.if_icmp .ne 12, 3, 0, 82, 0, 0, []), (.aload_n 0, 1, 0, 0, 0, 0, []), (.getfield 9, 3, 0, 1, 0, 0, []), (.iconst 1, 1, 1, 0, 0, 0, []), (.invokevirtual 32, 3, 0, 2, 86, 8, []), (.ireturn, 1, 0, 1, 0, 0, [])]
theorem k_X1_readWord_55 : zk_ckb 1 false (zk_m 33) B_X1_readWord_55 55 = true := by decide +kernel
def B_X1_readWord_82 : List zk_I := [(.aload_n 0, 1, 0, 0, 0, 0, []), (.iload_n 1, 1, 0, 1, 0, 0, []), (.invokevirtual 54, 3, 0, 2, 21, 1, []), (.aload_n 0, 1, 0, 0, 0, 0, []), (.getfield 9, 3, 0, 1, 0, 0, []), (.invokevirtual 38, 3, 0, 1, 87, 8, []), (.iconst 1, 1, 1, 0, 0, 0, []), (.ireturn, 1, 0, 1, 0, 0, [])]
theorem k_X1_readWord_82 : zk_ckb 1 false (zk_m 33) B_X1_readWord_82 82 = true := by decide +kernel
def B_X1_stepOf_0 : List zk_I := [(.iload_n 1, 1, 0, 1, 0, 0, []), (.tableswitch 189 306 323 #[87, 189, 189, 189, 189, 189, 189, 189, 189, 189, 189, 90, 93, 109, 125, 141, 157, 173], 87, 0, 190, 0, 0, [(306, 88), (307, 190), (308, 190), (309, 190), (310, 190), (311, 190), (312, 190), (313, 190), (314, 190), (315, 190), (316, 190), (317, 91), (318, 94), (319, 110), (320, 126), (321, 142), (322, 158), (323, 174)])]
theorem k_X1_stepOf_0 : zk_ckb 1 false (zk_m 34) B_X1_stepOf_0 0 = true := by decide +kernel
def B_X1_stepOf_88 : List zk_I := [(.bipush (-14), 2, (-14), 0, 0, 0, []), (.ireturn, 1, 0, 0, 0, 0, [])]
theorem k_X1_stepOf_88 : zk_ckb 1 false (zk_m 34) B_X1_stepOf_88 88 = true := by decide +kernel
def B_X1_stepOf_91 : List zk_I := [(.bipush (-15), 2, (-15), 0, 0, 0, []), (.ireturn, 1, 0, 0, 0, 0, [])]
theorem k_X1_stepOf_91 : zk_ckb 1 false (zk_m 34) B_X1_stepOf_91 91 = true := by decide +kernel
def B_X1_stepOf_94 : List zk_I := [(.aload_n 0, 1, 0, 0, 0, 0, []), (.getfield 26, 3, 0, 1, 4, 0, []), (.iconst 4, 1, 4, 0, 0, 0, []), (.if_icmp .eq 8, 3, 0, 107, 0, 0, []), (.bipush (-16), 2, (-16), 0, 0, 0, []), (.goto 5, 3, 0, 109, 0, 0, [])]
theorem k_X1_stepOf_94 : zk_ckb 1 false (zk_m 34) B_X1_stepOf_94 94 = true := by decide +kernel
def B_X1_stepOf_107 : List zk_I := [(.bipush (-22), 2, (-22), 0, 0, 0, [])]
theorem k_X1_stepOf_107 : zk_ckb 1 false (zk_m 34) B_X1_stepOf_107 107 = true := by decide +kernel
def B_X1_stepOf_109 : List zk_I := [(.ireturn, 1, 0, 0, 0, 0, [])]
theorem k_X1_stepOf_109 : zk_ckb 1 false (zk_m 34) B_X1_stepOf_109 109 = true := by decide +kernel
def B_X1_stepOf_110 : List zk_I := [(.aload_n 0, 1, 0, 0, 0, 0, []), (.getfield 26, 3, 0, 1, 4, 0, []), (.iconst 2, 1, 2, 0, 0, 0, []), (.if_icmp .gt 8, 3, 0, 123, 0, 0, []), (.bipush (-17), 2, (-17), 0, 0, 0, []), (.goto 5, 3, 0, 125, 0, 0, [])]
theorem k_X1_stepOf_110 : zk_ckb 1 false (zk_m 34) B_X1_stepOf_110 110 = true := by decide +kernel
def B_X1_stepOf_123 : List zk_I := [(.bipush (-22), 2, (-22), 0, 0, 0, [])]
theorem k_X1_stepOf_123 : zk_ckb 1 false (zk_m 34) B_X1_stepOf_123 123 = true := by decide +kernel
def B_X1_stepOf_125 : List zk_I := [(.ireturn, 1, 0, 0, 0, 0, [])]
theorem k_X1_stepOf_125 : zk_ckb 1 false (zk_m 34) B_X1_stepOf_125 125 = true := by decide +kernel
def B_X1_stepOf_126 : List zk_I := [(.aload_n 0, 1, 0, 0, 0, 0, []), (.getfield 26, 3, 0, 1, 4, 0, []), (.iconst 3, 1, 3, 0, 0, 0, []), (.if_icmp .eq 8, 3, 0, 139, 0, 0, []), (.bipush (-18), 2, (-18), 0, 0, 0, []), (.goto 5, 3, 0, 141, 0, 0, [])]
theorem k_X1_stepOf_126 : zk_ckb 1 false (zk_m 34) B_X1_stepOf_126 126 = true := by decide +kernel
def B_X1_stepOf_139 : List zk_I := [(.bipush (-22), 2, (-22), 0, 0, 0, [])]
theorem k_X1_stepOf_139 : zk_ckb 1 false (zk_m 34) B_X1_stepOf_139 139 = true := by decide +kernel
def B_X1_stepOf_141 : List zk_I := [(.ireturn, 1, 0, 0, 0, 0, [])]
theorem k_X1_stepOf_141 : zk_ckb 1 false (zk_m 34) B_X1_stepOf_141 141 = true := by decide +kernel
def B_X1_stepOf_142 : List zk_I := [(.aload_n 0, 1, 0, 0, 0, 0, []), (.getfield 26, 3, 0, 1, 4, 0, []), (.iconst 3, 1, 3, 0, 0, 0, []), (.if_icmp .lt 8, 3, 0, 155, 0, 0, []), (.bipush (-19), 2, (-19), 0, 0, 0, []), (.goto 5, 3, 0, 157, 0, 0, [])]
theorem k_X1_stepOf_142 : zk_ckb 1 false (zk_m 34) B_X1_stepOf_142 142 = true := by decide +kernel
def B_X1_stepOf_155 : List zk_I := [(.bipush (-22), 2, (-22), 0, 0, 0, [])]
theorem k_X1_stepOf_155 : zk_ckb 1 false (zk_m 34) B_X1_stepOf_155 155 = true := by decide +kernel
def B_X1_stepOf_157 : List zk_I := [(.ireturn, 1, 0, 0, 0, 0, [])]
theorem k_X1_stepOf_157 : zk_ckb 1 false (zk_m 34) B_X1_stepOf_157 157 = true := by decide +kernel
def B_X1_stepOf_158 : List zk_I := [(.aload_n 0, 1, 0, 0, 0, 0, []), (.getfield 26, 3, 0, 1, 4, 0, []), (.iconst 4, 1, 4, 0, 0, 0, []), (.if_icmp .ne 8, 3, 0, 171, 0, 0, []), (.bipush (-20), 2, (-20), 0, 0, 0, []), (.goto 5, 3, 0, 173, 0, 0, [])]
theorem k_X1_stepOf_158 : zk_ckb 1 false (zk_m 34) B_X1_stepOf_158 158 = true := by decide +kernel
def B_X1_stepOf_171 : List zk_I := [(.bipush (-22), 2, (-22), 0, 0, 0, [])]
theorem k_X1_stepOf_171 : zk_ckb 1 false (zk_m 34) B_X1_stepOf_171 171 = true := by decide +kernel
def B_X1_stepOf_173 : List zk_I := [(.ireturn, 1, 0, 0, 0, 0, [])]
theorem k_X1_stepOf_173 : zk_ckb 1 false (zk_m 34) B_X1_stepOf_173 173 = true := by decide +kernel
def B_X1_stepOf_174 : List zk_I := [(.aload_n 0, 1, 0, 0, 0, 0, []), (.getfield 26, 3, 0, 1, 4, 0, []), (.iconst 4, 1, 4, 0, 0, 0, []), (.if_icmp .ne 8, 3, 0, 187, 0, 0, []), (.bipush (-21), 2, (-21), 0, 0, 0, []), (.goto 5, 3, 0, 189, 0, 0, [])]
theorem k_X1_stepOf_174 : zk_ckb 1 false (zk_m 34) B_X1_stepOf_174 174 = true := by decide +kernel
def B_X1_stepOf_187 : List zk_I := [(.bipush (-22), 2, (-22), 0, 0, 0, [])]
theorem k_X1_stepOf_187 : zk_ckb 1 false (zk_m 34) B_X1_stepOf_187 187 = true := by decide +kernel
def B_X1_stepOf_189 : List zk_I := [(.ireturn, 1, 0, 0, 0, 0, [])]
theorem k_X1_stepOf_189 : zk_ckb 1 false (zk_m 34) B_X1_stepOf_189 189 = true := by decide +kernel
def B_X1_stepOf_190 : List zk_I := [(.bipush (-22), 2, (-22), 0, 0, 0, []), (.ireturn, 1, 0, 0, 0, 0, [])]
theorem k_X1_stepOf_190 : zk_ckb 1 false (zk_m 34) B_X1_stepOf_190 190 = true := by decide +kernel
theorem sp_getD_app {c1 c2 : List Int} {i : Nat} : (c1 ++ c2).getD i 0 = if i < c1.length then c1.getD i 0 else c2.getD (i - c1.length) 0 := by
  rw [List.getD_eq_getElem?_getD, List.getD_eq_getElem?_getD, List.getD_eq_getElem?_getD, List.getElem?_append]
  split <;> rfl
section CFo
variable {G : zk_G} {n : Nat} {M : zk_MI} {L : zk_ML} {P : zk_MP}
def zfF (M M' : zk_MI) (qs sz : Nat) : Prop := (∀ q, q ≠ 7 → q ≠ 8 → q ≠ qs → M' q = M q) ∧ (∀ j, j ≠ 3 → j ≠ 5 → M' 8 j = M 8 j) ∧ ∀ k, k < sz → M' qs k = M qs k
/-- the steps cs were written -/
def zfG (M M' : zk_MI) (qs sz : Nat) (cs : List Int) : Prop := zfF M M' qs sz ∧ (∀ i, i < cs.length → M' qs (sz + i) = iI (cs.getD i 0)) ∧ M' 8 3 = nI (sz + cs.length)
theorem zfF_tr {M1 M2 : zk_MI} {qs sz sz1 : Nat} (h : zfF M M1 qs sz) (h2 : zfF M1 M2 qs sz1) (hs : sz ≤ sz1) : zfF M M2 qs sz := ⟨fun q a b c => by rw [h2.1 q a b c]; exact h.1 q a b c, fun j a b => by rw [h2.2.1 j a b]; exact h.2.1 j a b, fun k hk => by rw [h2.2.2 k (by omega)]; exact h.2.2 k hk⟩
theorem zfG_tr {M1 M2 : zk_MI} {qs sz : Nat} {c1 c2 : List Int} (h : zfG M M1 qs sz c1) (h2 : zfG M1 M2 qs (sz + c1.length) c2) : zfG M M2 qs sz (c1 ++ c2) := by
  refine ⟨zfF_tr h.1 h2.1 (by omega), fun i hi => ?_, by rw [h2.2.2, List.length_append]; congr 1; omega⟩
  rw [List.length_append] at hi
  rw [sp_getD_app]
  by_cases e : i < c1.length
  · rw [if_pos e, h2.1.2.2 _ (by omega)]
    exact h.2.1 i e
  · rw [if_neg e]
    have := h2.2.1 (i - c1.length) (by omega)
    rw [show sz + c1.length + (i - c1.length) = sz + i by omega] at this
    exact this
end CFo
