/-! ===== what is read comes to a value ===== -/
def sp_ps (k : Nat) (t : Prop) (cs : List Int) : Prop := ∀ e pn : Int → Int, (∀ c, sp_v (e c)) → (∀ x, sp_v (pn x)) → ∀ stk : List Int, stk.length + k ≤ 64 → ∃ v, sp_v v ∧ (t → v = 0 ∨ v = 1) ∧ sp_rn e pn cs stk = some (v :: stk)
theorem sp_rn_app {e pn : Int → Int} : ∀ (a b stk : List Int), sp_rn e pn (a ++ b) stk = (sp_rn e pn a stk).bind (sp_rn e pn b)
  | [], b, stk => rfl
  | c :: a, b, stk => by
    simp only [List.cons_append, sp_rn]
    cases sp_stp e pn c stk with
    | none => rfl
    | some s => exact sp_rn_app a b s
theorem sp_ps_mono {k k' : Nat} {t : Prop} {cs : List Int} (h : sp_ps k t cs) (hk : k ≤ k') : sp_ps k' t cs := fun e pn he hp stk hs => h e pn he hp stk (by omega)
theorem sp_ps_weak {k : Nat} {t t' : Prop} {cs : List Int} (h : sp_ps k t cs) (ht : t' → t) : sp_ps k t' cs := fun e pn he hp stk hs => by
  obtain ⟨v, h1, h2, h3⟩ := h e pn he hp stk hs
  exact ⟨v, h1, fun z => h2 (ht z), h3⟩
theorem sp_ps_num {c : Int} (h1 : 0 ≤ c) (h2 : c ≤ 9999) : sp_ps 1 (c ≤ 1) [c] := fun e pn he hp stk hs => by
  refine ⟨c, ⟨by omega, by omega⟩, fun z => by omega, ?_⟩
  simp only [sp_rn, sp_stp]
  rw [if_pos h1, if_pos (by omega)]
  rfl
theorem sp_ps_env {c : Int} (h1 : c ≤ -14) : sp_ps 1 False [c] := fun e pn he hp stk hs => by
  refine ⟨e c, he c, fun z => z.elim, ?_⟩
  simp only [sp_rn, sp_stp]
  rw [if_neg (by omega), if_pos h1, if_pos (by omega)]
  rfl
theorem sp_ps_bin {k k1 k2 : Nat} {t1 t2 : Prop} {c : Int} {c1 c2 : List Int} (h1 : sp_ps k1 t1 c1) (h2 : sp_ps k2 t2 c2) (hk1 : k1 ≤ k) (hk2 : k2 + 1 ≤ k) (hc1 : -9 ≤ c) (hc2 : c ≤ -1) : sp_ps k (c ≤ -7) (c1 ++ c2 ++ [c]) := fun e pn he hp stk hs => by
  obtain ⟨a, a1, a2, a3⟩ := h1 e pn he hp stk (by omega)
  obtain ⟨b, b1, b2, b3⟩ := h2 e pn he hp (a :: stk) (by simp only [List.length_cons]; omega)
  refine ⟨sp_join c a b, sp_join_v a1 b1 (fun z => by omega), fun z => ?_, ?_⟩
  · unfold sp_join
    rw [if_neg (by omega), if_neg (by omega), if_neg (by omega), if_neg (by omega), if_neg (by omega), if_neg (by omega)]
    split
    · split <;> simp
    · split
      · split <;> simp
      · split
        · split <;> simp
        · omega
  · rw [sp_rn_app, sp_rn_app, a3]
    show ((sp_rn e pn c2 (a :: stk)).bind (sp_rn e pn [c])) = _
    rw [b3]
    simp only [sp_rn, sp_stp, Option.bind_some]
    rw [if_neg (by omega), if_neg (by omega), if_pos (by omega), if_neg (by omega)]
    rfl
theorem sp_ps_lg {k k1 k2 : Nat} {c : Int} {c1 c2 : List Int} (h1 : sp_ps k1 True c1) (h2 : sp_ps k2 True c2) (hk1 : k1 ≤ k) (hk2 : k2 + 1 ≤ k) (hc1 : -11 ≤ c) (hc2 : c ≤ -10) : sp_ps k True (c1 ++ c2 ++ [c]) := fun e pn he hp stk hs => by
  obtain ⟨a, a1, a2, a3⟩ := h1 e pn he hp stk (by omega)
  obtain ⟨b, b1, b2, b3⟩ := h2 e pn he hp (a :: stk) (by simp only [List.length_cons]; omega)
  have a4 := a2 trivial
  have b4 := b2 trivial
  refine ⟨sp_join c a b, sp_join_v a1 b1 (fun z => ⟨a4, b4⟩), fun z => ?_, ?_⟩
  · unfold sp_join
    rw [if_neg (by omega), if_neg (by omega), if_neg (by omega), if_neg (by omega), if_neg (by omega), if_neg (by omega), if_neg (by omega), if_neg (by omega), if_neg (by omega)]
    split
    · rcases a4 with rfl | rfl <;> rcases b4 with rfl | rfl <;> simp
    · split <;> simp
  · rw [sp_rn_app, sp_rn_app, a3]
    show ((sp_rn e pn c2 (a :: stk)).bind (sp_rn e pn [c])) = _
    rw [b3]
    simp only [sp_rn, sp_stp, Option.bind_some]
    rw [if_neg (by omega), if_neg (by omega), if_pos (by omega), if_pos (by omega), if_pos ⟨a4, b4⟩]
    rfl
theorem sp_ps_of {k : Nat} {t : Prop} {cs : List Int} (h : sp_ps k t cs) : sp_ps k False (cs ++ [-13]) := fun e pn he hp stk hs => by
  obtain ⟨a, a1, a2, a3⟩ := h e pn he hp stk hs
  refine ⟨pn a, hp a, fun z => z.elim, ?_⟩
  rw [sp_rn_app, a3]
  rfl
theorem sp_ps_not {k : Nat} {cs : List Int} (h : sp_ps k True cs) : sp_ps k True (cs ++ [-12]) := fun e pn he hp stk hs => by
  obtain ⟨a, a1, a2, a3⟩ := h e pn he hp stk hs
  have a4 := a2 trivial
  refine ⟨1 - a, ⟨by omega, by omega⟩, fun z => by omega, ?_⟩
  rw [sp_rn_app, a3]
  simp only [sp_rn, sp_stp, Option.bind_some]
  rw [if_neg (by decide), if_neg (by decide), if_neg (by decide), if_neg (by decide), if_pos a4]
  rfl
/-- the steps of a SUM of this sort -/
def sp_cc (sort : Nat) (c : Int) : Prop := (0 ≤ c ∧ c ≤ 9999) ∨ (-6 ≤ c ∧ c ≤ -1) ∨ (sort = 4 ∧ c = -13) ∨ c = -14 ∨ c = -15 ∨ (sort ≠ 4 ∧ c = -16) ∨ (sort ≤ 2 ∧ c = -17) ∨ (sort ≠ 3 ∧ c = -18) ∨ (3 ≤ sort ∧ c = -19) ∨ (sort = 4 ∧ (c = -20 ∨ c = -21))
def sp_ct (c : Int) : Prop := sp_cc 4 c ∨ (-12 ≤ c ∧ c ≤ -7)
def sp_gs (sort k : Nat) (cs : List Int) : Prop := sp_ps k False cs ∧ ∀ c ∈ cs, sp_cc sort c
def sp_gt (k : Nat) (cs : List Int) : Prop := sp_ps k True cs ∧ ∀ c ∈ cs, sp_ct c
def rd_al (T : Nat) (X : sp_F) (B : List Int → Prop) : Prop := ∀ p p' cs, p ≤ T → X p = .inr (p', cs) → B cs
theorem rd_lp_al {f : Nat → Nat} {T : Nat} {a b ca cb : Int} (ha : a ≠ -1) (hb : b ≠ -1) {A B : List Int → Prop} (hA : ∀ c1 c2, A c1 → B c2 → A (c1 ++ c2 ++ [ca]) ∧ A (c1 ++ c2 ++ [cb])) {X : sp_F} (hX : rd_al T X B) (hok : rd_ok T X) : ∀ (j p : Nat) (acc : List Int) (p' : Nat) (cs : List Int), p ≤ T → A acc → rd_lp f T a b ca cb X j p acc = .inr (p', cs) → A cs
  | 0, p, acc, p', cs, hp, h0, h => by
    simp only [rd_lp, Sum.inr.injEq, Prod.mk.injEq] at h
    obtain ⟨rfl, rfl⟩ := h
    exact h0
  | j + 1, p, acc, p', cs, hp, h0, h => by
    simp only [rd_lp] at h
    by_cases hk : tkK f T p = a ∨ tkK f T p = b
    · rw [if_pos hk] at h
      have hpos := tkK_pos (f := f) hp (by rcases hk with z | z <;> rw [z] <;> assumption)
      cases hx : X (tkE f T p) with
      | inl e => rw [hx] at h; cases h
      | inr y =>
        obtain ⟨p1, c1⟩ := y
        rw [hx] at h
        simp only [rd_bind] at h
        have h1 := hok _ _ _ hpos.2.1 hx
        have h2 := hA acc c1 h0 (hX _ _ _ hpos.2.1 hx)
        refine rd_lp_al ha hb hA hX hok j p1 _ p' cs h1.2.1 ?_ h
        split
        · exact h2.1
        · exact h2.2
    · rw [if_neg hk] at h
      simp only [Sum.inr.injEq, Prod.mk.injEq] at h
      obtain ⟨rfl, rfl⟩ := h
      exact h0
theorem rd_bl_al {f : Nat → Nat} {T : Nat} {a b ca cb : Int} (ha : a ≠ -1) (hb : b ≠ -1) {A B : List Int → Prop} (hBA : ∀ c, B c → A c) (hA : ∀ c1 c2, A c1 → B c2 → A (c1 ++ c2 ++ [ca]) ∧ A (c1 ++ c2 ++ [cb])) {X : sp_F} (hX : rd_al T X B) (hok : rd_ok T X) : rd_al T (fun p => rd_bind (X p) (fun p1 cs => rd_lp f T a b ca cb X 1600 p1 cs)) A := by
  intro p p' cs hp h
  simp only at h
  cases hx : X p with
  | inl e => rw [hx] at h; cases h
  | inr y =>
    obtain ⟨p1, c1⟩ := y
    rw [hx] at h
    exact rd_lp_al ha hb hA hX hok 1600 p1 c1 p' cs (hok _ _ _ hp hx).2.1 (hBA _ (hX _ _ _ hp hx)) h
theorem sp_gs_bin {sort k k1 k2 : Nat} {c : Int} {c1 c2 : List Int} (h1 : sp_gs sort k1 c1) (h2 : sp_gs sort k2 c2) (hk1 : k1 ≤ k) (hk2 : k2 + 1 ≤ k) (hc1 : -6 ≤ c) (hc2 : c ≤ -1) : sp_gs sort k (c1 ++ c2 ++ [c]) := by
  refine ⟨sp_ps_weak (sp_ps_bin h1.1 h2.1 hk1 hk2 (by omega) hc2) (fun z => z.elim), fun x hx => ?_⟩
  simp only [List.mem_append, List.mem_singleton] at hx
  rcases hx with (hx | hx) | rfl
  · exact h1.2 x hx
  · exact h2.2 x hx
  · exact Or.inr (Or.inl ⟨hc1, hc2⟩)
theorem sp_gs_mono {sort k k' : Nat} {cs : List Int} (h : sp_gs sort k cs) (hk : k ≤ k') : sp_gs sort k' cs := ⟨sp_ps_mono h.1 hk, h.2⟩
theorem rd_sum_al {f : Nat → Nat} {T sort k : Nat} {X : sp_F} (hX : rd_al T X (sp_gs sort k)) (hok : rd_ok T X) : rd_al T (rd_sum f T X) (sp_gs sort (k + 2)) := by
  have h1 : rd_al T (rd_prod f T X) (sp_gs sort (k + 1)) := rd_bl_al (f := f) (a := 42) (b := 47) (ca := -3) (cb := -4) (A := sp_gs sort (k + 1)) (B := sp_gs sort k) (by decide) (by decide) (fun c h => sp_gs_mono h (by omega)) (fun c1 c2 g1 g2 => ⟨sp_gs_bin g1 g2 (by omega) (by omega) (by decide) (by decide), sp_gs_bin g1 g2 (by omega) (by omega) (by decide) (by decide)⟩) hX hok
  exact rd_bl_al (f := f) (a := 43) (b := 45) (ca := -1) (cb := -2) (A := sp_gs sort (k + 2)) (B := sp_gs sort (k + 1)) (by decide) (by decide) (fun c h => sp_gs_mono h (by omega)) (fun c1 c2 g1 g2 => ⟨sp_gs_bin g1 g2 (by omega) (by omega) (by decide) (by decide), sp_gs_bin g1 g2 (by omega) (by omega) (by decide) (by decide)⟩) h1 (rd_prod_ok hok)
theorem rd_st_cc {sort : Nat} {k c : Int} (h : rd_st sort k = some c) : sp_cc sort c ∧ c ≤ -14 := by
  unfold rd_st at h
  unfold sp_cc
  split at h
  · cases h; omega
  split at h
  · cases h; omega
  split at h
  · split at h
    · cases h
    · cases h; omega
  split at h
  · split at h
    · cases h; omega
    · cases h
  split at h
  · split at h
    · cases h
    · cases h; omega
  split at h
  · split at h
    · cases h; omega
    · cases h
  split at h
  · split at h
    · cases h; omega
    · cases h
  split at h
  · split at h
    · cases h; omega
    · cases h
  · cases h
theorem rd_part_al {f : Nat → Nat} {T sort k : Nat} (hT : T ≤ 1600) (hf : ∀ i, i < T → f i ≤ 255) {nx : Option (sp_F × sp_F)} (hnx : ∀ x, nx = some x → (rd_ok T x.1 ∧ rd_ok T x.2) ∧ rd_al T x.1 (sp_gs sort k) ∧ rd_al T x.2 (sp_gs sort (k + 2))) : rd_al T (rd_part f T sort nx) (sp_gs sort (k + 3)) := by
  intro p p' cs hp h
  rw [rd_part_eq] at h
  by_cases h1 : tkK f T p = 40
  · rw [if_pos h1] at h
    have hpos := tkK_pos (f := f) hp (by rw [h1]; decide)
    cases nx with
    | none => cases h
    | some x =>
      simp only [rd_par] at h
      cases hx : x.2 (tkE f T p) with
      | inl e => rw [hx] at h; cases h
      | inr y =>
        obtain ⟨p1, c1⟩ := y
        rw [hx] at h
        simp only [rd_bind] at h
        have h2 := (hnx x rfl).2.2 _ _ _ hpos.2.1 hx
        split at h
        · cases h
          exact sp_gs_mono h2 (by omega)
        · cases h
  · rw [if_neg h1] at h
    by_cases h2 : tkK f T p = 328 ∨ tkK f T p = 329
    · rw [if_pos h2] at h
      have hpos := tkK_pos (f := f) hp (by rcases h2 with z | z <;> rw [z] <;> decide)
      unfold rd_pr at h
      by_cases h3 : tkK f T (tkE f T p) = 40
      · rw [if_neg (fun z => z h3)] at h
        have hpos2 := tkK_pos (f := f) hpos.2.1 (by rw [h3]; decide)
        cases nx with
        | none => cases h
        | some x =>
          simp only [rd_pair] at h
          obtain ⟨⟨-, o2⟩, -, a2⟩ := hnx x rfl
          cases hx : x.2 (tkE f T (tkE f T p)) with
          | inl e => rw [hx] at h; cases h
          | inr y =>
            obtain ⟨p1, c1⟩ := y
            rw [hx] at h
            simp only [rd_bind] at h
            have g1 := a2 _ _ _ hpos2.2.1 hx
            have q1 := o2 _ _ _ hpos2.2.1 hx
            split at h
            · cases h
            · rename_i h4
              have h4' : tkK f T p1 = 44 := by
                rcases Classical.em (tkK f T p1 = 44) with z | z
                · exact z
                · exact absurd z h4
              have hpos3 := tkK_pos (f := f) q1.2.1 (by rw [h4']; decide)
              cases hx2 : x.2 (tkE f T p1) with
              | inl e => rw [hx2] at h; cases h
              | inr y2 =>
                obtain ⟨p2, c2⟩ := y2
                rw [hx2] at h
                have g2 := a2 _ _ _ hpos3.2.1 hx2
                simp only at h
                split at h
                · simp only [Sum.inr.injEq, Prod.mk.injEq] at h
                  obtain ⟨rfl, rfl⟩ := h
                  split <;> exact sp_gs_bin g1 g2 (by omega) (by omega) (by decide) (by decide)
                · cases h
      · rw [if_pos h3] at h
        cases h
    · rw [if_neg h2] at h
      by_cases h3 : tkK f T p = -2
      · rw [if_pos h3] at h
        cases hq : tk_nb f T p with
        | some pl => rw [hq] at h; cases h
        | none =>
          rw [hq] at h
          simp only [Sum.inr.injEq, Prod.mk.injEq] at h
          obtain ⟨rfl, rfl⟩ := h
          have hr := (tk_rng f hT hp hf).2.2
          refine ⟨sp_ps_mono (sp_ps_weak (sp_ps_num (by omega) (by omega)) (fun z => z.elim)) (by omega), fun x hx => ?_⟩
          rw [List.mem_singleton] at hx
          subst hx
          exact Or.inl ⟨by omega, by omega⟩
      · rw [if_neg h3] at h
        unfold rd_wd at h
        by_cases h5 : sort = 4 ∧ tkK f T p = 319
        · rw [if_pos h5] at h
          have hpos := tkK_pos (f := f) hp (by rw [h5.2]; decide)
          cases nx with
          | none => cases h
          | some x =>
            simp only at h
            cases hx : x.1 (tkE f T p) with
            | inl e => rw [hx] at h; cases h
            | inr y =>
              obtain ⟨p1, c1⟩ := y
              rw [hx] at h
              simp only [rd_bind, Sum.inr.injEq, Prod.mk.injEq] at h
              obtain ⟨rfl, rfl⟩ := h
              have g1 := (hnx x rfl).2.1 _ _ _ hpos.2.1 hx
              refine ⟨sp_ps_mono (sp_ps_of g1.1) (by omega), fun z hz => ?_⟩
              simp only [List.mem_append, List.mem_singleton] at hz
              rcases hz with hz | rfl
              · exact g1.2 z hz
              · exact Or.inr (Or.inr (Or.inl ⟨h5.1, rfl⟩))
        · rw [if_neg h5] at h
          cases hq : rd_st sort (tkK f T p) with
          | none => rw [hq] at h; cases h
          | some c =>
            rw [hq] at h
            simp only [Sum.inr.injEq, Prod.mk.injEq] at h
            obtain ⟨rfl, rfl⟩ := h
            have g := rd_st_cc hq
            refine ⟨sp_ps_mono (sp_ps_env g.2) (by omega), fun z hz => ?_⟩
            rw [List.mem_singleton] at hz
            subst hz
            exact g.1
theorem rd_lev_al (f : Nat → Nat) (T sort : Nat) (hT : T ≤ 1600) (hf : ∀ i, i < T → f i ≤ 255) : ∀ d, rd_al T (rd_lev f T sort d).1 (sp_gs sort (3 * d + 3)) ∧ rd_al T (rd_lev f T sort d).2 (sp_gs sort (3 * d + 5))
  | 0 => by
    have h := rd_part_al (f := f) (T := T) (sort := sort) (k := 0) hT hf (nx := none) (fun x hx => by cases hx)
    exact ⟨h, rd_sum_al h (rd_lev_ok f T sort 0).1⟩
  | d + 1 => by
    have ih := rd_lev_al f T sort hT hf d
    have h := rd_part_al (f := f) (T := T) (sort := sort) (k := 3 * d + 3) hT hf (nx := some (rd_lev f T sort d)) (fun x hx => by cases hx; exact ⟨rd_lev_ok f T sort d, ih⟩)
    exact ⟨h, rd_sum_al h (rd_lev_ok f T sort (d + 1)).1⟩
theorem sp_cc_okc {k : Nat} (hk : k < 4) {c : Int} (h : sp_cc k c) : sp_okc k c := by
  unfold sp_cc at h
  unfold sp_okc
  omega
theorem sp_ct_rng {c : Int} (h : sp_ct c) : -22 < c ∧ c ≤ 9999 := by
  unfold sp_ct sp_cc at h
  omega
theorem sp_cc_rng {k : Nat} {c : Int} (h : sp_cc k c) : -22 < c ∧ c ≤ 9999 := by
  unfold sp_cc at h
  omega
theorem rd_rok {f : Nat → Nat} {T k p p' : Nat} {cs : List Int} (hT : T ≤ 1600) (hf : ∀ i, i < T → f i ≤ 255) (hp : p ≤ T) (h : (rd_lev f T k 6).2 p = .inr (p', cs)) : sp_rok cs ∧ ∀ c ∈ cs, sp_cc k c := by
  have h1 := (rd_lev_al f T k hT hf 6).2 _ _ _ hp h
  have h2 := (rd_lev_ok f T k 6).2 _ _ _ hp h
  refine ⟨⟨fun c hc => sp_cc_rng (h1.2 c hc), by omega, fun e pn he hpn => ?_⟩, h1.2⟩
  obtain ⟨v, v1, -, v3⟩ := h1.1 e pn he hpn [] (by simp)
  exact ⟨v, v3⟩
theorem sp_gt_lg {k k1 k2 : Nat} {c : Int} {c1 c2 : List Int} (h1 : sp_gt k1 c1) (h2 : sp_gt k2 c2) (hk1 : k1 ≤ k) (hk2 : k2 + 1 ≤ k) (hc1 : -11 ≤ c) (hc2 : c ≤ -10) : sp_gt k (c1 ++ c2 ++ [c]) := by
  refine ⟨sp_ps_lg h1.1 h2.1 hk1 hk2 hc1 hc2, fun x hx => ?_⟩
  simp only [List.mem_append, List.mem_singleton] at hx
  rcases hx with (hx | hx) | rfl
  · exact h1.2 x hx
  · exact h2.2 x hx
  · exact Or.inr ⟨by omega, by omega⟩
theorem sp_gt_mono {k k' : Nat} {cs : List Int} (h : sp_gt k cs) (hk : k ≤ k') : sp_gt k' cs := ⟨sp_ps_mono h.1 hk, h.2⟩
theorem rt_cmp_al {f : Nat → Nat} {T k : Nat} {sm : sp_F} (hs : rd_al T sm (sp_gs 4 k)) (hok : rd_ok T sm) : rd_al T (rt_cmp f T sm) (sp_gt (k + 1)) := by
  intro p p' cs hp h
  unfold rt_cmp at h
  cases hx : sm p with
  | inl e => rw [hx] at h; cases h
  | inr y =>
    obtain ⟨p1, c1⟩ := y
    rw [hx] at h
    have h1 := hok _ _ _ hp hx
    have g1 := hs _ _ _ hp hx
    simp only [rd_bind] at h
    split at h
    · rename_i hk
      have hpos := tkK_pos (f := f) h1.2.1 (by rcases hk with z | z | z <;> rw [z] <;> decide)
      cases hx2 : sm (tkE f T p1) with
      | inl e => rw [hx2] at h; cases h
      | inr y2 =>
        obtain ⟨p2, c2⟩ := y2
        rw [hx2] at h
        have g2 := hs _ _ _ hpos.2.1 hx2
        simp only [Sum.inr.injEq, Prod.mk.injEq] at h
        obtain ⟨rfl, rfl⟩ := h
        generalize hop : (if tkK f T p1 = 60 then (-7 : Int) else if tkK f T p1 = 62 then -8 else -9) = op
        have hop2 : -9 ≤ op ∧ op ≤ -7 := by
          rw [← hop]
          split
          · omega
          · split <;> omega
        refine ⟨sp_ps_weak (sp_ps_bin g1.1 g2.1 (by omega) (by omega) (by omega) (by omega)) (fun _ => by omega), fun x hx => ?_⟩
        simp only [List.mem_append, List.mem_singleton] at hx
        rcases hx with (hx | hx) | rfl
        · exact Or.inl (g1.2 x hx)
        · exact Or.inl (g2.2 x hx)
        · exact Or.inr ⟨by omega, by omega⟩
    · cases h
theorem rt_fact_al {f : Nat → Nat} {T k : Nat} {sm : sp_F} (hs : rd_al T sm (sp_gs 4 k)) (hok : rd_ok T sm) {nx : Option (sp_F × sp_F)} (hnx : ∀ x, nx = some x → rd_al T x.1 (sp_gt (k + 1)) ∧ rd_al T x.2 (sp_gt (k + 1))) : rd_al T (rt_fact f T sm nx) (sp_gt (k + 1)) := by
  intro p p' cs hp h
  unfold rt_fact at h
  by_cases h1 : tkK f T p = 326
  · rw [if_pos h1] at h
    have hpos := tkK_pos (f := f) hp (by rw [h1]; decide)
    cases nx with
    | none => cases h
    | some x =>
      simp only at h
      cases hx : x.1 (tkE f T p) with
      | inl e => rw [hx] at h; cases h
      | inr y =>
        obtain ⟨p1, c1⟩ := y
        rw [hx] at h
        simp only [rd_bind, Sum.inr.injEq, Prod.mk.injEq] at h
        obtain ⟨rfl, rfl⟩ := h
        have g1 := (hnx x rfl).1 _ _ _ hpos.2.1 hx
        refine ⟨sp_ps_not g1.1, fun z hz => ?_⟩
        simp only [List.mem_append, List.mem_singleton] at hz
        rcases hz with hz | rfl
        · exact g1.2 z hz
        · exact Or.inr ⟨by omega, by omega⟩
  · rw [if_neg h1] at h
    by_cases h2 : tkK f T p = 91
    · rw [if_pos h2] at h
      have hpos := tkK_pos (f := f) hp (by rw [h2]; decide)
      cases nx with
      | none => cases h
      | some x =>
        simp only at h
        cases hx : x.2 (tkE f T p) with
        | inl e => rw [hx] at h; cases h
        | inr y =>
          obtain ⟨p1, c1⟩ := y
          rw [hx] at h
          simp only [rd_bind] at h
          split at h
          · cases h
            exact (hnx x rfl).2 _ _ _ hpos.2.1 hx
          · cases h
    · rw [if_neg h2] at h
      by_cases h3 : tkK f T p = 327
      · rw [if_pos h3] at h
        simp only [Sum.inr.injEq, Prod.mk.injEq] at h
        obtain ⟨rfl, rfl⟩ := h
        refine ⟨sp_ps_mono (sp_ps_weak (sp_ps_num (by decide) (by decide)) (fun _ => by decide)) (by omega), fun z hz => ?_⟩
        rw [List.mem_singleton] at hz
        subst hz
        exact Or.inl (Or.inl ⟨by omega, by omega⟩)
      · rw [if_neg h3] at h
        exact rt_cmp_al hs hok _ _ _ hp h
theorem rt_test_al {f : Nat → Nat} {T k : Nat} {X : sp_F} (hX : rd_al T X (sp_gt k)) (hok : rd_ok T X) : rd_al T (rt_test f T X) (sp_gt (k + 2)) := by
  have h1 : rd_al T (rt_both f T X) (sp_gt (k + 1)) := rd_bl_al (f := f) (a := 325) (b := 325) (ca := -10) (cb := -10) (A := sp_gt (k + 1)) (B := sp_gt k) (by decide) (by decide) (fun c h => sp_gt_mono h (by omega)) (fun c1 c2 g1 g2 => ⟨sp_gt_lg g1 g2 (by omega) (by omega) (by decide) (by decide), sp_gt_lg g1 g2 (by omega) (by omega) (by decide) (by decide)⟩) hX hok
  exact rd_bl_al (f := f) (a := 324) (b := 324) (ca := -11) (cb := -11) (A := sp_gt (k + 2)) (B := sp_gt (k + 1)) (by decide) (by decide) (fun c h => sp_gt_mono h (by omega)) (fun c1 c2 g1 g2 => ⟨sp_gt_lg g1 g2 (by omega) (by omega) (by decide) (by decide), sp_gt_lg g1 g2 (by omega) (by omega) (by decide) (by decide)⟩) h1 (rd_bl_ok (by decide) (by decide) hok)
theorem rt_lev_al (f : Nat → Nat) (T : Nat) (hT : T ≤ 1600) (hf : ∀ i, i < T → f i ≤ 255) : ∀ d, rd_al T (rt_lev f T 4 d).1 (sp_gt (3 * d + 6)) ∧ rd_al T (rt_lev f T 4 d).2 (sp_gt (3 * d + 8))
  | 0 => by
    have h := rt_fact_al (f := f) (rd_lev_al f T 4 hT hf 0).2 (rd_lev_ok f T 4 0).2 (nx := none) (fun x hx => by cases hx)
    exact ⟨h, rt_test_al h (rt_lev_ok f T 4 0).1⟩
  | d + 1 => by
    have ih := rt_lev_al f T hT hf d
    have h := rt_fact_al (f := f) (rd_lev_al f T 4 hT hf (d + 1)).2 (rd_lev_ok f T 4 (d + 1)).2 (nx := some (rt_lev f T 4 d)) (fun x hx => by
      cases hx
      exact ⟨fun p p' cs a b => sp_gt_mono (ih.1 p p' cs a b) (by omega), fun p p' cs a b => sp_gt_mono (ih.2 p p' cs a b) (by omega)⟩)
    exact ⟨h, rt_test_al h (rt_lev_ok f T 4 (d + 1)).1⟩
theorem rt_rok {f : Nat → Nat} {T p p' : Nat} {cs : List Int} (hT : T ≤ 1600) (hf : ∀ i, i < T → f i ≤ 255) (hp : p ≤ T) (h : (rt_lev f T 4 6).2 p = .inr (p', cs)) : sp_rok cs ∧ (∀ c ∈ cs, sp_ct c) ∧ sp_ps 64 True cs := by
  have h1 := (rt_lev_al f T hT hf 6).2 _ _ _ hp h
  have h2 := (rt_lev_ok f T 4 6).2 _ _ _ hp h
  refine ⟨⟨fun c hc => sp_ct_rng (h1.2 c hc), by omega, fun e pn he hpn => ?_⟩, h1.2, sp_ps_mono h1.1 (by omega)⟩
  obtain ⟨v, v1, -, v3⟩ := h1.1 e pn he hpn [] (by simp)
  exact ⟨v, v3⟩
