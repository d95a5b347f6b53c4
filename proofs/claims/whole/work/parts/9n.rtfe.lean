/-! ===== a TEST's FAULTS ===== -/
theorem rt_fe_cmp {f : Nat → Nat} {T : Nat} {sm : sp_F} (hX : ∀ p e, sm p = .inl e → e.1 ≤ 4) (p : Nat) (e : Nat × Nat) (h : rt_cmp f T sm p = .inl e) : e.1 ≤ 4 := by
  unfold rt_cmp at h
  rcases hx : sm p with e1 | ⟨p1, cs⟩
  · rw [hx] at h; cases h; exact hX _ _ hx
  · rw [hx] at h
    simp only [rd_bind] at h
    split at h
    · rcases hx2 : sm (tkE f T p1) with e1 | ⟨p2, c2⟩
      · rw [hx2] at h; cases h; exact hX _ _ hx2
      · rw [hx2] at h; cases h
    · cases h; exact (by decide : (1 : Nat) ≤ 4)
theorem rt_fe_fact {f : Nat → Nat} {T : Nat} {sm : sp_F} {nx : Option (sp_F × sp_F)} (hX : ∀ p e, sm p = .inl e → e.1 ≤ 4) (hnx : ∀ x, nx = some x → (∀ p e, x.1 p = .inl e → e.1 ≤ 4) ∧ ∀ p e, x.2 p = .inl e → e.1 ≤ 4) (p : Nat) (e : Nat × Nat) (h : rt_fact f T sm nx p = .inl e) : e.1 ≤ 4 := by
  unfold rt_fact at h
  split at h
  · cases nx with
    | none => cases h; exact (by decide : (4 : Nat) ≤ 4)
    | some x =>
      simp only at h
      rcases hx : x.1 (tkE f T p) with e1 | ⟨p1, cs⟩
      · rw [hx] at h; cases h; exact (hnx x rfl).1 _ _ hx
      · rw [hx] at h; cases h
  · split at h
    · cases nx with
      | none => cases h; exact (by decide : (4 : Nat) ≤ 4)
      | some x =>
        simp only at h
        rcases hx : x.2 (tkE f T p) with e1 | ⟨p1, cs⟩
        · rw [hx] at h; cases h; exact (hnx x rfl).2 _ _ hx
        · rw [hx] at h
          simp only [rd_bind] at h
          split at h
          · cases h
          · cases h; exact (by decide : (1 : Nat) ≤ 4)
    · split at h
      · cases h
      · exact rt_fe_cmp hX p e h
theorem rt_fe_test {f : Nat → Nat} {T : Nat} {X : sp_F} (hX : ∀ p e, X p = .inl e → e.1 ≤ 4) : ∀ p e, rt_test f T X p = .inl e → e.1 ≤ 4 := fun p e h => rd_fe_bl (X := rt_both f T X) (fun p e h => rd_fe_bl hX p e h) p e h
theorem rt_fe_lev (f : Nat → Nat) (T : Nat) : ∀ d, (∀ p e, (rt_lev f T 4 d).1 p = .inl e → e.1 ≤ 4) ∧ ∀ p e, (rt_lev f T 4 d).2 p = .inl e → e.1 ≤ 4
  | 0 => by
    have h : ∀ p e, rt_fact f T (rd_lev f T 4 0).2 none p = .inl e → e.1 ≤ 4 := rt_fe_fact (rd_fe_lev f T 4 0).2 (fun x hx => by cases hx)
    exact ⟨h, rt_fe_test h⟩
  | d + 1 => by
    have ih := rt_fe_lev f T d
    have h : ∀ p e, rt_fact f T (rd_lev f T 4 (d + 1)).2 (some (rt_lev f T 4 d)) p = .inl e → e.1 ≤ 4 := rt_fe_fact (rd_fe_lev f T 4 (d + 1)).2 (fun x hx => by cases hx; exact ih)
    exact ⟨h, rt_fe_test h⟩
