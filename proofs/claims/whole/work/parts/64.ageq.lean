/-! ===== against the thief ===== -/
theorem sp_alT_iff {H : (Nat → Nat → Nat) → Bool} {V : sp_V} {day who : Nat} {f : Nat → Nat → Nat} : ∀ j t, sp_alT H V day who f j t = true ↔ ∀ u, t ≤ u → u < t + j → H (sp_dim V day 1023 (sp_rob V who f u)) = true
  | 0, t => by simp [sp_alT]; intro u h1 h2; omega
  | j + 1, t => by
    simp only [sp_alT, Bool.and_eq_true]
    rw [sp_alT_iff j (t + 1)]
    constructor
    · intro z u h1 h2
      by_cases e : u = t
      · subst e; exact z.1
      · exact z.2 u (by omega) (by omega)
    · intro z
      exact ⟨z t (by omega) (by omega), fun u h1 h2 => z u (by omega) (by omega)⟩
theorem sp_exS_iff {O : (Nat → Nat → Nat) → Bool} {V : sp_V} {day : Nat} {st : Nat → Nat} {who : Nat} {pt : Nat → Nat → Nat} : ∀ j i, sp_exS O V day st who pt j i = true ↔ ∃ u, i ≤ u ∧ u < i + j ∧ sp_cO pt who (sp_oi u) = true ∧ O (sp_sO V day st pt who (sp_oi u)) = true
  | 0, i => by simp [sp_exS]; intro u h1 h2; omega
  | j + 1, i => by
    simp only [sp_exS, Bool.or_eq_true, Bool.and_eq_true]
    rw [sp_exS_iff j (i + 1)]
    constructor
    · rintro (z | ⟨u, h1, h2, h3⟩)
      · exact ⟨i, by omega, by omega, z⟩
      · exact ⟨u, by omega, by omega, h3⟩
    · rintro ⟨u, h1, h2, h3⟩
      by_cases e : u = i
      · subst e; exact Or.inl h3
      · exact Or.inr ⟨u, by omega, by omega, h3⟩
theorem sp_any_iff {O : (Nat → Nat → Nat) → Bool} {V : sp_V} {day : Nat} {st : Nat → Nat} {who gt : Nat} {pt : Nat → Nat → Nat} : ∀ j t, sp_any O V day st who gt pt j t = true ↔ ∃ u, t ≤ u ∧ u < t + j ∧ gt.testBit u = true ∧ O (sp_hr V day st pt who u (vNq V)).1 = true
  | 0, t => by simp [sp_any]; intro u h1 h2; omega
  | j + 1, t => by
    simp only [sp_any]
    split
    · rename_i z
      exact ⟨fun _ => ⟨t, by omega, by omega, z⟩, fun _ => rfl⟩
    · rename_i z
      rw [sp_any_iff j (t + 1)]
      constructor
      · rintro ⟨u, h1, h2, h3⟩
        exact ⟨u, by omega, by omega, h3⟩
      · rintro ⟨u, h1, h2, h3⟩
        by_cases e : u = t
        · subst e; exact absurd h3 z
        · exact ⟨u, by omega, by omega, h3⟩
theorem sp_out_iff {H : (Nat → Nat → Nat) → Bool} {V : sp_V} {day who gt : Nat} {f : Nat → Nat → Nat} (hi : ∀ u u', gt.testBit u = false → gt.testBit u' = false → H (sp_dim V day gt (sp_rob V who f u)) = H (sp_dim V day gt (sp_rob V who f u'))) : ∀ j t idle, (idle = true → ∀ u, gt.testBit u = false → H (sp_dim V day gt (sp_rob V who f u)) = true) → (sp_out H V day who gt f j t idle = true ↔ ∀ u, t ≤ u → u < t + j → H (sp_dim V day gt (sp_rob V who f u)) = true)
  | 0, t, idle, _ => by simp [sp_out]; intro u h1 h2; omega
  | j + 1, t, idle, hid => by
    simp only [sp_out]
    by_cases h1 : gt.testBit t = false ∧ idle = true
    · rw [if_pos h1, sp_out_iff hi j (t + 1) idle hid]
      constructor
      · intro z u h2 h3
        by_cases e : u = t
        · subst e; exact hid h1.2 u h1.1
        · exact z u (by omega) (by omega)
      · intro z u h2 h3; exact z u (by omega) (by omega)
    · rw [if_neg h1]
      by_cases h2 : H (sp_dim V day gt (sp_rob V who f t)) = false
      · rw [if_pos h2]
        constructor
        · intro z; cases z
        · intro z; have := z t (by omega) (by omega); rw [h2] at this; cases this
      · rw [if_neg h2]
        simp only [Bool.not_eq_false] at h2
        rw [sp_out_iff hi j (t + 1) _ (fun hq u hu => by
          simp only [Bool.or_eq_true, Bool.not_eq_true'] at hq
          rcases hq with z | z
          · exact hid z u hu
          · rw [hi u t hu z]; exact h2)]
        constructor
        · intro z u h3 h4
          by_cases e : u = t
          · subst e; exact h2
          · exact z u (by omega) (by omega)
        · intro z u h3 h4; exact z u (by omega) (by omega)
theorem sp_rob_ag {V : sp_V} {th who : Nat} {f g : Nat → Nat → Nat} (h : sp_ag th f g) (u : Nat) : sp_ag th (sp_rob V who f u) (sp_rob V who g u) := by
  intro p t ht
  unfold sp_rob sp_up2
  split
  · rename_i e
    rw [h who u (by rw [← e.2]; exact ht)]
  · exact h p t ht
theorem sp_rob_zero {V : sp_V} {who : Nat} {f : Nat → Nat → Nat} {p t : Nat} (h : f p t = 0) (u : Nat) : sp_rob V who f u p t = 0 := by
  unfold sp_rob sp_up2
  split
  · rename_i e; rw [← e.1, ← e.2, h]; omega
  · exact h
theorem sp_sO_zero {V : sp_V} {day : Nat} {st : Nat → Nat} {pt : Nat → Nat → Nat} {who t : Nat} (h : pt who t = 0) {o : Option Nat} (hc : sp_cO pt who o = true) : sp_sO V day st pt who o who t = 0 := by
  cases o with
  | none => exact h
  | some u =>
    simp only [sp_cO, decide_eq_true_eq] at hc
    show (sp_hr V day st pt who u (vNq V)).1 who t = 0
    rw [sp_hr_col (fun e => hc (by rw [e]; exact h))]
    exact h
theorem sp_mh_zero {V : sp_V} {st : Nat → Nat} {who which : Nat} (hN : 0 < vNt V) : ∀ d day pt, pt who which = 0 → sp_mh V st who which d day pt = false
  | 0, day, pt, h => by simp [sp_mh, h]
  | d + 1, day, pt, h => by
    cases hq : sp_mh V st who which (d + 1) day pt with
    | false => rfl
    | true =>
      exfalso
      simp only [sp_mh] at hq
      obtain ⟨i, _, _, hc, hO⟩ := (sp_exS_iff _ _).mp hq
      have := (sp_alT_iff _ _).mp hO 0 (by omega) (by omega)
      rw [sp_mh_zero hN d (day + 1) _ (sp_dim_zero (sp_rob_zero (sp_sO_zero h hc) 0))] at this
      cases this
theorem sp_hold_eq {V : sp_V} (hw : sp_vw V) {st : Nat → Nat} {who which : Nat} (hp : who < vNq V) (ht : which < vNt V) : ∀ d day pt pt', sp_ag (sp_wr (vHg V) (2 ^ which) (vNt V)) pt pt' → sp_hold V st who which (sp_wr (vHg V) (2 ^ which) (vNt V)) d day pt = sp_mh V st who which d day pt'
  | 0, day, pt, pt', h => by
    simp only [sp_hold, sp_mh]
    rw [h who which (sp_wr_self _ _)]
  | d + 1, day, pt, pt', h => by
    have IH := sp_hold_eq hw (st := st) hp ht d
    have h10 := hw.2.2.1
    have hcz := sp_wr_cz hw (2 ^ which)
    have hself : (sp_wr (vHg V) (2 ^ which) (vNt V)).testBit which = true := sp_wr_self _ _
    have hgl : ∀ u, (sp_wr (vHg V) (2 ^ which) (vNt V)).testBit u = true → u < vNt V := by
      refine sp_wr_min (K := fun u => u < vNt V) (vNt V) _ (fun u hu => ?_) (fun u hu _ w hww => ?_)
      · rw [sp_tb_pow] at hu; simp at hu; omega
      · rcases Nat.lt_or_ge w u with q | q
        · omega
        · rw [Nat.testBit_lt_two_pow (Nat.lt_of_lt_of_le (hw.2.2.2.2.2.1 u hu) (Nat.pow_le_pow_right (by decide) q))] at hww; cases hww
    have hmin : ∀ X : Nat → Nat → Nat, (∀ t, t < vNt V → X who t ≠ 0 → ∀ u, (vHg V t).testBit u = true → X who u ≠ 0) → X who which ≠ 0 → ∀ u, (sp_wr (vHg V) (2 ^ which) (vNt V)).testBit u = true → X who u ≠ 0 := fun X h1 h2 => sp_wr_min (K := fun u => X who u ≠ 0) (vNt V) _ (fun u hu => by rw [sp_tb_pow] at hu; simp at hu; rw [← hu]; exact h2) h1
    generalize sp_wr (vHg V) (2 ^ which) (vNt V) = gt at *
    /- what outlives the theft -/
    have hO : ∀ f f', sp_ag gt f f' → sp_out (sp_hold V st who which gt d (day + 1)) V day who gt f (vNt V) 0 false = sp_alT (sp_mh V st who which d (day + 1)) V day who f' (vNt V) 0 := by
      intro f f' hff
      have hstep : ∀ u, sp_hold V st who which gt d (day + 1) (sp_dim V day gt (sp_rob V who f u)) = sp_mh V st who which d (day + 1) (sp_dim V day 1023 (sp_rob V who f' u)) := fun u => IH _ _ _ (sp_dim_ag hw hcz (sp_rob_ag hff u))
      have hoff : ∀ u, gt.testBit u = false → sp_hold V st who which gt d (day + 1) (sp_dim V day gt (sp_rob V who f u)) = sp_mh V st who which d (day + 1) (sp_dim V day 1023 f') := fun u hu => IH _ _ _ (sp_dim_ag hw hcz (sp_ag_tr (sp_up2_off hu who _) hff))
      apply sp_b_eq
      rw [sp_out_iff (fun u u' h1 h2 => by rw [hoff u h1, hoff u' h2]) (vNt V) 0 false (fun z => by cases z), sp_alT_iff]
      constructor
      · intro z u h1 h2; rw [← hstep u]; exact z u h1 h2
      · intro z u h1 h2; rw [hstep u]; exact z u h1 h2
    have hA : ∀ f' g', sp_ag gt f' g' → sp_alT (sp_mh V st who which d (day + 1)) V day who f' (vNt V) 0 = sp_alT (sp_mh V st who which d (day + 1)) V day who g' (vNt V) 0 := fun f' g' hfg => by rw [← hO f' f' (sp_ag_rf _ _), hO f' g' hfg]
    apply sp_b_eq
    simp only [sp_hold, sp_mh, Bool.and_eq_true, Bool.or_eq_true]
    rw [sp_exS_iff, sp_any_iff, hO pt pt' h]
    constructor
    · rintro ⟨hk, z | ⟨u, h1, h2, h3, h4⟩⟩
      · exact ⟨0, by omega, by omega, rfl, z⟩
      · refine ⟨u + 1, by omega, by omega, ?_, ?_⟩
        · have := (zn_in_iff _ _).mp hk u h3
          rw [sp_kn_bit] at this
          simp at this
          simp only [sp_oi, sp_cO, decide_eq_true_eq]
          rw [← h who u h3]
          exact this.2
        · rw [hO _ _ (sp_hr_ag (day := day) (st := st) (who := who) hcz h h3 (hgl u h3) (vNq V))] at h4
          exact h4
    · rintro ⟨i, h1, h2, hc, hAi⟩
      have hknow : ∀ u, gt.testBit u = true → pt' who u ≠ 0 := by
        intro u hu hz
        have hX := (sp_alT_iff _ _).mp hAi which (by omega) (by omega)
        have hX0 := sp_dim_zero (V := V) (day := day) (th := 1023) (sp_rob_zero (V := V) (who := who) (sp_sO_zero (V := V) (day := day) (st := st) hz hc) which)
        have hXw : sp_dim V day 1023 (sp_rob V who (sp_sO V day st pt' who (sp_oi i)) which) who which = 0 := by
          rcases Nat.eq_zero_or_pos (sp_dim V day 1023 (sp_rob V who (sp_sO V day st pt' who (sp_oi i)) which) who which) with q | q
          · exact q
          · exact absurd hX0 (hmin _ (fun t htl hne => sp_dim_root hw hp htl hne) (by omega) u hu)
        rw [sp_mh_zero (by omega) d (day + 1) _ hXw] at hX
        cases hX
      refine ⟨?_, ?_⟩
      · rw [zn_in_iff]
        intro u hu
        rw [sp_kn_bit]
        have := hgl u hu
        have := hknow u hu
        rw [← h who u hu] at this
        simp
        omega
      · cases i with
        | zero => exact Or.inl hAi
        | succ t =>
          by_cases hgt : gt.testBit t = true
          · refine Or.inr ⟨t, by omega, by omega, hgt, ?_⟩
            rw [hO _ _ (sp_hr_ag (day := day) (st := st) (who := who) hcz h hgt (hgl t hgt) (vNq V))]
            exact hAi
          · simp only [Bool.not_eq_true] at hgt
            refine Or.inl ?_
            rw [hA pt' _ (sp_ag_sy (sp_hr_off (V := V) (day := day) (st := st) (who := who) hgt (vNq V)))]
            exact hAi
