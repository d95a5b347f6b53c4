/-! ===== fewest to keep: chosen thing by thing, or set by set ===== -/
theorem sp_dim_ag2 {V : sp_V} (hw : sp_vw V) {day th : Nat} (hc : sp_cz V th) {f g : Nat → Nat → Nat} (h : sp_ag th f g) : sp_ag th (sp_dim V day 1023 f) (sp_dim V day 1023 g) := sp_ag_tr (sp_ag_sy (sp_dim_ag hw hc (sp_ag_rf th f))) (sp_dim_ag hw hc h)
theorem sp_sy_ag {V : sp_V} {day : Nat} {st : Nat → Nat} {who th m m' : Nat} (hc : sp_cz V th) (hm : ∀ u, th.testBit u = true → m.testBit u = m'.testBit u) {f g : Nat → Nat → Nat} (h : sp_ag th f g) : ∀ k, k ≤ vNt V → sp_ag th (sp_sy V day st who m f k) (sp_sy V day st who m' g k)
  | 0, _ => h
  | k + 1, hk => by
    have ih := sp_sy_ag (day := day) (st := st) (who := who) hc hm h k (by omega)
    simp only [sp_sy]
    by_cases hb : th.testBit k = true
    · rw [hm k hb, ih who k hb]
      split
      · exact sp_hr_ag hc ih hb (by omega) _
      · exact ih
    · simp only [Bool.not_eq_true] at hb
      have off := fun (F : Nat → Nat → Nat) => sp_hr_off (V := V) (day := day) (st := st) (th := th) (f := F) (who := who) hb (vNq V)
      split
      · split
        · exact sp_ag_tr (off _) (sp_ag_tr ih (sp_ag_sy (off _)))
        · exact sp_ag_tr (off _) ih
      · split
        · exact sp_ag_tr ih (sp_ag_sy (off _))
        · exact ih
theorem sp_sy_cut {V : sp_V} {day : Nat} {st : Nat → Nat} {who m : Nat} {f : Nat → Nat → Nat} {a : Nat} (h : ∀ u, a ≤ u → m.testBit u = false) : ∀ k, a ≤ k → sp_sy V day st who m f k = sp_sy V day st who m f a
  | 0, hk => by rw [show a = 0 by omega]
  | k + 1, hk => by
    by_cases e : a = k + 1
    · rw [e]
    · have ih := sp_sy_cut (V := V) (day := day) (st := st) (who := who) (f := f) h k (by omega)
      simp only [sp_sy]
      rw [if_neg (fun z => by rw [h k (by omega)] at z; exact absurd z.1 (by decide)), ih]
theorem sp_kp_st {V : sp_V} {s : sp_S} {who m : Nat} : ∀ k, sSt (sp_kp V who m s k) = sSt s
  | 0 => rfl
  | k + 1 => sp_kp_st (V := V) (s := s) (who := who) (m := m) k
theorem sp_kp_s (V : sp_V) (s : sp_S) (who m i : Nat) : sPt (sp_kp V who m s (i + 1)) = sp_dim V (sDay s + i) 1023 (sp_sy V (sDay s + i) (sSt s) who m (sPt (sp_kp V who m s i)) (vNt V)) := by
  show sp_dim V (sDay (sp_kp V who m s i)) 1023 (sp_sy V (sDay (sp_kp V who m s i)) (sSt (sp_kp V who m s i)) who m (sPt (sp_kp V who m s i)) (vNt V)) = _
  rw [sp_kp_day, sp_kp_st]
theorem sp_kp_ag {V : sp_V} (hw : sp_vw V) {s : sp_S} {who th m m' : Nat} (hc : sp_cz V th) (hm : ∀ u, th.testBit u = true → m.testBit u = m'.testBit u) : ∀ k, sp_ag th (sPt (sp_kp V who m s k)) (sPt (sp_kp V who m' s k))
  | 0 => sp_ag_rf _ _
  | k + 1 => by
    rw [sp_kp_s, sp_kp_s]
    exact sp_dim_ag2 hw hc (sp_sy_ag hc hm (sp_kp_ag hw hc hm k) _ (Nat.le_refl _))
/-! what is gone stays gone -/
theorem sp_hr_col {V : sp_V} {day : Nat} {st : Nat → Nat} {f : Nat → Nat → Nat} {who u t : Nat} (h : u ≠ t) (q p : Nat) : (sp_hr V day st f who u q).1 p t = f p t := sp_hr_off (th := 2 ^ t) (by rw [sp_tb_pow]; simp; omega) q p t (by rw [sp_tb_pow]; simp)
theorem sp_sy_zero {V : sp_V} {day : Nat} {st : Nat → Nat} {who m : Nat} {f : Nat → Nat → Nat} {t : Nat} (h : f who t = 0) : ∀ k, sp_sy V day st who m f k who t = 0
  | 0 => h
  | k + 1 => by
    have ih := sp_sy_zero (V := V) (day := day) (st := st) (m := m) h k
    simp only [sp_sy]
    split
    · rename_i z
      rw [sp_hr_col (fun e => z.2 (by have ih2 := ih; rw [← e] at ih2; exact ih2))]
      exact ih
    · exact ih
theorem sp_fd_zero {V : sp_V} {cs : List Int} {day : Nat} {f : Nat → Nat → Nat} {p t u w : Nat} (h : f p t = 0) : ∀ k, sp_fd V cs day f u w k p t = 0
  | 0 => h
  | k + 1 => by
    have ih := sp_fd_zero (V := V) (cs := cs) (day := day) (u := u) (w := w) h k
    simp only [sp_fd]
    split
    · exact ih
    · rename_i z
      unfold sp_up2
      rw [if_neg (fun e => z (by have ih2 := ih; rw [e.1, e.2] at ih2; exact ih2))]
      exact ih
theorem sp_f1_zero {V : sp_V} {day th : Nat} {f : Nat → Nat → Nat} {p t : Nat} (h : f p t = 0) : ∀ k, sp_f1 V day th f k p t = 0
  | 0 => h
  | k + 1 => by
    have ih := sp_f1_zero (V := V) (day := day) (th := th) h k
    simp only [sp_f1]
    cases vRl V 0 with
    | none => exact h
    | some cs =>
      simp only
      split
      · exact sp_fd_zero ih _
      · exact ih
theorem sp_z1_zero {V : sp_V} {th : Nat} {f : Nat → Nat → Nat} {p t q : Nat} (h : f p t = 0) : ∀ k, (sp_z1 V th f q k).1 p t = 0
  | 0 => h
  | k + 1 => by
    have ih := sp_z1_zero (V := V) (th := th) (q := q) h k
    simp only [sp_z1]
    split
    · simp only [sp_up2]
      split
      · rfl
      · exact ih
    · exact ih
theorem sp_z_zero {V : sp_V} {th : Nat} {f : Nat → Nat → Nat} {p t : Nat} (h : f p t = 0) : ∀ k, sp_z V th f k p t = 0
  | 0 => h
  | k + 1 => sp_z1_zero (sp_z_zero h k) _
theorem sp_dim_zero {V : sp_V} {day th : Nat} {f : Nat → Nat → Nat} {p t : Nat} (h : f p t = 0) : sp_dim V day th f p t = 0 := sp_z_zero (sp_f1_zero h _) _
theorem sp_kp_zero {V : sp_V} {s : sp_S} {who m t i : Nat} (h : sPt (sp_kp V who m s i) who t = 0) : ∀ j, sPt (sp_kp V who m s (i + j)) who t = 0
  | 0 => h
  | j + 1 => by
    rw [show i + (j + 1) = i + j + 1 by omega, sp_kp_s]
    exact sp_dim_zero (sp_sy_zero (sp_kp_zero h j) _)
/-! what is known by the morning has its roots -/
theorem sp_z1_row {V : sp_V} {th : Nat} {f : Nat → Nat → Nat} {p q t : Nat} (h : q ≠ p) : ∀ k, (sp_z1 V th f p k).1 q t = f q t
  | 0 => rfl
  | k + 1 => by
    have ih := sp_z1_row (V := V) (th := th) (f := f) (t := t) h k
    simp only [sp_z1]
    split
    · simp only [sp_up2]
      rw [if_neg (fun e => h e.1)]
      exact ih
    · exact ih
theorem sp_z1_root {V : sp_V} (hw : sp_vw V) {f : Nat → Nat → Nat} {p : Nat} : ∀ k, k ≤ vNt V → ∀ t, t < k → (sp_z1 V 1023 f p k).1 p t ≠ 0 → ∀ u, (vHg V t).testBit u = true → (sp_z1 V 1023 f p k).1 p u ≠ 0
  | 0, _, t, ht, _, _, _ => absurd ht (by omega)
  | k + 1, hk, t, ht, h, u, hu => by
    have h10 := hw.2.2.1
    have ih := sp_z1_root hw (f := f) (p := p) k (by omega)
    have h1023 : (1023 : Nat).testBit k = true := (show ∀ t, t < 10 → (1023 : Nat).testBit t = true by decide) k (by omega)
    have hut : u < t := by
      rcases Nat.lt_or_ge u t with q | q
      · exact q
      · have := Nat.testBit_lt_two_pow (Nat.lt_of_lt_of_le (hw.2.2.2.2.2.1 t (by omega)) (Nat.pow_le_pow_right (by decide) q))
        rw [this] at hu; cases hu
    simp only [sp_z1] at h ⊢
    by_cases e : zn_in (vHg V k) (sp_z1 V 1023 f p k).2 = false
    · rw [if_pos ⟨h1023, e⟩] at h ⊢
      have htk : t ≠ k := fun z => by
        apply h
        simp only [sp_up2]
        rw [if_pos ⟨trivial, z⟩]
      simp only [sp_up2] at h ⊢
      rw [if_neg (fun z => htk z.2)] at h
      rw [if_neg (fun z => by have := z.2; omega)]
      exact ih t (by omega) h u hu
    · rw [if_neg (fun z => e z.2)] at h ⊢
      by_cases htk : t = k
      · subst htk
        simp only [Bool.not_eq_false] at e
        have := (zn_in_iff _ _).mp e u hu
        rw [sp_z1_kn t (by omega), sp_kn_bit] at this
        simp at this
        exact this.2
      · exact ih t (by omega) h u hu
theorem sp_z_at {V : sp_V} {th : Nat} {f : Nat → Nat → Nat} {q t : Nat} : ∀ k, q < k → sp_z V th f k q t = (sp_z1 V th (sp_z V th f q) q (vNt V)).1 q t
  | 0, h => absurd h (by omega)
  | k + 1, h => by
    simp only [sp_z]
    by_cases e : q = k
    · subst e; rfl
    · rw [sp_z1_row e]
      exact sp_z_at k (by omega)
theorem sp_dim_root {V : sp_V} (hw : sp_vw V) {day : Nat} {f : Nat → Nat → Nat} {p t : Nat} (hp : p < vNq V) (ht : t < vNt V) (h : sp_dim V day 1023 f p t ≠ 0) : ∀ u, (vHg V t).testBit u = true → sp_dim V day 1023 f p u ≠ 0 := by
  intro u hu
  unfold sp_dim at h ⊢
  rw [sp_z_at _ hp] at h ⊢
  exact sp_z1_root hw _ (Nat.le_refl _) t ht h u hu
/-! by saying -/
theorem sp_kb_iff {V : sp_V} (hw : sp_vw V) {s : sp_S} {who which th said m : Nat} (hc : sp_cz V th) (hwh : which < vNt V) (hth : th.testBit which = true) (hlt : ∀ u, th.testBit u = true → u ≤ which) (hm : ∀ u, th.testBit u = true → said.testBit u = m.testBit u) : ∀ (j i : Nat) (f : Nat → Nat → Nat), sp_ag th f (sPt (sp_kp V who m s i)) → (sp_kb V (sDay s) (sSt s) who which th (th &&& said) j i f = true ↔ ∀ i', i' < j → sPt (sp_kp V who m s (i + i' + 1)) who which ≠ 0)
  | 0, i, f, _ => by simp [sp_kb]
  | j + 1, i, f, h => by
    have hk1 : sp_ag th (sp_k1 V (sDay s) (sSt s) who which th (th &&& said) i f) (sPt (sp_kp V who m s (i + 1))) := by
      unfold sp_k1
      rw [sp_kp_s, ← sp_sy_cut (a := which + 1) (fun u hu => by
        rw [Nat.testBit_and]
        cases hq : th.testBit u with
        | false => rfl
        | true => have := hlt u hq; omega) (vNt V) (by omega)]
      exact sp_dim_ag hw hc (sp_sy_ag hc (fun u hu => by rw [Nat.testBit_and, hu, Bool.true_and]; exact hm u hu) h _ (Nat.le_refl _))
    have e := hk1 who which hth
    have ih := sp_kb_iff hw hc hwh hth hlt hm j (i + 1) _ hk1
    simp only [sp_kb]
    by_cases hz : sp_k1 V (sDay s) (sSt s) who which th (th &&& said) i f who which = 0
    · rw [if_pos hz]
      constructor
      · intro z; cases z
      · intro z; exact absurd (e.symm.trans hz) (z 0 (by omega))
    · rw [if_neg hz, ih]
      constructor
      · intro z i' hi
        cases i' with
        | zero => rw [e] at hz; exact hz
        | succ i' => have := z i' (by omega); rw [show i + (i' + 1) + 1 = i + 1 + i' + 1 by omega]; exact this
      · intro z i' hi
        have := z (i' + 1) (by omega)
        rw [show i + 1 + i' + 1 = i + (i' + 1) + 1 by omega]; exact this
theorem sp_ksb_iff {V : sp_V} (hw : sp_vw V) {s : sp_S} {who which said m k : Nat} (hwh : which < vNt V) (hk : 1 ≤ k) (hm : ∀ u, u ≤ which → said.testBit u = m.testBit u) : sp_ksb V (sDay s) (sSt s) (sPt s) who k which said = true ↔ sPt (sp_kp V who m s k) who which ≠ 0 := by
  have hlt : ∀ u, (sp_wr (vHg V) (2 ^ which) (vNt V)).testBit u = true → u ≤ which := by
    refine sp_wr_min (K := fun u => u ≤ which) (vNt V) _ (fun u hu => ?_) (fun u hu hK w hww => ?_)
    · rw [sp_tb_pow] at hu; simp at hu; omega
    · rcases Nat.lt_or_ge w u with q | q
      · omega
      · have := Nat.testBit_lt_two_pow (Nat.lt_of_lt_of_le (hw.2.2.2.2.2.1 u hu) (Nat.pow_le_pow_right (by decide) q))
        rw [this] at hww; cases hww
  unfold sp_ksb
  rw [sp_kb_iff (s := s) (who := who) (m := m) hw (sp_wr_cz hw _) hwh (sp_wr_self _ _) hlt (fun u hu => hm u (hlt u hu)) k 0 (sPt s) (sp_ag_rf _ _)]
  constructor
  · intro z
    have := z (k - 1) (by omega)
    rw [show 0 + (k - 1) + 1 = k by omega] at this
    exact this
  · intro z i' hi hq
    have := sp_kp_zero hq (k - (0 + i' + 1))
    rw [show 0 + i' + 1 + (k - (0 + i' + 1)) = k by omega] at this
    exact z this
/-! the fewest, of these the least -/
def sp_ord (a b : Nat) : Prop := sp_pc a < sp_pc b ∨ (sp_pc a = sp_pc b ∧ a ≤ b)
theorem sp_pc_mono {a b : Nat} (h : ∀ u, a.testBit u = true → b.testBit u = true) : sp_pc a ≤ sp_pc b := by
  unfold sp_pc
  generalize List.range 10 = l
  induction l with
  | nil => exact Nat.le_refl _
  | cons x l ih =>
    simp only [List.filter_cons]
    by_cases e : a.testBit x = true
    · rw [if_pos e, if_pos (h x e)]
      simp only [List.length_cons]
      omega
    · rw [if_neg e]
      split
      · simp only [List.length_cons]; omega
      · exact ih
def sp_E (K : Nat → Nat → Prop) (gt N t said S : Nat) : Prop := S < 2 ^ N ∧ (∀ u, u < t → S.testBit u = said.testBit u) ∧ (∀ u, t ≤ u → S.testBit u = true → gt.testBit u = true) ∧ ∀ u, t ≤ u → u < N → gt.testBit u = true → K u S
theorem sp_ch_ok {ks : Nat → Nat → Bool} {gt N : Nat} {K : Nat → Nat → Prop} (hK : ∀ t x S, t < N → (∀ u, u ≤ t → x.testBit u = S.testBit u) → (ks t x = true ↔ K t S)) : ∀ (j t said : Nat) (fb : Int), t + j = N → said < 2 ^ t → -1 ≤ fb →
    (sp_ch ks gt j t said fb = fb ∨ ∃ S : Nat, sp_E K gt N t said S ∧ sp_ch ks gt j t said fb = S) ∧ (∀ S, sp_E K gt N t said S → ∃ x : Nat, sp_ch ks gt j t said fb = x ∧ sp_ord x S) ∧ (∀ y : Nat, fb = y → ∃ x : Nat, sp_ch ks gt j t said fb = x ∧ sp_ord x y)
  | 0, t, said, fb, h1, h2, h3 => by
    have hN : t = N := by omega
    subst hN
    have hE : ∀ S, sp_E K gt t t said S → S = said := fun S hS => by
      apply Nat.eq_of_testBit_eq
      intro u
      rcases Nat.lt_or_ge u t with q | q
      · exact hS.2.1 u q
      · rw [Nat.testBit_lt_two_pow (Nat.lt_of_lt_of_le hS.1 (Nat.pow_le_pow_right (by decide) q)), Nat.testBit_lt_two_pow (Nat.lt_of_lt_of_le h2 (Nat.pow_le_pow_right (by decide) q))]
    simp only [sp_ch]
    by_cases hq : sp_worse fb said = true
    · rw [if_pos hq]
      have hq2 := hq
      simp only [sp_worse, sp_more, Bool.or_eq_true, decide_eq_true_eq] at hq2
      refine ⟨Or.inl rfl, fun S hS => ⟨fb.toNat, by omega, ?_⟩, fun y hy => ⟨y, hy, Or.inr ⟨rfl, Nat.le_refl _⟩⟩⟩
      rw [hE S hS]
      rcases hq2 with z | z
      · exact Or.inl z.2
      · exact Or.inr ⟨z.2.1.symm, by omega⟩
    · rw [if_neg hq]
      simp only [sp_worse, sp_more, Bool.or_eq_true, decide_eq_true_eq] at hq
      refine ⟨Or.inr ⟨said, ⟨h2, fun _ _ => rfl, fun u hu hs => ?_, fun u hu hu2 => by omega⟩, rfl⟩, fun S hS => ⟨said, rfl, by rw [hE S hS]; exact Or.inr ⟨rfl, Nat.le_refl _⟩⟩, fun y hy => ⟨said, rfl, ?_⟩⟩
      · rw [Nat.testBit_lt_two_pow (Nat.lt_of_lt_of_le h2 (Nat.pow_le_pow_right (by decide) hu))] at hs; cases hs
      · subst hy
        have e1 : ((y : Int)).toNat = y := rfl
        rw [e1] at hq
        unfold sp_ord
        rcases Nat.lt_or_ge (sp_pc said) (sp_pc y) with q | q
        · exact Or.inl q
        · refine Or.inr ⟨?_, ?_⟩
          · rcases Nat.lt_or_ge (sp_pc y) (sp_pc said) with q2 | q2
            · exact absurd (Or.inl ⟨by omega, q2⟩) hq
            · omega
          · rcases Nat.lt_or_ge y said with q2 | q2
            · exfalso
              rcases Nat.lt_or_ge (sp_pc y) (sp_pc said) with q3 | q3
              · exact hq (Or.inl ⟨by omega, q3⟩)
              · exact hq (Or.inr ⟨by omega, by omega, by omega⟩)
            · exact q2
  | j + 1, t, said, fb, h1, h2, h3 => by
    have htN : t < N := by omega
    have h2b : said < 2 ^ (t + 1) := Nat.lt_of_lt_of_le h2 (Nat.pow_le_pow_right (by decide) (by omega))
    have hst : said.testBit t = false := Nat.testBit_lt_two_pow h2
    simp only [sp_ch]
    by_cases hg : gt.testBit t = false
    · rw [if_pos hg]
      have ih := sp_ch_ok (gt := gt) hK j (t + 1) said fb (by omega) h2b h3
      have hE : ∀ S, sp_E K gt N t said S ↔ sp_E K gt N (t + 1) said S := fun S => by
        constructor
        · intro hS
          refine ⟨hS.1, fun u hu => ?_, fun u hu => hS.2.2.1 u (by omega), fun u hu => hS.2.2.2 u (by omega)⟩
          by_cases e : u = t
          · subst e
            rw [hst]
            cases hb : S.testBit u with
            | false => rfl
            | true => have := hS.2.2.1 u (Nat.le_refl _) hb; rw [hg] at this; cases this
          · exact hS.2.1 u (by omega)
        · intro hS
          refine ⟨hS.1, fun u hu => hS.2.1 u (by omega), fun u hu hb => ?_, fun u hu hu2 hb => ?_⟩
          · by_cases e : u = t
            · subst e; rw [hS.2.1 u (by omega), hst] at hb; cases hb
            · exact hS.2.2.1 u (by omega) hb
          · by_cases e : u = t
            · subst e; rw [hg] at hb; cases hb
            · exact hS.2.2.2 u (by omega) hu2 hb
      refine ⟨?_, fun S hS => ih.2.1 S ((hE S).mp hS), ih.2.2⟩
      rcases ih.1 with z | ⟨S, hS, z⟩
      · exact Or.inl z
      · exact Or.inr ⟨S, (hE S).mpr hS, z⟩
    · rw [if_neg hg]
      simp only [Bool.not_eq_false] at hg
      have h2c : said + 2 ^ t < 2 ^ (t + 1) := by rw [Nat.pow_succ]; omega
      have hmb : ∀ u, (said + 2 ^ t).testBit u = if u = t then true else said.testBit u := fun u => by
        rw [Nat.add_comm, ← Nat.mul_one (2 ^ t), Nat.testBit_two_pow_mul_add _ h2]
        by_cases e : u = t
        · subst e; simp
        · rw [if_neg e]
          rcases Nat.lt_or_ge u t with q | q
          · rw [if_pos q]
          · rw [if_neg (by omega), Nat.testBit_lt_two_pow (Nat.lt_of_lt_of_le h2 (Nat.pow_le_pow_right (by decide) q))]
            obtain ⟨i, hi⟩ : ∃ i, u - t = i + 1 := ⟨u - t - 1, by omega⟩
            rw [hi, Nat.testBit_succ]
            simp
      /- the two halves -/
      have hE : ∀ S, sp_E K gt N t said S ↔ (sp_E K gt N (t + 1) said S ∧ ks t said = true) ∨ (sp_E K gt N (t + 1) (said + 2 ^ t) S ∧ ks t (said + 2 ^ t) = true) := fun S => by
        constructor
        · intro hS
          have hk := hS.2.2.2 t (Nat.le_refl _) htN hg
          cases hb : S.testBit t with
          | false =>
            have hag : ∀ u, u < t + 1 → S.testBit u = said.testBit u := fun u hu => by
              by_cases e : u = t
              · subst e; rw [hst, hb]
              · exact hS.2.1 u (by omega)
            exact Or.inl ⟨⟨hS.1, hag, fun u hu => hS.2.2.1 u (by omega), fun u hu => hS.2.2.2 u (by omega)⟩, (hK t said S htN (fun u hu => (hag u (by omega)).symm)).mpr hk⟩
          | true =>
            have hag : ∀ u, u < t + 1 → S.testBit u = (said + 2 ^ t).testBit u := fun u hu => by
              rw [hmb]
              by_cases e : u = t
              · subst e; rw [if_pos rfl, hb]
              · rw [if_neg e]; exact hS.2.1 u (by omega)
            exact Or.inr ⟨⟨hS.1, hag, fun u hu => hS.2.2.1 u (by omega), fun u hu => hS.2.2.2 u (by omega)⟩, (hK t _ S htN (fun u hu => (hag u (by omega)).symm)).mpr hk⟩
        · rintro (⟨hS, hk⟩ | ⟨hS, hk⟩)
          · refine ⟨hS.1, fun u hu => hS.2.1 u (by omega), fun u hu hb => ?_, fun u hu hu2 hb => ?_⟩
            · by_cases e : u = t
              · subst e; exact hg
              · exact hS.2.2.1 u (by omega) hb
            · by_cases e : u = t
              · subst e; exact (hK u said S htN (fun w hw => (hS.2.1 w (by omega)).symm)).mp hk
              · exact hS.2.2.2 u (by omega) hu2 hb
          · refine ⟨hS.1, fun u hu => by rw [hS.2.1 u (by omega), hmb, if_neg (by omega)], fun u hu hb => ?_, fun u hu hu2 hb => ?_⟩
            · by_cases e : u = t
              · subst e; exact hg
              · exact hS.2.2.1 u (by omega) hb
            · by_cases e : u = t
              · subst e; exact (hK u _ S htN (fun w hw => (hS.2.1 w (by omega)).symm)).mp hk
              · exact hS.2.2.2 u (by omega) hu2 hb
      have tro : ∀ {a b c : Nat}, sp_ord a b → sp_ord b c → sp_ord a c := fun {a b c} z1 z2 => by
        unfold sp_ord at *
        omega
      /- the first half -/
      have hf1 : ((if ks t said = true then sp_ch ks gt j (t + 1) said fb else fb) = fb ∨ ∃ S : Nat, sp_E K gt N t said S ∧ (if ks t said = true then sp_ch ks gt j (t + 1) said fb else fb) = S) ∧ (∀ S, sp_E K gt N (t + 1) said S → ks t said = true → ∃ x : Nat, (if ks t said = true then sp_ch ks gt j (t + 1) said fb else fb) = x ∧ sp_ord x S) ∧ (∀ y : Nat, fb = y → ∃ x : Nat, (if ks t said = true then sp_ch ks gt j (t + 1) said fb else fb) = x ∧ sp_ord x y) := by
        by_cases hk : ks t said = true
        · rw [if_pos hk]
          have ih := sp_ch_ok (gt := gt) hK j (t + 1) said fb (by omega) h2b h3
          refine ⟨?_, fun S hS _ => ih.2.1 S hS, ih.2.2⟩
          rcases ih.1 with z | ⟨S, hS, z⟩
          · exact Or.inl z
          · exact Or.inr ⟨S, (hE S).mpr (Or.inl ⟨hS, hk⟩), z⟩
        · rw [if_neg hk]
          exact ⟨Or.inl rfl, fun S _ z => absurd z hk, fun y hy => ⟨y, hy, Or.inr ⟨rfl, Nat.le_refl _⟩⟩⟩
      generalize (if ks t said = true then sp_ch ks gt j (t + 1) said fb else fb) = fb1 at hf1 ⊢
      obtain ⟨f1, f2, f3⟩ := hf1
      have hfb1 : -1 ≤ fb1 := by
        rcases f1 with z | ⟨S, _, z⟩
        · rw [z]; exact h3
        · rw [z]; omega
      by_cases hc : sp_more fb1 (said + 2 ^ t) = false ∧ ks t (said + 2 ^ t) = true
      · rw [if_pos hc]
        have ih := sp_ch_ok (gt := gt) hK j (t + 1) (said + 2 ^ t) fb1 (by omega) h2c hfb1
        refine ⟨?_, fun S hS => ?_, fun y hy => ?_⟩
        · rcases ih.1 with z | ⟨S, hS, z⟩
          · rw [z]; exact f1
          · exact Or.inr ⟨S, (hE S).mpr (Or.inr ⟨hS, hc.2⟩), z⟩
        · rcases (hE S).mp hS with ⟨z, zk⟩ | ⟨z, zk⟩
          · obtain ⟨x, hx, ho⟩ := f2 S z zk
            obtain ⟨x2, hx2, ho2⟩ := ih.2.2 x hx
            exact ⟨x2, hx2, tro ho2 ho⟩
          · exact ih.2.1 S z
        · obtain ⟨x, hx, ho⟩ := f3 y hy
          obtain ⟨x2, hx2, ho2⟩ := ih.2.2 x hx
          exact ⟨x2, hx2, tro ho2 ho⟩
      · rw [if_neg hc]
        refine ⟨f1, fun S hS => ?_, f3⟩
        rcases (hE S).mp hS with ⟨z, zk⟩ | ⟨z, zk⟩
        · exact f2 S z zk
        · have hm : sp_more fb1 (said + 2 ^ t) = true := by
            cases hq : sp_more fb1 (said + 2 ^ t) with
            | true => rfl
            | false => exact absurd ⟨hq, zk⟩ hc
          simp only [sp_more, decide_eq_true_eq] at hm
          refine ⟨fb1.toNat, by omega, Or.inl ?_⟩
          have hpm : sp_pc (said + 2 ^ t) ≤ sp_pc S := sp_pc_mono (fun u hu => by
            rcases Nat.lt_or_ge u (t + 1) with q | q
            · rw [z.2.1 u q]; exact hu
            · rw [Nat.testBit_lt_two_pow (Nat.lt_of_lt_of_le h2c (Nat.pow_le_pow_right (by decide) q))] at hu; cases hu)
          omega
theorem sp_mk_min {V : sp_V} {s : sp_S} {who th k : Nat} : ∀ h, (sp_mk V s who th k h = -1 ∧ ∀ m, m < h → sp_dok V s who th k m = false) ∨ ∃ x : Nat, x < h ∧ sp_mk V s who th k h = x ∧ sp_dok V s who th k x = true ∧ ∀ m, m < h → sp_dok V s who th k m = true → sp_ord x m
  | 0 => Or.inl ⟨rfl, fun m hm => absurd hm (by omega)⟩
  | h + 1 => by
    have ih := sp_mk_min (V := V) (s := s) (who := who) (th := th) (k := k) h
    simp only [sp_mk]
    rcases ih with ⟨h1, h2⟩ | ⟨x, h1, h2, h3, h4⟩
    · by_cases hd : sp_dok V s who th k h = true
      · rw [if_pos ⟨Or.inl h1, hd⟩]
        refine Or.inr ⟨h, by omega, rfl, hd, fun m hm hdm => ?_⟩
        by_cases e : m = h
        · subst e; exact Or.inr ⟨rfl, Nat.le_refl _⟩
        · rw [h2 m (by omega)] at hdm; cases hdm
      · rw [if_neg (fun z => hd z.2)]
        refine Or.inl ⟨h1, fun m hm => ?_⟩
        by_cases e : m = h
        · subst e; simpa using hd
        · exact h2 m (by omega)
    · rw [h2]
      have e1 : ((x : Int)).toNat = x := rfl
      rw [e1]
      by_cases hc : ((x : Int) = -1 ∨ sp_pc h < sp_pc x) ∧ sp_dok V s who th k h = true
      · rw [if_pos hc]
        have hlt : sp_pc h < sp_pc x := by
          rcases hc.1 with z | z
          · omega
          · exact z
        refine Or.inr ⟨h, by omega, rfl, hc.2, fun m hm hdm => ?_⟩
        by_cases e : m = h
        · subst e; exact Or.inr ⟨rfl, Nat.le_refl _⟩
        · have := h4 m (by omega) hdm
          unfold sp_ord at *
          omega
      · rw [if_neg hc]
        refine Or.inr ⟨x, by omega, rfl, h3, fun m hm hdm => ?_⟩
        by_cases e : m = h
        · subst e
          have : ¬ sp_pc m < sp_pc x := fun z => hc ⟨Or.inr z, hdm⟩
          unfold sp_ord
          omega
        · exact h4 m (by omega) hdm
theorem sp_keep_eq {V : sp_V} (hw : sp_vw V) {s : sp_S} (hok : sp_sok V s) {who th k : Nat} (hp : who < vNq V) (hth : th < 2 ^ vNt V) (hk : 1 ≤ k) : sp_keep V (sDay s) (sSt s) (sPt s) who th k = sp_mk V s who th k (2 ^ vNt V) := by
  have h10 := hw.2.2.1
  generalize hgt : sp_wr (vHg V) th (vNt V) = gt
  have hcz : sp_cz V gt := by rw [← hgt]; exact sp_wr_cz hw th
  have hgl : ∀ u, gt.testBit u = true → u < vNt V := by
    rw [← hgt]
    refine sp_wr_min (K := fun u => u < vNt V) (vNt V) _ (fun u hu => ?_) (fun u hu _ w hww => ?_)
    · rcases Nat.lt_or_ge u (vNt V) with q | q
      · exact q
      · rw [Nat.testBit_lt_two_pow (Nat.lt_of_lt_of_le hth (Nat.pow_le_pow_right (by decide) q))] at hu; cases hu
    · rcases Nat.lt_or_ge w u with q | q
      · omega
      · rw [Nat.testBit_lt_two_pow (Nat.lt_of_lt_of_le (hw.2.2.2.2.2.1 u hu) (Nat.pow_le_pow_right (by decide) q))] at hww; cases hww
  have hsub : ∀ u, th.testBit u = true → gt.testBit u = true := fun u hu => by rw [← hgt]; exact sp_wr_has _ _ u hu
  /- a set keeps the things iff it keeps them and their roots -/
  have hD : ∀ m, sp_dok V s who th k m = true ↔ ∀ t, gt.testBit t = true → sPt (sp_kp V who m s k) who t ≠ 0 := by
    intro m
    unfold sp_dok
    rw [zn_in_iff]
    have hkb : ∀ t, (sp_kn (sPt (sp_kp V who m s k)) who 10).testBit t = true ↔ t < 10 ∧ sPt (sp_kp V who m s k) who t ≠ 0 := fun t => by
      rw [sp_kn_bit]; simp
    constructor
    · intro z
      rw [← hgt]
      refine sp_wr_min (K := fun t => sPt (sp_kp V who m s k) who t ≠ 0) (vNt V) th (fun u hu => ((hkb u).mp (z u hu)).2) (fun u hu hK w hww => ?_)
      obtain ⟨k', rfl⟩ : ∃ k', k = k' + 1 := ⟨k - 1, by omega⟩
      rw [sp_kp_s] at hK ⊢
      exact sp_dim_root hw hp hu hK w hww
    · intro z t ht
      exact (hkb t).mpr ⟨by have := hgl t (hsub t ht); omega, z t (hsub t ht)⟩
  have hDg : ∀ m, sp_dok V s who th k m = true ↔ sp_dok V s who th k (m &&& gt) = true := fun m => by
    rw [hD, hD]
    have hag := sp_kp_ag hw (s := s) (who := who) (m := m) (m' := m &&& gt) hcz (fun u hu => by rw [Nat.testBit_and, hu, Bool.and_true]) k
    constructor
    · intro z t ht; rw [← hag who t ht]; exact z t ht
    · intro z t ht; rw [hag who t ht]; exact z t ht
  unfold sp_keep
  rw [hgt]
  by_cases hkn : zn_in gt (sp_kn (sPt s) who 10) = true
  · rw [if_pos hkn]
    have hch := sp_ch_ok (ks := sp_ksb V (sDay s) (sSt s) (sPt s) who k) (gt := gt) (N := vNt V) (K := fun t S => sPt (sp_kp V who S s k) who t ≠ 0) (fun t x S ht hx => sp_ksb_iff hw ht hk hx) (vNt V) 0 0 (-1) (by omega) (by simp) (by omega)
    have hE : ∀ S, sp_E (fun t S => sPt (sp_kp V who S s k) who t ≠ 0) gt (vNt V) 0 0 S ↔ S < 2 ^ vNt V ∧ (∀ u, S.testBit u = true → gt.testBit u = true) ∧ sp_dok V s who th k S = true := fun S => by
      rw [hD]
      constructor
      · intro z; exact ⟨z.1, fun u => z.2.2.1 u (by omega), fun t ht => z.2.2.2 t (by omega) (hgl t ht) ht⟩
      · intro z; exact ⟨z.1, fun u hu => by omega, fun u _ => z.2.1 u, fun u _ _ ht => z.2.2 u ht⟩
    generalize sp_ch (sp_ksb V (sDay s) (sSt s) (sPt s) who k) gt (vNt V) 0 0 (-1) = r at hch ⊢
    obtain ⟨c1, c2, -⟩ := hch
    rcases sp_mk_min (V := V) (s := s) (who := who) (th := th) (k := k) (2 ^ vNt V) with ⟨h1, h2⟩ | ⟨x, h1, h2, h3, h4⟩
    · rw [h1]
      rcases c1 with z | ⟨S, hS, z⟩
      · exact z
      · have := (hE S).mp hS
        rw [h2 S this.1] at this
        exact absurd this.2.2 (by decide)
    · rw [h2]
      have hxg : x &&& gt < 2 ^ vNt V := Nat.lt_of_le_of_lt Nat.and_le_left h1
      have hEx := (hE (x &&& gt)).mpr ⟨hxg, fun u hu => by rw [Nat.testBit_and] at hu; simp at hu; exact hu.2, (hDg x).mp h3⟩
      obtain ⟨y, hy, hyo⟩ := c2 _ hEx
      rw [hy]
      rcases c1 with z | ⟨S, hS, z⟩
      · rw [hy] at z; omega
      · have hSy : S = y := by rw [hy] at z; omega
        subst hSy
        have hS2 := (hE S).mp hS
        have ho := h4 S hS2.1 hS2.2.2
        have hp1 : sp_pc (x &&& gt) ≤ sp_pc x := sp_pc_mono (fun u hu => by rw [Nat.testBit_and] at hu; simp at hu; exact hu.1)
        have hp2 : x &&& gt ≤ x := Nat.and_le_left
        unfold sp_ord at *
        omega
  · rw [if_neg hkn]
    have hno : ∀ m, sp_dok V s who th k m = false := fun m => by
      cases hq : sp_dok V s who th k m with
      | false => rfl
      | true =>
        exfalso
        apply hkn
        rw [zn_in_iff]
        intro t ht
        have hne := (hD m).mp hq t ht
        rw [sp_kn_bit]
        have htl := hgl t ht
        simp
        refine ⟨by omega, fun z => hne ?_⟩
        have := sp_kp_zero (V := V) (s := s) (who := who) (m := m) (t := t) (i := 0) z k
        rw [Nat.zero_add] at this
        exact this
    rcases sp_mk_min (V := V) (s := s) (who := who) (th := th) (k := k) (2 ^ vNt V) with ⟨h1, h2⟩ | ⟨x, h1, h2, h3, h4⟩
    · exact h1.symm
    · rw [hno x] at h3; cases h3
