/-! ===== what hangs on nothing else goes its own way ===== -/
def sp_cz (V : sp_V) (th : Nat) : Prop := ∀ t, t < vNt V → th.testBit t = true → ∀ u, (vHg V t).testBit u = true → th.testBit u = true
def sp_ag (th : Nat) (f g : Nat → Nat → Nat) : Prop := ∀ p t, th.testBit t = true → f p t = g p t
theorem sp_ag_rf (th : Nat) (f : Nat → Nat → Nat) : sp_ag th f f := fun _ _ _ => rfl
theorem sp_ag_tr {th : Nat} {f g h : Nat → Nat → Nat} (h1 : sp_ag th f g) (h2 : sp_ag th g h) : sp_ag th f h := fun p t ht => by rw [h1 p t ht, h2 p t ht]
theorem sp_ag_sy {th : Nat} {f g : Nat → Nat → Nat} (h1 : sp_ag th f g) : sp_ag th g f := fun p t ht => (h1 p t ht).symm
theorem sp_b_eq {a b : Bool} (h : a = true ↔ b = true) : a = b := by
  cases a <;> cases b <;> simp_all
theorem sp_kn_ag {th a : Nat} {f g : Nat → Nat → Nat} (h : sp_ag th f g) (ha : ∀ u, a.testBit u = true → th.testBit u = true) (q : Nat) : zn_in a (sp_kn f q 10) = zn_in a (sp_kn g q 10) := by
  apply sp_b_eq
  rw [zn_in_iff, zn_in_iff]
  constructor
  · intro z t ht
    have := z t ht
    rw [sp_kn_bit] at this ⊢
    rw [← h q t (ha t ht)]
    exact this
  · intro z t ht
    have := z t ht
    rw [sp_kn_bit] at this ⊢
    rw [h q t (ha t ht)]
    exact this
theorem sp_up2_ag {th : Nat} {f g : Nat → Nat → Nat} (h : sp_ag th f g) (p t x : Nat) : sp_ag th (sp_up2 f p t x) (sp_up2 g p t x) := fun a b hb => by
  unfold sp_up2
  split
  · rfl
  · exact h a b hb
theorem sp_up2_off {th : Nat} {f : Nat → Nat → Nat} {t : Nat} (ht : th.testBit t = false) (p x : Nat) : sp_ag th (sp_up2 f p t x) f := fun a b hb => by
  unfold sp_up2
  split
  · rename_i e; rw [e.2, ht] at hb; cases hb
  · rfl
theorem sp_ck_ag {th : Nat} {f g : Nat → Nat → Nat} (h : sp_ag th f g) {t : Nat} (ht : th.testBit t = true) (k : Nat) : sp_ck f t k = sp_ck g t k := sp_ck_cg k (fun q _ => h q t ht)
theorem sp_gain_ag {V : sp_V} {day th : Nat} {f g : Nat → Nat → Nat} (h : sp_ag th f g) {t : Nat} (ht : th.testBit t = true) (p k : Nat) : sp_ag th (sp_gain V day f p t k) (sp_gain V day g p t k) := by
  have e : sp_gv V day f p t k = sp_gv V day g p t k := by
    unfold sp_gv
    rw [sp_ck_ag h ht, h p t ht]
  unfold sp_gain
  rw [e, h p t ht]
  exact sp_up2_ag h p t _
theorem sp_hr_ag {V : sp_V} {day : Nat} {st : Nat → Nat} {th : Nat} (hc : sp_cz V th) {f g : Nat → Nat → Nat} (h : sp_ag th f g) {who t : Nat} (ht : th.testBit t = true) (htl : t < vNt V) : ∀ q, sp_ag th (sp_hr V day st f who t q).1 (sp_hr V day st g who t q).1
  | 0 => sp_gain_ag h ht who 1
  | q + 1 => by
    have ih := sp_hr_ag (day := day) (st := st) (who := who) hc h ht htl q
    have e := sp_kn_ag ih (hc t htl ht) q
    simp only [sp_hr]
    rw [e]
    split
    · exact sp_gain_ag ih ht q 2
    · exact ih
theorem sp_hr_off {V : sp_V} {day : Nat} {st : Nat → Nat} {th : Nat} {f : Nat → Nat → Nat} {who t : Nat} (ht : th.testBit t = false) : ∀ q, sp_ag th (sp_hr V day st f who t q).1 f
  | 0 => sp_up2_off ht who _
  | q + 1 => by
    have ih := sp_hr_off (V := V) (day := day) (st := st) (f := f) (who := who) ht q
    simp only [sp_hr]
    split
    · exact sp_ag_tr (sp_up2_off ht q _) ih
    · exact ih
theorem sp_fd_ag {V : sp_V} {cs : List Int} {day th : Nat} {f g : Nat → Nat → Nat} (h : sp_ag th f g) {t w : Nat} (ht : th.testBit t = true) : ∀ p, sp_ag th (sp_fd V cs day f t w p) (sp_fd V cs day g t w p)
  | 0 => h
  | p + 1 => by
    have ih := sp_fd_ag (V := V) (cs := cs) (day := day) (w := w) h ht p
    simp only [sp_fd]
    rw [ih p t ht]
    split
    · exact ih
    · exact sp_up2_ag ih p t _
theorem sp_fd_of2 {V : sp_V} {cs : List Int} {day th : Nat} {f : Nat → Nat → Nat} {t w : Nat} (ht : th.testBit t = false) (p : Nat) : sp_ag th (sp_fd V cs day f t w p) f := fun q u hu => sp_fd_off p q u (Or.inl (fun e => by rw [e, ht] at hu; cases hu))
theorem sp_f1_ag {V : sp_V} {day th : Nat} {f g : Nat → Nat → Nat} (h : sp_ag th f g) : ∀ t, t ≤ 10 → sp_ag th (sp_f1 V day th f t) (sp_f1 V day 1023 g t)
  | 0, _ => h
  | t + 1, ht => by
    have ih := sp_f1_ag (V := V) (day := day) h t (by omega)
    simp only [sp_f1]
    cases hr : vRl V 0 with
    | none => exact h
    | some cs =>
      have h1023 : (1023 : Nat).testBit t = true := (show ∀ t, t < 10 → (1023 : Nat).testBit t = true by decide) t (by omega)
      simp only
      rw [if_pos h1023]
      by_cases hb : th.testBit t = true
      · rw [if_pos hb, sp_ck_ag ih hb]
        exact sp_fd_ag ih hb _
      · rw [if_neg hb]
        simp only [Bool.not_eq_true] at hb
        exact sp_ag_tr ih (sp_ag_sy (sp_fd_of2 hb _))
theorem sp_z1_ag {V : sp_V} (hw : sp_vw V) {th : Nat} (hc : sp_cz V th) {f g : Nat → Nat → Nat} (h : sp_ag th f g) (p : Nat) : ∀ t, t ≤ vNt V → sp_ag th (sp_z1 V th f p t).1 (sp_z1 V 1023 g p t).1
  | 0, _ => h
  | t + 1, ht => by
    have h10 := hw.2.2.1
    have ih := sp_z1_ag hw hc h p t (by omega)
    have h1023 : (1023 : Nat).testBit t = true := (show ∀ t, t < 10 → (1023 : Nat).testBit t = true by decide) t (by omega)
    simp only [sp_z1]
    rw [sp_z1_kn t (by omega), sp_z1_kn (th := 1023) t (by omega)]
    by_cases hb : th.testBit t = true
    · rw [sp_kn_ag ih (hc t (by omega) hb) p]
      by_cases e : zn_in (vHg V t) (sp_kn (sp_z1 V 1023 g p t).1 p 10) = false
      · rw [if_pos ⟨hb, e⟩, if_pos ⟨h1023, e⟩]
        exact sp_up2_ag ih p t 0
      · rw [if_neg (fun z => e z.2), if_neg (fun z => e z.2)]
        exact ih
    · rw [if_neg (fun z => hb z.1)]
      simp only [Bool.not_eq_true] at hb
      split
      · exact sp_ag_tr ih (sp_ag_sy (sp_up2_off hb p 0))
      · exact ih
theorem sp_z_ag {V : sp_V} (hw : sp_vw V) {th : Nat} (hc : sp_cz V th) {f g : Nat → Nat → Nat} (h : sp_ag th f g) : ∀ p, sp_ag th (sp_z V th f p) (sp_z V 1023 g p)
  | 0 => h
  | p + 1 => sp_z1_ag hw hc (sp_z_ag hw hc h p) p _ (Nat.le_refl _)
theorem sp_dim_ag {V : sp_V} (hw : sp_vw V) {day th : Nat} (hc : sp_cz V th) {f g : Nat → Nat → Nat} (h : sp_ag th f g) : sp_ag th (sp_dim V day th f) (sp_dim V day 1023 g) := sp_z_ag hw hc (sp_f1_ag h _ hw.2.2.1) _
theorem sp_dk_ag {V : sp_V} (hw : sp_vw V) {day th : Nat} (hc : sp_cz V th) {f g : Nat → Nat → Nat} (h : sp_ag th f g) : ∀ k, sp_ag th (sp_dk V day th f k) (sp_dk V day 1023 g k)
  | 0 => h
  | k + 1 => sp_dim_ag hw hc (sp_dk_ag hw hc h k)
/-! the things and their roots -/
theorem sp_wr_has {hg : Nat → Nat} : ∀ (t a u : Nat), a.testBit u = true → (sp_wr hg a t).testBit u = true
  | 0, a, u, h => h
  | t + 1, a, u, h => by
    simp only [sp_wr]
    refine sp_wr_has t _ u ?_
    split
    · rw [Nat.testBit_or, h]; rfl
    · exact h
theorem sp_wr_hi {hg : Nat → Nat} : ∀ (t a u : Nat), (∀ w, w < t → hg w < 2 ^ w) → t ≤ u → (sp_wr hg a t).testBit u = a.testBit u
  | 0, a, u, _, _ => rfl
  | t + 1, a, u, hh, h => by
    simp only [sp_wr]
    rw [sp_wr_hi t _ u (fun w hw => hh w (by omega)) (by omega)]
    split
    · rw [Nat.testBit_or, Nat.testBit_lt_two_pow (Nat.lt_of_lt_of_le (hh t (by omega)) (Nat.pow_le_pow_right (by decide) (by omega)))]
      simp
    · rfl
theorem sp_wr_cl {hg : Nat → Nat} : ∀ (t a : Nat), (∀ w, w < t → hg w < 2 ^ w) → ∀ u, u < t → (sp_wr hg a t).testBit u = true → ∀ w, (hg u).testBit w = true → (sp_wr hg a t).testBit w = true
  | 0, a, _, u, hu, _, _, _ => absurd hu (by omega)
  | t + 1, a, hh, u, hu, h, w, hw => by
    simp only [sp_wr] at h ⊢
    by_cases e : u = t
    · subst e
      rw [sp_wr_hi u _ u (fun w hw => hh w (by omega)) (Nat.le_refl _)] at h
      have ha : a.testBit u = true := by
        by_cases e2 : a.testBit u = true
        · exact e2
        · rw [if_neg e2] at h; exact h
      rw [if_pos ha]
      refine sp_wr_has u _ w ?_
      rw [Nat.testBit_or, hw]
      simp
    · exact sp_wr_cl t _ (fun w hw => hh w (by omega)) u (by omega) h w hw
theorem sp_wr_min {hg : Nat → Nat} {K : Nat → Prop} : ∀ (t a : Nat), (∀ u, a.testBit u = true → K u) → (∀ u, u < t → K u → ∀ w, (hg u).testBit w = true → K w) → ∀ u, (sp_wr hg a t).testBit u = true → K u
  | 0, a, h1, _, u, h => h1 u h
  | t + 1, a, h1, h2, u, h => by
    simp only [sp_wr] at h
    refine sp_wr_min t _ (fun w hw => ?_) (fun w hw => h2 w (by omega)) u h
    split at hw
    · rename_i e
      rw [Nat.testBit_or] at hw
      simp only [Bool.or_eq_true] at hw
      rcases hw with z | z
      · exact h1 w z
      · exact h2 t (by omega) (h1 t e) w z
    · exact h1 w hw
theorem sp_wr_cz {V : sp_V} (hw : sp_vw V) (a : Nat) : sp_cz V (sp_wr (vHg V) a (vNt V)) := fun t ht h u hu => sp_wr_cl (vNt V) a (fun w hw2 => hw.2.2.2.2.2.1 w hw2) t ht h u hu
theorem sp_tb_pow (t u : Nat) : (2 ^ t).testBit u = decide (t = u) := by rw [Nat.testBit_two_pow]
theorem sp_wr_self {hg : Nat → Nat} (t k : Nat) : (sp_wr hg (2 ^ t) k).testBit t = true := sp_wr_has k _ t (by rw [sp_tb_pow]; simp)
theorem sp_later_eq {V : sp_V} (hw : sp_vw V) {s : sp_S} (p t k : Nat) : sp_dk V (sDay s) (sp_wr (vHg V) (2 ^ t) (vNt V)) (sPt s) k p t = sPt (sp_ns V 0 s k) p t := by
  rw [sp_ns_pt]
  exact sp_dk_ag hw (sp_wr_cz hw _) (sp_ag_rf _ _) k p t (sp_wr_self t _)
