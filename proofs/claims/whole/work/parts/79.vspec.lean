/-! ===== a VALLEY's text, as values ===== -/
abbrev vs_R (α : Type) : Type := (Nat × Nat) ⊕ (Nat × α)
def vs_b {α β : Type} (r : vs_R α) (g : Nat → α → vs_R β) : vs_R β := match r with
  | .inl e => .inl e
  | .inr (p, a) => g p a
/-- the VALLEY, NAMES (letters), homes, points -/
abbrev vs_D : Type := sp_V × (Nat → Nat → Nat → Nat) × (Nat → Nat) × (Nat → Nat → Nat)
abbrev dNm (D : vs_D) : Nat → Nat → Nat → Nat := D.2.1
abbrev dHm (D : vs_D) : Nat → Nat := D.2.2.1
abbrev dPt (D : vs_D) : Nat → Nat → Nat := D.2.2.2
def vs_cnt (V : sp_V) (k : Nat) : Nat := if k = 0 then vNp V else if k = 1 then vNq V else vNt V
def vs_eq (w w' : Nat → Nat) : Bool := (List.range 6).all (fun k => decide (w k = w' k))
theorem vs_eq_iff {w w' : Nat → Nat} : vs_eq w w' = true ↔ ∀ k, k < 6 → w k = w' k := by
  unfold vs_eq
  simp only [List.all_eq_true, List.mem_range, decide_eq_true_eq]
def vs_fd (nm : Nat → Nat → Nat) (c : Nat) (w : Nat → Nat) : Option Nat := sp_first (fun i => vs_eq (nm i) w) 0 c
def vs_nmA (D : vs_D) (k : Nat) (w : Nat → Nat) : Nat → Nat → Nat → Nat := fun k' i => if k' = k ∧ i = vs_cnt D.1 k then w else dNm D k' i
def vs_aP (D : vs_D) (w : Nat → Nat) : vs_D := (((vNp D.1 + 1, vNq D.1, vNt D.1), D.1.2), vs_nmA D 0 w, dHm D, dPt D)
def vs_aQ (D : vs_D) (w : Nat → Nat) (h : Nat) : vs_D := (((vNp D.1, vNq D.1 + 1, vNt D.1), D.1.2), vs_nmA D 1 w, sp_up1 (dHm D) (vNq D.1) h, dPt D)
def vs_aT (D : vs_D) (w : Nat → Nat) (g r : Nat) : vs_D := (((vNp D.1, vNq D.1, vNt D.1 + 1), vWy D.1, sp_up1 (vWt D.1) (vNt D.1) g, sp_up1 (vHg D.1) (vNt D.1) r, D.1.2.2.2.2), vs_nmA D 2 w, dHm D, dPt D)
def vs_aW (D : vs_D) (a b x : Nat) : vs_D := ((D.1.1, sp_up2 (sp_up2 (vWy D.1) a b x) b a x, D.1.2.2), D.2)
def vs_aK (D : vs_D) (a t x : Nat) : vs_D := (D.1, dNm D, dHm D, sp_up2 (dPt D) a t x)
def vs_aR (D : vs_D) (k : Nat) (cs : List Int) : vs_D := ((D.1.1, vWy D.1, vWt D.1, vHg D.1, (fun j => if j = k then some cs else vRl D.1 j), D.1.2.2.2.2.2), D.2)
def vs_aS (D : vs_D) (k x : Nat) : vs_D := ((D.1.1, vWy D.1, vWt D.1, vHg D.1, vRl D.1, ((if k = 0 then x else vCt D.1), (if k = 1 then x else vBk D.1), (if k = 2 then x else vTh D.1), (if k = 3 then x else vBs D.1))), D.2)
def vs_isn (D : vs_D) (w : Nat → Nat) : Bool := (vs_fd (dNm D 0) (vNp D.1) w).isSome || (vs_fd (dNm D 1) (vNq D.1) w).isSome || (vs_fd (dNm D 2) (vNt D.1) w).isSome
def vs_lo (k : Nat) : Nat := if k = 0 then 1 else 0
def vs_hi (k : Nat) : Nat := if k = 1 then 999 else if k = 3 then 100 else 99
section VS
variable (f : Nat → Nat) (T : Nat)
noncomputable def tk_w (p k : Nat) : Nat := if k < tkE f T p - tkS f T p then f (tkS f T p + k) - 96 else 0
noncomputable def vs_need (w : Int) (p : Nat) : vs_R Unit := if tkK f T p = w then .inr (tkE f T p, ()) else .inl (1, tkS f T p)
noncomputable def vs_num (a b p : Nat) : vs_R Nat := match tk_tn f T p a b with
  | .inl e => .inl e
  | .inr v => .inr (tkE f T p, v)
noncomputable def vs_ol (nm : Nat → Nat → Nat) (c bar p : Nat) : vs_R Nat := match tk_nm f T p with
  | some pl => .inl (1, pl)
  | none => match vs_fd nm c (tk_w f T p) with
    | none => .inl (3, tkS f T p)
    | some i => if bar.testBit i = true then .inl (3, tkS f T p) else .inr (tkE f T p, i)
noncomputable def vs_nw (D : vs_D) (k m p : Nat) : vs_R (Nat → Nat) := if m ≤ vs_cnt D.1 k then .inl (5, tkS f T p) else match tk_nm f T (tkE f T p) with
  | some pl => .inl (1, pl)
  | none => if vs_isn D (tk_w f T (tkE f T p)) = true then .inl (3, tkS f T (tkE f T p)) else .inr (tkE f T (tkE f T p), tk_w f T (tkE f T p))
noncomputable def vs_place (D : vs_D) (p : Nat) : vs_R vs_D := vs_b (vs_nw f T D 0 6 p) (fun p1 w => .inr (p1, vs_aP D w))
noncomputable def vs_way (D : vs_D) (p : Nat) : vs_R vs_D := vs_b (vs_ol f T (dNm D 0) (vNp D.1) 0 (tkE f T p)) (fun p1 a => vs_b (vs_ol f T (dNm D 0) (vNp D.1) (2 ^ a) p1) (fun p2 b => vs_b (vs_need f T 302 p2) (fun p3 _ => vs_b (vs_num f T 1 99 p3) (fun p4 x => .inr (p4, vs_aW D a b x)))))
noncomputable def vs_person (D : vs_D) (p : Nat) : vs_R vs_D := vs_b (vs_nw f T D 1 6 p) (fun p1 w => vs_b (vs_need f T 304 p1) (fun p2 _ => vs_b (vs_ol f T (dNm D 0) (vNp D.1) 0 p2) (fun p3 h => .inr (p3, vs_aQ D w h))))
noncomputable def vs_roots (nm : Nat → Nat → Nat) (c : Nat) : Nat → Nat → Nat → vs_R Nat
  | 0, r, p => .inr (p, r)
  | j + 1, r, p => vs_b (vs_ol f T nm c r p) (fun p1 i => if tkK f T p1 = 59 then .inr (p1, r ||| 2 ^ i) else vs_roots nm c j (r ||| 2 ^ i) p1)
noncomputable def vs_thing (D : vs_D) (p : Nat) : vs_R vs_D := vs_b (vs_nw f T D 2 10 p) (fun p1 w => vs_b (vs_need f T 306 p1) (fun p2 _ => vs_b (vs_num f T 1 9 p2) (fun p3 g => if tkK f T p3 = 307 then vs_b (vs_roots f T (dNm D 2) (vNt D.1) 10 0 (tkE f T p3)) (fun p4 r => .inr (p4, vs_aT D w g r)) else .inr (p3, vs_aT D w g 0))))
noncomputable def vs_knows (D : vs_D) (p : Nat) : vs_R vs_D := vs_b (vs_ol f T (dNm D 1) (vNq D.1) 0 (tkE f T p)) (fun p1 a => vs_b (vs_ol f T (dNm D 2) (vNt D.1) 0 p1) (fun p2 t => vs_b (vs_num f T 0 99 p2) (fun p3 x => .inr (p3, vs_aK D a t x))))
noncomputable def vs_rule (D : vs_D) (k p : Nat) : vs_R vs_D := match vRl D.1 k with
  | some _ => .inl (5, tkS f T p)
  | none => vs_b ((rd_lev f T k 6).2 (tkE f T p)) (fun p1 cs => .inr (p1, vs_aR D k cs))
noncomputable def vs_set (D : vs_D) (k p : Nat) : vs_R vs_D := vs_b (vs_num f T (vs_lo k) (vs_hi k) (tkE f T p)) (fun p1 x => .inr (p1, vs_aS D k x))
noncomputable def vs_st (D : vs_D) (p : Nat) : vs_R vs_D :=
  if 309 ≤ tkK f T p ∧ tkK f T p ≤ 312 then vs_rule f T D (tkK f T p - 309).toNat p
  else if tkK f T p = 300 then vs_place f T D p
  else if tkK f T p = 301 then vs_way f T D p
  else if tkK f T p = 303 then vs_person f T D p
  else if tkK f T p = 305 then vs_thing f T D p
  else if tkK f T p = 308 then vs_knows f T D p
  else if 313 ≤ tkK f T p ∧ tkK f T p ≤ 316 then vs_set f T D (tkK f T p - 313).toNat p
  else .inl (1, tkS f T p)
noncomputable def vs_all : Nat → Nat → vs_D → Nat → vs_R vs_D
  | 0, c, D, p => if tkK f T p = -1 then .inr (c, D) else .inl (5, tkS f T p)
  | j + 1, c, D, p => if tkK f T p = -1 then .inr (c, D) else vs_b (vs_st f T D p) (fun p1 D1 => vs_b (vs_need f T 59 p1) (fun p2 _ => vs_all j (c + 1) D1 p2))
end VS
/-- an empty draft -/
def vs_0 (hm : Nat → Nat) : vs_D := (((0, 0, 0), (fun _ _ => 0), (fun _ => 0), (fun _ => 0), (fun _ => none), (30, 20, 10, 0)), (fun _ _ _ => 0), hm, fun _ _ => 0)
def nm_ok (w : Nat → Nat) : Prop := ∃ z, 1 ≤ z ∧ z ≤ 6 ∧ (∀ k, k < z → 1 ≤ w k ∧ w k ≤ 26) ∧ ∀ k, z ≤ k → w k = 0
def vs_ok (D : vs_D) : Prop := sp_vw D.1 ∧ (∀ i, i < vNq D.1 → dHm D i < vNp D.1) ∧ (∀ p t, dPt D p t ≤ 99) ∧ (∀ p t, ¬ (p < vNq D.1 ∧ t < vNt D.1) → dPt D p t = 0) ∧ ∀ k i, k < 3 → i < vs_cnt D.1 k → nm_ok (dNm D k i)
theorem vs_0_ok (hm : Nat → Nat) : vs_ok (vs_0 hm) := by
  refine ⟨⟨(by decide : (0 : Nat) ≤ 6), (by decide : (0 : Nat) ≤ 6), (by decide : (0 : Nat) ≤ 10), fun a b => (by decide : (0 : Nat) ≤ 99), fun t ht => absurd ht (Nat.not_lt_zero t), fun t ht => absurd ht (Nat.not_lt_zero t), fun k cs hk h => ?_, (by decide : (1 : Nat) ≤ 30), (by decide : (30 : Nat) ≤ 99), (by decide : (20 : Nat) ≤ 999), (by decide : (10 : Nat) ≤ 99), (by decide : (0 : Nat) ≤ 100)⟩, fun i hi => absurd hi (Nat.not_lt_zero i), fun p t => (by decide : (0 : Nat) ≤ 99), fun p t h => rfl, fun k i hk hi => ?_⟩
  · have h9 : (none : Option (List Int)) = some cs := h
    cases h9
  · rcases (show k = 0 ∨ k = 1 ∨ k = 2 by omega) with rfl | rfl | rfl <;> exact absurd hi (Nat.not_lt_zero i)
theorem sp_so1 {c : Nat} (h : sp_so c = 1) : 97 ≤ c ∧ c ≤ 122 := by
  unfold sp_so at h
  split at h
  · assumption
  · split at h <;> cases h
theorem sp_so2 {c : Nat} (h : sp_so c = 2) : 48 ≤ c ∧ c ≤ 57 := by
  unfold sp_so at h
  split at h
  · cases h
  · split at h
    · assumption
    · cases h
theorem tk_nm_ok {f : Nat → Nat} {T p : Nat} (hp : p ≤ T) (hf : ∀ i, i < T → f i ≤ 255) (h : tk_nm f T p = none) : tkS f T p < T ∧ p ≤ tkS f T p ∧ 1 ≤ tkE f T p - tkS f T p ∧ tkE f T p - tkS f T p ≤ 6 ∧ tkE f T p ≤ T ∧ ∀ i, i < tkE f T p - tkS f T p → 97 ≤ f (tkS f T p + i) ∧ f (tkS f T p + i) ≤ 122 := by
  unfold tk_nm at h
  split at h
  · cases h
  · rename_i h1
    split at h
    · cases h
    · rename_i h2
      have hk : tkK f T p ≠ -1 := by omega
      have hpos := tkK_pos (f := f) hp hk
      have hb := hf (tkS f T p) hpos.2.2.1
      have hso : sp_so (f (tkS f T p)) = 1 := by
        unfold tkK at h1
        rw [if_neg (by omega)] at h1
        have := sp_so_le (f (tkS f T p))
        rcases (show sp_so (f (tkS f T p)) = 0 ∨ sp_so (f (tkS f T p)) = 1 ∨ sp_so (f (tkS f T p)) = 2 by omega) with z | z | z
        · rw [if_pos z] at h1; omega
        · exact z
        · rw [if_neg (by omega)] at h1
          split at h1
          · omega
          · rw [if_neg (by omega)] at h1; omega
      have hE : tkE f T p = tkR f T 1 (tkS f T p + 1) := by unfold tkE; rw [if_neg (by omega), hso, if_neg (by decide)]
      have hr := tkR_le (f := f) (T := T) (so := 1) (T - (tkS f T p + 1)) (tkS f T p + 1) (by omega)
      refine ⟨hpos.2.2.1, hpos.2.2.2.2, by omega, by omega, hpos.2.1, fun i hi => sp_so1 ?_⟩
      by_cases e : i = 0
      · subst e; exact hso
      · exact hr.2.2.2 _ (by omega) (by omega)
theorem tk_w_ok {f : Nat → Nat} {T p : Nat} (hp : p ≤ T) (hf : ∀ i, i < T → f i ≤ 255) (h : tk_nm f T p = none) : nm_ok (tk_w f T p) := by
  obtain ⟨h1, h2, h3, h4, h5, h6⟩ := tk_nm_ok hp hf h
  refine ⟨_, h3, h4, fun k hk => ?_, fun k hk => ?_⟩
  · have := h6 k hk
    unfold tk_w
    rw [if_pos hk]
    omega
  · unfold tk_w
    rw [if_neg (by omega)]
theorem vs_fd_lt {nm : Nat → Nat → Nat} {c i : Nat} {w : Nat → Nat} (h : vs_fd nm c w = some i) : i < c ∧ vs_eq (nm i) w = true := by
  have := sp_first_lt c 0 i h
  exact ⟨by omega, this.2.2⟩
/-- what is read lies ahead -/
def vs_pos {α : Type} (T p : Nat) (r : vs_R α) (Q : α → Prop) : Prop := ∀ p' a, r = .inr (p', a) → p < p' ∧ p' ≤ T ∧ Q a
theorem vs_pos_b {α β : Type} {T p : Nat} {r : vs_R α} {Q : α → Prop} {g : Nat → α → vs_R β} {Q' : β → Prop} (h : vs_pos T p r Q) (hg : ∀ p1 a, p < p1 → p1 ≤ T → Q a → vs_pos T p1 (g p1 a) Q') : vs_pos T p (vs_b r g) Q' := by
  intro p' b hb
  rcases r with e | ⟨p1, a⟩
  · cases hb
  · have h1 := h p1 a rfl
    have h2 := hg p1 a h1.1 h1.2.1 h1.2.2 p' b hb
    exact ⟨by omega, h2.2.1, h2.2.2⟩
theorem vs_pos_le {α β : Type} {T p p0 : Nat} {r : vs_R α} {Q : α → Prop} {g : Nat → α → vs_R β} {Q' : β → Prop} (h0 : p0 ≤ p) (h : vs_pos T p r Q) (hg : ∀ p1 a, p < p1 → p1 ≤ T → Q a → ∀ p' b, g p1 a = .inr (p', b) → p1 ≤ p' ∧ p' ≤ T ∧ Q' b) : vs_pos T p0 (vs_b r g) Q' := by
  intro p' b hb
  rcases r with e | ⟨p1, a⟩
  · cases hb
  · have h1 := h p1 a rfl
    have h2 := hg p1 a h1.1 h1.2.1 h1.2.2 p' b hb
    exact ⟨by omega, h2.2.1, h2.2.2⟩
theorem vs_need_pos {f : Nat → Nat} {T p : Nat} {w : Int} (hp : p ≤ T) (hw : w ≠ -1) : vs_pos T p (vs_need f T w p) (fun _ => True) := by
  intro p' a h
  unfold vs_need at h
  split at h
  · rename_i hk
    cases h
    have hpos := tkK_pos (f := f) hp (by rw [hk]; exact hw)
    exact ⟨hpos.1, hpos.2.1, trivial⟩
  · cases h
theorem vs_num_pos {f : Nat → Nat} {T p a b : Nat} (hp : p ≤ T) : vs_pos T p (vs_num f T a b p) (fun v => a ≤ v ∧ v ≤ b) := by
  intro p' v h
  unfold vs_num tk_tn tk_nb at h
  by_cases h1 : tkK f T p ≠ -2
  · rw [if_pos h1] at h; cases h
  · have h1' : tkK f T p = -2 := by
      rcases Classical.em (tkK f T p = -2) with z | z
      · exact z
      · exact absurd z h1
    have hpos := tkK_pos (f := f) hp (by rw [h1']; decide)
    rw [if_neg h1] at h
    by_cases h2 : 4 < tkE f T p - tkS f T p
    · rw [if_pos h2] at h; cases h
    · rw [if_neg h2] at h
      simp only at h
      by_cases h3 : tkV f T p < a ∨ b < tkV f T p
      · rw [if_pos h3] at h; cases h
      · rw [if_neg h3] at h
        cases h
        exact ⟨hpos.1, hpos.2.1, by omega⟩
theorem vs_ol_pos {f : Nat → Nat} {T p bar c : Nat} {nm : Nat → Nat → Nat} (hp : p ≤ T) (hf : ∀ i, i < T → f i ≤ 255) : vs_pos T p (vs_ol f T nm c bar p) (fun i => i < c ∧ bar.testBit i = false) := by
  intro p' i h
  unfold vs_ol at h
  cases h1 : tk_nm f T p with
  | some pl => rw [h1] at h; cases h
  | none =>
    rw [h1] at h
    have h2 := tk_nm_ok hp hf h1
    simp only at h
    cases h3 : vs_fd nm c (tk_w f T p) with
    | none => rw [h3] at h; cases h
    | some x =>
      rw [h3] at h
      simp only at h
      split at h
      · cases h
      · rename_i h4
        cases h
        exact ⟨by omega, by omega, (vs_fd_lt h3).1, by simpa using h4⟩
theorem vs_nw_pos {f : Nat → Nat} {T p k m : Nat} {D : vs_D} (hp : tkE f T p ≤ T) (hp2 : p < tkE f T p) (hf : ∀ i, i < T → f i ≤ 255) : vs_pos T p (vs_nw f T D k m p) (fun w => nm_ok w ∧ vs_cnt D.1 k < m) := by
  intro p' w h
  unfold vs_nw at h
  split at h
  · cases h
  · rename_i h0
    cases h1 : tk_nm f T (tkE f T p) with
    | some pl => rw [h1] at h; cases h
    | none =>
      rw [h1] at h
      have h2 := tk_nm_ok hp hf h1
      simp only at h
      split at h
      · cases h
      · cases h
        exact ⟨by omega, by omega, tk_w_ok hp hf h1, by omega⟩
theorem vs_roots_pos {f : Nat → Nat} {T c : Nat} {nm : Nat → Nat → Nat} (hf : ∀ i, i < T → f i ≤ 255) : ∀ (j r p : Nat), p ≤ T → r < 2 ^ c → ∀ p' r', vs_roots f T nm c j r p = .inr (p', r') → p ≤ p' ∧ p' ≤ T ∧ r' < 2 ^ c
  | 0, r, p, hp, hr, p', r', h => by
    simp only [vs_roots] at h
    cases h
    exact ⟨Nat.le_refl _, hp, hr⟩
  | j + 1, r, p, hp, hr, p', r', h => by
    simp only [vs_roots] at h
    have h1 := vs_ol_pos (nm := nm) (c := c) (bar := r) hp hf
    rcases hq : vs_ol f T nm c r p with e | ⟨p1, i⟩
    · rw [hq] at h; cases h
    · rw [hq] at h
      simp only [vs_b] at h
      obtain ⟨a1, a2, a3, -⟩ := h1 p1 i hq
      have hr2 : r ||| 2 ^ i < 2 ^ c := Nat.or_lt_two_pow hr (Nat.pow_lt_pow_right (by decide) a3)
      split at h
      · cases h
        exact ⟨by omega, a2, hr2⟩
      · have := vs_roots_pos hf j _ p1 a2 hr2 p' r' h
        exact ⟨by omega, this.2⟩
theorem vs_nmA_ok {D : vs_D} (h : vs_ok D) {k : Nat} {w : Nat → Nat} (hw : nm_ok w) {k' i : Nat} (hk : k' < 3) (hi : i < vs_cnt D.1 k' ∨ (k' = k ∧ i = vs_cnt D.1 k)) : nm_ok (vs_nmA D k w k' i) := by
  unfold vs_nmA
  split
  · exact hw
  · rcases hi with hi | hi
    · exact h.2.2.2.2 k' i hk hi
    · exact absurd hi (by assumption)
theorem vs_aP_ok {D : vs_D} (h : vs_ok D) {w : Nat → Nat} (hw : nm_ok w) (hm : vNp D.1 < 6) : vs_ok (vs_aP D w) := by
  have hN : ∀ k i, k < 3 → i < vs_cnt (vs_aP D w).1 k → nm_ok (vs_nmA D 0 w k i) := fun k i hk hi => vs_nmA_ok h hw hk (by
    rcases (show k = 0 ∨ k = 1 ∨ k = 2 by omega) with rfl | rfl | rfl
    · have hi2 : i < vNp D.1 + 1 := hi
      rcases Nat.lt_or_ge i (vNp D.1) with q | q
      · exact Or.inl q
      · exact Or.inr ⟨rfl, show i = vNp D.1 by omega⟩
    · exact Or.inl hi
    · exact Or.inl hi)
  obtain ⟨⟨a1, a2, a3, a4, a5, a6, a7, a8, a9, a10, a11, a12⟩, h2, h3, h4, h5⟩ := h
  refine ⟨⟨?_, a2, a3, a4, a5, a6, a7, a8, a9, a10, a11, a12⟩, ?_, h3, h4, hN⟩
  · show vNp D.1 + 1 ≤ 6
    omega
  · intro i hi
    have := h2 i hi
    show dHm D i < vNp D.1 + 1
    omega
theorem vs_aQ_ok {D : vs_D} (h : vs_ok D) {w : Nat → Nat} (hw : nm_ok w) (hm : vNq D.1 < 6) {x : Nat} (hx : x < vNp D.1) : vs_ok (vs_aQ D w x) := by
  have hN : ∀ k i, k < 3 → i < vs_cnt (vs_aQ D w x).1 k → nm_ok (vs_nmA D 1 w k i) := fun k i hk hi => vs_nmA_ok h hw hk (by
    rcases (show k = 0 ∨ k = 1 ∨ k = 2 by omega) with rfl | rfl | rfl
    · exact Or.inl hi
    · have hi2 : i < vNq D.1 + 1 := hi
      rcases Nat.lt_or_ge i (vNq D.1) with q | q
      · exact Or.inl q
      · exact Or.inr ⟨rfl, show i = vNq D.1 by omega⟩
    · exact Or.inl hi)
  obtain ⟨⟨a1, a2, a3, a4, a5, a6, a7, a8, a9, a10, a11, a12⟩, h2, h3, h4, h5⟩ := h
  refine ⟨⟨a1, ?_, a3, a4, a5, a6, a7, a8, a9, a10, a11, a12⟩, ?_, h3, ?_, hN⟩
  · show vNq D.1 + 1 ≤ 6
    omega
  · intro i hi
    have hi2 : i < vNq D.1 + 1 := hi
    show sp_up1 (dHm D) (vNq D.1) x i < vNp D.1
    unfold sp_up1
    split
    · exact hx
    · exact h2 i (by omega)
  · intro p t hpt
    have hpt2 : ¬ (p < vNq D.1 + 1 ∧ t < vNt D.1) := hpt
    exact h4 p t (by omega)
theorem vs_aT_ok {D : vs_D} (h : vs_ok D) {w : Nat → Nat} (hw : nm_ok w) (hm : vNt D.1 < 10) {g r : Nat} (hg : 1 ≤ g ∧ g ≤ 9) (hr : r < 2 ^ vNt D.1) : vs_ok (vs_aT D w g r) := by
  have hN : ∀ k i, k < 3 → i < vs_cnt (vs_aT D w g r).1 k → nm_ok (vs_nmA D 2 w k i) := fun k i hk hi => vs_nmA_ok h hw hk (by
    rcases (show k = 0 ∨ k = 1 ∨ k = 2 by omega) with rfl | rfl | rfl
    · exact Or.inl hi
    · exact Or.inl hi
    · have hi2 : i < vNt D.1 + 1 := hi
      rcases Nat.lt_or_ge i (vNt D.1) with q | q
      · exact Or.inl q
      · exact Or.inr ⟨rfl, show i = vNt D.1 by omega⟩)
  obtain ⟨⟨a1, a2, a3, a4, a5, a6, a7, a8, a9, a10, a11, a12⟩, h2, h3, h4, h5⟩ := h
  refine ⟨⟨a1, a2, ?_, a4, ?_, ?_, a7, a8, a9, a10, a11, a12⟩, h2, h3, ?_, hN⟩
  · show vNt D.1 + 1 ≤ 10
    omega
  · intro t ht
    have ht2 : t < vNt D.1 + 1 := ht
    show 1 ≤ sp_up1 (vWt D.1) (vNt D.1) g t ∧ sp_up1 (vWt D.1) (vNt D.1) g t ≤ 9
    unfold sp_up1
    split
    · exact hg
    · exact a5 t (by omega)
  · intro t ht
    have ht2 : t < vNt D.1 + 1 := ht
    show sp_up1 (vHg D.1) (vNt D.1) r t < 2 ^ t
    unfold sp_up1
    split
    · rename_i e; subst e; exact hr
    · exact a6 t (by omega)
  · intro p t hpt
    have hpt2 : ¬ (p < vNq D.1 ∧ t < vNt D.1 + 1) := hpt
    exact h4 p t (by omega)
theorem vs_aW_ok {D : vs_D} (h : vs_ok D) {a b x : Nat} (hx : x ≤ 99) : vs_ok (vs_aW D a b x) := by
  obtain ⟨⟨a1, a2, a3, a4, a5, a6, a7, a8, a9, a10, a11, a12⟩, h2, h3, h4, h5⟩ := h
  refine ⟨⟨a1, a2, a3, fun u v => ?_, a5, a6, a7, a8, a9, a10, a11, a12⟩, h2, h3, h4, h5⟩
  show sp_up2 (sp_up2 (vWy D.1) a b x) b a x u v ≤ 99
  unfold sp_up2
  split
  · exact hx
  · split
    · exact hx
    · exact a4 u v
theorem vs_aK_ok {D : vs_D} (h : vs_ok D) {a t x : Nat} (ha : a < vNq D.1) (ht : t < vNt D.1) (hx : x ≤ 99) : vs_ok (vs_aK D a t x) := by
  obtain ⟨h1, h2, h3, h4, h5⟩ := h
  refine ⟨h1, h2, fun u v => ?_, fun u v huv => ?_, h5⟩
  · show sp_up2 (dPt D) a t x u v ≤ 99
    unfold sp_up2
    split
    · exact hx
    · exact h3 u v
  · show sp_up2 (dPt D) a t x u v = 0
    have huv2 : ¬ (u < vNq D.1 ∧ v < vNt D.1) := huv
    unfold sp_up2
    rw [if_neg (by omega)]
    exact h4 u v huv2
theorem vs_aR_ok {D : vs_D} (h : vs_ok D) {k : Nat} {cs : List Int} (hk : k < 4) (hr : sp_rok cs ∧ ∀ c ∈ cs, sp_cc k c) : vs_ok (vs_aR D k cs) := by
  obtain ⟨⟨a1, a2, a3, a4, a5, a6, a7, a8, a9, a10, a11, a12⟩, h2, h3, h4, h5⟩ := h
  refine ⟨⟨a1, a2, a3, a4, a5, a6, fun j cs' hj hq => ?_, a8, a9, a10, a11, a12⟩, h2, h3, h4, h5⟩
  have hq2 : (if j = k then some cs else vRl D.1 j) = some cs' := hq
  split at hq2
  · rename_i e
    subst e
    cases hq2
    exact ⟨hr.1, fun c hc => sp_cc_okc hk (hr.2 c hc)⟩
  · exact a7 j cs' hj hq2
theorem vs_aS_ok {D : vs_D} (h : vs_ok D) {k x : Nat} (hk : k < 4) (h1 : vs_lo k ≤ x) (h2 : x ≤ vs_hi k) : vs_ok (vs_aS D k x) := by
  obtain ⟨⟨a1, a2, a3, a4, a5, a6, a7, a8, a9, a10, a11, a12⟩, h3⟩ := h
  have b1 : 1 ≤ (if k = 0 then x else vCt D.1) ∧ (if k = 0 then x else vCt D.1) ≤ 99 ∧ (if k = 1 then x else vBk D.1) ≤ 999 ∧ (if k = 2 then x else vTh D.1) ≤ 99 ∧ (if k = 3 then x else vBs D.1) ≤ 100 := by
    rcases (show k = 0 ∨ k = 1 ∨ k = 2 ∨ k = 3 by omega) with rfl | rfl | rfl | rfl <;> simp [vs_lo, vs_hi] at h1 h2 ⊢ <;> omega
  exact ⟨⟨a1, a2, a3, a4, a5, a6, a7, b1.1, b1.2.1, b1.2.2.1, b1.2.2.2.1, b1.2.2.2.2⟩, h3⟩
theorem vs_st_ok {f : Nat → Nat} {T p : Nat} {D : vs_D} (hT : T ≤ 1600) (hp : p ≤ T) (hf : ∀ i, i < T → f i ≤ 255) (h : vs_ok D) : vs_pos T p (vs_st f T D p) vs_ok := by
  unfold vs_st
  by_cases h1 : 309 ≤ tkK f T p ∧ tkK f T p ≤ 312
  · rw [if_pos h1]
    have hpos := tkK_pos (f := f) hp (by omega)
    unfold vs_rule
    cases hq : vRl D.1 (tkK f T p - 309).toNat with
    | some _ => intro p' a z; cases z
    | none =>
      intro p' a z
      simp only at z
      rcases hx : (rd_lev f T (tkK f T p - 309).toNat 6).2 (tkE f T p) with e | ⟨p1, cs⟩
      · rw [hx] at z; cases z
      · rw [hx] at z
        simp only [vs_b] at z
        have h2 := (rd_lev_ok f T (tkK f T p - 309).toNat 6).2 _ _ _ hpos.2.1 hx
        cases z
        exact ⟨by omega, h2.2.1, vs_aR_ok h (by omega) (rd_rok hT hf hpos.2.1 hx)⟩
  rw [if_neg h1]
  by_cases h2 : tkK f T p = 300
  · rw [if_pos h2]
    have hpos := tkK_pos (f := f) hp (by omega)
    refine vs_pos_le (Nat.le_refl _) (vs_nw_pos hpos.2.1 hpos.1 hf) (fun p1 w g1 g2 g3 p' b z => ?_)
    cases z
    exact ⟨Nat.le_refl _, g2, vs_aP_ok h g3.1 g3.2⟩
  rw [if_neg h2]
  by_cases h3 : tkK f T p = 301
  · rw [if_pos h3]
    have hpos := tkK_pos (f := f) hp (by omega)
    refine vs_pos_le (Nat.le_of_lt hpos.1) (vs_ol_pos hpos.2.1 hf) (fun p1 a g1 g2 g3 p' b z => ?_)
    have := vs_pos_b (vs_ol_pos (nm := dNm D 0) (c := vNp D.1) (bar := 2 ^ a) g2 hf) (fun p2 b i1 i2 i3 => vs_pos_b (vs_need_pos (f := f) (w := 302) i2 (by decide)) (fun p3 u j1 j2 j3 => vs_pos_le (Nat.le_refl _) (vs_num_pos (f := f) (a := 1) (b := 99) j2) (fun p4 x k1 k2 k3 p' b' z => by
      cases z
      exact (⟨Nat.le_refl _, k2, vs_aW_ok h k3.2⟩ : p4 ≤ p4 ∧ p4 ≤ T ∧ vs_ok (vs_aW D a b x))))) p' b z
    exact ⟨by omega, this.2⟩
  rw [if_neg h3]
  by_cases h4 : tkK f T p = 303
  · rw [if_pos h4]
    have hpos := tkK_pos (f := f) hp (by omega)
    refine vs_pos_b (vs_nw_pos hpos.2.1 hpos.1 hf) (fun p1 w g1 g2 g3 => vs_pos_b (vs_need_pos (f := f) (w := 304) g2 (by decide)) (fun p2 u i1 i2 i3 => vs_pos_le (Nat.le_refl _) (vs_ol_pos i2 hf) (fun p3 x k1 k2 k3 p' b' z => ?_)))
    cases z
    exact ⟨Nat.le_refl _, k2, vs_aQ_ok h g3.1 g3.2 k3.1⟩
  rw [if_neg h4]
  by_cases h5 : tkK f T p = 305
  · rw [if_pos h5]
    have hpos := tkK_pos (f := f) hp (by omega)
    refine vs_pos_b (vs_nw_pos hpos.2.1 hpos.1 hf) (fun p1 w g1 g2 g3 => vs_pos_b (vs_need_pos (f := f) (w := 306) g2 (by decide)) (fun p2 u i1 i2 i3 => vs_pos_le (Nat.le_refl _) (vs_num_pos i2) (fun p3 x k1 k2 k3 p' b' z => ?_)))
    split at z
    · rename_i h6
      have hpos3 := tkK_pos (f := f) k2 (by omega)
      rcases hx : vs_roots f T (dNm D 2) (vNt D.1) 10 0 (tkE f T p3) with e | ⟨p4, r⟩
      · rw [hx] at z; cases z
      · rw [hx] at z
        have h7 := vs_roots_pos hf 10 0 _ hpos3.2.1 (Nat.two_pow_pos _) p4 r hx
        cases z
        exact ⟨by omega, h7.2.1, vs_aT_ok h g3.1 g3.2 k3 h7.2.2⟩
    · cases z
      exact ⟨Nat.le_refl _, k2, vs_aT_ok h g3.1 g3.2 k3 (Nat.two_pow_pos _)⟩
  rw [if_neg h5]
  by_cases h6 : tkK f T p = 308
  · rw [if_pos h6]
    have hpos := tkK_pos (f := f) hp (by omega)
    refine vs_pos_le (Nat.le_of_lt hpos.1) (vs_ol_pos hpos.2.1 hf) (fun p1 a g1 g2 g3 p' b z => ?_)
    have := vs_pos_b (vs_ol_pos (nm := dNm D 2) (c := vNt D.1) (bar := 0) g2 hf) (fun p2 t i1 i2 i3 => vs_pos_le (Nat.le_refl _) (vs_num_pos (f := f) (a := 0) (b := 99) i2) (fun p4 x k1 k2 k3 p' b' z => by
      cases z
      exact (⟨Nat.le_refl _, k2, vs_aK_ok h g3.1 i3.1 k3.2⟩ : p4 ≤ p4 ∧ p4 ≤ T ∧ vs_ok (vs_aK D a t x)))) p' b z
    exact ⟨by omega, this.2⟩
  rw [if_neg h6]
  by_cases h7 : 313 ≤ tkK f T p ∧ tkK f T p ≤ 316
  · rw [if_pos h7]
    have hpos := tkK_pos (f := f) hp (by omega)
    refine vs_pos_le (Nat.le_of_lt hpos.1) (vs_num_pos hpos.2.1) (fun p1 x g1 g2 g3 p' b z => ?_)
    cases z
    exact ⟨Nat.le_refl _, g2, vs_aS_ok h (by omega) g3.1 g3.2⟩
  rw [if_neg h7]
  intro p' a z
  cases z
theorem vs_all_ok {f : Nat → Nat} {T : Nat} (hT : T ≤ 1600) (hf : ∀ i, i < T → f i ≤ 255) : ∀ (j c : Nat) (D : vs_D) (p : Nat), p ≤ T → vs_ok D → ∀ c' D', vs_all f T j c D p = .inr (c', D') → vs_ok D' ∧ c ≤ c' ∧ c' ≤ c + j
  | 0, c, D, p, hp, h, c', D', z => by
    simp only [vs_all] at z
    split at z
    · cases z; exact ⟨h, Nat.le_refl _, Nat.le_refl _⟩
    · cases z
  | j + 1, c, D, p, hp, h, c', D', z => by
    simp only [vs_all] at z
    split at z
    · cases z; exact ⟨h, Nat.le_refl _, by omega⟩
    · rcases hx : vs_st f T D p with e | ⟨p1, D1⟩
      · rw [hx] at z; cases z
      · rw [hx] at z
        have h1 := vs_st_ok hT hp hf h p1 D1 hx
        simp only [vs_b] at z
        rcases hx2 : vs_need f T 59 p1 with e | ⟨p2, u⟩
        · rw [hx2] at z; cases z
        · rw [hx2] at z
          have h2 := vs_need_pos (f := f) (w := 59) h1.2.1 (by decide) p2 u hx2
          have := vs_all_ok hT hf j (c + 1) D1 p2 h2.2.1 h1.2.2 c' D' z
          exact ⟨this.1, by omega, by omega⟩
