/-! ===== what is least stands still after as many rounds as there are places ===== -/
theorem sp_nodup_le : ∀ (n : Nat) (l : List Nat), l.Nodup → (∀ x ∈ l, x < n) → l.length ≤ n
  | 0, l, _, h => by
    cases l with
    | nil => exact Nat.le_refl _
    | cons x l => exact absurd (h x List.mem_cons_self) (by omega)
  | n + 1, l, hd, h => by
    by_cases hm : n ∈ l
    · have h1 := sp_nodup_le n (l.erase n) (hd.erase n) (fun x hx => by
        have h2 := (hd.mem_erase_iff).mp hx
        have h3 := h x h2.2
        omega)
      rw [List.length_erase_of_mem hm] at h1
      have : 0 < l.length := List.length_pos_of_mem hm
      omega
    · have h1 := sp_nodup_le n l hd (fun x hx => by
        have h3 := h x hx
        rcases Nat.lt_or_ge x n with q | q
        · exact q
        · have : x = n := by omega
          subst this; exact absurd hx hm)
      omega
/-- none is the farthest -/
def sp_ole (o1 o2 : Option Nat) : Prop := ∀ y, o2 = some y → ∃ x, o1 = some x ∧ x ≤ y
theorem sp_ole_rf (o : Option Nat) : sp_ole o o := fun y h => ⟨y, h, Nat.le_refl _⟩
theorem sp_ole_tr {a b c : Option Nat} (h1 : sp_ole a b) (h2 : sp_ole b c) : sp_ole a c := fun y h => by
  obtain ⟨x, hx, hxy⟩ := h2 y h
  obtain ⟨z, hz, hzx⟩ := h1 x hx
  exact ⟨z, hz, by omega⟩
theorem sp_ole_as {a b : Option Nat} (h1 : sp_ole a b) (h2 : sp_ole b a) : a = b := by
  cases a with
  | none =>
    cases b with
    | none => rfl
    | some y => obtain ⟨x, hx, _⟩ := h1 y rfl; cases hx
  | some x =>
    obtain ⟨y, hy, h3⟩ := h2 x rfl
    subst hy
    obtain ⟨z, hz, h4⟩ := h1 y rfl
    cases hz
    rw [show x = y by omega]
theorem sp_om_l (a b : Option Nat) : sp_ole (sp_om a b) a := by
  intro y h
  subst h
  cases b with
  | none => exact ⟨y, rfl, Nat.le_refl _⟩
  | some z => exact ⟨min y z, rfl, Nat.min_le_left _ _⟩
theorem sp_om_rr (a b : Option Nat) : sp_ole (sp_om a b) b := by
  intro y h
  subst h
  cases a with
  | none => exact ⟨y, rfl, Nat.le_refl _⟩
  | some z => exact ⟨min z y, rfl, Nat.min_le_right _ _⟩
theorem sp_om_g {a b c : Option Nat} (h1 : sp_ole c a) (h2 : sp_ole c b) : sp_ole c (sp_om a b) := by
  intro y h
  cases a with
  | none => exact h2 y h
  | some x =>
    cases b with
    | none => exact h1 y h
    | some z =>
      simp only [sp_om, Option.some.injEq] at h
      rcases Nat.le_total x z with q | q
      · rw [Nat.min_eq_left q] at h; exact h1 y (by rw [h])
      · rw [Nat.min_eq_right q] at h; exact h2 y (by rw [h])
theorem sp_om_or (a b : Option Nat) : sp_om a b = a ∨ sp_om a b = b := by
  cases a with
  | none => exact Or.inr rfl
  | some x =>
    cases b with
    | none => exact Or.inl rfl
    | some z =>
      rcases Nat.le_total x z with q | q
      · exact Or.inl (by simp only [sp_om]; rw [Nat.min_eq_left q])
      · exact Or.inr (by simp only [sp_om]; rw [Nat.min_eq_right q])
theorem sp_op_mono {w a b : Option Nat} (h : sp_ole a b) : sp_ole (sp_op w a) (sp_op w b) := by
  intro y hy
  cases w with
  | none => cases hy
  | some u =>
    cases b with
    | none => cases hy
    | some z =>
      obtain ⟨x, hx, hxz⟩ := h z rfl
      subst hx
      cases hy
      exact ⟨u + x, rfl, by omega⟩
section BF
variable {V : sp_V} {ly : Nat → Nat → Nat}
def sp_mb (V : sp_V) (ly : Nat → Nat → Nat) (f : Nat → Option Nat) (a : Nat) : Nat → Option Nat
  | 0 => f a
  | b + 1 => sp_om (sp_mb V ly f a b) (sp_op (sp_w V ly a b) (f b))
def sp_D (V : sp_V) (ly : Nat → Nat → Nat) (f : Nat → Option Nat) : Nat → Nat → Option Nat
  | 0 => f
  | k + 1 => fun a => sp_mb V ly (sp_D V ly f k) a (vNp V)
theorem sp_mb_le (f : Nat → Option Nat) (a : Nat) : ∀ m, sp_ole (sp_mb V ly f a m) (f a)
  | 0 => sp_ole_rf _
  | m + 1 => sp_ole_tr (sp_om_l _ _) (sp_mb_le f a m)
theorem sp_mb_b (f : Nat → Option Nat) (a : Nat) : ∀ m b, b < m → sp_ole (sp_mb V ly f a m) (sp_op (sp_w V ly a b) (f b))
  | 0, _, h => absurd h (by omega)
  | m + 1, b, h => by
    by_cases e : b = m
    · subst e; exact sp_om_rr _ _
    · exact sp_ole_tr (sp_om_l _ _) (sp_mb_b f a m b (by omega))
theorem sp_mb_g (f : Nat → Option Nat) (a : Nat) {c : Option Nat} (h0 : sp_ole c (f a)) : ∀ m, (∀ b, b < m → sp_ole c (sp_op (sp_w V ly a b) (f b))) → sp_ole c (sp_mb V ly f a m)
  | 0, _ => h0
  | m + 1, h => sp_om_g (sp_mb_g f a h0 m (fun b hb => h b (by omega))) (h m (by omega))
theorem sp_mb_or (f : Nat → Option Nat) (a : Nat) : ∀ m, sp_mb V ly f a m = f a ∨ ∃ b, b < m ∧ sp_mb V ly f a m = sp_op (sp_w V ly a b) (f b)
  | 0 => Or.inl rfl
  | m + 1 => by
    simp only [sp_mb]
    rcases sp_om_or (sp_mb V ly f a m) (sp_op (sp_w V ly a m) (f m)) with h | h
    · rw [h]
      rcases sp_mb_or f a m with q | ⟨b, hb, q⟩
      · exact Or.inl q
      · exact Or.inr ⟨b, by omega, q⟩
    · exact Or.inr ⟨m, by omega, h⟩
theorem sp_D_dec (f : Nat → Option Nat) (a : Nat) : ∀ k j, j ≤ k → sp_ole (sp_D V ly f k a) (sp_D V ly f j a)
  | 0, j, h => by rw [show j = 0 by omega]; exact sp_ole_rf _
  | k + 1, j, h => by
    by_cases e : j = k + 1
    · subst e; exact sp_ole_rf _
    · exact sp_ole_tr (sp_mb_le _ a _) (sp_D_dec f a k j (by omega))
theorem sp_op_some {w o : Option Nat} {x : Nat} (h : sp_op w o = some x) : ∃ u z, w = some u ∧ o = some z ∧ u + z = x := by
  cases w with
  | none => cases h
  | some u =>
    cases o with
    | none => cases h
    | some z => exact ⟨u, z, rfl, rfl, by cases h; rfl⟩
theorem sp_D_chain (hw1 : ∀ a b x, b < vNp V → sp_w V ly a b = some x → 1 ≤ x) (f : Nat → Option Nat) : ∀ (k a x : Nat), a < vNp V → sp_D V ly f (k + 1) a = some x → sp_D V ly f k a ≠ some x → ∃ l : List Nat, l.length = k ∧ l.Nodup ∧ ∀ q ∈ l, q < vNp V ∧ ∃ j y, j ≤ k ∧ sp_D V ly f j q = some y ∧ y < x
  | 0, a, x, _, _, _ => ⟨[], rfl, List.nodup_nil, fun _ h => absurd h List.not_mem_nil⟩
  | k + 1, a, x, ha, h1, h2 => by
    rcases sp_mb_or (V := V) (ly := ly) (sp_D V ly f (k + 1)) a (vNp V) with q | ⟨b, hb, q⟩
    · exact absurd (by rw [← q]; exact h1) h2
    · have q2 : sp_op (sp_w V ly a b) (sp_D V ly f (k + 1) b) = some x := by rw [← q]; exact h1
      obtain ⟨u, z, hu, hz, huz⟩ := sp_op_some q2
      have hu1 := hw1 a b u hb hu
      have hne : sp_D V ly f k b ≠ some z := by
        intro he
        have h3 := sp_mb_b (V := V) (ly := ly) (sp_D V ly f k) a (vNp V) b hb x (by rw [hu, he]; simp only [sp_op]; rw [huz])
        obtain ⟨y, hy, hyx⟩ := h3
        have h4 := sp_mb_le (V := V) (ly := ly) (sp_D V ly f (k + 1)) a (vNp V) y hy
        obtain ⟨y2, hy2, hy3⟩ := h4
        have h5 : sp_mb V ly (sp_D V ly f (k + 1)) a (vNp V) = some x := h1
        rw [h5] at hy2
        cases hy2
        have : y = x := by omega
        subst this
        exact h2 hy
      obtain ⟨l, l1, l2, l3⟩ := sp_D_chain hw1 f k b z hb hz hne
      refine ⟨b :: l, by simp [l1], List.nodup_cons.mpr ⟨fun hm => ?_, l2⟩, fun q9 hq => ?_⟩
      · obtain ⟨-, j, y, hj, hy, hyz⟩ := l3 b hm
        obtain ⟨y2, hy2, hy3⟩ := sp_D_dec (V := V) (ly := ly) f b (k + 1) j (by omega) y hy
        rw [hz] at hy2
        cases hy2
        omega
      · rcases List.mem_cons.mp hq with e | e
        · subst e
          exact ⟨hb, k + 1, z, Nat.le_refl _, hz, by omega⟩
        · obtain ⟨m1, j, y, m2, m3, m4⟩ := l3 q9 e
          exact ⟨m1, j, y, by omega, m3, by omega⟩
theorem sp_D_fix (hw1 : ∀ a b x, b < vNp V → sp_w V ly a b = some x → 1 ≤ x) (f : Nat → Option Nat) (a : Nat) (ha : a < vNp V) : sp_D V ly f (vNp V + 1) a = sp_D V ly f (vNp V) a := by
  apply sp_ole_as
  · exact sp_mb_le _ a _
  · intro x hx
    by_cases he : sp_D V ly f (vNp V) a = some x
    · exact ⟨x, he, Nat.le_refl _⟩
    · obtain ⟨l, l1, l2, l3⟩ := sp_D_chain hw1 f (vNp V) a x ha hx he
      have h9 : (a :: l).length ≤ vNp V := sp_nodup_le (vNp V) (a :: l) (List.nodup_cons.mpr ⟨fun hm => by
        obtain ⟨-, j, y, hj, hy, hyz⟩ := l3 a hm
        obtain ⟨y2, hy2, hy3⟩ := sp_D_dec (V := V) (ly := ly) f a (vNp V + 1) j (by omega) y hy
        rw [hx] at hy2
        cases hy2
        omega, l2⟩) (fun q hq => by
        rcases List.mem_cons.mp hq with e | e
        · subst e; exact ha
        · exact (l3 q e).1)
      simp [l1] at h9
      omega
theorem sp_D_cl (hw1 : ∀ a b x, b < vNp V → sp_w V ly a b = some x → 1 ≤ x) (f : Nat → Option Nat) (a b : Nat) (ha : a < vNp V) (hb : b < vNp V) : sp_ole (sp_D V ly f (vNp V) a) (sp_op (sp_w V ly a b) (sp_D V ly f (vNp V) b)) := by
  rw [← sp_D_fix hw1 f a ha]
  exact sp_mb_b _ a _ b hb
/-- in place: not above -/
theorem sp_rx_up {g : Nat → Option Nat} {a : Nat} (ha : a < vNp V) : ∀ (m : Nat) (f : Nat → Option Nat), (∀ q, q < vNp V → sp_ole (f q) (g q)) → m ≤ vNp V → sp_ole (sp_rx V ly f a m a) (sp_mb V ly g a m)
  | 0, f, h, _ => h a ha
  | m + 1, f, h, hm => by
    have ih := sp_rx_up ha m f h (by omega)
    simp only [sp_rx, sp_set, sp_mb]
    rw [if_pos trivial]
    have h2 : sp_ole (sp_rx V ly f a m m) (g m) := by
      by_cases e : m = a
      · subst e
        exact sp_ole_tr ih (sp_mb_le g m m)
      · rw [sp_rx_ne e]; exact h m (by omega)
    exact sp_om_g (sp_ole_tr (sp_om_l _ _) ih) (sp_ole_tr (sp_om_rr _ _) (sp_op_mono h2))
theorem sp_ry_up {f g : Nat → Option Nat} (h : ∀ q, q < vNp V → sp_ole (f q) (g q)) : ∀ m, m ≤ vNp V → ∀ q, q < vNp V → sp_ole (sp_ry V ly f m q) (g q) ∧ (q < m → sp_ole (sp_ry V ly f m q) (sp_mb V ly g q (vNp V)))
  | 0, _, q, hq => ⟨h q hq, fun z => absurd z (by omega)⟩
  | m + 1, hm, q, hq => by
    have ih := sp_ry_up h m (by omega)
    simp only [sp_ry]
    by_cases e : q = m
    · subst e
      have h1 := sp_rx_up (ly := ly) hq (vNp V) (sp_ry V ly f q) (fun q hq => (ih q hq).1) (Nat.le_refl _)
      exact ⟨sp_ole_tr h1 (sp_mb_le g q _), fun _ => h1⟩
    · rw [sp_rx_ne e]
      exact ⟨(ih q hq).1, fun z => (ih q hq).2 (by omega)⟩
theorem sp_rz_up (f : Nat → Option Nat) : ∀ k q, q < vNp V → sp_ole (sp_rz V ly f k q) (sp_D V ly f k q)
  | 0, q, _ => sp_ole_rf _
  | k + 1, q, hq => (sp_ry_up (sp_rz_up f k) (vNp V) (Nat.le_refl _) q hq).2 hq
/-- in place: not below -/
theorem sp_rx_dn {g : Nat → Option Nat} (hg : ∀ a b, a < vNp V → b < vNp V → sp_ole (g a) (sp_op (sp_w V ly a b) (g b))) {a : Nat} (ha : a < vNp V) : ∀ (m : Nat) (f : Nat → Option Nat), (∀ q, q < vNp V → sp_ole (g q) (f q)) → m ≤ vNp V → ∀ q, q < vNp V → sp_ole (g q) (sp_rx V ly f a m q)
  | 0, f, h, _ => h
  | m + 1, f, h, hm => by
    have ih := sp_rx_dn hg ha m f h (by omega)
    intro q hq
    simp only [sp_rx, sp_set]
    by_cases e : q = a
    · subst e
      rw [if_pos rfl]
      exact sp_om_g (ih q hq) (sp_ole_tr (hg q m hq (by omega)) (sp_op_mono (ih m (by omega))))
    · rw [if_neg e]; exact ih q hq
theorem sp_ry_dn {f g : Nat → Option Nat} (hg : ∀ a b, a < vNp V → b < vNp V → sp_ole (g a) (sp_op (sp_w V ly a b) (g b))) (h : ∀ q, q < vNp V → sp_ole (g q) (f q)) : ∀ m, m ≤ vNp V → ∀ q, q < vNp V → sp_ole (g q) (sp_ry V ly f m q)
  | 0, _ => h
  | m + 1, hm => sp_rx_dn hg (by omega) _ _ (sp_ry_dn hg h m (by omega)) (Nat.le_refl _)
theorem sp_rz_dn {f g : Nat → Option Nat} (hg : ∀ a b, a < vNp V → b < vNp V → sp_ole (g a) (sp_op (sp_w V ly a b) (g b))) (h : ∀ q, q < vNp V → sp_ole (g q) (f q)) : ∀ k q, q < vNp V → sp_ole (g q) (sp_rz V ly f k q)
  | 0 => h
  | k + 1 => sp_ry_dn hg (sp_rz_dn hg h k) _ (Nat.le_refl _)
theorem sp_me_D (hw1 : ∀ a b x, b < vNp V → sp_w V ly a b = some x → 1 ≤ x) (to a : Nat) (ha : a < vNp V) : sp_me V ly to a = sp_D V ly (sp_f0 to) (vNp V) a :=
  sp_ole_as (sp_rz_up _ _ a ha) (sp_rz_dn (sp_D_cl hw1 _) (fun q hq => sp_D_dec _ q _ 0 (by omega)) _ a ha)
theorem sp_D_wit (to : Nat) : ∀ (k a x : Nat), a ≠ to → sp_D V ly (sp_f0 to) k a = some x → ∃ b u z, b < vNp V ∧ sp_w V ly a b = some u ∧ sp_D V ly (sp_f0 to) k b = some z ∧ u + z ≤ x
  | 0, a, x, ha, h => by
    simp only [sp_D, sp_f0] at h
    rw [if_neg ha] at h
    cases h
  | k + 1, a, x, ha, h => by
    rcases sp_mb_or (V := V) (ly := ly) (sp_D V ly (sp_f0 to) k) a (vNp V) with q | ⟨b, hb, q⟩
    · obtain ⟨b, u, z, h1, h2, h3, h4⟩ := sp_D_wit to k a x ha (by rw [← q]; exact h)
      obtain ⟨z2, h5, h6⟩ := sp_mb_le (V := V) (ly := ly) (sp_D V ly (sp_f0 to) k) b (vNp V) z h3
      exact ⟨b, u, z2, h1, h2, h5, by omega⟩
    · obtain ⟨u, z, h1, h2, h3⟩ := sp_op_some (show sp_op (sp_w V ly a b) (sp_D V ly (sp_f0 to) k b) = some x by rw [← q]; exact h)
      obtain ⟨z2, h5, h6⟩ := sp_mb_le (V := V) (ly := ly) (sp_D V ly (sp_f0 to) k) b (vNp V) z h2
      exact ⟨b, u, z2, hb, h1, h5, by omega⟩
theorem sp_me_wit (hw1 : ∀ a b x, b < vNp V → sp_w V ly a b = some x → 1 ≤ x) (to a x : Nat) (ha : a < vNp V) (hat : a ≠ to) (h : sp_me V ly to a = some x) : ∃ b, b < vNp V ∧ sp_fby V ly (sp_me V ly to) a b = some x := by
  rw [sp_me_D hw1 to a ha] at h
  obtain ⟨b, u, z, h1, h2, h3, h4⟩ := sp_D_wit to _ a x hat h
  obtain ⟨y, h5, h6⟩ := sp_D_cl hw1 (sp_f0 to) a b ha h1 (u + z) (by rw [h2, h3]; rfl)
  rw [h] at h5
  cases h5
  refine ⟨b, h1, ?_⟩
  unfold sp_fby
  rw [sp_me_D hw1 to b h1, h2, h3]
  simp only [sp_op]
  rw [show u + z = x by omega]
theorem sp_f0_to (to : Nat) : sp_f0 to to = some 0 := by simp [sp_f0]
/-- at the goal nothing changes -/
theorem sp_rx_to {f : Nat → Option Nat} {to : Nat} (h : f to = some 0) : ∀ m, sp_rx V ly f to m = f
  | 0 => rfl
  | m + 1 => by
    simp only [sp_rx]
    rw [sp_rx_to h m]
    funext q
    simp only [sp_set]
    by_cases e : q = to
    · subst e
      rw [if_pos rfl, h]
      cases sp_fby V ly f q m with
      | none => rfl
      | some y => simp [sp_om]
    · rw [if_neg e]
theorem sp_rx_at0 {f : Nat → Option Nat} {to a : Nat} (h : f to = some 0) (m : Nat) : sp_rx V ly f a m to = some 0 := by
  by_cases e : to = a
  · subst e; rw [sp_rx_to h]; exact h
  · rw [sp_rx_ne e]; exact h
theorem sp_ry_at0 {f : Nat → Option Nat} {to : Nat} (h : f to = some 0) : ∀ a, sp_ry V ly f a to = some 0
  | 0 => h
  | a + 1 => sp_rx_at0 (sp_ry_at0 h a) _
theorem sp_rz_at0 {to : Nat} : ∀ k, sp_rz V ly (sp_f0 to) k to = some 0
  | 0 => sp_f0_to to
  | k + 1 => sp_ry_at0 (sp_rz_at0 k) _
end BF
