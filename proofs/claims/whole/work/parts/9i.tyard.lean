/-! ===== the yard: TESTS with a list of what waits ===== -/
def t_ta (m : Int) : List Int → List Int
  | [] => []
  | c :: W => if m ≤ c ∧ c ≤ -10 then c :: t_ta m W else []
def t_da (m : Int) : List Int → List Int
  | [] => []
  | c :: W => if m ≤ c ∧ c ≤ -10 then t_da m W else c :: W
def t_en : List Int → List Int → Nat → List Int × List Int × Nat
  | [], C, o => ([], C, o)
  | c :: W, C, o => if c = -12 then t_en W (C ++ [-12]) (o - 1) else (c :: W, C, o)
section TYD
variable (f : Nat → Nat) (T : Nat)
/-- ALL, or a comparison -/
noncomputable def t_pt (o p : Nat) : sp_R := if tkK f T p = 327 then .inr (tkE f T p, [1]) else rt_cmp f T (rd_lev f T 4 (6 - o)).2 p
noncomputable def t_run : Nat → Bool → Nat → List Int × List Int × Nat → vs_R (List Int × Nat)
  | 0, _, _, _ => .inl (9, 9)
  | j + 1, true, p, s =>
    if tkK f T p = 91 then (if s.2.2 = 6 then .inl (4, tkS f T p) else t_run j true (tkE f T p) (25 :: s.1, s.2.1, s.2.2 + 1))
    else if tkK f T p = 326 then (if s.2.2 = 6 then .inl (4, tkS f T p) else t_run j true (tkE f T p) (-12 :: s.1, s.2.1, s.2.2 + 1))
    else (match t_pt f T s.2.2 p with
      | .inl e => .inl e
      | .inr (p', cs) => t_run j false p' (t_en s.1 (s.2.1 ++ cs) s.2.2))
  | j + 1, false, p, s =>
    if tkK f T p = 93 ∧ y_hd s.1 = 25 then t_run j false (tkE f T p) (t_en (y_tl s.1) (s.2.1 ++ y_tk s.1) (s.2.2 - 1))
    else if tkK f T p = 325 then t_run j true (tkE f T p) (-10 :: t_da (-10) s.1, s.2.1 ++ t_ta (-10) s.1, s.2.2)
    else if tkK f T p = 324 then t_run j true (tkE f T p) (-11 :: t_da (-11) s.1, s.2.1 ++ t_ta (-11) s.1, s.2.2)
    else if y_hd s.1 ≠ -1 then .inl (1, tkS f T p)
    else .inr (p, s.2.1 ++ s.1, s.2.2)
def t_to (m : Bool) (p : Nat) (s : List Int × List Int × Nat) (m' : Bool) (p' : Nat) (s' : List Int × List Int × Nat) : Prop := ∃ k, ∀ j, t_run f T (j + k) m p s = t_run f T j m' p' s'
def t_fl (m : Bool) (p : Nat) (s : List Int × List Int × Nat) (e : Nat × Nat) : Prop := ∃ k, ∀ j, t_run f T (j + k) m p s = .inl e
end TYD
section TYP
variable {f : Nat → Nat} {T : Nat}
theorem t_to_rf {m : Bool} {p : Nat} {s : List Int × List Int × Nat} : t_to f T m p s m p s := ⟨0, fun _ => rfl⟩
theorem t_to_tr {m m1 m2 : Bool} {p p1 p2 : Nat} {s s1 s2 : List Int × List Int × Nat} (h : t_to f T m p s m1 p1 s1) (h2 : t_to f T m1 p1 s1 m2 p2 s2) : t_to f T m p s m2 p2 s2 := by
  obtain ⟨k, hk⟩ := h
  obtain ⟨k2, hk2⟩ := h2
  exact ⟨k2 + k, fun j => by rw [← Nat.add_assoc, hk, hk2]⟩
theorem t_to_fl {m m1 : Bool} {p p1 : Nat} {s s1 : List Int × List Int × Nat} {e : Nat × Nat} (h : t_to f T m p s m1 p1 s1) (h2 : t_fl f T m1 p1 s1 e) : t_fl f T m p s e := by
  obtain ⟨k, hk⟩ := h
  obtain ⟨k2, hk2⟩ := h2
  exact ⟨k2 + k, fun j => by rw [← Nat.add_assoc, hk, hk2]⟩
theorem t_ta_app {m : Int} {W : List Int} (hW : ∀ c W', W = c :: W' → ¬ (m ≤ c ∧ c ≤ -10)) : ∀ X : List Int, (∀ c ∈ X, m ≤ c ∧ c ≤ -10) → t_ta m (X ++ W) = X ∧ t_da m (X ++ W) = W
  | [], _ => by
    cases W with
    | nil => exact ⟨rfl, rfl⟩
    | cons c W' =>
      simp only [List.nil_append, t_ta, t_da]
      rw [if_neg (hW c W' rfl), if_neg (hW c W' rfl)]
      exact ⟨rfl, rfl⟩
  | c :: X, h => by
    have ih := t_ta_app hW X (fun x hx => h x (List.mem_cons_of_mem _ hx))
    have hc := h c List.mem_cons_self
    simp only [List.cons_append, t_ta, t_da]
    rw [if_pos hc, if_pos hc, ih.1, ih.2]
    exact ⟨rfl, rfl⟩
theorem t_en_id {W C : List Int} {o : Nat} (h : ∀ c W', W = c :: W' → c ≠ -12) : t_en W C o = (W, C, o) := by
  cases W with
  | nil => rfl
  | cons c W' =>
    simp only [t_en]
    rw [if_neg (h c W' rfl)]
def tP (f : Nat → Nat) (T : Nat) (X : sp_F) (o : Nat) : Prop := ∀ (p : Nat) (W C : List Int), p ≤ T → (∀ e, X p = .inl e → t_fl f T true p (W, C, o) e) ∧ ∀ p' cs, X p = .inr (p', cs) → t_to f T true p (W, C, o) false p' (t_en W (C ++ cs) o)
def tM (f : Nat → Nat) (T : Nat) (X : sp_F) (o : Nat) : Prop := ∀ (p : Nat) (W C : List Int), p ≤ T → (∀ c W', W = c :: W' → 0 ≤ c ∨ c = -11) → (∀ e, X p = .inl e → t_fl f T true p (W, C, o) e) ∧ ∀ p' cs, X p = .inr (p', cs) → ∃ X' C', t_to f T true p (W, C, o) false p' (X' ++ W, C', o) ∧ C' ++ X' = C ++ cs ∧ (X' = [] ∨ X' = [-10]) ∧ tkK f T p' ≠ 325
def tSm (f : Nat → Nat) (T : Nat) (X : sp_F) (o : Nat) : Prop := ∀ (p : Nat) (W C : List Int), p ≤ T → (∀ c W', W = c :: W' → 0 ≤ c) → (∀ e, X p = .inl e → t_fl f T true p (W, C, o) e) ∧ ∀ p' cs, X p = .inr (p', cs) → ∃ X' C', t_to f T true p (W, C, o) false p' (X' ++ W, C', o) ∧ C' ++ X' = C ++ cs ∧ (∀ c ∈ X', -11 ≤ c ∧ c ≤ -10) ∧ tkK f T p' ≠ 325 ∧ tkK f T p' ≠ 324
theorem t_both_lp {X : sp_F} {o : Nat} (hT : T ≤ 1600) (hok : rd_ok T X) (hX : tP f T X o) (W C : List Int) (hW : ∀ c W', W = c :: W' → 0 ≤ c ∨ c = -11) : ∀ (j p : Nat) (acc X' C' : List Int), p ≤ T → T < j + p → C' ++ X' = C ++ acc → (X' = [] ∨ X' = [-10]) →
    (∀ e, rd_lp f T 325 325 (-10) (-10) X j p acc = .inl e → t_fl f T false p (X' ++ W, C', o) e) ∧ ∀ p' cs, rd_lp f T 325 325 (-10) (-10) X j p acc = .inr (p', cs) → ∃ X2 C2, t_to f T false p (X' ++ W, C', o) false p' (X2 ++ W, C2, o) ∧ C2 ++ X2 = C ++ cs ∧ (X2 = [] ∨ X2 = [-10]) ∧ tkK f T p' ≠ 325
  | 0, p, acc, X', C', hp, hj, h1, h2 => by omega
  | j + 1, p, acc, X', C', hp, hj, h1, h2 => by
    have e : rd_lp f T 325 325 (-10) (-10) X (j + 1) p acc = if tkK f T p = 325 ∨ tkK f T p = 325 then rd_bind (X (tkE f T p)) (fun p1 cs => rd_lp f T 325 325 (-10) (-10) X j p1 (acc ++ cs ++ [if tkK f T p = 325 then -10 else -10])) else .inr (p, acc) := rfl
    rw [e]
    by_cases hk : tkK f T p = 325
    · rw [if_pos (Or.inl hk), if_pos hk]
      have hpos := tkK_pos (f := f) hp (by omega)
      have hspl := t_ta_app (m := -10) (W := W) (fun c W' e => by have := hW c W' e; omega) X' (by
        rcases h2 with rfl | rfl
        · intro c hc; cases hc
        · intro c hc; rw [List.mem_singleton] at hc; omega)
      have step : t_to f T false p (X' ++ W, C', o) true (tkE f T p) (-10 :: W, C ++ acc, o) := by
        refine ⟨1, fun j => ?_⟩
        simp only [t_run]
        rw [if_neg (by omega), if_pos hk, hspl.1, hspl.2, h1]
      have hp2 := hX (tkE f T p) (-10 :: W) (C ++ acc) hpos.2.1
      rcases hx : X (tkE f T p) with e1 | ⟨p1, cs⟩
      · simp only [rd_bind]
        refine ⟨fun e he => ?_, fun p' cs he => by cases he⟩
        cases he
        exact t_to_fl step (hp2.1 e1 hx)
      · simp only [rd_bind]
        have h3 := hp2.2 p1 cs hx
        rw [t_en_id (fun c W' e => by cases e; omega)] at h3
        have h4 := hok _ _ _ hpos.2.1 hx
        have ih := t_both_lp hT hok hX W C hW j p1 (acc ++ cs ++ [-10]) [-10] (C ++ acc ++ cs) h4.2.1 (by omega) (by simp [List.append_assoc]) (Or.inr rfl)
        have s2 := t_to_tr step h3
        refine ⟨fun e he => t_to_fl s2 (ih.1 e he), fun p' cs' he => ?_⟩
        obtain ⟨X2, C2, i1, i2⟩ := ih.2 p' cs' he
        exact ⟨X2, C2, t_to_tr s2 i1, i2⟩
    · rw [if_neg (fun z => hk (z.elim id id))]
      refine ⟨fun e he => (by cases he), fun p' cs he => ?_⟩
      cases he
      exact ⟨X', C', t_to_rf, h1, h2, hk⟩
theorem t_both {X : sp_F} {o : Nat} (hT : T ≤ 1600) (hok : rd_ok T X) (hX : tP f T X o) : tM f T (rt_both f T X) o := by
  intro p W C hp hW
  have h1 := hX p W C hp
  unfold rt_both
  rcases hx : X p with e1 | ⟨p1, cs⟩
  · simp only [rd_bind]
    refine ⟨fun e he => ?_, fun p' cs he => by cases he⟩
    cases he
    exact h1.1 e1 hx
  · simp only [rd_bind]
    have h2 := h1.2 p1 cs hx
    rw [t_en_id (fun c W' e => by have := hW c W' e; omega)] at h2
    have h4 := hok _ _ _ hp hx
    have h5 := t_both_lp hT hok hX W C hW 1600 p1 cs [] (C ++ cs) h4.2.1 (by omega) (by simp) (Or.inl rfl)
    refine ⟨fun e he => t_to_fl h2 (h5.1 e he), fun p' cs' he => ?_⟩
    obtain ⟨X2, C2, i1, i2⟩ := h5.2 p' cs' he
    exact ⟨X2, C2, t_to_tr h2 i1, i2⟩
theorem t_test_lp {X : sp_F} {o : Nat} (hT : T ≤ 1600) (hok : rd_ok T X) (hX : tM f T X o) (W C : List Int) (hW : ∀ c W', W = c :: W' → 0 ≤ c) : ∀ (j p : Nat) (acc X' C' : List Int), p ≤ T → T < j + p → C' ++ X' = C ++ acc → (∀ c ∈ X', -11 ≤ c ∧ c ≤ -10) → tkK f T p ≠ 325 →
    (∀ e, rd_lp f T 324 324 (-11) (-11) X j p acc = .inl e → t_fl f T false p (X' ++ W, C', o) e) ∧ ∀ p' cs, rd_lp f T 324 324 (-11) (-11) X j p acc = .inr (p', cs) → ∃ X2 C2, t_to f T false p (X' ++ W, C', o) false p' (X2 ++ W, C2, o) ∧ C2 ++ X2 = C ++ cs ∧ (∀ c ∈ X2, -11 ≤ c ∧ c ≤ -10) ∧ tkK f T p' ≠ 325 ∧ tkK f T p' ≠ 324
  | 0, p, acc, X', C', hp, hj, h1, h2, n1 => by omega
  | j + 1, p, acc, X', C', hp, hj, h1, h2, n1 => by
    have e : rd_lp f T 324 324 (-11) (-11) X (j + 1) p acc = if tkK f T p = 324 ∨ tkK f T p = 324 then rd_bind (X (tkE f T p)) (fun p1 cs => rd_lp f T 324 324 (-11) (-11) X j p1 (acc ++ cs ++ [if tkK f T p = 324 then -11 else -11])) else .inr (p, acc) := rfl
    rw [e]
    by_cases hk : tkK f T p = 324
    · rw [if_pos (Or.inl hk), if_pos hk]
      have hpos := tkK_pos (f := f) hp (by omega)
      have hspl := t_ta_app (m := -11) (W := W) (fun c W' e => by have := hW c W' e; omega) X' h2
      have step : t_to f T false p (X' ++ W, C', o) true (tkE f T p) (-11 :: W, C ++ acc, o) := by
        refine ⟨1, fun j => ?_⟩
        simp only [t_run]
        rw [if_neg (by omega), if_neg (by omega), if_pos hk, hspl.1, hspl.2, h1]
      have hp2 := hX (tkE f T p) (-11 :: W) (C ++ acc) hpos.2.1 (fun c W' e => by cases e; omega)
      rcases hx : X (tkE f T p) with e1 | ⟨p1, cs⟩
      · simp only [rd_bind]
        refine ⟨fun e he => ?_, fun p' cs he => by cases he⟩
        cases he
        exact t_to_fl step (hp2.1 e1 hx)
      · simp only [rd_bind]
        obtain ⟨X3, C3, t1, t2, t3, t4⟩ := hp2.2 p1 cs hx
        have h4 := hok _ _ _ hpos.2.1 hx
        have hX3 : ∀ c ∈ X3 ++ [-11], -11 ≤ c ∧ c ≤ -10 := by
          intro c hc
          rw [List.mem_append, List.mem_singleton] at hc
          rcases hc with hc | hc
          · rcases t3 with rfl | rfl
            · cases hc
            · rw [List.mem_singleton] at hc; omega
          · omega
        have ih := t_test_lp hT hok hX W C hW j p1 (acc ++ cs ++ [-11]) (X3 ++ [-11]) C3 h4.2.1 (by omega) (by rw [← List.append_assoc, t2]; simp [List.append_assoc]) hX3 t4
        have e2 : X3 ++ -11 :: W = X3 ++ [-11] ++ W := by simp
        rw [e2] at t1
        have s2 := t_to_tr step t1
        refine ⟨fun e he => t_to_fl s2 (ih.1 e he), fun p' cs' he => ?_⟩
        obtain ⟨X2, C2, i1, i2⟩ := ih.2 p' cs' he
        exact ⟨X2, C2, t_to_tr s2 i1, i2⟩
    · rw [if_neg (fun z => hk (z.elim id id))]
      refine ⟨fun e he => (by cases he), fun p' cs he => ?_⟩
      cases he
      exact ⟨X', C', t_to_rf, h1, h2, n1, hk⟩
theorem t_test {X : sp_F} {o : Nat} (hT : T ≤ 1600) (hok : rd_ok T X) (hX : tP f T X o) : tSm f T (rt_test f T X) o := by
  intro p W C hp hW
  have hM := t_both hT hok hX
  have hokb : rd_ok T (rt_both f T X) := rd_bl_ok (by decide) (by decide) hok
  have h1 := hM p W C hp (fun c W' e => Or.inl (hW c W' e))
  unfold rt_test
  rcases hx : rt_both f T X p with e1 | ⟨p1, cs⟩
  · simp only [rd_bind]
    refine ⟨fun e he => ?_, fun p' cs he => by cases he⟩
    cases he
    exact h1.1 e1 hx
  · simp only [rd_bind]
    obtain ⟨X3, C3, t1, t2, t3, t4⟩ := h1.2 p1 cs hx
    have h4 := hokb _ _ _ hp hx
    have h5 := t_test_lp hT hokb hM W C hW 1600 p1 cs X3 C3 h4.2.1 (by omega) t2 (by
      rcases t3 with rfl | rfl
      · intro c hc; cases hc
      · intro c hc; rw [List.mem_singleton] at hc; omega) t4
    refine ⟨fun e he => t_to_fl t1 (h5.1 e he), fun p' cs' he => ?_⟩
    obtain ⟨X2, C2, i1, i2⟩ := h5.2 p' cs' he
    exact ⟨X2, C2, t_to_tr t1 i1, i2⟩
theorem t_fact {o : Nat} {nx : Option (sp_F × sp_F)} (ho6 : o ≤ 6) (hnx : ∀ x, nx = some x → o < 6 ∧ (rd_ok T x.1 ∧ rd_ok T x.2) ∧ tP f T x.1 (o + 1) ∧ tSm f T x.2 (o + 1)) (hno : nx = none → o = 6) : tP f T (rt_fact f T (rd_lev f T 4 (6 - o)).2 nx) o := by
  intro p W C hp
  unfold rt_fact
  by_cases h1 : tkK f T p = 326
  · rw [if_pos h1]
    have hpos := tkK_pos (f := f) hp (by omega)
    cases nx with
    | none =>
      refine ⟨fun e he => ?_, fun p' cs he => by cases he⟩
      cases he
      refine ⟨1, fun j => ?_⟩
      simp only [t_run]
      rw [if_neg (by omega), if_pos h1, if_pos (hno rfl)]
    | some x =>
      obtain ⟨ho, ⟨o1, o2⟩, x1, x2⟩ := hnx x rfl
      have step : t_to f T true p (W, C, o) true (tkE f T p) (-12 :: W, C, o + 1) := by
        refine ⟨1, fun j => ?_⟩
        simp only [t_run]
        rw [if_neg (by omega), if_pos h1, if_neg (by omega)]
      have hs := x1 (tkE f T p) (-12 :: W) C hpos.2.1
      simp only
      rcases hx : x.1 (tkE f T p) with e1 | ⟨p1, cs⟩
      · simp only [rd_bind]
        refine ⟨fun e he => ?_, fun p' cs he => by cases he⟩
        cases he
        exact t_to_fl step (hs.1 e1 hx)
      · simp only [rd_bind]
        have t1 := hs.2 p1 cs hx
        have e13 : t_en (-12 :: W) (C ++ cs) (o + 1) = t_en W (C ++ (cs ++ [-12])) o := by
          simp only [t_en]
          rw [if_pos trivial, Nat.add_sub_cancel, List.append_assoc]
        rw [e13] at t1
        refine ⟨fun e he => (by cases he), fun p' cs' he => ?_⟩
        cases he
        exact t_to_tr step t1
  rw [if_neg h1]
  by_cases h2 : tkK f T p = 91
  · rw [if_pos h2]
    have hpos := tkK_pos (f := f) hp (by omega)
    cases nx with
    | none =>
      refine ⟨fun e he => ?_, fun p' cs he => by cases he⟩
      cases he
      refine ⟨1, fun j => ?_⟩
      simp only [t_run]
      rw [if_pos h2, if_pos (hno rfl)]
    | some x =>
      obtain ⟨ho, ⟨o1, o2⟩, x1, x2⟩ := hnx x rfl
      have step : t_to f T true p (W, C, o) true (tkE f T p) (25 :: W, C, o + 1) := by
        refine ⟨1, fun j => ?_⟩
        simp only [t_run]
        rw [if_pos h2, if_neg (by omega)]
      have hs := x2 (tkE f T p) (25 :: W) C hpos.2.1 (fun c W' e => by cases e; omega)
      simp only
      rcases hx : x.2 (tkE f T p) with e1 | ⟨p1, cs⟩
      · simp only [rd_bind]
        refine ⟨fun e he => ?_, fun p' cs he => by cases he⟩
        cases he
        exact t_to_fl step (hs.1 e1 hx)
      · simp only [rd_bind]
        obtain ⟨X2, C2, t1, t2, t3, t4, t5⟩ := hs.2 p1 cs hx
        have hsp := y_tk_app (m := 25) (W := W) (by decide) X2 (fun c hc => by have := t3 c hc; omega)
        have hh : y_hd (X2 ++ 25 :: W) = 25 := by unfold y_hd; rw [hsp.2]; rfl
        have ht : y_tl (X2 ++ 25 :: W) = W := by unfold y_tl; rw [hsp.2]; rfl
        by_cases h3 : tkK f T p1 = 93
        · rw [if_pos h3]
          refine ⟨fun e he => (by cases he), fun p' cs' he => ?_⟩
          cases he
          refine t_to_tr (t_to_tr step t1) ⟨1, fun j => ?_⟩
          simp only [t_run]
          rw [if_pos ⟨h3, hh⟩, ht, hsp.1, t2, Nat.add_sub_cancel]
        · rw [if_neg h3]
          refine ⟨fun e he => ?_, fun p' cs' he => by cases he⟩
          cases he
          refine t_to_fl (t_to_tr step t1) ⟨1, fun j => ?_⟩
          simp only [t_run]
          rw [if_neg (fun z => h3 z.1), if_neg t4, if_neg t5, if_pos (by rw [hh]; decide)]
  rw [if_neg h2]
  have hpt : (if tkK f T p = 327 then (.inr (tkE f T p, [1]) : sp_R) else rt_cmp f T (rd_lev f T 4 (6 - o)).2 p) = t_pt f T o p := rfl
  rw [hpt]
  refine ⟨fun e he => ⟨1, fun j => ?_⟩, fun p' cs he => ⟨1, fun j => ?_⟩⟩
  · simp only [t_run]
    rw [if_neg h2, if_neg h1, he]
  · simp only [t_run]
    rw [if_neg h2, if_neg h1, he]
theorem t_lev (hT : T ≤ 1600) : ∀ d, d ≤ 6 → tP f T (rt_lev f T 4 d).1 (6 - d) ∧ tSm f T (rt_lev f T 4 d).2 (6 - d)
  | 0, _ => by
    have h : tP f T (rt_fact f T (rd_lev f T 4 0).2 none) 6 := t_fact (o := 6) (Nat.le_refl _) (fun x hx => by cases hx) (fun _ => rfl)
    exact ⟨h, t_test hT (rt_lev_ok f T 4 0).1 h⟩
  | d + 1, hd => by
    have ih := t_lev hT d (by omega)
    have e : 6 - d = 6 - (d + 1) + 1 := by omega
    rw [e] at ih
    have h := t_fact (f := f) (T := T) (o := 6 - (d + 1)) (nx := some (rt_lev f T 4 d)) (by omega) (fun x hx => by cases hx; exact ⟨by omega, rt_lev_ok f T 4 d, ih⟩) (fun z => by cases z)
    rw [show 6 - (6 - (d + 1)) = d + 1 by omega] at h
    exact ⟨h, t_test hT (rt_lev_ok f T 4 (d + 1)).1 h⟩
/-- a whole TEST with nothing below it -/
theorem t_all (hT : T ≤ 1600) {d p : Nat} (hd : d ≤ 6) (hp : p ≤ T) (C : List Int) : ∃ j, t_run f T j true p ([], C, 6 - d) = (match (rt_lev f T 4 d).2 p with
    | .inl e => .inl e
    | .inr (p', cs) => .inr (p', C ++ cs, 6 - d)) := by
  have h := (t_lev (f := f) hT d hd).2 p [] C hp (fun c W' e => by cases e)
  rcases hx : (rt_lev f T 4 d).2 p with e1 | ⟨p1, cs⟩
  · obtain ⟨k, hk⟩ := h.1 e1 hx
    exact ⟨0 + k, hk 0⟩
  · obtain ⟨X2, C2, ⟨k, hk⟩, t2, t3, t4, t5⟩ := h.2 p1 cs hx
    refine ⟨1 + k, ?_⟩
    rw [hk]
    have hh : y_hd (X2 ++ []) = -1 := by unfold y_hd; rw [List.append_nil, y_dr_nil X2 (fun c hc => by have := t3 c hc; omega)]; rfl
    simp only [t_run]
    rw [if_neg (by omega), if_neg t4, if_neg t5, if_neg (by omega), List.append_nil, t2]
end TYP
