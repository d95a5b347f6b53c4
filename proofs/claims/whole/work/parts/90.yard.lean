/-! ===== the yard: SUMS with a list of what waits ===== -/
def y_tk : List Int → List Int
  | [] => []
  | c :: W => if c < 0 then c :: y_tk W else []
def y_dr : List Int → List Int
  | [] => []
  | c :: W => if c < 0 then y_dr W else c :: W
def y_ta (m : Int) : List Int → List Int
  | [] => []
  | c :: W => if -4 ≤ c ∧ c ≤ m then c :: y_ta m W else []
def y_da (m : Int) : List Int → List Int
  | [] => []
  | c :: W => if -4 ≤ c ∧ c ≤ m then y_da m W else c :: W
def y_en : List Int → List Int → Nat → List Int × List Int × Nat
  | [], C, o => ([], C, o)
  | c :: W, C, o => if c = -13 then y_en W (C ++ [-13]) (o - 1) else (c :: W, C, o)
def y_hd (W : List Int) : Int := (y_dr W).headD (-1)
def y_tl (W : List Int) : List Int := (y_dr W).tail
section YD
variable (f : Nat → Nat) (T sort : Nat)
noncomputable def y_pt (p : Nat) : sp_R := if tkK f T p = -2 then (match tk_nb f T p with
    | some pl => .inl (1, pl)
    | none => .inr (tkE f T p, [(tkV f T p : Int)]))
  else match rd_st sort (tkK f T p) with
    | none => .inl (1, tkS f T p)
    | some c => .inr (tkE f T p, [c])
noncomputable def y_run : Nat → Bool → Nat → List Int × List Int × Nat → vs_R (List Int × Nat)
  | 0, _, _, _ => .inl (9, 9)
  | j + 1, true, p, s =>
    if tkK f T p = 40 then (if s.2.2 = 6 then .inl (4, tkS f T p) else y_run j true (tkE f T p) (20 :: s.1, s.2.1, s.2.2 + 1))
    else if tkK f T p = 328 ∨ tkK f T p = 329 then (if tkK f T (tkE f T p) ≠ 40 then .inl (1, tkS f T (tkE f T p)) else if s.2.2 = 6 then .inl (4, tkS f T (tkE f T p)) else y_run j true (tkE f T (tkE f T p)) ((if tkK f T p = 328 then 21 else 22) :: s.1, s.2.1, s.2.2 + 1))
    else if sort = 4 ∧ tkK f T p = 319 then (if s.2.2 = 6 then .inl (4, tkS f T p) else y_run j true (tkE f T p) (-13 :: s.1, s.2.1, s.2.2 + 1))
    else (match y_pt f T sort p with
      | .inl e => .inl e
      | .inr (p', cs) => y_run j false p' (y_en s.1 (s.2.1 ++ cs) s.2.2))
  | j + 1, false, p, s =>
    if tkK f T p = 41 ∧ (y_hd s.1 = 20 ∨ y_hd s.1 = 23 ∨ y_hd s.1 = 24) then y_run j false (tkE f T p) (y_en (y_tl s.1) (s.2.1 ++ y_tk s.1 ++ (if y_hd s.1 = 20 then [] else [if y_hd s.1 = 23 then -5 else -6])) (s.2.2 - 1))
    else if tkK f T p = 42 ∨ tkK f T p = 47 then y_run j true (tkE f T p) ((if tkK f T p = 42 then -3 else -4) :: y_da (-3) s.1, s.2.1 ++ y_ta (-3) s.1, s.2.2)
    else if tkK f T p = 43 ∨ tkK f T p = 45 then y_run j true (tkE f T p) ((if tkK f T p = 43 then -1 else -2) :: y_da (-1) s.1, s.2.1 ++ y_ta (-1) s.1, s.2.2)
    else if y_hd s.1 = 21 ∨ y_hd s.1 = 22 then (if tkK f T p = 44 then y_run j true (tkE f T p) ((y_hd s.1 + 2) :: y_tl s.1, s.2.1 ++ y_tk s.1, s.2.2) else .inl (1, tkS f T p))
    else if y_hd s.1 ≠ -1 then .inl (1, tkS f T p)
    else .inr (p, s.2.1 ++ s.1, s.2.2)
def y_to (m : Bool) (p : Nat) (s : List Int × List Int × Nat) (m' : Bool) (p' : Nat) (s' : List Int × List Int × Nat) : Prop := ∃ k, ∀ j, y_run f T sort (j + k) m p s = y_run f T sort j m' p' s'
def y_fl (m : Bool) (p : Nat) (s : List Int × List Int × Nat) (e : Nat × Nat) : Prop := ∃ k, ∀ j, y_run f T sort (j + k) m p s = .inl e
end YD
section YP
variable {f : Nat → Nat} {T sort : Nat}
theorem y_to_rf {m : Bool} {p : Nat} {s : List Int × List Int × Nat} : y_to f T sort m p s m p s := ⟨0, fun _ => rfl⟩
theorem y_to_tr {m m1 m2 : Bool} {p p1 p2 : Nat} {s s1 s2 : List Int × List Int × Nat} (h : y_to f T sort m p s m1 p1 s1) (h2 : y_to f T sort m1 p1 s1 m2 p2 s2) : y_to f T sort m p s m2 p2 s2 := by
  obtain ⟨k, hk⟩ := h
  obtain ⟨k2, hk2⟩ := h2
  exact ⟨k2 + k, fun j => by rw [← Nat.add_assoc, hk, hk2]⟩
theorem y_to_fl {m m1 : Bool} {p p1 : Nat} {s s1 : List Int × List Int × Nat} {e : Nat × Nat} (h : y_to f T sort m p s m1 p1 s1) (h2 : y_fl f T sort m1 p1 s1 e) : y_fl f T sort m p s e := by
  obtain ⟨k, hk⟩ := h
  obtain ⟨k2, hk2⟩ := h2
  exact ⟨k2 + k, fun j => by rw [← Nat.add_assoc, hk, hk2]⟩
/-- the top of the list is no sign that X of these would drop -/
def y_top (m : Int) (W : List Int) : Prop := ∀ c W', W = c :: W' → 0 ≤ c ∨ (m < c ∧ c < 0)
theorem y_ta_app {m : Int} {W : List Int} (hW : ∀ c W', W = c :: W' → ¬ (-4 ≤ c ∧ c ≤ m)) : ∀ X : List Int, (∀ c ∈ X, -4 ≤ c ∧ c ≤ m) → y_ta m (X ++ W) = X ∧ y_da m (X ++ W) = W
  | [], _ => by
    cases W with
    | nil => exact ⟨rfl, rfl⟩
    | cons c W' =>
      simp only [List.nil_append, y_ta, y_da]
      rw [if_neg (hW c W' rfl), if_neg (hW c W' rfl)]
      exact ⟨rfl, rfl⟩
  | c :: X, h => by
    have ih := y_ta_app hW X (fun x hx => h x (List.mem_cons_of_mem _ hx))
    have hc := h c List.mem_cons_self
    simp only [List.cons_append, y_ta, y_da]
    rw [if_pos hc, if_pos hc, ih.1, ih.2]
    exact ⟨rfl, rfl⟩
theorem y_tk_app {m : Int} {W : List Int} (hm : 0 ≤ m) : ∀ X : List Int, (∀ c ∈ X, c < 0) → y_tk (X ++ m :: W) = X ∧ y_dr (X ++ m :: W) = m :: W
  | [], _ => by
    simp only [List.nil_append, y_tk, y_dr]
    rw [if_neg (by omega), if_neg (by omega)]
    exact ⟨rfl, rfl⟩
  | c :: X, h => by
    have ih := y_tk_app (W := W) hm X (fun x hx => h x (List.mem_cons_of_mem _ hx))
    have hc := h c List.mem_cons_self
    simp only [List.cons_append, y_tk, y_dr]
    rw [if_pos hc, if_pos hc, ih.1, ih.2]
    exact ⟨rfl, rfl⟩
theorem y_dr_nil : ∀ X : List Int, (∀ c ∈ X, c < 0) → y_dr X = []
  | [], _ => rfl
  | c :: X, h => by
    simp only [y_dr]
    rw [if_pos (h c List.mem_cons_self)]
    exact y_dr_nil X (fun x hx => h x (List.mem_cons_of_mem _ hx))
theorem y_en_id {W C : List Int} {o : Nat} (h : ∀ c W', W = c :: W' → c ≠ -13) : y_en W C o = (W, C, o) := by
  cases W with
  | nil => rfl
  | cons c W' =>
    simp only [y_en]
    rw [if_neg (h c W' rfl)]
/-- a PART: EXPECT to AFTER -/
def yP (f : Nat → Nat) (T sort : Nat) (X : sp_F) (o : Nat) : Prop := ∀ (p : Nat) (W C : List Int), p ≤ T → (∀ e, X p = .inl e → y_fl f T sort true p (W, C, o) e) ∧ ∀ p' cs, X p = .inr (p', cs) → y_to f T sort true p (W, C, o) false p' (y_en W (C ++ cs) o)
/-- a product: what waits of it -/
def yM (f : Nat → Nat) (T sort : Nat) (X : sp_F) (o : Nat) : Prop := ∀ (p : Nat) (W C : List Int), p ≤ T → (∀ c W', W = c :: W' → 0 ≤ c ∨ c = -1 ∨ c = -2) → (∀ e, X p = .inl e → y_fl f T sort true p (W, C, o) e) ∧ ∀ p' cs, X p = .inr (p', cs) → ∃ X' C', y_to f T sort true p (W, C, o) false p' (X' ++ W, C', o) ∧ C' ++ X' = C ++ cs ∧ (X' = [] ∨ X' = [-3] ∨ X' = [-4]) ∧ tkK f T p' ≠ 42 ∧ tkK f T p' ≠ 47
def ySm (f : Nat → Nat) (T sort : Nat) (X : sp_F) (o : Nat) : Prop := ∀ (p : Nat) (W C : List Int), p ≤ T → (∀ c W', W = c :: W' → 0 ≤ c) → (∀ e, X p = .inl e → y_fl f T sort true p (W, C, o) e) ∧ ∀ p' cs, X p = .inr (p', cs) → ∃ X' C', y_to f T sort true p (W, C, o) false p' (X' ++ W, C', o) ∧ C' ++ X' = C ++ cs ∧ (∀ c ∈ X', -4 ≤ c ∧ c ≤ -1) ∧ tkK f T p' ≠ 42 ∧ tkK f T p' ≠ 47 ∧ tkK f T p' ≠ 43 ∧ tkK f T p' ≠ 45
theorem y_prod_lp {X : sp_F} {o : Nat} (hT : T ≤ 1600) (hok : rd_ok T X) (hX : yP f T sort X o) (W C : List Int) (hW : ∀ c W', W = c :: W' → 0 ≤ c ∨ c = -1 ∨ c = -2) : ∀ (j p : Nat) (acc X' C' : List Int), p ≤ T → T < j + p → C' ++ X' = C ++ acc → (X' = [] ∨ X' = [-3] ∨ X' = [-4]) →
    (∀ e, rd_lp f T 42 47 (-3) (-4) X j p acc = .inl e → y_fl f T sort false p (X' ++ W, C', o) e) ∧ ∀ p' cs, rd_lp f T 42 47 (-3) (-4) X j p acc = .inr (p', cs) → ∃ X2 C2, y_to f T sort false p (X' ++ W, C', o) false p' (X2 ++ W, C2, o) ∧ C2 ++ X2 = C ++ cs ∧ (X2 = [] ∨ X2 = [-3] ∨ X2 = [-4]) ∧ tkK f T p' ≠ 42 ∧ tkK f T p' ≠ 47
  | 0, p, acc, X', C', hp, hj, h1, h2 => by omega
  | j + 1, p, acc, X', C', hp, hj, h1, h2 => by
    have e : rd_lp f T 42 47 (-3) (-4) X (j + 1) p acc = if tkK f T p = 42 ∨ tkK f T p = 47 then rd_bind (X (tkE f T p)) (fun p1 cs => rd_lp f T 42 47 (-3) (-4) X j p1 (acc ++ cs ++ [if tkK f T p = 42 then -3 else -4])) else .inr (p, acc) := rfl
    rw [e]
    by_cases hk : tkK f T p = 42 ∨ tkK f T p = 47
    · rw [if_pos hk]
      have hpos := tkK_pos (f := f) hp (by omega)
      generalize hop : (if tkK f T p = 42 then (-3 : Int) else -4) = op
      have hop2 : op = -3 ∨ op = -4 := by rw [← hop]; split <;> omega
      have hspl := y_ta_app (m := -3) (W := W) (fun c W' e => by have := hW c W' e; omega) X' (by
        rcases h2 with rfl | rfl | rfl
        · intro c hc; cases hc
        · intro c hc; rw [List.mem_singleton] at hc; omega
        · intro c hc; rw [List.mem_singleton] at hc; omega)
      have step : y_to f T sort false p (X' ++ W, C', o) true (tkE f T p) (op :: W, C ++ acc, o) := by
        refine ⟨1, fun j => ?_⟩
        simp only [y_run]
        rw [if_neg (by omega), if_pos hk, hspl.1, hspl.2, hop, h1]
      have hp2 := hX (tkE f T p) (op :: W) (C ++ acc) hpos.2.1
      rcases hx : X (tkE f T p) with e1 | ⟨p1, cs⟩
      · simp only [rd_bind]
        refine ⟨fun e he => ?_, fun p' cs he => by cases he⟩
        cases he
        exact y_to_fl step (hp2.1 e1 hx)
      · simp only [rd_bind]
        have h3 := hp2.2 p1 cs hx
        rw [y_en_id (fun c W' e => by cases e; omega)] at h3
        have h4 := hok _ _ _ hpos.2.1 hx
        have ih := y_prod_lp hT hok hX W C hW j p1 (acc ++ cs ++ [op]) [op] (C ++ acc ++ cs) h4.2.1 (by omega) (by simp [List.append_assoc]) (by rcases hop2 with rfl | rfl <;> simp)
        have s2 := y_to_tr step h3
        refine ⟨fun e he => y_to_fl s2 (ih.1 e he), fun p' cs' he => ?_⟩
        obtain ⟨X2, C2, i1, i2⟩ := ih.2 p' cs' he
        exact ⟨X2, C2, y_to_tr s2 i1, i2⟩
    · rw [if_neg hk]
      refine ⟨fun e he => (by cases he), fun p' cs he => ?_⟩
      cases he
      exact ⟨X', C', y_to_rf, h1, h2, fun z => hk (Or.inl z), fun z => hk (Or.inr z)⟩
theorem y_prod {X : sp_F} {o : Nat} (hT : T ≤ 1600) (hok : rd_ok T X) (hX : yP f T sort X o) : yM f T sort (rd_prod f T X) o := by
  intro p W C hp hW
  have h1 := hX p W C hp
  unfold rd_prod
  rcases hx : X p with e1 | ⟨p1, cs⟩
  · simp only [rd_bind]
    refine ⟨fun e he => ?_, fun p' cs he => by cases he⟩
    cases he
    exact h1.1 e1 hx
  · simp only [rd_bind]
    have h2 := h1.2 p1 cs hx
    rw [y_en_id (fun c W' e => by have := hW c W' e; omega)] at h2
    have h4 := hok _ _ _ hp hx
    have h5 := y_prod_lp hT hok hX W C hW 1600 p1 cs [] (C ++ cs) h4.2.1 (by omega) (by simp) (Or.inl rfl)
    refine ⟨fun e he => y_to_fl h2 (h5.1 e he), fun p' cs' he => ?_⟩
    obtain ⟨X2, C2, i1, i2⟩ := h5.2 p' cs' he
    exact ⟨X2, C2, y_to_tr h2 i1, i2⟩
theorem y_sum_lp {X : sp_F} {o : Nat} (hT : T ≤ 1600) (hok : rd_ok T X) (hX : yM f T sort X o) (W C : List Int) (hW : ∀ c W', W = c :: W' → 0 ≤ c) : ∀ (j p : Nat) (acc X' C' : List Int), p ≤ T → T < j + p → C' ++ X' = C ++ acc → (∀ c ∈ X', -4 ≤ c ∧ c ≤ -1) → tkK f T p ≠ 42 → tkK f T p ≠ 47 →
    (∀ e, rd_lp f T 43 45 (-1) (-2) X j p acc = .inl e → y_fl f T sort false p (X' ++ W, C', o) e) ∧ ∀ p' cs, rd_lp f T 43 45 (-1) (-2) X j p acc = .inr (p', cs) → ∃ X2 C2, y_to f T sort false p (X' ++ W, C', o) false p' (X2 ++ W, C2, o) ∧ C2 ++ X2 = C ++ cs ∧ (∀ c ∈ X2, -4 ≤ c ∧ c ≤ -1) ∧ tkK f T p' ≠ 42 ∧ tkK f T p' ≠ 47 ∧ tkK f T p' ≠ 43 ∧ tkK f T p' ≠ 45
  | 0, p, acc, X', C', hp, hj, h1, h2, n1, n2 => by omega
  | j + 1, p, acc, X', C', hp, hj, h1, h2, n1, n2 => by
    have e : rd_lp f T 43 45 (-1) (-2) X (j + 1) p acc = if tkK f T p = 43 ∨ tkK f T p = 45 then rd_bind (X (tkE f T p)) (fun p1 cs => rd_lp f T 43 45 (-1) (-2) X j p1 (acc ++ cs ++ [if tkK f T p = 43 then -1 else -2])) else .inr (p, acc) := rfl
    rw [e]
    by_cases hk : tkK f T p = 43 ∨ tkK f T p = 45
    · rw [if_pos hk]
      have hpos := tkK_pos (f := f) hp (by omega)
      generalize hop : (if tkK f T p = 43 then (-1 : Int) else -2) = op
      have hop2 : op = -1 ∨ op = -2 := by rw [← hop]; split <;> omega
      have hspl := y_ta_app (m := -1) (W := W) (fun c W' e => by have := hW c W' e; omega) X' h2
      have step : y_to f T sort false p (X' ++ W, C', o) true (tkE f T p) (op :: W, C ++ acc, o) := by
        refine ⟨1, fun j => ?_⟩
        simp only [y_run]
        rw [if_neg (by omega), if_neg (by omega), if_pos hk, hspl.1, hspl.2, hop, h1]
      have hp2 := hX (tkE f T p) (op :: W) (C ++ acc) hpos.2.1 (fun c W' e => by cases e; omega)
      rcases hx : X (tkE f T p) with e1 | ⟨p1, cs⟩
      · simp only [rd_bind]
        refine ⟨fun e he => ?_, fun p' cs he => by cases he⟩
        cases he
        exact y_to_fl step (hp2.1 e1 hx)
      · simp only [rd_bind]
        obtain ⟨X3, C3, t1, t2, t3, t4, t5⟩ := hp2.2 p1 cs hx
        have h4 := hok _ _ _ hpos.2.1 hx
        have hX3 : ∀ c ∈ X3 ++ [op], -4 ≤ c ∧ c ≤ -1 := by
          intro c hc
          rw [List.mem_append, List.mem_singleton] at hc
          rcases hc with hc | hc
          · rcases t3 with rfl | rfl | rfl
            · cases hc
            · rw [List.mem_singleton] at hc; omega
            · rw [List.mem_singleton] at hc; omega
          · omega
        have ih := y_sum_lp hT hok hX W C hW j p1 (acc ++ cs ++ [op]) (X3 ++ [op]) C3 h4.2.1 (by omega) (by rw [← List.append_assoc, t2]; simp [List.append_assoc]) hX3 t4 t5
        have e2 : X3 ++ op :: W = X3 ++ [op] ++ W := by simp
        rw [e2] at t1
        have s2 := y_to_tr step t1
        refine ⟨fun e he => y_to_fl s2 (ih.1 e he), fun p' cs' he => ?_⟩
        obtain ⟨X2, C2, i1, i2⟩ := ih.2 p' cs' he
        exact ⟨X2, C2, y_to_tr s2 i1, i2⟩
    · rw [if_neg hk]
      refine ⟨fun e he => (by cases he), fun p' cs he => ?_⟩
      cases he
      exact ⟨X', C', y_to_rf, h1, h2, n1, n2, fun z => hk (Or.inl z), fun z => hk (Or.inr z)⟩
theorem y_sum {X : sp_F} {o : Nat} (hT : T ≤ 1600) (hok : rd_ok T X) (hX : yP f T sort X o) : ySm f T sort (rd_sum f T X) o := by
  intro p W C hp hW
  have hM := y_prod hT hok hX
  have h1 := hM p W C hp (fun c W' e => Or.inl (hW c W' e))
  unfold rd_sum
  rcases hx : rd_prod f T X p with e1 | ⟨p1, cs⟩
  · simp only [rd_bind]
    refine ⟨fun e he => ?_, fun p' cs he => by cases he⟩
    cases he
    exact h1.1 e1 hx
  · simp only [rd_bind]
    obtain ⟨X3, C3, t1, t2, t3, t4, t5⟩ := h1.2 p1 cs hx
    have h4 := rd_prod_ok hok _ _ _ hp hx
    have h5 := y_sum_lp hT (rd_prod_ok hok) hM W C hW 1600 p1 cs X3 C3 h4.2.1 (by omega) t2 (by
      rcases t3 with rfl | rfl | rfl
      · intro c hc; cases hc
      · intro c hc; rw [List.mem_singleton] at hc; omega
      · intro c hc; rw [List.mem_singleton] at hc; omega) t4 t5
    refine ⟨fun e he => y_to_fl t1 (h5.1 e he), fun p' cs' he => ?_⟩
    obtain ⟨X2, C2, i1, i2⟩ := h5.2 p' cs' he
    exact ⟨X2, C2, y_to_tr t1 i1, i2⟩
theorem y_part {o : Nat} {nx : Option (sp_F × sp_F)} (hnx : ∀ x, nx = some x → o < 6 ∧ (rd_ok T x.1 ∧ rd_ok T x.2) ∧ yP f T sort x.1 (o + 1) ∧ ySm f T sort x.2 (o + 1)) (hno : nx = none → o = 6) : yP f T sort (rd_part f T sort nx) o := by
  intro p W C hp
  rw [rd_part_eq]
  by_cases h1 : tkK f T p = 40
  · rw [if_pos h1]
    have hpos := tkK_pos (f := f) hp (by omega)
    cases nx with
    | none =>
      refine ⟨fun e he => ?_, fun p' cs he => by cases he⟩
      cases he
      refine ⟨1, fun j => ?_⟩
      simp only [y_run]
      rw [if_pos h1, if_pos (hno rfl)]
    | some x =>
      obtain ⟨ho, ⟨o1, o2⟩, x1, x2⟩ := hnx x rfl
      have step : y_to f T sort true p (W, C, o) true (tkE f T p) (20 :: W, C, o + 1) := by
        refine ⟨1, fun j => ?_⟩
        simp only [y_run]
        rw [if_pos h1, if_neg (by omega)]
      have hs := x2 (tkE f T p) (20 :: W) C hpos.2.1 (fun c W' e => by cases e; omega)
      simp only [rd_par]
      rcases hx : x.2 (tkE f T p) with e1 | ⟨p1, cs⟩
      · simp only [rd_bind]
        refine ⟨fun e he => ?_, fun p' cs he => by cases he⟩
        cases he
        exact y_to_fl step (hs.1 e1 hx)
      · simp only [rd_bind]
        obtain ⟨X2, C2, t1, t2, t3, t4, t5, t6, t7⟩ := hs.2 p1 cs hx
        have hsp := y_tk_app (m := 20) (W := W) (by decide) X2 (fun c hc => by have := t3 c hc; omega)
        have hh : y_hd (X2 ++ 20 :: W) = 20 := by unfold y_hd; rw [hsp.2]; rfl
        have ht : y_tl (X2 ++ 20 :: W) = W := by unfold y_tl; rw [hsp.2]; rfl
        by_cases h2 : tkK f T p1 = 41
        · rw [if_pos h2]
          refine ⟨fun e he => (by cases he), fun p' cs' he => ?_⟩
          cases he
          refine y_to_tr (y_to_tr step t1) ⟨1, fun j => ?_⟩
          simp only [y_run]
          rw [if_pos ⟨h2, Or.inl hh⟩, if_pos hh, ht, hsp.1, t2, List.append_nil, Nat.add_sub_cancel]
        · rw [if_neg h2]
          refine ⟨fun e he => ?_, fun p' cs' he => by cases he⟩
          cases he
          refine y_to_fl (y_to_tr step t1) ⟨1, fun j => ?_⟩
          simp only [y_run]
          rw [if_neg (fun z => h2 z.1), if_neg (by omega), if_neg (by omega), if_neg (by omega), if_pos (by omega)]
  · rw [if_neg h1]
    by_cases h2 : tkK f T p = 328 ∨ tkK f T p = 329
    · rw [if_pos h2]
      have hpos := tkK_pos (f := f) hp (by omega)
      unfold rd_pr
      by_cases h3 : tkK f T (tkE f T p) = 40
      · rw [if_neg (fun z => z h3)]
        have hpos2 := tkK_pos (f := f) hpos.2.1 (by omega)
        cases nx with
        | none =>
          refine ⟨fun e he => ?_, fun p' cs he => by cases he⟩
          cases he
          refine ⟨1, fun j => ?_⟩
          simp only [y_run]
          rw [if_neg h1, if_pos h2, if_neg (fun z => z h3), if_pos (hno rfl)]
        | some x =>
          obtain ⟨ho, ⟨o1, o2⟩, x1, x2⟩ := hnx x rfl
          generalize hmk : (if tkK f T p = 328 then (21 : Int) else 22) = mk
          have hmk2 : mk = 21 ∨ mk = 22 := by rw [← hmk]; split <;> omega
          have hst : (if tkK f T p = 328 then (-5 : Int) else -6) = if mk + 2 = 23 then -5 else -6 := by
            rw [← hmk]; split <;> rfl
          rw [hst]
          have step : y_to f T sort true p (W, C, o) true (tkE f T (tkE f T p)) (mk :: W, C, o + 1) := by
            refine ⟨1, fun j => ?_⟩
            simp only [y_run]
            rw [if_neg h1, if_pos h2, if_neg (fun z => z h3), if_neg (by omega), hmk]
          have hs := x2 (tkE f T (tkE f T p)) (mk :: W) C hpos2.2.1 (fun c W' e => by cases e; omega)
          simp only [rd_pair]
          rcases hx : x.2 (tkE f T (tkE f T p)) with e1 | ⟨p1, c1⟩
          · simp only [rd_bind]
            refine ⟨fun e he => ?_, fun p' cs he => by cases he⟩
            cases he
            exact y_to_fl step (hs.1 e1 hx)
          · simp only [rd_bind]
            obtain ⟨X2, C2, t1, t2, t3, t4, t5, t6, t7⟩ := hs.2 p1 c1 hx
            have q1 := o2 _ _ _ hpos2.2.1 hx
            have hsp := y_tk_app (m := mk) (W := W) (by omega) X2 (fun c hc => by have := t3 c hc; omega)
            have hh : y_hd (X2 ++ mk :: W) = mk := by unfold y_hd; rw [hsp.2]; rfl
            have ht : y_tl (X2 ++ mk :: W) = W := by unfold y_tl; rw [hsp.2]; rfl
            have s1 := y_to_tr step t1
            by_cases h4 : tkK f T p1 = 44
            · rw [if_neg (fun z => z h4)]
              have hpos3 := tkK_pos (f := f) q1.2.1 (by omega)
              have step2 : y_to f T sort false p1 (X2 ++ mk :: W, C2, o + 1) true (tkE f T p1) ((mk + 2) :: W, C ++ c1, o + 1) := by
                refine ⟨1, fun j => ?_⟩
                simp only [y_run]
                rw [if_neg (by omega), if_neg (by omega), if_neg (by omega), if_pos (by omega), if_pos h4, hh, ht, hsp.1, t2]
              have s2 := y_to_tr s1 step2
              have hs2 := x2 (tkE f T p1) ((mk + 2) :: W) (C ++ c1) hpos3.2.1 (fun c W' e => by cases e; omega)
              rcases hx2 : x.2 (tkE f T p1) with e1 | ⟨p2, c2⟩
              · simp only
                refine ⟨fun e he => ?_, fun p' cs he => by cases he⟩
                cases he
                exact y_to_fl s2 (hs2.1 e1 hx2)
              · simp only
                obtain ⟨X3, C3, u1, u2, u3, u4, u5, u6, u7⟩ := hs2.2 p2 c2 hx2
                have hsp3 := y_tk_app (m := mk + 2) (W := W) (by omega) X3 (fun c hc => by have := u3 c hc; omega)
                have hh3 : y_hd (X3 ++ (mk + 2) :: W) = mk + 2 := by unfold y_hd; rw [hsp3.2]; rfl
                have ht3 : y_tl (X3 ++ (mk + 2) :: W) = W := by unfold y_tl; rw [hsp3.2]; rfl
                have s3 := y_to_tr s2 u1
                by_cases h5 : tkK f T p2 = 41
                · rw [if_pos h5]
                  refine ⟨fun e he => (by cases he), fun p' cs' he => ?_⟩
                  cases he
                  refine y_to_tr s3 ⟨1, fun j => ?_⟩
                  simp only [y_run]
                  rw [if_pos ⟨h5, by omega⟩, if_neg (by omega), hh3, ht3, hsp3.1, u2, Nat.add_sub_cancel]
                  simp only [List.append_assoc]
                · rw [if_neg h5]
                  refine ⟨fun e he => ?_, fun p' cs' he => by cases he⟩
                  cases he
                  refine y_to_fl s3 ⟨1, fun j => ?_⟩
                  simp only [y_run]
                  rw [if_neg (fun z => h5 z.1), if_neg (by omega), if_neg (by omega), if_neg (by omega), if_pos (by omega)]
            · rw [if_pos h4]
              refine ⟨fun e he => ?_, fun p' cs' he => by cases he⟩
              cases he
              refine y_to_fl s1 ⟨1, fun j => ?_⟩
              simp only [y_run]
              rw [if_neg (fun z => by omega), if_neg (by omega), if_neg (by omega), if_pos (by omega), if_neg h4]
      · rw [if_pos h3]
        refine ⟨fun e he => ?_, fun p' cs he => by cases he⟩
        cases he
        refine ⟨1, fun j => ?_⟩
        simp only [y_run]
        rw [if_neg h1, if_pos h2, if_pos h3]
    · rw [if_neg h2]
      have wordstep : ∀ (Y : sp_R), ¬ (sort = 4 ∧ tkK f T p = 319) → y_pt f T sort p = Y → (∀ e, Y = .inl e → y_fl f T sort true p (W, C, o) e) ∧ ∀ p' cs, Y = .inr (p', cs) → y_to f T sort true p (W, C, o) false p' (y_en W (C ++ cs) o) := by
        intro Y hn hY
        refine ⟨fun e he => ⟨1, fun j => ?_⟩, fun p' cs he => ⟨1, fun j => ?_⟩⟩
        · simp only [y_run]
          rw [if_neg h1, if_neg h2, if_neg hn, hY, he]
        · simp only [y_run]
          rw [if_neg h1, if_neg h2, if_neg hn, hY, he]
      by_cases h3 : tkK f T p = -2
      · rw [if_pos h3]
        exact wordstep _ (fun z => by omega) (by unfold y_pt; rw [if_pos h3]; cases tk_nb f T p <;> rfl)
      · rw [if_neg h3]
        unfold rd_wd
        by_cases h5 : sort = 4 ∧ tkK f T p = 319
        · rw [if_pos h5]
          have hpos := tkK_pos (f := f) hp (by omega)
          cases nx with
          | none =>
            refine ⟨fun e he => ?_, fun p' cs he => by cases he⟩
            cases he
            refine ⟨1, fun j => ?_⟩
            simp only [y_run]
            rw [if_neg h1, if_neg h2, if_pos h5, if_pos (hno rfl)]
          | some x =>
            obtain ⟨ho, ⟨o1, o2⟩, x1, x2⟩ := hnx x rfl
            have step : y_to f T sort true p (W, C, o) true (tkE f T p) (-13 :: W, C, o + 1) := by
              refine ⟨1, fun j => ?_⟩
              simp only [y_run]
              rw [if_neg h1, if_neg h2, if_pos h5, if_neg (by omega)]
            have hs := x1 (tkE f T p) (-13 :: W) C hpos.2.1
            simp only
            rcases hx : x.1 (tkE f T p) with e1 | ⟨p1, cs⟩
            · simp only [rd_bind]
              refine ⟨fun e he => ?_, fun p' cs he => by cases he⟩
              cases he
              exact y_to_fl step (hs.1 e1 hx)
            · simp only [rd_bind]
              have t1 := hs.2 p1 cs hx
              have e13 : y_en (-13 :: W) (C ++ cs) (o + 1) = y_en W (C ++ (cs ++ [-13])) o := by
                simp only [y_en]
                rw [if_pos trivial, Nat.add_sub_cancel, List.append_assoc]
              rw [e13] at t1
              refine ⟨fun e he => (by cases he), fun p' cs' he => ?_⟩
              cases he
              exact y_to_tr step t1
        · rw [if_neg h5]
          exact wordstep _ h5 (by unfold y_pt; rw [if_neg h3]; cases rd_st sort (tkK f T p) <;> rfl)
theorem y_lev (hT : T ≤ 1600) : ∀ d, d ≤ 6 → yP f T sort (rd_lev f T sort d).1 (6 - d) ∧ ySm f T sort (rd_lev f T sort d).2 (6 - d)
  | 0, _ => by
    have h : yP f T sort (rd_part f T sort none) 6 := y_part (fun x hx => by cases hx) (fun _ => rfl)
    exact ⟨h, y_sum hT (rd_lev_ok f T sort 0).1 h⟩
  | d + 1, hd => by
    have ih := y_lev hT d (by omega)
    have e : 6 - d = 6 - (d + 1) + 1 := by omega
    rw [e] at ih
    have h : yP f T sort (rd_part f T sort (some (rd_lev f T sort d))) (6 - (d + 1)) := y_part (fun x hx => by cases hx; exact ⟨by omega, rd_lev_ok f T sort d, ih⟩) (fun z => by cases z)
    exact ⟨h, y_sum hT (rd_lev_ok f T sort (d + 1)).1 h⟩
/-- a whole SUM with nothing below it -/
theorem y_all (hT : T ≤ 1600) {d p : Nat} (hd : d ≤ 6) (hp : p ≤ T) (C : List Int) : ∃ j, y_run f T sort j true p ([], C, 6 - d) = (match (rd_lev f T sort d).2 p with
    | .inl e => .inl e
    | .inr (p', cs) => .inr (p', C ++ cs, 6 - d)) := by
  have h := (y_lev (f := f) (sort := sort) hT d hd).2 p [] C hp (fun c W' e => by cases e)
  rcases hx : (rd_lev f T sort d).2 p with e1 | ⟨p1, cs⟩
  · obtain ⟨k, hk⟩ := h.1 e1 hx
    exact ⟨0 + k, hk 0⟩
  · obtain ⟨X2, C2, ⟨k, hk⟩, t2, t3, t4, t5, t6, t7⟩ := h.2 p1 cs hx
    refine ⟨1 + k, ?_⟩
    rw [hk]
    have hh : y_hd (X2 ++ []) = -1 := by unfold y_hd; rw [List.append_nil, y_dr_nil X2 (fun c hc => by have := t3 c hc; omega)]; rfl
    simp only [y_run]
    rw [if_neg (by omega), if_neg (by omega), if_neg (by omega), if_neg (by omega), if_neg (by omega), List.append_nil, t2]
end YP
