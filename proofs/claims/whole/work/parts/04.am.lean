/-! ===== the abstract machine: memory by places ===== -/
abbrev zk_MI : Type := Nat → Nat → Int32
abbrev zk_ML : Type := Nat → Nat → Int64
abbrev zk_MP : Type := Nat → Nat → Option Nat
/-- the launch, the numbers of classes and slots, the classes of arrays, the first address, addresses outside -/
abbrev zk_G : Type := Launch × va_G × (Nat → ClassId) × Nat × (Nat → Nat)
def zk_ad (sz : Nat) (o : Nat → Nat) : Value → Value
  | .ref p => .ref (sz + p)
  | .retAddr i => .ref (o i)
  | v => v
def zk_rv : Option Nat → Value
  | none => .null
  | some p => .ref p
def zk_fv (sz : Nat) (M : zk_MI) (L : zk_ML) (P : zk_MP) (ci p k : Nat) : Value :=
  match zk_ft ci k with
  | 1 => .long (L p k)
  | 2 => va_rf ((P p k).map (fun q => sz + q))
  | _ => .int (M p k)
def zk_cell (cA : Nat → ClassId) (sz : Nat) (M : zk_MI) (L : zk_ML) (P : zk_MP) (p : Nat) : va_E :=
  if (zk_lay p).1 = 20 then .inl (cA 0, (zk_lay p).2, .inl (M p))
  else if (zk_lay p).1 = 21 then .inl (cA 1, (zk_lay p).2, .inr (.inl (L p)))
  else if (zk_lay p).1 = 22 then .inl (cA 2, (zk_lay p).2, .inl (M p))
  else if (zk_lay p).1 = 23 then .inl (cA 3, (zk_lay p).2, .inr (.inr (.inr (.inr (fun i => (P p i).map (fun q => sz + q))))))
  else .inr ((zk_lay p).1, (List.range (zk_N (zk_lay p).1)).map (fun k => zk_fv sz M L P (zk_lay p).1 p k))
def zk_ws (cA : Nat → ClassId) (sz n : Nat) (M : zk_MI) (L : zk_ML) (P : zk_MP) : va_W := (List.range n).map (fun p => (sz + p, zk_cell cA sz M L P p))
def zk_Rep (G : zk_G) (n : Nat) (M : zk_MI) (L : zk_ML) (P : zk_MP) (H : Heap) : Prop := va_P G.2.1 zk_cl (zk_ws G.2.2.1 G.2.2.2.1 n M L P) H
def zk_tys (cA : Nat → ClassId) : List (ClassId × FieldType) := [(cA 0, .int), (cA 1, .long), (cA 2, .char), (cA 3, .object RX3)]
def zk_words : String := "place  way    takes  person at     thing  weighs from   knows  fade   say    hear   rise   catch  breaks thief  busy   know   day    points hangs  lies   number gone   or     and    not    all    min    max    first  last   often  total  most   least  "
def zk_wb : List Int32 := zk_words.toList.map (fun c => Int32.ofNat c.toNat)
/-- what stands outside the places: nest mates' links, the row of Moments, the one String, the JDK's formatter, the script (its place 4, its length 5, its ints from 6 on) -/
def zk_Out (G : zk_G) (U : State) (H : Heap) : Prop :=
  (va_Nw (.methodLinkNest RX10 148 yX1_readSum RX11) U ∧ va_Nw (.methodLinkNest RX5 95 yX11_within RX11) U ∧ va_Nw (.methodLinkNest RX6 51 yX1_readTest RX11) U ∧ va_Nw (.methodLinkNest RX6 55 yX1_readSum RX11) U) ∧
  va_AO RX3 U ∧ vk_R RX8 66 zk_words (G.2.2.2.2 1) U ∧ vk_S 1 [zk_wb.length] [zk_wb] (fun _ => G.2.2.2.2 1) (fun _ => G.2.2.2.2 2) (fun q => G.2.2.2.1 ≤ q) U H ∧ va_Z "java/lang/String" "COMPACT_STRINGS" "Z" (.int 1) (fun q => G.2.2.2.1 ≤ q) U H ∧
  (va_Z "jdk/internal/util/Preconditions" "SIOOBE_FORMATTER" "Ljava/util/function/BiFunction;" .null (fun q => G.2.2.2.1 ≤ q) U H ∨ va_Z "jdk/internal/util/Preconditions" "SIOOBE_FORMATTER" "Ljava/util/function/BiFunction;" (.ref (G.2.2.2.2 3)) (fun q => G.2.2.2.1 ≤ q) U H) ∧
  va_T .int (G.2.2.2.2 4) (G.2.2.2.2 5) (fun j => .int (Int32.ofNat (G.2.2.2.2 (6 + j)))) (fun q => G.2.2.2.1 ≤ q) U H
def zk_Env (G : zk_G) (U : State) (H : Heap) : Prop := va_K G.2.1 zk_cl (zk_tys G.2.2.1) U ∧ zk_Out G U H
theorem zk_Env.moved {G : zk_G} {u U : State} {H H1 : Heap} (hW : u.WarmedH U.vm) (hq : ∀ a : Nat, a < H.size → ¬ (G.2.2.2.1 ≤ a) → H1[a]? = H[a]?) (h : zk_Env G u H) : zk_Env G U H1 := by
  obtain ⟨hK, ⟨n1, n2, n3, n4⟩, hA, hR, hS, hZ, hF, hT⟩ := h
  exact ⟨va_K.moved hW.alike hK, ⟨va_Nw.warmM hW n1, va_Nw.warmM hW n2, va_Nw.warmM hW n3, va_Nw.warmM hW n4⟩, va_AO.moved hW.alike hA, vk_R.warm hW hR, (vk_S.moved hW.alike hS).kept hq, (va_Z.moved hW.alike hZ).kept hq, hF.imp (fun h => (va_Z.moved hW.alike h).kept hq) (fun h => (va_Z.moved hW.alike h).kept hq), (va_T.moved hW.alike hT).kept hq⟩
theorem zk_Env.same {G : zk_G} {u U : State} {H : Heap} (hv : U.vm = u.vm) (h : zk_Env G u H) : zk_Env G U H := by
  obtain ⟨hK, ⟨n1, n2, n3, n4⟩, hA, hR, hS, hZ, hF, hT⟩ := h
  have hal : u.vm.Alike U.vm := by rw [hv]; exact Vm.Alike.refl u.vm
  exact ⟨va_K.moved hal hK, ⟨va_Nw.same rfl hv.symm n1, va_Nw.same rfl hv.symm n2, va_Nw.same rfl hv.symm n3, va_Nw.same rfl hv.symm n4⟩, va_AO.moved hal hA, vk_R.same hv hR, vk_S.moved hal hS, va_Z.moved hal hZ, hF.imp (va_Z.moved hal) (va_Z.moved hal), va_T.moved hal hT⟩
theorem zk_ws_get {cA : Nat → ClassId} {sz n p : Nat} {M : zk_MI} {L : zk_ML} {P : zk_MP} (h : p < n) : (zk_ws cA sz n M L P)[p]? = some (sz + p, zk_cell cA sz M L P p) := by
  simp [zk_ws, List.getElem?_range, h]
theorem zk_ws_len {cA : Nat → ClassId} {sz n : Nat} {M : zk_MI} {L : zk_ML} {P : zk_MP} : (zk_ws cA sz n M L P).length = n := by simp [zk_ws]
theorem zk_ws_at {cA : Nat → ClassId} {sz n p : Nat} {M : zk_MI} {L : zk_ML} {P : zk_MP} {q : Nat × va_E} (h : (zk_ws cA sz n M L P)[p]? = some q) : p < n ∧ q = (sz + p, zk_cell cA sz M L P p) := by
  have hp : p < n := by
    have := (List.getElem?_eq_some_iff.mp h).1
    rwa [zk_ws_len] at this
  rw [zk_ws_get hp] at h
  exact ⟨hp, (Option.some.inj h).symm⟩
theorem zk_D {cA : Nat → ClassId} {sz n : Nat} {M : zk_MI} {L : zk_ML} {P : zk_MP} : va_D (fun q => sz ≤ q) (zk_ws cA sz n M L P) := by
  refine ⟨fun i j p q h1 h2 e => ?_, fun k q h => ?_⟩
  · obtain ⟨-, e1⟩ := zk_ws_at h1
    obtain ⟨-, e2⟩ := zk_ws_at h2
    subst e1; subst e2
    simp only at e
    omega
  · obtain ⟨-, e1⟩ := zk_ws_at h
    subst e1
    simp
theorem zk_ws_set {cA : Nat → ClassId} {sz n p : Nat} {M M' : zk_MI} {L L' : zk_ML} {P P' : zk_MP} {e : va_E} (he : e = zk_cell cA sz M' L' P' p) (ho : ∀ q, q ≠ p → zk_cell cA sz M' L' P' q = zk_cell cA sz M L P q) : (zk_ws cA sz n M L P).set p (sz + p, e) = zk_ws cA sz n M' L' P' := by
  apply List.ext_getElem?
  intro i
  by_cases hi : i < n
  · rw [zk_ws_get hi, List.getElem?_set]
    by_cases hip : p = i
    · subst hip
      rw [if_pos rfl, if_pos (by rw [zk_ws_len]; exact hi), he]
    · rw [if_neg hip, zk_ws_get hi, ho i (Ne.symm hip)]
  · rw [List.getElem?_eq_none (by rw [List.length_set, zk_ws_len]; omega), List.getElem?_eq_none (by rw [zk_ws_len]; omega)]
theorem zk_ws_push {cA : Nat → ClassId} {sz n : Nat} {M M' : zk_MI} {L L' : zk_ML} {P P' : zk_MP} {e : va_E} (he : e = zk_cell cA sz M' L' P' n) (ho : ∀ q, q < n → zk_cell cA sz M' L' P' q = zk_cell cA sz M L P q) : zk_ws cA sz n M L P ++ [(sz + n, e)] = zk_ws cA sz (n + 1) M' L' P' := by
  simp only [zk_ws, List.range_succ, List.map_append, List.map_cons, List.map_nil, he]
  congr 1
  apply List.map_congr_left
  intro q hq
  rw [ho q (List.mem_range.mp hq)]
def zk_up {α : Type} (M : Nat → Nat → α) (p k : Nat) (x : α) : Nat → Nat → α := fun q j => if q = p ∧ j = k then x else M q j
theorem zk_up_row {α : Type} {M : Nat → Nat → α} {p k q : Nat} {x : α} (h : q ≠ p) : zk_up M p k x q = M q := by
  funext j
  simp [zk_up, h]
theorem zk_up_self {M : zk_MI} {p k : Nat} {x : Int32} : zk_up M p k x p = upd (M p) k x := by
  funext j
  simp [zk_up, upd]
theorem zk_up_selfL {M : zk_ML} {p k : Nat} {x : Int64} : zk_up M p k x p = vp_updL (M p) k x := by
  funext j
  simp [zk_up, vp_updL]
theorem zk_up_at {α : Type} {M : Nat → Nat → α} {p k : Nat} {x : α} : zk_up M p k x p k = x := by simp [zk_up]
theorem zk_up_ne {α : Type} {M : Nat → Nat → α} {p k q j : Nat} {x : α} (h : ¬ (q = p ∧ j = k)) : zk_up M p k x q j = M q j := by simp only [zk_up, if_neg h]
/-- a whole row -/
def zk_row {α : Type} (M : Nat → Nat → α) (p : Nat) (f : Nat → α) : Nat → Nat → α := fun q => if q = p then f else M q
theorem zk_cell_M {cA : Nat → ClassId} {sz p : Nat} {M M' : zk_MI} {L L' : zk_ML} {P P' : zk_MP} (h1 : M' p = M p) (h2 : L' p = L p) (h3 : P' p = P p) : zk_cell cA sz M' L' P' p = zk_cell cA sz M L P p := by
  simp only [zk_cell, zk_fv, h1, h2, h3]
theorem zk_cell_o {cA : Nat → ClassId} {sz p ci : Nat} {M : zk_MI} {L : zk_ML} {P : zk_MP} (h : (zk_lay p).1 = ci) (hc : ci < 20) : zk_cell cA sz M L P p = .inr (ci, (List.range (zk_N ci)).map (fun k => zk_fv sz M L P ci p k)) := by
  subst h
  simp only [zk_cell]
  rw [if_neg (by omega), if_neg (by omega), if_neg (by omega), if_neg (by omega)]
theorem zk_cell_i {cA : Nat → ClassId} {sz p : Nat} {M : zk_MI} {L : zk_ML} {P : zk_MP} (h : (zk_lay p).1 = 20) : zk_cell cA sz M L P p = .inl (cA 0, (zk_lay p).2, .inl (M p)) := by
  simp only [zk_cell]
  rw [if_pos h]
theorem zk_cell_l {cA : Nat → ClassId} {sz p : Nat} {M : zk_MI} {L : zk_ML} {P : zk_MP} (h : (zk_lay p).1 = 21) : zk_cell cA sz M L P p = .inl (cA 1, (zk_lay p).2, .inr (.inl (L p))) := by
  simp only [zk_cell]
  rw [if_neg (by omega), if_pos h]
theorem zk_cell_c {cA : Nat → ClassId} {sz p : Nat} {M : zk_MI} {L : zk_ML} {P : zk_MP} (h : (zk_lay p).1 = 22) : zk_cell cA sz M L P p = .inl (cA 2, (zk_lay p).2, .inl (M p)) := by
  simp only [zk_cell]
  rw [if_neg (by omega), if_neg (by omega), if_pos h]
theorem zk_cell_q {cA : Nat → ClassId} {sz p : Nat} {M : zk_MI} {L : zk_ML} {P : zk_MP} (h : (zk_lay p).1 = 23) : zk_cell cA sz M L P p = .inl (cA 3, (zk_lay p).2, .inr (.inr (.inr (.inr (fun i => (P p i).map (fun q => sz + q)))))) := by
  simp only [zk_cell]
  rw [if_neg (by omega), if_neg (by omega), if_neg (by omega), if_pos h]
theorem zk_fs_get {sz p ci k : Nat} {M : zk_MI} {L : zk_ML} {P : zk_MP} (h : k < zk_N ci) : ((List.range (zk_N ci)).map (fun k => zk_fv sz M L P ci p k))[k]? = some (zk_fv sz M L P ci p k) := by
  simp [List.getElem?_range, h]
theorem zk_fs_set {sz p ci k : Nat} {M M' : zk_MI} {L L' : zk_ML} {P P' : zk_MP} {v : Value} (hv : v = zk_fv sz M' L' P' ci p k) (ho : ∀ j, j ≠ k → zk_fv sz M' L' P' ci p j = zk_fv sz M L P ci p j) : ((List.range (zk_N ci)).map (fun k => zk_fv sz M L P ci p k)).set k v = (List.range (zk_N ci)).map (fun k => zk_fv sz M' L' P' ci p k) := by
  apply List.ext_getElem?
  intro i
  rw [List.getElem?_set]
  by_cases hi : i < zk_N ci
  · by_cases hki : k = i
    · subst hki
      rw [if_pos rfl, if_pos (by simpa using hi), zk_fs_get hi, hv]
    · rw [if_neg hki, zk_fs_get hi, zk_fs_get hi, ho i (Ne.symm hki)]
  · by_cases hki : k = i
    · subst hki
      rw [if_pos rfl, if_neg (by simpa using hi)]
      simp [List.getElem?_eq_none, hi]
    · rw [if_neg hki]
      rw [List.getElem?_eq_none (by simp; omega), List.getElem?_eq_none (by simp; omega)]
/-! locals: a value a slot; what is not known is a float -/
def zk_un : Value := .float 0
def zk_as (sz : Nat) (o : Nat → Nat) (lv : List Value) : List (Nat × Value) := (List.range lv.length).filterMap (fun i => match lv[i]? with
  | some v => if v = zk_un then none else some (i, zk_ad sz o v)
  | none => none)
theorem zk_as_mem {sz : Nat} {o : Nat → Nat} {lv : List Value} {q : Nat × Value} : q ∈ zk_as sz o lv ↔ ∃ v, lv[q.1]? = some v ∧ v ≠ zk_un ∧ q.2 = zk_ad sz o v := by
  simp only [zk_as, List.mem_filterMap, List.mem_range]
  constructor
  · rintro ⟨i, hi, h⟩
    cases hv : lv[i]? with
    | none => rw [hv] at h; cases h
    | some v =>
      rw [hv] at h
      simp only at h
      by_cases hu : v = zk_un
      · rw [if_pos hu] at h; cases h
      · rw [if_neg hu] at h
        cases h
        exact ⟨v, hv, hu, rfl⟩
  · rintro ⟨v, h1, h2, h3⟩
    refine ⟨q.1, (List.getElem?_eq_some_iff.mp h1).1, ?_⟩
    rw [h1]
    simp only [if_neg h2, ← h3]
def zk_cat2 : Value → Bool
  | .long _ => true
  | .double _ => true
  | _ => false
theorem zk_cat2_iff (v : Value) : zk_cat2 v = true ↔ v.category = 2 := by cases v <;> simp [zk_cat2, Value.category]
theorem zk_ad_cat (sz : Nat) (o : Nat → Nat) (v : Value) : (zk_ad sz o v).category = v.category := by cases v <;> rfl
def zk_set : List Value → Nat → Value → List Value
  | [], _, _ => []
  | _ :: t, 0, v => v :: t
  | u :: t, i + 1, v => (if i = 0 ∧ zk_cat2 u = true then zk_un else u) :: zk_set t i v
def zk_set2 : List Value → Nat → Value → List Value
  | [], _, _ => []
  | [_], 0, v => [v]
  | _ :: _ :: t, 0, v => v :: zk_un :: t
  | u :: t, i + 1, v => (if i = 0 ∧ zk_cat2 u = true then zk_un else u) :: zk_set2 t i v
theorem zk_set_get : ∀ (lv : List Value) (i : Nat) (v : Value) (j : Nat) (w : Value), (zk_set lv i v)[j]? = some w → w ≠ zk_un → (j = i ∧ w = v) ∨ (j ≠ i ∧ lv[j]? = some w ∧ ¬ (j + 1 = i ∧ zk_cat2 w = true))
  | [], i, v, j, w, h, _ => by simp [zk_set] at h
  | _ :: t, 0, v, j, w, h, _ => by
    cases j with
    | zero => simp [zk_set] at h; exact Or.inl ⟨rfl, h.symm⟩
    | succ j => simp [zk_set] at h; exact Or.inr ⟨by omega, by simpa using h, by omega⟩
  | u :: t, i + 1, v, j, w, h, hw => by
    cases j with
    | zero =>
      simp only [zk_set, List.getElem?_cons_zero, Option.some.injEq] at h
      by_cases hc : i = 0 ∧ zk_cat2 u = true
      · rw [if_pos hc] at h; exact absurd h.symm hw
      · rw [if_neg hc] at h
        subst h
        exact Or.inr ⟨by omega, rfl, fun q => hc ⟨by omega, q.2⟩⟩
    | succ j =>
      simp only [zk_set, List.getElem?_cons_succ] at h
      rcases zk_set_get t i v j w h hw with ⟨a, b⟩ | ⟨a, b, c⟩
      · exact Or.inl ⟨by omega, b⟩
      · exact Or.inr ⟨by omega, by simpa using b, fun q => c ⟨by omega, q.2⟩⟩
theorem zk_set2_get : ∀ (lv : List Value) (i : Nat) (v : Value) (j : Nat) (w : Value), (zk_set2 lv i v)[j]? = some w → w ≠ zk_un → (j = i ∧ w = v) ∨ (j ≠ i ∧ j ≠ i + 1 ∧ lv[j]? = some w ∧ ¬ (j + 1 = i ∧ zk_cat2 w = true))
  | [], i, v, j, w, h, _ => by simp [zk_set2] at h
  | [_], 0, v, j, w, h, _ => by
    cases j with
    | zero => simp [zk_set2] at h; exact Or.inl ⟨rfl, h.symm⟩
    | succ j => simp [zk_set2] at h
  | _ :: _ :: t, 0, v, j, w, h, hw => by
    match j, h with
    | 0, h => simp [zk_set2] at h; exact Or.inl ⟨rfl, h.symm⟩
    | 1, h => simp [zk_set2] at h; exact absurd h.symm hw
    | j + 2, h => simp [zk_set2] at h; exact Or.inr ⟨by omega, by omega, by simpa using h, by omega⟩
  | u :: t, i + 1, v, j, w, h, hw => by
    cases j with
    | zero =>
      simp only [zk_set2, List.getElem?_cons_zero, Option.some.injEq] at h
      by_cases hc : i = 0 ∧ zk_cat2 u = true
      · rw [if_pos hc] at h; exact absurd h.symm hw
      · rw [if_neg hc] at h
        subst h
        exact Or.inr ⟨by omega, by omega, rfl, fun q => hc ⟨by omega, q.2⟩⟩
    | succ j =>
      simp only [zk_set2, List.getElem?_cons_succ] at h
      rcases zk_set2_get t i v j w h hw with ⟨a, b⟩ | ⟨a, a2, b, c⟩
      · exact Or.inl ⟨by omega, b⟩
      · exact Or.inr ⟨by omega, by omega, by simpa using b, fun q => c ⟨by omega, q.2⟩⟩
theorem zk_set_has {sz : Nat} {o : Nat → Nat} {lv : List Value} {i nL : Nat} {v : Value} {ls : Array Slot} (h : lv_has ls nL ((i, zk_ad sz o v) :: (zk_as sz o lv).filter (fun q => !(q.1 == i) && !(q.1 + 1 == i && q.2.category == 2)))) : lv_has ls nL (zk_as sz o (zk_set lv i v)) := by
  refine ⟨h.1, h.2.1, fun q hq => ?_⟩
  obtain ⟨w, h1, h2, h3⟩ := zk_as_mem.mp hq
  apply h.2.2
  rcases zk_set_get lv i v q.1 w h1 h2 with ⟨a, b⟩ | ⟨a, b, c⟩
  · have : q = (i, zk_ad sz o v) := by rw [← a, ← b, ← h3]
    rw [this]; exact List.mem_cons_self
  · refine List.mem_cons_of_mem _ (List.mem_filter.mpr ⟨zk_as_mem.mpr ⟨w, b, h2, h3⟩, ?_⟩)
    simp only [Bool.and_eq_true, Bool.not_eq_true', beq_eq_false_iff_ne, ne_eq, Bool.and_eq_false_imp, beq_iff_eq]
    refine ⟨a, fun e => ?_⟩
    rw [h3, zk_ad_cat]
    intro e2
    exact c ⟨e, (zk_cat2_iff w).mpr e2⟩
theorem zk_set2_has {sz : Nat} {o : Nat → Nat} {lv : List Value} {i nL : Nat} {v : Value} {ls : Array Slot} (h : lv_has ls nL ((i, zk_ad sz o v) :: (zk_as sz o lv).filter (fun q => !(q.1 == i) && (!(q.1 == i + 1) && !(q.1 + 1 == i && q.2.category == 2))))) : lv_has ls nL (zk_as sz o (zk_set2 lv i v)) := by
  refine ⟨h.1, h.2.1, fun q hq => ?_⟩
  obtain ⟨w, h1, h2, h3⟩ := zk_as_mem.mp hq
  apply h.2.2
  rcases zk_set2_get lv i v q.1 w h1 h2 with ⟨a, b⟩ | ⟨a, a2, b, c⟩
  · have : q = (i, zk_ad sz o v) := by rw [← a, ← b, ← h3]
    rw [this]; exact List.mem_cons_self
  · refine List.mem_cons_of_mem _ (List.mem_filter.mpr ⟨zk_as_mem.mpr ⟨w, b, h2, h3⟩, ?_⟩)
    simp only [Bool.and_eq_true, Bool.not_eq_true', beq_eq_false_iff_ne, ne_eq, Bool.and_eq_false_imp, beq_iff_eq]
    refine ⟨a, a2, fun e => ?_⟩
    rw [h3, zk_ad_cat]
    intro e2
    exact c ⟨e, (zk_cat2_iff w).mpr e2⟩
