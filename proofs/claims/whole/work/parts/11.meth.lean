/-! ===== rows of instructions, methods ===== -/
section SN6
variable {G : zk_G} {ow : Nat} {ct : Bool} {F : zk_F} {d n0 n1 : Nat} {p : Program} {e : Env} {R : Room} {s : State} {m : MethodId} {args : Array Value} {below : List Frame} {meth : Method} {c : Code} {Q : State → Prop} {Post : zk_Po}
theorem zk_run_ok (C : zk_Cx G ow ct F d n0 n1 p R s m args meth c) {K : zk_K} (hK : ∀ pc lv st n M L P, K pc lv st n M L P → zk_Z G F n0 n1 p e R s m args below meth c Q pc lv st n M L P) :
    ∀ (B : List zk_I) (pc : Nat) (lv st : List Value) (n : Nat) (M : zk_MI) (L : zk_ML) (P : zk_MP), (∀ q ∈ B, zk_isret q.1 = true → Q = MQ below (zk_Q G n1 Post) args s (n1 - n0) (zk_sl n1 - zk_sl n0) (fun q => G.2.2.2.1 ≤ q)) → zk_ckb ow ct F B pc = true → zk_run G d n1 Post K B pc lv st n M L P → zk_Z G F n0 n1 p e R s m args below meth c Q pc lv st n M L P
  | [], pc, lv, st, n, M, L, P, _, _, h => hK _ _ _ _ _ _ _ h
  | (i, len, a, b, e2, cn, sw) :: qs, pc, lv, st, n, M, L, P, hq, hck, h => by
    simp only [zk_ckb, Bool.and_eq_true] at hck
    exact zk_wp_ok C (hq _ List.mem_cons_self) (fun lv st n M L P h9 => zk_run_ok C hK qs _ _ _ _ _ _ _ (fun q h8 => hq q (List.mem_cons_of_mem _ h8)) hck.2 h9) hK hck.1 h
end SN6
/-- what the proof of a method's contract may use -/
def zk_St (G : zk_G) (F : zk_F) (ow : Nat) (ct : Bool) (d n1 : Nat) (Post : zk_Po) (Z : zk_K) : Prop :=
  ∀ (B : List zk_I) (pc : Nat) (lv st : List Value) (n : Nat) (M : zk_MI) (L : zk_ML) (P : zk_MP), zk_ckb ow ct F B pc = true → zk_run G d n1 Post Z B pc lv st n M L P → Z pc lv st n M L P
def zk_la : List Value → List Value
  | [] => []
  | v :: t => if zk_cat2 v = true then v :: zk_un :: zk_la t else v :: zk_la t
theorem zk_la_args (sz : Nat) (o : Nat → Nat) : ∀ (av : List Value) (i j : Nat) (v : Value), (zk_la av)[j]? = some v → v ≠ zk_un → (i + j, zk_ad sz o v) ∈ lv_args i (av.map (zk_ad sz o))
  | [], i, j, v, h, _ => by simp [zk_la] at h
  | w :: t, i, j, v, h, hv => by
    simp only [zk_la] at h
    simp only [List.map_cons, lv_args]
    by_cases hc : zk_cat2 w = true
    · rw [if_pos hc] at h
      have hc2 : (zk_ad sz o w).category = 2 := by rw [zk_ad_cat]; exact (zk_cat2_iff w).mp hc
      rw [if_pos hc2]
      match j, h with
      | 0, h => simp at h; subst h; exact List.mem_cons_self
      | 1, h => simp at h; exact absurd h.symm hv
      | j + 2, h =>
        simp only [List.getElem?_cons_succ] at h
        have := zk_la_args sz o t (i + 2) j v h hv
        rw [show i + 2 + j = i + (j + 2) by omega] at this
        exact List.mem_cons_of_mem _ this
    · rw [if_neg hc] at h
      have hc2 : ¬ (zk_ad sz o w).category = 2 := by rw [zk_ad_cat]; exact fun z => hc ((zk_cat2_iff w).mpr z)
      rw [if_neg hc2]
      match j, h with
      | 0, h => simp at h; subst h; exact List.mem_cons_self
      | j + 1, h =>
        simp only [List.getElem?_cons_succ] at h
        have := zk_la_args sz o t (i + 1) j v h hv
        rw [show i + 1 + j = i + (j + 1) by omega] at this
        exact List.mem_cons_of_mem _ this
theorem zk_la_len (sz : Nat) (o : Nat → Nat) : ∀ av : List Value, (lg_sl (av.map (zk_ad sz o))).length = (zk_la av).length
  | [] => rfl
  | w :: t => by
    have ih := zk_la_len sz o t
    simp only [lg_sl, List.map_cons, List.flatMap_cons, List.length_append, zk_la] at ih ⊢
    by_cases hc : zk_cat2 w = true
    · rw [if_pos hc, if_pos (by rw [zk_ad_cat]; exact (zk_cat2_iff w).mp hc)]
      simp [ih]; omega
    · rw [if_neg hc, if_neg (by rw [zk_ad_cat]; exact fun z => hc ((zk_cat2_iff w).mpr z))]
      simp [ih]; omega
theorem zk_plain : ∀ k, k < 13 → plainName (zk_own k) = true := by decide +kernel
theorem zk_plain2 : plainName (zk_own 14) = true := by decide +kernel
theorem zk_ofW {l : Launch} {y : MethodName} {ws ws' : List Cond} {rm : Room} {Pc : Array Value → State → Prop} {Qc : Array Value → State → Outcome → State → Prop} {mc ms : Nat} {free : Addr → Prop} {cc : ByteArray} {maxL : Nat} {ret : Option FieldType}
    (hy : plainFor y = true) (hw : ws = Cond.code y cc maxL ret :: ws')
    (body : ∀ p e s m args below meth c s₁, BodyLoose p l y (headSpec ws rm) cc maxL ret e s m args below meth c s₁ → c.maxLocals = maxL → Pc args s →
      W p l e (headSpec ws rm).room s m args below meth c s.heap [] 0 0 (MQ below Qc args s mc ms free) (entryFrame m args maxL)) : Met l y ws rm Pc Qc mc ms free := by
  refine MetFree.of_bodySF (code := cc) (maxLocals := maxL) (ret := ret) hy ?_ ?_
  · intro args s m h hn
    obtain ⟨meth, c, h1, h2, h3, h4, h5, h6, -, -⟩ := Cond.code_spec hn (atoms_spec (ws := ws) h _ (by rw [hw]; exact List.mem_cons_self))
    exact ⟨meth, c, h1, h2, h3, h4, h5, h6⟩
  · intro p e s m args below meth c s₁ B hml hP _
    obtain ⟨t, a1, o, b1, b2, b3⟩ := body p e s m args below meth c s₁ B hml hP s₁ (by rw [B.state]; rfl) (Stand.of_body B)
    exact ⟨t, o, a1, b1, b2, b3.1, b3.2⟩
theorem zk_meth {G : zk_G} {y ow kind k nL d n n1 : Nat} {ct : Bool} {M : zk_MI} {L : zk_ML} {P : zk_MP} {Post : zk_Po} {av l0 : List Value} (hmi : (y, kind, k, ow) ∈ zk_mi) (hct : ct = true → (zk_m y).1.name = "<init>") (hnL : (zk_m y).2.2.1 = nL) (how : ow < 16) (how2 : ow ≠ 13) (hpf : ow = 15 → plainFor (zk_m y).1 = true) (hle : (zk_la av).length ≤ nL) (hl0 : zk_la av ++ List.replicate (nL - (zk_la av).length) zk_un = l0) (hn : n ≤ n1)
    (h : ∀ Z : zk_K, zk_St G (zk_m y) ow ct d n1 Post Z → Z 0 l0 [] n M L P) : zk_C G d y av n M L P n1 Post := by
  refine ⟨hn, ?_⟩
  obtain ⟨⟨i1, i2⟩, ⟨i3, i4, i5⟩, -⟩ := zk_mi_ok _ hmi
  simp only at i1 i2 i3 i4 i5
  have hpl : plainFor (zk_m y).1 = true := by
    rcases (show ow < 13 ∨ ow = 14 ∨ ow = 15 by omega) with z | rfl | z
    · exact plainFor_of_name (by rw [i3]; exact zk_plain ow z)
    · exact plainFor_of_name (by rw [i3]; exact zk_plain2)
    · exact hpf z
  refine zk_ofW (cc := (zk_m y).2.1) (maxL := (zk_m y).2.2.1) (ret := (zk_m y).2.2.2) hpl rfl ?_
  intro p e s m args below meth c s₁ B hml hv
  obtain ⟨rfl, hsz, hR, hE⟩ := hv
  have hts := atoms_spec (ws := .code (zk_m y).1 (zk_m y).2.1 (zk_m y).2.2.1 (zk_m y).2.2.2 :: zk_TB) B.pre
  have C : zk_Cx G ow ct (zk_m y) d n n1 p (headSpec (.code (zk_m y).1 (zk_m y).2.1 (zk_m y).2.2.1 (zk_m y).2.2.2 :: zk_TB) (zk_room d (n1 - n) (zk_sl n1 - zk_sl n))).room s m (av.map (zk_ad G.2.2.2.1 G.2.2.2.2)).toArray meth c := by
    refine ⟨B.exec, B.bytes, hml, ?_, fun w hw => hts w (List.mem_cons_of_mem _ hw), hE, hsz, Nat.le_refl _, Nat.le_refl _, Nat.le_refl _, Nat.le_refl _, fun z => ?_, B.returns, B.notSynchronized⟩
    · rw [← i3]; exact findClass_of_methodNamed B.named
    · rw [(name_of_methodNamed B.named B.method).1]; exact hct z
  have hl := lv_entry (av.map (zk_ad G.2.2.2.1 G.2.2.2.2)) (n := (zk_m y).2.2.1) (by rw [zk_la_len, hnL]; exact hle)
  rw [lg_entry_eq]
  generalize (lg_sl (av.map (zk_ad G.2.2.2.1 G.2.2.2.2)) ++ List.replicate ((zk_m y).2.2.1 - (lg_sl (av.map (zk_ad G.2.2.2.1 G.2.2.2.2))).length) Slot.unset).toArray = ls at hl ⊢
  have hl2 : lv_has ls (zk_m y).2.2.1 (zk_as G.2.2.2.1 G.2.2.2.2 l0) := by
    refine ⟨hl.1, hl.2.1, fun q hq => hl.2.2 q ?_⟩
    obtain ⟨v, g1, g2, g3⟩ := zk_as_mem.mp hq
    rw [← hl0] at g1
    rcases Nat.lt_or_ge q.1 (zk_la av).length with z | z
    · rw [List.getElem?_append_left z] at g1
      have := zk_la_args G.2.2.2.1 G.2.2.2.2 av 0 q.1 v g1 g2
      rw [Nat.zero_add, ← g3] at this
      exact this
    · rw [List.getElem?_append_right z, List.getElem?_replicate] at g1
      split at g1
      · exact absurd (Option.some.inj g1).symm g2
      · cases g1
  have h9 := h (zk_Z G (zk_m y) n n1 p e _ s m (av.map (zk_ad G.2.2.2.1 G.2.2.2.2)).toArray below meth c (MQ below (zk_Q G n1 Post) (av.map (zk_ad G.2.2.2.1 G.2.2.2.2)).toArray s (n1 - n) (zk_sl n1 - zk_sl n) (fun q => G.2.2.2.1 ≤ q))) (fun B pc lv st n M L P hck hr => zk_run_ok C (fun _ _ _ _ _ _ _ h => h) B pc lv st n M L P (fun _ _ _ => rfl) hck hr)
  have h10 := h9 (Nat.le_refl _) hn s.heap [] ls hR va_S.rf hl2
  rw [Nat.sub_self, Nat.sub_self] at h10
  exact h10
