/-! ===== the rule of an instruction, of a row of them, of a method ===== -/
section SN5
variable {G : zk_G} {ow : Nat} {ct : Bool} {F : zk_F} {d n0 n1 : Nat} {p : Program} {e : Env} {R : Room} {s : State} {m : MethodId} {args : Array Value} {below : List Frame} {meth : Method} {c : Code} {Q : State → Prop}
variable {pc : Nat} {lv st : List Value} {n : Nat} {M : zk_MI} {L : zk_ML} {P : zk_MP} {Post : zk_Po}
def zk_isret : Instr → Bool
  | .ireturn => true
  | .lreturn => true
  | .return_ => true
  | _ => false
theorem zk_un_i (x : Int32) : Value.int x ≠ zk_un := by simp [zk_un]
theorem zk_un_l (x : Int64) : Value.long x ≠ zk_un := by simp [zk_un]
theorem zk_un_r (x : Nat) : Value.ref x ≠ zk_un := by simp [zk_un]
theorem zk_un_a (x : Nat) : Value.retAddr x ≠ zk_un := by simp [zk_un]
theorem zk_un_n : Value.null ≠ zk_un := by simp [zk_un]
theorem zk_lk : ∀ (ps : List (Int × Int)) (sw : List (Int32 × Nat)) (pc : Nat) (dflt : Int) (b : Nat) (x : Int32), ps.map (fun q => (q.1, (pc : Int) + q.2)) = sw.map (fun q => (q.1.toInt, (q.2 : Int))) → (pc : Int) + dflt = b → ∃ tgt : Nat, (pc : Int) + Op.lookupswitch.offset ps dflt x.toInt = tgt ∧ ((∃ q ∈ sw, x = q.1 ∧ tgt = q.2) ∨ ((∀ q ∈ sw, ¬ x = q.1) ∧ tgt = b))
  | [], [], pc, dflt, b, x, _, h => ⟨b, by simpa [Op.lookupswitch.offset] using h, Or.inr ⟨fun q h => absurd h List.not_mem_nil, rfl⟩⟩
  | [], _ :: _, _, _, _, _, h, _ => by simp at h
  | _ :: _, [], _, _, _, _, h, _ => by simp at h
  | (a, o) :: ps, (v, t) :: sw, pc, dflt, b, x, h, hd => by
    simp only [List.map_cons, List.cons.injEq, Prod.mk.injEq] at h
    obtain ⟨⟨h1, h2⟩, h3⟩ := h
    by_cases hx : x = v
    · refine ⟨t, ?_, Or.inl ⟨(v, t), List.mem_cons_self, hx, rfl⟩⟩
      have : x.toInt = a := by rw [hx, h1]
      simp [Op.lookupswitch.offset, this, h2]
    · obtain ⟨tgt, g1, g2⟩ := zk_lk ps sw pc dflt b x h3 hd
      refine ⟨tgt, ?_, ?_⟩
      · rw [lv_osw hx h1.symm]; exact g1
      · rcases g2 with ⟨q, q1, q2⟩ | ⟨q1, q2⟩
        · exact Or.inl ⟨q, List.mem_cons_of_mem _ q1, q2⟩
        · refine Or.inr ⟨fun q hq => ?_, q2⟩
          rcases List.mem_cons.mp hq with rfl | hq
          · exact hx
          · exact q1 q hq
set_option maxHeartbeats 4000000 in
theorem zk_wp_ok (C : zk_Cx G ow ct F d n0 n1 p R s m args meth c) {i : Instr} {len : Nat} {a : Int32} {b e2 cn : Nat} {sw : List (Int32 × Nat)} {K : zk_K} {N : zk_Nx}
    (hQ : zk_isret i = true → Q = MQ below (zk_Q G n1 Post) args s (n1 - n0) (zk_sl n1 - zk_sl n0) (fun q => G.2.2.2.1 ≤ q))
    (hN : ∀ lv st n M L P, N lv st n M L P → zk_Z G F n0 n1 p e R s m args below meth c Q (pc + len) lv st n M L P)
    (hK : ∀ pc lv st n M L P, K pc lv st n M L P → zk_Z G F n0 n1 p e R s m args below meth c Q pc lv st n M L P)
    (hck : zk_ck ow ct F pc i len a b e2 cn sw = true) (h : zk_wp G d n1 Post K N i a b e2 cn sw lv st n M L P) : zk_Z G F n0 n1 p e R s m args below meth c Q pc lv st n M L P := by
  simp only [zk_ck, Bool.and_eq_true, decide_eq_true_eq] at hck
  obtain ⟨hd, hck⟩ := hck
  have hx := C.1
  have hb := C.2.1
  have hml := C.2.2.1
  have hown := C.2.2.2.1
  have hts := C.2.2.2.2.1
  cases i <;> simp only [zk_wp] at h <;> (try exact h.elim) <;> simp only [Bool.and_eq_true, decide_eq_true_eq] at hck
  case iconst v =>
    obtain ⟨rfl, hv⟩ := hck
    exact fun h0 h1 H l9 ls a1 a2 a3 => lv_iconst hx hb hd hv (hN _ _ _ _ _ _ h h0 h1 H l9 ls a1 a2 a3)
  case bipush v =>
    obtain ⟨rfl, hv⟩ := hck
    exact fun h0 h1 H l9 ls a1 a2 a3 => lv_bipush hx hb hd hv (hN _ _ _ _ _ _ h h0 h1 H l9 ls a1 a2 a3)
  case sipush v =>
    obtain ⟨rfl, hv⟩ := hck
    exact fun h0 h1 H l9 ls a1 a2 a3 => lv_sipush hx hb hd hv (hN _ _ _ _ _ _ h h0 h1 H l9 ls a1 a2 a3)
  case lconst v =>
    obtain ⟨rfl, hv⟩ := hck
    exact fun h0 h1 H l9 ls a1 a2 a3 => lv_lconst hx hb hd (by rw [hv]; rfl) (hN _ _ _ _ _ _ h h0 h1 H l9 ls a1 a2 a3)
  case ldc idx =>
    obtain ⟨rfl, hv⟩ := hck
    by_cases hc : cn = 30
    · rw [if_pos hc] at hv h
      simp only [Bool.and_eq_true, decide_eq_true_eq] at hv
      obtain ⟨rfl, rfl⟩ := hv
      exact fun h0 h1 H l9 ls a1 a2 a3 => va_ldcS hx hb hown C.2.2.2.2.2.1.2.2.2.1 hd (hN _ _ _ _ _ _ h h0 h1 H l9 ls a1 a2 a3)
    · rw [if_neg hc] at hv h
      simp only [decide_eq_true_eq] at hv
      exact fun h0 h1 H l9 ls a1 a2 a3 => lv_ldc hx hb hown (hts _ (zk_cn_ok _ hv)) hd (hN _ _ _ _ _ _ h h0 h1 H l9 ls a1 a2 a3)
  case ldc_w idx =>
    obtain ⟨rfl, hv⟩ := hck
    exact fun h0 h1 H l9 ls a1 a2 a3 => lv_ldcw hx hb hown (hts _ (zk_cn_ok _ hv)) hd (hN _ _ _ _ _ _ h h0 h1 H l9 ls a1 a2 a3)
  case ldc2_w idx =>
    obtain ⟨rfl, hv⟩ := hck
    exact fun h0 h1 H l9 ls a1 a2 a3 => lv_ldc2 hx hb hown (hts _ (zk_cg_ok _ hv)) hd (hN _ _ _ _ _ _ h h0 h1 H l9 ls a1 a2 a3)
  case iload_n k =>
    obtain ⟨rfl, hv⟩ := hck
    split at h <;> try exact h.elim
    rename_i x hx9
    exact fun h0 h1 H l9 ls a1 a2 a3 => lv_iload_n hx hb hd hv (zk_ld a3 hx9 (zk_un_i x)) (hN _ _ _ _ _ _ h h0 h1 H l9 ls a1 a2 a3)
  case iload k =>
    obtain ⟨rfl, rfl⟩ := hck
    split at h <;> try exact h.elim
    rename_i x hx9
    exact fun h0 h1 H l9 ls a1 a2 a3 => lv_iload hx hb hd (zk_ld a3 hx9 (zk_un_i x)) (hN _ _ _ _ _ _ h h0 h1 H l9 ls a1 a2 a3)
  case lload_n k =>
    obtain ⟨rfl, hv⟩ := hck
    split at h <;> try exact h.elim
    rename_i x hx9
    exact fun h0 h1 H l9 ls a1 a2 a3 => lv_lload_n hx hb hd hv (zk_ld a3 hx9 (zk_un_l x)) (hN _ _ _ _ _ _ h h0 h1 H l9 ls a1 a2 a3)
  case lload k =>
    obtain ⟨rfl, rfl⟩ := hck
    split at h <;> try exact h.elim
    rename_i x hx9
    exact fun h0 h1 H l9 ls a1 a2 a3 => lv_lload hx hb hd (zk_ld a3 hx9 (zk_un_l x)) (hN _ _ _ _ _ _ h h0 h1 H l9 ls a1 a2 a3)
  case aload_n k =>
    obtain ⟨rfl, hv⟩ := hck
    split at h <;> try exact h.elim
    · rename_i x hx9
      exact fun h0 h1 H l9 ls a1 a2 a3 => lv_aload_n hx hb hd hv (zk_ld a3 hx9 (zk_un_r x)) (hN _ _ _ _ _ _ h h0 h1 H l9 ls a1 a2 a3)
    · rename_i x hx9
      exact fun h0 h1 H l9 ls a1 a2 a3 => lv_aload_n hx hb hd hv (zk_ld a3 hx9 (zk_un_a x)) (hN _ _ _ _ _ _ h h0 h1 H l9 ls a1 a2 a3)
    · rename_i hx9
      exact fun h0 h1 H l9 ls a1 a2 a3 => lv_aload_nN hx hb hd hv (zk_ld a3 hx9 zk_un_n) (hN _ _ _ _ _ _ h h0 h1 H l9 ls a1 a2 a3)
  case aload k =>
    obtain ⟨rfl, rfl⟩ := hck
    split at h <;> try exact h.elim
    · rename_i x hx9
      exact fun h0 h1 H l9 ls a1 a2 a3 => lv_aload hx hb hd (zk_ld a3 hx9 (zk_un_r x)) (hN _ _ _ _ _ _ h h0 h1 H l9 ls a1 a2 a3)
    · rename_i x hx9
      exact fun h0 h1 H l9 ls a1 a2 a3 => lv_aload hx hb hd (zk_ld a3 hx9 (zk_un_a x)) (hN _ _ _ _ _ _ h h0 h1 H l9 ls a1 a2 a3)
    · rename_i hx9
      exact fun h0 h1 H l9 ls a1 a2 a3 => lv_aloadN hx hb hd (zk_ld a3 hx9 zk_un_n) (hN _ _ _ _ _ _ h h0 h1 H l9 ls a1 a2 a3)
  case istore_n k =>
    obtain ⟨⟨rfl, hv⟩, hn⟩ := hck
    split at h <;> try exact h.elim
    exact fun h0 h1 H l9 ls a1 a2 a3 => lv_istore_n hx hb hd hv a3 hn rfl (fun ls2 h2 => hN _ _ _ _ _ _ h h0 h1 H l9 ls2 a1 a2 (zk_set_has (v := .int _) h2))
  case istore k =>
    obtain ⟨⟨rfl, rfl⟩, hn⟩ := hck
    split at h <;> try exact h.elim
    exact fun h0 h1 H l9 ls a1 a2 a3 => lv_istore hx hb hd a3 hn rfl (fun ls2 h2 => hN _ _ _ _ _ _ h h0 h1 H l9 ls2 a1 a2 (zk_set_has (v := .int _) h2))
  case lstore_n k =>
    obtain ⟨⟨rfl, hv⟩, hn⟩ := hck
    split at h <;> try exact h.elim
    exact fun h0 h1 H l9 ls a1 a2 a3 => lv_lstore_n hx hb hd hv a3 hn rfl (fun ls2 h2 => hN _ _ _ _ _ _ h h0 h1 H l9 ls2 a1 a2 (zk_set2_has (v := .long _) h2))
  case lstore k =>
    obtain ⟨⟨rfl, rfl⟩, hn⟩ := hck
    split at h <;> try exact h.elim
    exact fun h0 h1 H l9 ls a1 a2 a3 => lv_lstore hx hb hd a3 hn rfl (fun ls2 h2 => hN _ _ _ _ _ _ h h0 h1 H l9 ls2 a1 a2 (zk_set2_has (v := .long _) h2))
  case astore_n k =>
    obtain ⟨⟨rfl, hv⟩, hn⟩ := hck
    split at h <;> try exact h.elim
    · exact fun h0 h1 H l9 ls a1 a2 a3 => lv_astore_n hx hb hd hv a3 hn rfl (fun ls2 h2 => hN _ _ _ _ _ _ h h0 h1 H l9 ls2 a1 a2 (zk_set_has (v := .ref _) h2))
    · exact fun h0 h1 H l9 ls a1 a2 a3 => lv_astore_nN hx hb hd hv a3 hn rfl (fun ls2 h2 => hN _ _ _ _ _ _ h h0 h1 H l9 ls2 a1 a2 (zk_set_has (v := .null) h2))
  case astore k =>
    obtain ⟨⟨rfl, rfl⟩, hn⟩ := hck
    split at h <;> try exact h.elim
    · exact fun h0 h1 H l9 ls a1 a2 a3 => lv_astore hx hb hd a3 hn rfl (fun ls2 h2 => hN _ _ _ _ _ _ h h0 h1 H l9 ls2 a1 a2 (zk_set_has (v := .ref _) h2))
    · exact fun h0 h1 H l9 ls a1 a2 a3 => lv_astoreN hx hb hd a3 hn rfl (fun ls2 h2 => hN _ _ _ _ _ _ h h0 h1 H l9 ls2 a1 a2 (zk_set_has (v := .null) h2))
  case iinc k v =>
    obtain ⟨⟨⟨rfl, rfl⟩, hv⟩, hn⟩ := hck
    split at h <;> try exact h.elim
    rename_i x hx9
    intro h0 h1 H l9 ls a1 a2 a3
    obtain ⟨k9, hk9⟩ := List.getElem?_of_mem (zk_as_mem (sz := G.2.2.2.1) (o := G.2.2.2.2) (q := (k, .int x)) |>.mpr ⟨.int x, hx9, zk_un_i x, rfl⟩)
    exact lv_iinc (k := k9) hx hb hd a3 hk9 (by rw [hv]) hn rfl (fun ls2 h2 => hN _ _ _ _ _ _ h h0 h1 H l9 ls2 a1 a2 (zk_set_has (v := .int _) h2))
  case iadd =>
    subst hck
    split at h <;> try exact h.elim
    exact fun h0 h1 H l9 ls a1 a2 a3 => lv_iadd hx hb hd (hN _ _ _ _ _ _ h h0 h1 H l9 ls a1 a2 a3)
  case isub =>
    subst hck
    split at h <;> try exact h.elim
    exact fun h0 h1 H l9 ls a1 a2 a3 => lv_isub hx hb hd (hN _ _ _ _ _ _ h h0 h1 H l9 ls a1 a2 a3)
  case imul =>
    subst hck
    split at h <;> try exact h.elim
    exact fun h0 h1 H l9 ls a1 a2 a3 => lv_imul hx hb hd (hN _ _ _ _ _ _ h h0 h1 H l9 ls a1 a2 a3)
  case iand =>
    subst hck
    split at h <;> try exact h.elim
    exact fun h0 h1 H l9 ls a1 a2 a3 => lv_iand hx hb hd (hN _ _ _ _ _ _ h h0 h1 H l9 ls a1 a2 a3)
  case ior =>
    subst hck
    split at h <;> try exact h.elim
    exact fun h0 h1 H l9 ls a1 a2 a3 => lv_ior hx hb hd (hN _ _ _ _ _ _ h h0 h1 H l9 ls a1 a2 a3)
  case ixor =>
    subst hck
    split at h <;> try exact h.elim
    exact fun h0 h1 H l9 ls a1 a2 a3 => lv_ixor hx hb hd (hN _ _ _ _ _ _ h h0 h1 H l9 ls a1 a2 a3)
  case ishl =>
    subst hck
    split at h <;> try exact h.elim
    exact fun h0 h1 H l9 ls a1 a2 a3 => lv_ishl hx hb hd (hN _ _ _ _ _ _ h h0 h1 H l9 ls a1 a2 a3)
  case ishr =>
    subst hck
    split at h <;> try exact h.elim
    exact fun h0 h1 H l9 ls a1 a2 a3 => lv_ishr hx hb hd (hN _ _ _ _ _ _ h h0 h1 H l9 ls a1 a2 a3)
  case iushr =>
    subst hck
    split at h <;> try exact h.elim
    exact fun h0 h1 H l9 ls a1 a2 a3 => lv_iushr hx hb hd rfl (hN _ _ _ _ _ _ h h0 h1 H l9 ls a1 a2 a3)
  case idiv =>
    subst hck
    split at h <;> try exact h.elim
    exact fun h0 h1 H l9 ls a1 a2 a3 => lv_idiv hx hb hd h.1 (hN _ _ _ _ _ _ h.2 h0 h1 H l9 ls a1 a2 a3)
  case irem =>
    subst hck
    split at h <;> try exact h.elim
    exact fun h0 h1 H l9 ls a1 a2 a3 => lv_irem hx hb hd h.1 (hN _ _ _ _ _ _ h.2 h0 h1 H l9 ls a1 a2 a3)
  case ladd =>
    subst hck
    split at h <;> try exact h.elim
    exact fun h0 h1 H l9 ls a1 a2 a3 => lv_ladd hx hb hd (hN _ _ _ _ _ _ h h0 h1 H l9 ls a1 a2 a3)
  case lsub =>
    subst hck
    split at h <;> try exact h.elim
    exact fun h0 h1 H l9 ls a1 a2 a3 => lv_lsub hx hb hd (hN _ _ _ _ _ _ h h0 h1 H l9 ls a1 a2 a3)
  case lmul =>
    subst hck
    split at h <;> try exact h.elim
    exact fun h0 h1 H l9 ls a1 a2 a3 => lv_lmul hx hb hd (hN _ _ _ _ _ _ h h0 h1 H l9 ls a1 a2 a3)
  case land =>
    subst hck
    split at h <;> try exact h.elim
    exact fun h0 h1 H l9 ls a1 a2 a3 => lv_land hx hb hd (hN _ _ _ _ _ _ h h0 h1 H l9 ls a1 a2 a3)
  case ldiv =>
    subst hck
    split at h <;> try exact h.elim
    exact fun h0 h1 H l9 ls a1 a2 a3 => lv_ldiv hx hb hd h.1 (hN _ _ _ _ _ _ h.2 h0 h1 H l9 ls a1 a2 a3)
  case lrem =>
    subst hck
    split at h <;> try exact h.elim
    exact fun h0 h1 H l9 ls a1 a2 a3 => lv_lrem hx hb hd h.1 (hN _ _ _ _ _ _ h.2 h0 h1 H l9 ls a1 a2 a3)
  case lcmp =>
    subst hck
    split at h <;> try exact h.elim
    exact fun h0 h1 H l9 ls a1 a2 a3 => W.lcmp hx hb hd (hN _ _ _ _ _ _ h h0 h1 H l9 ls a1 a2 a3)
  case i2l =>
    subst hck
    split at h <;> try exact h.elim
    exact fun h0 h1 H l9 ls a1 a2 a3 => lv_i2l hx hb hd rfl (hN _ _ _ _ _ _ h h0 h1 H l9 ls a1 a2 a3)
  case l2i =>
    subst hck
    split at h <;> try exact h.elim
    exact fun h0 h1 H l9 ls a1 a2 a3 => lv_l2i hx hb hd rfl (hN _ _ _ _ _ _ h h0 h1 H l9 ls a1 a2 a3)
  case dup =>
    subst hck
    split at h <;> try exact h.elim
    exact fun h0 h1 H l9 ls a1 a2 a3 => lv_dup hx hb hd (by rw [zk_ad_cat]; exact h.1) (hN _ _ _ _ _ _ h.2 h0 h1 H l9 ls a1 a2 a3)
  case pop =>
    subst hck
    split at h <;> try exact h.elim
    exact fun h0 h1 H l9 ls a1 a2 a3 => lv_pop hx hb hd (by rw [zk_ad_cat]; exact h.1) (hN _ _ _ _ _ _ h.2 h0 h1 H l9 ls a1 a2 a3)
  case dup2 =>
    subst hck
    split at h <;> try exact h.elim
    · exact fun h0 h1 H l9 ls a1 a2 a3 => lv_dup2_2 hx hb hd rfl (hN _ _ _ _ _ _ h h0 h1 H l9 ls a1 a2 a3)
    · exact fun h0 h1 H l9 ls a1 a2 a3 => lv_dup2_11 hx hb hd (by rw [zk_ad_cat]; exact h.1) (by rw [zk_ad_cat]; exact h.2.1) (hN _ _ _ _ _ _ h.2.2 h0 h1 H l9 ls a1 a2 a3)
  case goto off =>
    obtain ⟨rfl, hv⟩ := hck
    exact fun h0 h1 H l9 ls a1 a2 a3 => lv_goto hx hb hd hv (hK _ _ _ _ _ _ _ h h0 h1 H l9 ls a1 a2 a3)
  case ifCond cnd off =>
    obtain ⟨rfl, hv⟩ := hck
    split at h <;> try exact h.elim
    split at h
    · exact fun h0 h1 H l9 ls a1 a2 a3 => lv_if_eq hx hb hd hv (fun z => hK _ _ _ _ _ _ _ (h.1 z) h0 h1 H l9 ls a1 a2 a3) (fun z => hN _ _ _ _ _ _ (h.2 z) h0 h1 H l9 ls a1 a2 a3)
    · exact fun h0 h1 H l9 ls a1 a2 a3 => lv_if_ne hx hb hd hv (fun z => hK _ _ _ _ _ _ _ (h.1 z) h0 h1 H l9 ls a1 a2 a3) (fun z => hN _ _ _ _ _ _ (h.2 z) h0 h1 H l9 ls a1 a2 a3)
    · exact fun h0 h1 H l9 ls a1 a2 a3 => lv_if_lt hx hb hd hv (fun z => hK _ _ _ _ _ _ _ (h.1 z) h0 h1 H l9 ls a1 a2 a3) (fun z => hN _ _ _ _ _ _ (h.2 z) h0 h1 H l9 ls a1 a2 a3)
    · exact fun h0 h1 H l9 ls a1 a2 a3 => lv_if_ge hx hb hd hv (fun z => hK _ _ _ _ _ _ _ (h.1 z) h0 h1 H l9 ls a1 a2 a3) (fun z => hN _ _ _ _ _ _ (h.2 z) h0 h1 H l9 ls a1 a2 a3)
    · exact fun h0 h1 H l9 ls a1 a2 a3 => lv_if_gt hx hb hd hv (fun z => hK _ _ _ _ _ _ _ (h.1 z) h0 h1 H l9 ls a1 a2 a3) (fun z => hN _ _ _ _ _ _ (h.2 z) h0 h1 H l9 ls a1 a2 a3)
    · exact fun h0 h1 H l9 ls a1 a2 a3 => lv_if_le hx hb hd hv (fun z => hK _ _ _ _ _ _ _ (h.1 z) h0 h1 H l9 ls a1 a2 a3) (fun z => hN _ _ _ _ _ _ (h.2 z) h0 h1 H l9 ls a1 a2 a3)
  case if_icmp cnd off =>
    obtain ⟨rfl, hv⟩ := hck
    split at h <;> try exact h.elim
    split at h
    · exact fun h0 h1 H l9 ls a1 a2 a3 => lv_icmp_eq hx hb hd hv (fun z => hK _ _ _ _ _ _ _ (h.1 z) h0 h1 H l9 ls a1 a2 a3) (fun z => hN _ _ _ _ _ _ (h.2 z) h0 h1 H l9 ls a1 a2 a3)
    · exact fun h0 h1 H l9 ls a1 a2 a3 => lv_icmp_ne hx hb hd hv (fun z => hK _ _ _ _ _ _ _ (h.1 z) h0 h1 H l9 ls a1 a2 a3) (fun z => hN _ _ _ _ _ _ (h.2 z) h0 h1 H l9 ls a1 a2 a3)
    · exact fun h0 h1 H l9 ls a1 a2 a3 => lv_icmp_lt hx hb hd hv (fun z => hK _ _ _ _ _ _ _ (h.1 z) h0 h1 H l9 ls a1 a2 a3) (fun z => hN _ _ _ _ _ _ (h.2 z) h0 h1 H l9 ls a1 a2 a3)
    · exact fun h0 h1 H l9 ls a1 a2 a3 => lv_icmp_ge hx hb hd hv (fun z => hK _ _ _ _ _ _ _ (h.1 z) h0 h1 H l9 ls a1 a2 a3) (fun z => hN _ _ _ _ _ _ (h.2 z) h0 h1 H l9 ls a1 a2 a3)
    · exact fun h0 h1 H l9 ls a1 a2 a3 => lv_icmp_gt hx hb hd hv (fun z => hK _ _ _ _ _ _ _ (h.1 z) h0 h1 H l9 ls a1 a2 a3) (fun z => hN _ _ _ _ _ _ (h.2 z) h0 h1 H l9 ls a1 a2 a3)
    · exact fun h0 h1 H l9 ls a1 a2 a3 => lv_icmp_le hx hb hd hv (fun z => hK _ _ _ _ _ _ _ (h.1 z) h0 h1 H l9 ls a1 a2 a3) (fun z => hN _ _ _ _ _ _ (h.2 z) h0 h1 H l9 ls a1 a2 a3)
  case ifnonnull off =>
    obtain ⟨rfl, hv⟩ := hck
    split at h <;> try exact h.elim
    · exact fun h0 h1 H l9 ls a1 a2 a3 => lv_ifnonnull hx hb hd hv (hK _ _ _ _ _ _ _ h h0 h1 H l9 ls a1 a2 a3)
    · exact fun h0 h1 H l9 ls a1 a2 a3 => lv_ifnonnullN hx hb hd (hN _ _ _ _ _ _ h h0 h1 H l9 ls a1 a2 a3)
  case tableswitch dflt lo hi offs =>
    obtain ⟨⟨hv, hlen⟩, hall⟩ := hck
    split at h <;> try exact h.elim
    rename_i x st9
    have hall' : ∀ j, j < sw.length → (sw.getD j (0, 0)).1.toInt = lo + j ∧ (offs[j]?).map (fun o => (pc : Int) + o) = some ((sw.getD j (0, 0)).2 : Int) := by
      intro j hj
      have := List.all_eq_true.mp hall j (List.mem_range.mpr hj)
      simpa only [Bool.and_eq_true, decide_eq_true_eq] using this
    intro h0 h1 H l9 ls a1 a2 a3
    by_cases ho : x.toInt < lo ∨ hi < x.toInt
    · refine lv_tableOut hx hb hd ho hv (hK _ _ _ _ _ _ _ (h.2 (fun q hq e9 => ?_)) h0 h1 H l9 ls a1 a2 a3)
      obtain ⟨j, hj, rfl⟩ := List.mem_iff_getElem.mp hq
      have := (hall' j hj).1
      simp only [List.getD_eq_getElem?_getD, List.getElem?_eq_getElem hj, Option.getD_some] at this
      rw [e9, this] at ho
      omega
    · have o1 : ¬ x.toInt < lo := fun z => ho (Or.inl z)
      have o2 : ¬ hi < x.toInt := fun z => ho (Or.inr z)
      have hj : (x.toInt - lo).toNat < sw.length := by omega
      obtain ⟨g1, g2⟩ := hall' _ hj
      obtain ⟨off, f1, f2⟩ := Option.map_eq_some_iff.mp g2
      refine lv_tableIn hx hb hd o1 o2 f1 f2 (hK _ _ _ _ _ _ _ (h.1 _ ?_ ?_) h0 h1 H l9 ls a1 a2 a3)
      · rw [List.getD_eq_getElem?_getD, List.getElem?_eq_getElem hj]
        exact List.getElem_mem hj
      · apply Int32.toInt_inj.mp
        rw [g1]
        omega
  case lookupswitch dflt ps =>
    obtain ⟨⟨hv, hso⟩, hmap⟩ := hck
    split at h <;> try exact h.elim
    rename_i x st9
    obtain ⟨tgt, g1, g2⟩ := zk_lk ps.toList sw pc dflt b x hmap hv
    intro h0 h1 H l9 ls a1 a2 a3
    refine lv_lookup hx hb hd hso rfl g1 ?_
    rcases g2 with ⟨q, q1, q2, rfl⟩ | ⟨q1, rfl⟩
    · exact hK _ _ _ _ _ _ _ (h.1 q q1 q2) h0 h1 H l9 ls a1 a2 a3
    · exact hK _ _ _ _ _ _ _ (h.2 q1) h0 h1 H l9 ls a1 a2 a3
  case getfield idx =>
    obtain ⟨⟨⟨rfl, h13⟩, hN9⟩, hfl⟩ := hck
    split at h <;> try exact h.elim
    obtain ⟨hok, h⟩ := h
    split at h
    · rename_i hft
      exact zk_s_getf C hd h13 hN9 hfl hok (v := .long _) (by simp only [zk_fv, hft]; rfl) (hN _ _ _ _ _ _ h)
    · rename_i hft
      exact zk_s_getf C hd h13 hN9 hfl hok (v := zk_rv _) (by simp only [zk_fv, hft]; rw [zk_rv_ad]) (hN _ _ _ _ _ _ h)
    · rename_i hft1 hft2
      refine zk_s_getf C hd h13 hN9 hfl hok (v := .int _) ?_ (hN _ _ _ _ _ _ h)
      unfold zk_fv
      split
      · exact absurd ‹_› hft1
      · exact absurd ‹_› hft2
      · rfl
  case putfield idx =>
    obtain ⟨⟨⟨⟨rfl, h13⟩, hN9⟩, hfl⟩, hfin⟩ := hck
    have hfin' : (zk_T b e2).2.2.2 = true → ct = true ∧ b = ow := by
      intro z
      rw [if_pos z] at hfin
      simpa only [Bool.and_eq_true, decide_eq_true_eq] using hfin
    have htc := zk_tc_ok b h13 e2 hN9
    split at h <;> try exact h.elim
    · rename_i x q st9
      obtain ⟨hok, h⟩ := h
      split at h <;> try exact h.elim
      · rename_i hft
        rw [hft] at htc
        have hty : zk_ty b e2 = .int := by
          cases hq : zk_ty b e2 <;> rw [hq] at htc <;> simp [zk_tcode] at htc
        refine zk_s_putf C hd h13 hN9 hfl hok (v := .int x) hfin' (by rw [hty]; rfl) (by rw [hty]; rfl) ?_ ?_ (fun z hz => zk_up_row hz) (fun _ _ => rfl) (fun _ _ => rfl) (hN _ _ _ _ _ _ h)
        · simp only [zk_fv, hft, zk_up_at]; rfl
        · intro j hj
          simp only [zk_fv, zk_up_ne (show ¬ (q = q ∧ j = e2) from fun z => hj z.2)]
      · rename_i hft
        rw [hft] at htc
        have hty : zk_ty b e2 = .boolean := by
          cases hq : zk_ty b e2 <;> rw [hq] at htc <;> simp [zk_tcode] at htc
        obtain ⟨hb1, h⟩ := h
        refine zk_s_putf C hd h13 hN9 hfl hok (v := .int x) hfin' ?_ ?_ ?_ ?_ (fun z hz => zk_up_row hz) (fun _ _ => rfl) (fun _ _ => rfl) (hN _ _ _ _ _ _ h)
        · rw [hty]; rcases hb1 with rfl | rfl <;> rfl
        · rw [hty]; rcases hb1 with rfl | rfl <;> rfl
        · simp only [zk_fv, hft, zk_up_at]; rfl
        · intro j hj
          simp only [zk_fv, zk_up_ne (show ¬ (q = q ∧ j = e2) from fun z => hj z.2)]
    · rename_i x q st9
      obtain ⟨hok, hft, h⟩ := h
      rw [hft] at htc
      have hty : zk_ty b e2 = .long := by
        cases hq : zk_ty b e2 <;> rw [hq] at htc <;> simp [zk_tcode] at htc
      refine zk_s_putf C hd h13 hN9 hfl hok (v := .long x) hfin' (by rw [hty]; rfl) (by rw [hty]; rfl) ?_ ?_ (fun _ _ => rfl) (fun z hz => zk_up_row hz) (fun _ _ => rfl) (hN _ _ _ _ _ _ h)
      · simp only [zk_fv, hft, zk_up_at]; rfl
      · intro j hj
        simp only [zk_fv, zk_up_ne (show ¬ (q = q ∧ j = e2) from fun z => hj z.2)]
    · rename_i x q st9
      obtain ⟨hok, hft, h⟩ := h
      rw [hft] at htc
      have hty : (∃ t, zk_ty b e2 = .object t) ∨ ∃ t, zk_ty b e2 = .array t := by
        cases hq : zk_ty b e2 <;> rw [hq] at htc <;> simp [zk_tcode] at htc ⊢
      refine zk_s_putf C hd h13 hN9 hfl hok (v := .ref x) hfin' ?_ ?_ ?_ ?_ (fun _ _ => rfl) (fun _ _ => rfl) (fun z hz => zk_up_row hz) (hN _ _ _ _ _ _ h)
      · rcases hty with ⟨t, hty⟩ | ⟨t, hty⟩ <;> rw [hty] <;> rfl
      · rcases hty with ⟨t, hty⟩ | ⟨t, hty⟩ <;> rw [hty] <;> rfl
      · simp only [zk_fv, hft, zk_up_at]; rfl
      · intro j hj
        simp only [zk_fv, zk_up_ne (show ¬ (q = q ∧ j = e2) from fun z => hj z.2)]
  case iaload =>
    subst hck
    split at h <;> try exact h.elim
    · exact zk_s_iald C hd h.1 h.2.1 (hN _ _ _ _ _ _ h.2.2)
    · intro h0 h1 H l9 ls a1 a2 a3
      exact va_ti C.1 C.2.1 C.2.2.2.2.2.1.2.2.2.2.2.2.2 a2 h.1 rfl hd (hN _ _ _ _ _ _ h.2 h0 h1 H l9 ls a1 a2 a3)
  case caload =>
    subst hck
    split at h <;> try exact h.elim
    exact zk_s_cald C hd h.1 h.2.1 (hN _ _ _ _ _ _ h.2.2)
  case laload =>
    subst hck
    split at h <;> try exact h.elim
    exact zk_s_lald C hd h.1 h.2.1 (hN _ _ _ _ _ _ h.2.2)
  case aaload =>
    subst hck
    split at h <;> try exact h.elim
    exact zk_s_aald C hd h.1 h.2.1 (hN _ _ _ _ _ _ h.2.2)
  case iastore =>
    subst hck
    split at h <;> try exact h.elim
    exact zk_s_iast C hd h.1 h.2.1 (hN _ _ _ _ _ _ h.2.2)
  case castore =>
    subst hck
    split at h <;> try exact h.elim
    exact zk_s_cast C hd h.1 h.2.1 (hN _ _ _ _ _ _ h.2.2)
  case lastore =>
    subst hck
    split at h <;> try exact h.elim
    exact zk_s_last C hd h.1 h.2.1 (hN _ _ _ _ _ _ h.2.2)
  case aastore =>
    subst hck
    split at h <;> try exact h.elim
    exact zk_s_aast C hd h.1 h.2.1 h.2.2.1 (hN _ _ _ _ _ _ h.2.2.2)
  case arraylength =>
    subst hck
    split at h <;> try exact h.elim
    · exact zk_s_alen C hd h.1 h.2.1 h.2.2.1 (hN _ _ _ _ _ _ h.2.2.2)
    · intro h0 h1 H l9 ls a1 a2 a3
      exact va_tlen C.1 C.2.1 C.2.2.2.2.2.1.2.2.2.2.2.2.2 a2 rfl hd (hN _ _ _ _ _ _ h h0 h1 H l9 ls a1 a2 a3)
  case newarray t =>
    obtain ⟨rfl, hv⟩ := hck
    split at h <;> try exact h.elim
    exact zk_s_newa C hd hv h.1 h.2.1 h.2.2.1 h.2.2.2.1 (hN _ _ _ _ _ _ h.2.2.2.2)
  case anewarray idx =>
    obtain ⟨rfl, hv⟩ := hck
    split at h <;> try exact h.elim
    exact zk_s_newq C hd hv h.1 h.2.1 h.2.2.1 h.2.2.2.1 (hN _ _ _ _ _ _ h.2.2.2.2)
  case new idx =>
    obtain ⟨⟨rfl, h13⟩, hv⟩ := hck
    exact zk_s_new C hd h13 hv h.1 h.2.1 (hN _ _ _ _ _ _ h.2.2)
  case invokespecial idx =>
    obtain ⟨rfl, hv⟩ := hck
    split at h
    · rw [if_pos rfl] at hv
      simp only [decide_eq_true_eq] at hv
      split at h <;> try exact h.elim
      obtain ⟨g1, g2, h⟩ := h
      intro h0 h1 H l9 ls a1 a2 a3
      have hfr := C.2.2.2.2.2.2.2.1
      have hlo := C.2.2.2.2.2.2.2.2.1
      refine W.objInit hx hb hown (hts _ (zk_ol_ok _ hv)) (hts _ zk_ob.1) (hts _ zk_ob.2) rfl (by rw [hml]; exact a3.1) rfl hd (by omega) ?_ (hN _ _ _ _ _ _ h h0 h1 H l9 ls a1 a2 a3)
      rw [zk_cat_sum]
      show 2 * 0 + _ + _ ≤ _
      omega
    · rename_i hc
      rw [if_neg hc] at hv
      simp only [zk_ckm, Bool.and_eq_true, decide_eq_true_eq] at hv
      obtain ⟨⟨v1, v2⟩, v3⟩ := hv
      split at h <;> try exact h.elim
      rename_i av rest hpop
      obtain ⟨q1, q2⟩ := zk_pop_eq _ _ _ _ _ hpop
      simp only [List.reverse_nil, List.nil_append, List.length_nil, Nat.add_zero] at q1 q2
      exact zk_s_call C hN (fl := 0) q1 v2 (by simpa using v1) (Or.inr (Or.inr ⟨rfl, rfl, by omega, h.1, hd⟩)) h.2
  case invokevirtual idx =>
    obtain ⟨⟨rfl, hv⟩, v3⟩ := hck
    simp only [zk_ckm, Bool.and_eq_true, decide_eq_true_eq] at hv
    obtain ⟨v1, v2⟩ := hv
    split at h <;> try exact h.elim
    rename_i av rest hpop
    obtain ⟨q1, q2⟩ := zk_pop_eq _ _ _ _ _ hpop
    simp only [List.reverse_nil, List.nil_append, List.length_nil, Nat.add_zero] at q1 q2
    refine zk_s_call C hN (fl := a) q1 v2 ?_ (Or.inr (Or.inl ⟨rfl, by omega, h.1, hd⟩)) h.2
    by_cases hf : a = 1
    · rw [if_pos hf] at v1 ⊢; simpa using v1
    · rw [if_neg hf] at v1 ⊢; simpa using v1
  case invokestatic idx =>
    obtain ⟨rfl, hv⟩ := hck
    split at h
    · rw [if_pos rfl] at hv
      simp only [decide_eq_true_eq] at hv
      split at h <;> try exact h.elim
      obtain ⟨g1, g2, g3, g4, g5, g6, g7, g8, g9, h⟩ := h
      exact zk_s_copy C hd hv g1 g2 g3 g4 g5 g6 g7 g8 g9 (hN _ _ _ _ _ _ h)
    · rename_i hc
      rw [if_neg hc] at hv
      simp only [zk_ckm, Bool.and_eq_true, decide_eq_true_eq] at hv
      obtain ⟨v1, v2⟩ := hv
      split at h <;> try exact h.elim
      rename_i av rest hpop
      obtain ⟨q1, q2⟩ := zk_pop_eq _ _ _ _ _ hpop
      simp only [List.reverse_nil, List.nil_append, List.length_nil, Nat.add_zero] at q1 q2
      refine zk_s_call C hN (fl := a) q1 v2 ?_ (Or.inl ⟨rfl, by omega, hd⟩) h
      by_cases hf : a = 1
      · rw [if_pos hf] at v1 ⊢; simpa using v1
      · rw [if_neg hf] at v1 ⊢; simpa using v1
  case ireturn =>
    obtain ⟨rfl, hv⟩ := hck
    split at h <;> try exact h.elim
    rename_i x
    obtain ⟨rfl, hb1, h⟩ := h
    have hq := hQ rfl
    subst hq
    have hlocks := C.2.2.2.2.2.2.2.2.2.2.2.2.2
    have hr := C.2.2.2.2.2.2.2.2.2.2.2.2.1
    intro h0 h1 H l9 ls a1 a2 a3
    rcases hv with ⟨-, hv⟩ | ⟨v0, hv⟩
    · exact W.iret (v := x) hx hb (by rw [hr, hv]) (fun t ht hW => ⟨⟨some (.int x), M, L, P, rfl, h, by rw [ht]; exact a1⟩, a2.F ht⟩) a2.2.2 hd hlocks
    · exact W.zret (v := x) (ty := .boolean) hx hb (by rw [hr, hv]) (by rcases hb1 v0 with rfl | rfl <;> rfl) (fun t ht hW => ⟨⟨some (.int x), M, L, P, rfl, h, by rw [ht]; exact a1⟩, a2.F ht⟩) a2.2.2 hd hlocks
  case lreturn =>
    obtain ⟨rfl, hv⟩ := hck
    split at h <;> try exact h.elim
    rename_i x
    obtain ⟨rfl, h⟩ := h
    have hq := hQ rfl
    subst hq
    have hlocks := C.2.2.2.2.2.2.2.2.2.2.2.2.2
    have hr := C.2.2.2.2.2.2.2.2.2.2.2.2.1
    intro h0 h1 H l9 ls a1 a2 a3
    exact W.lret (v := x) hx hb (by rw [hr, hv]) (fun t ht hW => ⟨⟨some (.long x), M, L, P, rfl, h, by rw [ht]; exact a1⟩, a2.F ht⟩) a2.2.2 hd hlocks
  case return_ =>
    obtain ⟨rfl, hv⟩ := hck
    split at h <;> try exact h.elim
    obtain ⟨rfl, h⟩ := h
    have hq := hQ rfl
    subst hq
    have hlocks := C.2.2.2.2.2.2.2.2.2.2.2.2.2
    have hr := C.2.2.2.2.2.2.2.2.2.2.2.2.1
    intro h0 h1 H l9 ls a1 a2 a3
    exact W.vret hx hb (by rw [hr, hv]) (fun t ht hW => ⟨⟨none, M, L, P, rfl, h, by rw [ht]; exact a1⟩, a2.F ht⟩) a2.2.2 hd hlocks
end SN5
