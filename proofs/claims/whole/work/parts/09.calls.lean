/-! ===== calls and returns ===== -/
section SN4
variable {G : zk_G} {ow : Nat} {ct : Bool} {F : zk_F} {d n0 n1 : Nat} {p : Program} {e : Env} {R : Room} {s : State} {m : MethodId} {args : Array Value} {below : List Frame} {meth : Method} {c : Code} {Q : State → Prop}
variable {pc : Nat} {lv st : List Value} {n : Nat} {M : zk_MI} {L : zk_ML} {P : zk_MP}
theorem zk_after {H : Heap} {locs : List Loc} {cells slots mc ms n2 : Nat} {ls : Array Slot} {st0 rest : List Value} {Post : zk_Po} {a : Array Value} (hr : va_Run p G.1 e R s m args below meth c H locs cells slots mc ms (F0 m pc ls st0) rest (zk_Q G n2 Post a) (fun q => G.2.2.2.1 ≤ q)) (hS : va_S (fun q => G.2.2.2.1 ≤ q) s.heap H locs)
    (kk : ∀ (r : Option Value) (M' : zk_MI) (L' : zk_ML) (P' : zk_MP) (H1 : Heap) (l1 : List Loc), Post r M' L' P' → zk_Rep G n2 M' L' P' H1 → va_S (fun q => G.2.2.2.1 ≤ q) s.heap H1 l1 → W p G.1 e R s m args below meth c H1 l1 (cells + mc) (slots + ms) Q (F0 m (pc + 3) ls ((r.map (zk_ad G.2.2.2.1 G.2.2.2.2)).toList ++ rest))) : W p G.1 e R s m args below meth c H locs cells slots Q (F0 m pc ls st0) := by
  intro T hT X
  obtain ⟨v, st₀, t, T', L9, h0, X', hL, e1, e2, ⟨⟨r, M', L', P', hv, hp, hb⟩, hz, hk⟩, stp⟩ := hr T hT X
  cases hv
  rw [h0] at hz hk
  obtain ⟨t2, a1, b1⟩ := kk r M' L' P' T'.heap (locs ++ L9) hp (by rw [e1]; exact hb) ⟨Nat.le_trans hS.1 (by rw [e1]; exact hz), fun q h1 h2 => by rw [e1, hk q (Nat.lt_of_lt_of_le h1 hS.1) h2]; exact hS.2.1 q h1 h2, fun q hq => by
      rcases List.mem_append.mp hq with h | h
      · exact hS.2.2 q h
      · exact hL q h⟩ T' rfl X'
  exact ⟨t2, stp t2 a1, b1⟩
theorem zk_own_ne : ∀ k, zk_own k ≠ "java/lang/invoke/MethodHandle" ∧ zk_own k ≠ "java/lang/invoke/VarHandle" := by
  intro k
  unfold zk_own
  split <;> decide +kernel
theorem zk_goodIn {w : Cond} (h : w ∈ zk_TB) : GoodIn zk_TB (w :: zk_TB) := by
  intro v hv
  rcases List.mem_cons.mp hv with rfl | hv
  · exact zk_TB_good _ h
  · exact zk_TB_good _ hv
theorem zk_blind {av : List Value} {n : Nat} : FrameBlind (va_Pc (av.map (zk_ad G.2.2.2.1 G.2.2.2.2)) (fun U => U.heap.size = G.2.2.2.1 + n ∧ zk_Rep G n M L P U.heap ∧ zk_Env G U U.heap)) := by
  intro a U g mk h
  obtain ⟨h1, h2, h3, h4⟩ := h
  exact ⟨h1, h2, h3, zk_Env.same (u := U) rfl h4⟩
theorem zk_pcs (C : zk_Cx G ow ct F d n0 n1 p R s m args meth c) {av : List Value} {H : Heap} {locs : List Loc} (hR : zk_Rep G n M L P H) (hS : va_S (fun q => G.2.2.2.1 ≤ q) s.heap H locs) (hsz : H.size = G.2.2.2.1 + n) : ∀ U : State, U.heap = H → s.WarmedH U.vm → va_Pc (av.map (zk_ad G.2.2.2.1 G.2.2.2.2)) (fun U => U.heap.size = G.2.2.2.1 + n ∧ zk_Rep G n M L P U.heap ∧ zk_Env G U U.heap) (av.map (zk_ad G.2.2.2.1 G.2.2.2.2)).toArray U := by
  intro U hU hW
  refine ⟨rfl, by rw [hU]; exact hsz, by rw [hU]; exact hR, ?_⟩
  rw [hU]
  exact zk_Env.moved hW (fun a h1 h2 => hS.2.1 a h1 h2) C.2.2.2.2.2.1
theorem zk_cat_sum {rest : List Value} : ((rest.map (zk_ad G.2.2.2.1 G.2.2.2.2)).map fun v => v.category).sum = (rest.map Value.category).sum := by
  rw [List.map_map]; congr 1; apply List.map_congr_left; intro v _; exact zk_ad_cat _ _ v
/-- the end of every kind of call -/
theorem zk_back (C : zk_Cx G ow ct F d n0 n1 p R s m args meth c) {rest : List Value} {n2 : Nat} {Post : zk_Po} (hn2 : n ≤ n2) (hn21 : n2 ≤ n1) (hN : ∀ (r : Option Value) (M' : zk_MI) (L' : zk_ML) (P' : zk_MP), Post r M' L' P' → zk_Z G F n0 n1 p e R s m args below meth c Q (pc + 3) lv (r.toList ++ rest) n2 M' L' P')
    {H : Heap} {locs : List Loc} {ls : Array Slot} {st0 : List Value} {a : Array Value} (h0 : n0 ≤ n) (hS : va_S (fun q => G.2.2.2.1 ≤ q) s.heap H locs) (hl : lv_has ls F.2.2.1 (zk_as G.2.2.2.1 G.2.2.2.2 lv))
    (hr : va_Run p G.1 e R s m args below meth c H locs (n - n0) (zk_sl n - zk_sl n0) (n2 - n) (zk_sl n2 - zk_sl n) (F0 m pc ls st0) (rest.map (zk_ad G.2.2.2.1 G.2.2.2.2)) (zk_Q G n2 Post a) (fun q => G.2.2.2.1 ≤ q)) : W p G.1 e R s m args below meth c H locs (n - n0) (zk_sl n - zk_sl n0) Q (F0 m pc ls st0) := by
  refine zk_after hr hS (fun r M' L' P' H1 l1 a1 a2 a3 => ?_)
  have h2 := hN r M' L' P' a1 (by omega) hn21 H1 l1 ls a2 a3 hl
  have hm0 := zk_sl_mono h0
  have hm1 := zk_sl_mono hn2
  rw [show n - n0 + (n2 - n) = n2 - n0 by omega, show zk_sl n - zk_sl n0 + (zk_sl n2 - zk_sl n) = zk_sl n2 - zk_sl n0 by omega]
  have e9 : (r.toList ++ rest).map (zk_ad G.2.2.2.1 G.2.2.2.2) = (r.map (zk_ad G.2.2.2.1 G.2.2.2.2)).toList ++ rest.map (zk_ad G.2.2.2.1 G.2.2.2.2) := by cases r <;> simp
  rw [e9] at h2
  exact h2
theorem zk_nest_ok (C : zk_Cx G ow ct F d n0 n1 p R s m args meth c) {idx y : Nat} (h : (ow, idx, y) ∈ zk_nests) : va_Nw (.methodLinkNest (zk_own ow) idx (zk_m y).1 RX11) s := by
  obtain ⟨⟨g1, g2, g3, g4⟩, -⟩ := C.2.2.2.2.2.1.2
  simp only [zk_nests, List.mem_cons, Prod.mk.injEq, List.not_mem_nil, or_false] at h
  rcases h with ⟨rfl, rfl, rfl⟩ | ⟨rfl, rfl, rfl⟩ | ⟨rfl, rfl, rfl⟩ | ⟨rfl, rfl, rfl⟩
  · exact g1
  · exact g2
  · exact g3
  · exact g4
theorem zk_s_call (C : zk_Cx G ow ct F d n0 n1 p R s m args meth c) {N : zk_Nx} (hN : ∀ lv st n M L P, N lv st n M L P → zk_Z G F n0 n1 p e R s m args below meth c Q (pc + 3) lv st n M L P) {av rest : List Value} {idx y k cn kind : Nat} {fl : Int32} (hst : st = av.reverse ++ rest) (hmi : (y, kind, k, cn) ∈ zk_mi) (hlk : if fl = 1 then (ow, idx, y) ∈ zk_nests else (ow, idx, y) ∈ zk_ml)
    (hkind : (kind = 0 ∧ av.length = k ∧ decode F.2.1 pc = .ok (.invokestatic idx, 3)) ∨ (kind = 1 ∧ av.length = k + 1 ∧ zk_rc n cn av ∧ decode F.2.1 pc = .ok (.invokevirtual idx, 3)) ∨ (kind = 2 ∧ fl = 0 ∧ av.length = k + 1 ∧ zk_rc n cn av ∧ decode F.2.1 pc = .ok (.invokespecial idx, 3)))
    (h : zk_call G d n1 N y av rest lv n M L P) : zk_Z G F n0 n1 p e R s m args below meth c Q pc lv st n M L P := by
  have C0 := C
  obtain ⟨hx, hb, hml, hown, hts, hE, hs0, hfr, hlo, hRc, hRs, -⟩ := C
  obtain ⟨hcat, d', n2, Post, hdd, hn21, ⟨hn2, hM⟩, hk⟩ := h
  obtain ⟨⟨i1, i2⟩, ⟨i3, i4, i5⟩, i6⟩ := zk_mi_ok _ hmi
  simp only at i1 i2 i3 i4 i5 i6
  intro h0 h1 H locs ls hR hS hl
  refine zk_sized C0 h0 hR hS (fun hsz => ?_)
  have hm0 := zk_sl_mono h0
  have hm1 := zk_sl_mono hn2
  have hm2 := zk_sl_mono hn21
  have hini : (Cond.initialized (zk_m y).1.cls).before args s = true := by rw [i3]; exact hts _ i1
  have hdn : (zk_m y).1.cls ≠ "java/lang/invoke/MethodHandle" ∧ (zk_m y).1.cls ≠ "java/lang/invoke/VarHandle" ∧ (parseMethodDescriptor (zk_m y).1.desc).map (fun d => d.parameters.length) = some k := by
    rw [i3]; exact ⟨(zk_own_ne cn).1, (zk_own_ne cn).2, i4⟩
  have hroom : (zk_room d' (n2 - n) (zk_sl n2 - zk_sl n)).frames + 1 ≤ R.frames ∧ 8 + ((zk_m y).2.2.1 + 11) + (zk_room d' (n2 - n) (zk_sl n2 - zk_sl n)).locals ≤ R.locals := by
    simp only [zk_room]
    omega
  have hcs : (n - n0) + (n2 - n) ≤ R.cells ∧ (zk_sl n - zk_sl n0) + (zk_sl n2 - zk_sl n) ≤ R.slots := by omega
  have hW : 2 * (F0 m pc ls (st.map (zk_ad G.2.2.2.1 G.2.2.2.2))).monitorRoom + (((rest.map (zk_ad G.2.2.2.1 G.2.2.2.2))).map fun v => v.category).sum ≤ 8 := lv_room (by rw [zk_cat_sum]; exact hcat)
  refine zk_back C0 hn2 hn21 (fun r M' L' P' a1 => hN _ _ _ _ _ _ (hk r M' L' P' a1)) h0 hS hl (a := (av.map (zk_ad G.2.2.2.1 G.2.2.2.2)).toArray) ?_
  have hfix : CallFix p m c F.2.1 F.2.2.1 s args zk_TB (zk_own ow) := ⟨hx, hb, hml, hown, hts⟩
  rcases hkind with ⟨rfl, hlen, hd⟩ | ⟨rfl, hlen, hrc, hd⟩ | ⟨rfl, rfl, hlen, hrc, hd⟩
  · rw [if_pos rfl] at i6
    have hstk : (F0 m pc ls (st.map (zk_ad G.2.2.2.1 G.2.2.2.2))).stack = (av.map (zk_ad G.2.2.2.1 G.2.2.2.2)).reverse ++ rest.map (zk_ad G.2.2.2.1 G.2.2.2.2) := by
      show st.map _ = _
      rw [hst, List.map_append, List.map_reverse]
    by_cases hf : fl = 1
    · rw [if_pos hf] at hlk
      exact va_runSN (host := RX11) (index := idx) (n := k) hfix hM ⟨va_cnB k hts (zk_goodIn i2) rfl rfl rfl (zk_nest_ok C0 hlk) hini hdn hroom, hts _ i6, trivial⟩ ⟨zk_blind, zk_pcs C0 hR hS hsz⟩ rfl (by simpa using hlen) hl.1 hstk hW hd hcs
    · rw [if_neg hf] at hlk
      exact va_runS (index := idx) (n := k) hfix hM ⟨callB_of k hts (zk_goodIn i2) rfl rfl rfl hini (hts _ (zk_ml_ok _ hlk)) hdn hroom, hts _ i6⟩ ⟨zk_blind, zk_pcs C0 hR hS hsz⟩ rfl (by simpa using hlen) hl.1 hstk hW hd hcs
  · rw [if_neg (by decide)] at i6
    rw [if_pos rfl] at i6
    have hrecv : ∃ (b : Nat) (av' : List Value) (v : Value), av = v :: av' ∧ zk_ad G.2.2.2.1 G.2.2.2.2 v = .ref b ∧ ∃ cell : Cell, H[b]? = some cell ∧ cell.vm.isStatics = false ∧ s.vm.findClass (zk_m y).1.cls = some cell.cls := by
      match av, hrc with
      | .ref q :: av', hrc =>
        refine ⟨G.2.2.2.1 + q, av', .ref q, rfl, rfl, ?_⟩
        obtain ⟨⟨z1, z2⟩, z3⟩ := hrc
        rw [i3, zk_own_R cn z3]
        exact va_recv hE.1 hR (zk_cl_get cn z3) (by rw [zk_ws_get z1, zk_cell_o z2 (by omega)])
      | .retAddr 1 :: av', hrc =>
        refine ⟨G.2.2.2.2 1, av', .retAddr 1, rfl, rfl, ?_⟩
        have z : cn = 30 := hrc
        rw [i3, z]
        exact vk_recv (i := 0) hE.2.2.2.2.1 (by decide) hS
    obtain ⟨b, av', v, rfl, hv, hcell⟩ := hrecv
    have hstk : (F0 m pc ls (st.map (zk_ad G.2.2.2.1 G.2.2.2.2))).stack = (av'.map (zk_ad G.2.2.2.1 G.2.2.2.2)).reverse ++ .ref b :: rest.map (zk_ad G.2.2.2.1 G.2.2.2.2) := by
      show st.map _ = _
      rw [hst]
      simp [hv, List.map_reverse]
    have hpc := zk_pcs C0 (av := v :: av') hR hS hsz
    simp only [List.map_cons, hv] at hpc hM ⊢
    have hbl := zk_blind (G := G) (M := M) (L := L) (P := P) (av := v :: av') (n := n)
    simp only [List.map_cons, hv] at hbl
    by_cases hf : fl = 1
    · rw [if_pos hf] at hlk
      exact va_runVN (host := RX11) (index := idx) (n := k) (C := (zk_m y).1.cls) (b := b) (As := av'.map (zk_ad G.2.2.2.1 G.2.2.2.2)) hfix hM ⟨va_cnB k hts (zk_goodIn i2) rfl rfl rfl (zk_nest_ok C0 hlk) hini hdn hroom, hts _ i6.1, hts _ i6.2⟩ ⟨hbl, hcell, hpc⟩ rfl (by simpa using hlen) hl.1 hstk hW hd hcs
    · rw [if_neg hf] at hlk
      exact va_runV (index := idx) (n := k) (C := (zk_m y).1.cls) (b := b) (As := av'.map (zk_ad G.2.2.2.1 G.2.2.2.2)) hfix hM ⟨callB_of k hts (zk_goodIn i2) rfl rfl rfl hini (hts _ (zk_ml_ok _ hlk)) hdn hroom, hts _ i6.1, hts _ i6.2⟩ ⟨hbl, hcell, hpc⟩ rfl (by simpa using hlen) hl.1 hstk hW hd hcs
  · rw [if_neg (by decide)] at i6
    rw [if_neg (by decide)] at i6
    rw [if_neg (by decide)] at hlk
    have hrecv : ∃ (b : Nat) (av' : List Value) (v : Value), av = v :: av' ∧ zk_ad G.2.2.2.1 G.2.2.2.2 v = .ref b := by
      match av, hrc with
      | .ref q :: av', hrc => exact ⟨G.2.2.2.1 + q, av', .ref q, rfl, rfl⟩
      | .retAddr 1 :: av', hrc => exact ⟨G.2.2.2.2 1, av', .retAddr 1, rfl, rfl⟩
    obtain ⟨b, av', v, rfl, hv⟩ := hrecv
    have hstk : (F0 m pc ls (st.map (zk_ad G.2.2.2.1 G.2.2.2.2))).stack = (av'.map (zk_ad G.2.2.2.1 G.2.2.2.2)).reverse ++ .ref b :: rest.map (zk_ad G.2.2.2.1 G.2.2.2.2) := by
      show st.map _ = _
      rw [hst]
      simp [hv, List.map_reverse]
    have hpc := zk_pcs C0 (av := v :: av') hR hS hsz
    have hbl := zk_blind (G := G) (M := M) (L := L) (P := P) (av := v :: av') (n := n)
    rw [i6.2.2] at hM i2
    simp only [List.map_cons, hv] at hpc hM hbl ⊢
    exact va_runI (index := idx) (n := k) (b := b) (As := av'.map (zk_ad G.2.2.2.1 G.2.2.2.2)) hfix hM ⟨callB_of k hts (zk_goodIn i2) rfl rfl rfl hini (hts _ (zk_ml_ok _ hlk)) hdn hroom, i6.2.1, hts _ i6.1⟩ ⟨hbl, hpc⟩ rfl (by simpa using hlen) hl.1 hstk hW hd hcs
end SN4
