/-! ===== arrays, new cells, calls, returns ===== -/
section SN2
variable {G : zk_G} {ow : Nat} {ct : Bool} {F : zk_F} {d n0 n1 : Nat} {p : Program} {e : Env} {R : Room} {s : State} {m : MethodId} {args : Array Value} {below : List Frame} {meth : Method} {c : Code} {Q : State → Prop}
variable {pc : Nat} {lv st : List Value} {n : Nat} {M : zk_MI} {L : zk_ML} {P : zk_MP}
theorem zk_s_iald (C : zk_Cx G ow ct F d n0 n1 p R s m args meth c) {i : Int32} {q : Nat} (hd : decode F.2.1 pc = .ok (.iaload, 1)) (hok : zk_ok n q 20) (hin : vp_in i (zk_lay q).2)
    (h : zk_Z G F n0 n1 p e R s m args below meth c Q (pc + 1) lv (.int (M q i.toNatClampNeg) :: st) n M L P) : zk_Z G F n0 n1 p e R s m args below meth c Q pc lv (.int i :: .ref q :: st) n M L P := by
  obtain ⟨hx, hb, hml, hown, hts, hE, -⟩ := C
  intro h0 h1 H locs ls hR hS hl
  exact va_iald hx hb hE.1 hR q 0 (by rw [zk_ws_get hok.1, zk_cell_i hok.2]) rfl hin hd (h h0 h1 H locs ls hR hS hl)
theorem zk_s_cald (C : zk_Cx G ow ct F d n0 n1 p R s m args meth c) {i : Int32} {q : Nat} (hd : decode F.2.1 pc = .ok (.caload, 1)) (hok : zk_ok n q 22) (hin : vp_in i (zk_lay q).2)
    (h : zk_Z G F n0 n1 p e R s m args below meth c Q (pc + 1) lv (.int (M q i.toNatClampNeg) :: st) n M L P) : zk_Z G F n0 n1 p e R s m args below meth c Q pc lv (.int i :: .ref q :: st) n M L P := by
  obtain ⟨hx, hb, hml, hown, hts, hE, -⟩ := C
  intro h0 h1 H locs ls hR hS hl
  exact va_cald hx hb hE.1 hR q 2 (by rw [zk_ws_get hok.1, zk_cell_c hok.2]) rfl hin hd (h h0 h1 H locs ls hR hS hl)
theorem zk_s_lald (C : zk_Cx G ow ct F d n0 n1 p R s m args meth c) {i : Int32} {q : Nat} (hd : decode F.2.1 pc = .ok (.laload, 1)) (hok : zk_ok n q 21) (hin : vp_in i (zk_lay q).2)
    (h : zk_Z G F n0 n1 p e R s m args below meth c Q (pc + 1) lv (.long (L q i.toNatClampNeg) :: st) n M L P) : zk_Z G F n0 n1 p e R s m args below meth c Q pc lv (.int i :: .ref q :: st) n M L P := by
  obtain ⟨hx, hb, hml, hown, hts, hE, -⟩ := C
  intro h0 h1 H locs ls hR hS hl
  exact va_lald hx hb hE.1 hR q 1 (by rw [zk_ws_get hok.1, zk_cell_l hok.2]) rfl hin hd (h h0 h1 H locs ls hR hS hl)
theorem zk_s_aald (C : zk_Cx G ow ct F d n0 n1 p R s m args meth c) {i : Int32} {q : Nat} (hd : decode F.2.1 pc = .ok (.aaload, 1)) (hok : zk_ok n q 23) (hin : vp_in i (zk_lay q).2)
    (h : zk_Z G F n0 n1 p e R s m args below meth c Q (pc + 1) lv (zk_rv (P q i.toNatClampNeg) :: st) n M L P) : zk_Z G F n0 n1 p e R s m args below meth c Q pc lv (.int i :: .ref q :: st) n M L P := by
  obtain ⟨hx, hb, hml, hown, hts, hE, -⟩ := C
  intro h0 h1 H locs ls hR hS hl
  have h2 := h h0 h1 H locs ls hR hS hl
  simp only [List.map_cons, zk_rv_ad] at h2
  exact va_aldq (C := RX3) hx hb hE.1 hR q 3 (by rw [zk_ws_get hok.1, zk_cell_q hok.2]) rfl hin hd h2
theorem zk_s_iast (C : zk_Cx G ow ct F d n0 n1 p R s m args meth c) {i x : Int32} {q : Nat} (hd : decode F.2.1 pc = .ok (.iastore, 1)) (hok : zk_ok n q 20) (hin : vp_in i (zk_lay q).2)
    (h : zk_Z G F n0 n1 p e R s m args below meth c Q (pc + 1) lv st n (zk_up M q i.toNatClampNeg x) L P) : zk_Z G F n0 n1 p e R s m args below meth c Q pc lv (.int x :: .int i :: .ref q :: st) n M L P := by
  obtain ⟨hx, hb, hml, hown, hts, hE, -⟩ := C
  intro h0 h1 H locs ls hR hS hl
  refine va_iast (A := fun q => G.2.2.2.1 ≤ q) hx hb hE.1 hR zk_D hS q 0 (by rw [zk_ws_get hok.1, zk_cell_i hok.2]) rfl hin hd (fun H1 l1 a1 a2 a3 => ?_)
  rw [zk_ws_set (M' := zk_up M q i.toNatClampNeg x) (L' := L) (P' := P) (by rw [zk_cell_i hok.2, zk_up_self]) (fun z hz => zk_cell_M (zk_up_row hz) rfl rfl)] at a1
  exact h h0 h1 H1 l1 ls a1 a3 hl
theorem zk_s_cast (C : zk_Cx G ow ct F d n0 n1 p R s m args meth c) {i x : Int32} {q : Nat} (hd : decode F.2.1 pc = .ok (.castore, 1)) (hok : zk_ok n q 22) (hin : vp_in i (zk_lay q).2)
    (h : zk_Z G F n0 n1 p e R s m args below meth c Q (pc + 1) lv st n (zk_up M q i.toNatClampNeg (vp_nar .char x)) L P) : zk_Z G F n0 n1 p e R s m args below meth c Q pc lv (.int x :: .int i :: .ref q :: st) n M L P := by
  obtain ⟨hx, hb, hml, hown, hts, hE, -⟩ := C
  intro h0 h1 H locs ls hR hS hl
  refine va_cast (A := fun q => G.2.2.2.1 ≤ q) hx hb hE.1 hR zk_D hS q 2 (by rw [zk_ws_get hok.1, zk_cell_c hok.2]) rfl hin hd (fun H1 l1 a1 a2 a3 => ?_)
  rw [zk_ws_set (M' := zk_up M q i.toNatClampNeg (vp_nar .char x)) (L' := L) (P' := P) (by rw [zk_cell_c hok.2, zk_up_self]) (fun z hz => zk_cell_M (zk_up_row hz) rfl rfl)] at a1
  exact h h0 h1 H1 l1 ls a1 a3 hl
theorem zk_s_last (C : zk_Cx G ow ct F d n0 n1 p R s m args meth c) {i : Int32} {x : Int64} {q : Nat} (hd : decode F.2.1 pc = .ok (.lastore, 1)) (hok : zk_ok n q 21) (hin : vp_in i (zk_lay q).2)
    (h : zk_Z G F n0 n1 p e R s m args below meth c Q (pc + 1) lv st n M (zk_up L q i.toNatClampNeg x) P) : zk_Z G F n0 n1 p e R s m args below meth c Q pc lv (.long x :: .int i :: .ref q :: st) n M L P := by
  obtain ⟨hx, hb, hml, hown, hts, hE, -⟩ := C
  intro h0 h1 H locs ls hR hS hl
  refine va_last (A := fun q => G.2.2.2.1 ≤ q) hx hb hE.1 hR zk_D hS q 1 (by rw [zk_ws_get hok.1, zk_cell_l hok.2]) rfl hin hd (fun H1 l1 a1 a2 a3 => ?_)
  rw [zk_ws_set (M' := M) (L' := zk_up L q i.toNatClampNeg x) (P' := P) (by rw [zk_cell_l hok.2, zk_up_selfL]) (fun z hz => zk_cell_M rfl (zk_up_row hz) rfl)] at a1
  exact h h0 h1 H1 l1 ls a1 a3 hl
theorem zk_s_aast (C : zk_Cx G ow ct F d n0 n1 p R s m args meth c) {i : Int32} {x q : Nat} (hd : decode F.2.1 pc = .ok (.aastore, 1)) (hok : zk_ok n q 23) (hx3 : zk_ok n x 3) (hin : vp_in i (zk_lay q).2)
    (h : zk_Z G F n0 n1 p e R s m args below meth c Q (pc + 1) lv st n M L (zk_up P q i.toNatClampNeg (some x))) : zk_Z G F n0 n1 p e R s m args below meth c Q pc lv (.ref x :: .int i :: .ref q :: st) n M L P := by
  obtain ⟨hx, hb, hml, hown, hts, hE, -⟩ := C
  intro h0 h1 H locs ls hR hS hl
  refine va_astq (A := fun q => G.2.2.2.1 ≤ q) (r := (RX3, TX3, 6)) hx hb hE.1 hR zk_D hS q 3 x 3 (by rw [zk_ws_get hok.1, zk_cell_q hok.2]) rfl (by rw [zk_ws_get hx3.1, zk_cell_o hx3.2 (by omega)]) rfl hin hd (fun H1 l1 a1 a2 a3 => ?_)
  rw [zk_ws_set (M' := M) (L' := L) (P' := zk_up P q i.toNatClampNeg (some x)) (by
    rw [zk_cell_q hok.2]
    have ef : va_up (fun i => (P q i).map (fun z => G.2.2.2.1 + z)) i.toNatClampNeg (some (G.2.2.2.1 + x)) = fun z => (zk_up P q i.toNatClampNeg (some x) q z).map (fun z => G.2.2.2.1 + z) := by
      funext z
      by_cases hz : z = i.toNatClampNeg
      · subst hz; simp [va_up, zk_up]
      · simp [va_up, zk_up, hz]
    rw [ef]) (fun z hz => zk_cell_M rfl rfl (zk_up_row hz))] at a1
  exact h h0 h1 H1 l1 ls a1 a3 hl
theorem zk_s_alen (C : zk_Cx G ow ct F d n0 n1 p R s m args meth c) {q : Nat} (hd : decode F.2.1 pc = .ok (.arraylength, 1)) (hq : q < n) (ha : 20 ≤ (zk_lay q).1) (hb2 : (zk_lay q).1 ≤ 23)
    (h : zk_Z G F n0 n1 p e R s m args below meth c Q (pc + 1) lv (.int (Int32.ofNat (zk_lay q).2) :: st) n M L P) : zk_Z G F n0 n1 p e R s m args below meth c Q pc lv (.ref q :: st) n M L P := by
  obtain ⟨hx, hb, hml, hown, hts, hE, -⟩ := C
  intro h0 h1 H locs ls hR hS hl
  have h2 := h h0 h1 H locs ls hR hS hl
  rcases (show (zk_lay q).1 = 20 ∨ (zk_lay q).1 = 21 ∨ (zk_lay q).1 = 22 ∨ (zk_lay q).1 = 23 by omega) with z | z | z | z
  · exact va_alen (cA := G.2.2.1 0) (x := ((zk_lay q).2, .inl (M q))) hx hb hE.1 hR q 0 (by rw [zk_ws_get hq, zk_cell_i z]) (ty := .int) rfl rfl hd h2
  · exact va_alen (cA := G.2.2.1 1) (x := ((zk_lay q).2, .inr (.inl (L q)))) hx hb hE.1 hR q 1 (by rw [zk_ws_get hq, zk_cell_l z]) (ty := .long) rfl rfl hd h2
  · exact va_alen (cA := G.2.2.1 2) (x := ((zk_lay q).2, .inl (M q))) hx hb hE.1 hR q 2 (by rw [zk_ws_get hq, zk_cell_c z]) (ty := .char) rfl rfl hd h2
  · exact va_alen (cA := G.2.2.1 3) (x := ((zk_lay q).2, .inr (.inr (.inr (.inr (fun i => (P q i).map (fun z => G.2.2.2.1 + z))))))) hx hb hE.1 hR q 3 (by rw [zk_ws_get hq, zk_cell_q z]) (ty := .object RX3) rfl rfl hd h2
theorem zk_row_self {α : Type} {M : Nat → Nat → α} {p : Nat} {f : Nat → α} : zk_row M p f p = f := by simp [zk_row]
theorem zk_row_ne {α : Type} {M : Nat → Nat → α} {p q : Nat} {f : Nat → α} (h : q ≠ p) : zk_row M p f q = M q := by simp [zk_row, h]
theorem zk_s_copy (C : zk_Cx G ow ct F d n0 n1 p R s m args meth c) {k dp sp : Int32} {a q idx : Nat} (hd : decode F.2.1 pc = .ok (.invokestatic idx, 3)) (hlk : (ow, idx) ∈ zk_al) (hd1 : 1 ≤ d) (hst : (st.map Value.category).sum ≤ 8) (ha : zk_ok n a 20) (hq : zk_ok n q 20) (g1 : ¬ sp < 0) (g2 : ¬ dp < 0) (g3 : ¬ k < 0) (g4 : sp.toNatClampNeg + k.toNatClampNeg ≤ (zk_lay a).2) (g5 : dp.toNatClampNeg + k.toNatClampNeg ≤ (zk_lay q).2)
    (h : zk_Z G F n0 n1 p e R s m args below meth c Q (pc + 3) lv st n (zk_cpy M a q sp.toNatClampNeg dp.toNatClampNeg k.toNatClampNeg) L P) : zk_Z G F n0 n1 p e R s m args below meth c Q pc lv (.int k :: .int dp :: .ref q :: .int sp :: .ref a :: st) n M L P := by
  obtain ⟨hx, hb, hml, hown, hts, hE, hsz, hfr, hlo, -⟩ := C
  intro h0 h1 H locs ls hR hS hl
  refine va_copyi (A := fun q => G.2.2.2.1 ≤ q) (ty := .int) hx hb (by rw [hml, hl.1]) hown (hts _ (zk_al_ok _ hlk)) (hts _ zk_ac.1) (hts _ zk_ac.2.1) (hts _ zk_ac.2.2) hE.1 hR zk_D hS a q 0 0 (by rw [zk_ws_get ha.1, zk_cell_i ha.2]) (by rw [zk_ws_get hq.1, zk_cell_i hq.2]) rfl rfl rfl g1 g2 g3 g4 g5 (fun _ _ => rfl) (by omega) ?_ hd (fun H1 l1 a1 a2 a3 => ?_)
  · have e1 : nativeFrameWords "java/lang/System" "arraycopy" 5 ≤ 40 := by decide +kernel
    have e2 : ((st.map (zk_ad G.2.2.2.1 G.2.2.2.2)).map fun v => v.category).sum = (st.map Value.category).sum := by
      rw [List.map_map]; congr 1; apply List.map_congr_left; intro v _; exact zk_ad_cat _ _ v
    rw [e2]
    omega
  · rw [zk_ws_set (M' := zk_cpy M a q sp.toNatClampNeg dp.toNatClampNeg k.toNatClampNeg) (L' := L) (P' := P) (by rw [zk_cell_i hq.2]; simp only [zk_cpy, zk_row_self]) (fun z hz => zk_cell_M (zk_row_ne hz) rfl rfl)] at a1
    exact h h0 h1 H1 l1 ls a1 a3 hl
end SN2
