/-! ===== new cells, calls, returns ===== -/
section SN3
variable {G : zk_G} {ow : Nat} {ct : Bool} {F : zk_F} {d n0 n1 : Nat} {p : Program} {e : Env} {R : Room} {s : State} {m : MethodId} {args : Array Value} {below : List Frame} {meth : Method} {c : Code} {Q : State → Prop}
variable {pc : Nat} {lv st : List Value} {n : Nat} {M : zk_MI} {L : zk_ML} {P : zk_MP}
theorem zk_Rep_push {M' : zk_MI} {L' : zk_ML} {P' : zk_MP} {H H' : Heap} (hR : zk_Rep G n M L P H) (hsz : H.size = G.2.2.2.1 + n) (ho : ∀ q, q < n → zk_cell G.2.2.1 G.2.2.2.1 M' L' P' q = zk_cell G.2.2.1 G.2.2.2.1 M L P q) (hk : ∀ q, q < H.size → H'[q]? = H[q]?) (hn : va_at G.2.1 zk_cl (G.2.2.2.1 + n, zk_cell G.2.2.1 G.2.2.2.1 M' L' P' n) H') : zk_Rep G (n + 1) M' L' P' H' := by
  intro k q hq
  obtain ⟨h1, h2⟩ := zk_ws_at hq
  subst h2
  rcases Nat.lt_or_ge k n with z | z
  · rw [ho k z]
    exact (hR k _ (zk_ws_get z)).kept (hk _ (by omega))
  · rw [show k = n by omega]
    exact hn
theorem zk_S_push {A : Nat → Prop} {H0 H H' : Heap} {locs : List Loc} (hS : va_S A H0 H locs) (hz : H'.size = H.size + 1) (hk : ∀ q, q < H.size → H'[q]? = H[q]?) : va_S A H0 H' locs :=
  ⟨Nat.le_trans hS.1 (by omega), fun x h1 h2 => (hk x (Nat.lt_of_lt_of_le h1 hS.1)).trans (hS.2.1 x h1 h2), hS.2.2⟩
theorem zk_s_newa (C : zk_Cx G ow ct F d n0 n1 p R s m args meth c) {x : Int32} {t : ArrayType} {cd : Nat} (hd : decode F.2.1 pc = .ok (.newarray t, 2)) (ht : (t = .int ∧ cd = 20) ∨ (t = .long ∧ cd = 21) ∨ (t = .char ∧ cd = 22)) (hn1 : n + 1 ≤ n1) (hxn : ¬ x < 0) (hlay : zk_lay n = (cd, x.toNatClampNeg)) (hbig : x.toNatClampNeg ≤ 60000)
    (h : zk_Z G F n0 n1 p e R s m args below meth c Q (pc + 2) lv (.ref n :: st) (n + 1) (zk_row M n (fun _ => 0)) (zk_row L n (fun _ => 0)) P) : zk_Z G F n0 n1 p e R s m args below meth c Q pc lv (.int x :: st) n M L P := by
  have C0 := C
  obtain ⟨hx, hb, hml, hown, hts, hE, hs0, -, -, hRc, hRs, -⟩ := C
  intro h0 h1 H locs ls hR hS hl
  refine zk_sized C0 h0 hR hS (fun hsz => ?_)
  have hsz2 : zk_sl (n + 1) = zk_sl n + x.toNatClampNeg := by
    simp only [zk_sl, zk_sz, hlay]
    rw [if_neg (by rcases ht with ⟨-, z⟩ | ⟨-, z⟩ | ⟨-, z⟩ <;> omega)]
  have hm0 := zk_sl_mono h0
  have hm1 := zk_sl_mono hn1
  have harr : (Cond.arrayClass (newarray.typeOf t)).before args s = true := by
    rcases ht with ⟨rfl, -⟩ | ⟨rfl, -⟩ | ⟨rfl, -⟩
    · exact hts _ zk_arr.1
    · exact hts _ zk_arr.2.1
    · exact hts _ zk_arr.2.2
  have hby : x.toNatClampNeg * componentBytes (newarray.typeOf t) ≤ 536870912 := by
    rcases ht with ⟨rfl, -⟩ | ⟨rfl, -⟩ | ⟨rfl, -⟩ <;> simp only [newarray.typeOf, componentBytes] <;> omega
  refine va_newaK hx hb harr rfl hd rfl hxn rfl hby (by omega) (by omega) hsz (fun H' cA e1 z1 o1 hAr hNm => ?_)
  have h2 := h (by omega) hn1 H' locs ls (zk_Rep_push hR hsz (fun q hq => zk_cell_M (zk_row_ne (by omega)) (zk_row_ne (by omega)) rfl) (fun q hq => o1 q (by omega)) ?_) (zk_S_push hS (by omega) (fun q hq => o1 q (by omega))) hl
  · rw [show n + 1 - n0 = n - n0 + 1 by omega, show zk_sl (n + 1) - zk_sl n0 = zk_sl n - zk_sl n0 + x.toNatClampNeg by omega] at h2
    exact h2
  · rcases ht with ⟨rfl, rfl⟩ | ⟨rfl, rfl⟩ | ⟨rfl, rfl⟩
    · have hc : cA = G.2.2.1 0 := Option.some.inj (hNm.symm.trans (hE.1.2 0 _ rfl).2)
      rw [zk_cell_i (by rw [hlay])]
      show H'[_]? = some (vp_cell _ _)
      rw [vp_cell_i, e1, hc, hlay]
      simp only [zk_row_self]
      rfl
    · have hc : cA = G.2.2.1 1 := Option.some.inj (hNm.symm.trans (hE.1.2 1 _ rfl).2)
      rw [zk_cell_l (by rw [hlay])]
      show H'[_]? = some (vp_cell _ _)
      rw [vp_cell_l, e1, hc, hlay]
      simp only [zk_row_self]
      rfl
    · have hc : cA = G.2.2.1 2 := Option.some.inj (hNm.symm.trans (hE.1.2 2 _ rfl).2)
      rw [zk_cell_c (by rw [hlay])]
      show H'[_]? = some (vp_cell _ _)
      rw [vp_cell_i, e1, hc, hlay]
      simp only [zk_row_self]
      rfl
theorem zk_s_newq (C : zk_Cx G ow ct F d n0 n1 p R s m args meth c) {x : Int32} {idx : Nat} (hd : decode F.2.1 pc = .ok (.anewarray idx, 3)) (hlk : (ow, idx, 3) ∈ zk_kl) (hn1 : n + 1 ≤ n1) (hxn : ¬ x < 0) (hlay : zk_lay n = (23, x.toNatClampNeg)) (hbig : x.toNatClampNeg ≤ 60000)
    (h : zk_Z G F n0 n1 p e R s m args below meth c Q (pc + 3) lv (.ref n :: st) (n + 1) M L (zk_row P n (fun _ => none))) : zk_Z G F n0 n1 p e R s m args below meth c Q pc lv (.int x :: st) n M L P := by
  have C0 := C
  obtain ⟨hx, hb, hml, hown, hts, hE, hs0, -, -, hRc, hRs, -⟩ := C
  intro h0 h1 H locs ls hR hS hl
  refine zk_sized C0 h0 hR hS (fun hsz => ?_)
  have hsz2 : zk_sl (n + 1) = zk_sl n + x.toNatClampNeg := by
    simp only [zk_sl, zk_sz, hlay]
    rw [if_neg (by omega)]
  have hm0 := zk_sl_mono h0
  have hm1 := zk_sl_mono hn1
  refine W.anew (C := RX3) hx hb hown (hts _ (zk_kl_ok _ hlk)) (va_AO.use hE.2.2.1) rfl hd rfl hxn (by omega) (by omega) (by omega) (fun cA kA comp f1 f2 f3 f4 => ?_)
  have o1 : ∀ q, q < H.size → (H.push ({ cls := cA, slots := Array.replicate x.toNatClampNeg .null, vm := .none } : Cell))[q]? = H[q]? := fun q hq => by rw [Array.getElem?_push, if_neg (Nat.ne_of_lt hq)]
  have h2 := h (by omega) hn1 _ locs ls (zk_Rep_push hR hsz (fun q hq => zk_cell_M rfl rfl (zk_row_ne (by omega))) o1 ?_) (zk_S_push hS (by rw [Array.size_push]) o1) hl
  · rw [show n + 1 - n0 = n - n0 + 1 by omega, show zk_sl (n + 1) - zk_sl n0 = zk_sl n - zk_sl n0 + x.toNatClampNeg by omega] at h2
    rw [hsz]
    exact h2
  · have hc : cA = G.2.2.1 3 := by
      obtain ⟨kA', comp', g1, g2, g3, g4⟩ := (hE.1.2 3 _ rfl).2
      exact Option.some.inj (f1.symm.trans g4)
    rw [zk_cell_q (by rw [hlay])]
    show (H.push _)[_]? = some (vp_cell _ _)
    rw [vp_cell_q, hlay]
    simp only [zk_row_self]
    rw [← hsz, Array.getElem?_push_size, ← arrV_new, hc]
    rfl
theorem zk_ft_le : ∀ ci, ci < 13 → ∀ k, k < zk_N ci → zk_ft ci k ≤ 3 := by decide +kernel
theorem zk_s_new (C : zk_Cx G ow ct F d n0 n1 p R s m args meth c) {idx ci : Nat} (hd : decode F.2.1 pc = .ok (.new idx, 3)) (hc : ci < 13) (hlk : (ow, idx, ci) ∈ zk_kl) (hn1 : n + 1 ≤ n1) (hlay : (zk_lay n).1 = ci)
    (h : zk_Z G F n0 n1 p e R s m args below meth c Q (pc + 3) lv (.ref n :: st) (n + 1) (zk_row M n (fun _ => 0)) (zk_row L n (fun _ => 0)) (zk_row P n (fun _ => none))) : zk_Z G F n0 n1 p e R s m args below meth c Q pc lv st n M L P := by
  have C0 := C
  obtain ⟨hx, hb, hml, hown, hts, hE, hs0, -, -, hRc, hRs, -⟩ := C
  intro h0 h1 H locs ls hR hS hl
  refine zk_sized C0 h0 hR hS (fun hsz => ?_)
  have hsz2 : zk_sl (n + 1) = zk_sl n + zk_N ci := by
    simp only [zk_sl, zk_sz, hlay]
    rw [if_pos (by omega)]
  have hm0 := zk_sl_mono h0
  have hm1 := zk_sl_mono hn1
  have hnl : ∀ k, k < 13 → k ∈ zk_nl := by decide +kernel
  have hKn := hE.1.1 ci _ (zk_cl_get ci hc)
  refine W.newcK hx hb hown (hts _ (zk_kl_ok _ hlk)) (hts _ (zk_nl_ok ci (hnl ci hc)).1) (hts _ (zk_nl_ok ci (hnl ci hc)).2) rfl hd (by omega) (by omega) hKn.2.1 hsz (fun H' kC hkC e1 z1 o1 => ?_)
  have h2 := h (by omega) hn1 H' locs ls (zk_Rep_push hR hsz (fun q hq => zk_cell_M (zk_row_ne (by omega)) (zk_row_ne (by omega)) (zk_row_ne (by omega))) (fun q hq => o1 q (by omega)) ?_) (zk_S_push hS (by omega) (fun q hq => o1 q (by omega))) hl
  · rw [show n + 1 - n0 = n - n0 + 1 by omega, show zk_sl (n + 1) - zk_sl n0 = zk_sl n - zk_sl n0 + zk_N ci by omega] at h2
    exact h2
  · rw [zk_cell_o hlay (by omega)]
    refine ⟨_, zk_cl_get ci hc, (u_born (zk_ty ci) hts (zk_lays_in ci hc) hKn hkC e1 (zk_ty_ok ci hc)).to (fun j hj => ?_)⟩
    have ht := zk_tc_ok ci hc j hj
    have hle := zk_ft_le ci hc j hj
    have e9 : vp_V ((List.range (zk_N ci)).map (fun k => zk_fv G.2.2.2.1 (zk_row M n (fun _ => 0)) (zk_row L n (fun _ => 0)) (zk_row P n (fun _ => none)) ci n k)) j = zk_fv G.2.2.2.1 (zk_row M n (fun _ => 0)) (zk_row L n (fun _ => 0)) (zk_row P n (fun _ => none)) ci n j := by
      simp only [vp_V, List.getD_eq_getElem?_getD]
      rw [zk_fs_get hj]
      rfl
    rw [e9]
    unfold zk_fv
    rw [← ht] at hle ⊢
    cases hq : zk_ty ci j <;> rw [hq] at hle <;> simp [zk_tcode, defaultValue, zk_row_self, va_rf] at hle ⊢
end SN3
