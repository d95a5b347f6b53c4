/-! ===== each call, both sides ===== -/
section JCA
variable {G : zk_G} {n : Nat} {M M' : zk_MI} {L L' : zk_ML} {P P' : zk_MP} {D : vs_D} {s s' : sp_S} {pl pl' : List sp_S} {f : Nat → Nat} {T y k : Nat}
theorem jB (hx : jX n M P D s pl f T y k) : ∃ v, v ≤ 64 ∧ zxB n M P v D.1 s ∧ zn_A M v D := by
  obtain ⟨-, -, -, ⟨v, v', hv, hB, -, -, hA, -⟩, -⟩ := hx
  exact ⟨v, by omega, hB, hA⟩
theorem jget {g h : Nat → Int32} {k : Nat} {x : Int32} (e : ∀ i, i < k → g i = h i) : sp_get g k x = sp_get h k x := by
  unfold sp_get
  split
  · rename_i z
    exact e _ (by omega)
  · rfl
theorem jby (x : Int32) (i : Nat) : sp_by x i = nI (sp_by x i).toInt.toNat ∧ (sp_by x i).toInt.toNat ≤ 255 := by
  obtain ⟨b, hb, e⟩ := sp_by_r x i
  rw [e, nI_toInt (by omega)]
  exact ⟨rfl, by omega⟩
theorem zx_past_P (h : zx_past n M P pl) (hP : ∀ q, q = 46 ∨ 154 ≤ q → P' q = P q) : zx_past n M P' pl := by
  obtain ⟨a, pf, h1, h2, h3, h4, h5, h6, h7, h8, h9, h10⟩ := h
  exact ⟨a, pf, h1, h2, h3, h4, h5, h6, h7, fun k hk => by rw [hP 46 (Or.inl rfl)]; exact h8 k hk, fun k hk => zm_ok_mono (h9 k hk) (Nat.le_refl _) (hP _ (Or.inr (by omega))), h10⟩
theorem zx_past_nil (h : zx_past n M P pl) (h12 : M' 0 12 = M 0 12) (h13 : M' 0 13 = 0) : zx_past n M' P [] := by
  obtain ⟨a, pf, h1, h2, h3, h4, h5, h6, h7, h8, h9, h10⟩ := h
  exact ⟨a, pf, h1, h2, h3, h4, Nat.zero_le _, h12.trans h6, by rw [h13]; rfl, h8, h9, fun i s h => by simp at h⟩
theorem zq_past_nil {V V' : sp_V} (h : zq_past M V pl) (h70 : M' 79 70 = 0) (h71 : M' 79 71 = M 79 71) : zq_past M' V' [] := by
  obtain ⟨-, -, nw, h3, h4, -⟩ := h
  exact ⟨by rw [h70]; rfl, Nat.zero_le _, nw, h3, h71.trans h4, fun i s h => by simp at h⟩
theorem jP_T (hp : jP D s pl f T y k) : jP D s pl f 0 y k := ⟨hp.1, hp.2.1, hp.2.2.1, hp.2.2.2.1, Nat.zero_le _, fun i hi => absurd hi (Nat.not_lt_zero _), hp.2.2.2.2.2.2.1, hp.2.2.2.2.2.2.2⟩
theorem jT0 (h : M' 5 1 = 0) : zt_c M' f 0 := ⟨by rw [h]; rfl, Nat.zero_le _, fun i hi => absurd hi (Nat.not_lt_zero _)⟩
theorem jE_two {i : Nat} (h : jE M k) (h0 : M' 0 15 = M 0 15 ∧ M' 0 16 = M 0 16 ∧ M' 79 7 = M 79 7 ∧ M' 79 8 = M 79 8) (a : M' 48 i = M 48 i + 1) (b : M' 81 i = M 81 i + 1) (c : ∀ j, j ≠ i → M' 48 j = M 48 j) (d : ∀ j, j ≠ i → M' 81 j = M 81 j) (e : M' 47 = M 47) (g : M' 153 = M 153) : jE M' k := by
  obtain ⟨h1, h2, h3, h4⟩ := h
  obtain ⟨z1, z2, z3, z4⟩ := h0
  refine ⟨by rw [z1, z3]; exact h1, by rw [z2, z4]; exact h2, fun j hj => ?_, fun i hi => by rw [e, g]; exact h4 i hi⟩
  by_cases q : j = i
  · subst q
    rw [a, b, h3 j hj]
  · rw [c j q, d j q]
    exact h3 j hj
theorem jM_c (h : jM M L D s pl f T y k) (hw : ∀ q, sp_wq q → M' q = M q) (hV : zq_V M' D.1) (h126 : M' 126 = M 126) (h130 : M' 130 = M 130) (h67 : M' 79 67 = M 79 67) (h70 : M' 79 70 = M 79 70) (h71 : M' 79 71 = M 79 71) (h105 : M' 79 105 = M 79 105) (hL : ∀ i, 30 ≤ i → L' 113 i = L 113 i) (hy : L' 79 72 = L 79 72) (h1 : M' 79 1 = 0) : jM M' L' D s pl f 0 y k := by
  obtain ⟨a1, a2, a3, a4, a5, a6, a7, a8⟩ := h
  exact ⟨fun q hq k hk => by rw [hw q hq]; exact a1 q hq k hk, ⟨hV, by rw [h126]; exact a2.2.1, by rw [h67]; exact a2.2.2⟩, fun k i hk hi => by rw [hL _ (by omega)]; exact a3 k i hk hi, zq_past_cg a4 h130 h70 h71, by rw [h1]; rfl, fun i hi => absurd hi (Nat.not_lt_zero _), by rw [hy]; exact a7, by rw [h105]; exact a8⟩
/-- the tape emptied by both -/
theorem jX_e (hx : jX n M P D s pl f T y k) : jX n (zk_up M 5 1 0) P D s pl f 0 y k := jX_tape hx (by rw [zk_up_at]; rfl) (Nat.zero_le _) (fun i hi => absurd hi (Nat.not_lt_zero _)) (fun q q1 _ => zk_up_row q1)
theorem jM_e5 (hm : jM M L D s pl f T y k) : jM (zk_up M 5 1 0) L D s pl f T y k := jM_fr hm (fun q q1 q2 => ⟨zk_up_row (by omega), rfl⟩)
theorem jM_e (hm : jM M L D s pl f T y k) : jM (zk_up M 79 1 0) L D s pl f 0 y k := jM_tape hm (by rw [zk_up_at]; rfl) (fun i hi => absurd hi (Nat.not_lt_zero _)) (fun j hj => zk_up_ne (by omega)) (fun q q1 _ => zk_up_row q1)
theorem JI_e (hp : jP D s pl f T y k) (hx : jX n M P D s pl f T y k) (hm : jM M L D s pl f T y k) (he : jE M k) : JI n (zk_up (zk_up M 5 1 0) 79 1 0) L P :=
  ⟨D, s, pl, f, 0, y, k, jP_T hp, jX_fr (jX_e hx) (fun q hq => zk_up_row (by omega)), jM_e (jM_e5 hm), jE_q he ⟨by simp [zk_up], by simp [zk_up], by simp [zk_up], by simp [zk_up]⟩ (fun q hq => by rw [zk_up_row (by omega), zk_up_row (by omega)])⟩
theorem JI_er (hp : jP D s pl f T y k) (hx : jX n M P D s pl f T y k) (hm : jM M L D s pl f T y k) (he : jE M k) {i : Nat} {M1 : zk_MI} (e1 : M1 = zk_up (zk_up M 5 1 0) 48 i (M 48 i + 1)) : JI n (zk_up (zk_up M1 79 1 0) 81 i (M1 81 i + 1)) L P := by
  have hx1 : jX n M1 P D s pl f 0 y k := by rw [e1]; exact jX_ref (jX_e hx) (Or.inl rfl)
  have hm1 : jM M1 L D s pl f T y k := by rw [e1]; exact jM_ref (jM_e5 hm) (Or.inl rfl)
  refine ⟨D, s, pl, f, 0, y, k, jP_T hp, jX_ref (jX_fr hx1 (M' := zk_up M1 79 1 0) (fun q hq => zk_up_row (by omega))) (Or.inr rfl), jM_ref (jM_e hm1) (Or.inr rfl), jE_two he (i := i) ?_ ?_ ?_ ?_ ?_ ?_ ?_⟩
  · subst e1; exact ⟨by simp [zk_up], by simp [zk_up], by simp [zk_up], by simp [zk_up]⟩
  · subst e1; simp [zk_up]
  · subst e1; simp [zk_up]
  · intro j hj; subst e1; simp [zk_up, hj]
  · intro j hj; subst e1; simp [zk_up, hj]
  · subst e1; funext j; simp [zk_up]
  · subst e1; funext j; simp [zk_up]
theorem zpr_act {d1 d2 n2 yc ym i : Nat} {avc avm : List Value} {x0 : Int32} (o : Option (sp_S × Int32 × Nat)) (hp : jP D s pl f T y k) (hx : jX n M P D s pl f T y k) (hm : jM M L D s pl f T y k) (he : jE M k) (hi : i < 6) (hn2 : n2 ≤ 274)
    (hc : zk_C G d1 yc avc n M L P n2 (fun r M' L' P' => (o = none → r = some (.int x0) ∧ M' = zk_up M 48 i (M 48 i + 1) ∧ L' = L ∧ P' = P ∧ n2 = n) ∧ ∀ s' u y', o = some (s', u, y') → r = some (.int u) ∧ zm_rep M' 40 s' ∧ zk_mach M' ∧ zx_past n2 M' P' (sp_keepL s pl) ∧ zxA n n2 M M' L L' P P' ∧ M' 0 17 = nI y'))
    (hmm : ∀ n1 M1 L1 P1, 154 ≤ n1 → zs_M P1 → zqB M1 D.1 s → zq_past M1 D.1 pl → L1 79 72 = lI y → zk_C G d2 ym avm n1 M1 L1 P1 n1 (fun r M' L' P' => P' = P1 ∧ (o = none → r = some (.int x0) ∧ M' = zk_up M1 81 i (M1 81 i + 1) ∧ L' = L1) ∧ ∀ s' u y', o = some (s', u, y') → r = some (.int u) ∧ zq_S (M' 126) D.1 s' ∧ zq_past M' D.1 (sp_keepL s pl) ∧ (∀ q, q ≠ 79 → q ≠ 125 → q ≠ 126 → q ≠ 128 → q ≠ 130 → M' q = M1 q) ∧ (∀ j, j ≠ 60 → j ≠ 65 → j ≠ 66 → j ≠ 70 → j ≠ 71 → j ≠ 73 → M' 79 j = M1 79 j) ∧ L' 113 = L1 113 ∧ L' 79 72 = lI y'))
    (hok : ∀ s' u y', o = some (s', u, y') → sp_sok D.1 s' ∧ sDay s' ≤ 9999 ∧ y' < 2147483648) (h1 : d1 ≤ 45) (h2 : d2 ≤ 45) : zpr G n M L P yc avc ym avm := by
  refine ⟨d1, d2, n2, h1, h2, hn2, hc.post (fun r M1 L1 P1 h => ?_)⟩
  clear hc
  rcases o with _ | ⟨s', u, y'⟩
  · obtain ⟨e1, e2, e3, e4, e5⟩ := h.1 rfl
    subst e1 e2 e3 e4 e5
    have hm1 := jM_ref (q := 48) (i := i) (z := M 48 i + 1) hm (Or.inl rfl)
    refine ⟨x0, rfl, (hmm _ _ _ _ hx.1 hx.2.2.1 hm1.2.1 hm1.2.2.2.1 hm1.2.2.2.2.2.2.1).post (fun r2 M2 L2 P2 g => ?_)⟩
    obtain ⟨g0, g, -⟩ := g
    obtain ⟨g1, g2, g3⟩ := g rfl
    subst g0 g1 g2 g3
    exact ⟨rfl, JI_ref hp hx hm he hi⟩
  · obtain ⟨e1, a1, a2, a3, a4, a5⟩ := h.2 _ _ _ rfl
    subst e1
    have hx1 := jX_act hx a4 a1 a2 a3 a5
    have hm1 : jM M1 L1 D s pl f T y k := jM_fr hm (fun q q1 q2 => ⟨a4.2.2.1 q q2 (by omega) (by omega) (by omega) (by omega) (by omega) (by omega), a4.2.2.2.2.1 q q2⟩)
    have he1 : jE M1 k := jE_X he ⟨a4.2.2.2.1 15 (by omega) (by omega) (by omega), a4.2.2.2.1 16 (by omega) (by omega) (by omega)⟩ (fun q hq => a4.2.2.1 q (by omega) (by omega) (by omega) (by omega) (by omega) (by omega) (by omega))
    refine ⟨u, rfl, (hmm _ _ _ _ hx1.1 hx1.2.2.1 hm1.2.1 hm1.2.2.2.1 hm1.2.2.2.2.2.2.1).post (fun r2 M2 L2 P2 g => ?_)⟩
    obtain ⟨g0, -, g⟩ := g
    obtain ⟨g1, b1, b2, b3, b4, b5, b6⟩ := g _ _ _ rfl
    subst g0 g1
    obtain ⟨o1, o2, o3⟩ := hok _ _ _ rfl
    exact ⟨rfl, D, s', sp_keepL s pl, f, T, y', k, ⟨hp.1, o1, o2, jo_keep ⟨hp.2.1, hp.2.2.1⟩ hp.2.2.2.1, hp.2.2.2.2.1, hp.2.2.2.2.2.1, o3, hp.2.2.2.2.2.2.2⟩, jX_fr hx1 (fun q hq => b3 q (by omega) (by omega) (by omega) (by omega) (by omega)), jM_act hm1 b3 b4 b5 b1 b2 b6, jE_act he1 b3 b4⟩
theorem zj_fault (h : JI n M L P) (x1 : Int32) : zpr G n M L P 117 [.ref 0, .int x1] 200 [.ref 79, .int x1] := by
  obtain ⟨D, s, pl, f, T, y, k, hp, hx, hm, he⟩ := id h
  obtain ⟨v, hv, hB, hA⟩ := jB hx
  have h2 := cm_fault (G := G) (M := M) (L := L) hx.1 hx.2.2.1 x1
  rw [he.1, he.2.1] at h2
  exact zpr_same h (ct_fault hx.1 hx.2.1 x1) h2 (by decide) (by decide)
theorem zj_status (h : JI n M L P) (x1 : Int32) : zpr G n M L P 145 [.ref 0, .int x1] 314 [.ref 79, .int x1] := by
  obtain ⟨D, s, pl, f, T, y, k, hp, hx, hm, he⟩ := id h
  obtain ⟨v, hv, hB, hA⟩ := jB hx
  have h2 := cm_status (G := G) (M := M) (L := L) hx.1 hx.2.2.1 x1
  rw [jget he.2.2.1] at h2
  exact zpr_same h (ct_status hx.1 hx.2.1 x1) h2 (by decide) (by decide)
theorem zj_octet (h : JI n M L P) (x1 : Int32) : zpr G n M L P 143 [.ref 0, .int x1] 309 [.ref 79, .int x1] := by
  obtain ⟨D, s, pl, f, T, y, k, hp, hx, hm, he⟩ := id h
  obtain ⟨v, hv, hB, hA⟩ := jB hx
  have h2 := cm_octet (G := G) (M := M) (L := L) hx.1 hx.2.2.1 hp.2.2.2.2.2.2.2 hm.2.2.2.2.2.2.2 x1
  rw [jget he.2.2.2] at h2
  exact zpr_same h (ct_octet hx.1 hx.2.1 hp.2.2.2.2.2.2.2 hx.2.2.2.2.2.2.2 x1) h2 (by decide) (by decide)
theorem zj_has (h : JI n M L P) (x1 : Int32) : zpr G n M L P 118 [.ref 0, .int x1] 238 [.ref 79, .int x1] := by
  obtain ⟨D, s, pl, f, T, y, k, hp, hx, hm, he⟩ := id h
  obtain ⟨v, hv, hB, hA⟩ := jB hx
  obtain ⟨a, pf, -, -, -, -, -, -, h13, -⟩ := hx.2.2.2.2.1
  exact zpr_same h (ct_has hx.1 hx.2.1 hp.1.1 hB h13 x1) (cm_has hx.1 hx.2.2.1 hp.1.1 hm.2.1.1 hm.2.1.2.1 hp.2.1 hm.2.2.2.1.1 x1) (by decide) (by decide)
theorem zj_letter (h : JI n M L P) (x1 x2 x3 : Int32) : zpr G n M L P 119 [.ref 0, .int x1, .int x2, .int x3] 239 [.ref 79, .int x1, .int x2, .int x3] := by
  obtain ⟨D, s, pl, f, T, y, k, hp, hx, hm, he⟩ := id h
  obtain ⟨v, hv, hB, hA⟩ := jB hx
  exact zpr_same h (ct_letterA hx.1 hx.2.1 hB.1 hB.2.1 hp.1 hA x1 x2 x3) (cm_letter hx.1 hx.2.2.1 hp.1 hm.2.1.1 hm.2.2.1 x1 x2 x3) (by decide) (by decide)
theorem zj_thing (h : JI n M L P) (x1 x2 : Int32) : zpr G n M L P 120 [.ref 0, .int x1, .int x2] 240 [.ref 79, .int x1, .int x2] := by
  obtain ⟨D, s, pl, f, T, y, k, hp, hx, hm, he⟩ := id h
  obtain ⟨v, hv, hB, hA⟩ := jB hx
  exact zpr_same h (ct_thing hx.1 hx.2.1 hp.1.1 hB x1 x2) (cm_thing hx.1 hx.2.2.1 hp.1.1 hm.2.1.1 hm.2.1.2.1 hp.2.1 x1 x2) (by decide) (by decide)
theorem zj_person (h : JI n M L P) (x1 x2 : Int32) : zpr G n M L P 121 [.ref 0, .int x1, .int x2] 241 [.ref 79, .int x1, .int x2] := by
  obtain ⟨D, s, pl, f, T, y, k, hp, hx, hm, he⟩ := id h
  obtain ⟨v, hv, hB, hA⟩ := jB hx
  exact zpr_same h (ct_person hx.1 hx.2.1 hp.1.1 hB x1 x2) (cm_person hx.1 hx.2.2.1 hp.1.1 hm.2.1.1 hm.2.1.2.1 hp.2.1 x1 x2) (by decide) (by decide)
theorem zj_points (h : JI n M L P) (x1 x2 : Int32) : zpr G n M L P 122 [.ref 0, .int x1, .int x2] 242 [.ref 79, .int x1, .int x2] := by
  obtain ⟨D, s, pl, f, T, y, k, hp, hx, hm, he⟩ := id h
  obtain ⟨v, hv, hB, hA⟩ := jB hx
  exact zpr_same h (ct_points hx.1 hx.2.1 hp.1.1 hB x1 x2) (cm_points hx.1 hx.2.2.1 hp.1.1 hm.2.1.1 hm.2.1.2.1 x1 x2) (by decide) (by decide)
theorem zj_lies (h : JI n M L P) (x1 x2 : Int32) : zpr G n M L P 123 [.ref 0, .int x1, .int x2] 243 [.ref 79, .int x1, .int x2] := by
  obtain ⟨D, s, pl, f, T, y, k, hp, hx, hm, he⟩ := id h
  obtain ⟨v, hv, hB, hA⟩ := jB hx
  exact zpr_same h (ct_lies hx.1 hx.2.1 hp.1.1 hB x1 x2) (cm_lies hx.1 hx.2.2.1 hp.1.1 hm.2.1.1 hm.2.1.2.1 hp.2.1 x1 x2) (by decide) (by decide)
theorem zj_way (h : JI n M L P) (x1 x2 : Int32) : zpr G n M L P 124 [.ref 0, .int x1, .int x2] 245 [.ref 79, .int x1, .int x2] := by
  obtain ⟨D, s, pl, f, T, y, k, hp, hx, hm, he⟩ := id h
  obtain ⟨v, hv, hB, hA⟩ := jB hx
  exact zpr_same h (ct_way hx.1 hx.2.1 hp.1.1 hB x1 x2) (cm_way hx.1 hx.2.2.1 hp.1.1 hm.2.1.1 x1 x2) (by decide) (by decide)
theorem zj_later (h : JI n M L P) (x1 x2 x3 : Int32) : zpr G n M L P 125 [.ref 0, .int x1, .int x2, .int x3] 247 [.ref 79, .int x1, .int x2, .int x3] := by
  obtain ⟨D, s, pl, f, T, y, k, hp, hx, hm, he⟩ := id h
  obtain ⟨v, hv, hB, hA⟩ := jB hx
  exact zpr_ahead hp hx hm he (ct_laterA hx.1 hx.2.1 hp.1.1 hB x1 x2 x3) (fun M1 hB1 => cm_later hx.1 hx.2.2.1 hp.1.1 hB1 hp.2.1 x1 x2 x3) (by decide) (by decide)
theorem zj_forgets (h : JI n M L P) (x1 : Int32) : zpr G n M L P 126 [.ref 0, .int x1] 248 [.ref 79, .int x1] := by
  obtain ⟨D, s, pl, f, T, y, k, hp, hx, hm, he⟩ := id h
  obtain ⟨v, hv, hB, hA⟩ := jB hx
  exact zpr_ahead hp hx hm he (ct_forgetsA hx.1 hx.2.1 hp.1.1 hB hp.2.2.1 x1) (fun M1 hB1 => cm_forgets hx.1 hx.2.2.1 hp.1.1 hB1 hp.2.1 hp.2.2.1 x1) (by decide) (by decide)
theorem zj_breaks (h : JI n M L P) (x1 : Int32) : zpr G n M L P 127 [.ref 0, .int x1] 250 [.ref 79, .int x1] := by
  obtain ⟨D, s, pl, f, T, y, k, hp, hx, hm, he⟩ := id h
  obtain ⟨v, hv, hB, hA⟩ := jB hx
  exact zpr_ahead hp hx hm he (ct_breaksA hx.1 hx.2.1 hp.1.1 hB hp.2.2.1 x1) (fun M1 hB1 => cm_breaks hx.1 hx.2.2.1 hp.1.1 hB1 hp.2.1 hp.2.2.1 x1) (by decide) (by decide)
theorem zj_keep (h : JI n M L P) (x1 x2 x3 x4 : Int32) : zpr G n M L P 128 [.ref 0, .int x1, .int x2, .int x3, .int x4] 252 [.ref 79, .int x1, .int x2, .int x3, .int x4] := by
  obtain ⟨D, s, pl, f, T, y, k, hp, hx, hm, he⟩ := id h
  obtain ⟨v, hv, hB, hA⟩ := jB hx
  exact zpr_ahead hp hx hm he (ct_keepA hx.1 hx.2.1 hp.1.1 hB hp.2.1 x1 x2 x3 x4) (fun M1 hB1 => cm_keepA hx.1 hx.2.2.1 hp.1.1 hB1 hp.2.1 x1 x2 x3 x4) (by decide) (by decide)
theorem zj_best (h : JI n M L P) (x1 x2 x3 : Int32) : zpr G n M L P 129 [.ref 0, .int x1, .int x2, .int x3] 253 [.ref 79, .int x1, .int x2, .int x3] := by
  obtain ⟨D, s, pl, f, T, y, k, hp, hx, hm, he⟩ := id h
  obtain ⟨v, hv, hB, hA⟩ := jB hx
  exact zpr_ahead hp hx hm he (ct_bestA hx.1 hx.2.1 hp.1.1 hB x1 x2 x3) (fun M1 hB1 => cm_best hx.1 hx.2.2.1 hp.1.1 hB1 hp.2.1 x1 x2 x3) (by decide) (by decide)
theorem zj_shovel (h : JI n M L P) (x1 x2 x3 : Int32) : zpr G n M L P 130 [.ref 0, .int x1, .int x2, .int x3] 254 [.ref 79, .int x1, .int x2, .int x3] := by
  obtain ⟨D, s, pl, f, T, y, k, hp, hx, hm, he⟩ := id h
  obtain ⟨v, hv, hB, hA⟩ := jB hx
  exact zpr_ahead hp hx hm he (ct_shovelA hx.1 hx.2.1 hp.1.1 hB x1 x2 x3) (fun M1 hB1 => cm_shovel hx.1 hx.2.2.1 hp.1.1 hB1 hp.2.1 x1 x2 x3) (by decide) (by decide)
theorem zj_route (h : JI n M L P) (x1 x2 x3 : Int32) : zpr G n M L P 131 [.ref 0, .int x1, .int x2, .int x3] 258 [.ref 79, .int x1, .int x2, .int x3] := by
  obtain ⟨D, s, pl, f, T, y, k, hp, hx, hm, he⟩ := id h
  obtain ⟨v, hv, hB, hA⟩ := jB hx
  exact zpr_ahead hp hx hm he (ct_routeA hx.1 hx.2.1 hp.1.1 hB x1 x2 x3) (fun M1 hB1 => cm_route hx.1 hx.2.2.1 hp.1.1 hB1 hp.2.1 x1 x2 x3) (by decide) (by decide)
theorem zj_against (h : JI n M L P) (x1 x2 x3 : Int32) : zpr G n M L P 133 [.ref 0, .int x1, .int x2, .int x3] 264 [.ref 79, .int x1, .int x2, .int x3] := by
  obtain ⟨D, s, pl, f, T, y, k, hp, hx, hm, he⟩ := id h
  obtain ⟨v, hv, hB, hA⟩ := jB hx
  exact zpr_ahead hp hx hm he (ct_againstA hx.1 hx.2.1 hp.1.1 hB x1 x2 x3) (fun M1 hB1 => cm_against hx.1 hx.2.2.1 hp.1.1 hB1 hp.2.1 x1 x2 x3) (by decide) (by decide)
theorem zj_say (h : JI n M L P) (x1 x2 : Int32) : zpr G n M L P 134 [.ref 0, .int x1, .int x2] 267 [.ref 79, .int x1, .int x2] := by
  obtain ⟨D, s, pl, f, T, y, k, hp, hx, hm, he⟩ := id h
  obtain ⟨v, hv, hB, hA⟩ := jB hx
  obtain ⟨n2, hn2, hc⟩ := cw_sayA (G := G) (L := L) hx.1 hx.2.1 hv hp.1.1 hB hx.2.2.2.2.1 x1 x2
  refine zpr_act ((sp_aSay D.1 s x1 x2).map (fun w => (w.1, w.2, y))) hp hx hm he (i := 2) (x0 := -1) (by decide) hn2 (hc.post (fun r M' L' P' h => ⟨fun e => h.1 (Option.map_eq_none_iff.mp e), fun s' u y' e => ?_⟩)) (fun n1 M1 L1 P1 c1 c2 c3 c4 c5 => (cn_say c1 c2 hp.1.1 c3 hp.2.1 c4 x1 x2).post (fun r M' L' P' h => ⟨h.1, fun e => h.2.1 (Option.map_eq_none_iff.mp e), fun s' u y' e => ?_⟩)) (fun s' u y' e => ?_) (by decide) (by decide)
  · obtain ⟨⟨s1, u1⟩, ha, e2⟩ := Option.map_eq_some_iff.mp e
    cases e2
    obtain ⟨g1, g2, g3, g4, g5, g6⟩ := h.2 _ _ ha
    exact ⟨g1, g2, g3, g4, g5, g6.trans hx.2.2.2.2.2.2.1⟩
  · obtain ⟨⟨s1, u1⟩, ha, e2⟩ := Option.map_eq_some_iff.mp e
    cases e2
    obtain ⟨g1, g2, g3, g4⟩ := h.2.2 _ _ ha
    exact ⟨g1, g2, g3, g4.1, g4.2.1, g4.2.2 113 (by omega), by rw [g4.2.2 79 (by omega)]; exact c5⟩
  · obtain ⟨⟨s1, u1⟩, ha, e2⟩ := Option.map_eq_some_iff.mp e
    cases e2
    have hj := jo_say hp.2.1 ha
    exact ⟨hj.1, by rw [hj.2]; exact hp.2.2.1, hp.2.2.2.2.2.2.1⟩
theorem zj_take (h : JI n M L P) (x1 x2 : Int32) : zpr G n M L P 135 [.ref 0, .int x1, .int x2] 268 [.ref 79, .int x1, .int x2] := by
  obtain ⟨D, s, pl, f, T, y, k, hp, hx, hm, he⟩ := id h
  obtain ⟨v, hv, hB, hA⟩ := jB hx
  obtain ⟨n2, hn2, hc⟩ := cw_takeA (G := G) (L := L) hx.1 hx.2.1 hv hp.1.1 hB hx.2.2.2.2.1 x1 x2
  refine zpr_act ((sp_aTake D.1 s x1 x2).map (fun w => (w, 1, y))) hp hx hm he (i := 2) (x0 := 0) (by decide) hn2 (hc.post (fun r M' L' P' h => ⟨fun e => h.1 (Option.map_eq_none_iff.mp e), fun s' u y' e => ?_⟩)) (fun n1 M1 L1 P1 c1 c2 c3 c4 c5 => (cn_take c1 c2 hp.1.1 c3 hp.2.1 c4 x1 x2).post (fun r M' L' P' h => ⟨h.1, fun e => h.2.1 (Option.map_eq_none_iff.mp e), fun s' u y' e => ?_⟩)) (fun s' u y' e => ?_) (by decide) (by decide)
  · obtain ⟨s1, ha, e2⟩ := Option.map_eq_some_iff.mp e
    cases e2
    obtain ⟨g1, g2, g3, g4, g5, g6⟩ := h.2 _ ha
    exact ⟨g1, g2, g3, g4, g5, g6.trans hx.2.2.2.2.2.2.1⟩
  · obtain ⟨s1, ha, e2⟩ := Option.map_eq_some_iff.mp e
    cases e2
    obtain ⟨g1, g2, g3, g4⟩ := h.2.2 _ ha
    exact ⟨g1, g2, g3, g4.1, g4.2.1, g4.2.2 113 (by omega), by rw [g4.2.2 79 (by omega)]; exact c5⟩
  · obtain ⟨s1, ha, e2⟩ := Option.map_eq_some_iff.mp e
    cases e2
    have hj := jo_take hp.1.1 hp.2.1 ha
    exact ⟨hj.1, by rw [hj.2]; exact hp.2.2.1, hp.2.2.2.2.2.2.1⟩
theorem zj_go (h : JI n M L P) (x1 x2 : Int32) : zpr G n M L P 136 [.ref 0, .int x1, .int x2] 269 [.ref 79, .int x1, .int x2] := by
  obtain ⟨D, s, pl, f, T, y, k, hp, hx, hm, he⟩ := id h
  obtain ⟨v, hv, hB, hA⟩ := jB hx
  obtain ⟨n2, hn2, hc⟩ := cw_goA (G := G) (L := L) hx.1 hx.2.1 hv hp.1.1 hp.2.1 hB hx.2.2.2.2.1 x1 x2
  refine zpr_act ((sp_aGo D.1 s x1 x2).map (fun w => (w, 1, y))) hp hx hm he (i := 2) (x0 := 0) (by decide) hn2 (hc.post (fun r M' L' P' h => ⟨fun e => h.1 (Option.map_eq_none_iff.mp e), fun s' u y' e => ?_⟩)) (fun n1 M1 L1 P1 c1 c2 c3 c4 c5 => (cn_go c1 c2 hp.1.1 c3 hp.2.1 c4 x1 x2).post (fun r M' L' P' h => ⟨h.1, fun e => h.2.1 (Option.map_eq_none_iff.mp e), fun s' u y' e => ?_⟩)) (fun s' u y' e => ?_) (by decide) (by decide)
  · obtain ⟨s1, ha, e2⟩ := Option.map_eq_some_iff.mp e
    cases e2
    obtain ⟨g1, g2, g3, g4, g5, g6⟩ := h.2 _ ha
    exact ⟨g1, g2, g3, g4, g5, g6.trans hx.2.2.2.2.2.2.1⟩
  · obtain ⟨s1, ha, e2⟩ := Option.map_eq_some_iff.mp e
    cases e2
    obtain ⟨g1, g2, g3, g4⟩ := h.2.2 _ ha
    exact ⟨g1, g2, g3, g4.1, g4.2.1, g4.2.2 113 (by omega), by rw [g4.2.2 79 (by omega)]; exact c5⟩
  · obtain ⟨s1, ha, e2⟩ := Option.map_eq_some_iff.mp e
    cases e2
    have hj := jo_go hp.2.1 ha
    exact ⟨hj.1, by rw [hj.2]; exact hp.2.2.1, hp.2.2.2.2.2.2.1⟩
theorem zj_nights (h : JI n M L P) (x1 : Int32) : zpr G n M L P 137 [.ref 0, .int x1] 271 [.ref 79, .int x1] := by
  obtain ⟨D, s, pl, f, T, y, k, hp, hx, hm, he⟩ := id h
  obtain ⟨v, hv, hB, hA⟩ := jB hx
  obtain ⟨n2, hn2, hc⟩ := cw_nightsA (G := G) (L := L) hx.1 hx.2.1 hv hp.1.1 hB hx.2.2.2.2.1 x1
  rcases Classical.em (sp_tG s x1) with ht | ht
  · refine zpr_act (some (sp_ns D.1 0 s x1.toInt.toNat, nI (sp_fc D.1 0 s x1.toInt.toNat), y)) hp hx hm he (i := 3) (x0 := -1) (by decide) hn2 (hc.post (fun r M' L' P' h => ⟨fun e => (nomatch e), fun s' u y' e => ?_⟩)) (fun n1 M1 L1 P1 c1 c2 c3 c4 c5 => (cn_nights c1 c2 hp.1.1 c3 hp.2.1 c4 x1).post (fun r M' L' P' h => ⟨h.1, fun e => (nomatch e), fun s' u y' e => ?_⟩)) (fun s' u y' e => ?_) (by decide) (by decide)
    · cases e
      obtain ⟨g1, g2, g3, g4, g5, g6⟩ := h.2 ht
      exact ⟨g1, g2, g3, g4, g5, g6.trans hx.2.2.2.2.2.2.1⟩
    · cases e
      obtain ⟨g1, g2, g3, g4⟩ := h.2.2 ht
      exact ⟨g1, g2, g3, g4.1, g4.2.1, g4.2.2 113 (by omega), by rw [g4.2.2 79 (by omega)]; exact c5⟩
    · cases e
      unfold sp_tG at ht
      exact ⟨sp_ns_ok hp.2.1 _ (by omega), by rw [sp_ns_day]; omega, hp.2.2.2.2.2.2.1⟩
  · refine zpr_act none hp hx hm he (i := 3) (x0 := -1) (by decide) hn2 (hc.post (fun r M' L' P' h => ⟨fun _ => h.1 ht, fun s' u y' e => (nomatch e)⟩)) (fun n1 M1 L1 P1 c1 c2 c3 c4 c5 => (cn_nights c1 c2 hp.1.1 c3 hp.2.1 c4 x1).post (fun r M' L' P' h => ⟨h.1, fun _ => h.2.1 ht, fun s' u y' e => (nomatch e)⟩)) (fun s' u y' e => (nomatch e)) (by decide) (by decide)
theorem zj_days (h : JI n M L P) (x1 : Int32) : zpr G n M L P 138 [.ref 0, .int x1] 275 [.ref 79, .int x1] := by
  obtain ⟨D, s, pl, f, T, y, k, hp, hx, hm, he⟩ := id h
  obtain ⟨v, hv, hB, hA⟩ := jB hx
  obtain ⟨n2, hn2, hc⟩ := cw_daysA (G := G) (L := L) hx.1 hx.2.1 hv hp.1.1 hp.2.1 hB hx.2.2.2.2.1 hp.2.2.2.2.2.2.1 hx.2.2.2.2.2.2.1 x1
  rcases Classical.em (sp_tG s x1) with ht | ht
  · refine zpr_act (some ((sp_dy D.1 s y x1.toInt.toNat).1, nI (sp_dy D.1 s y x1.toInt.toNat).2.2, (sp_dy D.1 s y x1.toInt.toNat).2.1)) hp hx hm he (i := 3) (x0 := -1) (by decide) hn2 (hc.post (fun r M' L' P' h => ⟨fun e => (nomatch e), fun s' u y' e => ?_⟩)) (fun n1 M1 L1 P1 c1 c2 c3 c4 c5 => (cm_days c1 c2 hp.1.1 c3 hp.2.1 c4 hp.2.2.2.2.2.2.1 c5 x1).post (fun r M' L' P' h => ⟨h.1, fun e => (nomatch e), fun s' u y' e => ?_⟩)) (fun s' u y' e => ?_) (by decide) (by decide)
    · cases e
      obtain ⟨g1, g2, g3, g4, g5, g6⟩ := h.2 ht
      exact ⟨g1, g2, g3, g4, g5, g6⟩
    · cases e
      obtain ⟨g1, g2, g5, g3, g4⟩ := h.2.2 ht
      exact ⟨g1, g2, g3, g4.1, g4.2.1, g4.2.2.1 113 (by omega) (by omega), g5⟩
    · cases e
      unfold sp_tG at ht
      exact ⟨(sp_dy_ok hp.2.1 hp.2.2.2.2.2.2.1 x1.toInt.toNat (by omega)).1, by rw [(sp_dy_ok hp.2.1 hp.2.2.2.2.2.2.1 x1.toInt.toNat (by omega)).2.1]; omega, (sp_dy_ok hp.2.1 hp.2.2.2.2.2.2.1 x1.toInt.toNat (by omega)).2.2⟩
  · refine zpr_act none hp hx hm he (i := 3) (x0 := -1) (by decide) hn2 (hc.post (fun r M' L' P' h => ⟨fun _ => h.1 ht, fun s' u y' e => (nomatch e)⟩)) (fun n1 M1 L1 P1 c1 c2 c3 c4 c5 => (cm_days c1 c2 hp.1.1 c3 hp.2.1 c4 hp.2.2.2.2.2.2.1 c5 x1).post (fun r M' L' P' h => ⟨h.1, fun _ => h.2.1 ht, fun s' u y' e => (nomatch e)⟩)) (fun s' u y' e => (nomatch e)) (by decide) (by decide)
theorem zj_undo (h : JI n M L P) : zpr G n M L P 139 [.ref 0] 266 [.ref 79] := by
  obtain ⟨D, s, pl, f, T, y, k, hp, hx, hm, he⟩ := id h
  obtain ⟨v, hv, hB, hA⟩ := jB hx
  have hn9 := zx_274 hx.2.2.2.2.1
  rcases pl with _ | ⟨s1, rest⟩
  · refine ⟨4, 1, n, by decide, by decide, hn9, (ct_undoA hx.1 hx.2.1 hx.2.2.2.2.1).post (fun r M1 L1 P1 h => ?_)⟩
    obtain ⟨e1, e2, h, -⟩ := h
    obtain ⟨e3, e4⟩ := h rfl
    subst e1 e2 e3 e4
    have hm1 := jM_ref (q := 48) (i := 4) (z := M 48 4 + 1) hm (Or.inl rfl)
    refine ⟨0, rfl, (cm_undo hx.1 hx.2.2.1 hp.1.1 hm1.2.2.2.1).post (fun r2 M2 L2 P2 g => ?_)⟩
    obtain ⟨g1, g2, g, -⟩ := g
    obtain ⟨g3, g4⟩ := g rfl
    subst g1 g2 g3 g4
    exact ⟨rfl, JI_ref hp hx hm he (by decide)⟩
  · refine ⟨4, 1, n, by decide, by decide, hn9, (ct_undoA hx.1 hx.2.1 hx.2.2.2.2.1).post (fun r M1 L1 P1 h => ?_)⟩
    obtain ⟨e1, e2, -, h⟩ := h
    obtain ⟨e3, a1, a2, a3, a4⟩ := h _ _ rfl
    subst e1 e2 e3
    have hx1 : jX n M1 P1 D s1 rest f T y k := by
      obtain ⟨x1, x2, x3, x4, x5, x6, x7, x8⟩ := hx
      exact ⟨x1, x2, x3, jV_to x4 (Nat.le_refl _) (fun q q1 q2 => a3 q (by omega) (by omega)) (fun _ _ _ => rfl) ⟨rfl, rfl⟩ a1 (jz_m (jV_s x4).2 (a3 3 (by omega) (by omega)) (a3 4 (by omega) (by omega))), a2, zt_c_cg x6 (a3 5 (by omega) (by omega)) (a3 6 (by omega) (by omega)), (a4 17 (by omega)).trans x7, (a4 14 (by omega)).trans x8⟩
    have hm1 := jM_fr (M' := M1) (L' := L1) hm (fun q q1 q2 => ⟨a3 q (by omega) (by omega), rfl⟩)
    have he1 : jE M1 k := jE_X he ⟨a4 15 (by omega), a4 16 (by omega)⟩ (fun q hq => a3 q (by omega) (by omega))
    refine ⟨1, rfl, (cm_undo hx.1 hx.2.2.1 hp.1.1 hm1.2.2.2.1).post (fun r2 M2 L2 P2 g => ?_)⟩
    obtain ⟨g1, g2, -, g⟩ := g
    obtain ⟨g3, b1, b2, b3, b4⟩ := g _ _ rfl
    subst g1 g2 g3
    have hs1 := hp.2.2.2.1 s1 List.mem_cons_self
    exact ⟨rfl, D, s1, rest, f, T, y, k, ⟨hp.1, hs1.1, hs1.2, fun s' hs' => hp.2.2.2.1 s' (List.mem_cons_of_mem _ hs'), hp.2.2.2.2⟩, jX_fr hx1 (fun q hq => b3 q (by omega) (by omega)), jM_act hm1 (fun q q1 _ q3 _ _ => b3 q q1 q3) (fun j _ _ _ j4 j5 _ => b4 j j4 j5) rfl b1 b2 hm1.2.2.2.2.2.2.1, jE_act he1 (fun q q1 _ q3 _ _ => b3 q q1 q3) (fun j _ _ _ j4 j5 _ => b4 j j4 j5)⟩
theorem zj_seed (h : JI n M L P) (x1 : Int32) : zpr G n M L P 140 [.ref 0, .int x1] 272 [.ref 79, .int x1] := by
  obtain ⟨D, s, pl, f, T, y, k, hp, hx, hm, he⟩ := id h
  obtain ⟨v, hv, hB, hA⟩ := jB hx
  refine ⟨1, 1, n, by decide, by decide, zx_274 hx.2.2.2.2.1, (ct_seed hx.1 hx.2.1 x1).post (fun r M1 L1 P1 h => ?_)⟩
  obtain ⟨e1, e2, e3, e4⟩ := h
  subst e1 e3 e4
  by_cases h0 : 0 ≤ x1.toInt
  · rw [if_pos h0] at e2
    subst e2
    refine ⟨_, rfl, (cm_seed hx.1 hx.2.2.1 x1).post (fun r2 M2 L2 P2 g => ?_)⟩
    obtain ⟨g1, g2, g3, g4⟩ := g
    rw [if_pos h0] at g2 g3
    subst g1 g2 g3 g4
    have hlt := Int32.toInt_lt x1
    have hle := Int32.le_toInt x1
    have e64 : x1.toInt64 = lI (x1.toInt.toNat : Int) := by
      have := lI_i (a := x1.toInt) (by omega) (by omega)
      rw [iI_of] at this
      rw [this, Int.toNat_of_nonneg h0]
    refine ⟨rfl, D, s, pl, f, T, x1.toInt.toNat, k, ⟨hp.1, hp.2.1, hp.2.2.1, hp.2.2.2.1, hp.2.2.2.2.1, hp.2.2.2.2.2.1, by omega, hp.2.2.2.2.2.2.2⟩, ?_, ?_, jE_X he ⟨zk_up_ne (by omega), zk_up_ne (by omega)⟩ (fun q hq => zk_up_row (by omega))⟩
    · obtain ⟨x1', x2, x3, x4, x5, x6, x7, x8⟩ := hx
      exact ⟨x1', x2, x3, jV_fr x4 (fun q hq => zk_up_row (by omega)), zx_past_cg x5 (zk_up_ne (by omega)) (zk_up_ne (by omega)) (fun q hq => zk_up_row (by omega)), zt_c_cg x6 (zk_up_row (by omega)) (zk_up_row (by omega)), zk_up_at.trans (zn_of h0), (zk_up_ne (by omega)).trans x8⟩
    · obtain ⟨m1, m2, m3, m4, m5, m6, m7, m8⟩ := jM_fr hm (M' := zk_up M 0 17 x1) (L' := L1) (fun q q1 q2 => ⟨zk_up_row (by omega), rfl⟩)
      exact ⟨m1, m2, fun k i hk hi => by rw [zk_up_row (by omega)]; exact m3 k i hk hi, m4, m5, m6, zk_up_at.trans e64, m8⟩
  · rw [if_neg h0] at e2
    subst e2
    refine ⟨_, rfl, (cm_seed hx.1 hx.2.2.1 x1).post (fun r2 M2 L2 P2 g => ?_)⟩
    obtain ⟨g1, g2, g3, g4⟩ := g
    rw [if_neg h0] at g2 g3
    subst g1 g2 g3 g4
    exact ⟨rfl, JI_ref hp hx hm he (by decide)⟩
theorem zj_feed (h : JI n M L P) (x1 x2 x3 x4 x5 : Int32) : zpr G n M L P 114 [.ref 0, .int x1, .int x2, .int x3, .int x4, .int x5] 162 [.ref 79, .int x1, .int x2, .int x3, .int x4, .int x5] := by
  obtain ⟨D, s, pl, f, T, y, k, hp, hx, hm, he⟩ := id h
  obtain ⟨v, hv, hB, hA⟩ := jB hx
  have hT := hp.2.2.2.2.1
  refine ⟨1, 1, n, by decide, by decide, zx_274 hx.2.2.2.2.1, (ct_feed hx.1 hx.2.1 hT hx.2.2.2.2.2.1.1 x1 x2 x3 x4 x5).post (fun r M1 L1 P1 h => ?_)⟩
  obtain ⟨e1, e2, h1, h2⟩ := h
  subst e1 e2
  by_cases h0 : 1580 < T
  · obtain ⟨e3, e4⟩ := h1 h0
    subst e3 e4
    have hm1 := jM_ref (q := 48) (i := 0) (z := M 48 0 + 1) hm (Or.inl rfl)
    refine ⟨_, rfl, (cm_feed hx.1 hx.2.2.1 hT hm1.2.2.2.2.1 x1 x2 x3 x4 x5).post (fun r2 M2 L2 P2 g => ?_)⟩
    obtain ⟨g1, g2, g3, -⟩ := g
    obtain ⟨g4, g5⟩ := g3 h0
    subst g1 g2 g4 g5
    exact ⟨rfl, JI_ref hp hx hm he (by decide)⟩
  · obtain ⟨e3, a1, a2, a3, a4⟩ := h2 (by omega)
    subst e3
    have hf9 : ∀ (X : Nat → Int32), (∀ i, i < T → X i = nI (f i)) → (∀ i, i < 20 → X (T + i) = sp_by (sp_ar x1 x2 x3 x4 x5 i) i) → ∀ i, i < T + 20 → X i = nI ((fun i => if i < T then f i else (sp_by (sp_ar x1 x2 x3 x4 x5 (i - T)) (i - T)).toInt.toNat) i) ∧ (fun i => if i < T then f i else (sp_by (sp_ar x1 x2 x3 x4 x5 (i - T)) (i - T)).toInt.toNat) i ≤ 255 := by
      intro X hX1 hX2 i hi
      by_cases c : i < T
      · simp only [if_pos c]
        exact ⟨hX1 i c, hp.2.2.2.2.2.1 i c⟩
      · simp only [if_neg c]
        have z := hX2 (i - T) (by omega)
        rw [show T + (i - T) = i by omega] at z
        exact ⟨z.trans (jby _ _).1, (jby _ _).2⟩
    have hx1 := jX_tape hx a1 (by omega) (hf9 (M1 6) (fun i hi => by rw [a3 i hi]; exact (hx.2.2.2.2.2.1.2.2 i hi).1) a4) a2
    have hm1 := jM_fr (M' := M1) (L' := L1) hm (fun q q1 q2 => ⟨a2 q (by omega) (by omega), rfl⟩)
    have he1 : jE M1 k := jE_X he ⟨by rw [a2 0 (by omega) (by omega)], by rw [a2 0 (by omega) (by omega)]⟩ (fun q hq => a2 q (by omega) (by omega))
    refine ⟨_, rfl, (cm_feed hx.1 hx.2.2.1 hT hm1.2.2.2.2.1 x1 x2 x3 x4 x5).post (fun r2 M2 L2 P2 g => ?_)⟩
    obtain ⟨g1, g2, -, g3⟩ := g
    obtain ⟨g4, b1, b2, b3, b4, b5⟩ := g3 (by omega)
    subst g1 g2 g4
    refine ⟨rfl, D, s, pl, _, T + 20, y, k, ⟨hp.1, hp.2.1, hp.2.2.1, hp.2.2.2.1, by omega, fun i hi => ?_, hp.2.2.2.2.2.2⟩, jX_fr hx1 (fun q hq => b3 q (by omega) (by omega)), jM_tape hm1 b1 (hf9 (M2 80) (fun i hi => by rw [b4 i hi]; exact (hm1.2.2.2.2.2.1 i hi).1) b5) b2 b3, jE_q he1 ⟨by rw [b3 0 (by omega) (by omega)], by rw [b3 0 (by omega) (by omega)], b2 7 (by omega), b2 8 (by omega)⟩ (fun q hq => b3 q (by omega) (by omega))⟩
    exact (hx1.2.2.2.2.2.1.2.2 i hi).2
theorem zj_end (h : JI n M L P) (x1 : Int32) : zpr G n M L P 115 [.ref 0, .int x1] 163 [.ref 79, .int x1] := by
  obtain ⟨D, s, pl, f, T, y, k, hp, hx, hm, he⟩ := id h
  obtain ⟨v, hv, hB, hA⟩ := jB hx
  have hT := hp.2.2.2.2.1
  refine ⟨1, 1, n, by decide, by decide, zx_274 hx.2.2.2.2.1, (ct_end hx.1 hx.2.1 hT hx.2.2.2.2.2.1.1 x1).post (fun r M1 L1 P1 h => ?_)⟩
  obtain ⟨e1, e2, e3, e4⟩ := h
  subst e1 e3 e4
  by_cases h0 : 0 ≤ x1.toInt ∧ x1.toInt ≤ T
  · rw [if_pos h0] at e2
    subst e2
    have hx1 := jX_tape (f' := f) (T' := x1.toInt.toNat) (M' := zk_up M 5 1 x1) hx (zk_up_at.trans (zn_of h0.1)) (by omega) (fun i hi => by rw [zk_up_row (by omega)]; exact hx.2.2.2.2.2.1.2.2 i (by omega)) (fun q q1 _ => zk_up_row q1)
    have hm1 := jM_fr (M' := zk_up M 5 1 x1) (L' := L1) hm (fun q q1 q2 => ⟨zk_up_row (by omega), rfl⟩)
    refine ⟨_, rfl, (cm_end hx.1 hx.2.2.1 hT hm1.2.2.2.2.1 x1).post (fun r2 M2 L2 P2 g => ?_)⟩
    obtain ⟨g1, g2, g3, g4⟩ := g
    rw [if_pos h0] at g2
    subst g1 g2 g3 g4
    exact ⟨rfl, D, s, pl, f, x1.toInt.toNat, y, k, ⟨hp.1, hp.2.1, hp.2.2.1, hp.2.2.2.1, by omega, fun i hi => hp.2.2.2.2.2.1 i (by omega), hp.2.2.2.2.2.2⟩, jX_fr hx1 (fun q hq => zk_up_row (by omega)), jM_tape hm1 (zk_up_at.trans (zn_of h0.1)) (fun i hi => by rw [zk_up_row (by omega)]; exact hm1.2.2.2.2.2.1 i (by omega)) (fun j hj => zk_up_ne (by omega)) (fun q q1 _ => zk_up_row q1), jE_q he ⟨by simp [zk_up], by simp [zk_up], by simp [zk_up], by simp [zk_up]⟩ (fun q hq => by rw [zk_up_row (by omega), zk_up_row (by omega)])⟩
  · rw [if_neg h0] at e2
    subst e2
    have hm1 := jM_ref (q := 48) (i := 0) (z := M 48 0 + 1) hm (Or.inl rfl)
    refine ⟨_, rfl, (cm_end hx.1 hx.2.2.1 hT hm1.2.2.2.2.1 x1).post (fun r2 M2 L2 P2 g => ?_)⟩
    obtain ⟨g1, g2, g3, g4⟩ := g
    rw [if_neg h0] at g2
    subst g1 g2 g3 g4
    exact ⟨rfl, JI_ref hp hx hm he (by decide)⟩
theorem zj_whose (h : JI n M L P) : zpr G n M L P 132 [.ref 0] 259 [.ref 79] := by
  obtain ⟨D, s, pl, f, T, y, k, hp, hx, hm, he⟩ := id h
  obtain ⟨v, hv, hB, hA⟩ := jB hx
  refine ⟨3, 2, n, by decide, by decide, zx_274 hx.2.2.2.2.1, (ct_whoseA hx.1 hx.2.1 hp.1.1 hB hx.2.2.2.2.2.1).post (fun r M1 L1 P1 h => ?_)⟩
  obtain ⟨e1, e2, h1, h2⟩ := h
  subst e1 e2
  cases hw9 : sp_whose D.1 s T f with
  | none =>
    obtain ⟨e3, e4⟩ := h1 hw9
    subst e3
    have hm1 : jM M1 L1 D s pl f T y k := by rw [e4]; exact jM_ref (jM_e5 hm) (Or.inl rfl)
    refine ⟨_, rfl, (cm_whose hx.1 hx.2.2.1 hp.1.1 hm1.2.1.1 hm1.2.1.2.1 hp.2.2.2.2.1 hm1.2.2.2.2.1 hm1.2.2.2.2.2.1).post (fun r2 M2 L2 P2 g => ?_)⟩
    obtain ⟨g1, g2, g3, -⟩ := g
    obtain ⟨g4, g5⟩ := g3 hw9
    subst g1 g2 g4 g5
    exact ⟨rfl, JI_er hp hx hm he e4⟩
  | some u =>
    obtain ⟨e3, e4⟩ := h2 u hw9
    subst e3 e4
    have hm1 : jM (zk_up M 5 1 0) L1 D s pl f T y k := jM_e5 hm
    refine ⟨_, rfl, (cm_whose hx.1 hx.2.2.1 hp.1.1 hm1.2.1.1 hm1.2.1.2.1 hp.2.2.2.2.1 hm1.2.2.2.2.1 hm1.2.2.2.2.2.1).post (fun r2 M2 L2 P2 g => ?_)⟩
    obtain ⟨g1, g2, -, g3⟩ := g
    obtain ⟨g4, g5⟩ := g3 u hw9
    subst g1 g2 g4 g5
    exact ⟨rfl, JI_e hp hx hm he⟩
theorem zj_on (h : JI n M L P) : zpr G n M L P 144 [.ref 0] 313 [.ref 79] := by
  obtain ⟨D, s, pl, f, T, y, k, hp, hx, hm, he⟩ := id h
  obtain ⟨v, hv, hB, hA⟩ := jB hx
  refine ⟨3, 3, n, by decide, by decide, zx_274 hx.2.2.2.2.1, (ct_onA hx.1 hx.2.1 hp.1.1 hp.2.1 hB hx.2.2.2.2.2.1).post (fun r M1 L1 P1 h => ?_)⟩
  obtain ⟨e1, e2, h1, h2⟩ := h
  subst e1 e2
  rcases Classical.em (sp_isT D.1 T f) with ht | ht
  · obtain ⟨e3, a1, a2, a3, a4, a5⟩ := h2 ht
    subst e3
    have hx1 : jX n M1 P1 D (sp_onS D.1 s f) [] f 0 y k := by
      obtain ⟨x1, x2, x3, x4, x5, x6, x7, x8⟩ := hx
      exact ⟨x1, x2, x3, jV_to x4 (Nat.le_refl _) (fun q q1 q2 => a4 q (by omega) (by omega) (by omega)) (fun _ _ _ => rfl) ⟨rfl, rfl⟩ a1 (jz_m (jV_s x4).2 (a4 3 (by omega) (by omega) (by omega)) (a4 4 (by omega) (by omega) (by omega))), zx_past_nil x5 (a5 12 (by omega)) a3, jT0 a2, (a5 17 (by omega)).trans x7, (a5 14 (by omega)).trans x8⟩
    have hm1 := jM_fr (M' := M1) (L' := L1) hm (fun q q1 q2 => ⟨a4 q (by omega) (by omega) (by omega), rfl⟩)
    have he1 : jE M1 k := jE_X he ⟨a5 15 (by omega), a5 16 (by omega)⟩ (fun q hq => a4 q (by omega) (by omega) (by omega))
    refine ⟨_, rfl, (cm_on (s := s) hx.1 hx.2.2.1 hp.1.1 hm1.2.1.1 hm1.2.2.2.2.1 hm1.2.2.2.2.2.1 hp.2.2.2.2.1).post (fun r2 M2 L2 P2 g => ?_)⟩
    obtain ⟨g1, g2, -, g3⟩ := g
    obtain ⟨g4, b1, b2, b3, b4, b5⟩ := g3 ht
    subst g1 g2 g4
    have hok := sp_onS_ok hp.2.1 ht
    refine ⟨rfl, D, sp_onS D.1 s f, [], f, 0, y, k, ⟨hp.1, hok.1, hok.2, fun s' hs' => by simp at hs', Nat.zero_le _, fun i hi => absurd hi (Nat.not_lt_zero _), hp.2.2.2.2.2.2⟩, jX_fr hx1 (fun q hq => b4 q (by omega) (by omega)), ?_, jE_q he1 ⟨by rw [b4 0 (by omega) (by omega)], by rw [b4 0 (by omega) (by omega)], b5 7 (by omega) (by omega), b5 8 (by omega) (by omega)⟩ (fun q hq => b4 q (by omega) (by omega))⟩
    obtain ⟨m1, m2, m3, m4, m5, m6, m7, m8⟩ := hm1
    refine ⟨fun q hq k hk => ?_, ⟨zq_V_fr m2.1 (fun q q1 q2 => b4 q (by omega) (by omega)), b1, by rw [b5 67 (by omega) (by omega)]; exact m2.2.2⟩, m3, zq_past_nil m4 b3 (b5 71 (by omega) (by omega)), by rw [b2]; rfl, fun i hi => absurd hi (Nat.not_lt_zero _), m7, by rw [b5 105 (by omega) (by omega)]; exact m8⟩
    have hq2 := hq
    unfold sp_wq at hq2
    rw [b4 q (by omega) (by omega)]
    exact m1 q hq k hk
  · obtain ⟨e3, e4⟩ := h1 ht
    subst e3
    have hm1 : jM M1 L1 D s pl f T y k := by rw [e4]; exact jM_ref (jM_e5 hm) (Or.inl rfl)
    refine ⟨_, rfl, (cm_on (s := s) hx.1 hx.2.2.1 hp.1.1 hm1.2.1.1 hm1.2.2.2.2.1 hm1.2.2.2.2.2.1 hp.2.2.2.2.1).post (fun r2 M2 L2 P2 g => ?_)⟩
    obtain ⟨g1, g2, g3, -⟩ := g
    obtain ⟨g4, g5⟩ := g3 ht
    subst g1 g2 g4 g5
    exact ⟨rfl, JI_er hp hx hm he e4⟩
theorem zj_image (h : JI n M L P) : zpr G n M L P 142 [.ref 0] 308 [.ref 79] := by
  obtain ⟨D, s, pl, f, T, y, k, hp, hx, hm, he⟩ := id h
  obtain ⟨v, hv, hB, hA⟩ := jB hx
  have hlen : (sp_img D.1 s).length ≤ 219 := by
    have h1 := sp_iB_len hp.1.1 s (vNt D.1)
    have h2 := hp.1.1.2.2.1
    unfold sp_img
    rw [List.length_append, List.length_singleton]
    omega
  refine ⟨5, 4, n, by decide, by decide, zx_274 hx.2.2.2.2.1, (ct_imageA hx.1 hx.2.1 hp.1.1 hp.2.1 hB).post (fun r M1 L1 P1 h => ?_)⟩
  obtain ⟨e1, e2, e3, a1, a2, a3, a4⟩ := h
  subst e1 e2 e3
  have hm1 := jM_fr (M' := M1) (L' := L1) hm (fun q q1 q2 => ⟨a3 q (by omega) (by omega), rfl⟩)
  refine ⟨_, rfl, (cm_image hx.1 hx.2.2.1 hp.1.1 hm1.2.1.1 hm1.2.1.2.1 hp.2.1).post (fun r2 M2 L2 P2 g => ?_)⟩
  obtain ⟨g1, g2, g3, b1, b2, b3, b4⟩ := g
  subst g1 g2 g3
  refine ⟨rfl, D, s, pl, f, T, y, (sp_img D.1 s).length, ⟨hp.1, hp.2.1, hp.2.2.1, hp.2.2.2.1, hp.2.2.2.2.1, hp.2.2.2.2.2.1, hp.2.2.2.2.2.2.1, hlen⟩, ?_, ?_, ?_⟩
  · obtain ⟨x1, x2, x3, x4, x5, x6, x7, x8⟩ := hx
    have hq : ∀ q, q ≠ 0 → q ≠ 47 → q ≠ 79 → q ≠ 153 → M2 q = M q := fun q q1 q2 q3 q4 => by rw [b3 q q3 q4, a3 q q1 q2]
    have h0 : M2 0 = M1 0 := b3 0 (by omega) (by omega)
    exact ⟨x1, x2, x3, jV_fr x4 (fun q hh => hq q (by omega) (by omega) (by omega) (by omega)), zx_past_cg x5 (by rw [h0, a4 12 (by omega)]) (by rw [h0, a4 13 (by omega)]) (fun q hh => hq q (by omega) (by omega) (by omega) (by omega)), zt_c_cg x6 (hq 5 (by omega) (by omega) (by omega) (by omega)) (hq 6 (by omega) (by omega) (by omega) (by omega)), by rw [h0, a4 17 (by omega)]; exact x7, by rw [h0]; exact a1⟩
  · obtain ⟨m1, m2, m3, m4, m5, m6, m7, m8⟩ := hm1
    refine ⟨fun q hq k hk => ?_, ⟨zq_V_fr m2.1 (fun q q1 q2 => b3 q (by omega) (by omega)), by rw [b3 126 (by omega) (by omega)]; exact m2.2.1, by rw [b4 67 (by omega)]; exact m2.2.2⟩, m3, zq_past_cg m4 (b3 130 (by omega) (by omega)) (b4 70 (by omega)) (b4 71 (by omega)), by rw [b4 1 (by omega)]; exact m5, fun i hi => by rw [b3 80 (by omega) (by omega)]; exact m6 i hi, m7, b2⟩
    have hq2 := hq
    unfold sp_wq at hq2
    rw [b3 q (by omega) (by omega)]
    exact m1 q hq k hk
  · obtain ⟨h1, h2, h3, h4⟩ := he
    have h0 : M2 0 = M1 0 := b3 0 (by omega) (by omega)
    refine ⟨by rw [b4 7 (by omega), h0, a3 79 (by omega) (by omega), a4 15 (by omega)]; exact h1, by rw [b4 8 (by omega), h0, a3 79 (by omega) (by omega), a4 16 (by omega)]; exact h2, fun j hj => by rw [b3 81 (by omega) (by omega), b3 48 (by omega) (by omega), a3 81 (by omega) (by omega), a3 48 (by omega) (by omega)]; exact h3 j hj, fun i hi => ?_⟩
    rw [b3 47 (by omega) (by omega), b1 i _ (List.getElem?_eq_getElem hi), a2 i _ (List.getElem?_eq_getElem hi)]
theorem zj_valley (hJ : zk_JS G) (h : JI n M L P) : zpr G n M L P 116 [.ref 0] 188 [.ref 79] := by
  obtain ⟨D, s, pl, f, T, y, k, hp, hx, hm, he⟩ := h
  obtain ⟨v, v', hv, hB, h11, hok', hA, hW, hW'⟩ := hx.2.2.2.1
  obtain ⟨hm6, hmm, hh⟩ := hW'
  have hT := hp.2.2.2.2.1
  refine ⟨43, 9, n, by decide, by decide, zx_274 hx.2.2.2.2.1, (ct_valleyA hJ hx.1 hx.2.1 hB.1 h11 hok' (by omega) hm6 hh hx.2.2.2.2.2.1).post (fun r M1 L1 P1 h => ?_)⟩
  obtain ⟨e1, h⟩ := h
  subst e1
  rcases hR : vs_all f T 70 0 (vs_0 hmm) 0 with ⟨kk, pp⟩ | ⟨c, D'⟩
  · rw [hR] at h
    obtain ⟨e2, hPf, e15, e16, e5, e48, o48, hWn, rows, o0⟩ := h
    subst e2
    have hx1 : jX n M1 P1 D s pl f 0 y k := by
      obtain ⟨x1, x2, x3, x4, x5, x6, x7, x8⟩ := hx
      refine ⟨x1, zs_X_pf hPf x2, ?_, ⟨v, v', hv, ⟨by rw [hPf.1 0 (by omega)]; exact hB.1, zv_ok_mono hB.2.1 (Nat.le_refl _) (fun q q1 q2 => hPf.1 q (by omega)), hB.2.2.1, zv_rep_fr hB.2.2.2.1 (fun q q1 q2 => rows q (by omega) (by omega) (by omega) (by omega) (by omega) (by omega) (by omega)), zm_rep_fr hB.2.2.2.2.1 (fun q q1 q2 => rows q (by omega) (by omega) (by omega) (by omega) (by omega) (by omega) (by omega)), jz_m hB.2.2.2.2.2 (rows 3 (by omega) (by omega) (by omega) (by omega) (by omega) (by omega) (by omega)) (rows 4 (by omega) (by omega) (by omega) (by omega) (by omega) (by omega) (by omega))⟩, by rw [hPf.1 0 (by omega)]; exact h11, zv_ok_mono hok' (Nat.le_refl _) (fun q q1 q2 => hPf.1 q (by omega)), jn_A hA (fun q q1 q2 => rows q (by omega) (by omega) (by omega) (by omega) (by omega) (by omega) (by omega)), jv_W hW (fun q q1 q2 => rows q (by omega) (by omega) (by omega) (by omega) (by omega) (by omega) (by omega)), hWn⟩, zx_past_P (zx_past_cg x5 (o0 12 (by omega) (by omega)) (o0 13 (by omega) (by omega)) (fun q hq => rows q (by omega) (by omega) (by omega) (by omega) (by omega) (by omega) (by omega))) (fun q hq => hPf.1 q (by omega)), jT0 e5, by rw [o0 17 (by omega) (by omega)]; exact x7, by rw [o0 14 (by omega) (by omega)]; exact x8⟩
      unfold zs_M at *
      rw [hPf.1 79 (by omega)]
      exact x3
    have hm1 := jM_fr (M' := M1) (L' := L1) hm (fun q q1 q2 => ⟨rows q (by omega) (by omega) (by omega) (by omega) (by omega) (by omega) (by omega), rfl⟩)
    refine ⟨_, rfl, (cm_valley hx1.1 hx1.2.2.1 hT hm1.2.2.2.2.1 hm1.2.2.2.2.2.1 hm1.1 hmm).post (fun r2 M2 L2 P2 g => ?_)⟩
    obtain ⟨g0, g⟩ := g
    rw [hR] at g
    obtain ⟨g1, -, g7, g8, g9, g81, o81, hH⟩ := g
    subst g0 g1
    refine ⟨rfl, D, s, pl, f, 0, y, k, jP_T hp, jX_fr hx1 (fun q hq => mdH_row hH (by omega) (by omega) (by omega)), jM_c hm1 (fun q hq => mdH_row hH (by unfold sp_wq at hq; omega) (by unfold sp_wq at hq; omega) (by unfold sp_wq at hq; omega)) (mdH_V hH hm1.2.1.1) (mdH_row hH (by omega) (by omega) (by omega)) (mdH_row hH (by omega) (by omega) (by omega)) (mdH_79 hH (by omega)) (mdH_79 hH (by omega)) (mdH_79 hH (by omega)) (mdH_79 hH (by omega)) hH.2.2.2.2.1 (by rw [hH.2.2.1 79 (by omega)]) g9, ?_⟩
    have r0 : M2 0 = M1 0 := mdH_row hH (by omega) (by omega) (by omega)
    have r48 : M2 48 = M1 48 := mdH_row hH (by omega) (by omega) (by omega)
    have r47 : M2 47 = M 47 := (mdH_row hH (by omega) (by omega) (by omega)).trans (rows 47 (by omega) (by omega) (by omega) (by omega) (by omega) (by omega) (by omega))
    have r153 : M2 153 = M 153 := (mdH_row hH (by omega) (by omega) (by omega)).trans (rows 153 (by omega) (by omega) (by omega) (by omega) (by omega) (by omega) (by omega))
    have r81 : M1 81 = M 81 := rows 81 (by omega) (by omega) (by omega) (by omega) (by omega) (by omega) (by omega)
    refine ⟨by rw [g7, r0, e15], by rw [g8, r0, e16], fun j hj => ?_, fun i hi => by rw [r153, r47]; exact he.2.2.2 i hi⟩
    rw [r48]
    by_cases q : j = 1
    · subst q
      rw [g81, e48, r81, he.2.2.1 1 hj]
    · rw [o81 j q, o48 j q, r81]
      exact he.2.2.1 j hj
  · rw [hR] at h
    obtain ⟨e2, ⟨p10, p11, pr, p0, p8⟩, e15, e16, e5, e13, ⟨w', zd⟩, hrep, rows, o0⟩ := h
    subst e2
    have hx1 : jX n M1 P1 D' (vs_s0 D') [] f 0 y k := by
      obtain ⟨x1, x2, x3, x4, x5, x6, x7, x8⟩ := hx
      refine ⟨x1, zs_X_pf0 pr p0 p8 x2, ?_, ⟨v', v, by omega, ⟨p10, zv_ok_mono hok' (Nat.le_refl _) (fun q q1 q2 => pr q (by omega) (by omega)), by omega, zd.1, hrep, jz_m hB.2.2.2.2.2 (rows 3 (by omega) (by omega) (by omega) (by omega) (by omega) (by omega) (by omega)) (rows 4 (by omega) (by omega) (by omega) (by omega) (by omega) (by omega) (by omega))⟩, p11, zv_ok_mono hB.2.1 (Nat.le_refl _) (fun q q1 q2 => pr q (by have := hB.2.2.1; omega) (by have := hB.2.2.1; omega)), zd.2.1, ⟨zd.2.2.1, _, zd.2.2.2.1⟩, jv_W hW (fun q q1 q2 => rows q (by omega) (by omega) (by omega) (by omega) (by omega) (by omega) (by omega))⟩, zx_past_nil (zx_past_P x5 (fun q hq => pr q (by omega) (by omega))) (o0 12 (by omega) (by omega) (by omega)) e13, jT0 e5, by rw [o0 17 (by omega) (by omega) (by omega)]; exact x7, by rw [o0 14 (by omega) (by omega) (by omega)]; exact x8⟩
      unfold zs_M at *
      rw [pr 79 (by omega) (by omega)]
      exact x3
    have hm1 := jM_fr (M' := M1) (L' := L1) hm (fun q q1 q2 => ⟨rows q (by omega) (by omega) (by omega) (by omega) (by omega) (by omega) (by omega), rfl⟩)
    refine ⟨_, rfl, (cm_valley hx1.1 hx1.2.2.1 hT hm1.2.2.2.2.1 hm1.2.2.2.2.2.1 hm1.1 hmm).post (fun r2 M2 L2 P2 g => ?_)⟩
    obtain ⟨g0, g⟩ := g
    rw [hR] at g
    obtain ⟨g1, g7, g8, g9, g70, hT3, gL, gr, gj⟩ := g
    subst g0 g1
    have hok := (vs_all_ok hT hp.2.2.2.2.2.1 70 0 (vs_0 hmm) 0 (Nat.zero_le _) (vs_0_ok hmm) c D' hR).1
    refine ⟨rfl, D', vs_s0 D', [], f, 0, y, k, ⟨hok, jo_s0 hok, Nat.zero_le _, fun s' hs' => by simp at hs', Nat.zero_le _, fun i hi => absurd hi (Nat.not_lt_zero _), hp.2.2.2.2.2.2⟩, jX_fr hx1 (fun q hq => gr q (by omega) (by omega) (by omega)), ?_, ?_⟩
    · refine ⟨fun q hq k hk => ?_, ⟨hT3.1, hT3.2.1, by rw [gj 67 (by omega) (by omega)]; exact hm1.2.1.2.2⟩, hT3.2.2, zq_past_nil hm1.2.2.2.1 g70 (gj 71 (by omega) (by omega)), by rw [g9]; rfl, fun i hi => absurd hi (Nat.not_lt_zero _), by rw [gL 79 (by omega)]; exact hm1.2.2.2.2.2.2.1, by rw [gj 105 (by omega) (by omega)]; exact hm1.2.2.2.2.2.2.2⟩
      have hq2 := hq
      unfold sp_wq at hq2
      rw [gr q (by omega) (by omega) (by omega)]
      exact hm1.1 q hq k hk
    · have r0 : M2 0 = M1 0 := gr 0 (by omega) (by omega) (by omega)
      have rr : ∀ q, q = 47 ∨ q = 48 ∨ q = 81 ∨ q = 153 → M2 q = M q := fun q hq => (gr q (by omega) (by omega) (by omega)).trans (rows q (by omega) (by omega) (by omega) (by omega) (by omega) (by omega) (by omega))
      exact ⟨by rw [g7, r0, e15], by rw [g8, r0, e16], fun j hj => by rw [rr 81 (by omega), rr 48 (by omega)]; exact he.2.2.1 j hj, fun i hi => by rw [rr 153 (by omega), rr 47 (by omega)]; exact he.2.2.2 i hi⟩
def zprL (G : zk_G) (n : Nat) (M : zk_MI) (L : zk_ML) (P : zk_MP) (yc : Nat) (avc : List Value) (ym : Nat) (avm : List Value) : Prop := ∃ d1 d2 n1, d1 ≤ 45 ∧ d2 ≤ 45 ∧ n1 ≤ 274 ∧ zk_C G d1 yc avc n M L P n1 (fun r M1 L1 P1 => ∃ x : Int64, r = some (.long x) ∧ zk_C G d2 ym avm n1 M1 L1 P1 n1 (fun r2 M2 L2 P2 => r2 = some (.long x) ∧ JI n1 M2 L2 P2))
theorem zj_ask (hJ : zk_JS G) (h : JI n M L P) (x1 : Int32) : zprL G n M L P 141 [.ref 0, .int x1] 304 [.ref 79, .int x1] := by
  obtain ⟨D, s, pl, f, T, y, k, hp, hx, hm, he⟩ := h
  obtain ⟨v, hv, hB, hA⟩ := jB hx
  have hT := hp.2.2.2.2.1
  refine ⟨45, 9, n, by decide, by decide, zx_274 hx.2.2.2.2.1, (ct_askA hJ hx.1 hx.2.1 hp.1.1 hB hx.2.2.2.2.2.1 x1).post (fun r M1 L1 P1 h => ?_)⟩
  obtain ⟨e1, hPf, e5, h1, h2⟩ := h
  subst e1
  by_cases h0 : 0 ≤ x1.toInt ∧ x1.toInt < vNq D.1
  · obtain ⟨e2, e15, e16, hz, o0, rows⟩ := h2 h0
    subst e2
    have hrow : ∀ q, q = 6 ∨ 11 < q → M1 q = M q := fun q hq => rows q (by omega) (by omega) (by omega) (by omega) (by omega) (by omega) (by omega) (by omega) (by omega) (by omega)
    have hx1 : jX n M1 P1 D s pl f 0 y k := by
      obtain ⟨x1, x2, x3, x4, x5, x6, x7, x8⟩ := hx
      refine ⟨x1, zs_X_pf hPf x2, ?_, jV_to x4 (Nat.le_refl _) (fun q q1 q2 => hrow q (by omega)) (fun q q1 q2 => hPf.1 q (by omega)) ⟨by rw [hPf.1 0 (by omega)], by rw [hPf.1 0 (by omega)]⟩ (zm_rep_fr (jV_s x4).1 (fun q q1 q2 => hrow q (by omega))) hz, zx_past_P (zx_past_cg x5 (o0 12 (by omega) (by omega)) (o0 13 (by omega) (by omega)) (fun q hq => hrow q (by omega))) (fun q hq => hPf.1 q (by omega)), jT0 e5, by rw [o0 17 (by omega) (by omega)]; exact x7, by rw [o0 14 (by omega) (by omega)]; exact x8⟩
      unfold zs_M at *
      rw [hPf.1 79 (by omega)]
      exact x3
    have hm1 := jM_fr (M' := M1) (L' := L1) hm (fun q q1 q2 => ⟨hrow q (by omega), rfl⟩)
    refine ⟨_, rfl, (cm_ask hx1.1 hx1.2.2.1 hp.1.1 hm1.2.1.1 hm1.2.1.2.1 hp.2.1 hT hm1.2.2.2.2.1 hm1.2.2.2.2.2.1 hm1.1 x1).post (fun r2 M2 L2 P2 g => ?_)⟩
    obtain ⟨g0, g9, -, g⟩ := g
    obtain ⟨g1, g7, g8, f1, f2, f3, f4⟩ := g h0
    subst g0 g1
    refine ⟨rfl, D, s, pl, f, 0, y, k, jP_T hp, jX_fr hx1 (fun q hq => f1 q (by omega) (by omega) (by omega)), jM_c hm1 (fun q hq => f1 q (by unfold sp_wq at hq; omega) (by unfold sp_wq at hq; omega) (by unfold sp_wq at hq; omega)) (zq_V_fr hm1.2.1.1 (fun q q1 q2 => f1 q (by omega) (by omega) (by omega))) (f1 126 (by omega) (by omega) (by omega)) (f1 130 (by omega) (by omega) (by omega)) (f2 67 (by omega) (by omega) (by omega) (by omega)) (f2 70 (by omega) (by omega) (by omega) (by omega)) (f2 71 (by omega) (by omega) (by omega) (by omega)) (f2 105 (by omega) (by omega) (by omega) (by omega)) (fun i _ => by rw [f3 113 (by omega) (by omega)]) (f4 72 (by omega)) g9, ?_⟩
    have r0 : M2 0 = M1 0 := f1 0 (by omega) (by omega) (by omega)
    have rr : ∀ q, q = 47 ∨ q = 48 ∨ q = 81 ∨ q = 153 → M2 q = M q := fun q hq => (f1 q (by omega) (by omega) (by omega)).trans (hrow q (by omega))
    exact ⟨by rw [g7, r0, e15], by rw [g8, r0, e16], fun j hj => by rw [rr 81 (by omega), rr 48 (by omega)]; exact he.2.2.1 j hj, fun i hi => by rw [rr 153 (by omega), rr 47 (by omega)]; exact he.2.2.2 i hi⟩
  · obtain ⟨e2, e3, e4⟩ := h1 h0
    subst e2 e3 e4
    have hm1 := jM_e5 hm
    refine ⟨_, rfl, (cm_ask hx.1 hx.2.2.1 hp.1.1 hm1.2.1.1 hm1.2.1.2.1 hp.2.1 hT hm1.2.2.2.2.1 hm1.2.2.2.2.2.1 hm1.1 x1).post (fun r2 M2 L2 P2 g => ?_)⟩
    obtain ⟨g0, g9, g, -⟩ := g
    obtain ⟨g1, g2, g3⟩ := g h0
    subst g0 g1 g2 g3
    exact ⟨rfl, JI_e hp hx hm he⟩
end JCA
/-! at the start -/
theorem JI_0 {M L P M0 L0 P0} (hc : cI M0 P0) (hI : mI M0 L0 P0 154 M L P) (h8 : M 79 8 = -1) (h72 : L 79 72 = lI 1) : JI 154 M L P := by
  obtain ⟨a1, a2, a3, a4, a5, a6, a7⟩ := hI
  obtain ⟨c1, ⟨c2, c3, c4⟩, ⟨c5, c6⟩, ⟨c7, c8, c9⟩, c10, c11, c12, ⟨c13, c14⟩, c15, ⟨c16, c17, M9, c18⟩, c19, c20⟩ := hc
  have eM : ∀ q, q < 79 → M q = M0 q := fun q hq => (a1 q hq).1
  have eP : ∀ q, q < 79 → P q = P0 q := fun q hq => (a1 q hq).2.2
  have hv0 := vs_0_ok (fun _ => 0)
  have r126 : ∀ k, M 126 k = nI 0 := fun k => a4 126 (by omega) (by omega) (by unfold sp_wq; omega) (by omega) (by omega) k
  have r112 : ∀ k, M 112 k = nI 0 := fun k => a4 112 (by omega) (by omega) (by unfold sp_wq; omega) (by omega) (by omega) k
  have r114 : ∀ k, M 114 k = nI 0 := fun k => a4 114 (by omega) (by omega) (by unfold sp_wq; omega) (by omega) (by omega) k
  have r81 : ∀ k, M 81 k = 0 := fun k => a4 81 (by omega) (by omega) (by unfold sp_wq; omega) (by omega) (by omega) k
  have z0 : ∀ k, M0 0 k = 0 → M 0 k = 0 := fun k hk => by rw [eM 0 (by omega)]; exact hk
  refine ⟨vs_0 (fun _ => 0), vs_s0 (vs_0 (fun _ => 0)), [], fun _ => 0, 0, 1, 0, ⟨hv0, jo_s0 hv0, Nat.zero_le _, fun s' hs' => by simp at hs', Nat.zero_le _, fun i hi => absurd hi (Nat.not_lt_zero _), by decide, by decide⟩, ⟨Nat.le_refl _, ?_, ?_, ?_, ?_, ⟨?_, Nat.zero_le _, fun i hi => absurd hi (Nat.not_lt_zero _)⟩, ?_, ?_⟩, ⟨?_, ⟨?_, ?_, ?_⟩, ?_, ?_, ?_, fun i hi => absurd hi (Nat.not_lt_zero _), ?_, ?_⟩, ⟨?_, ?_, fun j hj => ?_, fun i hi => absurd hi (Nat.not_lt_zero _)⟩⟩
  · unfold zs_X at c1 ⊢
    simp only [eP 0 (by decide), eP 1 (by decide), eP 5 (by decide), eP 7 (by decide), eP 8 (by decide), eP 10 (by decide), eP 11 (by decide), eP 12 (by decide), eP 14 (by decide), eP 15 (by decide), eP 21 (by decide), eP 27 (by decide), eP 33 (by decide), eP 40 (by decide), eP 49 (by decide), eP 50 (by decide), eP 52 (by decide), eP 54 (by decide), eP 64 (by decide), eP 65 (by decide), eP 67 (by decide), eP 69 (by decide)]
    exact c1
  · exact ⟨a2 (0, 80) (by decide) (by decide), a2 (9, 81) (by decide) (by decide), a2 (10, 82) (by decide) (by decide), a2 (11, 83) (by decide) (by decide), a2 (12, 84) (by decide) (by decide), a2 (13, 85) (by decide) (by decide), a2 (14, 86) (by decide) (by decide), a2 (15, 87) (by decide) (by decide), a2 (16, 88) (by decide) (by decide), a2 (17, 89) (by decide) (by decide), a2 (18, 90) (by decide) (by decide), a2 (19, 91) (by decide) (by decide), a2 (20, 92) (by decide) (by decide), a2 (21, 93) (by decide) (by decide), a2 (22, 94) (by decide) (by decide), a2 (23, 95) (by decide) (by decide), a2 (24, 96) (by decide) (by decide), a2 (25, 97) (by decide) (by decide), a2 (26, 98) (by decide) (by decide), a2 (27, 99) (by decide) (by decide), a2 (28, 100) (by decide) (by decide), a2 (29, 101) (by decide) (by decide), a2 (30, 102) (by decide) (by decide), a2 (31, 103) (by decide) (by decide), a2 (32, 104) (by decide) (by decide), a2 (33, 105) (by decide) (by decide), a2 (34, 106) (by decide) (by decide), a2 (35, 107) (by decide) (by decide), a2 (36, 108) (by decide) (by decide), a2 (37, 109) (by decide) (by decide), a2 (38, 110) (by decide) (by decide), a2 (39, 111) (by decide) (by decide), a2 (41, 112) (by decide) (by decide), a2 (42, 113) (by decide) (by decide), a2 (43, 114) (by decide) (by decide), a2 (44, 115) (by decide) (by decide), a2 (45, 116) (by decide) (by decide), a2 (46, 117) (by decide) (by decide), a2 (47, 118) (by decide) (by decide), a2 (48, 119) (by decide) (by decide), a2 (49, 120) (by decide) (by decide), a2 (50, 121) (by decide) (by decide), a2 (53, 122) (by decide) (by decide), a2 (55, 123) (by decide) (by decide), a2 (59, 124) (by decide) (by decide), a2 (61, 125) (by decide) (by decide), a2 (62, 126) (by decide) (by decide), a2 (63, 127) (by decide) (by decide), a2 (64, 128) (by decide) (by decide), a2 (68, 129) (by decide) (by decide), a2 (69, 130) (by decide) (by decide), a2 (75, 131) (by decide) (by decide), a2 (76, 132) (by decide) (by decide), a2 (77, 133) (by decide) (by decide), a2 (78, 134) (by decide) (by decide), a2 (79, 135) (by decide) (by decide), a2 (80, 136) (by decide) (by decide), a2 (81, 137) (by decide) (by decide), a2 (82, 138) (by decide) (by decide), a2 (83, 139) (by decide) (by decide), a2 (84, 140) (by decide) (by decide), a2 (85, 141) (by decide) (by decide), a2 (86, 142) (by decide) (by decide), a2 (87, 143) (by decide) (by decide), a2 (88, 144) (by decide) (by decide), a2 (89, 145) (by decide) (by decide), a2 (90, 146) (by decide) (by decide), a2 (91, 147) (by decide) (by decide), a2 (92, 148) (by decide) (by decide), a2 (93, 149) (by decide) (by decide), a2 (94, 150) (by decide) (by decide), a2 (96, 151) (by decide) (by decide), a2 (100, 152) (by decide) (by decide), a2 (104, 153) (by decide) (by decide)⟩
  · have hh57 : ∀ i, i < 6 → M 57 i = nI ((fun _ => 0 : Nat → Nat) i) ∧ (fun _ => 0 : Nat → Nat) i < 6 := fun i hi => ⟨by rw [eM 57 (by omega)]; exact c17 i, by show 0 < 6; decide⟩
    have hh72 : ∀ i, i < 6 → M 72 i = nI ((fun _ => 0 : Nat → Nat) i) ∧ (fun _ => 0 : Nat → Nat) i < 6 := fun i hi => ⟨by rw [eM 72 (by omega)]; exact c20 i, by show 0 < 6; decide⟩
    obtain ⟨l1, l2, l3, l4, l5, l6, l7, l8⟩ := c18
    have m50 : M 50 2 = nI 0 := by rw [eM 50 (by omega)]; exact l1.1
    have m52 : M 52 2 = nI 0 := by rw [eM 52 (by omega)]; exact l1.2.1
    have m54 : M 54 2 = nI 0 := by rw [eM 54 (by omega)]; exact l1.2.2
    refine ⟨49, 64, Or.inl ⟨rfl, rfl⟩, ⟨by rw [eP 0 (by omega)]; exact c2, zv_ok_mono c5 (by decide) (fun q q1 q2 => eP q (by omega)), by decide, ?_, ?_, ?_⟩, by rw [eP 0 (by omega)]; exact c3, zv_ok_mono c6 (by decide) (fun q q1 q2 => eP q (by omega)), ⟨⟨m50, fun i j hi => absurd hi (Nat.not_lt_zero _)⟩, ⟨m52, fun i j hi => absurd hi (Nat.not_lt_zero _)⟩, m54, fun i j hi => absurd hi (Nat.not_lt_zero _)⟩, ⟨⟨by rw [eM 50 (by omega)]; exact c16.1, by rw [eM 52 (by omega)]; exact c16.2.1, by rw [eM 54 (by omega)]; exact c16.2.2⟩, _, hh57⟩, ⟨⟨by rw [eM 65 (by omega)]; exact c19.1, by rw [eM 67 (by omega)]; exact c19.2.1, by rw [eM 69 (by omega)]; exact c19.2.2⟩, _, hh72⟩⟩
    · refine ⟨m50, m52, m54, fun a b ha hb => ?_, fun t ht => absurd ht (Nat.not_lt_zero _), fun t ht => absurd ht (Nat.not_lt_zero _), fun k hk => ?_, ?_, ?_, ?_, ?_⟩
      · rw [eM 56 (by omega)]; exact l2 _ (by omega)
      · show M 62 k = -1
        rw [eM 62 (by omega)]; exact l4 k hk
      · rw [eM 49 (by omega)]; exact l5.1
      · rw [eM 49 (by omega)]; exact l5.2.1
      · rw [eM 49 (by omega)]; exact l5.2.2.1
      · rw [eM 49 (by omega)]; exact l5.2.2.2
    · refine ⟨⟨by rw [eM 40 (by omega)]; exact c13, Nat.zero_le _, fun p hp => ⟨by rw [eM 41 (by omega)]; exact (c14 p).1, by show 0 < 6; decide⟩, fun p t hp ht => ⟨by rw [eM 42 (by omega)]; exact (c14 _).2.1, Nat.zero_le _⟩⟩, fun p t hp ht => ⟨by rw [eM 43 (by omega)]; exact (c14 _).2.2.1, Nat.zero_le _⟩, fun t ht => ⟨by rw [eM 44 (by omega)]; exact (c14 _).2.2.2.1, Nat.zero_le _⟩, fun t ht => ⟨by rw [eM 45 (by omega)]; exact (c14 _).2.2.2.2, by show 0 < 64; decide⟩⟩
    · exact ⟨fun k hk => by rw [eM 3 (by omega), c11 k]; exact nI_v (k := 0) (by decide), fun k hk => by rw [eM 4 (by omega), c12 k]; exact nI_v (k := 0) (by decide)⟩
  · refine ⟨0, 0, rfl, by decide, by decide, fun _ => rfl, Nat.zero_le _, z0 12 (c9 12 (by omega) (by omega)), z0 13 (c9 13 (by omega) (by omega)), fun k hk => by rw [eP 46 (by omega), c4 k, if_neg (Nat.not_lt_zero _)], fun k hk => absurd hk (Nat.not_lt_zero _), fun i s h => by simp at h⟩
  · rw [eM 5 (by omega)]; exact c10
  · rw [eM 0 (by omega)]; exact c8
  · exact z0 14 (c9 14 (by omega) (by omega))
  · exact fun q hq => a3 q hq (by unfold sp_wq at hq; omega)
  · refine ⟨r112 3, r112 4, r112 5, fun a b ha hb => r114 _, fun t ht => absurd ht (Nat.not_lt_zero _), fun t ht => absurd ht (Nat.not_lt_zero _), fun k hk => ?_, (a5 (by decide)).1, (a5 (by decide)).2.1, (a5 (by decide)).2.2.1, (a5 (by decide)).2.2.2⟩
    show M 120 (4 + k) = -1
    obtain ⟨q1, q2, q3, q4⟩ := a6 (by decide)
    rcases (show k = 0 ∨ k = 1 ∨ k = 2 ∨ k = 3 by omega) with rfl | rfl | rfl | rfl
    · exact q1
    · exact q2
    · exact q3
    · exact q4
  · exact ⟨⟨r126 0, fun p hp => absurd hp (Nat.not_lt_zero _), fun p t hp => absurd hp (Nat.not_lt_zero _)⟩, fun t ht => absurd ht (Nat.not_lt_zero _), fun t ht => absurd ht (Nat.not_lt_zero _), fun p t hp => absurd hp (Nat.not_lt_zero _)⟩
  · exact a7 67 (by omega)
  · intro k i hk hi
    exfalso
    have : vs_cnt (vs_0 (fun _ => 0)).1 k = 0 := by
      unfold vs_cnt
      split
      · rfl
      · split <;> rfl
    omega
  · exact ⟨a7 70 (by omega), Nat.zero_le _, 0, by decide, a7 71 (by omega), fun i s h => by simp at h⟩
  · exact a7 1 (by omega)
  · exact h72
  · exact a7 105 (by omega)
  · rw [a7 7 (by omega)]; exact (z0 15 (c9 15 (by omega) (by omega))).symm
  · rw [h8, eM 0 (by omega)]; exact c7.symm
  · rw [r81 j, eM 48 (by omega)]; exact (c15 j).symm
