/-! ===== class and model side by side ===== -/
/-- what may stand -/
def jP (D : vs_D) (s : sp_S) (pl : List sp_S) (f : Nat → Nat) (T y k : Nat) : Prop := vs_ok D ∧ sp_sok D.1 s ∧ sDay s ≤ 9999 ∧ (∀ s' ∈ pl, sp_sok D.1 s' ∧ sDay s' ≤ 9999) ∧ T ≤ 1600 ∧ (∀ i, i < T → f i ≤ 255) ∧ y < 2147483648 ∧ k ≤ 219
def jV (n : Nat) (M : zk_MI) (P : zk_MP) (D : vs_D) (s : sp_S) : Prop := ∃ v v', (v = 49 ∧ v' = 64 ∨ v = 64 ∧ v' = 49) ∧ zxB n M P v D.1 s ∧ P 0 11 = some v' ∧ zv_ok n P v' ∧ zn_A M v D ∧ zv_W M v ∧ zv_W M v'
/-- the class -/
def jX (n : Nat) (M : zk_MI) (P : zk_MP) (D : vs_D) (s : sp_S) (pl : List sp_S) (f : Nat → Nat) (T y k : Nat) : Prop := 154 ≤ n ∧ zs_X P ∧ zs_M P ∧ jV n M P D s ∧ zx_past n M P pl ∧ zt_c M f T ∧ M 0 17 = nI y ∧ M 0 14 = nI k
/-- the model -/
def jM (M : zk_MI) (L : zk_ML) (D : vs_D) (s : sp_S) (pl : List sp_S) (f : Nat → Nat) (T y k : Nat) : Prop := mw_ok M ∧ zqB M D.1 s ∧ (∀ k i, k < 3 → i < vs_cnt D.1 k → L 113 (30 + 10 * k + i) = lI (nm_v (dNm D k i) : Int)) ∧ zq_past M D.1 pl ∧ M 79 1 = nI T ∧ (∀ i, i < T → M 80 i = nI (f i) ∧ f i ≤ 255) ∧ L 79 72 = lI y ∧ M 79 105 = nI k
/-- FAULT, refusals, octets: the same in both -/
def jE (M : zk_MI) (k : Nat) : Prop := M 79 7 = M 0 15 ∧ M 79 8 = M 0 16 ∧ (∀ j, j < 6 → M 81 j = M 48 j) ∧ ∀ i, i < k → M 153 i = M 47 i
def JI (n : Nat) (M : zk_MI) (L : zk_ML) (P : zk_MP) : Prop := ∃ D s pl f T y k, jP D s pl f T y k ∧ jX n M P D s pl f T y k ∧ jM M L D s pl f T y k ∧ jE M k
section JNT
variable {G : zk_G} {n : Nat} {M M' : zk_MI} {L L' : zk_ML} {P P' : zk_MP} {D : vs_D} {s s' : sp_S} {pl pl' : List sp_S} {f f' : Nat → Nat} {T T' y y' k k' : Nat}
theorem jn_A {v : Nat} (h : zn_A M v D) (hq : ∀ q, v ≤ q → q ≤ v + 14 → M' q = M q) : zn_A M' v D := by
  obtain ⟨⟨a1, a2⟩, ⟨b1, b2⟩, c1, c2⟩ := h
  exact ⟨⟨by rw [hq _ (by omega) (by omega)]; exact a1, fun i j hi hj => by rw [hq _ (by omega) (by omega)]; exact a2 i j hi hj⟩, ⟨by rw [hq _ (by omega) (by omega)]; exact b1, fun i j hi hj => by rw [hq _ (by omega) (by omega)]; exact b2 i j hi hj⟩, by rw [hq _ (by omega) (by omega)]; exact c1, fun i j hi hj => by rw [hq _ (by omega) (by omega)]; exact c2 i j hi hj⟩
theorem jv_W {v : Nat} (h : zv_W M v) (hq : ∀ q, v ≤ q → q ≤ v + 14 → M' q = M q) : zv_W M' v := by
  obtain ⟨⟨a1, a2, a3⟩, hm, hh⟩ := h
  exact ⟨⟨by rw [hq _ (by omega) (by omega)]; exact a1, by rw [hq _ (by omega) (by omega)]; exact a2, by rw [hq _ (by omega) (by omega)]; exact a3⟩, hm, fun i hi => by rw [hq _ (by omega) (by omega)]; exact hh i hi⟩
theorem jz_m (h : zk_mach M) (h3 : M' 3 = M 3) (h4 : M' 4 = M 4) : zk_mach M' := ⟨fun k hk => by rw [h3]; exact h.1 k hk, fun k hk => by rw [h4]; exact h.2 k hk⟩
/-- the VALLEYS stay, what is now may be new, more may be made -/
theorem jV_to {n2 : Nat} (h : jV n M P D s) (hn : n ≤ n2) (hq : ∀ q, 49 ≤ q → q < 79 → M' q = M q) (hP : ∀ q, 49 ≤ q → q < 79 → P' q = P q) (h0 : P' 0 10 = P 0 10 ∧ P' 0 11 = P 0 11) (hs : zm_rep M' 40 s') (hm : zk_mach M') : jV n2 M' P' D s' := by
  obtain ⟨v, v', hv, ⟨b1, b2, b3, b4, b5, b6⟩, h11, hok, hA, hW, hW'⟩ := h
  have hb : ∀ q, v ≤ q → q ≤ v + 14 → M' q = M q := fun q a b => hq q (by omega) (by omega)
  have hb' : ∀ q, v' ≤ q → q ≤ v' + 14 → M' q = M q := fun q a b => hq q (by omega) (by omega)
  exact ⟨v, v', hv, ⟨by rw [h0.1]; exact b1, zv_ok_mono b2 hn (fun q a b => hP q (by omega) (by omega)), b3, zv_rep_fr b4 hb, hs, hm⟩, by rw [h0.2]; exact h11, zv_ok_mono hok hn (fun q a b => hP q (by omega) (by omega)), jn_A hA hb, jv_W hW hb, jv_W hW' hb'⟩
theorem jV_s (h : jV n M P D s) : zm_rep M 40 s ∧ zk_mach M := by
  obtain ⟨v, v', hv, ⟨b1, b2, b3, b4, b5, b6⟩, -⟩ := h
  exact ⟨b5, b6⟩
theorem jV_fr (h : jV n M P D s) (hq : ∀ q, (q = 3 ∨ q = 4 ∨ (40 ≤ q ∧ q ≤ 45) ∨ (49 ≤ q ∧ q < 79)) → M' q = M q) : jV n M' P D s :=
  jV_to h (Nat.le_refl _) (fun q a b => hq q (by omega)) (fun _ _ _ => rfl) ⟨rfl, rfl⟩ (zm_rep_fr (jV_s h).1 (fun q a b => hq q (by omega))) (jz_m (jV_s h).2 (hq 3 (by omega)) (hq 4 (by omega)))
theorem jX_fr (h : jX n M P D s pl f T y k) (hq : ∀ q, (q < 79 ∨ 154 ≤ q) → M' q = M q) : jX n M' P D s pl f T y k := by
  obtain ⟨h1, h2, h3, h4, h5, h6, h7, h8⟩ := h
  exact ⟨h1, h2, h3, jV_fr h4 (fun q hh => hq q (by omega)), zx_past_cg h5 (by rw [hq 0 (by omega)]) (by rw [hq 0 (by omega)]) (fun q hh => hq q (by omega)), zt_c_cg h6 (hq 5 (by omega)) (hq 6 (by omega)), by rw [hq 0 (by omega)]; exact h7, by rw [hq 0 (by omega)]; exact h8⟩
theorem jM_fr (h : jM M L D s pl f T y k) (hq : ∀ q, 79 ≤ q → q < 154 → M' q = M q ∧ L' q = L q) : jM M' L' D s pl f T y k := by
  obtain ⟨h1, h2, h3, h4, h5, h6, h7, h8⟩ := h
  refine ⟨fun q hw k hk => ?_, ⟨zq_V_fr h2.1 (fun q a b => (hq q (by omega) (by omega)).1), by rw [(hq 126 (by omega) (by omega)).1]; exact h2.2.1, by rw [(hq 79 (by omega) (by omega)).1]; exact h2.2.2⟩, fun k i hk hi => by rw [(hq 113 (by omega) (by omega)).2]; exact h3 k i hk hi, zq_past_cg h4 (hq 130 (by omega) (by omega)).1 (by rw [(hq 79 (by omega) (by omega)).1]) (by rw [(hq 79 (by omega) (by omega)).1]), by rw [(hq 79 (by omega) (by omega)).1]; exact h5, fun i hi => by rw [(hq 80 (by omega) (by omega)).1]; exact h6 i hi, by rw [(hq 79 (by omega) (by omega)).2]; exact h7, by rw [(hq 79 (by omega) (by omega)).1]; exact h8⟩
  rw [(hq q (by unfold sp_wq at hw; omega) (by unfold sp_wq at hw; omega)).1]
  exact h1 q hw k hk
/-- an act of the class -/
theorem jX_act {n2 : Nat} (h : jX n M P D s pl f T y k) (hA : zxA n n2 M M' L L' P P') (hs : zm_rep M' 40 s') (hm : zk_mach M') (hp : zx_past n2 M' P' pl') (hy : M' 0 17 = nI y') : jX n2 M' P' D s' pl' f T y' k := by
  obtain ⟨h1, h2, h3, h4, h5, h6, h7, h8⟩ := h
  obtain ⟨a1, a2, a3, a4, a5, a6⟩ := hA
  refine ⟨by omega, zs_X_cg h2 a6, ?_, jV_to h4 a1 (fun q a b => a3 q (by omega) (by omega) (by omega) (by omega) (by omega) (by omega) (by omega)) (fun q a b => a6 q (by omega) (by omega)) ⟨by rw [a6 0 (by omega) (by omega)], by rw [a6 0 (by omega) (by omega)]⟩ hs hm, hp, zt_c_cg h6 (a3 5 (by omega) (by omega) (by omega) (by omega) (by omega) (by omega) (by omega)) (a3 6 (by omega) (by omega) (by omega) (by omega) (by omega) (by omega) (by omega)), hy, by rw [a4 14 (by omega) (by omega) (by omega)]; exact h8⟩
  unfold zs_M at *
  rw [a6 79 (by omega) (by omega)]
  exact h3
/-- an act of the model -/
theorem jM_act (h : jM M L D s pl f T y k) (hr : ∀ q, q ≠ 79 → q ≠ 125 → q ≠ 126 → q ≠ 128 → q ≠ 130 → M' q = M q) (hj : ∀ j, j ≠ 60 → j ≠ 65 → j ≠ 66 → j ≠ 70 → j ≠ 71 → j ≠ 73 → M' 79 j = M 79 j) (hL : L' 113 = L 113) (hS : zq_S (M' 126) D.1 s') (hp : zq_past M' D.1 pl') (hy : L' 79 72 = lI y') : jM M' L' D s' pl' f T y' k := by
  obtain ⟨h1, h2, h3, h4, h5, h6, h7, h8⟩ := h
  refine ⟨fun q hw k hk => ?_, ⟨zq_V_fr h2.1 (fun q a b => hr q (by omega) (by omega) (by omega) (by omega) (by omega)), hS, by rw [hj 67 (by omega) (by omega) (by omega) (by omega) (by omega) (by omega)]; exact h2.2.2⟩, fun k i hk hi => by rw [hL]; exact h3 k i hk hi, hp, by rw [hj 1 (by omega) (by omega) (by omega) (by omega) (by omega) (by omega)]; exact h5, fun i hi => by rw [hr 80 (by omega) (by omega) (by omega) (by omega) (by omega)]; exact h6 i hi, hy, by rw [hj 105 (by omega) (by omega) (by omega) (by omega) (by omega) (by omega)]; exact h8⟩
  have hw2 := hw
  unfold sp_wq at hw2
  rw [hr q (by omega) (by omega) (by omega) (by omega) (by omega)]
  exact h1 q hw k hk
theorem jE_act (h : jE M k) (hr : ∀ q, q ≠ 79 → q ≠ 125 → q ≠ 126 → q ≠ 128 → q ≠ 130 → M' q = M q) (hj : ∀ j, j ≠ 60 → j ≠ 65 → j ≠ 66 → j ≠ 70 → j ≠ 71 → j ≠ 73 → M' 79 j = M 79 j) : jE M' k := by
  obtain ⟨h1, h2, h3, h4⟩ := h
  exact ⟨by rw [hj 7 (by omega) (by omega) (by omega) (by omega) (by omega) (by omega), hr 0 (by omega) (by omega) (by omega) (by omega) (by omega)]; exact h1, by rw [hj 8 (by omega) (by omega) (by omega) (by omega) (by omega) (by omega), hr 0 (by omega) (by omega) (by omega) (by omega) (by omega)]; exact h2, fun j hj => by rw [hr 81 (by omega) (by omega) (by omega) (by omega) (by omega), hr 48 (by omega) (by omega) (by omega) (by omega) (by omega)]; exact h3 j hj, fun i hi => by rw [hr 153 (by omega) (by omega) (by omega) (by omega) (by omega), hr 47 (by omega) (by omega) (by omega) (by omega) (by omega)]; exact h4 i hi⟩
theorem jE_X (h : jE M k) (h0 : M' 0 15 = M 0 15 ∧ M' 0 16 = M 0 16) (hq : ∀ q, q = 47 ∨ q = 48 ∨ (79 ≤ q ∧ q < 154) → M' q = M q) : jE M' k := by
  obtain ⟨h1, h2, h3, h4⟩ := h
  exact ⟨by rw [h0.1, hq 79 (by omega)]; exact h1, by rw [h0.2, hq 79 (by omega)]; exact h2, fun j hj => by rw [hq 81 (by omega), hq 48 (by omega)]; exact h3 j hj, fun i hi => by rw [hq 153 (by omega), hq 47 (by omega)]; exact h4 i hi⟩
theorem JI_n (h : JI n M L P) : 154 ≤ n ∧ n ≤ 274 := by
  obtain ⟨D, s, pl, f, T, y, k, -, ⟨h1, -, -, -, ⟨a, pf, e, ha, -⟩, -⟩, -⟩ := h
  omega
/-- a call of the class, then the same of the model -/
def zpr (G : zk_G) (n : Nat) (M : zk_MI) (L : zk_ML) (P : zk_MP) (yc : Nat) (avc : List Value) (ym : Nat) (avm : List Value) : Prop := ∃ d1 d2 n1, d1 ≤ 45 ∧ d2 ≤ 45 ∧ n1 ≤ 274 ∧ zk_C G d1 yc avc n M L P n1 (fun r M1 L1 P1 => ∃ x : Int32, r = some (.int x) ∧ zk_C G d2 ym avm n1 M1 L1 P1 n1 (fun r2 M2 L2 P2 => r2 = some (.int x) ∧ JI n1 M2 L2 P2))
theorem zpr_same {d1 d2 yc ym : Nat} {avc avm : List Value} {x : Int32} (hJ : JI n M L P) (hc : zk_C G d1 yc avc n M L P n (zk_same (some (.int x)) M L P)) (hm : zk_C G d2 ym avm n M L P n (zk_same (some (.int x)) M L P)) (h1 : d1 ≤ 45) (h2 : d2 ≤ 45) : zpr G n M L P yc avc ym avm :=
  ⟨d1, d2, n, h1, h2, (JI_n hJ).2, hc.post (fun r M' L' P' h => by
    obtain ⟨rfl, rfl, rfl, rfl⟩ := h
    exact ⟨x, rfl, hm.post (fun r2 M2 L2 P2 g => by
      obtain ⟨rfl, rfl, rfl, rfl⟩ := g
      exact ⟨rfl, hJ⟩)⟩)⟩
theorem zpr_ahead {d1 d2 yc ym : Nat} {avc avm : List Value} {x : Int32} (hp : jP D s pl f T y k) (hx : jX n M P D s pl f T y k) (hm : jM M L D s pl f T y k) (he : jE M k) (hc : zk_C G d1 yc avc n M L P n (fun r M' L' P' => r = some (.int x) ∧ L' = L ∧ P' = P ∧ zk_mach M' ∧ zah M M')) (hmm : ∀ M', zqB M' D.1 s → zk_C G d2 ym avm n M' L P n (fun r M'' L'' P'' => r = some (.int x) ∧ P'' = P ∧ zqQ M' M'' L L'')) (h1 : d1 ≤ 45) (h2 : d2 ≤ 45) : zpr G n M L P yc avc ym avm := by
  have hn : n ≤ 274 := by
    obtain ⟨-, -, -, -, ⟨a, pf, e, ha, -⟩, -⟩ := hx
    omega
  refine ⟨d1, d2, n, h1, h2, hn, hc.post (fun r M1 L1 P1 h => ?_)⟩
  obtain ⟨rfl, rfl, rfl, hz, ha⟩ := h
  have hq : ∀ q, (q = 0 ∨ q = 4 ∨ q = 5 ∨ q = 6 ∨ 39 < q) → M1 q = M q := fun q hh => ha q (by omega) (by omega) (by omega) (by omega) (by omega) (by omega)
  have hx1 : jX n M1 P1 D s pl f T y k := by
    obtain ⟨a1, a2, a3, a4, a5, a6, a7, a8⟩ := hx
    exact ⟨a1, a2, a3, jV_to a4 (Nat.le_refl _) (fun q a b => hq q (by omega)) (fun _ _ _ => rfl) ⟨rfl, rfl⟩ (zm_rep_fr (jV_s a4).1 (fun q a b => hq q (by omega))) hz, zx_past_cg a5 (by rw [hq 0 (by omega)]) (by rw [hq 0 (by omega)]) (fun q hh => hq q (by omega)), zt_c_cg a6 (hq 5 (by omega)) (hq 6 (by omega)), by rw [hq 0 (by omega)]; exact a7, by rw [hq 0 (by omega)]; exact a8⟩
  have hm1 : jM M1 L1 D s pl f T y k := jM_fr hm (fun q a b => ⟨hq q (by omega), rfl⟩)
  have he1 : jE M1 k := jE_X he ⟨by rw [hq 0 (by omega)], by rw [hq 0 (by omega)]⟩ (fun q hh => hq q (by omega))
  refine ⟨x, rfl, (hmm M1 hm1.2.1).post (fun r2 M2 L2 P2 g => ?_)⟩
  obtain ⟨rfl, rfl, g1, g2, g3, g4⟩ := g
  have hr : ∀ q, q ≠ 79 → (q < 125 ∨ 129 < q) → M2 q = M1 q := fun q a b => g1 q a (by omega) (by omega) (by omega) (by omega) (by omega)
  refine ⟨rfl, D, s, pl, f, T, y, k, hp, jX_fr hx1 (fun q hh => hr q (by omega) (by omega)), ?_, ?_⟩
  · obtain ⟨b1, b2, b3, b4, b5, b6, b7, b8⟩ := hm1
    refine ⟨fun q hw k hk => ?_, ⟨zq_V_fr b2.1 (fun q a b => hr q (by omega) (by omega)), zq_S_cg hp.1.1 b2.2.1 g3, by rw [g2 67 (by omega) (by omega) (by omega)]; exact b2.2.2⟩, fun k i hk hi => by rw [g4 113 (by omega)]; exact b3 k i hk hi, zq_past_cg b4 (hr 130 (by omega) (by omega)) (g2 70 (by omega) (by omega) (by omega)) (g2 71 (by omega) (by omega) (by omega)), by rw [g2 1 (by omega) (by omega) (by omega)]; exact b5, fun i hi => by rw [hr 80 (by omega) (by omega)]; exact b6 i hi, by rw [g4 79 (by omega)]; exact b7, by rw [g2 105 (by omega) (by omega) (by omega)]; exact b8⟩
    have hw2 := hw
    unfold sp_wq at hw2
    rw [hr q (by omega) (by omega)]
    exact b1 q hw k hk
  · obtain ⟨b1, b2, b3, b4⟩ := he1
    exact ⟨by rw [g2 7 (by omega) (by omega) (by omega), hr 0 (by omega) (by omega)]; exact b1, by rw [g2 8 (by omega) (by omega) (by omega), hr 0 (by omega) (by omega)]; exact b2, fun j hj => by rw [hr 81 (by omega) (by omega), hr 48 (by omega) (by omega)]; exact b3 j hj, fun i hi => by rw [hr 153 (by omega) (by omega), hr 47 (by omega) (by omega)]; exact b4 i hi⟩
/-! a refusal counted in both -/
theorem jX_ref (h : jX n M P D s pl f T y k) {q i : Nat} {z : Int32} (hq : q = 48 ∨ q = 81) : jX n (zk_up M q i z) P D s pl f T y k := by
  obtain ⟨h1, h2, h3, h4, h5, h6, h7, h8⟩ := h
  exact ⟨h1, h2, h3, jV_fr h4 (fun p hh => zk_up_row (by omega)), zx_past_cg h5 (by rw [zk_up_row (by omega)]) (by rw [zk_up_row (by omega)]) (fun p hh => zk_up_row (by omega)), zt_c_cg h6 (zk_up_row (by omega)) (zk_up_row (by omega)), by rw [zk_up_row (by omega)]; exact h7, by rw [zk_up_row (by omega)]; exact h8⟩
theorem jM_ref (h : jM M L D s pl f T y k) {q i : Nat} {z : Int32} (hq : q = 48 ∨ q = 81) : jM (zk_up M q i z) L D s pl f T y k := by
  obtain ⟨h1, h2, h3, h4, h5, h6, h7, h8⟩ := h
  refine ⟨fun p hw k hk => ?_, ⟨zq_V_fr h2.1 (fun p a b => zk_up_row (by omega)), by rw [zk_up_row (by omega)]; exact h2.2.1, by rw [zk_up_row (by omega)]; exact h2.2.2⟩, h3, zq_past_cg h4 (zk_up_row (by omega)) (by rw [zk_up_row (by omega)]) (by rw [zk_up_row (by omega)]), by rw [zk_up_row (by omega)]; exact h5, fun i hi => by rw [zk_up_row (by omega)]; exact h6 i hi, h7, by rw [zk_up_row (by omega)]; exact h8⟩
  have hw2 := hw
  unfold sp_wq at hw2
  rw [zk_up_row (by omega)]
  exact h1 p hw k hk
theorem jE_ref (h : jE M k) {i : Nat} (hi : i < 6) : jE (zk_up (zk_up M 48 i (M 48 i + 1)) 81 i (zk_up M 48 i (M 48 i + 1) 81 i + 1)) k := by
  obtain ⟨h1, h2, h3, h4⟩ := h
  refine ⟨by rw [zk_up_row (by omega), zk_up_row (by omega), zk_up_row (by omega), zk_up_row (by omega)]; exact h1, by rw [zk_up_row (by omega), zk_up_row (by omega), zk_up_row (by omega), zk_up_row (by omega)]; exact h2, fun j hj => ?_, fun j hj => by rw [zk_up_row (by omega), zk_up_row (by omega), zk_up_row (by omega), zk_up_row (by omega)]; exact h4 j hj⟩
  rw [zk_up_row (show 48 ≠ 81 by omega), zk_up_row (M := M) (show 81 ≠ 48 by omega)]
  by_cases e : j = i
  · subst e
    rw [zk_up_at, zk_up_at, h3 j hj]
  · rw [zk_up_ne (by omega), zk_up_ne (by omega), zk_up_ne (by omega)]
    exact h3 j hj
theorem JI_ref (hp : jP D s pl f T y k) (hx : jX n M P D s pl f T y k) (hm : jM M L D s pl f T y k) (he : jE M k) {i : Nat} (hi : i < 6) : JI n (zk_up (zk_up M 48 i (M 48 i + 1)) 81 i (zk_up M 48 i (M 48 i + 1) 81 i + 1)) L P :=
  ⟨D, s, pl, f, T, y, k, hp, jX_ref (jX_ref hx (Or.inl rfl)) (Or.inr rfl), jM_ref (jM_ref hm (Or.inl rfl)) (Or.inr rfl), jE_ref he hi⟩
/-! the tape -/
theorem jX_tape (h : jX n M P D s pl f T y k) (h5 : M' 5 1 = nI T') (hT : T' ≤ 1600) (h6 : ∀ i, i < T' → M' 6 i = nI (f' i) ∧ f' i ≤ 255) (hq : ∀ q, q ≠ 5 → q ≠ 6 → M' q = M q) : jX n M' P D s pl f' T' y k := by
  obtain ⟨h1, h2, h3, h4, -, -, h7, h8⟩ := id h
  obtain ⟨-, -, -, -, a5, -⟩ := h
  exact ⟨h1, h2, h3, jV_fr h4 (fun q hh => hq q (by omega) (by omega)), zx_past_cg a5 (by rw [hq 0 (by omega) (by omega)]) (by rw [hq 0 (by omega) (by omega)]) (fun q hh => hq q (by omega) (by omega)), ⟨h5, hT, h6⟩, by rw [hq 0 (by omega) (by omega)]; exact h7, by rw [hq 0 (by omega) (by omega)]; exact h8⟩
theorem jM_tape (h : jM M L D s pl f T y k) (h1 : M' 79 1 = nI T') (h80 : ∀ i, i < T' → M' 80 i = nI (f' i) ∧ f' i ≤ 255) (hj : ∀ j, j ≠ 1 → M' 79 j = M 79 j) (hq : ∀ q, q ≠ 79 → q ≠ 80 → M' q = M q) : jM M' L D s pl f' T' y k := by
  obtain ⟨a1, a2, a3, a4, a5, a6, a7, a8⟩ := h
  refine ⟨fun q hw k hk => ?_, ⟨zq_V_fr a2.1 (fun q a b => hq q (by omega) (by omega)), by rw [hq 126 (by omega) (by omega)]; exact a2.2.1, by rw [hj 67 (by omega)]; exact a2.2.2⟩, a3, zq_past_cg a4 (hq 130 (by omega) (by omega)) (hj 70 (by omega)) (hj 71 (by omega)), h1, h80, a7, by rw [hj 105 (by omega)]; exact a8⟩
  have hw2 := hw
  unfold sp_wq at hw2
  rw [hq q (by omega) (by omega)]
  exact a1 q hw k hk
theorem jE_q (h : jE M k) (h0 : M' 0 15 = M 0 15 ∧ M' 0 16 = M 0 16 ∧ M' 79 7 = M 79 7 ∧ M' 79 8 = M 79 8) (hq : ∀ q, q = 47 ∨ q = 48 ∨ q = 81 ∨ q = 153 → M' q = M q) : jE M' k := by
  obtain ⟨h1, h2, h3, h4⟩ := h
  obtain ⟨z1, z2, z3, z4⟩ := h0
  exact ⟨by rw [z1, z3]; exact h1, by rw [z2, z4]; exact h2, fun j hj => by rw [hq 81 (by omega), hq 48 (by omega)]; exact h3 j hj, fun i hi => by rw [hq 153 (by omega), hq 47 (by omega)]; exact h4 i hi⟩
end JNT
/-! what acts keep in bounds -/
theorem jo_say {V : sp_V} {s s' : sp_S} {x y u : Int32} (hok : sp_sok V s) (h : sp_aSay V s x y = some (s', u)) : sp_sok V s' ∧ sDay s' = sDay s := by
  unfold sp_aSay at h
  split at h
  · rename_i g
    cases h
    exact ⟨⟨sp_hr_kok hok.1 (by omega) (by omega) _ (Nat.le_refl _), hok.2⟩, rfl⟩
  · cases h
theorem jo_go {V : sp_V} {s s' : sp_S} {x y : Int32} (hok : sp_sok V s) (h : sp_aGo V s x y = some s') : sp_sok V s' ∧ sDay s' = sDay s := by
  unfold sp_aGo at h
  split at h
  · rename_i g
    cases h
    refine ⟨⟨⟨hok.1.1, fun p hp => ?_, hok.1.2.2⟩, hok.2⟩, rfl⟩
    show sp_up1 (sSt s) _ _ p < _
    unfold sp_up1
    split
    · omega
    · exact hok.1.2.1 p hp
  · cases h
theorem jo_take {V : sp_V} (hw : sp_vw V) {s s' : sp_S} {x y : Int32} (hok : sp_sok V s) (h : sp_aTake V s x y = some s') : sp_sok V s' ∧ sDay s' = sDay s := by
  unfold sp_aTake at h
  split at h
  · rename_i g
    cases h
    have hc := hw.2.2.2.2.2.2.2.2.1
    have hp := hok.1.2.2.1 x.toInt.toNat y.toInt.toNat
    have hs := hok.1.2.1 x.toInt.toNat (by omega)
    obtain ⟨n1, n2, n3, n4⟩ := hok.2
    refine ⟨⟨sp_kok_up hok.1 (by omega) (by omega) (by omega), ⟨fun p t => ?_, fun p t hpt => ?_, n3, n4⟩⟩, rfl⟩
    · show sp_up2 (sLy s) _ _ _ p t ≤ 999
      unfold sp_up2
      split
      · have := n1 (sSt s x.toInt.toNat) y.toInt.toNat; omega
      · exact n1 p t
    · show sp_up2 (sLy s) _ _ _ p t = 0
      unfold sp_up2
      split
      · rename_i e; exfalso; apply hpt; rw [e.1, e.2]; exact ⟨hs, by omega⟩
      · exact n2 p t hpt
  · cases h
theorem jo_s0 {D : vs_D} (h : vs_ok D) : sp_sok D.1 (vs_s0 D) := by
  obtain ⟨h1, h2, h3, h4, h5⟩ := h
  exact ⟨⟨Nat.zero_le _, h2, h3, h4⟩, fun _ _ => Nat.zero_le _, fun _ _ _ => rfl, fun _ => Nat.zero_le _, fun _ => Nat.two_pow_pos _⟩
theorem jo_keep {V : sp_V} {s : sp_S} {pl : List sp_S} (hs : sp_sok V s ∧ sDay s ≤ 9999) (hp : ∀ s' ∈ pl, sp_sok V s' ∧ sDay s' ≤ 9999) : ∀ s' ∈ sp_keepL s pl, sp_sok V s' ∧ sDay s' ≤ 9999 := fun s' h => by
  rcases List.mem_cons.mp (List.mem_of_mem_take h) with rfl | h
  · exact hs
  · exact hp s' h
