/-! ===== each instruction of the abstract machine is the machine's ===== -/
theorem zk_c13 {Pr : Nat → Prop} (h0 : Pr 0) (h1 : Pr 1) (h2 : Pr 2) (h3 : Pr 3) (h4 : Pr 4) (h5 : Pr 5) (h6 : Pr 6) (h7 : Pr 7) (h8 : Pr 8) (h9 : Pr 9) (h10 : Pr 10) (h11 : Pr 11) (h12 : Pr 12) : ∀ ci, ci < 13 → Pr ci := by
  intro ci h
  match ci, h with
  | 0, _ => exact h0
  | 1, _ => exact h1
  | 2, _ => exact h2
  | 3, _ => exact h3
  | 4, _ => exact h4
  | 5, _ => exact h5
  | 6, _ => exact h6
  | 7, _ => exact h7
  | 8, _ => exact h8
  | 9, _ => exact h9
  | 10, _ => exact h10
  | 11, _ => exact h11
  | 12, _ => exact h12
  | k + 13, h => omega
theorem zk_lays_in : ∀ ci, ci < 13 → ∀ w ∈ u_ws (zk_R ci) (zk_T ci) (zk_N ci), w ∈ zk_TB := zk_c13 zk_lyi0 zk_lyi1 zk_lyi2 zk_lyi3 zk_lyi4 zk_lyi5 zk_lyi6 zk_lyi7 zk_lyi8 zk_lyi9 zk_lyi10 zk_lyi11 zk_lyi12
theorem zk_ty_ok : ∀ ci, ci < 13 → ∀ k, k < zk_N ci → parseFieldDescriptor (zk_T ci k).2.2.1 = some (zk_ty ci k) := zk_c13 tyX0_ok tyX1_ok tyX2_ok tyX3_ok tyX4_ok tyX5_ok tyX6_ok tyX7_ok tyX8_ok tyX9_ok tyX10_ok tyX11_ok tyX12_ok
theorem zk_nm : ∀ ci, ci < 13 → ∀ a, a < zk_N ci → ∀ b, b < zk_N ci → a ≠ b → (zk_T ci a).2.1 ≠ (zk_T ci b).2.1 := zk_c13 nmX0 nmX1 nmX2 nmX3 nmX4 nmX5 nmX6 nmX7 nmX8 nmX9 nmX10 nmX11 nmX12
theorem zk_cl_get : ∀ ci, ci < 13 → zk_cl[ci]? = some (zk_R ci, zk_T ci, zk_N ci) := zk_c13 rfl rfl rfl rfl rfl rfl rfl rfl rfl rfl rfl rfl rfl
theorem zk_own_R : ∀ ci, ci < 13 → zk_own ci = zk_R ci := zk_c13 rfl rfl rfl rfl rfl rfl rfl rfl rfl rfl rfl rfl rfl
theorem zk_tc_ok : ∀ ci, ci < 13 → ∀ k, k < zk_N ci → zk_tcode (some (zk_ty ci k)) = zk_ft ci k := by decide +kernel
theorem zk_T_cls : ∀ ci, ci < 13 → ∀ k, (zk_T ci k).1 = zk_R ci := by
  refine zk_c13 ?_ ?_ ?_ ?_ ?_ ?_ ?_ ?_ ?_ ?_ ?_ ?_ ?_ <;> intro k <;> simp only [zk_T, zk_R] 
  · unfold TX0 RX0; split <;> rfl
  · unfold TX1 RX1; split <;> rfl
  · unfold TX2 RX2; split <;> rfl
  · unfold TX3 RX3; split <;> rfl
  · unfold TX4 RX4; split <;> rfl
  · unfold TX5 RX5; split <;> rfl
  · unfold TX6 RX6; split <;> rfl
  · unfold TX7 RX7; split <;> rfl
  · unfold TX8 RX8; split <;> rfl
  · unfold TX9 RX9; split <;> rfl
  · unfold TX10 RX10; split <;> rfl
  · unfold TX11 RX11; split <;> rfl
  · unfold TX12 RX12; split <;> rfl
theorem zk_TB_good : ∀ w ∈ zk_TB, w ∈ zk_TB ∧ ((w.onTables && w.keeps) = true ∨ ∃ ty, w = .arrayClass ty) := fun w h => ⟨h, good_of_word (List.mem_filter.mp h).2⟩
theorem zk_sl_mono {a b : Nat} (h : a ≤ b) : zk_sl a ≤ zk_sl b := by
  induction b with
  | zero => rw [Nat.le_zero.mp h]; exact Nat.le_refl _
  | succ b ih =>
    rcases Nat.lt_or_ge a (b + 1) with q | q
    · exact Nat.le_trans (ih (Nat.le_of_lt_succ q)) (by simp [zk_sl])
    · rw [Nat.le_antisymm h q]; exact Nat.le_refl _
def zk_Cx (G : zk_G) (ow : Nat) (ct : Bool) (F : zk_F) (d n0 n1 : Nat) (p : Program) (R : Room) (s : State) (m : MethodId) (args : Array Value) (meth : Method) (c : Code) : Prop :=
  p.tables.exec = Jvm.exec ∧ c.code = F.2.1 ∧ c.maxLocals = F.2.2.1 ∧ s.vm.findClass (zk_own ow) = some m.cls ∧ (∀ w ∈ zk_TB, w.before args s = true) ∧ zk_Env G s s.heap ∧ s.heap.size = G.2.2.2.1 + n0 ∧ d ≤ R.frames ∧ 64 * d ≤ R.locals ∧ n1 - n0 ≤ R.cells ∧ zk_sl n1 - zk_sl n0 ≤ R.slots ∧ (ct = true → meth.name = "<init>") ∧ meth.sig.returnType = F.2.2.2 ∧ meth.locks = false
def zk_Z (G : zk_G) (F : zk_F) (n0 n1 : Nat) (p : Program) (e : Env) (R : Room) (s : State) (m : MethodId) (args : Array Value) (below : List Frame) (meth : Method) (c : Code) (Q : State → Prop) : zk_K := fun pc lv st n M L P =>
  n0 ≤ n → n ≤ n1 → ∀ (H : Heap) (locs : List Loc) (ls : Array Slot), zk_Rep G n M L P H → va_S (fun q => G.2.2.2.1 ≤ q) s.heap H locs → lv_has ls F.2.2.1 (zk_as G.2.2.2.1 G.2.2.2.2 lv) → W p G.1 e R s m args below meth c H locs (n - n0) (zk_sl n - zk_sl n0) Q (F0 m pc ls (st.map (zk_ad G.2.2.2.1 G.2.2.2.2)))
section SND
variable {G : zk_G} {ow : Nat} {ct : Bool} {F : zk_F} {d n0 n1 : Nat} {p : Program} {e : Env} {R : Room} {s : State} {m : MethodId} {args : Array Value} {below : List Frame} {meth : Method} {c : Code} {Q : State → Prop}
theorem zk_ld {lv : List Value} {i : Nat} {v : Value} {ls : Array Slot} {nL : Nat} (hl : lv_has ls nL (zk_as G.2.2.2.1 G.2.2.2.2 lv)) (h : lv[i]? = some v) (hu : v ≠ zk_un) : ls[i]? = some (.val (zk_ad G.2.2.2.1 G.2.2.2.2 v)) :=
  hl.2.2 (i, zk_ad G.2.2.2.1 G.2.2.2.2 v) (zk_as_mem.mpr ⟨v, h, hu, rfl⟩)
theorem zk_rv_ad (sz : Nat) (o : Nat → Nat) (r : Option Nat) : zk_ad sz o (zk_rv r) = va_rf (r.map (fun q => sz + q)) := by cases r <;> rfl
theorem zk_sized (C : zk_Cx G ow ct F d n0 n1 p R s m args meth c) {n : Nat} {M : zk_MI} {L : zk_ML} {P : zk_MP} {H : Heap} {locs : List Loc} {k : Nat} {g : JFrame} (h0 : n0 ≤ n) (hR : zk_Rep G n M L P H) (hS : va_S (fun q => G.2.2.2.1 ≤ q) s.heap H locs) (h : H.size = G.2.2.2.1 + n → W p G.1 e R s m args below meth c H locs (n - n0) k Q g) : W p G.1 e R s m args below meth c H locs (n - n0) k Q g := by
  intro T hT X
  have h1 := X.heapSize
  have h2 : s.heap.size = G.2.2.2.1 + n0 := C.2.2.2.2.2.2.1
  rw [hT] at h1
  have h3 : G.2.2.2.1 + n ≤ H.size := by
    rcases Nat.eq_zero_or_pos n with q | q
    · have := hS.1; omega
    · have := (hR (n - 1) _ (zk_ws_get (by omega))).lt
      simp only at this
      omega
  exact h (by omega) T hT X
/-- getfield -/
theorem zk_s_getf (C : zk_Cx G ow ct F d n0 n1 p R s m args meth c) {pc idx q ci k : Nat} {lv st : List Value} {n : Nat} {M : zk_MI} {L : zk_ML} {P : zk_MP} (hd : decode F.2.1 pc = .ok (.getfield idx, 3)) (hc : ci < 13) (hk : k < zk_N ci) (hlk : (ow, idx, ci, k) ∈ zk_fl) (hok : zk_ok n q ci) {v : Value} (hv : zk_ad G.2.2.2.1 G.2.2.2.2 v = zk_fv G.2.2.2.1 M L P ci q k)
    (h : zk_Z G F n0 n1 p e R s m args below meth c Q (pc + 3) lv (v :: st) n M L P) : zk_Z G F n0 n1 p e R s m args below meth c Q pc lv (.ref q :: st) n M L P := by
  obtain ⟨hx, hb, hml, hown, hts, hE, -⟩ := C
  intro h0 h1 H locs ls hR hS hl
  have h2 := h h0 h1 H locs ls hR hS hl
  simp only [List.map_cons, hv] at h2
  exact va_get (D := G.2.1) (ci := ci) (v := zk_fv G.2.2.2.1 M L P ci q k) (C := zk_R ci) (T := zk_T ci) (N := zk_N ci) (ref := (zk_T ci k).1) hx hb hts (zk_lays_in ci hc) hown hE.1 hR q (by rw [zk_ws_get hok.1, zk_cell_o hok.2 (by omega)]) (zk_cl_get ci hc) k hk (hts _ (zk_fl_ok _ hlk)) (fun _ h9 => h9) (zk_fs_get hk) hd h2
theorem zk_s_putf (C : zk_Cx G ow ct F d n0 n1 p R s m args meth c) {pc idx q ci k : Nat} {lv st : List Value} {n : Nat} {M M' : zk_MI} {L L' : zk_ML} {P P' : zk_MP} (hd : decode F.2.1 pc = .ok (.putfield idx, 3)) (hc : ci < 13) (hk : k < zk_N ci) (hlk : (ow, idx, ci, k) ∈ zk_fl) (hok : zk_ok n q ci) {v : Value}
    (hfin : (zk_T ci k).2.2.2 = true → ct = true ∧ ci = ow) (hn : narrow (zk_ty ci k) (zk_ad G.2.2.2.1 G.2.2.2.2 v) = zk_ad G.2.2.2.1 G.2.2.2.2 v) (hfit : fits (zk_ty ci k) (zk_ad G.2.2.2.1 G.2.2.2.2 v) = true) (hv : zk_ad G.2.2.2.1 G.2.2.2.2 v = zk_fv G.2.2.2.1 M' L' P' ci q k) (ho : ∀ j, j ≠ k → zk_fv G.2.2.2.1 M' L' P' ci q j = zk_fv G.2.2.2.1 M L P ci q j) (hM : ∀ z, z ≠ q → M' z = M z) (hL : ∀ z, z ≠ q → L' z = L z) (hP : ∀ z, z ≠ q → P' z = P z)
    (h : zk_Z G F n0 n1 p e R s m args below meth c Q (pc + 3) lv st n M' L' P') : zk_Z G F n0 n1 p e R s m args below meth c Q pc lv (v :: .ref q :: st) n M L P := by
  obtain ⟨hx, hb, hml, hown, hts, hE, hsz, -, -, -, -, hnm, -⟩ := C
  intro h0 h1 H locs ls hR hS hl
  have hset : (zk_ws G.2.2.1 G.2.2.2.1 n M L P).set q (G.2.2.2.1 + q, .inr (ci, ((List.range (zk_N ci)).map (fun k => zk_fv G.2.2.2.1 M L P ci q k)).set k (zk_ad G.2.2.2.1 G.2.2.2.2 v))) = zk_ws G.2.2.1 G.2.2.2.1 n M' L' P' := by
    apply zk_ws_set
    · rw [zk_cell_o hok.2 (by omega), zk_fs_set hv ho]
    · intro z hz
      exact zk_cell_M (hM z hz) (hL z hz) (hP z hz)
  by_cases hf : (zk_T ci k).2.2.2 = true
  · obtain ⟨f1, f2⟩ := hfin hf
    refine va_putF (D := G.2.1) (A := fun q => G.2.2.2.1 ≤ q) (ci := ci) (v := zk_ad G.2.2.2.1 G.2.2.2.2 v) (ty := zk_ty ci k) (C := zk_R ci) (T := zk_T ci) (N := zk_N ci) (ref := (zk_T ci k).1) hx hb hts (zk_lays_in ci hc) (zk_ty ci) (zk_ty_ok ci hc) (zk_nm ci hc) hown hE.1 hR zk_D hS q (by rw [zk_ws_get hok.1, zk_cell_o hok.2 (by omega)]) (zk_cl_get ci hc) k hk (hts _ (zk_fl_ok _ hlk)) (fun _ h9 => h9) hf (hnm f1) (by rw [zk_T_cls ci hc, ← f2, zk_own_R ci hc]) (zk_ty_ok ci hc k hk) hn hfit (by simpa using hk) hd (fun H1 l1 a1 a2 a3 => ?_)
    rw [hset] at a1
    exact h h0 h1 H1 l1 ls a1 a3 hl
  · refine va_put (D := G.2.1) (A := fun q => G.2.2.2.1 ≤ q) (ci := ci) (v := zk_ad G.2.2.2.1 G.2.2.2.2 v) (ty := zk_ty ci k) (C := zk_R ci) (T := zk_T ci) (N := zk_N ci) (ref := (zk_T ci k).1) hx hb hts (zk_lays_in ci hc) (zk_ty ci) (zk_ty_ok ci hc) (zk_nm ci hc) hown hE.1 hR zk_D hS q (by rw [zk_ws_get hok.1, zk_cell_o hok.2 (by omega)]) (zk_cl_get ci hc) k hk (hts _ (zk_fl_ok _ hlk)) (fun _ h9 => h9) (by simpa using hf) (zk_ty_ok ci hc k hk) hn hfit (by simpa using hk) hd (fun H1 l1 a1 a2 a3 => ?_)
    rw [hset] at a1
    exact h h0 h1 H1 l1 ls a1 a3 hl
end SND
