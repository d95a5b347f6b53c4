/-! ===== SUMS worked out; gain ===== -/
def B_X5_gain_0 : List zk_I := [(.aload_n 2, 1, 0, 2, 0, 0, []), (.iload_n 3, 1, 0, 3, 0, 0, []), (.iload 4, 2, 0, 4, 0, 0, []), (.invokevirtual 47, 3, 0, 3, 47, 3, []), (.istore 6, 2, 0, 6, 0, 0, []), (.iload 5, 2, 0, 5, 0, 0, []), (.iconst 1, 1, 1, 0, 0, 0, []), (.if_icmp .ne 8, 3, 0, 20, 0, 0, []), (.bipush 99, 2, 99, 0, 0, 0, []), (.goto 5, 3, 0, 22, 0, 0, [])]
theorem k_X5_gain_0 : zk_ckb 5 false (zk_m 71) B_X5_gain_0 0 = true := by decide +kernel
def B_X5_gain_20 : List zk_I := [(.iload 6, 2, 0, 6, 0, 0, [])]
theorem k_X5_gain_20 : zk_ckb 5 false (zk_m 71) B_X5_gain_20 20 = true := by decide +kernel
def B_X5_gain_22 : List zk_I := [(.istore 7, 2, 0, 7, 0, 0, []), (.aload_n 1, 1, 0, 1, 0, 0, []), (.getfield 64, 3, 0, 9, 9, 0, []), (.iload 5, 2, 0, 5, 0, 0, []), (.iaload, 1, 0, 0, 0, 0, []), (.iconst (-1), 1, (-1), 0, 0, 0, []), (.if_icmp .eq 52, 3, 0, 84, 0, 0, []), (.aload_n 0, 1, 0, 0, 0, 0, []), (.getfield 9, 3, 0, 5, 0, 0, []), (.aload_n 1, 1, 0, 1, 0, 0, []), (.aload_n 2, 1, 0, 2, 0, 0, []), (.iload 4, 2, 0, 4, 0, 0, []), (.invokevirtual 76, 3, 0, 4, 37, 2, []), (.aload_n 0, 1, 0, 0, 0, 0, []), (.getfield 9, 3, 0, 5, 0, 0, []), (.bipush (-17), 2, (-17), 0, 0, 0, []), (.iload 6, 2, 0, 6, 0, 0, []), (.invokevirtual 81, 3, 0, 3, 36, 2, []), (.aload_n 0, 1, 0, 0, 0, 0, []), (.getfield 9, 3, 0, 5, 0, 0, []), (.aload_n 1, 1, 0, 1, 0, 0, []), (.getfield 85, 3, 0, 9, 8, 0, []), (.aload_n 1, 1, 0, 1, 0, 0, []), (.getfield 64, 3, 0, 9, 9, 0, []), (.iload 5, 2, 0, 5, 0, 0, []), (.iaload, 1, 0, 0, 0, 0, []), (.aload_n 1, 1, 0, 1, 0, 0, []), (.getfield 88, 3, 0, 9, 10, 0, []), (.iload 5, 2, 0, 5, 0, 0, []), (.iaload, 1, 0, 0, 0, 0, []), (.invokevirtual 91, 3, 0, 4, 39, 2, []), (.istore 7, 2, 0, 7, 0, 0, [])]
theorem k_X5_gain_22 : zk_ckb 5 false (zk_m 71) B_X5_gain_22 22 = true := by decide +kernel
def B_X5_gain_84 : List zk_I := [(.aload_n 2, 1, 0, 2, 0, 0, []), (.getfield 73, 3, 0, 3, 1, 0, []), (.iload_n 3, 1, 0, 3, 0, 0, []), (.bipush 10, 2, 10, 0, 0, 0, []), (.imul, 1, 0, 0, 0, 0, []), (.iload 4, 2, 0, 4, 0, 0, []), (.iadd, 1, 0, 0, 0, 0, []), (.iload 7, 2, 0, 7, 0, 0, []), (.iload 6, 2, 0, 6, 0, 0, []), (.bipush 99, 2, 99, 0, 0, 0, []), (.invokestatic 95, 3, 1, 3, 159, 11, []), (.iastore, 1, 0, 0, 0, 0, []), (.return_, 1, 0, 0, 0, 0, [])]
theorem k_X5_gain_84 : zk_ckb 5 false (zk_m 71) B_X5_gain_84 84 = true := by decide +kernel
def sp_e (w k d p h l : Nat) : Int → Int := fun c => if c = -14 then w else if c = -15 then k else if c = -16 then d else if c = -17 then p else if c = -18 then h else if c = -19 then l else 0
def sp_val (cs : List Int) (e : Int → Int) : Int := match sp_rn e (fun _ => 0) cs [] with
  | some [v] => v
  | _ => 0
theorem sp_stp_cg {e e' pn pn' : Int → Int} {c : Int} (h : c ≠ -13) (he : c ≤ -14 → e c = e' c) (stk : List Int) : sp_stp e pn c stk = sp_stp e' pn' c stk := by
  unfold sp_stp
  by_cases h0 : 0 ≤ c
  · rw [if_pos h0, if_pos h0]
  · rw [if_neg h0, if_neg h0]
    by_cases h1 : c ≤ -14
    · rw [if_pos h1, if_pos h1, he h1]
    · rw [if_neg h1, if_neg h1]
      by_cases h2 : -11 ≤ c
      · rw [if_pos h2, if_pos h2]
      · rw [if_neg h2, if_neg h2]
        cases stk with
        | nil => rfl
        | cons a r => simp only [if_neg h]
theorem sp_rn_cg {e e' pn pn' : Int → Int} : ∀ (cs stk : List Int), (∀ c ∈ cs, c ≠ -13 ∧ (c ≤ -14 → e c = e' c)) → sp_rn e pn cs stk = sp_rn e' pn' cs stk
  | [], _, _ => rfl
  | c :: cs, stk, h => by
    have hc := h c List.mem_cons_self
    simp only [sp_rn, sp_stp_cg (pn := pn) (pn' := pn') hc.1 hc.2]
    congr 1
    funext s
    exact sp_rn_cg cs s (fun c hc => h c (List.mem_cons_of_mem _ hc))
theorem sp_e_v {w k d p h l : Nat} (hw : w ≤ 1000000) (hk : k ≤ 1000000) (hd : d ≤ 1000000) (hp : p ≤ 1000000) (hh : h ≤ 1000000) (hl : l ≤ 1000000) : ∀ c, sp_v (sp_e w k d p h l c) := by
  intro c
  unfold sp_e sp_v
  repeat' split
  all_goals omega
theorem sp_val_eq {cs : List Int} {e : Int → Int} (h : sp_rok cs) (he : ∀ c, sp_v (e c)) : sp_rn e (fun _ => 0) cs [] = some [sp_val cs e] := by
  obtain ⟨v, hv⟩ := h.2.2 e (fun _ => 0) he (fun _ => ⟨by omega, by omega⟩)
  unfold sp_val
  rw [hv]
def zk_his (M : zk_MI) : Prop := ∀ k, k < 10 → sp_v (M 4 k).toInt
def zk_mach (M : zk_MI) : Prop := zk_told M ∧ zk_his M
theorem sp_pn_v {M : zk_MI} (h : zk_his M) (x : Int) : sp_v (sp_pn M x).toInt := by
  unfold sp_pn
  split
  · exact ⟨by decide, by decide⟩
  · split
    · exact ⟨by decide, by decide⟩
    · split
      · exact ⟨by decide, by decide⟩
      · exact h _ (by omega)
section EV
variable {G : zk_G} {n : Nat} {M : zk_MI} {L : zk_ML} {P : zk_MP}
theorem ct_rule (hn : 154 ≤ n) (hP : zs_X P) {v : Nat} (hv : zv_ok n P v) (hv0 : 49 ≤ v) {V : sp_V} (hV : sp_vw V) (hVr : zv_rep M v V) (hm : zk_mach M) {k : Nat} (hk : k < 4) {cs : List Int} (hcs : vRl V k = some cs) {w kn d p h l : Nat} (hw : w ≤ 9) (hkn : kn ≤ 6) (hd : d ≤ 10000) (hp : p ≤ 99) (hh : h ≤ 10) (hl : l ≤ 999) (m0 : M 3 0 = nI w) (m1 : M 3 1 = nI kn) (m2 : M 3 2 = nI d) (m34 : k < 3 → M 3 3 = nI p ∧ M 3 4 = nI h) (m5 : k = 3 → M 3 5 = nI l) :
    zk_C G 2 39 [.ref 1, .ref (v + 12), .int (M (v + 13) k), .int (M (v + 14) k)] n M L P n (fun r M' L' P' => r = some (.int (iI (sp_val cs (sp_e w kn d p h l)))) ∧ sp_v (sp_val cs (sp_e w kn d p h l)) ∧ L' = L ∧ P' = P ∧ ∀ z, z ≠ 2 → M' z = M z) := by
  obtain ⟨hrok, hokc⟩ := hV.2.2.2.2.2.2.1 k cs hk hcs
  have hr := hVr.2.2.2.2.2.2.1 k hk
  rw [hcs] at hr
  obtain ⟨f, f1, f2, f3, f4⟩ := hr
  rw [f1, f2]
  have hv2 := hv
  unfold zv_ok at hv2
  let e : Int → Int := fun c => if -22 < c ∧ c ≤ -14 then (M 3 (-14 - c).toNat).toInt else 0
  have hev : ∀ c, sp_v (e c) := by
    intro c
    show sp_v (if -22 < c ∧ c ≤ -14 then (M 3 (-14 - c).toNat).toInt else 0)
    split
    · exact hm.1 _ (by omega)
    · exact ⟨by omega, by omega⟩
  have hpv : ∀ x, sp_v (sp_pn M x).toInt := sp_pn_v hm.2
  obtain ⟨x, hx⟩ := hrok.2.2 e (fun x => (sp_pn M x).toInt) hev hpv
  have heq : x = sp_val cs (sp_e w kn d p h l) := by
    have h1 := sp_val_eq hrok (sp_e_v (w := w) (k := kn) (d := d) (p := p) (h := h) (l := l) (by omega) (by omega) (by omega) (by omega) (by omega) (by omega))
    rw [sp_rn_cg (e := sp_e w kn d p h l) (e' := e) (pn := fun _ => 0) (pn' := fun x => (sp_pn M x).toInt) cs [] ?_, hx] at h1
    · simpa using h1
    · intro c hc
      have hok := hokc c hc
      refine ⟨?_, fun hle => ?_⟩
      · rcases hok with z | z | z | z | z | ⟨-, z | z⟩ | ⟨-, z⟩ <;> omega
      · rcases hok with z | z | rfl | rfl | rfl | ⟨zk, rfl | rfl⟩ | ⟨zk, rfl⟩
        · omega
        · omega
        · show (w : Int) = (M 3 0).toInt
          rw [m0, nI_toInt (by omega)]
        · show (kn : Int) = (M 3 1).toInt
          rw [m1, nI_toInt (by omega)]
        · show (d : Int) = (M 3 2).toInt
          rw [m2, nI_toInt (by omega)]
        · show (p : Int) = (M 3 3).toInt
          rw [(m34 zk).1, nI_toInt (by omega)]
        · show (h : Int) = (M 3 4).toInt
          rw [(m34 zk).2, nI_toInt (by omega)]
        · show (l : Int) = (M 3 5).toInt
          rw [m5 zk, nI_toInt (by omega)]
  subst heq
  exact ct_run hn hP hv2.2.2.2.2.2.2.2.2.2.2.2.2.1 hv2.2.2.2.2.2.2.2.2.2.2.2.2.2.2.2.2.2.2.2.2.2.2.2.1 (by omega) f3 (fun i hi => ⟨f4 i hi, hrok.1 _ (by rw [List.getD_eq_getElem?_getD, List.getElem?_eq_getElem hi]; exact List.getElem_mem hi)⟩) (fun c h1 h2 => ⟨by show _ = iI (if -22 < c ∧ c ≤ -14 then (M 3 (-14 - c).toNat).toInt else 0); rw [if_pos ⟨h1, h2⟩, iI_of], hev c⟩) (fun x hx => ⟨by rw [iI_of], hpv x⟩) hx
end EV
def sp_up2 (f : Nat → Nat → Nat) (p t x : Nat) : Nat → Nat → Nat := fun a b => if a = p ∧ b = t then x else f a b
def sp_cl (lo hi : Nat) (x : Int) : Nat := if x < lo then lo else if x > hi then hi else x.toNat
theorem sp_cl_i {lo hi : Nat} (h : lo ≤ hi) (h2 : hi ≤ 1000000) {x : Int} (hx : sp_v x) : (if iI x < nI lo then nI lo else if nI hi < iI x then nI hi else iI x) = nI (sp_cl lo hi x) := by
  have h1 := hx.1
  have h3 := hx.2
  have a1 : (iI x < nI lo) = (x < lo) := by rw [iI_nI, iI_lt (by omega) (by omega) (by omega) (by omega)]
  have a2 : (nI hi < iI x) = ((hi : Int) < x) := by rw [iI_nI, iI_lt (by omega) (by omega) (by omega) (by omega)]
  unfold sp_cl
  by_cases c1 : x < lo
  · rw [if_pos (by rw [a1]; exact c1), if_pos c1]
  · rw [if_neg (by rw [a1]; exact c1), if_neg c1]
    by_cases c2 : x > hi
    · rw [if_pos (by rw [a2]; exact c2), if_pos c2]
    · rw [if_neg (by rw [a2]; exact c2), if_neg c2, iI_nI]
      congr 1
      omega
theorem sp_cl_le {lo hi : Nat} {x : Int} (h : lo ≤ hi) : lo ≤ sp_cl lo hi x ∧ sp_cl lo hi x ≤ hi := by
  unfold sp_cl
  split
  · omega
  · split <;> omega
/-- what saying, hearing make of one's points -/
def sp_gv (V : sp_V) (day : Nat) (pt : Nat → Nat → Nat) (p t k : Nat) : Int := match vRl V k with
  | none => if k = 1 then 99 else pt p t
  | some cs => sp_val cs (sp_e (vWt V t) (sp_ck pt t 6) day (pt p t) (sp_pc (vHg V t)) 0)
def sp_gain (V : sp_V) (day : Nat) (pt : Nat → Nat → Nat) (p t k : Nat) : Nat → Nat → Nat := sp_up2 pt p t (sp_cl (pt p t) 99 (sp_gv V day pt p t k))
theorem zm_kn_put {M : zk_MI} {b day : Nat} {st : Nat → Nat} {pt : Nat → Nat → Nat} (h : zm_kn M b day st pt) {p t x : Nat} (hp : p < 6) (ht : t < 10) (hx : x ≤ 99) : zm_kn (zk_up M (b + 2) (10 * p + t) (nI x)) b day st (sp_up2 pt p t x) := by
  obtain ⟨h1, h2, h3, h4⟩ := h
  refine ⟨by rw [zk_up_row (by omega)]; exact h1, h2, fun q hq => by rw [zk_up_row (by omega)]; exact h3 q hq, fun q u hq hu => ?_⟩
  unfold sp_up2
  by_cases e : q = p ∧ u = t
  · obtain ⟨rfl, rfl⟩ := e
    rw [zk_up_at, if_pos ⟨rfl, rfl⟩]
    exact ⟨rfl, hx⟩
  · rw [if_neg e, zk_up_ne (by omega)]
    exact h4 q u hq hu
theorem zk_mach_fr {M M' : zk_MI} (h : zk_mach M) (h3 : M' 3 = M 3) (h4 : M' 4 = M 4) : zk_mach M' := ⟨fun k hk => by rw [h3]; exact h.1 k hk, fun k hk => by rw [h4]; exact h.2 k hk⟩
/-- behind a method of Nature that changes points alone -/
def zn_post (r0 : Option Value) (M : zk_MI) (L : zk_ML) (P : zk_MP) (b day : Nat) (st : Nat → Nat) (pt : Nat → Nat → Nat) : zk_Po := fun r M' L' P' => r = r0 ∧ L' = L ∧ P' = P ∧ zk_mach M' ∧ zm_kn M' b day st pt ∧ ∀ q, q ≠ 2 → q ≠ 3 → q ≠ b + 2 → M' q = M q
section GN
variable {G : zk_G} {n : Nat} {M : zk_MI} {L : zk_ML} {P : zk_MP}
theorem ct_gain (hn : 154 ≤ n) (hP : zs_X P) {v b : Nat} (hv : zv_ok n P v) (hv0 : 49 ≤ v) {V : sp_V} (hV : sp_vw V) (hVr : zv_rep M v V) (hb : zm_ok n P b) (hb0 : 15 ≤ b) (hvb : b + 5 < v ∨ v + 14 < b) {day : Nat} {st : Nat → Nat} {pt : Nat → Nat → Nat} (hk : zm_kn M b day st pt) (hm : zk_mach M) (p t k : Nat) (hp : p < 6) (ht : t < vNt V) (hkk : k = 1 ∨ k = 2) : zk_C G 3 71 [.ref 12, .ref v, .ref b, .int (nI p), .int (nI t), .int (nI k)] n M L P n (zn_post none M L P b day st (sp_gain V day pt p t k)) := by
  have hnt : vNt V ≤ 10 := hV.2.2.1
  refine zk_meth (ow := 5) (kind := 1) (k := 5) (nL := 8) (ct := false) (l0 := [.ref 12, .ref v, .ref b, .int (nI p), .int (nI t), .int (nI k), zk_un, zk_un]) (by decide +kernel) (fun h => by cases h) (by decide +kernel) (by decide) (by decide) (fun h => absurd h (by decide)) (Nat.le_of_ble_eq_true rfl) rfl (by omega) (fun Z hZ => ?_)
  have ho := zo_X hn
  have hP2 := hP
  unfold zs_X at hP2
  have hv2 := hv
  unfold zv_ok at hv2
  have hb2 := hb
  unfold zm_ok at hb2
  have hpt := (hk.2.2.2 p t hp (by omega)).2
  have hrl : ∀ cs, vRl V k = some cs → M (v + 13) k ≠ -1 := by
    intro cs hcs
    have := hVr.2.2.2.2.2.2.1 k (by omega)
    rw [hcs] at this
    obtain ⟨f, f1, -, f3, -⟩ := this
    rw [f1, show (-1 : Int32) = iI (-1) from by decide, iI_nI]
    intro z
    rw [iI_eq (by omega) (by omega) (by omega) (by omega)] at z
    omega
  have fin : ∀ (M1 : zk_MI), zk_mach M1 → zm_kn M1 b day st pt → (∀ q, q ≠ 2 → q ≠ 3 → q ≠ b + 2 → M1 q = M q) → ∀ x : Int, sp_v x → sp_cl (pt p t) 99 x = sp_cl (pt p t) 99 (sp_gv V day pt p t k) → Z 84 [.ref 12, .ref v, .ref b, .int (nI p), .int (nI t), .int (nI k), .int (nI (pt p t)), .int (iI x)] [] n M1 L P := by
    intro M1 g1 g2 g3 x hx hxe
    have hc : (nI (10 * p + t)).toNatClampNeg = 10 * p + t := nI_clamp (by omega)
    have hin : vp_in (nI (10 * p + t)) 60 := vp_in_nI (by omega) (by omega)
    refine hZ B_X5_gain_84 _ _ _ _ _ _ _ k_X5_gain_84 ?_
    simp only [B_X5_gain_84, zk_ldi_s, zk_ldl_s, zk_lda_r, zk_lda_a, zk_lda_n, zk_iv_s, zr_nil, zr_cons, zp_0, zp_s, zt_0, zt_s, zt2_0, zt2_s, zw_iconst, zw_bipush, zw_sipush, zw_lconst, zw_ldcs, zw_ldc, zw_ldcw, zw_ldc2, zw_iload_n, zw_lload_n, zw_aload_n, zw_istore_n, zw_lstore_n, zw_astore_n, zw_astoreN_n, zw_iload, zw_lload, zw_aload, zw_istore, zw_lstore, zw_astore, zw_astoreN, zw_iinc, zw_iadd, zw_isub, zw_imul, zw_iand, zw_ior, zw_ixor, zw_ishl, zw_ishr, zw_iushr, zw_idiv, zw_irem, zw_ladd, zw_lsub, zw_lmul, zw_land, zw_ldiv, zw_lrem, zw_lcmp, zw_i2l, zw_l2i, zw_dup, zw_pop, zw_dup2i, zw_goto, zw_if_eq, zw_if_ne, zw_if_lt, zw_if_ge, zw_if_gt, zw_if_le, zw_ic_eq, zw_ic_ne, zw_ic_lt, zw_ic_ge, zw_ic_gt, zw_ic_le, zw_ifnn, zw_ifnnN, zw_tsw, zw_lsw, zw_getf_l, zw_getf_r, zw_getf_i, zw_getf_z, zw_putf_i, zw_putf_z, zw_putf_l, zw_putf_r, zw_iaload, zw_caload, zw_laload, zw_aaload, zw_iastore, zw_castore, zw_lastore, zw_aastore, zw_alen, zw_newa, zw_newq, zw_new, zw_oini, zw_invs, zw_invv, zw_copy, zw_invt, zw_iret, zw_lret, zw_ret, zc_r, zc_a, zk_rvs, zk_cat2, List.getElem?_cons_zero, List.getElem?_cons_succ, Bool.false_eq_true, and_false, false_and, and_true, true_and, reduceIte, Nat.reduceEqDiff, Nat.reduceLT, Nat.reduceAdd, List.cons_append, List.nil_append, Option.toList_some, Option.toList_none, zk_cat_i, zk_cat_r, zk_cat_n, zk_same, Option.some.injEq, Value.int.injEq, Value.long.injEq, eq_self, false_implies, true_implies, zf_3, zf_5, zf_9, ho, hb2, zx_10]
    refine zk_callS (ct_within _ _ _) (by decide) (Nat.le_refl _) (Nat.le_of_ble_eq_true rfl) ?_
    rw [fa_lit 99, sp_cl_i hpt (by decide) hx, hxe]
    simp only [zk_ldi_s, zk_ldl_s, zk_lda_r, zk_lda_a, zk_lda_n, zk_iv_s, zr_nil, zr_cons, zp_0, zp_s, zt_0, zt_s, zt2_0, zt2_s, zw_iconst, zw_bipush, zw_sipush, zw_lconst, zw_ldcs, zw_ldc, zw_ldcw, zw_ldc2, zw_iload_n, zw_lload_n, zw_aload_n, zw_istore_n, zw_lstore_n, zw_astore_n, zw_astoreN_n, zw_iload, zw_lload, zw_aload, zw_istore, zw_lstore, zw_astore, zw_astoreN, zw_iinc, zw_iadd, zw_isub, zw_imul, zw_iand, zw_ior, zw_ixor, zw_ishl, zw_ishr, zw_iushr, zw_idiv, zw_irem, zw_ladd, zw_lsub, zw_lmul, zw_land, zw_ldiv, zw_lrem, zw_lcmp, zw_i2l, zw_l2i, zw_dup, zw_pop, zw_dup2i, zw_goto, zw_if_eq, zw_if_ne, zw_if_lt, zw_if_ge, zw_if_gt, zw_if_le, zw_ic_eq, zw_ic_ne, zw_ic_lt, zw_ic_ge, zw_ic_gt, zw_ic_le, zw_ifnn, zw_ifnnN, zw_tsw, zw_lsw, zw_getf_l, zw_getf_r, zw_getf_i, zw_getf_z, zw_putf_i, zw_putf_z, zw_putf_l, zw_putf_r, zw_iaload, zw_caload, zw_laload, zw_aaload, zw_iastore, zw_castore, zw_lastore, zw_aastore, zw_alen, zw_newa, zw_newq, zw_new, zw_oini, zw_invs, zw_invv, zw_copy, zw_invt, zw_iret, zw_lret, zw_ret, zc_r, zc_a, zk_rvs, zk_cat2, List.getElem?_cons_zero, List.getElem?_cons_succ, Bool.false_eq_true, and_false, false_and, and_true, true_and, reduceIte, Nat.reduceEqDiff, Nat.reduceLT, Nat.reduceAdd, List.cons_append, List.nil_append, Option.toList_some, Option.toList_none, zk_cat_i, zk_cat_r, zk_cat_n, zk_same, Option.some.injEq, Value.int.injEq, Value.long.injEq, eq_self, false_implies, true_implies, zf_3, zf_5, zf_9, ho, hb2, hc, hin]
    refine ⟨rfl, rfl, rfl, zk_mach_fr g1 (zk_up_row (by omega)) (zk_up_row (by omega)), zm_kn_put g2 hp (by omega) (sp_cl_le hpt).2, fun q q2 q3 qb => ?_⟩
    rw [zk_up_row qb]
    exact g3 q q2 q3 qb
  have at22 : ∀ y : Int, sp_v y → (vRl V k = none → y = sp_gv V day pt p t k) → Z 22 [.ref 12, .ref v, .ref b, .int (nI p), .int (nI t), .int (nI k), .int (nI (pt p t)), zk_un] [.int (iI y)] n M L P := by
    intro y hy hyn
    have hck : (nI k).toNatClampNeg = k := nI_clamp (by omega)
    have hkin : vp_in (nI k) 4 := vp_in_nI (by omega) (by omega)
    refine hZ B_X5_gain_22 _ _ _ _ _ _ _ k_X5_gain_22 ?_
    simp only [B_X5_gain_22, zk_ldi_s, zk_ldl_s, zk_lda_r, zk_lda_a, zk_lda_n, zk_iv_s, zr_nil, zr_cons, zp_0, zp_s, zt_0, zt_s, zt2_0, zt2_s, zw_iconst, zw_bipush, zw_sipush, zw_lconst, zw_ldcs, zw_ldc, zw_ldcw, zw_ldc2, zw_iload_n, zw_lload_n, zw_aload_n, zw_istore_n, zw_lstore_n, zw_astore_n, zw_astoreN_n, zw_iload, zw_lload, zw_aload, zw_istore, zw_lstore, zw_astore, zw_astoreN, zw_iinc, zw_iadd, zw_isub, zw_imul, zw_iand, zw_ior, zw_ixor, zw_ishl, zw_ishr, zw_iushr, zw_idiv, zw_irem, zw_ladd, zw_lsub, zw_lmul, zw_land, zw_ldiv, zw_lrem, zw_lcmp, zw_i2l, zw_l2i, zw_dup, zw_pop, zw_dup2i, zw_goto, zw_if_eq, zw_if_ne, zw_if_lt, zw_if_ge, zw_if_gt, zw_if_le, zw_ic_eq, zw_ic_ne, zw_ic_lt, zw_ic_ge, zw_ic_gt, zw_ic_le, zw_ifnn, zw_ifnnN, zw_tsw, zw_lsw, zw_getf_l, zw_getf_r, zw_getf_i, zw_getf_z, zw_putf_i, zw_putf_z, zw_putf_l, zw_putf_r, zw_iaload, zw_caload, zw_laload, zw_aaload, zw_iastore, zw_castore, zw_lastore, zw_aastore, zw_alen, zw_newa, zw_newq, zw_new, zw_oini, zw_invs, zw_invv, zw_copy, zw_invt, zw_iret, zw_lret, zw_ret, zc_r, zc_a, zk_rvs, zk_cat2, List.getElem?_cons_zero, List.getElem?_cons_succ, Bool.false_eq_true, and_false, false_and, and_true, true_and, reduceIte, Nat.reduceEqDiff, Nat.reduceLT, Nat.reduceAdd, List.cons_append, List.nil_append, Option.toList_some, Option.toList_none, zk_cat_i, zk_cat_r, zk_cat_n, zk_same, Option.some.injEq, Value.int.injEq, Value.long.injEq, eq_self, false_implies, true_implies, zf_3, zf_5, zf_9, ho, hP2, hv2, hck, hkin]
    refine ⟨fun h => ?_, fun h => ?_⟩
    · cases hr : vRl V k with
      | none => exact fin M hm hk (fun _ _ _ _ => rfl) y hy (by rw [hyn hr])
      | some cs => exact absurd h (hrl cs hr)
    · cases hr : vRl V k with
      | none =>
        have := hVr.2.2.2.2.2.2.1 k (by omega)
        rw [hr] at this
        exact absurd this h
      | some cs =>
        refine zk_callS (ct_turnTo hn hP hv hv0 hV hVr hb hb0 hk t ht) (by decide) (Nat.le_refl _) (Nat.le_of_ble_eq_true rfl) ?_
        simp only [zk_ldi_s, zk_ldl_s, zk_lda_r, zk_lda_a, zk_lda_n, zk_iv_s, zr_nil, zr_cons, zp_0, zp_s, zt_0, zt_s, zt2_0, zt2_s, zw_iconst, zw_bipush, zw_sipush, zw_lconst, zw_ldcs, zw_ldc, zw_ldcw, zw_ldc2, zw_iload_n, zw_lload_n, zw_aload_n, zw_istore_n, zw_lstore_n, zw_astore_n, zw_astoreN_n, zw_iload, zw_lload, zw_aload, zw_istore, zw_lstore, zw_astore, zw_astoreN, zw_iinc, zw_iadd, zw_isub, zw_imul, zw_iand, zw_ior, zw_ixor, zw_ishl, zw_ishr, zw_iushr, zw_idiv, zw_irem, zw_ladd, zw_lsub, zw_lmul, zw_land, zw_ldiv, zw_lrem, zw_lcmp, zw_i2l, zw_l2i, zw_dup, zw_pop, zw_dup2i, zw_goto, zw_if_eq, zw_if_ne, zw_if_lt, zw_if_ge, zw_if_gt, zw_if_le, zw_ic_eq, zw_ic_ne, zw_ic_lt, zw_ic_ge, zw_ic_gt, zw_ic_le, zw_ifnn, zw_ifnnN, zw_tsw, zw_lsw, zw_getf_l, zw_getf_r, zw_getf_i, zw_getf_z, zw_putf_i, zw_putf_z, zw_putf_l, zw_putf_r, zw_iaload, zw_caload, zw_laload, zw_aaload, zw_iastore, zw_castore, zw_lastore, zw_aastore, zw_alen, zw_newa, zw_newq, zw_new, zw_oini, zw_invs, zw_invv, zw_copy, zw_invt, zw_iret, zw_lret, zw_ret, zc_r, zc_a, zk_rvs, zk_cat2, List.getElem?_cons_zero, List.getElem?_cons_succ, Bool.false_eq_true, and_false, false_and, and_true, true_and, reduceIte, Nat.reduceEqDiff, Nat.reduceLT, Nat.reduceAdd, List.cons_append, List.nil_append, Option.toList_some, Option.toList_none, zk_cat_i, zk_cat_r, zk_cat_n, zk_same, Option.some.injEq, Value.int.injEq, Value.long.injEq, eq_self, false_implies, true_implies, zf_3, zf_5, zf_9, ho, hP2]
        refine zk_callS (ct_tell hn hP (-17) _ (by decide) (by decide)) (by decide) (Nat.le_refl _) (Nat.le_of_ble_eq_true rfl) ?_
        have hrow : ∀ q, q ≠ 3 → zk_up (zk_tt M (vWt V t) (sp_pc (vHg V t)) (sp_ck pt t 6) day) 3 (-14 - (-17 : Int)).toNat (nI (pt p t)) q = M q := fun q hq => by rw [zk_up_row hq, zk_tt_row hq]
        have hw := hV.2.2.2.2.1 t ht
        have hck6 := sp_ck_le pt t 6
        have hpc := sp_pc_le (vHg V t)
        have hday := hk.2.1
        have hm1 : zk_mach (zk_up (zk_tt M (vWt V t) (sp_pc (vHg V t)) (sp_ck pt t 6) day) 3 (-14 - (-17 : Int)).toNat (nI (pt p t))) := ⟨zk_told_up (zk_told_up (zk_told_up (zk_told_up (zk_told_up hm.1 (nI_v (by omega))) (nI_v (by omega))) (nI_v (by omega))) (nI_v (by omega))) (nI_v (by omega)), fun j hj => by rw [hrow 4 (by decide)]; exact hm.2 j hj⟩
        have e13 := hrow (v + 13) (by omega)
        have e14 := hrow (v + 14) (by omega)
        have key := ct_rule (G := G) (L := L) hn hP hv hv0 hV (zv_rep_fr hVr (fun q h1 h2 => hrow q (by omega))) hm1 (k := k) (by omega) hr (w := vWt V t) (kn := sp_ck pt t 6) (d := day) (p := pt p t) (h := sp_pc (vHg V t)) (l := 0) (by omega) (by omega) (by omega) (by omega) (by omega) (by omega) rfl rfl rfl (fun _ => ⟨rfl, rfl⟩) (fun z => by omega)
        simp only [zk_ldi_s, zk_ldl_s, zk_lda_r, zk_lda_a, zk_lda_n, zk_iv_s, zr_nil, zr_cons, zp_0, zp_s, zt_0, zt_s, zt2_0, zt2_s, zw_iconst, zw_bipush, zw_sipush, zw_lconst, zw_ldcs, zw_ldc, zw_ldcw, zw_ldc2, zw_iload_n, zw_lload_n, zw_aload_n, zw_istore_n, zw_lstore_n, zw_astore_n, zw_astoreN_n, zw_iload, zw_lload, zw_aload, zw_istore, zw_lstore, zw_astore, zw_astoreN, zw_iinc, zw_iadd, zw_isub, zw_imul, zw_iand, zw_ior, zw_ixor, zw_ishl, zw_ishr, zw_iushr, zw_idiv, zw_irem, zw_ladd, zw_lsub, zw_lmul, zw_land, zw_ldiv, zw_lrem, zw_lcmp, zw_i2l, zw_l2i, zw_dup, zw_pop, zw_dup2i, zw_goto, zw_if_eq, zw_if_ne, zw_if_lt, zw_if_ge, zw_if_gt, zw_if_le, zw_ic_eq, zw_ic_ne, zw_ic_lt, zw_ic_ge, zw_ic_gt, zw_ic_le, zw_ifnn, zw_ifnnN, zw_tsw, zw_lsw, zw_getf_l, zw_getf_r, zw_getf_i, zw_getf_z, zw_putf_i, zw_putf_z, zw_putf_l, zw_putf_r, zw_iaload, zw_caload, zw_laload, zw_aaload, zw_iastore, zw_castore, zw_lastore, zw_aastore, zw_alen, zw_newa, zw_newq, zw_new, zw_oini, zw_invs, zw_invv, zw_copy, zw_invt, zw_iret, zw_lret, zw_ret, zc_r, zc_a, zk_rvs, zk_cat2, List.getElem?_cons_zero, List.getElem?_cons_succ, Bool.false_eq_true, and_false, false_and, and_true, true_and, reduceIte, Nat.reduceEqDiff, Nat.reduceLT, Nat.reduceAdd, List.cons_append, List.nil_append, Option.toList_some, Option.toList_none, zk_cat_i, zk_cat_r, zk_cat_n, zk_same, Option.some.injEq, Value.int.injEq, Value.long.injEq, eq_self, false_implies, true_implies, zf_3, zf_5, zf_9, ho, hP2, hv2, hck, hkin, e13, e14]
        rw [e13, e14] at key
        refine zk_callI key (by decide) (Nat.le_refl _) (Nat.le_of_ble_eq_true rfl) (fun r M' L' P' hpost => ?_)
        obtain ⟨rfl, hval, rfl, rfl, hfr⟩ := hpost
        simp only [zk_ldi_s, zk_ldl_s, zk_lda_r, zk_lda_a, zk_lda_n, zk_iv_s, zr_nil, zr_cons, zp_0, zp_s, zt_0, zt_s, zt2_0, zt2_s, zw_iconst, zw_bipush, zw_sipush, zw_lconst, zw_ldcs, zw_ldc, zw_ldcw, zw_ldc2, zw_iload_n, zw_lload_n, zw_aload_n, zw_istore_n, zw_lstore_n, zw_astore_n, zw_astoreN_n, zw_iload, zw_lload, zw_aload, zw_istore, zw_lstore, zw_astore, zw_astoreN, zw_iinc, zw_iadd, zw_isub, zw_imul, zw_iand, zw_ior, zw_ixor, zw_ishl, zw_ishr, zw_iushr, zw_idiv, zw_irem, zw_ladd, zw_lsub, zw_lmul, zw_land, zw_ldiv, zw_lrem, zw_lcmp, zw_i2l, zw_l2i, zw_dup, zw_pop, zw_dup2i, zw_goto, zw_if_eq, zw_if_ne, zw_if_lt, zw_if_ge, zw_if_gt, zw_if_le, zw_ic_eq, zw_ic_ne, zw_ic_lt, zw_ic_ge, zw_ic_gt, zw_ic_le, zw_ifnn, zw_ifnnN, zw_tsw, zw_lsw, zw_getf_l, zw_getf_r, zw_getf_i, zw_getf_z, zw_putf_i, zw_putf_z, zw_putf_l, zw_putf_r, zw_iaload, zw_caload, zw_laload, zw_aaload, zw_iastore, zw_castore, zw_lastore, zw_aastore, zw_alen, zw_newa, zw_newq, zw_new, zw_oini, zw_invs, zw_invv, zw_copy, zw_invt, zw_iret, zw_lret, zw_ret, zc_r, zc_a, zk_rvs, zk_cat2, List.getElem?_cons_zero, List.getElem?_cons_succ, Bool.false_eq_true, and_false, false_and, and_true, true_and, reduceIte, Nat.reduceEqDiff, Nat.reduceLT, Nat.reduceAdd, List.cons_append, List.nil_append, Option.toList_some, Option.toList_none, zk_cat_i, zk_cat_r, zk_cat_n, zk_same, Option.some.injEq, Value.int.injEq, Value.long.injEq, eq_self, false_implies, true_implies, zf_3, zf_5, zf_9]
        have hgv : sp_gv V day pt p t k = sp_val cs (sp_e (vWt V t) (sp_ck pt t 6) day (pt p t) (sp_pc (vHg V t)) 0) := by
          unfold sp_gv; rw [hr]
        refine fin M' (zk_mach_fr hm1 (hfr 3 (by decide)) (hfr 4 (by decide))) (zm_kn_fr hk (fun q h1 h2 => by rw [hfr q (by omega), hrow q (by omega)])) (fun q q2 q3 qb => by rw [hfr q q2, hrow q q3]) _ hval (by rw [hgv])
  refine hZ B_X5_gain_0 _ _ _ _ _ _ _ k_X5_gain_0 ?_
  simp only [B_X5_gain_0, zk_ldi_s, zk_ldl_s, zk_lda_r, zk_lda_a, zk_lda_n, zk_iv_s, zr_nil, zr_cons, zp_0, zp_s, zt_0, zt_s, zt2_0, zt2_s, zw_iconst, zw_bipush, zw_sipush, zw_lconst, zw_ldcs, zw_ldc, zw_ldcw, zw_ldc2, zw_iload_n, zw_lload_n, zw_aload_n, zw_istore_n, zw_lstore_n, zw_astore_n, zw_astoreN_n, zw_iload, zw_lload, zw_aload, zw_istore, zw_lstore, zw_astore, zw_astoreN, zw_iinc, zw_iadd, zw_isub, zw_imul, zw_iand, zw_ior, zw_ixor, zw_ishl, zw_ishr, zw_iushr, zw_idiv, zw_irem, zw_ladd, zw_lsub, zw_lmul, zw_land, zw_ldiv, zw_lrem, zw_lcmp, zw_i2l, zw_l2i, zw_dup, zw_pop, zw_dup2i, zw_goto, zw_if_eq, zw_if_ne, zw_if_lt, zw_if_ge, zw_if_gt, zw_if_le, zw_ic_eq, zw_ic_ne, zw_ic_lt, zw_ic_ge, zw_ic_gt, zw_ic_le, zw_ifnn, zw_ifnnN, zw_tsw, zw_lsw, zw_getf_l, zw_getf_r, zw_getf_i, zw_getf_z, zw_putf_i, zw_putf_z, zw_putf_l, zw_putf_r, zw_iaload, zw_caload, zw_laload, zw_aaload, zw_iastore, zw_castore, zw_lastore, zw_aastore, zw_alen, zw_newa, zw_newq, zw_new, zw_oini, zw_invs, zw_invv, zw_copy, zw_invt, zw_iret, zw_lret, zw_ret, zc_r, zc_a, zk_rvs, zk_cat2, List.getElem?_cons_zero, List.getElem?_cons_succ, Bool.false_eq_true, and_false, false_and, and_true, true_and, reduceIte, Nat.reduceEqDiff, Nat.reduceLT, Nat.reduceAdd, List.cons_append, List.nil_append, Option.toList_some, Option.toList_none, zk_cat_i, zk_cat_r, zk_cat_n, zk_same, Option.some.injEq, Value.int.injEq, Value.long.injEq, eq_self, false_implies, true_implies, zf_3, zf_5, zf_9, ho, hb2]
  refine zk_callS (ct_pointsOf hb hk.2.2.2 p t hp (by omega)) (by decide) (Nat.le_refl _) (Nat.le_of_ble_eq_true rfl) ?_
  have e1 : (nI k = 1) = (k = 1) := by rw [fa_lit 1, nI_eq (by omega) (by omega)]
  simp only [zk_ldi_s, zk_ldl_s, zk_lda_r, zk_lda_a, zk_lda_n, zk_iv_s, zr_nil, zr_cons, zp_0, zp_s, zt_0, zt_s, zt2_0, zt2_s, zw_iconst, zw_bipush, zw_sipush, zw_lconst, zw_ldcs, zw_ldc, zw_ldcw, zw_ldc2, zw_iload_n, zw_lload_n, zw_aload_n, zw_istore_n, zw_lstore_n, zw_astore_n, zw_astoreN_n, zw_iload, zw_lload, zw_aload, zw_istore, zw_lstore, zw_astore, zw_astoreN, zw_iinc, zw_iadd, zw_isub, zw_imul, zw_iand, zw_ior, zw_ixor, zw_ishl, zw_ishr, zw_iushr, zw_idiv, zw_irem, zw_ladd, zw_lsub, zw_lmul, zw_land, zw_ldiv, zw_lrem, zw_lcmp, zw_i2l, zw_l2i, zw_dup, zw_pop, zw_dup2i, zw_goto, zw_if_eq, zw_if_ne, zw_if_lt, zw_if_ge, zw_if_gt, zw_if_le, zw_ic_eq, zw_ic_ne, zw_ic_lt, zw_ic_ge, zw_ic_gt, zw_ic_le, zw_ifnn, zw_ifnnN, zw_tsw, zw_lsw, zw_getf_l, zw_getf_r, zw_getf_i, zw_getf_z, zw_putf_i, zw_putf_z, zw_putf_l, zw_putf_r, zw_iaload, zw_caload, zw_laload, zw_aaload, zw_iastore, zw_castore, zw_lastore, zw_aastore, zw_alen, zw_newa, zw_newq, zw_new, zw_oini, zw_invs, zw_invv, zw_copy, zw_invt, zw_iret, zw_lret, zw_ret, zc_r, zc_a, zk_rvs, zk_cat2, List.getElem?_cons_zero, List.getElem?_cons_succ, Bool.false_eq_true, and_false, false_and, and_true, true_and, reduceIte, Nat.reduceEqDiff, Nat.reduceLT, Nat.reduceAdd, List.cons_append, List.nil_append, Option.toList_some, Option.toList_none, zk_cat_i, zk_cat_r, zk_cat_n, zk_same, Option.some.injEq, Value.int.injEq, Value.long.injEq, eq_self, false_implies, true_implies, zf_3, zf_5, zf_9, e1]
  refine ⟨fun h => ?_, fun h => ?_⟩
  · refine hZ B_X5_gain_20 _ _ _ _ _ _ _ k_X5_gain_20 ?_
    simp only [B_X5_gain_20, zk_ldi_s, zk_ldl_s, zk_lda_r, zk_lda_a, zk_lda_n, zk_iv_s, zr_nil, zr_cons, zp_0, zp_s, zt_0, zt_s, zt2_0, zt2_s, zw_iconst, zw_bipush, zw_sipush, zw_lconst, zw_ldcs, zw_ldc, zw_ldcw, zw_ldc2, zw_iload_n, zw_lload_n, zw_aload_n, zw_istore_n, zw_lstore_n, zw_astore_n, zw_astoreN_n, zw_iload, zw_lload, zw_aload, zw_istore, zw_lstore, zw_astore, zw_astoreN, zw_iinc, zw_iadd, zw_isub, zw_imul, zw_iand, zw_ior, zw_ixor, zw_ishl, zw_ishr, zw_iushr, zw_idiv, zw_irem, zw_ladd, zw_lsub, zw_lmul, zw_land, zw_ldiv, zw_lrem, zw_lcmp, zw_i2l, zw_l2i, zw_dup, zw_pop, zw_dup2i, zw_goto, zw_if_eq, zw_if_ne, zw_if_lt, zw_if_ge, zw_if_gt, zw_if_le, zw_ic_eq, zw_ic_ne, zw_ic_lt, zw_ic_ge, zw_ic_gt, zw_ic_le, zw_ifnn, zw_ifnnN, zw_tsw, zw_lsw, zw_getf_l, zw_getf_r, zw_getf_i, zw_getf_z, zw_putf_i, zw_putf_z, zw_putf_l, zw_putf_r, zw_iaload, zw_caload, zw_laload, zw_aaload, zw_iastore, zw_castore, zw_lastore, zw_aastore, zw_alen, zw_newa, zw_newq, zw_new, zw_oini, zw_invs, zw_invv, zw_copy, zw_invt, zw_iret, zw_lret, zw_ret, zc_r, zc_a, zk_rvs, zk_cat2, List.getElem?_cons_zero, List.getElem?_cons_succ, Bool.false_eq_true, and_false, false_and, and_true, true_and, reduceIte, Nat.reduceEqDiff, Nat.reduceLT, Nat.reduceAdd, List.cons_append, List.nil_append, Option.toList_some, Option.toList_none, zk_cat_i, zk_cat_r, zk_cat_n, zk_same, Option.some.injEq, Value.int.injEq, Value.long.injEq, eq_self, false_implies, true_implies, zf_3, zf_5, zf_9]
    rw [iI_nI]
    refine at22 (pt p t) ⟨by omega, by omega⟩ (fun hr => ?_)
    unfold sp_gv
    rw [hr]
    simp [h]
  · refine at22 99 ⟨by omega, by omega⟩ (fun hr => ?_)
    unfold sp_gv
    rw [hr]
    simp [h]
end GN
