/-! ===== the ROUTE ===== -/
def B_X0_farBy_0 : List zk_I := [(.aload_n 1, 1, 0, 1, 0, 0, []), (.getfield 158, 3, 0, 9, 3, 0, []), (.iload_n 3, 1, 0, 3, 0, 0, []), (.bipush 6, 2, 6, 0, 0, 0, []), (.imul, 1, 0, 0, 0, 0, []), (.iload 4, 2, 0, 4, 0, 0, []), (.iadd, 1, 0, 0, 0, 0, []), (.iaload, 1, 0, 0, 0, 0, []), (.istore 5, 2, 0, 5, 0, 0, []), (.iload 5, 2, 0, 5, 0, 0, []), (.ifCond .eq 15, 3, 0, 31, 0, 0, []), (.aload_n 0, 1, 0, 0, 0, 0, []), (.getfield 31, 3, 0, 0, 5, 0, []), (.iload 4, 2, 0, 4, 0, 0, []), (.iaload, 1, 0, 0, 0, 0, []), (.ldc 151, 2, 1000000000, 0, 0, 0, []), (.if_icmp .lt 8, 3, 0, 36, 0, 0, []), (.ldc 151, 2, 1000000000, 0, 0, 0, []), (.goto 20, 3, 0, 53, 0, 0, [])]
theorem k_X0_farBy_0 : zk_ckb 0 false (zk_m 14) B_X0_farBy_0 0 = true := by decide +kernel
def B_X0_farBy_31 : List zk_I := [(.ldc 151, 2, 1000000000, 0, 0, 0, []), (.goto 20, 3, 0, 53, 0, 0, [])]
theorem k_X0_farBy_31 : zk_ckb 0 false (zk_m 14) B_X0_farBy_31 31 = true := by decide +kernel
def B_X0_farBy_36 : List zk_I := [(.iload 5, 2, 0, 5, 0, 0, []), (.aload_n 2, 1, 0, 2, 0, 0, []), (.iload 4, 2, 0, 4, 0, 0, []), (.invokevirtual 87, 3, 0, 2, 51, 3, []), (.iadd, 1, 0, 0, 0, 0, []), (.aload_n 0, 1, 0, 0, 0, 0, []), (.getfield 31, 3, 0, 0, 5, 0, []), (.iload 4, 2, 0, 4, 0, 0, []), (.iaload, 1, 0, 0, 0, 0, []), (.iadd, 1, 0, 0, 0, 0, []), (.ireturn, 1, 0, 0, 0, 0, [])]
theorem k_X0_farBy_36 : zk_ckb 0 false (zk_m 14) B_X0_farBy_36 36 = true := by decide +kernel
def B_X0_farBy_53 : List zk_I := [(.ireturn, 1, 0, 0, 0, 0, [])]
theorem k_X0_farBy_53 : zk_ckb 0 false (zk_m 14) B_X0_farBy_53 53 = true := by decide +kernel
def B_X0_measure_0 : List zk_I := [(.iconst 0, 1, 0, 0, 0, 0, []), (.istore 4, 2, 0, 4, 0, 0, [])]
theorem k_X0_measure_0 : zk_ckb 0 false (zk_m 13) B_X0_measure_0 0 = true := by decide +kernel
def B_X0_measure_3 : List zk_I := [(.iload 4, 2, 0, 4, 0, 0, []), (.bipush 6, 2, 6, 0, 0, 0, []), (.if_icmp .ge 28, 3, 0, 35, 0, 0, []), (.aload_n 0, 1, 0, 0, 0, 0, []), (.getfield 31, 3, 0, 0, 5, 0, []), (.iload 4, 2, 0, 4, 0, 0, []), (.iload 4, 2, 0, 4, 0, 0, []), (.iload_n 3, 1, 0, 3, 0, 0, []), (.if_icmp .ne 7, 3, 0, 26, 0, 0, []), (.iconst 0, 1, 0, 0, 0, 0, []), (.goto 5, 3, 0, 28, 0, 0, [])]
theorem k_X0_measure_3 : zk_ckb 0 false (zk_m 13) B_X0_measure_3 3 = true := by decide +kernel
def B_X0_measure_26 : List zk_I := [(.ldc 151, 2, 1000000000, 0, 0, 0, [])]
theorem k_X0_measure_26 : zk_ckb 0 false (zk_m 13) B_X0_measure_26 26 = true := by decide +kernel
def B_X0_measure_28 : List zk_I := [(.iastore, 1, 0, 0, 0, 0, []), (.iinc 4 1, 3, 1, 4, 0, 0, []), (.goto (-29), 3, 0, 3, 0, 0, [])]
theorem k_X0_measure_28 : zk_ckb 0 false (zk_m 13) B_X0_measure_28 28 = true := by decide +kernel
def B_X0_measure_35 : List zk_I := [(.iconst 0, 1, 0, 0, 0, 0, []), (.istore 4, 2, 0, 4, 0, 0, [])]
theorem k_X0_measure_35 : zk_ckb 0 false (zk_m 13) B_X0_measure_35 35 = true := by decide +kernel
def B_X0_measure_38 : List zk_I := [(.iload 4, 2, 0, 4, 0, 0, []), (.aload_n 1, 1, 0, 1, 0, 0, []), (.getfield 78, 3, 0, 9, 0, 0, []), (.getfield 82, 3, 0, 4, 2, 0, []), (.if_icmp .ge 78, 3, 0, 125, 0, 0, []), (.iconst 0, 1, 0, 0, 0, 0, []), (.istore 5, 2, 0, 5, 0, 0, [])]
theorem k_X0_measure_38 : zk_ckb 0 false (zk_m 13) B_X0_measure_38 38 = true := by decide +kernel
def B_X0_measure_53 : List zk_I := [(.iload 5, 2, 0, 5, 0, 0, []), (.aload_n 1, 1, 0, 1, 0, 0, []), (.getfield 78, 3, 0, 9, 0, 0, []), (.getfield 82, 3, 0, 4, 2, 0, []), (.if_icmp .ge 57, 3, 0, 119, 0, 0, []), (.iconst 0, 1, 0, 0, 0, 0, []), (.istore 6, 2, 0, 6, 0, 0, [])]
theorem k_X0_measure_53 : zk_ckb 0 false (zk_m 13) B_X0_measure_53 53 = true := by decide +kernel
def B_X0_measure_68 : List zk_I := [(.iload 6, 2, 0, 6, 0, 0, []), (.aload_n 1, 1, 0, 1, 0, 0, []), (.getfield 78, 3, 0, 9, 0, 0, []), (.getfield 82, 3, 0, 4, 2, 0, []), (.if_icmp .ge 36, 3, 0, 113, 0, 0, []), (.aload_n 0, 1, 0, 0, 0, 0, []), (.getfield 31, 3, 0, 0, 5, 0, []), (.iload 5, 2, 0, 5, 0, 0, []), (.aload_n 0, 1, 0, 0, 0, 0, []), (.getfield 31, 3, 0, 0, 5, 0, []), (.iload 5, 2, 0, 5, 0, 0, []), (.iaload, 1, 0, 0, 0, 0, []), (.aload_n 0, 1, 0, 0, 0, 0, []), (.aload_n 1, 1, 0, 1, 0, 0, []), (.aload_n 2, 1, 0, 2, 0, 0, []), (.iload 5, 2, 0, 5, 0, 0, []), (.iload 6, 2, 0, 6, 0, 0, []), (.invokevirtual 155, 3, 0, 5, 14, 0, []), (.invokestatic 39, 3, 0, 2, 319, 15, []), (.iastore, 1, 0, 0, 0, 0, []), (.iinc 6 1, 3, 1, 6, 0, 0, []), (.goto (-42), 3, 0, 68, 0, 0, [])]
theorem k_X0_measure_68 : zk_ckb 0 false (zk_m 13) B_X0_measure_68 68 = true := by decide +kernel
def B_X0_measure_113 : List zk_I := [(.iinc 5 1, 3, 1, 5, 0, 0, []), (.goto (-63), 3, 0, 53, 0, 0, [])]
theorem k_X0_measure_113 : zk_ckb 0 false (zk_m 13) B_X0_measure_113 113 = true := by decide +kernel
def B_X0_measure_119 : List zk_I := [(.iinc 4 1, 3, 1, 4, 0, 0, []), (.goto (-84), 3, 0, 38, 0, 0, [])]
theorem k_X0_measure_119 : zk_ckb 0 false (zk_m 13) B_X0_measure_119 119 = true := by decide +kernel
def B_X0_measure_125 : List zk_I := [(.return_, 1, 0, 0, 0, 0, [])]
theorem k_X0_measure_125 : zk_ckb 0 false (zk_m 13) B_X0_measure_125 125 = true := by decide +kernel
def B_X0_nextOnRoute_0 : List zk_I := [(.iconst 0, 1, 0, 0, 0, 0, []), (.istore 4, 2, 0, 4, 0, 0, [])]
theorem k_X0_nextOnRoute_0 : zk_ckb 0 false (zk_m 15) B_X0_nextOnRoute_0 0 = true := by decide +kernel
def B_X0_nextOnRoute_3 : List zk_I := [(.iload 4, 2, 0, 4, 0, 0, []), (.aload_n 1, 1, 0, 1, 0, 0, []), (.getfield 78, 3, 0, 9, 0, 0, []), (.getfield 82, 3, 0, 4, 2, 0, []), (.if_icmp .ge 30, 3, 0, 42, 0, 0, []), (.aload_n 0, 1, 0, 0, 0, 0, []), (.aload_n 1, 1, 0, 1, 0, 0, []), (.aload_n 2, 1, 0, 2, 0, 0, []), (.iload_n 3, 1, 0, 3, 0, 0, []), (.iload 4, 2, 0, 4, 0, 0, []), (.invokevirtual 155, 3, 0, 5, 14, 0, []), (.aload_n 0, 1, 0, 0, 0, 0, []), (.getfield 31, 3, 0, 0, 5, 0, []), (.iload_n 3, 1, 0, 3, 0, 0, []), (.iaload, 1, 0, 0, 0, 0, []), (.if_icmp .ne 6, 3, 0, 36, 0, 0, []), (.iload 4, 2, 0, 4, 0, 0, []), (.ireturn, 1, 0, 0, 0, 0, [])]
theorem k_X0_nextOnRoute_3 : zk_ckb 0 false (zk_m 15) B_X0_nextOnRoute_3 3 = true := by decide +kernel
def B_X0_nextOnRoute_36 : List zk_I := [(.iinc 4 1, 3, 1, 4, 0, 0, []), (.goto (-36), 3, 0, 3, 0, 0, [])]
theorem k_X0_nextOnRoute_36 : zk_ckb 0 false (zk_m 15) B_X0_nextOnRoute_36 36 = true := by decide +kernel
def B_X0_nextOnRoute_42 : List zk_I := [(.iconst (-1), 1, (-1), 0, 0, 0, []), (.ireturn, 1, 0, 0, 0, 0, [])]
theorem k_X0_nextOnRoute_42 : zk_ckb 0 false (zk_m 15) B_X0_nextOnRoute_42 42 = true := by decide +kernel
def B_X0_routeStep_0 : List zk_I := [(.aload_n 0, 1, 0, 0, 0, 0, []), (.aload_n 1, 1, 0, 1, 0, 0, []), (.aload_n 2, 1, 0, 2, 0, 0, []), (.iload 4, 2, 0, 4, 0, 0, []), (.invokevirtual 148, 3, 0, 4, 13, 0, []), (.aload_n 0, 1, 0, 0, 0, 0, []), (.getfield 31, 3, 0, 0, 5, 0, []), (.iload_n 3, 1, 0, 3, 0, 0, []), (.iaload, 1, 0, 0, 0, 0, []), (.ldc 151, 2, 1000000000, 0, 0, 0, []), (.if_icmp .lt 5, 3, 0, 21, 0, 0, []), (.iconst (-1), 1, (-1), 0, 0, 0, []), (.ireturn, 1, 0, 0, 0, 0, [])]
theorem k_X0_routeStep_0 : zk_ckb 0 false (zk_m 12) B_X0_routeStep_0 0 = true := by decide +kernel
def B_X0_routeStep_21 : List zk_I := [(.iload 5, 2, 0, 5, 0, 0, []), (.iconst (-1), 1, (-1), 0, 0, 0, []), (.if_icmp .ne 10, 3, 0, 34, 0, 0, []), (.aload_n 0, 1, 0, 0, 0, 0, []), (.getfield 31, 3, 0, 0, 5, 0, []), (.iload_n 3, 1, 0, 3, 0, 0, []), (.iaload, 1, 0, 0, 0, 0, []), (.ireturn, 1, 0, 0, 0, 0, [])]
theorem k_X0_routeStep_21 : zk_ckb 0 false (zk_m 12) B_X0_routeStep_21 21 = true := by decide +kernel
def B_X0_routeStep_34 : List zk_I := [(.iload_n 3, 1, 0, 3, 0, 0, []), (.istore 6, 2, 0, 6, 0, 0, []), (.iconst 0, 1, 0, 0, 0, 0, []), (.istore 7, 2, 0, 7, 0, 0, [])]
theorem k_X0_routeStep_34 : zk_ckb 0 false (zk_m 12) B_X0_routeStep_34 34 = true := by decide +kernel
def B_X0_routeStep_40 : List zk_I := [(.iload 7, 2, 0, 7, 0, 0, []), (.bipush 6, 2, 6, 0, 0, 0, []), (.if_icmp .ge 42, 3, 0, 86, 0, 0, []), (.iload 6, 2, 0, 6, 0, 0, []), (.iload 4, 2, 0, 4, 0, 0, []), (.if_icmp .eq 35, 3, 0, 86, 0, 0, []), (.aload_n 0, 1, 0, 0, 0, 0, []), (.aload_n 1, 1, 0, 1, 0, 0, []), (.aload_n 2, 1, 0, 2, 0, 0, []), (.iload 6, 2, 0, 6, 0, 0, []), (.invokevirtual 152, 3, 0, 4, 15, 0, []), (.istore 6, 2, 0, 6, 0, 0, []), (.iload 6, 2, 0, 6, 0, 0, []), (.iconst (-1), 1, (-1), 0, 0, 0, []), (.if_icmp .eq 10, 3, 0, 77, 0, 0, []), (.iload 7, 2, 0, 7, 0, 0, []), (.iload 5, 2, 0, 5, 0, 0, []), (.if_icmp .ne 6, 3, 0, 80, 0, 0, []), (.iload 6, 2, 0, 6, 0, 0, []), (.ireturn, 1, 0, 0, 0, 0, [])]
theorem k_X0_routeStep_40 : zk_ckb 0 false (zk_m 12) B_X0_routeStep_40 40 = true := by decide +kernel
def B_X0_routeStep_77 : List zk_I := [(.iload 6, 2, 0, 6, 0, 0, []), (.ireturn, 1, 0, 0, 0, 0, [])]
theorem k_X0_routeStep_77 : zk_ckb 0 false (zk_m 12) B_X0_routeStep_77 77 = true := by decide +kernel
def B_X0_routeStep_80 : List zk_I := [(.iinc 7 1, 3, 1, 7, 0, 0, []), (.goto (-43), 3, 0, 40, 0, 0, [])]
theorem k_X0_routeStep_80 : zk_ckb 0 false (zk_m 12) B_X0_routeStep_80 80 = true := by decide +kernel
def B_X0_routeStep_86 : List zk_I := [(.iconst (-1), 1, (-1), 0, 0, 0, []), (.ireturn, 1, 0, 0, 0, 0, [])]
theorem k_X0_routeStep_86 : zk_ckb 0 false (zk_m 12) B_X0_routeStep_86 86 = true := by decide +kernel
def sp_w (V : sp_V) (ly : Nat → Nat → Nat) (a b : Nat) : Option Nat := if vWy V a b = 0 then none else some (vWy V a b + sp_li ly b 10)
def sp_op : Option Nat → Option Nat → Option Nat
  | some x, some y => some (x + y)
  | _, _ => none
def sp_om : Option Nat → Option Nat → Option Nat
  | some x, some y => some (min x y)
  | some x, none => some x
  | none, y => y
def sp_fby (V : sp_V) (ly : Nat → Nat → Nat) (f : Nat → Option Nat) (a b : Nat) : Option Nat := sp_op (sp_w V ly a b) (f b)
def sp_set {α : Type} (f : Nat → α) (a : Nat) (x : α) : Nat → α := fun q => if q = a then x else f q
def sp_rx (V : sp_V) (ly : Nat → Nat → Nat) (f : Nat → Option Nat) (a : Nat) : Nat → Nat → Option Nat
  | 0 => f
  | b + 1 => sp_set (sp_rx V ly f a b) a (sp_om (sp_rx V ly f a b a) (sp_fby V ly (sp_rx V ly f a b) a b))
def sp_ry (V : sp_V) (ly : Nat → Nat → Nat) (f : Nat → Option Nat) : Nat → Nat → Option Nat
  | 0 => f
  | a + 1 => sp_rx V ly (sp_ry V ly f a) a (vNp V)
def sp_rz (V : sp_V) (ly : Nat → Nat → Nat) (f : Nat → Option Nat) : Nat → Nat → Option Nat
  | 0 => f
  | k + 1 => sp_ry V ly (sp_rz V ly f k) (vNp V)
def sp_f0 (to : Nat) : Nat → Option Nat := fun p => if p = to then some 0 else none
def sp_me (V : sp_V) (ly : Nat → Nat → Nat) (to : Nat) : Nat → Option Nat := sp_rz V ly (sp_f0 to) (vNp V)
def sp_bd (f : Nat → Option Nat) (B : Nat) : Prop := ∀ a x, f a = some x → x ≤ B
theorem sp_w_le {V : sp_V} (hV : sp_vw V) {ly : Nat → Nat → Nat} (hly : ∀ p t, p < 6 → t < 10 → ly p t ≤ 999) {a b x : Nat} (hb : b < 6) (h : sp_w V ly a b = some x) : 1 ≤ x ∧ x ≤ 10089 := by
  unfold sp_w at h
  have h1 := hV.2.2.2.1 a b
  have h2 := sp_li_le (ly := ly) (p := b) (c := 999) 10 (fun u hu => hly b u hb hu)
  split at h
  · cases h
  · cases h
    omega
theorem sp_rx_ne {V : sp_V} {ly : Nat → Nat → Nat} {f : Nat → Option Nat} {a q : Nat} (h : q ≠ a) : ∀ b, sp_rx V ly f a b q = f q
  | 0 => rfl
  | b + 1 => by
    simp only [sp_rx, sp_set]
    rw [if_neg h, sp_rx_ne h b]
theorem sp_om_some {o1 o2 : Option Nat} {x B : Nat} (h : sp_om o1 o2 = some x) (h1 : ∀ y, o1 = some y → y ≤ B) (h2 : ∀ y, o2 = some y → y ≤ B) : x ≤ B := by
  cases o1 with
  | none => exact h2 x h
  | some y =>
    cases o2 with
    | none => cases h; exact h1 _ rfl
    | some z => cases h; have := h1 y rfl; omega
theorem sp_rx_bd {V : sp_V} (hV : sp_vw V) {ly : Nat → Nat → Nat} (hly : ∀ p t, p < 6 → t < 10 → ly p t ≤ 999) {f : Nat → Option Nat} {a B : Nat} (hf : sp_bd f B) : ∀ b, b ≤ 6 → sp_bd (sp_rx V ly f a b) (B + 10089)
  | 0, _ => fun q x h => by have := hf q x h; omega
  | b + 1, hb => by
    intro q x h
    have ih := sp_rx_bd hV hly (a := a) hf b (by omega)
    by_cases hq : q = a
    · subst hq
      simp only [sp_rx, sp_set, if_true] at h
      by_cases hba : b = q
      · subst hba
        cases ho : sp_rx V ly f b b b with
        | none =>
          rw [ho] at h
          have : sp_fby V ly (sp_rx V ly f b b) b b = none := by
            unfold sp_fby
            rw [ho]
            cases sp_w V ly b b <;> rfl
          rw [this] at h
          cases h
        | some y =>
          rw [ho] at h
          have h9 := ih b y ho
          refine sp_om_some (B := B + 10089) (o1 := some y) (o2 := none) (x := x) ?_ (fun z hz => by cases hz; exact h9) (fun z hz => by cases hz)
          rw [← h]
          cases hw : sp_fby V ly (sp_rx V ly f b b) b b with
          | none => rfl
          | some z =>
            have hz : y ≤ z := by
              unfold sp_fby at hw
              rw [ho] at hw
              cases hw2 : sp_w V ly b b with
              | none => rw [hw2] at hw; cases hw
              | some w => rw [hw2] at hw; cases hw; omega
            show some y = some (min y z)
            rw [Nat.min_eq_left hz]
      · refine sp_om_some h (fun y hy => ih q y hy) (fun y hy => ?_)
        unfold sp_fby at hy
        rw [sp_rx_ne hba] at hy
        cases hw : sp_w V ly q b with
        | none => rw [hw] at hy; cases hy
        | some w =>
          rw [hw] at hy
          cases hfb : f b with
          | none => rw [hfb] at hy; cases hy
          | some z =>
            rw [hfb] at hy
            cases hy
            have h1 := sp_w_le hV hly (by omega) hw
            have h2 := hf b z hfb
            omega
    · rw [sp_rx_ne hq] at h
      have := hf q x h
      omega
theorem sp_ry_bd {V : sp_V} (hV : sp_vw V) {ly : Nat → Nat → Nat} (hly : ∀ p t, p < 6 → t < 10 → ly p t ≤ 999) {f : Nat → Option Nat} {B : Nat} (hf : sp_bd f B) : ∀ a, sp_bd (sp_ry V ly f a) (B + 10089 * a)
  | 0 => hf
  | a + 1 => by
    have h := sp_rx_bd hV hly (a := a) (sp_ry_bd hV hly hf a) (vNp V) hV.1
    intro q x hx
    exact Nat.le_trans (h q x hx) (Nat.le_of_eq (by rw [Nat.mul_succ, Nat.add_assoc]))
theorem sp_rz_bd {V : sp_V} (hV : sp_vw V) {ly : Nat → Nat → Nat} (hly : ∀ p t, p < 6 → t < 10 → ly p t ≤ 999) {f : Nat → Option Nat} {B : Nat} (hf : sp_bd f B) : ∀ k, sp_bd (sp_rz V ly f k) (B + 60534 * k)
  | 0 => hf
  | k + 1 => by
    have h := sp_ry_bd hV hly (sp_rz_bd hV hly hf k) (vNp V)
    have := hV.1
    intro q x hx
    have := h q x hx
    omega
theorem sp_f0_bd (to : Nat) : sp_bd (sp_f0 to) 0 := by
  intro a x h
  unfold sp_f0 at h
  split at h
  · cases h; omega
  · cases h
theorem sp_me_bd {V : sp_V} (hV : sp_vw V) {ly : Nat → Nat → Nat} (hly : ∀ p t, p < 6 → t < 10 → ly p t ≤ 999) (to : Nat) : sp_bd (sp_me V ly to) 363204 := by
  have h := sp_rz_bd hV hly (sp_f0_bd to) (vNp V)
  have := hV.1
  intro q x hx
  have := h q x hx
  omega
def sp_fe (o : Option Nat) : Nat := o.getD 1000000000
def zr_far (M : zk_MI) (f : Nat → Option Nat) : Prop := ∀ a, a < 6 → M 39 a = nI (sp_fe (f a))
theorem sp_fe_lt {f : Nat → Option Nat} {B : Nat} (hf : sp_bd f B) (hB : B < 1000000000) (a : Nat) : sp_fe (f a) ≤ 1000000000 ∧ (1000000000 ≤ sp_fe (f a) ↔ f a = none) := by
  cases h : f a with
  | none => simp [sp_fe]
  | some x =>
    have := hf a x h
    simp only [sp_fe, Option.getD_some]
    refine ⟨by omega, ⟨fun q => by omega, fun q => by cases q⟩⟩
theorem zx_6 (p t : Nat) : nI p * 6 + nI t = nI (6 * p + t) := by rw [fa_lit 6, pk_mul, nI_add, Nat.mul_comm]
section RT
variable {G : zk_G} {n : Nat} {M : zk_MI} {L : zk_ML} {P : zk_MP}
theorem ct_farBy (hn : 154 ≤ n) (hP : zs_X P) {v : Nat} (hv : zv_ok n P v) {V : sp_V} (hV : sp_vw V) (hVr : zv_rep M v V) {ly : Nat → Nat → Nat} (hly : zm_ly M 40 ly) {f : Nat → Option Nat} {B : Nat} (hf : sp_bd f B) (hB : B ≤ 500000) (hr : zr_far M f) (a b : Nat) (ha : a < 6) (hb : b < 6) :
    zk_C G 1 14 [.ref 14, .ref v, .ref 40, .int (nI a), .int (nI b)] n M L P n (zk_same (some (.int (nI (sp_fe (sp_fby V ly f a b))))) M L P) := by
  obtain ⟨-, -, -, -, h40⟩ := zm_15 hn hP
  refine zk_meth (ow := 0) (kind := 1) (k := 4) (nL := 6) (ct := false) (l0 := [.ref 14, .ref v, .ref 40, .int (nI a), .int (nI b), zk_un]) (by decide +kernel) (fun h => by cases h) (by decide +kernel) (by decide) (by decide) (fun h => absurd h (by decide)) (Nat.le_of_ble_eq_true rfl) rfl (by omega) (fun Z hZ => ?_)
  have ho := zo_X hn
  have hP2 := hP
  unfold zs_X at hP2
  have hv2 := hv
  unfold zv_ok at hv2
  have c1 : (nI (6 * a + b)).toNatClampNeg = 6 * a + b := nI_clamp (by omega)
  have i1 : vp_in (nI (6 * a + b)) 36 := vp_in_nI (by omega) (by omega)
  have c2 : (nI b).toNatClampNeg = b := nI_clamp (by omega)
  have i2 : vp_in (nI b) 6 := vp_in_nI (by omega) (by omega)
  have hwy := hV.2.2.2.1 a b
  have hfe := sp_fe_lt hf (by omega) b
  have e1 := zn_z (a := vWy V a b) (by omega)
  have e2 : (nI (sp_fe (f b)) < (1000000000 : Int32)) = (sp_fe (f b) < 1000000000) := by rw [fa_lit 1000000000, zn_lt (by omega) (by omega)]
  refine hZ B_X0_farBy_0 _ _ _ _ _ _ _ k_X0_farBy_0 ?_
  simp only [B_X0_farBy_0, zk_ldi_s, zk_ldl_s, zk_lda_r, zk_lda_a, zk_lda_n, zk_iv_s, zr_nil, zr_cons, zp_0, zp_s, zt_0, zt_s, zt2_0, zt2_s, zw_iconst, zw_bipush, zw_sipush, zw_lconst, zw_ldcs, zw_ldc, zw_ldcw, zw_ldc2, zw_iload_n, zw_lload_n, zw_aload_n, zw_istore_n, zw_lstore_n, zw_astore_n, zw_astoreN_n, zw_iload, zw_lload, zw_aload, zw_istore, zw_lstore, zw_astore, zw_astoreN, zw_iinc, zw_iadd, zw_isub, zw_imul, zw_iand, zw_ior, zw_ixor, zw_ishl, zw_ishr, zw_iushr, zw_idiv, zw_irem, zw_ladd, zw_lsub, zw_lmul, zw_land, zw_ldiv, zw_lrem, zw_lcmp, zw_i2l, zw_l2i, zw_dup, zw_pop, zw_dup2i, zw_goto, zw_if_eq, zw_if_ne, zw_if_lt, zw_if_ge, zw_if_gt, zw_if_le, zw_ic_eq, zw_ic_ne, zw_ic_lt, zw_ic_ge, zw_ic_gt, zw_ic_le, zw_ifnn, zw_ifnnN, zw_tsw, zw_lsw, zw_getf_l, zw_getf_r, zw_getf_i, zw_getf_z, zw_putf_i, zw_putf_z, zw_putf_l, zw_putf_r, zw_iaload, zw_caload, zw_laload, zw_aaload, zw_iastore, zw_castore, zw_lastore, zw_aastore, zw_alen, zw_newa, zw_newq, zw_new, zw_oini, zw_invs, zw_invv, zw_copy, zw_invt, zw_iret, zw_lret, zw_ret, zc_r, zc_a, zk_rvs, zk_cat2, List.getElem?_cons_zero, List.getElem?_cons_succ, Bool.false_eq_true, and_false, false_and, and_true, true_and, reduceIte, Nat.reduceEqDiff, Nat.reduceLT, Nat.reduceAdd, List.cons_append, List.nil_append, Option.toList_some, Option.toList_none, zk_cat_i, zk_cat_r, zk_cat_n, zk_same, Option.some.injEq, Value.int.injEq, Value.long.injEq, eq_self, false_implies, true_implies, zf_0, zf_9, ho, hP2, hv2, zl_X, zx_6, c1, i1, c2, i2, hVr.2.2.2.1 a b ha hb, e1, hr b hb, e2]
  refine ⟨fun h => ?_, fun h => ⟨fun h2 => ?_, fun h2 => ?_⟩⟩
  · refine hZ B_X0_farBy_31 _ _ _ _ _ _ _ k_X0_farBy_31 ?_
    simp only [B_X0_farBy_31, zk_ldi_s, zk_ldl_s, zk_lda_r, zk_lda_a, zk_lda_n, zk_iv_s, zr_nil, zr_cons, zp_0, zp_s, zt_0, zt_s, zt2_0, zt2_s, zw_iconst, zw_bipush, zw_sipush, zw_lconst, zw_ldcs, zw_ldc, zw_ldcw, zw_ldc2, zw_iload_n, zw_lload_n, zw_aload_n, zw_istore_n, zw_lstore_n, zw_astore_n, zw_astoreN_n, zw_iload, zw_lload, zw_aload, zw_istore, zw_lstore, zw_astore, zw_astoreN, zw_iinc, zw_iadd, zw_isub, zw_imul, zw_iand, zw_ior, zw_ixor, zw_ishl, zw_ishr, zw_iushr, zw_idiv, zw_irem, zw_ladd, zw_lsub, zw_lmul, zw_land, zw_ldiv, zw_lrem, zw_lcmp, zw_i2l, zw_l2i, zw_dup, zw_pop, zw_dup2i, zw_goto, zw_if_eq, zw_if_ne, zw_if_lt, zw_if_ge, zw_if_gt, zw_if_le, zw_ic_eq, zw_ic_ne, zw_ic_lt, zw_ic_ge, zw_ic_gt, zw_ic_le, zw_ifnn, zw_ifnnN, zw_tsw, zw_lsw, zw_getf_l, zw_getf_r, zw_getf_i, zw_getf_z, zw_putf_i, zw_putf_z, zw_putf_l, zw_putf_r, zw_iaload, zw_caload, zw_laload, zw_aaload, zw_iastore, zw_castore, zw_lastore, zw_aastore, zw_alen, zw_newa, zw_newq, zw_new, zw_oini, zw_invs, zw_invv, zw_copy, zw_invt, zw_iret, zw_lret, zw_ret, zc_r, zc_a, zk_rvs, zk_cat2, List.getElem?_cons_zero, List.getElem?_cons_succ, Bool.false_eq_true, and_false, false_and, and_true, true_and, reduceIte, Nat.reduceEqDiff, Nat.reduceLT, Nat.reduceAdd, List.cons_append, List.nil_append, Option.toList_some, Option.toList_none, zk_cat_i, zk_cat_r, zk_cat_n, zk_same, Option.some.injEq, Value.int.injEq, Value.long.injEq, eq_self, false_implies, true_implies, zf_0, zf_9]
    refine hZ B_X0_farBy_53 _ _ _ _ _ _ _ k_X0_farBy_53 ?_
    simp only [B_X0_farBy_53, zk_ldi_s, zk_ldl_s, zk_lda_r, zk_lda_a, zk_lda_n, zk_iv_s, zr_nil, zr_cons, zp_0, zp_s, zt_0, zt_s, zt2_0, zt2_s, zw_iconst, zw_bipush, zw_sipush, zw_lconst, zw_ldcs, zw_ldc, zw_ldcw, zw_ldc2, zw_iload_n, zw_lload_n, zw_aload_n, zw_istore_n, zw_lstore_n, zw_astore_n, zw_astoreN_n, zw_iload, zw_lload, zw_aload, zw_istore, zw_lstore, zw_astore, zw_astoreN, zw_iinc, zw_iadd, zw_isub, zw_imul, zw_iand, zw_ior, zw_ixor, zw_ishl, zw_ishr, zw_iushr, zw_idiv, zw_irem, zw_ladd, zw_lsub, zw_lmul, zw_land, zw_ldiv, zw_lrem, zw_lcmp, zw_i2l, zw_l2i, zw_dup, zw_pop, zw_dup2i, zw_goto, zw_if_eq, zw_if_ne, zw_if_lt, zw_if_ge, zw_if_gt, zw_if_le, zw_ic_eq, zw_ic_ne, zw_ic_lt, zw_ic_ge, zw_ic_gt, zw_ic_le, zw_ifnn, zw_ifnnN, zw_tsw, zw_lsw, zw_getf_l, zw_getf_r, zw_getf_i, zw_getf_z, zw_putf_i, zw_putf_z, zw_putf_l, zw_putf_r, zw_iaload, zw_caload, zw_laload, zw_aaload, zw_iastore, zw_castore, zw_lastore, zw_aastore, zw_alen, zw_newa, zw_newq, zw_new, zw_oini, zw_invs, zw_invv, zw_copy, zw_invt, zw_iret, zw_lret, zw_ret, zc_r, zc_a, zk_rvs, zk_cat2, List.getElem?_cons_zero, List.getElem?_cons_succ, Bool.false_eq_true, and_false, false_and, and_true, true_and, reduceIte, Nat.reduceEqDiff, Nat.reduceLT, Nat.reduceAdd, List.cons_append, List.nil_append, Option.toList_some, Option.toList_none, zk_cat_i, zk_cat_r, zk_cat_n, zk_same, Option.some.injEq, Value.int.injEq, Value.long.injEq, eq_self, false_implies, true_implies, zf_0, zf_9]
    unfold sp_fby sp_w
    rw [if_pos h]
    rfl
  · rw [e2] at h2
    have h3 : ¬ f b = none := fun z => by have := hfe.2.mpr z; omega
    refine hZ B_X0_farBy_36 _ _ _ _ _ _ _ k_X0_farBy_36 ?_
    simp only [B_X0_farBy_36, zk_ldi_s, zk_ldl_s, zk_lda_r, zk_lda_a, zk_lda_n, zk_iv_s, zr_nil, zr_cons, zp_0, zp_s, zt_0, zt_s, zt2_0, zt2_s, zw_iconst, zw_bipush, zw_sipush, zw_lconst, zw_ldcs, zw_ldc, zw_ldcw, zw_ldc2, zw_iload_n, zw_lload_n, zw_aload_n, zw_istore_n, zw_lstore_n, zw_astore_n, zw_astoreN_n, zw_iload, zw_lload, zw_aload, zw_istore, zw_lstore, zw_astore, zw_astoreN, zw_iinc, zw_iadd, zw_isub, zw_imul, zw_iand, zw_ior, zw_ixor, zw_ishl, zw_ishr, zw_iushr, zw_idiv, zw_irem, zw_ladd, zw_lsub, zw_lmul, zw_land, zw_ldiv, zw_lrem, zw_lcmp, zw_i2l, zw_l2i, zw_dup, zw_pop, zw_dup2i, zw_goto, zw_if_eq, zw_if_ne, zw_if_lt, zw_if_ge, zw_if_gt, zw_if_le, zw_ic_eq, zw_ic_ne, zw_ic_lt, zw_ic_ge, zw_ic_gt, zw_ic_le, zw_ifnn, zw_ifnnN, zw_tsw, zw_lsw, zw_getf_l, zw_getf_r, zw_getf_i, zw_getf_z, zw_putf_i, zw_putf_z, zw_putf_l, zw_putf_r, zw_iaload, zw_caload, zw_laload, zw_aaload, zw_iastore, zw_castore, zw_lastore, zw_aastore, zw_alen, zw_newa, zw_newq, zw_new, zw_oini, zw_invs, zw_invv, zw_copy, zw_invt, zw_iret, zw_lret, zw_ret, zc_r, zc_a, zk_rvs, zk_cat2, List.getElem?_cons_zero, List.getElem?_cons_succ, Bool.false_eq_true, and_false, false_and, and_true, true_and, reduceIte, Nat.reduceEqDiff, Nat.reduceLT, Nat.reduceAdd, List.cons_append, List.nil_append, Option.toList_some, Option.toList_none, zk_cat_i, zk_cat_r, zk_cat_n, zk_same, Option.some.injEq, Value.int.injEq, Value.long.injEq, eq_self, false_implies, true_implies, zf_0, zf_9, ho, hP2, hv2]
    refine zk_callS (ct_lyingIn h40 hly b hb) (by first | decide | omega) (Nat.le_refl _) (Nat.le_of_ble_eq_true rfl) ?_
    simp only [zk_ldi_s, zk_ldl_s, zk_lda_r, zk_lda_a, zk_lda_n, zk_iv_s, zr_nil, zr_cons, zp_0, zp_s, zt_0, zt_s, zt2_0, zt2_s, zw_iconst, zw_bipush, zw_sipush, zw_lconst, zw_ldcs, zw_ldc, zw_ldcw, zw_ldc2, zw_iload_n, zw_lload_n, zw_aload_n, zw_istore_n, zw_lstore_n, zw_astore_n, zw_astoreN_n, zw_iload, zw_lload, zw_aload, zw_istore, zw_lstore, zw_astore, zw_astoreN, zw_iinc, zw_iadd, zw_isub, zw_imul, zw_iand, zw_ior, zw_ixor, zw_ishl, zw_ishr, zw_iushr, zw_idiv, zw_irem, zw_ladd, zw_lsub, zw_lmul, zw_land, zw_ldiv, zw_lrem, zw_lcmp, zw_i2l, zw_l2i, zw_dup, zw_pop, zw_dup2i, zw_goto, zw_if_eq, zw_if_ne, zw_if_lt, zw_if_ge, zw_if_gt, zw_if_le, zw_ic_eq, zw_ic_ne, zw_ic_lt, zw_ic_ge, zw_ic_gt, zw_ic_le, zw_ifnn, zw_ifnnN, zw_tsw, zw_lsw, zw_getf_l, zw_getf_r, zw_getf_i, zw_getf_z, zw_putf_i, zw_putf_z, zw_putf_l, zw_putf_r, zw_iaload, zw_caload, zw_laload, zw_aaload, zw_iastore, zw_castore, zw_lastore, zw_aastore, zw_alen, zw_newa, zw_newq, zw_new, zw_oini, zw_invs, zw_invv, zw_copy, zw_invt, zw_iret, zw_lret, zw_ret, zc_r, zc_a, zk_rvs, zk_cat2, List.getElem?_cons_zero, List.getElem?_cons_succ, Bool.false_eq_true, and_false, false_and, and_true, true_and, reduceIte, Nat.reduceEqDiff, Nat.reduceLT, Nat.reduceAdd, List.cons_append, List.nil_append, Option.toList_some, Option.toList_none, zk_cat_i, zk_cat_r, zk_cat_n, zk_same, Option.some.injEq, Value.int.injEq, Value.long.injEq, eq_self, false_implies, true_implies, zf_0, zf_9, ho, hP2, zl_X, c2, i2, hr b hb, nI_add]
    unfold sp_fby sp_w
    rw [if_neg h]
    cases hfb : f b with
    | none => exact absurd hfb h3
    | some x => rfl
  · rw [e2] at h2
    have h3 : f b = none := hfe.2.mp (by omega)
    refine hZ B_X0_farBy_53 _ _ _ _ _ _ _ k_X0_farBy_53 ?_
    simp only [B_X0_farBy_53, zk_ldi_s, zk_ldl_s, zk_lda_r, zk_lda_a, zk_lda_n, zk_iv_s, zr_nil, zr_cons, zp_0, zp_s, zt_0, zt_s, zt2_0, zt2_s, zw_iconst, zw_bipush, zw_sipush, zw_lconst, zw_ldcs, zw_ldc, zw_ldcw, zw_ldc2, zw_iload_n, zw_lload_n, zw_aload_n, zw_istore_n, zw_lstore_n, zw_astore_n, zw_astoreN_n, zw_iload, zw_lload, zw_aload, zw_istore, zw_lstore, zw_astore, zw_astoreN, zw_iinc, zw_iadd, zw_isub, zw_imul, zw_iand, zw_ior, zw_ixor, zw_ishl, zw_ishr, zw_iushr, zw_idiv, zw_irem, zw_ladd, zw_lsub, zw_lmul, zw_land, zw_ldiv, zw_lrem, zw_lcmp, zw_i2l, zw_l2i, zw_dup, zw_pop, zw_dup2i, zw_goto, zw_if_eq, zw_if_ne, zw_if_lt, zw_if_ge, zw_if_gt, zw_if_le, zw_ic_eq, zw_ic_ne, zw_ic_lt, zw_ic_ge, zw_ic_gt, zw_ic_le, zw_ifnn, zw_ifnnN, zw_tsw, zw_lsw, zw_getf_l, zw_getf_r, zw_getf_i, zw_getf_z, zw_putf_i, zw_putf_z, zw_putf_l, zw_putf_r, zw_iaload, zw_caload, zw_laload, zw_aaload, zw_iastore, zw_castore, zw_lastore, zw_aastore, zw_alen, zw_newa, zw_newq, zw_new, zw_oini, zw_invs, zw_invv, zw_copy, zw_invt, zw_iret, zw_lret, zw_ret, zc_r, zc_a, zk_rvs, zk_cat2, List.getElem?_cons_zero, List.getElem?_cons_succ, Bool.false_eq_true, and_false, false_and, and_true, true_and, reduceIte, Nat.reduceEqDiff, Nat.reduceLT, Nat.reduceAdd, List.cons_append, List.nil_append, Option.toList_some, Option.toList_none, zk_cat_i, zk_cat_r, zk_cat_n, zk_same, Option.some.injEq, Value.int.injEq, Value.long.injEq, eq_self, false_implies, true_implies, zf_0, zf_9]
    unfold sp_fby
    rw [h3]
    cases sp_w V ly a b <;> rfl
theorem zr_far_set {M : zk_MI} {f : Nat → Option Nat} (h : zr_far M f) {a : Nat} {o : Option Nat} : zr_far (zk_up M 39 a (nI (sp_fe o))) (sp_set f a o) := by
  intro q hq
  unfold sp_set
  by_cases e : q = a
  · subst e; rw [zk_up_at, if_pos rfl]
  · rw [zk_up_ne (by simp [e]), if_neg e]; exact h q hq
theorem sp_fe_om {o1 o2 : Option Nat} (h1 : sp_fe o1 ≤ 1000000000) (h2 : sp_fe o2 ≤ 1000000000) : sp_fe (sp_om o1 o2) = min (sp_fe o1) (sp_fe o2) := by
  cases o1 with
  | none =>
    show sp_fe o2 = min 1000000000 (sp_fe o2)
    rw [Nat.min_eq_right h2]
  | some x =>
    cases o2 with
    | none =>
      show x = min x 1000000000
      exact (Nat.min_eq_left h1).symm
    | some y => rfl
theorem sp_fby_bd {V : sp_V} (hV : sp_vw V) {ly : Nat → Nat → Nat} (hly : ∀ p t, p < 6 → t < 10 → ly p t ≤ 999) {f : Nat → Option Nat} {B : Nat} (hf : sp_bd f B) (a : Nat) {b x : Nat} (hb : b < 6) (h : sp_fby V ly f a b = some x) : x ≤ B + 10089 := by
  unfold sp_fby at h
  cases hw : sp_w V ly a b with
  | none => rw [hw] at h; cases h
  | some w =>
    rw [hw] at h
    cases hfb : f b with
    | none => rw [hfb] at h; cases h
    | some z =>
      rw [hfb] at h
      cases h
      have h1 := (sp_w_le hV hly hb hw).2
      have h2 := hf b z hfb
      exact Nat.le_trans (Nat.add_le_add h1 h2) (Nat.le_of_eq (Nat.add_comm _ _))
theorem sp_fe_le {o : Option Nat} {B : Nat} (h : ∀ x, o = some x → x ≤ B) (hB : B ≤ 1000000000) : sp_fe o ≤ 1000000000 := by
  cases o with
  | none => exact Nat.le_refl _
  | some x => exact Nat.le_trans (h x rfl) hB
theorem zn_nm1 {f : Nat} (h : f < 2 ^ 31) : ¬ nI f = -1 := by
  intro e
  have h1 := congrArg Int32.toInt e
  rw [nI_toInt h] at h1
  have h2 : (-1 : Int32).toInt = -1 := by decide
  omega
theorem sp_far_lit : (1000000000 : Int32) = nI 1000000000 := fa_lit 1000000000
theorem ct_measure (hn : 154 ≤ n) (hP : zs_X P) {v : Nat} (hv : zv_ok n P v) (hv0 : 49 ≤ v) {V : sp_V} (hV : sp_vw V) (hVr : zv_rep M v V) {ly : Nat → Nat → Nat} (hly : zm_ly M 40 ly) (to : Nat) (hto : to < 6) :
    zk_C G 2 13 [.ref 14, .ref v, .ref 40, .int (nI to)] n M L P n (fun r M' L' P' => r = none ∧ L' = L ∧ P' = P ∧ zr_far M' (sp_me V ly to) ∧ ∀ q, q ≠ 39 → M' q = M q) := by
  have hnp : vNp V ≤ 6 := hV.1
  have hly2 : ∀ p t, p < 6 → t < 10 → ly p t ≤ 999 := fun p t hp ht => (hly p t hp ht).2
  refine zk_meth (ow := 0) (kind := 1) (k := 3) (nL := 7) (ct := false) (l0 := [.ref 14, .ref v, .ref 40, .int (nI to), zk_un, zk_un, zk_un]) (by decide +kernel) (fun h => by cases h) (by decide +kernel) (by decide) (by decide) (fun h => absurd h (by decide)) (Nat.le_of_ble_eq_true rfl) rfl (by omega) (fun Z hZ => ?_)
  have ho := zo_X hn
  have hP2 := hP
  unfold zs_X at hP2
  have hv2 := hv
  unfold zv_ok at hv2
  have hVr1 : ∀ {M1 : zk_MI}, (∀ q, q ≠ 39 → M1 q = M q) → zv_rep M1 v V := fun h => zv_rep_fr hVr (fun q q1 q2 => h q (by omega))
  have hly1 : ∀ {M1 : zk_MI}, (∀ q, q ≠ 39 → M1 q = M q) → zm_ly M1 40 ly := fun h p t hp ht => by rw [h _ (by decide)]; exact hly p t hp ht
  have l1 : nI (vNp V) ≤ nI (vNp V) := Int32.le_refl _
  have l2 : ∀ a, a < vNp V → ¬ nI (vNp V) ≤ nI a := fun a ha => by rw [nI_leI (by omega) (by omega)]; omega
  have loop3 : ∀ (k a : Nat) (g : Nat → Option Nat), k < 6 → a < vNp V → sp_bd g 400000 → (∀ (M1 : zk_MI), (∀ q, q ≠ 39 → M1 q = M q) → zr_far M1 (sp_rx V ly g a (vNp V)) → Z 113 [.ref 14, .ref v, .ref 40, .int (nI to), .int (nI k), .int (nI a), .int (nI (vNp V))] [] n M1 L P) → ∀ (j b : Nat) (M1 : zk_MI), b + j = vNp V → (∀ q, q ≠ 39 → M1 q = M q) → zr_far M1 (sp_rx V ly g a b) → Z 68 [.ref 14, .ref v, .ref 40, .int (nI to), .int (nI k), .int (nI a), .int (nI b)] [] n M1 L P := by
    intro k a g hk ha hg hend j
    induction j with
    | zero =>
      intro b M1 hb h1 h2
      obtain rfl : b = vNp V := by omega
      refine hZ B_X0_measure_68 _ _ _ _ _ _ _ k_X0_measure_68 ?_
      simp only [B_X0_measure_68, zk_ldi_s, zk_ldl_s, zk_lda_r, zk_lda_a, zk_lda_n, zk_iv_s, zr_nil, zr_cons, zp_0, zp_s, zt_0, zt_s, zt2_0, zt2_s, zw_iconst, zw_bipush, zw_sipush, zw_lconst, zw_ldcs, zw_ldc, zw_ldcw, zw_ldc2, zw_iload_n, zw_lload_n, zw_aload_n, zw_istore_n, zw_lstore_n, zw_astore_n, zw_astoreN_n, zw_iload, zw_lload, zw_aload, zw_istore, zw_lstore, zw_astore, zw_astoreN, zw_iinc, zw_iadd, zw_isub, zw_imul, zw_iand, zw_ior, zw_ixor, zw_ishl, zw_ishr, zw_iushr, zw_idiv, zw_irem, zw_ladd, zw_lsub, zw_lmul, zw_land, zw_ldiv, zw_lrem, zw_lcmp, zw_i2l, zw_l2i, zw_dup, zw_pop, zw_dup2i, zw_goto, zw_if_eq, zw_if_ne, zw_if_lt, zw_if_ge, zw_if_gt, zw_if_le, zw_ic_eq, zw_ic_ne, zw_ic_lt, zw_ic_ge, zw_ic_gt, zw_ic_le, zw_ifnn, zw_ifnnN, zw_tsw, zw_lsw, zw_getf_l, zw_getf_r, zw_getf_i, zw_getf_z, zw_putf_i, zw_putf_z, zw_putf_l, zw_putf_r, zw_iaload, zw_caload, zw_laload, zw_aaload, zw_iastore, zw_castore, zw_lastore, zw_aastore, zw_alen, zw_newa, zw_newq, zw_new, zw_oini, zw_invs, zw_invv, zw_copy, zw_invt, zw_iret, zw_lret, zw_ret, zc_r, zc_a, zk_rvs, zk_cat2, List.getElem?_cons_zero, List.getElem?_cons_succ, Bool.false_eq_true, and_false, false_and, and_true, true_and, reduceIte, Nat.reduceEqDiff, Nat.reduceLT, Nat.reduceAdd, List.cons_append, List.nil_append, Option.toList_some, Option.toList_none, zk_cat_i, zk_cat_r, zk_cat_n, zk_same, Option.some.injEq, Value.int.injEq, Value.long.injEq, eq_self, false_implies, true_implies, zf_0, zf_4, zf_9, ho, hP2, hv2, (hVr1 h1).1, l1, not_true_eq_false]
      exact hend M1 h1 h2
    | succ j ih =>
      intro b M1 hb h1 h2
      have hbd := sp_rx_bd hV hly2 (a := a) hg b (by omega)
      have c2 : (nI a).toNatClampNeg = a := nI_clamp (by omega)
      have i2 : vp_in (nI a) 6 := vp_in_nI (by omega) (by omega)
      refine hZ B_X0_measure_68 _ _ _ _ _ _ _ k_X0_measure_68 ?_
      simp only [B_X0_measure_68, zk_ldi_s, zk_ldl_s, zk_lda_r, zk_lda_a, zk_lda_n, zk_iv_s, zr_nil, zr_cons, zp_0, zp_s, zt_0, zt_s, zt2_0, zt2_s, zw_iconst, zw_bipush, zw_sipush, zw_lconst, zw_ldcs, zw_ldc, zw_ldcw, zw_ldc2, zw_iload_n, zw_lload_n, zw_aload_n, zw_istore_n, zw_lstore_n, zw_astore_n, zw_astoreN_n, zw_iload, zw_lload, zw_aload, zw_istore, zw_lstore, zw_astore, zw_astoreN, zw_iinc, zw_iadd, zw_isub, zw_imul, zw_iand, zw_ior, zw_ixor, zw_ishl, zw_ishr, zw_iushr, zw_idiv, zw_irem, zw_ladd, zw_lsub, zw_lmul, zw_land, zw_ldiv, zw_lrem, zw_lcmp, zw_i2l, zw_l2i, zw_dup, zw_pop, zw_dup2i, zw_goto, zw_if_eq, zw_if_ne, zw_if_lt, zw_if_ge, zw_if_gt, zw_if_le, zw_ic_eq, zw_ic_ne, zw_ic_lt, zw_ic_ge, zw_ic_gt, zw_ic_le, zw_ifnn, zw_ifnnN, zw_tsw, zw_lsw, zw_getf_l, zw_getf_r, zw_getf_i, zw_getf_z, zw_putf_i, zw_putf_z, zw_putf_l, zw_putf_r, zw_iaload, zw_caload, zw_laload, zw_aaload, zw_iastore, zw_castore, zw_lastore, zw_aastore, zw_alen, zw_newa, zw_newq, zw_new, zw_oini, zw_invs, zw_invv, zw_copy, zw_invt, zw_iret, zw_lret, zw_ret, zc_r, zc_a, zk_rvs, zk_cat2, List.getElem?_cons_zero, List.getElem?_cons_succ, Bool.false_eq_true, and_false, false_and, and_true, true_and, reduceIte, Nat.reduceEqDiff, Nat.reduceLT, Nat.reduceAdd, List.cons_append, List.nil_append, Option.toList_some, Option.toList_none, zk_cat_i, zk_cat_r, zk_cat_n, zk_same, Option.some.injEq, Value.int.injEq, Value.long.injEq, eq_self, false_implies, true_implies, zf_0, zf_4, zf_9, ho, hP2, hv2, zl_X, (hVr1 h1).1, l2 b (by omega), not_false_eq_true, c2, i2, h2 a (by omega)]
      refine zk_callS (ct_farBy hn hP hv hV (hVr1 h1) (hly1 h1) hbd (by decide) h2 a b (by omega) (by omega)) (by first | decide | omega) (Nat.le_refl _) (Nat.le_of_ble_eq_true rfl) ?_
      simp only [zk_ldi_s, zk_ldl_s, zk_lda_r, zk_lda_a, zk_lda_n, zk_iv_s, zr_nil, zr_cons, zp_0, zp_s, zt_0, zt_s, zt2_0, zt2_s, zw_iconst, zw_bipush, zw_sipush, zw_lconst, zw_ldcs, zw_ldc, zw_ldcw, zw_ldc2, zw_iload_n, zw_lload_n, zw_aload_n, zw_istore_n, zw_lstore_n, zw_astore_n, zw_astoreN_n, zw_iload, zw_lload, zw_aload, zw_istore, zw_lstore, zw_astore, zw_astoreN, zw_iinc, zw_iadd, zw_isub, zw_imul, zw_iand, zw_ior, zw_ixor, zw_ishl, zw_ishr, zw_iushr, zw_idiv, zw_irem, zw_ladd, zw_lsub, zw_lmul, zw_land, zw_ldiv, zw_lrem, zw_lcmp, zw_i2l, zw_l2i, zw_dup, zw_pop, zw_dup2i, zw_goto, zw_if_eq, zw_if_ne, zw_if_lt, zw_if_ge, zw_if_gt, zw_if_le, zw_ic_eq, zw_ic_ne, zw_ic_lt, zw_ic_ge, zw_ic_gt, zw_ic_le, zw_ifnn, zw_ifnnN, zw_tsw, zw_lsw, zw_getf_l, zw_getf_r, zw_getf_i, zw_getf_z, zw_putf_i, zw_putf_z, zw_putf_l, zw_putf_r, zw_iaload, zw_caload, zw_laload, zw_aaload, zw_iastore, zw_castore, zw_lastore, zw_aastore, zw_alen, zw_newa, zw_newq, zw_new, zw_oini, zw_invs, zw_invv, zw_copy, zw_invt, zw_iret, zw_lret, zw_ret, zc_r, zc_a, zk_rvs, zk_cat2, List.getElem?_cons_zero, List.getElem?_cons_succ, Bool.false_eq_true, and_false, false_and, and_true, true_and, reduceIte, Nat.reduceEqDiff, Nat.reduceLT, Nat.reduceAdd, List.cons_append, List.nil_append, Option.toList_some, Option.toList_none, zk_cat_i, zk_cat_r, zk_cat_n, zk_same, Option.some.injEq, Value.int.injEq, Value.long.injEq, eq_self, false_implies, true_implies, zf_0, zf_4, zf_9]
      refine zk_callS (ct_min _ _) (by first | decide | omega) (Nat.le_refl _) (Nat.le_of_ble_eq_true rfl) ?_
      have g1 : sp_fe (sp_rx V ly g a b a) ≤ 1000000000 := sp_fe_le (fun x hx => hbd a x hx) (by decide)
      have g2 : sp_fe (sp_fby V ly (sp_rx V ly g a b) a b) ≤ 1000000000 := sp_fe_le (fun x hx => sp_fby_bd hV hly2 hbd a (by omega) hx) (by decide)
      rw [zn_min (Nat.lt_of_le_of_lt g2 (by decide)) (Nat.lt_of_le_of_lt g1 (by decide)), Nat.min_comm, ← sp_fe_om g1 g2]
      simp only [zk_ldi_s, zk_ldl_s, zk_lda_r, zk_lda_a, zk_lda_n, zk_iv_s, zr_nil, zr_cons, zp_0, zp_s, zt_0, zt_s, zt2_0, zt2_s, zw_iconst, zw_bipush, zw_sipush, zw_lconst, zw_ldcs, zw_ldc, zw_ldcw, zw_ldc2, zw_iload_n, zw_lload_n, zw_aload_n, zw_istore_n, zw_lstore_n, zw_astore_n, zw_astoreN_n, zw_iload, zw_lload, zw_aload, zw_istore, zw_lstore, zw_astore, zw_astoreN, zw_iinc, zw_iadd, zw_isub, zw_imul, zw_iand, zw_ior, zw_ixor, zw_ishl, zw_ishr, zw_iushr, zw_idiv, zw_irem, zw_ladd, zw_lsub, zw_lmul, zw_land, zw_ldiv, zw_lrem, zw_lcmp, zw_i2l, zw_l2i, zw_dup, zw_pop, zw_dup2i, zw_goto, zw_if_eq, zw_if_ne, zw_if_lt, zw_if_ge, zw_if_gt, zw_if_le, zw_ic_eq, zw_ic_ne, zw_ic_lt, zw_ic_ge, zw_ic_gt, zw_ic_le, zw_ifnn, zw_ifnnN, zw_tsw, zw_lsw, zw_getf_l, zw_getf_r, zw_getf_i, zw_getf_z, zw_putf_i, zw_putf_z, zw_putf_l, zw_putf_r, zw_iaload, zw_caload, zw_laload, zw_aaload, zw_iastore, zw_castore, zw_lastore, zw_aastore, zw_alen, zw_newa, zw_newq, zw_new, zw_oini, zw_invs, zw_invv, zw_copy, zw_invt, zw_iret, zw_lret, zw_ret, zc_r, zc_a, zk_rvs, zk_cat2, List.getElem?_cons_zero, List.getElem?_cons_succ, Bool.false_eq_true, and_false, false_and, and_true, true_and, reduceIte, Nat.reduceEqDiff, Nat.reduceLT, Nat.reduceAdd, List.cons_append, List.nil_append, Option.toList_some, Option.toList_none, zk_cat_i, zk_cat_r, zk_cat_n, zk_same, Option.some.injEq, Value.int.injEq, Value.long.injEq, eq_self, false_implies, true_implies, zf_0, zf_4, zf_9, ho, hP2, hv2, zl_X, c2, i2, nI_1]
      exact ih (b + 1) _ (by omega) (fun q hq => by rw [zk_up_row hq]; exact h1 q hq) (zr_far_set h2)
  have loop2 : ∀ (k : Nat) (g : Nat → Option Nat) , k < 6 → sp_bd g 302670 → (∀ (M1 : zk_MI) (v6 : Value), (∀ q, q ≠ 39 → M1 q = M q) → zr_far M1 (sp_ry V ly g (vNp V)) → Z 119 [.ref 14, .ref v, .ref 40, .int (nI to), .int (nI k), .int (nI (vNp V)), v6] [] n M1 L P) → ∀ (j a : Nat) (M1 : zk_MI) (v6 : Value), a + j = vNp V → (∀ q, q ≠ 39 → M1 q = M q) → zr_far M1 (sp_ry V ly g a) → Z 53 [.ref 14, .ref v, .ref 40, .int (nI to), .int (nI k), .int (nI a), v6] [] n M1 L P := by
    intro k g hk hg hend j
    induction j with
    | zero =>
      intro a M1 v6 hb h1 h2
      obtain rfl : a = vNp V := by omega
      refine hZ B_X0_measure_53 _ _ _ _ _ _ _ k_X0_measure_53 ?_
      simp only [B_X0_measure_53, zk_ldi_s, zk_ldl_s, zk_lda_r, zk_lda_a, zk_lda_n, zk_iv_s, zr_nil, zr_cons, zp_0, zp_s, zt_0, zt_s, zt2_0, zt2_s, zw_iconst, zw_bipush, zw_sipush, zw_lconst, zw_ldcs, zw_ldc, zw_ldcw, zw_ldc2, zw_iload_n, zw_lload_n, zw_aload_n, zw_istore_n, zw_lstore_n, zw_astore_n, zw_astoreN_n, zw_iload, zw_lload, zw_aload, zw_istore, zw_lstore, zw_astore, zw_astoreN, zw_iinc, zw_iadd, zw_isub, zw_imul, zw_iand, zw_ior, zw_ixor, zw_ishl, zw_ishr, zw_iushr, zw_idiv, zw_irem, zw_ladd, zw_lsub, zw_lmul, zw_land, zw_ldiv, zw_lrem, zw_lcmp, zw_i2l, zw_l2i, zw_dup, zw_pop, zw_dup2i, zw_goto, zw_if_eq, zw_if_ne, zw_if_lt, zw_if_ge, zw_if_gt, zw_if_le, zw_ic_eq, zw_ic_ne, zw_ic_lt, zw_ic_ge, zw_ic_gt, zw_ic_le, zw_ifnn, zw_ifnnN, zw_tsw, zw_lsw, zw_getf_l, zw_getf_r, zw_getf_i, zw_getf_z, zw_putf_i, zw_putf_z, zw_putf_l, zw_putf_r, zw_iaload, zw_caload, zw_laload, zw_aaload, zw_iastore, zw_castore, zw_lastore, zw_aastore, zw_alen, zw_newa, zw_newq, zw_new, zw_oini, zw_invs, zw_invv, zw_copy, zw_invt, zw_iret, zw_lret, zw_ret, zc_r, zc_a, zk_rvs, zk_cat2, List.getElem?_cons_zero, List.getElem?_cons_succ, Bool.false_eq_true, and_false, false_and, and_true, true_and, reduceIte, Nat.reduceEqDiff, Nat.reduceLT, Nat.reduceAdd, List.cons_append, List.nil_append, Option.toList_some, Option.toList_none, zk_cat_i, zk_cat_r, zk_cat_n, zk_same, Option.some.injEq, Value.int.injEq, Value.long.injEq, eq_self, false_implies, true_implies, zf_0, zf_4, zf_9, ho, hP2, hv2, (hVr1 h1).1, l1, not_true_eq_false]
      exact hend M1 v6 h1 h2
    | succ j ih =>
      intro a M1 v6 hb h1 h2
      refine hZ B_X0_measure_53 _ _ _ _ _ _ _ k_X0_measure_53 ?_
      simp only [B_X0_measure_53, zk_ldi_s, zk_ldl_s, zk_lda_r, zk_lda_a, zk_lda_n, zk_iv_s, zr_nil, zr_cons, zp_0, zp_s, zt_0, zt_s, zt2_0, zt2_s, zw_iconst, zw_bipush, zw_sipush, zw_lconst, zw_ldcs, zw_ldc, zw_ldcw, zw_ldc2, zw_iload_n, zw_lload_n, zw_aload_n, zw_istore_n, zw_lstore_n, zw_astore_n, zw_astoreN_n, zw_iload, zw_lload, zw_aload, zw_istore, zw_lstore, zw_astore, zw_astoreN, zw_iinc, zw_iadd, zw_isub, zw_imul, zw_iand, zw_ior, zw_ixor, zw_ishl, zw_ishr, zw_iushr, zw_idiv, zw_irem, zw_ladd, zw_lsub, zw_lmul, zw_land, zw_ldiv, zw_lrem, zw_lcmp, zw_i2l, zw_l2i, zw_dup, zw_pop, zw_dup2i, zw_goto, zw_if_eq, zw_if_ne, zw_if_lt, zw_if_ge, zw_if_gt, zw_if_le, zw_ic_eq, zw_ic_ne, zw_ic_lt, zw_ic_ge, zw_ic_gt, zw_ic_le, zw_ifnn, zw_ifnnN, zw_tsw, zw_lsw, zw_getf_l, zw_getf_r, zw_getf_i, zw_getf_z, zw_putf_i, zw_putf_z, zw_putf_l, zw_putf_r, zw_iaload, zw_caload, zw_laload, zw_aaload, zw_iastore, zw_castore, zw_lastore, zw_aastore, zw_alen, zw_newa, zw_newq, zw_new, zw_oini, zw_invs, zw_invv, zw_copy, zw_invt, zw_iret, zw_lret, zw_ret, zc_r, zc_a, zk_rvs, zk_cat2, List.getElem?_cons_zero, List.getElem?_cons_succ, Bool.false_eq_true, and_false, false_and, and_true, true_and, reduceIte, Nat.reduceEqDiff, Nat.reduceLT, Nat.reduceAdd, List.cons_append, List.nil_append, Option.toList_some, Option.toList_none, zk_cat_i, zk_cat_r, zk_cat_n, zk_same, Option.some.injEq, Value.int.injEq, Value.long.injEq, eq_self, false_implies, true_implies, zf_0, zf_4, zf_9, ho, hP2, hv2, (hVr1 h1).1, l2 a (by omega), not_false_eq_true]
      refine loop3 k a (sp_ry V ly g a) hk (by omega) ?_ ?_ (vNp V) 0 M1 (by omega) h1 h2
      · intro q x hx
        have h9 := sp_ry_bd hV hly2 hg a q x hx
        exact Nat.le_trans h9 (Nat.le_trans (Nat.add_le_add_left (Nat.mul_le_mul_left 10089 (show a ≤ 6 by omega)) _) (by decide))
      · intro M2 g1 g2
        refine hZ B_X0_measure_113 _ _ _ _ _ _ _ k_X0_measure_113 ?_
        simp only [B_X0_measure_113, zk_ldi_s, zk_ldl_s, zk_lda_r, zk_lda_a, zk_lda_n, zk_iv_s, zr_nil, zr_cons, zp_0, zp_s, zt_0, zt_s, zt2_0, zt2_s, zw_iconst, zw_bipush, zw_sipush, zw_lconst, zw_ldcs, zw_ldc, zw_ldcw, zw_ldc2, zw_iload_n, zw_lload_n, zw_aload_n, zw_istore_n, zw_lstore_n, zw_astore_n, zw_astoreN_n, zw_iload, zw_lload, zw_aload, zw_istore, zw_lstore, zw_astore, zw_astoreN, zw_iinc, zw_iadd, zw_isub, zw_imul, zw_iand, zw_ior, zw_ixor, zw_ishl, zw_ishr, zw_iushr, zw_idiv, zw_irem, zw_ladd, zw_lsub, zw_lmul, zw_land, zw_ldiv, zw_lrem, zw_lcmp, zw_i2l, zw_l2i, zw_dup, zw_pop, zw_dup2i, zw_goto, zw_if_eq, zw_if_ne, zw_if_lt, zw_if_ge, zw_if_gt, zw_if_le, zw_ic_eq, zw_ic_ne, zw_ic_lt, zw_ic_ge, zw_ic_gt, zw_ic_le, zw_ifnn, zw_ifnnN, zw_tsw, zw_lsw, zw_getf_l, zw_getf_r, zw_getf_i, zw_getf_z, zw_putf_i, zw_putf_z, zw_putf_l, zw_putf_r, zw_iaload, zw_caload, zw_laload, zw_aaload, zw_iastore, zw_castore, zw_lastore, zw_aastore, zw_alen, zw_newa, zw_newq, zw_new, zw_oini, zw_invs, zw_invv, zw_copy, zw_invt, zw_iret, zw_lret, zw_ret, zc_r, zc_a, zk_rvs, zk_cat2, List.getElem?_cons_zero, List.getElem?_cons_succ, Bool.false_eq_true, and_false, false_and, and_true, true_and, reduceIte, Nat.reduceEqDiff, Nat.reduceLT, Nat.reduceAdd, List.cons_append, List.nil_append, Option.toList_some, Option.toList_none, zk_cat_i, zk_cat_r, zk_cat_n, zk_same, Option.some.injEq, Value.int.injEq, Value.long.injEq, eq_self, false_implies, true_implies, zf_0, zf_4, zf_9, nI_1]
        exact ih (a + 1) M2 _ (by omega) g1 g2
  have loop1 : ∀ (j k : Nat) (M1 : zk_MI) (v5 v6 : Value), k + j = vNp V → (∀ q, q ≠ 39 → M1 q = M q) → zr_far M1 (sp_rz V ly (sp_f0 to) k) → Z 38 [.ref 14, .ref v, .ref 40, .int (nI to), .int (nI k), v5, v6] [] n M1 L P := by
    intro j
    induction j with
    | zero =>
      intro k M1 v5 v6 hb h1 h2
      obtain rfl : k = vNp V := by omega
      refine hZ B_X0_measure_38 _ _ _ _ _ _ _ k_X0_measure_38 ?_
      simp only [B_X0_measure_38, zk_ldi_s, zk_ldl_s, zk_lda_r, zk_lda_a, zk_lda_n, zk_iv_s, zr_nil, zr_cons, zp_0, zp_s, zt_0, zt_s, zt2_0, zt2_s, zw_iconst, zw_bipush, zw_sipush, zw_lconst, zw_ldcs, zw_ldc, zw_ldcw, zw_ldc2, zw_iload_n, zw_lload_n, zw_aload_n, zw_istore_n, zw_lstore_n, zw_astore_n, zw_astoreN_n, zw_iload, zw_lload, zw_aload, zw_istore, zw_lstore, zw_astore, zw_astoreN, zw_iinc, zw_iadd, zw_isub, zw_imul, zw_iand, zw_ior, zw_ixor, zw_ishl, zw_ishr, zw_iushr, zw_idiv, zw_irem, zw_ladd, zw_lsub, zw_lmul, zw_land, zw_ldiv, zw_lrem, zw_lcmp, zw_i2l, zw_l2i, zw_dup, zw_pop, zw_dup2i, zw_goto, zw_if_eq, zw_if_ne, zw_if_lt, zw_if_ge, zw_if_gt, zw_if_le, zw_ic_eq, zw_ic_ne, zw_ic_lt, zw_ic_ge, zw_ic_gt, zw_ic_le, zw_ifnn, zw_ifnnN, zw_tsw, zw_lsw, zw_getf_l, zw_getf_r, zw_getf_i, zw_getf_z, zw_putf_i, zw_putf_z, zw_putf_l, zw_putf_r, zw_iaload, zw_caload, zw_laload, zw_aaload, zw_iastore, zw_castore, zw_lastore, zw_aastore, zw_alen, zw_newa, zw_newq, zw_new, zw_oini, zw_invs, zw_invv, zw_copy, zw_invt, zw_iret, zw_lret, zw_ret, zc_r, zc_a, zk_rvs, zk_cat2, List.getElem?_cons_zero, List.getElem?_cons_succ, Bool.false_eq_true, and_false, false_and, and_true, true_and, reduceIte, Nat.reduceEqDiff, Nat.reduceLT, Nat.reduceAdd, List.cons_append, List.nil_append, Option.toList_some, Option.toList_none, zk_cat_i, zk_cat_r, zk_cat_n, zk_same, Option.some.injEq, Value.int.injEq, Value.long.injEq, eq_self, false_implies, true_implies, zf_0, zf_4, zf_9, ho, hP2, hv2, (hVr1 h1).1, l1, not_true_eq_false]
      refine hZ B_X0_measure_125 _ _ _ _ _ _ _ k_X0_measure_125 ?_
      simp only [B_X0_measure_125, zk_ldi_s, zk_ldl_s, zk_lda_r, zk_lda_a, zk_lda_n, zk_iv_s, zr_nil, zr_cons, zp_0, zp_s, zt_0, zt_s, zt2_0, zt2_s, zw_iconst, zw_bipush, zw_sipush, zw_lconst, zw_ldcs, zw_ldc, zw_ldcw, zw_ldc2, zw_iload_n, zw_lload_n, zw_aload_n, zw_istore_n, zw_lstore_n, zw_astore_n, zw_astoreN_n, zw_iload, zw_lload, zw_aload, zw_istore, zw_lstore, zw_astore, zw_astoreN, zw_iinc, zw_iadd, zw_isub, zw_imul, zw_iand, zw_ior, zw_ixor, zw_ishl, zw_ishr, zw_iushr, zw_idiv, zw_irem, zw_ladd, zw_lsub, zw_lmul, zw_land, zw_ldiv, zw_lrem, zw_lcmp, zw_i2l, zw_l2i, zw_dup, zw_pop, zw_dup2i, zw_goto, zw_if_eq, zw_if_ne, zw_if_lt, zw_if_ge, zw_if_gt, zw_if_le, zw_ic_eq, zw_ic_ne, zw_ic_lt, zw_ic_ge, zw_ic_gt, zw_ic_le, zw_ifnn, zw_ifnnN, zw_tsw, zw_lsw, zw_getf_l, zw_getf_r, zw_getf_i, zw_getf_z, zw_putf_i, zw_putf_z, zw_putf_l, zw_putf_r, zw_iaload, zw_caload, zw_laload, zw_aaload, zw_iastore, zw_castore, zw_lastore, zw_aastore, zw_alen, zw_newa, zw_newq, zw_new, zw_oini, zw_invs, zw_invv, zw_copy, zw_invt, zw_iret, zw_lret, zw_ret, zc_r, zc_a, zk_rvs, zk_cat2, List.getElem?_cons_zero, List.getElem?_cons_succ, Bool.false_eq_true, and_false, false_and, and_true, true_and, reduceIte, Nat.reduceEqDiff, Nat.reduceLT, Nat.reduceAdd, List.cons_append, List.nil_append, Option.toList_some, Option.toList_none, zk_cat_i, zk_cat_r, zk_cat_n, zk_same, Option.some.injEq, Value.int.injEq, Value.long.injEq, eq_self, false_implies, true_implies, zf_0, zf_4, zf_9]
      exact ⟨h2, h1⟩
    | succ j ih =>
      intro k M1 v5 v6 hb h1 h2
      refine hZ B_X0_measure_38 _ _ _ _ _ _ _ k_X0_measure_38 ?_
      simp only [B_X0_measure_38, zk_ldi_s, zk_ldl_s, zk_lda_r, zk_lda_a, zk_lda_n, zk_iv_s, zr_nil, zr_cons, zp_0, zp_s, zt_0, zt_s, zt2_0, zt2_s, zw_iconst, zw_bipush, zw_sipush, zw_lconst, zw_ldcs, zw_ldc, zw_ldcw, zw_ldc2, zw_iload_n, zw_lload_n, zw_aload_n, zw_istore_n, zw_lstore_n, zw_astore_n, zw_astoreN_n, zw_iload, zw_lload, zw_aload, zw_istore, zw_lstore, zw_astore, zw_astoreN, zw_iinc, zw_iadd, zw_isub, zw_imul, zw_iand, zw_ior, zw_ixor, zw_ishl, zw_ishr, zw_iushr, zw_idiv, zw_irem, zw_ladd, zw_lsub, zw_lmul, zw_land, zw_ldiv, zw_lrem, zw_lcmp, zw_i2l, zw_l2i, zw_dup, zw_pop, zw_dup2i, zw_goto, zw_if_eq, zw_if_ne, zw_if_lt, zw_if_ge, zw_if_gt, zw_if_le, zw_ic_eq, zw_ic_ne, zw_ic_lt, zw_ic_ge, zw_ic_gt, zw_ic_le, zw_ifnn, zw_ifnnN, zw_tsw, zw_lsw, zw_getf_l, zw_getf_r, zw_getf_i, zw_getf_z, zw_putf_i, zw_putf_z, zw_putf_l, zw_putf_r, zw_iaload, zw_caload, zw_laload, zw_aaload, zw_iastore, zw_castore, zw_lastore, zw_aastore, zw_alen, zw_newa, zw_newq, zw_new, zw_oini, zw_invs, zw_invv, zw_copy, zw_invt, zw_iret, zw_lret, zw_ret, zc_r, zc_a, zk_rvs, zk_cat2, List.getElem?_cons_zero, List.getElem?_cons_succ, Bool.false_eq_true, and_false, false_and, and_true, true_and, reduceIte, Nat.reduceEqDiff, Nat.reduceLT, Nat.reduceAdd, List.cons_append, List.nil_append, Option.toList_some, Option.toList_none, zk_cat_i, zk_cat_r, zk_cat_n, zk_same, Option.some.injEq, Value.int.injEq, Value.long.injEq, eq_self, false_implies, true_implies, zf_0, zf_4, zf_9, ho, hP2, hv2, (hVr1 h1).1, l2 k (by omega), not_false_eq_true]
      refine loop2 k _ (by omega) ?_ ?_ (vNp V) 0 M1 _ (by omega) h1 h2
      · intro q x hx
        have h9 := sp_rz_bd hV hly2 (sp_f0_bd to) k q x hx
        exact Nat.le_trans h9 (Nat.le_trans (Nat.add_le_add_left (Nat.mul_le_mul_left 60534 (show k ≤ 5 by omega)) _) (by decide))
      · intro M2 w6 g1 g2
        refine hZ B_X0_measure_119 _ _ _ _ _ _ _ k_X0_measure_119 ?_
        simp only [B_X0_measure_119, zk_ldi_s, zk_ldl_s, zk_lda_r, zk_lda_a, zk_lda_n, zk_iv_s, zr_nil, zr_cons, zp_0, zp_s, zt_0, zt_s, zt2_0, zt2_s, zw_iconst, zw_bipush, zw_sipush, zw_lconst, zw_ldcs, zw_ldc, zw_ldcw, zw_ldc2, zw_iload_n, zw_lload_n, zw_aload_n, zw_istore_n, zw_lstore_n, zw_astore_n, zw_astoreN_n, zw_iload, zw_lload, zw_aload, zw_istore, zw_lstore, zw_astore, zw_astoreN, zw_iinc, zw_iadd, zw_isub, zw_imul, zw_iand, zw_ior, zw_ixor, zw_ishl, zw_ishr, zw_iushr, zw_idiv, zw_irem, zw_ladd, zw_lsub, zw_lmul, zw_land, zw_ldiv, zw_lrem, zw_lcmp, zw_i2l, zw_l2i, zw_dup, zw_pop, zw_dup2i, zw_goto, zw_if_eq, zw_if_ne, zw_if_lt, zw_if_ge, zw_if_gt, zw_if_le, zw_ic_eq, zw_ic_ne, zw_ic_lt, zw_ic_ge, zw_ic_gt, zw_ic_le, zw_ifnn, zw_ifnnN, zw_tsw, zw_lsw, zw_getf_l, zw_getf_r, zw_getf_i, zw_getf_z, zw_putf_i, zw_putf_z, zw_putf_l, zw_putf_r, zw_iaload, zw_caload, zw_laload, zw_aaload, zw_iastore, zw_castore, zw_lastore, zw_aastore, zw_alen, zw_newa, zw_newq, zw_new, zw_oini, zw_invs, zw_invv, zw_copy, zw_invt, zw_iret, zw_lret, zw_ret, zc_r, zc_a, zk_rvs, zk_cat2, List.getElem?_cons_zero, List.getElem?_cons_succ, Bool.false_eq_true, and_false, false_and, and_true, true_and, reduceIte, Nat.reduceEqDiff, Nat.reduceLT, Nat.reduceAdd, List.cons_append, List.nil_append, Option.toList_some, Option.toList_none, zk_cat_i, zk_cat_r, zk_cat_n, zk_same, Option.some.injEq, Value.int.injEq, Value.long.injEq, eq_self, false_implies, true_implies, zf_0, zf_4, zf_9, nI_1]
        exact ih (k + 1) M2 _ _ (by omega) g1 g2
  have loop0 : ∀ (j p : Nat) (M1 : zk_MI), p + j = 6 → (∀ q, q ≠ 39 → M1 q = M q) → (∀ a, a < p → M1 39 a = nI (sp_fe (sp_f0 to a))) → Z 3 [.ref 14, .ref v, .ref 40, .int (nI to), .int (nI p), zk_un, zk_un] [] n M1 L P := by
    intro j
    induction j with
    | zero =>
      intro p M1 hp h1 h2
      obtain rfl : p = 6 := by omega
      refine hZ B_X0_measure_3 _ _ _ _ _ _ _ k_X0_measure_3 ?_
      simp only [B_X0_measure_3, zk_ldi_s, zk_ldl_s, zk_lda_r, zk_lda_a, zk_lda_n, zk_iv_s, zr_nil, zr_cons, zp_0, zp_s, zt_0, zt_s, zt2_0, zt2_s, zw_iconst, zw_bipush, zw_sipush, zw_lconst, zw_ldcs, zw_ldc, zw_ldcw, zw_ldc2, zw_iload_n, zw_lload_n, zw_aload_n, zw_istore_n, zw_lstore_n, zw_astore_n, zw_astoreN_n, zw_iload, zw_lload, zw_aload, zw_istore, zw_lstore, zw_astore, zw_astoreN, zw_iinc, zw_iadd, zw_isub, zw_imul, zw_iand, zw_ior, zw_ixor, zw_ishl, zw_ishr, zw_iushr, zw_idiv, zw_irem, zw_ladd, zw_lsub, zw_lmul, zw_land, zw_ldiv, zw_lrem, zw_lcmp, zw_i2l, zw_l2i, zw_dup, zw_pop, zw_dup2i, zw_goto, zw_if_eq, zw_if_ne, zw_if_lt, zw_if_ge, zw_if_gt, zw_if_le, zw_ic_eq, zw_ic_ne, zw_ic_lt, zw_ic_ge, zw_ic_gt, zw_ic_le, zw_ifnn, zw_ifnnN, zw_tsw, zw_lsw, zw_getf_l, zw_getf_r, zw_getf_i, zw_getf_z, zw_putf_i, zw_putf_z, zw_putf_l, zw_putf_r, zw_iaload, zw_caload, zw_laload, zw_aaload, zw_iastore, zw_castore, zw_lastore, zw_aastore, zw_alen, zw_newa, zw_newq, zw_new, zw_oini, zw_invs, zw_invv, zw_copy, zw_invt, zw_iret, zw_lret, zw_ret, zc_r, zc_a, zk_rvs, zk_cat2, List.getElem?_cons_zero, List.getElem?_cons_succ, Bool.false_eq_true, and_false, false_and, and_true, true_and, reduceIte, Nat.reduceEqDiff, Nat.reduceLT, Nat.reduceAdd, List.cons_append, List.nil_append, Option.toList_some, Option.toList_none, zk_cat_i, zk_cat_r, zk_cat_n, zk_same, Option.some.injEq, Value.int.injEq, Value.long.injEq, eq_self, false_implies, true_implies, zf_0, zf_4, zf_9, (show ((6 : Int32) ≤ nI 6) from by decide), not_true_eq_false]
      refine hZ B_X0_measure_35 _ _ _ _ _ _ _ k_X0_measure_35 ?_
      simp only [B_X0_measure_35, zk_ldi_s, zk_ldl_s, zk_lda_r, zk_lda_a, zk_lda_n, zk_iv_s, zr_nil, zr_cons, zp_0, zp_s, zt_0, zt_s, zt2_0, zt2_s, zw_iconst, zw_bipush, zw_sipush, zw_lconst, zw_ldcs, zw_ldc, zw_ldcw, zw_ldc2, zw_iload_n, zw_lload_n, zw_aload_n, zw_istore_n, zw_lstore_n, zw_astore_n, zw_astoreN_n, zw_iload, zw_lload, zw_aload, zw_istore, zw_lstore, zw_astore, zw_astoreN, zw_iinc, zw_iadd, zw_isub, zw_imul, zw_iand, zw_ior, zw_ixor, zw_ishl, zw_ishr, zw_iushr, zw_idiv, zw_irem, zw_ladd, zw_lsub, zw_lmul, zw_land, zw_ldiv, zw_lrem, zw_lcmp, zw_i2l, zw_l2i, zw_dup, zw_pop, zw_dup2i, zw_goto, zw_if_eq, zw_if_ne, zw_if_lt, zw_if_ge, zw_if_gt, zw_if_le, zw_ic_eq, zw_ic_ne, zw_ic_lt, zw_ic_ge, zw_ic_gt, zw_ic_le, zw_ifnn, zw_ifnnN, zw_tsw, zw_lsw, zw_getf_l, zw_getf_r, zw_getf_i, zw_getf_z, zw_putf_i, zw_putf_z, zw_putf_l, zw_putf_r, zw_iaload, zw_caload, zw_laload, zw_aaload, zw_iastore, zw_castore, zw_lastore, zw_aastore, zw_alen, zw_newa, zw_newq, zw_new, zw_oini, zw_invs, zw_invv, zw_copy, zw_invt, zw_iret, zw_lret, zw_ret, zc_r, zc_a, zk_rvs, zk_cat2, List.getElem?_cons_zero, List.getElem?_cons_succ, Bool.false_eq_true, and_false, false_and, and_true, true_and, reduceIte, Nat.reduceEqDiff, Nat.reduceLT, Nat.reduceAdd, List.cons_append, List.nil_append, Option.toList_some, Option.toList_none, zk_cat_i, zk_cat_r, zk_cat_n, zk_same, Option.some.injEq, Value.int.injEq, Value.long.injEq, eq_self, false_implies, true_implies, zf_0, zf_4, zf_9]
      exact loop1 (vNp V) 0 M1 _ _ (by omega) h1 h2
    | succ j ih =>
      intro p M1 hp h1 h2
      have e1 : ¬ (6 : Int32) ≤ nI p := by rw [fa_lit 6, nI_leI (by omega) (by omega)]; omega
      have e2 : (nI p = nI to) = (p = to) := zn_eq (by omega) (by omega)
      have c2 : (nI p).toNatClampNeg = p := nI_clamp (by omega)
      have i2 : vp_in (nI p) 6 := vp_in_nI (by omega) (by omega)
      have nx : ∀ x : Int32, x = nI (sp_fe (sp_f0 to p)) → Z 28 [.ref 14, .ref v, .ref 40, .int (nI to), .int (nI p), zk_un, zk_un] [.int x, .int (nI p), .ref 39] n M1 L P := by
        intro x hx
        refine hZ B_X0_measure_28 _ _ _ _ _ _ _ k_X0_measure_28 ?_
        simp only [B_X0_measure_28, zk_ldi_s, zk_ldl_s, zk_lda_r, zk_lda_a, zk_lda_n, zk_iv_s, zr_nil, zr_cons, zp_0, zp_s, zt_0, zt_s, zt2_0, zt2_s, zw_iconst, zw_bipush, zw_sipush, zw_lconst, zw_ldcs, zw_ldc, zw_ldcw, zw_ldc2, zw_iload_n, zw_lload_n, zw_aload_n, zw_istore_n, zw_lstore_n, zw_astore_n, zw_astoreN_n, zw_iload, zw_lload, zw_aload, zw_istore, zw_lstore, zw_astore, zw_astoreN, zw_iinc, zw_iadd, zw_isub, zw_imul, zw_iand, zw_ior, zw_ixor, zw_ishl, zw_ishr, zw_iushr, zw_idiv, zw_irem, zw_ladd, zw_lsub, zw_lmul, zw_land, zw_ldiv, zw_lrem, zw_lcmp, zw_i2l, zw_l2i, zw_dup, zw_pop, zw_dup2i, zw_goto, zw_if_eq, zw_if_ne, zw_if_lt, zw_if_ge, zw_if_gt, zw_if_le, zw_ic_eq, zw_ic_ne, zw_ic_lt, zw_ic_ge, zw_ic_gt, zw_ic_le, zw_ifnn, zw_ifnnN, zw_tsw, zw_lsw, zw_getf_l, zw_getf_r, zw_getf_i, zw_getf_z, zw_putf_i, zw_putf_z, zw_putf_l, zw_putf_r, zw_iaload, zw_caload, zw_laload, zw_aaload, zw_iastore, zw_castore, zw_lastore, zw_aastore, zw_alen, zw_newa, zw_newq, zw_new, zw_oini, zw_invs, zw_invv, zw_copy, zw_invt, zw_iret, zw_lret, zw_ret, zc_r, zc_a, zk_rvs, zk_cat2, List.getElem?_cons_zero, List.getElem?_cons_succ, Bool.false_eq_true, and_false, false_and, and_true, true_and, reduceIte, Nat.reduceEqDiff, Nat.reduceLT, Nat.reduceAdd, List.cons_append, List.nil_append, Option.toList_some, Option.toList_none, zk_cat_i, zk_cat_r, zk_cat_n, zk_same, Option.some.injEq, Value.int.injEq, Value.long.injEq, eq_self, false_implies, true_implies, zf_0, zf_4, zf_9, ho, zl_X, c2, i2, nI_1]
        refine ih (p + 1) _ (by omega) (fun q hq => by rw [zk_up_row hq]; exact h1 q hq) (fun a ha => ?_)
        by_cases e : a = p
        · subst e; rw [zk_up_at]; exact hx
        · rw [zk_up_ne (by simp [e])]; exact h2 a (by omega)
      refine hZ B_X0_measure_3 _ _ _ _ _ _ _ k_X0_measure_3 ?_
      simp only [B_X0_measure_3, zk_ldi_s, zk_ldl_s, zk_lda_r, zk_lda_a, zk_lda_n, zk_iv_s, zr_nil, zr_cons, zp_0, zp_s, zt_0, zt_s, zt2_0, zt2_s, zw_iconst, zw_bipush, zw_sipush, zw_lconst, zw_ldcs, zw_ldc, zw_ldcw, zw_ldc2, zw_iload_n, zw_lload_n, zw_aload_n, zw_istore_n, zw_lstore_n, zw_astore_n, zw_astoreN_n, zw_iload, zw_lload, zw_aload, zw_istore, zw_lstore, zw_astore, zw_astoreN, zw_iinc, zw_iadd, zw_isub, zw_imul, zw_iand, zw_ior, zw_ixor, zw_ishl, zw_ishr, zw_iushr, zw_idiv, zw_irem, zw_ladd, zw_lsub, zw_lmul, zw_land, zw_ldiv, zw_lrem, zw_lcmp, zw_i2l, zw_l2i, zw_dup, zw_pop, zw_dup2i, zw_goto, zw_if_eq, zw_if_ne, zw_if_lt, zw_if_ge, zw_if_gt, zw_if_le, zw_ic_eq, zw_ic_ne, zw_ic_lt, zw_ic_ge, zw_ic_gt, zw_ic_le, zw_ifnn, zw_ifnnN, zw_tsw, zw_lsw, zw_getf_l, zw_getf_r, zw_getf_i, zw_getf_z, zw_putf_i, zw_putf_z, zw_putf_l, zw_putf_r, zw_iaload, zw_caload, zw_laload, zw_aaload, zw_iastore, zw_castore, zw_lastore, zw_aastore, zw_alen, zw_newa, zw_newq, zw_new, zw_oini, zw_invs, zw_invv, zw_copy, zw_invt, zw_iret, zw_lret, zw_ret, zc_r, zc_a, zk_rvs, zk_cat2, List.getElem?_cons_zero, List.getElem?_cons_succ, Bool.false_eq_true, and_false, false_and, and_true, true_and, reduceIte, Nat.reduceEqDiff, Nat.reduceLT, Nat.reduceAdd, List.cons_append, List.nil_append, Option.toList_some, Option.toList_none, zk_cat_i, zk_cat_r, zk_cat_n, zk_same, Option.some.injEq, Value.int.injEq, Value.long.injEq, eq_self, false_implies, true_implies, zf_0, zf_4, zf_9, ho, hP2, e1, not_false_eq_true, e2]
      refine ⟨fun h => ?_, fun h => ?_⟩
      · refine hZ B_X0_measure_26 _ _ _ _ _ _ _ k_X0_measure_26 ?_
        simp only [B_X0_measure_26, zk_ldi_s, zk_ldl_s, zk_lda_r, zk_lda_a, zk_lda_n, zk_iv_s, zr_nil, zr_cons, zp_0, zp_s, zt_0, zt_s, zt2_0, zt2_s, zw_iconst, zw_bipush, zw_sipush, zw_lconst, zw_ldcs, zw_ldc, zw_ldcw, zw_ldc2, zw_iload_n, zw_lload_n, zw_aload_n, zw_istore_n, zw_lstore_n, zw_astore_n, zw_astoreN_n, zw_iload, zw_lload, zw_aload, zw_istore, zw_lstore, zw_astore, zw_astoreN, zw_iinc, zw_iadd, zw_isub, zw_imul, zw_iand, zw_ior, zw_ixor, zw_ishl, zw_ishr, zw_iushr, zw_idiv, zw_irem, zw_ladd, zw_lsub, zw_lmul, zw_land, zw_ldiv, zw_lrem, zw_lcmp, zw_i2l, zw_l2i, zw_dup, zw_pop, zw_dup2i, zw_goto, zw_if_eq, zw_if_ne, zw_if_lt, zw_if_ge, zw_if_gt, zw_if_le, zw_ic_eq, zw_ic_ne, zw_ic_lt, zw_ic_ge, zw_ic_gt, zw_ic_le, zw_ifnn, zw_ifnnN, zw_tsw, zw_lsw, zw_getf_l, zw_getf_r, zw_getf_i, zw_getf_z, zw_putf_i, zw_putf_z, zw_putf_l, zw_putf_r, zw_iaload, zw_caload, zw_laload, zw_aaload, zw_iastore, zw_castore, zw_lastore, zw_aastore, zw_alen, zw_newa, zw_newq, zw_new, zw_oini, zw_invs, zw_invv, zw_copy, zw_invt, zw_iret, zw_lret, zw_ret, zc_r, zc_a, zk_rvs, zk_cat2, List.getElem?_cons_zero, List.getElem?_cons_succ, Bool.false_eq_true, and_false, false_and, and_true, true_and, reduceIte, Nat.reduceEqDiff, Nat.reduceLT, Nat.reduceAdd, List.cons_append, List.nil_append, Option.toList_some, Option.toList_none, zk_cat_i, zk_cat_r, zk_cat_n, zk_same, Option.some.injEq, Value.int.injEq, Value.long.injEq, eq_self, false_implies, true_implies, zf_0, zf_4, zf_9]
        exact nx _ (by unfold sp_f0; rw [if_neg h]; exact sp_far_lit)
      · exact nx _ (by unfold sp_f0; rw [if_pos h]; rfl)
  refine hZ B_X0_measure_0 _ _ _ _ _ _ _ k_X0_measure_0 ?_
  simp only [B_X0_measure_0, zk_ldi_s, zk_ldl_s, zk_lda_r, zk_lda_a, zk_lda_n, zk_iv_s, zr_nil, zr_cons, zp_0, zp_s, zt_0, zt_s, zt2_0, zt2_s, zw_iconst, zw_bipush, zw_sipush, zw_lconst, zw_ldcs, zw_ldc, zw_ldcw, zw_ldc2, zw_iload_n, zw_lload_n, zw_aload_n, zw_istore_n, zw_lstore_n, zw_astore_n, zw_astoreN_n, zw_iload, zw_lload, zw_aload, zw_istore, zw_lstore, zw_astore, zw_astoreN, zw_iinc, zw_iadd, zw_isub, zw_imul, zw_iand, zw_ior, zw_ixor, zw_ishl, zw_ishr, zw_iushr, zw_idiv, zw_irem, zw_ladd, zw_lsub, zw_lmul, zw_land, zw_ldiv, zw_lrem, zw_lcmp, zw_i2l, zw_l2i, zw_dup, zw_pop, zw_dup2i, zw_goto, zw_if_eq, zw_if_ne, zw_if_lt, zw_if_ge, zw_if_gt, zw_if_le, zw_ic_eq, zw_ic_ne, zw_ic_lt, zw_ic_ge, zw_ic_gt, zw_ic_le, zw_ifnn, zw_ifnnN, zw_tsw, zw_lsw, zw_getf_l, zw_getf_r, zw_getf_i, zw_getf_z, zw_putf_i, zw_putf_z, zw_putf_l, zw_putf_r, zw_iaload, zw_caload, zw_laload, zw_aaload, zw_iastore, zw_castore, zw_lastore, zw_aastore, zw_alen, zw_newa, zw_newq, zw_new, zw_oini, zw_invs, zw_invv, zw_copy, zw_invt, zw_iret, zw_lret, zw_ret, zc_r, zc_a, zk_rvs, zk_cat2, List.getElem?_cons_zero, List.getElem?_cons_succ, Bool.false_eq_true, and_false, false_and, and_true, true_and, reduceIte, Nat.reduceEqDiff, Nat.reduceLT, Nat.reduceAdd, List.cons_append, List.nil_append, Option.toList_some, Option.toList_none, zk_cat_i, zk_cat_r, zk_cat_n, zk_same, Option.some.injEq, Value.int.injEq, Value.long.injEq, eq_self, false_implies, true_implies, zf_0, zf_4, zf_9]
  exact loop0 6 0 M (by omega) (fun q _ => rfl) (fun a ha => by omega)
def sp_nxt (V : sp_V) (ly : Nat → Nat → Nat) (f : Nat → Option Nat) (a : Nat) : Option Nat := sp_first (fun b => decide (sp_fe (sp_fby V ly f a b) = sp_fe (f a))) 0 (vNp V)
theorem sp_first_lt {f : Nat → Bool} : ∀ (k i x : Nat), sp_first f i k = some x → i ≤ x ∧ x < i + k ∧ f x = true
  | 0, i, x, h => by cases h
  | k + 1, i, x, h => by
    simp only [sp_first] at h
    split at h
    · rename_i hf
      cases h
      exact ⟨Nat.le_refl _, by omega, hf⟩
    · have := sp_first_lt k (i + 1) x h
      exact ⟨by omega, by omega, this.2.2⟩
def sp_oe (o : Option Nat) : Int := match o with
  | none => -1
  | some x => x
def sp_wk (nx : Nat → Option Nat) (to : Nat) : Nat → Nat → Nat → Int
  | 0, _, _ => -1
  | j + 1, a, k => if a = to then -1 else match nx a with
    | none => -1
    | some b => if k = 0 then b else sp_wk nx to j b (k - 1)
def sp_rs (V : sp_V) (ly : Nat → Nat → Nat) (fr to : Nat) (k : Option Nat) : Int := match sp_me V ly to fr, k with
  | none, _ => -1
  | some x, none => x
  | some _, some k => sp_wk (sp_nxt V ly (sp_me V ly to)) to 6 fr k
theorem ct_nextOnRoute (hn : 154 ≤ n) (hP : zs_X P) {v : Nat} (hv : zv_ok n P v) {V : sp_V} (hV : sp_vw V) (hVr : zv_rep M v V) {ly : Nat → Nat → Nat} (hly : zm_ly M 40 ly) {f : Nat → Option Nat} {B : Nat} (hf : sp_bd f B) (hB : B ≤ 500000) (hr : zr_far M f) (a : Nat) (ha : a < 6) :
    zk_C G 2 15 [.ref 14, .ref v, .ref 40, .int (nI a)] n M L P n (zk_same (some (.int (iI (sp_oe (sp_nxt V ly f a))))) M L P) := by
  have hnp : vNp V ≤ 6 := hV.1
  have hly2 : ∀ p t, p < 6 → t < 10 → ly p t ≤ 999 := fun p t hp ht => (hly p t hp ht).2
  refine zk_meth (ow := 0) (kind := 1) (k := 3) (nL := 5) (ct := false) (l0 := [.ref 14, .ref v, .ref 40, .int (nI a), zk_un]) (by decide +kernel) (fun h => by cases h) (by decide +kernel) (by decide) (by decide) (fun h => absurd h (by decide)) (Nat.le_of_ble_eq_true rfl) rfl (by omega) (fun Z hZ => ?_)
  have ho := zo_X hn
  have hP2 := hP
  unfold zs_X at hP2
  have hv2 := hv
  unfold zv_ok at hv2
  have c2 : (nI a).toNatClampNeg = a := nI_clamp (by omega)
  have i2 : vp_in (nI a) 6 := vp_in_nI (by omega) (by omega)
  have loop : ∀ (j b : Nat), b + j = vNp V → sp_nxt V ly f a = sp_first (fun b => decide (sp_fe (sp_fby V ly f a b) = sp_fe (f a))) b j → Z 3 [.ref 14, .ref v, .ref 40, .int (nI a), .int (nI b)] [] n M L P := by
    intro j
    induction j with
    | zero =>
      intro b hb h1
      obtain rfl : b = vNp V := by omega
      refine hZ B_X0_nextOnRoute_3 _ _ _ _ _ _ _ k_X0_nextOnRoute_3 ?_
      simp only [B_X0_nextOnRoute_3, zk_ldi_s, zk_ldl_s, zk_lda_r, zk_lda_a, zk_lda_n, zk_iv_s, zr_nil, zr_cons, zp_0, zp_s, zt_0, zt_s, zt2_0, zt2_s, zw_iconst, zw_bipush, zw_sipush, zw_lconst, zw_ldcs, zw_ldc, zw_ldcw, zw_ldc2, zw_iload_n, zw_lload_n, zw_aload_n, zw_istore_n, zw_lstore_n, zw_astore_n, zw_astoreN_n, zw_iload, zw_lload, zw_aload, zw_istore, zw_lstore, zw_astore, zw_astoreN, zw_iinc, zw_iadd, zw_isub, zw_imul, zw_iand, zw_ior, zw_ixor, zw_ishl, zw_ishr, zw_iushr, zw_idiv, zw_irem, zw_ladd, zw_lsub, zw_lmul, zw_land, zw_ldiv, zw_lrem, zw_lcmp, zw_i2l, zw_l2i, zw_dup, zw_pop, zw_dup2i, zw_goto, zw_if_eq, zw_if_ne, zw_if_lt, zw_if_ge, zw_if_gt, zw_if_le, zw_ic_eq, zw_ic_ne, zw_ic_lt, zw_ic_ge, zw_ic_gt, zw_ic_le, zw_ifnn, zw_ifnnN, zw_tsw, zw_lsw, zw_getf_l, zw_getf_r, zw_getf_i, zw_getf_z, zw_putf_i, zw_putf_z, zw_putf_l, zw_putf_r, zw_iaload, zw_caload, zw_laload, zw_aaload, zw_iastore, zw_castore, zw_lastore, zw_aastore, zw_alen, zw_newa, zw_newq, zw_new, zw_oini, zw_invs, zw_invv, zw_copy, zw_invt, zw_iret, zw_lret, zw_ret, zc_r, zc_a, zk_rvs, zk_cat2, List.getElem?_cons_zero, List.getElem?_cons_succ, Bool.false_eq_true, and_false, false_and, and_true, true_and, reduceIte, Nat.reduceEqDiff, Nat.reduceLT, Nat.reduceAdd, List.cons_append, List.nil_append, Option.toList_some, Option.toList_none, zk_cat_i, zk_cat_r, zk_cat_n, zk_same, Option.some.injEq, Value.int.injEq, Value.long.injEq, eq_self, false_implies, true_implies, zf_0, zf_4, zf_9, ho, hP2, hv2, hVr.1, (show nI (vNp V) ≤ nI (vNp V) from Int32.le_refl _), not_true_eq_false]
      refine hZ B_X0_nextOnRoute_42 _ _ _ _ _ _ _ k_X0_nextOnRoute_42 ?_
      simp only [B_X0_nextOnRoute_42, zk_ldi_s, zk_ldl_s, zk_lda_r, zk_lda_a, zk_lda_n, zk_iv_s, zr_nil, zr_cons, zp_0, zp_s, zt_0, zt_s, zt2_0, zt2_s, zw_iconst, zw_bipush, zw_sipush, zw_lconst, zw_ldcs, zw_ldc, zw_ldcw, zw_ldc2, zw_iload_n, zw_lload_n, zw_aload_n, zw_istore_n, zw_lstore_n, zw_astore_n, zw_astoreN_n, zw_iload, zw_lload, zw_aload, zw_istore, zw_lstore, zw_astore, zw_astoreN, zw_iinc, zw_iadd, zw_isub, zw_imul, zw_iand, zw_ior, zw_ixor, zw_ishl, zw_ishr, zw_iushr, zw_idiv, zw_irem, zw_ladd, zw_lsub, zw_lmul, zw_land, zw_ldiv, zw_lrem, zw_lcmp, zw_i2l, zw_l2i, zw_dup, zw_pop, zw_dup2i, zw_goto, zw_if_eq, zw_if_ne, zw_if_lt, zw_if_ge, zw_if_gt, zw_if_le, zw_ic_eq, zw_ic_ne, zw_ic_lt, zw_ic_ge, zw_ic_gt, zw_ic_le, zw_ifnn, zw_ifnnN, zw_tsw, zw_lsw, zw_getf_l, zw_getf_r, zw_getf_i, zw_getf_z, zw_putf_i, zw_putf_z, zw_putf_l, zw_putf_r, zw_iaload, zw_caload, zw_laload, zw_aaload, zw_iastore, zw_castore, zw_lastore, zw_aastore, zw_alen, zw_newa, zw_newq, zw_new, zw_oini, zw_invs, zw_invv, zw_copy, zw_invt, zw_iret, zw_lret, zw_ret, zc_r, zc_a, zk_rvs, zk_cat2, List.getElem?_cons_zero, List.getElem?_cons_succ, Bool.false_eq_true, and_false, false_and, and_true, true_and, reduceIte, Nat.reduceEqDiff, Nat.reduceLT, Nat.reduceAdd, List.cons_append, List.nil_append, Option.toList_some, Option.toList_none, zk_cat_i, zk_cat_r, zk_cat_n, zk_same, Option.some.injEq, Value.int.injEq, Value.long.injEq, eq_self, false_implies, true_implies, zf_0, zf_4, zf_9]
      rw [h1]
      exact zi_m1
    | succ j ih =>
      intro b hb h1
      have e1 : ¬ nI (vNp V) ≤ nI b := by rw [nI_leI (by omega) (by omega)]; omega
      refine hZ B_X0_nextOnRoute_3 _ _ _ _ _ _ _ k_X0_nextOnRoute_3 ?_
      simp only [B_X0_nextOnRoute_3, zk_ldi_s, zk_ldl_s, zk_lda_r, zk_lda_a, zk_lda_n, zk_iv_s, zr_nil, zr_cons, zp_0, zp_s, zt_0, zt_s, zt2_0, zt2_s, zw_iconst, zw_bipush, zw_sipush, zw_lconst, zw_ldcs, zw_ldc, zw_ldcw, zw_ldc2, zw_iload_n, zw_lload_n, zw_aload_n, zw_istore_n, zw_lstore_n, zw_astore_n, zw_astoreN_n, zw_iload, zw_lload, zw_aload, zw_istore, zw_lstore, zw_astore, zw_astoreN, zw_iinc, zw_iadd, zw_isub, zw_imul, zw_iand, zw_ior, zw_ixor, zw_ishl, zw_ishr, zw_iushr, zw_idiv, zw_irem, zw_ladd, zw_lsub, zw_lmul, zw_land, zw_ldiv, zw_lrem, zw_lcmp, zw_i2l, zw_l2i, zw_dup, zw_pop, zw_dup2i, zw_goto, zw_if_eq, zw_if_ne, zw_if_lt, zw_if_ge, zw_if_gt, zw_if_le, zw_ic_eq, zw_ic_ne, zw_ic_lt, zw_ic_ge, zw_ic_gt, zw_ic_le, zw_ifnn, zw_ifnnN, zw_tsw, zw_lsw, zw_getf_l, zw_getf_r, zw_getf_i, zw_getf_z, zw_putf_i, zw_putf_z, zw_putf_l, zw_putf_r, zw_iaload, zw_caload, zw_laload, zw_aaload, zw_iastore, zw_castore, zw_lastore, zw_aastore, zw_alen, zw_newa, zw_newq, zw_new, zw_oini, zw_invs, zw_invv, zw_copy, zw_invt, zw_iret, zw_lret, zw_ret, zc_r, zc_a, zk_rvs, zk_cat2, List.getElem?_cons_zero, List.getElem?_cons_succ, Bool.false_eq_true, and_false, false_and, and_true, true_and, reduceIte, Nat.reduceEqDiff, Nat.reduceLT, Nat.reduceAdd, List.cons_append, List.nil_append, Option.toList_some, Option.toList_none, zk_cat_i, zk_cat_r, zk_cat_n, zk_same, Option.some.injEq, Value.int.injEq, Value.long.injEq, eq_self, false_implies, true_implies, zf_0, zf_4, zf_9, ho, hP2, hv2, hVr.1, e1, not_false_eq_true]
      refine zk_callS (ct_farBy hn hP hv hV hVr hly hf hB hr a b ha (by omega)) (by first | decide | omega) (Nat.le_refl _) (Nat.le_of_ble_eq_true rfl) ?_
      have g1 : sp_fe (f a) ≤ 1000000000 := sp_fe_le (fun x hx => hf a x hx) (Nat.le_trans hB (by decide))
      have g2 : sp_fe (sp_fby V ly f a b) ≤ 1000000000 := sp_fe_le (fun x hx => sp_fby_bd hV hly2 hf a (by omega) hx) (Nat.le_trans (Nat.add_le_add_right hB _) (by decide))
      have e2 : (nI (sp_fe (sp_fby V ly f a b)) = nI (sp_fe (f a))) = (sp_fe (sp_fby V ly f a b) = sp_fe (f a)) := zn_eq (Nat.lt_of_le_of_lt g2 (by decide)) (Nat.lt_of_le_of_lt g1 (by decide))
      simp only [zk_ldi_s, zk_ldl_s, zk_lda_r, zk_lda_a, zk_lda_n, zk_iv_s, zr_nil, zr_cons, zp_0, zp_s, zt_0, zt_s, zt2_0, zt2_s, zw_iconst, zw_bipush, zw_sipush, zw_lconst, zw_ldcs, zw_ldc, zw_ldcw, zw_ldc2, zw_iload_n, zw_lload_n, zw_aload_n, zw_istore_n, zw_lstore_n, zw_astore_n, zw_astoreN_n, zw_iload, zw_lload, zw_aload, zw_istore, zw_lstore, zw_astore, zw_astoreN, zw_iinc, zw_iadd, zw_isub, zw_imul, zw_iand, zw_ior, zw_ixor, zw_ishl, zw_ishr, zw_iushr, zw_idiv, zw_irem, zw_ladd, zw_lsub, zw_lmul, zw_land, zw_ldiv, zw_lrem, zw_lcmp, zw_i2l, zw_l2i, zw_dup, zw_pop, zw_dup2i, zw_goto, zw_if_eq, zw_if_ne, zw_if_lt, zw_if_ge, zw_if_gt, zw_if_le, zw_ic_eq, zw_ic_ne, zw_ic_lt, zw_ic_ge, zw_ic_gt, zw_ic_le, zw_ifnn, zw_ifnnN, zw_tsw, zw_lsw, zw_getf_l, zw_getf_r, zw_getf_i, zw_getf_z, zw_putf_i, zw_putf_z, zw_putf_l, zw_putf_r, zw_iaload, zw_caload, zw_laload, zw_aaload, zw_iastore, zw_castore, zw_lastore, zw_aastore, zw_alen, zw_newa, zw_newq, zw_new, zw_oini, zw_invs, zw_invv, zw_copy, zw_invt, zw_iret, zw_lret, zw_ret, zc_r, zc_a, zk_rvs, zk_cat2, List.getElem?_cons_zero, List.getElem?_cons_succ, Bool.false_eq_true, and_false, false_and, and_true, true_and, reduceIte, Nat.reduceEqDiff, Nat.reduceLT, Nat.reduceAdd, List.cons_append, List.nil_append, Option.toList_some, Option.toList_none, zk_cat_i, zk_cat_r, zk_cat_n, zk_same, Option.some.injEq, Value.int.injEq, Value.long.injEq, eq_self, false_implies, true_implies, zf_0, zf_4, zf_9, ho, hP2, zl_X, c2, i2, hr a ha, e2]
      refine ⟨fun h => ?_, fun h => ?_⟩
      · refine hZ B_X0_nextOnRoute_36 _ _ _ _ _ _ _ k_X0_nextOnRoute_36 ?_
        simp only [B_X0_nextOnRoute_36, zk_ldi_s, zk_ldl_s, zk_lda_r, zk_lda_a, zk_lda_n, zk_iv_s, zr_nil, zr_cons, zp_0, zp_s, zt_0, zt_s, zt2_0, zt2_s, zw_iconst, zw_bipush, zw_sipush, zw_lconst, zw_ldcs, zw_ldc, zw_ldcw, zw_ldc2, zw_iload_n, zw_lload_n, zw_aload_n, zw_istore_n, zw_lstore_n, zw_astore_n, zw_astoreN_n, zw_iload, zw_lload, zw_aload, zw_istore, zw_lstore, zw_astore, zw_astoreN, zw_iinc, zw_iadd, zw_isub, zw_imul, zw_iand, zw_ior, zw_ixor, zw_ishl, zw_ishr, zw_iushr, zw_idiv, zw_irem, zw_ladd, zw_lsub, zw_lmul, zw_land, zw_ldiv, zw_lrem, zw_lcmp, zw_i2l, zw_l2i, zw_dup, zw_pop, zw_dup2i, zw_goto, zw_if_eq, zw_if_ne, zw_if_lt, zw_if_ge, zw_if_gt, zw_if_le, zw_ic_eq, zw_ic_ne, zw_ic_lt, zw_ic_ge, zw_ic_gt, zw_ic_le, zw_ifnn, zw_ifnnN, zw_tsw, zw_lsw, zw_getf_l, zw_getf_r, zw_getf_i, zw_getf_z, zw_putf_i, zw_putf_z, zw_putf_l, zw_putf_r, zw_iaload, zw_caload, zw_laload, zw_aaload, zw_iastore, zw_castore, zw_lastore, zw_aastore, zw_alen, zw_newa, zw_newq, zw_new, zw_oini, zw_invs, zw_invv, zw_copy, zw_invt, zw_iret, zw_lret, zw_ret, zc_r, zc_a, zk_rvs, zk_cat2, List.getElem?_cons_zero, List.getElem?_cons_succ, Bool.false_eq_true, and_false, false_and, and_true, true_and, reduceIte, Nat.reduceEqDiff, Nat.reduceLT, Nat.reduceAdd, List.cons_append, List.nil_append, Option.toList_some, Option.toList_none, zk_cat_i, zk_cat_r, zk_cat_n, zk_same, Option.some.injEq, Value.int.injEq, Value.long.injEq, eq_self, false_implies, true_implies, zf_0, zf_4, zf_9, nI_1]
        refine ih (b + 1) (by omega) ?_
        rw [h1]
        simp only [sp_first]
        rw [if_neg (by simpa using h)]
      · have : sp_nxt V ly f a = some b := by
          rw [h1]
          simp only [sp_first]
          rw [if_pos (by simpa using h)]
        rw [this]
        exact iI_nI b
  refine hZ B_X0_nextOnRoute_0 _ _ _ _ _ _ _ k_X0_nextOnRoute_0 ?_
  simp only [B_X0_nextOnRoute_0, zk_ldi_s, zk_ldl_s, zk_lda_r, zk_lda_a, zk_lda_n, zk_iv_s, zr_nil, zr_cons, zp_0, zp_s, zt_0, zt_s, zt2_0, zt2_s, zw_iconst, zw_bipush, zw_sipush, zw_lconst, zw_ldcs, zw_ldc, zw_ldcw, zw_ldc2, zw_iload_n, zw_lload_n, zw_aload_n, zw_istore_n, zw_lstore_n, zw_astore_n, zw_astoreN_n, zw_iload, zw_lload, zw_aload, zw_istore, zw_lstore, zw_astore, zw_astoreN, zw_iinc, zw_iadd, zw_isub, zw_imul, zw_iand, zw_ior, zw_ixor, zw_ishl, zw_ishr, zw_iushr, zw_idiv, zw_irem, zw_ladd, zw_lsub, zw_lmul, zw_land, zw_ldiv, zw_lrem, zw_lcmp, zw_i2l, zw_l2i, zw_dup, zw_pop, zw_dup2i, zw_goto, zw_if_eq, zw_if_ne, zw_if_lt, zw_if_ge, zw_if_gt, zw_if_le, zw_ic_eq, zw_ic_ne, zw_ic_lt, zw_ic_ge, zw_ic_gt, zw_ic_le, zw_ifnn, zw_ifnnN, zw_tsw, zw_lsw, zw_getf_l, zw_getf_r, zw_getf_i, zw_getf_z, zw_putf_i, zw_putf_z, zw_putf_l, zw_putf_r, zw_iaload, zw_caload, zw_laload, zw_aaload, zw_iastore, zw_castore, zw_lastore, zw_aastore, zw_alen, zw_newa, zw_newq, zw_new, zw_oini, zw_invs, zw_invv, zw_copy, zw_invt, zw_iret, zw_lret, zw_ret, zc_r, zc_a, zk_rvs, zk_cat2, List.getElem?_cons_zero, List.getElem?_cons_succ, Bool.false_eq_true, and_false, false_and, and_true, true_and, reduceIte, Nat.reduceEqDiff, Nat.reduceLT, Nat.reduceAdd, List.cons_append, List.nil_append, Option.toList_some, Option.toList_none, zk_cat_i, zk_cat_r, zk_cat_n, zk_same, Option.some.injEq, Value.int.injEq, Value.long.injEq, eq_self, false_implies, true_implies, zf_0, zf_4, zf_9]
  exact loop (vNp V) 0 (by omega) rfl
theorem ct_routeStep (hn : 154 ≤ n) (hP : zs_X P) {v : Nat} (hv : zv_ok n P v) (hv0 : 49 ≤ v) {V : sp_V} (hV : sp_vw V) (hVr : zv_rep M v V) {ly : Nat → Nat → Nat} (hly : zm_ly M 40 ly) (fr to : Nat) (hfr : fr < 6) (hto : to < 6) (k : Option Nat) (hk : ∀ x, k = some x → x < 2 ^ 31) :
    zk_C G 3 12 [.ref 14, .ref v, .ref 40, .int (nI fr), .int (nI to), .int (iI (sp_oe k))] n M L P n (fun r M' L' P' => r = some (.int (iI (sp_rs V ly fr to k))) ∧ L' = L ∧ P' = P ∧ ∀ q, q ≠ 39 → M' q = M q) := by
  have hnp : vNp V ≤ 6 := hV.1
  have hly2 : ∀ p t, p < 6 → t < 10 → ly p t ≤ 999 := fun p t hp ht => (hly p t hp ht).2
  have hbd := sp_me_bd hV hly2 to
  refine zk_meth (ow := 0) (kind := 1) (k := 5) (nL := 8) (ct := false) (l0 := [.ref 14, .ref v, .ref 40, .int (nI fr), .int (nI to), .int (iI (sp_oe k)), zk_un, zk_un]) (by decide +kernel) (fun h => by cases h) (by decide +kernel) (by decide) (by decide) (fun h => absurd h (by decide)) (Nat.le_of_ble_eq_true rfl) rfl (by omega) (fun Z hZ => ?_)
  have ho := zo_X hn
  have hP2 := hP
  unfold zs_X at hP2
  have hv2 := hv
  unfold zv_ok at hv2
  have c2 : (nI fr).toNatClampNeg = fr := nI_clamp (by omega)
  have i2 : vp_in (nI fr) 6 := vp_in_nI (by omega) (by omega)
  have fin : ∀ (M1 : zk_MI) (v6 v7 : Value), (∀ q, q ≠ 39 → M1 q = M q) → sp_rs V ly fr to k = -1 → Z 86 [.ref 14, .ref v, .ref 40, .int (nI fr), .int (nI to), .int (iI (sp_oe k)), v6, v7] [] n M1 L P := by
    intro M1 v6 v7 h1 h2
    refine hZ B_X0_routeStep_86 _ _ _ _ _ _ _ k_X0_routeStep_86 ?_
    simp only [B_X0_routeStep_86, zk_ldi_s, zk_ldl_s, zk_lda_r, zk_lda_a, zk_lda_n, zk_iv_s, zr_nil, zr_cons, zp_0, zp_s, zt_0, zt_s, zt2_0, zt2_s, zw_iconst, zw_bipush, zw_sipush, zw_lconst, zw_ldcs, zw_ldc, zw_ldcw, zw_ldc2, zw_iload_n, zw_lload_n, zw_aload_n, zw_istore_n, zw_lstore_n, zw_astore_n, zw_astoreN_n, zw_iload, zw_lload, zw_aload, zw_istore, zw_lstore, zw_astore, zw_astoreN, zw_iinc, zw_iadd, zw_isub, zw_imul, zw_iand, zw_ior, zw_ixor, zw_ishl, zw_ishr, zw_iushr, zw_idiv, zw_irem, zw_ladd, zw_lsub, zw_lmul, zw_land, zw_ldiv, zw_lrem, zw_lcmp, zw_i2l, zw_l2i, zw_dup, zw_pop, zw_dup2i, zw_goto, zw_if_eq, zw_if_ne, zw_if_lt, zw_if_ge, zw_if_gt, zw_if_le, zw_ic_eq, zw_ic_ne, zw_ic_lt, zw_ic_ge, zw_ic_gt, zw_ic_le, zw_ifnn, zw_ifnnN, zw_tsw, zw_lsw, zw_getf_l, zw_getf_r, zw_getf_i, zw_getf_z, zw_putf_i, zw_putf_z, zw_putf_l, zw_putf_r, zw_iaload, zw_caload, zw_laload, zw_aaload, zw_iastore, zw_castore, zw_lastore, zw_aastore, zw_alen, zw_newa, zw_newq, zw_new, zw_oini, zw_invs, zw_invv, zw_copy, zw_invt, zw_iret, zw_lret, zw_ret, zc_r, zc_a, zk_rvs, zk_cat2, List.getElem?_cons_zero, List.getElem?_cons_succ, Bool.false_eq_true, and_false, false_and, and_true, true_and, reduceIte, Nat.reduceEqDiff, Nat.reduceLT, Nat.reduceAdd, List.cons_append, List.nil_append, Option.toList_some, Option.toList_none, zk_cat_i, zk_cat_r, zk_cat_n, zk_same, Option.some.injEq, Value.int.injEq, Value.long.injEq, eq_self, false_implies, true_implies, zf_0]
    rw [h2]
    exact ⟨zi_m1, h1⟩
  refine hZ B_X0_routeStep_0 _ _ _ _ _ _ _ k_X0_routeStep_0 ?_
  simp only [B_X0_routeStep_0, zk_ldi_s, zk_ldl_s, zk_lda_r, zk_lda_a, zk_lda_n, zk_iv_s, zr_nil, zr_cons, zp_0, zp_s, zt_0, zt_s, zt2_0, zt2_s, zw_iconst, zw_bipush, zw_sipush, zw_lconst, zw_ldcs, zw_ldc, zw_ldcw, zw_ldc2, zw_iload_n, zw_lload_n, zw_aload_n, zw_istore_n, zw_lstore_n, zw_astore_n, zw_astoreN_n, zw_iload, zw_lload, zw_aload, zw_istore, zw_lstore, zw_astore, zw_astoreN, zw_iinc, zw_iadd, zw_isub, zw_imul, zw_iand, zw_ior, zw_ixor, zw_ishl, zw_ishr, zw_iushr, zw_idiv, zw_irem, zw_ladd, zw_lsub, zw_lmul, zw_land, zw_ldiv, zw_lrem, zw_lcmp, zw_i2l, zw_l2i, zw_dup, zw_pop, zw_dup2i, zw_goto, zw_if_eq, zw_if_ne, zw_if_lt, zw_if_ge, zw_if_gt, zw_if_le, zw_ic_eq, zw_ic_ne, zw_ic_lt, zw_ic_ge, zw_ic_gt, zw_ic_le, zw_ifnn, zw_ifnnN, zw_tsw, zw_lsw, zw_getf_l, zw_getf_r, zw_getf_i, zw_getf_z, zw_putf_i, zw_putf_z, zw_putf_l, zw_putf_r, zw_iaload, zw_caload, zw_laload, zw_aaload, zw_iastore, zw_castore, zw_lastore, zw_aastore, zw_alen, zw_newa, zw_newq, zw_new, zw_oini, zw_invs, zw_invv, zw_copy, zw_invt, zw_iret, zw_lret, zw_ret, zc_r, zc_a, zk_rvs, zk_cat2, List.getElem?_cons_zero, List.getElem?_cons_succ, Bool.false_eq_true, and_false, false_and, and_true, true_and, reduceIte, Nat.reduceEqDiff, Nat.reduceLT, Nat.reduceAdd, List.cons_append, List.nil_append, Option.toList_some, Option.toList_none, zk_cat_i, zk_cat_r, zk_cat_n, zk_same, Option.some.injEq, Value.int.injEq, Value.long.injEq, eq_self, false_implies, true_implies, zf_0, ho, hP2]
  refine zk_callI (ct_measure hn hP hv hv0 hV hVr hly to hto) (by first | decide | omega) (Nat.le_refl _) (Nat.le_of_ble_eq_true rfl) (fun r M1 L9 P9 hpost => ?_)
  obtain ⟨hr9, hL9, hP9, g1, g2⟩ := hpost
  subst hr9
  have hL8 := hL9.symm
  have hP8 := hP9.symm
  clear hL9 hP9
  subst hL8
  subst hP8
  have hfe := sp_fe_lt hbd (by decide) fr
  have e2 : (nI (sp_fe (sp_me V ly to fr)) < (1000000000 : Int32)) = (sp_fe (sp_me V ly to fr) < 1000000000) := by rw [fa_lit 1000000000, zn_lt (by omega) (by omega)]
  simp only [zk_ldi_s, zk_ldl_s, zk_lda_r, zk_lda_a, zk_lda_n, zk_iv_s, zr_nil, zr_cons, zp_0, zp_s, zt_0, zt_s, zt2_0, zt2_s, zw_iconst, zw_bipush, zw_sipush, zw_lconst, zw_ldcs, zw_ldc, zw_ldcw, zw_ldc2, zw_iload_n, zw_lload_n, zw_aload_n, zw_istore_n, zw_lstore_n, zw_astore_n, zw_astoreN_n, zw_iload, zw_lload, zw_aload, zw_istore, zw_lstore, zw_astore, zw_astoreN, zw_iinc, zw_iadd, zw_isub, zw_imul, zw_iand, zw_ior, zw_ixor, zw_ishl, zw_ishr, zw_iushr, zw_idiv, zw_irem, zw_ladd, zw_lsub, zw_lmul, zw_land, zw_ldiv, zw_lrem, zw_lcmp, zw_i2l, zw_l2i, zw_dup, zw_pop, zw_dup2i, zw_goto, zw_if_eq, zw_if_ne, zw_if_lt, zw_if_ge, zw_if_gt, zw_if_le, zw_ic_eq, zw_ic_ne, zw_ic_lt, zw_ic_ge, zw_ic_gt, zw_ic_le, zw_ifnn, zw_ifnnN, zw_tsw, zw_lsw, zw_getf_l, zw_getf_r, zw_getf_i, zw_getf_z, zw_putf_i, zw_putf_z, zw_putf_l, zw_putf_r, zw_iaload, zw_caload, zw_laload, zw_aaload, zw_iastore, zw_castore, zw_lastore, zw_aastore, zw_alen, zw_newa, zw_newq, zw_new, zw_oini, zw_invs, zw_invv, zw_copy, zw_invt, zw_iret, zw_lret, zw_ret, zc_r, zc_a, zk_rvs, zk_cat2, List.getElem?_cons_zero, List.getElem?_cons_succ, Bool.false_eq_true, and_false, false_and, and_true, true_and, reduceIte, Nat.reduceEqDiff, Nat.reduceLT, Nat.reduceAdd, List.cons_append, List.nil_append, Option.toList_some, Option.toList_none, zk_cat_i, zk_cat_r, zk_cat_n, zk_same, Option.some.injEq, Value.int.injEq, Value.long.injEq, eq_self, false_implies, true_implies, zf_0, ho, hP2, zl_X, c2, i2, g1 fr hfr]
  refine ⟨fun h => ?_, fun h => ?_⟩
  · rw [e2] at h
    obtain ⟨x, hx⟩ : ∃ x, sp_me V ly to fr = some x := by
      cases hz : sp_me V ly to fr with
      | none => have := hfe.2.mpr hz; omega
      | some x => exact ⟨x, rfl⟩
    cases k with
    | none =>
      have e3 : iI (sp_oe none) = -1 := zi_m1.symm
      refine hZ B_X0_routeStep_21 _ _ _ _ _ _ _ k_X0_routeStep_21 ?_
      simp only [B_X0_routeStep_21, zk_ldi_s, zk_ldl_s, zk_lda_r, zk_lda_a, zk_lda_n, zk_iv_s, zr_nil, zr_cons, zp_0, zp_s, zt_0, zt_s, zt2_0, zt2_s, zw_iconst, zw_bipush, zw_sipush, zw_lconst, zw_ldcs, zw_ldc, zw_ldcw, zw_ldc2, zw_iload_n, zw_lload_n, zw_aload_n, zw_istore_n, zw_lstore_n, zw_astore_n, zw_astoreN_n, zw_iload, zw_lload, zw_aload, zw_istore, zw_lstore, zw_astore, zw_astoreN, zw_iinc, zw_iadd, zw_isub, zw_imul, zw_iand, zw_ior, zw_ixor, zw_ishl, zw_ishr, zw_iushr, zw_idiv, zw_irem, zw_ladd, zw_lsub, zw_lmul, zw_land, zw_ldiv, zw_lrem, zw_lcmp, zw_i2l, zw_l2i, zw_dup, zw_pop, zw_dup2i, zw_goto, zw_if_eq, zw_if_ne, zw_if_lt, zw_if_ge, zw_if_gt, zw_if_le, zw_ic_eq, zw_ic_ne, zw_ic_lt, zw_ic_ge, zw_ic_gt, zw_ic_le, zw_ifnn, zw_ifnnN, zw_tsw, zw_lsw, zw_getf_l, zw_getf_r, zw_getf_i, zw_getf_z, zw_putf_i, zw_putf_z, zw_putf_l, zw_putf_r, zw_iaload, zw_caload, zw_laload, zw_aaload, zw_iastore, zw_castore, zw_lastore, zw_aastore, zw_alen, zw_newa, zw_newq, zw_new, zw_oini, zw_invs, zw_invv, zw_copy, zw_invt, zw_iret, zw_lret, zw_ret, zc_r, zc_a, zk_rvs, zk_cat2, List.getElem?_cons_zero, List.getElem?_cons_succ, Bool.false_eq_true, and_false, false_and, and_true, true_and, reduceIte, Nat.reduceEqDiff, Nat.reduceLT, Nat.reduceAdd, List.cons_append, List.nil_append, Option.toList_some, Option.toList_none, zk_cat_i, zk_cat_r, zk_cat_n, zk_same, Option.some.injEq, Value.int.injEq, Value.long.injEq, eq_self, false_implies, true_implies, zf_0, ho, hP2, zl_X, c2, i2, g1 fr hfr, e3, not_true_eq_false]
      unfold sp_rs
      rw [hx]
      exact ⟨iI_nI x, g2⟩
    | some k =>
      have hk2 := hk k rfl
      have e3 : iI (sp_oe (some k)) = nI k := (iI_nI k).symm
      have e4 : ¬ nI k = -1 := zn_nm1 hk2
      have loop : ∀ (j i a : Nat) , i + j = 6 → i ≤ k → a < 6 → sp_rs V ly fr to (some k) = sp_wk (sp_nxt V ly (sp_me V ly to)) to j a (k - i) → Z 40 [.ref 14, .ref v, .ref 40, .int (nI fr), .int (nI to), .int (nI k), .int (nI a), .int (nI i)] [] n M1 L P := by
        intro j
        induction j with
        | zero =>
          intro i a hi hik ha h1
          obtain rfl : i = 6 := by omega
          refine hZ B_X0_routeStep_40 _ _ _ _ _ _ _ k_X0_routeStep_40 ?_
          simp only [B_X0_routeStep_40, zk_ldi_s, zk_ldl_s, zk_lda_r, zk_lda_a, zk_lda_n, zk_iv_s, zr_nil, zr_cons, zp_0, zp_s, zt_0, zt_s, zt2_0, zt2_s, zw_iconst, zw_bipush, zw_sipush, zw_lconst, zw_ldcs, zw_ldc, zw_ldcw, zw_ldc2, zw_iload_n, zw_lload_n, zw_aload_n, zw_istore_n, zw_lstore_n, zw_astore_n, zw_astoreN_n, zw_iload, zw_lload, zw_aload, zw_istore, zw_lstore, zw_astore, zw_astoreN, zw_iinc, zw_iadd, zw_isub, zw_imul, zw_iand, zw_ior, zw_ixor, zw_ishl, zw_ishr, zw_iushr, zw_idiv, zw_irem, zw_ladd, zw_lsub, zw_lmul, zw_land, zw_ldiv, zw_lrem, zw_lcmp, zw_i2l, zw_l2i, zw_dup, zw_pop, zw_dup2i, zw_goto, zw_if_eq, zw_if_ne, zw_if_lt, zw_if_ge, zw_if_gt, zw_if_le, zw_ic_eq, zw_ic_ne, zw_ic_lt, zw_ic_ge, zw_ic_gt, zw_ic_le, zw_ifnn, zw_ifnnN, zw_tsw, zw_lsw, zw_getf_l, zw_getf_r, zw_getf_i, zw_getf_z, zw_putf_i, zw_putf_z, zw_putf_l, zw_putf_r, zw_iaload, zw_caload, zw_laload, zw_aaload, zw_iastore, zw_castore, zw_lastore, zw_aastore, zw_alen, zw_newa, zw_newq, zw_new, zw_oini, zw_invs, zw_invv, zw_copy, zw_invt, zw_iret, zw_lret, zw_ret, zc_r, zc_a, zk_rvs, zk_cat2, List.getElem?_cons_zero, List.getElem?_cons_succ, Bool.false_eq_true, and_false, false_and, and_true, true_and, reduceIte, Nat.reduceEqDiff, Nat.reduceLT, Nat.reduceAdd, List.cons_append, List.nil_append, Option.toList_some, Option.toList_none, zk_cat_i, zk_cat_r, zk_cat_n, zk_same, Option.some.injEq, Value.int.injEq, Value.long.injEq, eq_self, false_implies, true_implies, zf_0, (show ((6 : Int32) ≤ nI 6) from by decide), not_true_eq_false]
          rw [← e3]
          exact fin M1 _ _ g2 h1
        | succ j ih =>
          intro i a hi hik ha h1
          have l1 : ¬ (6 : Int32) ≤ nI i := by rw [fa_lit 6, nI_leI (by omega) (by omega)]; omega
          have l2 : (nI a = nI to) = (a = to) := zn_eq (by omega) (by omega)
          refine hZ B_X0_routeStep_40 _ _ _ _ _ _ _ k_X0_routeStep_40 ?_
          simp only [B_X0_routeStep_40, zk_ldi_s, zk_ldl_s, zk_lda_r, zk_lda_a, zk_lda_n, zk_iv_s, zr_nil, zr_cons, zp_0, zp_s, zt_0, zt_s, zt2_0, zt2_s, zw_iconst, zw_bipush, zw_sipush, zw_lconst, zw_ldcs, zw_ldc, zw_ldcw, zw_ldc2, zw_iload_n, zw_lload_n, zw_aload_n, zw_istore_n, zw_lstore_n, zw_astore_n, zw_astoreN_n, zw_iload, zw_lload, zw_aload, zw_istore, zw_lstore, zw_astore, zw_astoreN, zw_iinc, zw_iadd, zw_isub, zw_imul, zw_iand, zw_ior, zw_ixor, zw_ishl, zw_ishr, zw_iushr, zw_idiv, zw_irem, zw_ladd, zw_lsub, zw_lmul, zw_land, zw_ldiv, zw_lrem, zw_lcmp, zw_i2l, zw_l2i, zw_dup, zw_pop, zw_dup2i, zw_goto, zw_if_eq, zw_if_ne, zw_if_lt, zw_if_ge, zw_if_gt, zw_if_le, zw_ic_eq, zw_ic_ne, zw_ic_lt, zw_ic_ge, zw_ic_gt, zw_ic_le, zw_ifnn, zw_ifnnN, zw_tsw, zw_lsw, zw_getf_l, zw_getf_r, zw_getf_i, zw_getf_z, zw_putf_i, zw_putf_z, zw_putf_l, zw_putf_r, zw_iaload, zw_caload, zw_laload, zw_aaload, zw_iastore, zw_castore, zw_lastore, zw_aastore, zw_alen, zw_newa, zw_newq, zw_new, zw_oini, zw_invs, zw_invv, zw_copy, zw_invt, zw_iret, zw_lret, zw_ret, zc_r, zc_a, zk_rvs, zk_cat2, List.getElem?_cons_zero, List.getElem?_cons_succ, Bool.false_eq_true, and_false, false_and, and_true, true_and, reduceIte, Nat.reduceEqDiff, Nat.reduceLT, Nat.reduceAdd, List.cons_append, List.nil_append, Option.toList_some, Option.toList_none, zk_cat_i, zk_cat_r, zk_cat_n, zk_same, Option.some.injEq, Value.int.injEq, Value.long.injEq, eq_self, false_implies, true_implies, zf_0, ho, l1, not_false_eq_true, l2]
          refine ⟨fun h2 => ?_, fun h2 => ?_⟩
          · rw [← e3]
            refine fin M1 _ _ g2 ?_
            rw [h1]
            simp only [sp_wk]
            rw [if_pos h2]
          · refine zk_callS (ct_nextOnRoute hn hP hv hV (zv_rep_fr hVr (fun q q1 q2 => g2 q (by omega))) (fun p t hp ht => by rw [g2 _ (by decide)]; exact hly p t hp ht) hbd (by decide) g1 a ha) (by first | decide | omega) (Nat.le_refl _) (Nat.le_of_ble_eq_true rfl) ?_
            cases hnx : sp_nxt V ly (sp_me V ly to) a with
            | none =>
              have e5 : iI (sp_oe none) = -1 := zi_m1.symm
              simp only [zk_ldi_s, zk_ldl_s, zk_lda_r, zk_lda_a, zk_lda_n, zk_iv_s, zr_nil, zr_cons, zp_0, zp_s, zt_0, zt_s, zt2_0, zt2_s, zw_iconst, zw_bipush, zw_sipush, zw_lconst, zw_ldcs, zw_ldc, zw_ldcw, zw_ldc2, zw_iload_n, zw_lload_n, zw_aload_n, zw_istore_n, zw_lstore_n, zw_astore_n, zw_astoreN_n, zw_iload, zw_lload, zw_aload, zw_istore, zw_lstore, zw_astore, zw_astoreN, zw_iinc, zw_iadd, zw_isub, zw_imul, zw_iand, zw_ior, zw_ixor, zw_ishl, zw_ishr, zw_iushr, zw_idiv, zw_irem, zw_ladd, zw_lsub, zw_lmul, zw_land, zw_ldiv, zw_lrem, zw_lcmp, zw_i2l, zw_l2i, zw_dup, zw_pop, zw_dup2i, zw_goto, zw_if_eq, zw_if_ne, zw_if_lt, zw_if_ge, zw_if_gt, zw_if_le, zw_ic_eq, zw_ic_ne, zw_ic_lt, zw_ic_ge, zw_ic_gt, zw_ic_le, zw_ifnn, zw_ifnnN, zw_tsw, zw_lsw, zw_getf_l, zw_getf_r, zw_getf_i, zw_getf_z, zw_putf_i, zw_putf_z, zw_putf_l, zw_putf_r, zw_iaload, zw_caload, zw_laload, zw_aaload, zw_iastore, zw_castore, zw_lastore, zw_aastore, zw_alen, zw_newa, zw_newq, zw_new, zw_oini, zw_invs, zw_invv, zw_copy, zw_invt, zw_iret, zw_lret, zw_ret, zc_r, zc_a, zk_rvs, zk_cat2, List.getElem?_cons_zero, List.getElem?_cons_succ, Bool.false_eq_true, and_false, false_and, and_true, true_and, reduceIte, Nat.reduceEqDiff, Nat.reduceLT, Nat.reduceAdd, List.cons_append, List.nil_append, Option.toList_some, Option.toList_none, zk_cat_i, zk_cat_r, zk_cat_n, zk_same, Option.some.injEq, Value.int.injEq, Value.long.injEq, eq_self, false_implies, true_implies, zf_0, e5, not_true_eq_false]
              refine hZ B_X0_routeStep_77 _ _ _ _ _ _ _ k_X0_routeStep_77 ?_
              simp only [B_X0_routeStep_77, zk_ldi_s, zk_ldl_s, zk_lda_r, zk_lda_a, zk_lda_n, zk_iv_s, zr_nil, zr_cons, zp_0, zp_s, zt_0, zt_s, zt2_0, zt2_s, zw_iconst, zw_bipush, zw_sipush, zw_lconst, zw_ldcs, zw_ldc, zw_ldcw, zw_ldc2, zw_iload_n, zw_lload_n, zw_aload_n, zw_istore_n, zw_lstore_n, zw_astore_n, zw_astoreN_n, zw_iload, zw_lload, zw_aload, zw_istore, zw_lstore, zw_astore, zw_astoreN, zw_iinc, zw_iadd, zw_isub, zw_imul, zw_iand, zw_ior, zw_ixor, zw_ishl, zw_ishr, zw_iushr, zw_idiv, zw_irem, zw_ladd, zw_lsub, zw_lmul, zw_land, zw_ldiv, zw_lrem, zw_lcmp, zw_i2l, zw_l2i, zw_dup, zw_pop, zw_dup2i, zw_goto, zw_if_eq, zw_if_ne, zw_if_lt, zw_if_ge, zw_if_gt, zw_if_le, zw_ic_eq, zw_ic_ne, zw_ic_lt, zw_ic_ge, zw_ic_gt, zw_ic_le, zw_ifnn, zw_ifnnN, zw_tsw, zw_lsw, zw_getf_l, zw_getf_r, zw_getf_i, zw_getf_z, zw_putf_i, zw_putf_z, zw_putf_l, zw_putf_r, zw_iaload, zw_caload, zw_laload, zw_aaload, zw_iastore, zw_castore, zw_lastore, zw_aastore, zw_alen, zw_newa, zw_newq, zw_new, zw_oini, zw_invs, zw_invv, zw_copy, zw_invt, zw_iret, zw_lret, zw_ret, zc_r, zc_a, zk_rvs, zk_cat2, List.getElem?_cons_zero, List.getElem?_cons_succ, Bool.false_eq_true, and_false, false_and, and_true, true_and, reduceIte, Nat.reduceEqDiff, Nat.reduceLT, Nat.reduceAdd, List.cons_append, List.nil_append, Option.toList_some, Option.toList_none, zk_cat_i, zk_cat_r, zk_cat_n, zk_same, Option.some.injEq, Value.int.injEq, Value.long.injEq, eq_self, false_implies, true_implies, zf_0]
              refine ⟨?_, g2⟩
              rw [h1]
              simp only [sp_wk]
              rw [if_neg h2, hnx]
              exact zi_m1
            | some b =>
              have hb := sp_first_lt _ _ _ hnx
              have e5 : iI (sp_oe (some b)) = nI b := (iI_nI b).symm
              have e6 : ¬ nI b = -1 := zn_nm1 (by omega)
              have e7 : (nI i = nI k) = (i = k) := zn_eq (by omega) (by omega)
              simp only [zk_ldi_s, zk_ldl_s, zk_lda_r, zk_lda_a, zk_lda_n, zk_iv_s, zr_nil, zr_cons, zp_0, zp_s, zt_0, zt_s, zt2_0, zt2_s, zw_iconst, zw_bipush, zw_sipush, zw_lconst, zw_ldcs, zw_ldc, zw_ldcw, zw_ldc2, zw_iload_n, zw_lload_n, zw_aload_n, zw_istore_n, zw_lstore_n, zw_astore_n, zw_astoreN_n, zw_iload, zw_lload, zw_aload, zw_istore, zw_lstore, zw_astore, zw_astoreN, zw_iinc, zw_iadd, zw_isub, zw_imul, zw_iand, zw_ior, zw_ixor, zw_ishl, zw_ishr, zw_iushr, zw_idiv, zw_irem, zw_ladd, zw_lsub, zw_lmul, zw_land, zw_ldiv, zw_lrem, zw_lcmp, zw_i2l, zw_l2i, zw_dup, zw_pop, zw_dup2i, zw_goto, zw_if_eq, zw_if_ne, zw_if_lt, zw_if_ge, zw_if_gt, zw_if_le, zw_ic_eq, zw_ic_ne, zw_ic_lt, zw_ic_ge, zw_ic_gt, zw_ic_le, zw_ifnn, zw_ifnnN, zw_tsw, zw_lsw, zw_getf_l, zw_getf_r, zw_getf_i, zw_getf_z, zw_putf_i, zw_putf_z, zw_putf_l, zw_putf_r, zw_iaload, zw_caload, zw_laload, zw_aaload, zw_iastore, zw_castore, zw_lastore, zw_aastore, zw_alen, zw_newa, zw_newq, zw_new, zw_oini, zw_invs, zw_invv, zw_copy, zw_invt, zw_iret, zw_lret, zw_ret, zc_r, zc_a, zk_rvs, zk_cat2, List.getElem?_cons_zero, List.getElem?_cons_succ, Bool.false_eq_true, and_false, false_and, and_true, true_and, reduceIte, Nat.reduceEqDiff, Nat.reduceLT, Nat.reduceAdd, List.cons_append, List.nil_append, Option.toList_some, Option.toList_none, zk_cat_i, zk_cat_r, zk_cat_n, zk_same, Option.some.injEq, Value.int.injEq, Value.long.injEq, eq_self, false_implies, true_implies, zf_0, e5, e6, e7, not_false_eq_true]
              refine ⟨fun h3 => ?_, fun h3 => ?_⟩
              · refine hZ B_X0_routeStep_80 _ _ _ _ _ _ _ k_X0_routeStep_80 ?_
                simp only [B_X0_routeStep_80, zk_ldi_s, zk_ldl_s, zk_lda_r, zk_lda_a, zk_lda_n, zk_iv_s, zr_nil, zr_cons, zp_0, zp_s, zt_0, zt_s, zt2_0, zt2_s, zw_iconst, zw_bipush, zw_sipush, zw_lconst, zw_ldcs, zw_ldc, zw_ldcw, zw_ldc2, zw_iload_n, zw_lload_n, zw_aload_n, zw_istore_n, zw_lstore_n, zw_astore_n, zw_astoreN_n, zw_iload, zw_lload, zw_aload, zw_istore, zw_lstore, zw_astore, zw_astoreN, zw_iinc, zw_iadd, zw_isub, zw_imul, zw_iand, zw_ior, zw_ixor, zw_ishl, zw_ishr, zw_iushr, zw_idiv, zw_irem, zw_ladd, zw_lsub, zw_lmul, zw_land, zw_ldiv, zw_lrem, zw_lcmp, zw_i2l, zw_l2i, zw_dup, zw_pop, zw_dup2i, zw_goto, zw_if_eq, zw_if_ne, zw_if_lt, zw_if_ge, zw_if_gt, zw_if_le, zw_ic_eq, zw_ic_ne, zw_ic_lt, zw_ic_ge, zw_ic_gt, zw_ic_le, zw_ifnn, zw_ifnnN, zw_tsw, zw_lsw, zw_getf_l, zw_getf_r, zw_getf_i, zw_getf_z, zw_putf_i, zw_putf_z, zw_putf_l, zw_putf_r, zw_iaload, zw_caload, zw_laload, zw_aaload, zw_iastore, zw_castore, zw_lastore, zw_aastore, zw_alen, zw_newa, zw_newq, zw_new, zw_oini, zw_invs, zw_invv, zw_copy, zw_invt, zw_iret, zw_lret, zw_ret, zc_r, zc_a, zk_rvs, zk_cat2, List.getElem?_cons_zero, List.getElem?_cons_succ, Bool.false_eq_true, and_false, false_and, and_true, true_and, reduceIte, Nat.reduceEqDiff, Nat.reduceLT, Nat.reduceAdd, List.cons_append, List.nil_append, Option.toList_some, Option.toList_none, zk_cat_i, zk_cat_r, zk_cat_n, zk_same, Option.some.injEq, Value.int.injEq, Value.long.injEq, eq_self, false_implies, true_implies, zf_0, nI_1]
                refine ih (i + 1) b (by omega) (by omega) (by omega) ?_
                rw [h1]
                simp only [sp_wk]
                rw [if_neg h2, hnx]
                show (if k - i = 0 then _ else _) = _
                rw [if_neg (by omega), Nat.sub_sub]
              · refine ⟨?_, g2⟩
                rw [h1]
                simp only [sp_wk]
                rw [if_neg h2, hnx]
                show _ = iI (if k - i = 0 then _ else _)
                rw [if_pos (by omega)]
                exact iI_nI b
      refine hZ B_X0_routeStep_21 _ _ _ _ _ _ _ k_X0_routeStep_21 ?_
      simp only [B_X0_routeStep_21, zk_ldi_s, zk_ldl_s, zk_lda_r, zk_lda_a, zk_lda_n, zk_iv_s, zr_nil, zr_cons, zp_0, zp_s, zt_0, zt_s, zt2_0, zt2_s, zw_iconst, zw_bipush, zw_sipush, zw_lconst, zw_ldcs, zw_ldc, zw_ldcw, zw_ldc2, zw_iload_n, zw_lload_n, zw_aload_n, zw_istore_n, zw_lstore_n, zw_astore_n, zw_astoreN_n, zw_iload, zw_lload, zw_aload, zw_istore, zw_lstore, zw_astore, zw_astoreN, zw_iinc, zw_iadd, zw_isub, zw_imul, zw_iand, zw_ior, zw_ixor, zw_ishl, zw_ishr, zw_iushr, zw_idiv, zw_irem, zw_ladd, zw_lsub, zw_lmul, zw_land, zw_ldiv, zw_lrem, zw_lcmp, zw_i2l, zw_l2i, zw_dup, zw_pop, zw_dup2i, zw_goto, zw_if_eq, zw_if_ne, zw_if_lt, zw_if_ge, zw_if_gt, zw_if_le, zw_ic_eq, zw_ic_ne, zw_ic_lt, zw_ic_ge, zw_ic_gt, zw_ic_le, zw_ifnn, zw_ifnnN, zw_tsw, zw_lsw, zw_getf_l, zw_getf_r, zw_getf_i, zw_getf_z, zw_putf_i, zw_putf_z, zw_putf_l, zw_putf_r, zw_iaload, zw_caload, zw_laload, zw_aaload, zw_iastore, zw_castore, zw_lastore, zw_aastore, zw_alen, zw_newa, zw_newq, zw_new, zw_oini, zw_invs, zw_invv, zw_copy, zw_invt, zw_iret, zw_lret, zw_ret, zc_r, zc_a, zk_rvs, zk_cat2, List.getElem?_cons_zero, List.getElem?_cons_succ, Bool.false_eq_true, and_false, false_and, and_true, true_and, reduceIte, Nat.reduceEqDiff, Nat.reduceLT, Nat.reduceAdd, List.cons_append, List.nil_append, Option.toList_some, Option.toList_none, zk_cat_i, zk_cat_r, zk_cat_n, zk_same, Option.some.injEq, Value.int.injEq, Value.long.injEq, eq_self, false_implies, true_implies, zf_0, ho, hP2, zl_X, c2, i2, e3, e4, not_false_eq_true]
      refine hZ B_X0_routeStep_34 _ _ _ _ _ _ _ k_X0_routeStep_34 ?_
      simp only [B_X0_routeStep_34, zk_ldi_s, zk_ldl_s, zk_lda_r, zk_lda_a, zk_lda_n, zk_iv_s, zr_nil, zr_cons, zp_0, zp_s, zt_0, zt_s, zt2_0, zt2_s, zw_iconst, zw_bipush, zw_sipush, zw_lconst, zw_ldcs, zw_ldc, zw_ldcw, zw_ldc2, zw_iload_n, zw_lload_n, zw_aload_n, zw_istore_n, zw_lstore_n, zw_astore_n, zw_astoreN_n, zw_iload, zw_lload, zw_aload, zw_istore, zw_lstore, zw_astore, zw_astoreN, zw_iinc, zw_iadd, zw_isub, zw_imul, zw_iand, zw_ior, zw_ixor, zw_ishl, zw_ishr, zw_iushr, zw_idiv, zw_irem, zw_ladd, zw_lsub, zw_lmul, zw_land, zw_ldiv, zw_lrem, zw_lcmp, zw_i2l, zw_l2i, zw_dup, zw_pop, zw_dup2i, zw_goto, zw_if_eq, zw_if_ne, zw_if_lt, zw_if_ge, zw_if_gt, zw_if_le, zw_ic_eq, zw_ic_ne, zw_ic_lt, zw_ic_ge, zw_ic_gt, zw_ic_le, zw_ifnn, zw_ifnnN, zw_tsw, zw_lsw, zw_getf_l, zw_getf_r, zw_getf_i, zw_getf_z, zw_putf_i, zw_putf_z, zw_putf_l, zw_putf_r, zw_iaload, zw_caload, zw_laload, zw_aaload, zw_iastore, zw_castore, zw_lastore, zw_aastore, zw_alen, zw_newa, zw_newq, zw_new, zw_oini, zw_invs, zw_invv, zw_copy, zw_invt, zw_iret, zw_lret, zw_ret, zc_r, zc_a, zk_rvs, zk_cat2, List.getElem?_cons_zero, List.getElem?_cons_succ, Bool.false_eq_true, and_false, false_and, and_true, true_and, reduceIte, Nat.reduceEqDiff, Nat.reduceLT, Nat.reduceAdd, List.cons_append, List.nil_append, Option.toList_some, Option.toList_none, zk_cat_i, zk_cat_r, zk_cat_n, zk_same, Option.some.injEq, Value.int.injEq, Value.long.injEq, eq_self, false_implies, true_implies, zf_0]
      refine loop 6 0 fr (by omega) (by omega) hfr ?_
      unfold sp_rs
      rw [hx]
      rfl
  · rw [e2] at h
    simp only [zk_ldi_s, zk_ldl_s, zk_lda_r, zk_lda_a, zk_lda_n, zk_iv_s, zr_nil, zr_cons, zp_0, zp_s, zt_0, zt_s, zt2_0, zt2_s, zw_iconst, zw_bipush, zw_sipush, zw_lconst, zw_ldcs, zw_ldc, zw_ldcw, zw_ldc2, zw_iload_n, zw_lload_n, zw_aload_n, zw_istore_n, zw_lstore_n, zw_astore_n, zw_astoreN_n, zw_iload, zw_lload, zw_aload, zw_istore, zw_lstore, zw_astore, zw_astoreN, zw_iinc, zw_iadd, zw_isub, zw_imul, zw_iand, zw_ior, zw_ixor, zw_ishl, zw_ishr, zw_iushr, zw_idiv, zw_irem, zw_ladd, zw_lsub, zw_lmul, zw_land, zw_ldiv, zw_lrem, zw_lcmp, zw_i2l, zw_l2i, zw_dup, zw_pop, zw_dup2i, zw_goto, zw_if_eq, zw_if_ne, zw_if_lt, zw_if_ge, zw_if_gt, zw_if_le, zw_ic_eq, zw_ic_ne, zw_ic_lt, zw_ic_ge, zw_ic_gt, zw_ic_le, zw_ifnn, zw_ifnnN, zw_tsw, zw_lsw, zw_getf_l, zw_getf_r, zw_getf_i, zw_getf_z, zw_putf_i, zw_putf_z, zw_putf_l, zw_putf_r, zw_iaload, zw_caload, zw_laload, zw_aaload, zw_iastore, zw_castore, zw_lastore, zw_aastore, zw_alen, zw_newa, zw_newq, zw_new, zw_oini, zw_invs, zw_invv, zw_copy, zw_invt, zw_iret, zw_lret, zw_ret, zc_r, zc_a, zk_rvs, zk_cat2, List.getElem?_cons_zero, List.getElem?_cons_succ, Bool.false_eq_true, and_false, false_and, and_true, true_and, reduceIte, Nat.reduceEqDiff, Nat.reduceLT, Nat.reduceAdd, List.cons_append, List.nil_append, Option.toList_some, Option.toList_none, zk_cat_i, zk_cat_r, zk_cat_n, zk_same, Option.some.injEq, Value.int.injEq, Value.long.injEq, eq_self, false_implies, true_implies, zf_0]
    refine ⟨?_, g2⟩
    have h3 := hfe.2.mp (by omega)
    unfold sp_rs
    rw [h3]
    exact zi_m1
end RT
