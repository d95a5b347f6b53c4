/-! ===== the one String's bytes, as the statement gives them ===== -/
def st_lit : List Int32 := [112, 108, 97, 99, 101, 32, 32, 119, 97, 121, 32, 32, 32, 32, 116, 97, 107, 101, 115, 32, 32, 112, 101, 114, 115, 111, 110, 32, 97, 116, 32, 32, 32, 32, 32, 116, 104, 105, 110, 103, 32, 32, 119, 101, 105, 103, 104, 115, 32, 102, 114, 111, 109, 32, 32, 32, 107, 110, 111, 119, 115, 32, 32, 102, 97, 100, 101, 32, 32, 32, 115, 97, 121, 32, 32, 32, 32, 104, 101, 97, 114, 32, 32, 32, 114, 105, 115, 101, 32, 32, 32, 99, 97, 116, 99, 104, 32, 32, 98, 114, 101, 97, 107, 115, 32, 116, 104, 105, 101, 102, 32, 32, 98, 117, 115, 121, 32, 32, 32, 107, 110, 111, 119, 32, 32, 32, 100, 97, 121, 32, 32, 32, 32, 112, 111, 105, 110, 116, 115, 32, 104, 97, 110, 103, 115, 32, 32, 108, 105, 101, 115, 32, 32, 32, 110, 117, 109, 98, 101, 114, 32, 103, 111, 110, 101, 32, 32, 32, 111, 114, 32, 32, 32, 32, 32, 97, 110, 100, 32, 32, 32, 32, 110, 111, 116, 32, 32, 32, 32, 97, 108, 108, 32, 32, 32, 32, 109, 105, 110, 32, 32, 32, 32, 109, 97, 120, 32, 32, 32, 32, 102, 105, 114, 115, 116, 32, 32, 108, 97, 115, 116, 32, 32, 32, 111, 102, 116, 101, 110, 32, 32, 116, 111, 116, 97, 108, 32, 32, 109, 111, 115, 116, 32, 32, 32, 108, 101, 97, 115, 116, 32, 32]
theorem st_wb : zk_wb = st_lit := by decide +kernel
theorem st_wl : zk_wb.length = 252 := by decide +kernel
theorem st_els : (flatC (Jvm.Cond.and given_1 narrow_1)).drop 13 = (List.range 252).map (fun j => Cond.eq (.elem (.field (.string RX8 66) "java/lang/String" "value" "[B") (.int (Int32.ofNat j))) (.int (st_lit.getD j 0))) := by decide +kernel
theorem st_el (j : Nat) (h : j < 252) : Cond.eq (.elem (.field (.string RX8 66) "java/lang/String" "value" "[B") (.int (Int32.ofNat j))) (.int (zk_wb.getD j 0)) ∈ flatC (Jvm.Cond.and given_1 narrow_1) := by
  refine List.mem_of_mem_drop (i := 13) ?_
  rw [st_els, st_wb]
  exact List.mem_map.mpr ⟨j, List.mem_range.mpr h, rfl⟩
theorem st_S {args : Array Value} {s : State} {tm : Term} {wb : List Int32} {n : Nat} {A : Nat → Prop} (hn : wb.length = n) (hN : n < 2 ^ 31) (hex : (Cond.exactly tm "java/lang/String").before args s = true) (hco : (Cond.eq (.field tm "java/lang/String" "coder" "B") (.int 0)).before args s = true)
    (har : (Cond.arrayOf (.field tm "java/lang/String" "value" "[B") .byte).before args s = true) (hle : (Cond.eq (.length (.field tm "java/lang/String" "value" "[B")) (.int (Int32.ofNat n))).before args s = true)
    (hel : ∀ j : Nat, j < n → (Cond.eq (.elem (.field tm "java/lang/String" "value" "[B") (.int (Int32.ofNat j))) (.int (wb.getD j 0))).before args s = true) (hA : ∀ a : Nat, a < s.heap.size → ¬ A a) :
    ∃ adK adV : Nat → Nat, (∀ i : Nat, i < 1 → vk_S 1 [wb.length] [wb] adK adV A s s.heap) ∧ tm.eval args s none [] s = some (.ref (adK 0)) := by
  subst hn
  obtain ⟨adK, adV, hS, hev⟩ := vk_Sof (args := args) (s := s) (N := 1) (tm := fun _ => tm) (len := [wb.length]) (byt := [wb]) (A := A)
    (fun i hi => by have e : i = 0 := by omega
                    subst e; exact hN)
    (fun i hi => hex) (fun i hi => hco) (fun i hi => har)
    (fun i hi => by have e : i = 0 := by omega
                    subst e; exact hle)
    (fun i hi j hj => by have e : i = 0 := by omega
                         subst e; exact hel j hj)
    (fun i j hi hj hij => absurd (show i = j by omega) hij) hA
  exact ⟨adK, adV, fun _ _ => hS, hev 0 (by decide)⟩
