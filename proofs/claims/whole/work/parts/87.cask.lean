/-! ===== the class: QUESTIONS ===== -/
def B_X6_read_0 : List zk_I := [(.aload_n 0, 1, 0, 0, 0, 0, []), (.getfield 9, 3, 0, 6, 0, 0, []), (.invokevirtual 23, 3, 0, 1, 84, 8, []), (.aload_n 0, 1, 0, 0, 0, 0, []), (.aload_n 0, 1, 0, 0, 0, 0, []), (.getfield 9, 3, 0, 6, 0, 0, []), (.getfield 28, 3, 0, 8, 1, 0, []), (.putfield 32, 3, 0, 6, 3, 0, []), (.aload_n 0, 1, 0, 0, 0, 0, []), (.getfield 32, 3, 0, 6, 3, 0, []), (.sipush 330, 3, 330, 0, 0, 0, []), (.if_icmp .ge 12, 3, 0, 37, 0, 0, []), (.aload_n 0, 1, 0, 0, 0, 0, []), (.getfield 9, 3, 0, 6, 0, 0, []), (.iconst 1, 1, 1, 0, 0, 0, []), (.invokevirtual 35, 3, 0, 2, 86, 8, []), (.ireturn, 1, 0, 1, 0, 0, [])]
theorem k_X6_read_0 : zk_ckb 6 false (zk_m 75) B_X6_read_0 0 = true := by decide +kernel
def B_X6_read_37 : List zk_I := [(.aload_n 0, 1, 0, 0, 0, 0, []), (.getfield 9, 3, 0, 6, 0, 0, []), (.invokevirtual 39, 3, 0, 1, 87, 8, []), (.aload_n 0, 1, 0, 0, 0, 0, []), (.getfield 15, 3, 0, 6, 1, 0, []), (.aload_n 0, 1, 0, 0, 0, 0, []), (.getfield 15, 3, 0, 6, 1, 0, []), (.getfield 42, 3, 0, 1, 1, 0, []), (.iconst 0, 1, 0, 0, 0, 0, []), (.iconst 4, 1, 4, 0, 0, 0, []), (.invokevirtual 48, 3, 0, 4, 20, 1, []), (.aload_n 0, 1, 0, 0, 0, 0, []), (.getfield 32, 3, 0, 6, 3, 0, []), (.sipush 332, 3, 332, 0, 0, 0, []), (.if_icmp .gt 13, 3, 0, 80, 0, 0, []), (.aload_n 0, 1, 0, 0, 0, 0, []), (.getfield 15, 3, 0, 6, 1, 0, []), (.invokevirtual 51, 3, 1, 1, 25, 1, []), (.goto 10, 3, 0, 87, 0, 0, [])]
theorem k_X6_read_37 : zk_ckb 6 false (zk_m 75) B_X6_read_37 37 = true := by decide +kernel
def B_X6_read_80 : List zk_I := [(.aload_n 0, 1, 0, 0, 0, 0, []), (.getfield 15, 3, 0, 6, 1, 0, []), (.invokevirtual 55, 3, 1, 1, 29, 1, [])]
theorem k_X6_read_80 : zk_ckb 6 false (zk_m 75) B_X6_read_80 80 = true := by decide +kernel
def B_X6_read_87 : List zk_I := [(.istore_n 1, 1, 0, 1, 0, 0, []), (.iload_n 1, 1, 0, 1, 0, 0, []), (.ifCond .eq 29, 3, 0, 118, 0, 0, []), (.aload_n 0, 1, 0, 0, 0, 0, []), (.getfield 9, 3, 0, 6, 0, 0, []), (.getfield 28, 3, 0, 8, 1, 0, []), (.iconst (-1), 1, (-1), 0, 0, 0, []), (.if_icmp .eq 14, 3, 0, 114, 0, 0, []), (.aload_n 0, 1, 0, 0, 0, 0, []), (.getfield 9, 3, 0, 6, 0, 0, []), (.iconst 1, 1, 1, 0, 0, 0, []), (.invokevirtual 35, 3, 0, 2, 86, 8, []), (.ifCond .eq 7, 3, 0, 118, 0, 0, [])]
theorem k_X6_read_87 : zk_ckb 6 false (zk_m 75) B_X6_read_87 87 = true := by decide +kernel
def B_X6_read_114 : List zk_I := [(.iconst 1, 1, 1, 0, 0, 0, []), (.goto 4, 3, 0, 119, 0, 0, [])]
theorem k_X6_read_114 : zk_ckb 6 false (zk_m 75) B_X6_read_114 114 = true := by decide +kernel
def B_X6_read_118 : List zk_I := [(.iconst 0, 1, 0, 0, 0, 0, [])]
theorem k_X6_read_118 : zk_ckb 6 false (zk_m 75) B_X6_read_118 118 = true := by decide +kernel
def B_X6_read_119 : List zk_I := [(.ireturn, 1, 0, 1, 0, 0, [])]
theorem k_X6_read_119 : zk_ckb 6 false (zk_m 75) B_X6_read_119 119 = true := by decide +kernel
def B_X6_answer_0 : List zk_I := [(.aload_n 0, 1, 0, 0, 0, 0, []), (.getfield 32, 3, 0, 6, 3, 0, []), (.sipush 331, 3, 331, 0, 0, 0, []), (.if_icmp .gt 9, 3, 0, 16, 0, 0, []), (.ldc2_w 58, 3, 1, 1, 0, 0, []), (.goto 4, 3, 0, 17, 0, 0, [])]
theorem k_X6_answer_0 : zk_ckb 6 false (zk_m 76) B_X6_answer_0 0 = true := by decide +kernel
def B_X6_answer_16 : List zk_I := [(.lconst 0, 1, 0, 0, 0, 0, [])]
theorem k_X6_answer_16 : zk_ckb 6 false (zk_m 76) B_X6_answer_16 16 = true := by decide +kernel
def B_X6_answer_17 : List zk_I := [(.lstore 4, 2, 0, 4, 0, 0, []), (.aload_n 0, 1, 0, 0, 0, 0, []), (.getfield 19, 3, 0, 6, 2, 0, []), (.aload_n 2, 1, 0, 2, 0, 0, []), (.iload_n 3, 1, 0, 3, 0, 0, []), (.aload_n 1, 1, 0, 1, 0, 0, []), (.getfield 60, 3, 0, 9, 2, 0, []), (.getfield 66, 3, 0, 4, 2, 0, []), (.invokevirtual 71, 3, 0, 4, 38, 2, []), (.iconst 0, 1, 0, 0, 0, 0, []), (.istore 6, 2, 0, 6, 0, 0, [])]
theorem k_X6_answer_17 : zk_ckb 6 false (zk_m 76) B_X6_answer_17 17 = true := by decide +kernel
def B_X6_answer_38 : List zk_I := [(.iload 6, 2, 0, 6, 0, 0, []), (.aload_n 1, 1, 0, 1, 0, 0, []), (.getfield 60, 3, 0, 9, 2, 0, []), (.getfield 66, 3, 0, 4, 2, 0, []), (.if_icmp .ge 178, 3, 0, 225, 0, 0, []), (.aload_n 0, 1, 0, 0, 0, 0, []), (.aload_n 1, 1, 0, 1, 0, 0, []), (.aload_n 2, 1, 0, 2, 0, 0, []), (.iload 6, 2, 0, 6, 0, 0, []), (.invokevirtual 77, 3, 0, 4, 77, 6, []), (.istore 7, 2, 0, 7, 0, 0, []), (.aload_n 0, 1, 0, 0, 0, 0, []), (.getfield 32, 3, 0, 6, 3, 0, []), (.tableswitch 134 330 334 #[36, 63, 81, 99, 110], 36, 0, 198, 0, 0, [(330, 100), (331, 127), (332, 145), (333, 163), (334, 174)])]
theorem k_X6_answer_38 : zk_ckb 6 false (zk_m 76) B_X6_answer_38 38 = true := by decide +kernel
def B_X6_answer_100 : List zk_I := [(.iload 7, 2, 0, 7, 0, 0, []), (.ifCond .eq 18, 3, 0, 120, 0, 0, []), (.lload 4, 2, 0, 4, 0, 0, []), (.ldc2_w 58, 3, 1, 1, 0, 0, []), (.lcmp, 1, 0, 0, 0, 0, []), (.ifCond .ne 9, 3, 0, 120, 0, 0, []), (.iload 6, 2, 0, 6, 0, 0, []), (.i2l, 1, 0, 0, 0, 0, []), (.goto 5, 3, 0, 122, 0, 0, [])]
theorem k_X6_answer_100 : zk_ckb 6 false (zk_m 76) B_X6_answer_100 100 = true := by decide +kernel
def B_X6_answer_120 : List zk_I := [(.lload 4, 2, 0, 4, 0, 0, [])]
theorem k_X6_answer_120 : zk_ckb 6 false (zk_m 76) B_X6_answer_120 120 = true := by decide +kernel
def B_X6_answer_122 : List zk_I := [(.lstore 4, 2, 0, 4, 0, 0, []), (.goto 95, 3, 0, 219, 0, 0, [])]
theorem k_X6_answer_122 : zk_ckb 6 false (zk_m 76) B_X6_answer_122 122 = true := by decide +kernel
def B_X6_answer_127 : List zk_I := [(.iload 7, 2, 0, 7, 0, 0, []), (.ifCond .eq 9, 3, 0, 138, 0, 0, []), (.iload 6, 2, 0, 6, 0, 0, []), (.i2l, 1, 0, 0, 0, 0, []), (.goto 5, 3, 0, 140, 0, 0, [])]
theorem k_X6_answer_127 : zk_ckb 6 false (zk_m 76) B_X6_answer_127 127 = true := by decide +kernel
def B_X6_answer_138 : List zk_I := [(.lload 4, 2, 0, 4, 0, 0, [])]
theorem k_X6_answer_138 : zk_ckb 6 false (zk_m 76) B_X6_answer_138 138 = true := by decide +kernel
def B_X6_answer_140 : List zk_I := [(.lstore 4, 2, 0, 4, 0, 0, []), (.goto 77, 3, 0, 219, 0, 0, [])]
theorem k_X6_answer_140 : zk_ckb 6 false (zk_m 76) B_X6_answer_140 140 = true := by decide +kernel
def B_X6_answer_145 : List zk_I := [(.lload 4, 2, 0, 4, 0, 0, []), (.iload 7, 2, 0, 7, 0, 0, []), (.ifCond .eq 7, 3, 0, 156, 0, 0, []), (.lconst 1, 1, 0, 1, 0, 0, []), (.goto 4, 3, 0, 157, 0, 0, [])]
theorem k_X6_answer_145 : zk_ckb 6 false (zk_m 76) B_X6_answer_145 145 = true := by decide +kernel
def B_X6_answer_156 : List zk_I := [(.lconst 0, 1, 0, 0, 0, 0, [])]
theorem k_X6_answer_156 : zk_ckb 6 false (zk_m 76) B_X6_answer_156 156 = true := by decide +kernel
def B_X6_answer_157 : List zk_I := [(.ladd, 1, 0, 0, 0, 0, []), (.lstore 4, 2, 0, 4, 0, 0, []), (.goto 59, 3, 0, 219, 0, 0, [])]
theorem k_X6_answer_157 : zk_ckb 6 false (zk_m 76) B_X6_answer_157 157 = true := by decide +kernel
def B_X6_answer_163 : List zk_I := [(.lload 4, 2, 0, 4, 0, 0, []), (.iload 7, 2, 0, 7, 0, 0, []), (.i2l, 1, 0, 0, 0, 0, []), (.ladd, 1, 0, 0, 0, 0, []), (.lstore 4, 2, 0, 4, 0, 0, []), (.goto 48, 3, 0, 219, 0, 0, [])]
theorem k_X6_answer_163 : zk_ckb 6 false (zk_m 76) B_X6_answer_163 163 = true := by decide +kernel
def B_X6_answer_174 : List zk_I := [(.iload 6, 2, 0, 6, 0, 0, []), (.ifCond .ne 9, 3, 0, 185, 0, 0, []), (.iload 7, 2, 0, 7, 0, 0, []), (.i2l, 1, 0, 0, 0, 0, []), (.goto 11, 3, 0, 193, 0, 0, [])]
theorem k_X6_answer_174 : zk_ckb 6 false (zk_m 76) B_X6_answer_174 174 = true := by decide +kernel
def B_X6_answer_185 : List zk_I := [(.lload 4, 2, 0, 4, 0, 0, []), (.iload 7, 2, 0, 7, 0, 0, []), (.i2l, 1, 0, 0, 0, 0, []), (.invokestatic 81, 3, 0, 2, 318, 15, [])]
theorem k_X6_answer_185 : zk_ckb 6 false (zk_m 76) B_X6_answer_185 185 = true := by decide +kernel
def B_X6_answer_193 : List zk_I := [(.lstore 4, 2, 0, 4, 0, 0, []), (.goto 24, 3, 0, 219, 0, 0, [])]
theorem k_X6_answer_193 : zk_ckb 6 false (zk_m 76) B_X6_answer_193 193 = true := by decide +kernel
def B_X6_answer_198 : List zk_I := [(.iload 6, 2, 0, 6, 0, 0, []), (.ifCond .ne 9, 3, 0, 209, 0, 0, []), (.iload 7, 2, 0, 7, 0, 0, []), (.i2l, 1, 0, 0, 0, 0, []), (.goto 11, 3, 0, 217, 0, 0, [])]
theorem k_X6_answer_198 : zk_ckb 6 false (zk_m 76) B_X6_answer_198 198 = true := by decide +kernel
def B_X6_answer_209 : List zk_I := [(.lload 4, 2, 0, 4, 0, 0, []), (.iload 7, 2, 0, 7, 0, 0, []), (.i2l, 1, 0, 0, 0, 0, []), (.invokestatic 87, 3, 0, 2, 320, 15, [])]
theorem k_X6_answer_209 : zk_ckb 6 false (zk_m 76) B_X6_answer_209 209 = true := by decide +kernel
def B_X6_answer_217 : List zk_I := [(.lstore 4, 2, 0, 4, 0, 0, [])]
theorem k_X6_answer_217 : zk_ckb 6 false (zk_m 76) B_X6_answer_217 217 = true := by decide +kernel
def B_X6_answer_219 : List zk_I := [(.iinc 6 1, 3, 1, 6, 0, 0, []), (.goto (-184), 3, 0, 38, 0, 0, [])]
theorem k_X6_answer_219 : zk_ckb 6 false (zk_m 76) B_X6_answer_219 219 = true := by decide +kernel
def B_X6_answer_225 : List zk_I := [(.lload 4, 2, 0, 4, 0, 0, []), (.lreturn, 1, 0, 0, 0, 0, [])]
theorem k_X6_answer_225 : zk_ckb 6 false (zk_m 76) B_X6_answer_225 225 = true := by decide +kernel
def B_X6_valueFor_0 : List zk_I := [(.aload_n 0, 1, 0, 0, 0, 0, []), (.getfield 19, 3, 0, 6, 2, 0, []), (.aload_n 1, 1, 0, 1, 0, 0, []), (.aload_n 2, 1, 0, 2, 0, 0, []), (.iload_n 3, 1, 0, 3, 0, 0, []), (.invokevirtual 90, 3, 0, 4, 37, 2, []), (.aload_n 0, 1, 0, 0, 0, 0, []), (.getfield 19, 3, 0, 6, 2, 0, []), (.bipush (-20), 2, (-20), 0, 0, 0, []), (.iload_n 3, 1, 0, 3, 0, 0, []), (.invokevirtual 94, 3, 0, 3, 36, 2, []), (.aload_n 0, 1, 0, 0, 0, 0, []), (.getfield 19, 3, 0, 6, 2, 0, []), (.bipush (-21), 2, (-21), 0, 0, 0, []), (.aload_n 2, 1, 0, 2, 0, 0, []), (.getfield 98, 3, 0, 3, 3, 0, []), (.iload_n 3, 1, 0, 3, 0, 0, []), (.iaload, 1, 0, 0, 0, 0, []), (.invokevirtual 94, 3, 0, 3, 36, 2, []), (.aload_n 0, 1, 0, 0, 0, 0, []), (.getfield 19, 3, 0, 6, 2, 0, []), (.bipush (-19), 2, (-19), 0, 0, 0, []), (.aload_n 2, 1, 0, 2, 0, 0, []), (.iload_n 3, 1, 0, 3, 0, 0, []), (.invokevirtual 103, 3, 0, 2, 52, 3, []), (.invokevirtual 94, 3, 0, 3, 36, 2, []), (.aload_n 0, 1, 0, 0, 0, 0, []), (.getfield 19, 3, 0, 6, 2, 0, []), (.aload_n 0, 1, 0, 0, 0, 0, []), (.getfield 15, 3, 0, 6, 1, 0, []), (.getfield 42, 3, 0, 1, 1, 0, []), (.iconst 0, 1, 0, 0, 0, 0, []), (.aload_n 0, 1, 0, 0, 0, 0, []), (.getfield 15, 3, 0, 6, 1, 0, []), (.getfield 107, 3, 0, 1, 3, 0, []), (.invokevirtual 110, 3, 0, 4, 39, 2, []), (.ireturn, 1, 0, 0, 0, 0, [])]
theorem k_X6_valueFor_0 : zk_ckb 6 false (zk_m 77) B_X6_valueFor_0 0 = true := by decide +kernel
def B_X11_ask_0 : List zk_I := [(.aload_n 0, 1, 0, 0, 0, 0, []), (.iload_n 1, 1, 0, 1, 0, 0, []), (.invokevirtual 186, 3, 0, 2, 150, 11, []), (.ifCond .ne 15, 3, 0, 20, 0, 0, []), (.aload_n 0, 1, 0, 0, 0, 0, []), (.getfield 15, 3, 0, 11, 0, 0, []), (.iconst 0, 1, 0, 0, 0, 0, []), (.putfield 104, 3, 0, 7, 1, 0, []), (.ldc2_w 298, 3, 1, 1000000000000000, 0, 0, []), (.lreturn, 1, 0, 0, 0, 0, [])]
theorem k_X11_ask_0 : zk_ckb 11 false (zk_m 141) B_X11_ask_0 0 = true := by decide +kernel
def B_X11_ask_20 : List zk_I := [(.aload_n 0, 1, 0, 0, 0, 0, []), (.getfield 47, 3, 0, 11, 3, 0, []), (.invokevirtual 300, 3, 0, 1, 75, 6, []), (.istore_n 2, 1, 0, 2, 0, 0, []), (.aload_n 0, 1, 0, 0, 0, 0, []), (.invokevirtual 119, 3, 0, 1, 147, 11, []), (.iload_n 2, 1, 0, 2, 0, 0, []), (.ifCond .eq 22, 3, 0, 55, 0, 0, []), (.aload_n 0, 1, 0, 0, 0, 0, []), (.getfield 47, 3, 0, 11, 3, 0, []), (.aload_n 0, 1, 0, 0, 0, 0, []), (.getfield 90, 3, 0, 11, 10, 0, []), (.aload_n 0, 1, 0, 0, 0, 0, []), (.getfield 72, 3, 0, 11, 6, 0, []), (.iload_n 1, 1, 0, 1, 0, 0, []), (.invokevirtual 303, 3, 0, 4, 76, 6, []), (.goto 6, 3, 0, 58, 0, 0, [])]
theorem k_X11_ask_20 : zk_ckb 11 false (zk_m 141) B_X11_ask_20 20 = true := by decide +kernel
def B_X11_ask_55 : List zk_I := [(.ldc2_w 298, 3, 1, 1000000000000000, 0, 0, [])]
theorem k_X11_ask_55 : zk_ckb 11 false (zk_m 141) B_X11_ask_55 55 = true := by decide +kernel
def B_X11_ask_58 : List zk_I := [(.lreturn, 1, 0, 0, 0, 0, [])]
theorem k_X11_ask_58 : zk_ckb 11 false (zk_m 141) B_X11_ask_58 58 = true := by decide +kernel
/-- a QUESTION: its word, its steps -/
noncomputable def qs_rd (f : Nat → Nat) (T : Nat) : (Nat × Nat) ⊕ (Int × List Int) := if tkK f T 0 < 330 then .inl (1, tkS f T 0) else match (if tkK f T 0 ≤ 332 then (rt_lev f T 4 6).2 (tkE f T 0) else (rd_lev f T 4 6).2 (tkE f T 0)) with
  | .inl e => .inl e
  | .inr (p', cs) => if tkK f T p' = -1 then .inr (tkK f T 0, cs) else .inl (1, tkS f T p')
def qs_e (V : sp_V) (s : sp_S) (i : Nat) : Int → Int := fun c => if c = -14 then vWt V i else if c = -15 then sp_ck (sPt s) i 6 else if c = -18 then sp_pc (vHg V i) else if c = -19 then sp_lo (sLy s) i 6 else if c = -20 then i else if c = -21 then sGn s i else 0
def qs_pn (V : sp_V) (s : sp_S) (who : Nat) : Int → Int := fun x => if 0 ≤ x ∧ x < vNt V then sPt s who x.toNat else 0
def qs_val (V : sp_V) (s : sp_S) (who : Nat) (cs : List Int) (i : Nat) : Int := match sp_rn (qs_e V s i) (qs_pn V s who) cs [] with
  | some [v] => v
  | _ => 0
def qs_one (w a v : Int) (t : Nat) : Int := if w = 330 then (if v ≠ 0 ∧ a = -1 then (t : Int) else a) else if w = 331 then (if v ≠ 0 then (t : Int) else a) else if w = 332 then a + (if v ≠ 0 then 1 else 0) else if w = 333 then a + v else if w = 334 then (if t = 0 then v else max a v) else (if t = 0 then v else min a v)
def qs_ans (w : Int) (val : Nat → Int) : Nat → Int
  | 0 => if w ≤ 331 then -1 else 0
  | t + 1 => qs_one w (qs_ans w val t) (val t) t
/-- what may be asked -/
def qs_ok (w : Int) (cs : List Int) : Prop := 330 ≤ w ∧ w ≤ 335 ∧ sp_rok cs ∧ (∀ c ∈ cs, sp_ct c) ∧ (w ≤ 332 → sp_ps 64 True cs)
theorem sp_rn_v {e pn : Int → Int} (he : ∀ c, sp_v (e c)) (hp : ∀ x, sp_v (pn x)) : ∀ (cs stk r : List Int), (∀ c ∈ cs, -22 < c ∧ c ≤ 9999) → (∀ x ∈ stk, sp_v x) → sp_rn e pn cs stk = some r → ∀ x ∈ r, sp_v x
  | [], stk, r, _, hs, h => by
    simp only [sp_rn, Option.some.injEq] at h
    rw [← h]; exact hs
  | c :: cs, stk, r, hc, hs, h => by
    simp only [sp_rn] at h
    cases hq : sp_stp e pn c stk with
    | none => rw [hq] at h; cases h
    | some s1 =>
      rw [hq] at h
      refine sp_rn_v he hp cs s1 r (fun x hx => hc x (List.mem_cons_of_mem _ hx)) ?_ h
      have hc0 := hc c List.mem_cons_self
      unfold sp_stp at hq
      split at hq
      · split at hq
        · cases hq
          intro x hx
          rcases List.mem_cons.mp hx with rfl | hx
          · exact ⟨by omega, by omega⟩
          · exact hs x hx
        · cases hq
      split at hq
      · split at hq
        · cases hq
          intro x hx
          rcases List.mem_cons.mp hx with rfl | hx
          · exact he c
          · exact hs x hx
        · cases hq
      split at hq
      · split at hq
        · rename_i b a r9
          have ha := hs a (by simp)
          have hb := hs b (by simp)
          split at hq
          · split at hq
            · rename_i h01
              cases hq
              intro x hx
              rcases List.mem_cons.mp hx with rfl | hx
              · exact sp_join_v ha hb (fun _ => h01)
              · exact hs x (by simp [hx])
            · cases hq
          · rename_i h10
            cases hq
            intro x hx
            rcases List.mem_cons.mp hx with rfl | hx
            · exact sp_join_v ha hb (fun z => by omega)
            · exact hs x (by simp [hx])
        · cases hq
      · split at hq
        · rename_i a r9
          split at hq
          · cases hq
            intro x hx
            rcases List.mem_cons.mp hx with rfl | hx
            · exact hp a
            · exact hs x (by simp [hx])
          · split at hq
            · rename_i h01
              cases hq
              intro x hx
              rcases List.mem_cons.mp hx with rfl | hx
              · exact ⟨by omega, by omega⟩
              · exact hs x (by simp [hx])
            · cases hq
        · cases hq
theorem sp_rn_cg2 {e e' pn : Int → Int} : ∀ (cs stk : List Int), (∀ c ∈ cs, c ≤ -14 → e c = e' c) → sp_rn e pn cs stk = sp_rn e' pn cs stk
  | [], stk, _ => rfl
  | c :: cs, stk, h => by
    simp only [sp_rn]
    have h1 : sp_stp e pn c stk = sp_stp e' pn c stk := by
      unfold sp_stp
      by_cases hc : c ≤ -14
      · rw [h c List.mem_cons_self hc]
      · simp only [hc, if_false]
    rw [h1]
    cases sp_stp e' pn c stk with
    | none => rfl
    | some s1 => exact sp_rn_cg2 cs s1 (fun x hx => h x (List.mem_cons_of_mem _ hx))
theorem qs_e_v {V : sp_V} (hw : sp_vw V) {s : sp_S} (hly : ∀ p t, p < 6 → t < 10 → sLy s p t ≤ 999) (hgn : ∀ t, t < 10 → sGn s t ≤ 9999) {i : Nat} (hi : i < vNt V) (c : Int) : sp_v (qs_e V s i c) := by
  have h1 := hw.2.2.2.2.1 i hi
  have h0 := hw.2.2.1
  have h2 := sp_ck_le (sPt s) i 6
  have h3 := sp_pc_le (vHg V i)
  have h4 := sp_lo_le (ly := sLy s) (t := i) (c := 999) 6 (fun u hu => hly u i hu (by omega))
  have h5 := hgn i (by omega)
  unfold qs_e sp_v
  split
  · omega
  split
  · omega
  split
  · omega
  split
  · omega
  split
  · omega
  split
  · omega
  · omega
theorem qs_pn_v {V : sp_V} {s : sp_S} {who : Nat} (hp : ∀ t, t < vNt V → sPt s who t ≤ 99) (x : Int) : sp_v (qs_pn V s who x) := by
  unfold qs_pn sp_v
  split
  · rename_i h
    have := hp x.toNat (by omega)
    omega
  · omega
theorem qs_val_eq {V : sp_V} {s : sp_S} {who : Nat} {cs : List Int} (hr : sp_rok cs) {i : Nat} (he : ∀ c, sp_v (qs_e V s i c)) (hp : ∀ x, sp_v (qs_pn V s who x)) : sp_rn (qs_e V s i) (qs_pn V s who) cs [] = some [qs_val V s who cs i] ∧ sp_v (qs_val V s who cs i) := by
  obtain ⟨v, hv⟩ := hr.2.2 _ _ he hp
  have : qs_val V s who cs i = v := by unfold qs_val; rw [hv]
  rw [this]
  exact ⟨hv, sp_rn_v he hp cs [] [v] hr.1 (fun x hx => by cases hx) hv v (by simp)⟩
theorem qs_val_01 {V : sp_V} {s : sp_S} {who : Nat} {cs : List Int} (hr : sp_ps 64 True cs) {i : Nat} (he : ∀ c, sp_v (qs_e V s i c)) (hp : ∀ x, sp_v (qs_pn V s who x)) : qs_val V s who cs i = 0 ∨ qs_val V s who cs i = 1 := by
  obtain ⟨v, h1, h2, hv⟩ := hr _ _ he hp [] (by simp)
  have : qs_val V s who cs i = v := by unfold qs_val; rw [hv]
  rw [this]
  exact h2 trivial
theorem qs_rd_ok {f : Nat → Nat} {T : Nat} (hT : T ≤ 1600) (hf : ∀ i, i < T → f i ≤ 255) {w : Int} {cs : List Int} (h : qs_rd f T = .inr (w, cs)) : qs_ok w cs ∧ cs.length ≤ T := by
  unfold qs_rd at h
  have hrng := tk_rng f hT (Nat.zero_le _) hf
  split at h
  · cases h
  · rename_i h0
    have hpos := tkK_pos (f := f) (Nat.zero_le T) (by omega)
    by_cases h1 : tkK f T 0 ≤ 332
    · rw [if_pos h1] at h
      rcases hx : (rt_lev f T 4 6).2 (tkE f T 0) with e | ⟨p', c⟩
      · rw [hx] at h; cases h
      · rw [hx] at h
        simp only at h
        have h2 := rt_rok hT hf hpos.2.1 hx
        have h3 := (rt_lev_ok f T 4 6).2 _ _ _ hpos.2.1 hx
        split at h
        · cases h
          exact ⟨⟨by omega, by omega, h2.1, h2.2.1, fun _ => h2.2.2⟩, by omega⟩
        · cases h
    · rw [if_neg h1] at h
      rcases hx : (rd_lev f T 4 6).2 (tkE f T 0) with e | ⟨p', c⟩
      · rw [hx] at h; cases h
      · rw [hx] at h
        simp only at h
        have h2 := rd_rok hT hf hpos.2.1 hx
        have h3 := (rd_lev_ok f T 4 6).2 _ _ _ hpos.2.1 hx
        split at h
        · cases h
          exact ⟨⟨by omega, by omega, h2.1, fun c hc => Or.inl (h2.2 c hc), fun z => absurd z h1⟩, by omega⟩
        · cases h
section CQ1
variable {G : zk_G} {n : Nat} {M : zk_MI} {L : zk_ML} {P : zk_MP}
def zq_rd (M M' : zk_MI) (r : Option Value) : (Nat × Nat) ⊕ (Int × List Int) → Prop
  | .inl (k, pl) => r = some (.int 0) ∧ M' 7 6 = nI k ∧ M' 7 7 = nI pl ∧ ∀ q, q ≠ 7 → q ≠ 8 → q ≠ 9 → q ≠ 11 → M' q = M q
  | .inr (w, cs) => r = some (.int 1) ∧ M' 7 6 = 0 ∧ M' 7 7 = -1 ∧ M' 11 3 = iI w ∧ M' 8 3 = nI cs.length ∧ (∀ i, i < cs.length → M' 9 i = iI (cs.getD i 0)) ∧ ∀ q, q ≠ 7 → q ≠ 8 → q ≠ 9 → q ≠ 11 → M' q = M q
theorem ct_qread (hJ : zk_JS G) (hn : 154 ≤ n) (hP : zs_X P) {f : Nat → Nat} {T : Nat} (h : zt_c M f T) : zk_C G 44 75 [.ref 11] n M L P n (fun r M' L' P' => L' = L ∧ zPf P P' ∧ zq_rd M M' r (qs_rd f T)) := by
  have hT := h.2.1
  have hfb : ∀ i, i < T → f i ≤ 255 := fun i hi => (h.2.2 i hi).2
  have hrng := tk_rng f hT (Nat.zero_le T) hfb
  generalize hres : qs_rd f T = R
  unfold qs_rd at hres
  refine zk_meth (ow := 6) (kind := 1) (k := 0) (nL := 2) (ct := false) (l0 := [.ref 11, zk_un]) (by decide +kernel) (fun h => by cases h) (by decide +kernel) (by decide) (by decide) (fun h => absurd h (by decide)) (Nat.le_of_ble_eq_true rfl) rfl (by omega) (fun Z hZ => ?_)
  have ho := zo_X hn
  have hP2 := hP
  unfold zs_X at hP2
  refine hZ B_X6_read_0 _ _ _ _ _ _ _ k_X6_read_0 ?_
  simp only [B_X6_read_0, zk_ldi_s, zk_ldl_s, zk_lda_r, zk_lda_a, zk_lda_n, zk_iv_s, zr_nil, zr_cons, zp_0, zp_s, zt_0, zt_s, zt2_0, zt2_s, zw_iconst, zw_bipush, zw_sipush, zw_lconst, zw_ldcs, zw_ldc, zw_ldcw, zw_ldc2, zw_iload_n, zw_lload_n, zw_aload_n, zw_istore_n, zw_lstore_n, zw_astore_n, zw_astoreN_n, zw_iload, zw_lload, zw_aload, zw_istore, zw_lstore, zw_astore, zw_astoreN, zw_iinc, zw_iadd, zw_isub, zw_imul, zw_iand, zw_ior, zw_ixor, zw_ishl, zw_ishr, zw_iushr, zw_idiv, zw_irem, zw_ladd, zw_lsub, zw_lmul, zw_land, zw_ldiv, zw_lrem, zw_lcmp, zw_i2l, zw_l2i, zw_dup, zw_pop, zw_dup2i, zw_goto, zw_if_eq, zw_if_ne, zw_if_lt, zw_if_ge, zw_if_gt, zw_if_le, zw_ic_eq, zw_ic_ne, zw_ic_lt, zw_ic_ge, zw_ic_gt, zw_ic_le, zw_ifnn, zw_ifnnN, zw_tsw, zw_lsw, zw_getf_l, zw_getf_r, zw_getf_i, zw_getf_z, zw_putf_i, zw_putf_z, zw_putf_l, zw_putf_r, zw_iaload, zw_caload, zw_laload, zw_aaload, zw_iastore, zw_castore, zw_lastore, zw_aastore, zw_alen, zw_newa, zw_newq, zw_new, zw_oini, zw_invs, zw_invv, zw_copy, zw_invt, zw_iret, zw_lret, zw_ret, zc_r, zc_a, zk_rvs, zk_cat2, List.getElem?_cons_zero, List.getElem?_cons_succ, Bool.false_eq_true, and_false, false_and, and_true, true_and, reduceIte, Nat.reduceEqDiff, Nat.reduceLT, Nat.reduceAdd, List.cons_append, List.nil_append, Option.toList_some, Option.toList_none, zk_cat_i, zk_cat_r, zk_cat_n, zk_same, Option.some.injEq, Value.int.injEq, Value.long.injEq, eq_self, false_implies, true_implies, zf_1, zf_6, zf_8, ho, hP2, zl_X, zc_n10, zc_cl, zc_in, not_true_eq_false, not_false_eq_true]
  refine zk_callI (ct_begin hJ hn hP h) (by first | decide | omega) (Nat.le_refl _) (Nat.le_of_ble_eq_true rfl) (fun r M1 L9 P9 hpost => ?_)
  obtain ⟨hr9, hL9, hP9, k1, k2, k3⟩ := hpost
  subst hr9
  have hL8 := hL9.symm
  have hP8 := hP9.symm
  clear hL9 hP9
  subst hL8
  subst hP8
  have e0 : M1 7 1 = iI (tkK f T 0) := k1.2.1.1
  generalize hM2 : zk_up M1 11 3 (iI (tkK f T 0)) = M2
  have m1 : ∀ q, q ≠ 11 → M2 q = M1 q := fun q hq => by rw [← hM2, zk_up_row hq]
  have m2 : M2 11 3 = iI (tkK f T 0) := by rw [← hM2]; exact zk_up_at
  have at2 : zt_at M2 f T 0 := zt_at_cg k1 (m1 5 (by decide)) (m1 6 (by decide)) (m1 7 (by decide))
  have e1 : ((330 : Int32) ≤ iI (tkK f T 0)) = (330 ≤ tkK f T 0) := by rw [show (330 : Int32) = iI 330 from by decide, iI_le (by omega) (by omega) (by omega) (by omega)]
  simp only [zk_ldi_s, zk_ldl_s, zk_lda_r, zk_lda_a, zk_lda_n, zk_iv_s, zr_nil, zr_cons, zp_0, zp_s, zt_0, zt_s, zt2_0, zt2_s, zw_iconst, zw_bipush, zw_sipush, zw_lconst, zw_ldcs, zw_ldc, zw_ldcw, zw_ldc2, zw_iload_n, zw_lload_n, zw_aload_n, zw_istore_n, zw_lstore_n, zw_astore_n, zw_astoreN_n, zw_iload, zw_lload, zw_aload, zw_istore, zw_lstore, zw_astore, zw_astoreN, zw_iinc, zw_iadd, zw_isub, zw_imul, zw_iand, zw_ior, zw_ixor, zw_ishl, zw_ishr, zw_iushr, zw_idiv, zw_irem, zw_ladd, zw_lsub, zw_lmul, zw_land, zw_ldiv, zw_lrem, zw_lcmp, zw_i2l, zw_l2i, zw_dup, zw_pop, zw_dup2i, zw_goto, zw_if_eq, zw_if_ne, zw_if_lt, zw_if_ge, zw_if_gt, zw_if_le, zw_ic_eq, zw_ic_ne, zw_ic_lt, zw_ic_ge, zw_ic_gt, zw_ic_le, zw_ifnn, zw_ifnnN, zw_tsw, zw_lsw, zw_getf_l, zw_getf_r, zw_getf_i, zw_getf_z, zw_putf_i, zw_putf_z, zw_putf_l, zw_putf_r, zw_iaload, zw_caload, zw_laload, zw_aaload, zw_iastore, zw_castore, zw_lastore, zw_aastore, zw_alen, zw_newa, zw_newq, zw_new, zw_oini, zw_invs, zw_invv, zw_copy, zw_invt, zw_iret, zw_lret, zw_ret, zc_r, zc_a, zk_rvs, zk_cat2, List.getElem?_cons_zero, List.getElem?_cons_succ, Bool.false_eq_true, and_false, false_and, and_true, true_and, reduceIte, Nat.reduceEqDiff, Nat.reduceLT, Nat.reduceAdd, List.cons_append, List.nil_append, Option.toList_some, Option.toList_none, zk_cat_i, zk_cat_r, zk_cat_n, zk_same, Option.some.injEq, Value.int.injEq, Value.long.injEq, eq_self, false_implies, true_implies, zf_1, zf_6, zf_8, ho, hP2, zl_X, zc_n10, zc_cl, zc_in, not_true_eq_false, not_false_eq_true, e0, hM2, m2, e1]
  refine ⟨fun g => ?_, fun g => ?_⟩
  · rw [if_neg (by omega)] at hres
    have hpos := tkK_pos (f := f) (Nat.zero_le T) (by omega)
    refine hZ B_X6_read_37 _ _ _ _ _ _ _ k_X6_read_37 ?_
    simp only [B_X6_read_37, zk_ldi_s, zk_ldl_s, zk_lda_r, zk_lda_a, zk_lda_n, zk_iv_s, zr_nil, zr_cons, zp_0, zp_s, zt_0, zt_s, zt2_0, zt2_s, zw_iconst, zw_bipush, zw_sipush, zw_lconst, zw_ldcs, zw_ldc, zw_ldcw, zw_ldc2, zw_iload_n, zw_lload_n, zw_aload_n, zw_istore_n, zw_lstore_n, zw_astore_n, zw_astoreN_n, zw_iload, zw_lload, zw_aload, zw_istore, zw_lstore, zw_astore, zw_astoreN, zw_iinc, zw_iadd, zw_isub, zw_imul, zw_iand, zw_ior, zw_ixor, zw_ishl, zw_ishr, zw_iushr, zw_idiv, zw_irem, zw_ladd, zw_lsub, zw_lmul, zw_land, zw_ldiv, zw_lrem, zw_lcmp, zw_i2l, zw_l2i, zw_dup, zw_pop, zw_dup2i, zw_goto, zw_if_eq, zw_if_ne, zw_if_lt, zw_if_ge, zw_if_gt, zw_if_le, zw_ic_eq, zw_ic_ne, zw_ic_lt, zw_ic_ge, zw_ic_gt, zw_ic_le, zw_ifnn, zw_ifnnN, zw_tsw, zw_lsw, zw_getf_l, zw_getf_r, zw_getf_i, zw_getf_z, zw_putf_i, zw_putf_z, zw_putf_l, zw_putf_r, zw_iaload, zw_caload, zw_laload, zw_aaload, zw_iastore, zw_castore, zw_lastore, zw_aastore, zw_alen, zw_newa, zw_newq, zw_new, zw_oini, zw_invs, zw_invv, zw_copy, zw_invt, zw_iret, zw_lret, zw_ret, zc_r, zc_a, zk_rvs, zk_cat2, List.getElem?_cons_zero, List.getElem?_cons_succ, Bool.false_eq_true, and_false, false_and, and_true, true_and, reduceIte, Nat.reduceEqDiff, Nat.reduceLT, Nat.reduceAdd, List.cons_append, List.nil_append, Option.toList_some, Option.toList_none, zk_cat_i, zk_cat_r, zk_cat_n, zk_same, Option.some.injEq, Value.int.injEq, Value.long.injEq, eq_self, false_implies, true_implies, zf_1, zf_6, zf_8, ho, hP2, zl_X, zc_n10, zc_cl, zc_in, not_true_eq_false, not_false_eq_true]
    refine zk_callI (ct_nextA hJ hn hP at2) (by first | decide | omega) (Nat.le_refl _) (Nat.le_of_ble_eq_true rfl) (fun r M3 L9 P9 hpost => ?_)
    obtain ⟨hr9, hL9, hP9, j1, j2, j3⟩ := hpost
    subst hr9
    have hL8 := hL9.symm
    have hP8 := hP9.symm
    clear hL9 hP9
    subst hL8
    subst hP8
    simp only [zk_ldi_s, zk_ldl_s, zk_lda_r, zk_lda_a, zk_lda_n, zk_iv_s, zr_nil, zr_cons, zp_0, zp_s, zt_0, zt_s, zt2_0, zt2_s, zw_iconst, zw_bipush, zw_sipush, zw_lconst, zw_ldcs, zw_ldc, zw_ldcw, zw_ldc2, zw_iload_n, zw_lload_n, zw_aload_n, zw_istore_n, zw_lstore_n, zw_astore_n, zw_astoreN_n, zw_iload, zw_lload, zw_aload, zw_istore, zw_lstore, zw_astore, zw_astoreN, zw_iinc, zw_iadd, zw_isub, zw_imul, zw_iand, zw_ior, zw_ixor, zw_ishl, zw_ishr, zw_iushr, zw_idiv, zw_irem, zw_ladd, zw_lsub, zw_lmul, zw_land, zw_ldiv, zw_lrem, zw_lcmp, zw_i2l, zw_l2i, zw_dup, zw_pop, zw_dup2i, zw_goto, zw_if_eq, zw_if_ne, zw_if_lt, zw_if_ge, zw_if_gt, zw_if_le, zw_ic_eq, zw_ic_ne, zw_ic_lt, zw_ic_ge, zw_ic_gt, zw_ic_le, zw_ifnn, zw_ifnnN, zw_tsw, zw_lsw, zw_getf_l, zw_getf_r, zw_getf_i, zw_getf_z, zw_putf_i, zw_putf_z, zw_putf_l, zw_putf_r, zw_iaload, zw_caload, zw_laload, zw_aaload, zw_iastore, zw_castore, zw_lastore, zw_aastore, zw_alen, zw_newa, zw_newq, zw_new, zw_oini, zw_invs, zw_invv, zw_copy, zw_invt, zw_iret, zw_lret, zw_ret, zc_r, zc_a, zk_rvs, zk_cat2, List.getElem?_cons_zero, List.getElem?_cons_succ, Bool.false_eq_true, and_false, false_and, and_true, true_and, reduceIte, Nat.reduceEqDiff, Nat.reduceLT, Nat.reduceAdd, List.cons_append, List.nil_append, Option.toList_some, Option.toList_none, zk_cat_i, zk_cat_r, zk_cat_n, zk_same, Option.some.injEq, Value.int.injEq, Value.long.injEq, eq_self, false_implies, true_implies, zf_1, zf_6, zf_8, ho, hP2, zl_X, zc_n10, zc_cl, zc_in, not_true_eq_false, not_false_eq_true]
    refine zk_callS (ct_fbegin hn hP 9 0 4) (by first | decide | omega) (Nat.le_refl _) (Nat.le_of_ble_eq_true rfl) ?_
    generalize hP1 : zk_up P 8 2 (some 9) = P1
    have hPf : zPf P P1 := ⟨fun q hq => by rw [← hP1, zk_up_row hq], fun j hj => by rw [← hP1, zk_up_ne (by omega)]⟩
    have hX1 := zs_X_pf hPf hP
    have hP3 := hX1
    unfold zs_X at hP3
    generalize hM4 : zk_up (zk_up (zk_up M3 8 3 0) 8 4 4) 8 5 0 = M4
    have m0 : ∀ q, q ≠ 8 → M4 q = M3 q := fun q hq => by rw [← hM4, zk_up_row hq, zk_up_row hq, zk_up_row hq]
    have m3 : M4 8 3 = nI 0 := by rw [← hM4, zk_up_ne (by decide), zk_up_ne (by decide)]; exact zk_up_at
    have m4 : M4 8 4 = nI 4 := by rw [← hM4, zk_up_ne (by decide)]; exact zk_up_at
    have m5 : M4 8 5 = nI 0 := by rw [← hM4]; exact zk_up_at
    have m11 : M4 11 3 = iI (tkK f T 0) := by rw [m0 11 (by decide), j2 11 (by decide)]; exact m2
    have hS : zfS n P1 9 := ⟨by rw [← hP1]; exact zk_up_at, ⟨by omega, by rw [zl_9]⟩, zl_9, by decide, by decide, by decide, by decide⟩
    have hpre : zfP M4 f T 4 9 0 0 (tkE f T 0) := ⟨zt_at_cg j1 (m0 5 (by decide)) (m0 6 (by decide)) (m0 7 (by decide)), m3, m4, m5, Nat.zero_le _⟩
    have h77 : M4 7 7 = -1 := by rw [m0 7 (by decide), j3 7 (by decide), m1 7 (by decide)]; exact k2
    have fr4 : ∀ q, q ≠ 7 → q ≠ 8 → q ≠ 11 → M4 q = M q := fun q a b c => by rw [m0 q b, j2 q a, m1 q c, k3 q a]
    have e2 : ((332 : Int32) < iI (tkK f T 0)) = (332 < tkK f T 0) := by rw [show (332 : Int32) = iI 332 from by decide, iI_lt (by omega) (by omega) (by omega) (by omega)]
    /- behind the reading -/
    have at87 : ∀ (X : sp_R) (M5 : zk_MI) (r : Int32) (v1 : Value), zfR M4 M5 f T 9 0 0 (some (.int r)) X → (match X with
        | .inl e => .inl e
        | .inr (p', cs) => if tkK f T p' = -1 then .inr (tkK f T 0, cs) else .inl (1, tkS f T p')) = R → Z 87 [.ref 11, v1] [.int r] n M5 L P1 := by
      intro X M5 r v1 hX hq
      have no : ∀ (M6 : zk_MI) (k pl : Nat) (v1 : Value), R = .inl (k, pl) → M6 7 6 = nI k → M6 7 7 = nI pl → (∀ q, q ≠ 7 → q ≠ 8 → q ≠ 9 → q ≠ 11 → M6 q = M q) → Z 118 [.ref 11, v1] [] n M6 L P1 := fun M6 k pl v1 hR9 a b c => by
        refine hZ B_X6_read_118 _ _ _ _ _ _ _ k_X6_read_118 ?_
        simp only [B_X6_read_118, zk_ldi_s, zk_ldl_s, zk_lda_r, zk_lda_a, zk_lda_n, zk_iv_s, zr_nil, zr_cons, zp_0, zp_s, zt_0, zt_s, zt2_0, zt2_s, zw_iconst, zw_bipush, zw_sipush, zw_lconst, zw_ldcs, zw_ldc, zw_ldcw, zw_ldc2, zw_iload_n, zw_lload_n, zw_aload_n, zw_istore_n, zw_lstore_n, zw_astore_n, zw_astoreN_n, zw_iload, zw_lload, zw_aload, zw_istore, zw_lstore, zw_astore, zw_astoreN, zw_iinc, zw_iadd, zw_isub, zw_imul, zw_iand, zw_ior, zw_ixor, zw_ishl, zw_ishr, zw_iushr, zw_idiv, zw_irem, zw_ladd, zw_lsub, zw_lmul, zw_land, zw_ldiv, zw_lrem, zw_lcmp, zw_i2l, zw_l2i, zw_dup, zw_pop, zw_dup2i, zw_goto, zw_if_eq, zw_if_ne, zw_if_lt, zw_if_ge, zw_if_gt, zw_if_le, zw_ic_eq, zw_ic_ne, zw_ic_lt, zw_ic_ge, zw_ic_gt, zw_ic_le, zw_ifnn, zw_ifnnN, zw_tsw, zw_lsw, zw_getf_l, zw_getf_r, zw_getf_i, zw_getf_z, zw_putf_i, zw_putf_z, zw_putf_l, zw_putf_r, zw_iaload, zw_caload, zw_laload, zw_aaload, zw_iastore, zw_castore, zw_lastore, zw_aastore, zw_alen, zw_newa, zw_newq, zw_new, zw_oini, zw_invs, zw_invv, zw_copy, zw_invt, zw_iret, zw_lret, zw_ret, zc_r, zc_a, zk_rvs, zk_cat2, List.getElem?_cons_zero, List.getElem?_cons_succ, Bool.false_eq_true, and_false, false_and, and_true, true_and, reduceIte, Nat.reduceEqDiff, Nat.reduceLT, Nat.reduceAdd, List.cons_append, List.nil_append, Option.toList_some, Option.toList_none, zk_cat_i, zk_cat_r, zk_cat_n, zk_same, Option.some.injEq, Value.int.injEq, Value.long.injEq, eq_self, false_implies, true_implies, zf_1, zf_6, zf_8, ho, hP2, zl_X, zc_n10, zc_cl, zc_in, not_true_eq_false, not_false_eq_true]
        refine hZ B_X6_read_119 _ _ _ _ _ _ _ k_X6_read_119 ?_
        simp only [B_X6_read_119, zk_ldi_s, zk_ldl_s, zk_lda_r, zk_lda_a, zk_lda_n, zk_iv_s, zr_nil, zr_cons, zp_0, zp_s, zt_0, zt_s, zt2_0, zt2_s, zw_iconst, zw_bipush, zw_sipush, zw_lconst, zw_ldcs, zw_ldc, zw_ldcw, zw_ldc2, zw_iload_n, zw_lload_n, zw_aload_n, zw_istore_n, zw_lstore_n, zw_astore_n, zw_astoreN_n, zw_iload, zw_lload, zw_aload, zw_istore, zw_lstore, zw_astore, zw_astoreN, zw_iinc, zw_iadd, zw_isub, zw_imul, zw_iand, zw_ior, zw_ixor, zw_ishl, zw_ishr, zw_iushr, zw_idiv, zw_irem, zw_ladd, zw_lsub, zw_lmul, zw_land, zw_ldiv, zw_lrem, zw_lcmp, zw_i2l, zw_l2i, zw_dup, zw_pop, zw_dup2i, zw_goto, zw_if_eq, zw_if_ne, zw_if_lt, zw_if_ge, zw_if_gt, zw_if_le, zw_ic_eq, zw_ic_ne, zw_ic_lt, zw_ic_ge, zw_ic_gt, zw_ic_le, zw_ifnn, zw_ifnnN, zw_tsw, zw_lsw, zw_getf_l, zw_getf_r, zw_getf_i, zw_getf_z, zw_putf_i, zw_putf_z, zw_putf_l, zw_putf_r, zw_iaload, zw_caload, zw_laload, zw_aaload, zw_iastore, zw_castore, zw_lastore, zw_aastore, zw_alen, zw_newa, zw_newq, zw_new, zw_oini, zw_invs, zw_invv, zw_copy, zw_invt, zw_iret, zw_lret, zw_ret, zc_r, zc_a, zk_rvs, zk_cat2, List.getElem?_cons_zero, List.getElem?_cons_succ, Bool.false_eq_true, and_false, false_and, and_true, true_and, reduceIte, Nat.reduceEqDiff, Nat.reduceLT, Nat.reduceAdd, List.cons_append, List.nil_append, Option.toList_some, Option.toList_none, zk_cat_i, zk_cat_r, zk_cat_n, zk_same, Option.some.injEq, Value.int.injEq, Value.long.injEq, eq_self, false_implies, true_implies, zf_1, zf_6, zf_8, ho, hP2, zl_X, zc_n10, zc_cl, zc_in, not_true_eq_false, not_false_eq_true]
        rw [hR9]
        exact ⟨Or.inl rfl, hPf, rfl, a, b, c⟩
      rcases X with ⟨k, pl⟩ | ⟨p', cs⟩
      · obtain ⟨x0, x1, x2, x3⟩ := hX
        simp only [Option.some.injEq, Value.int.injEq] at x0
        subst x0
        refine hZ B_X6_read_87 _ _ _ _ _ _ _ k_X6_read_87 ?_
        simp only [B_X6_read_87, zk_ldi_s, zk_ldl_s, zk_lda_r, zk_lda_a, zk_lda_n, zk_iv_s, zr_nil, zr_cons, zp_0, zp_s, zt_0, zt_s, zt2_0, zt2_s, zw_iconst, zw_bipush, zw_sipush, zw_lconst, zw_ldcs, zw_ldc, zw_ldcw, zw_ldc2, zw_iload_n, zw_lload_n, zw_aload_n, zw_istore_n, zw_lstore_n, zw_astore_n, zw_astoreN_n, zw_iload, zw_lload, zw_aload, zw_istore, zw_lstore, zw_astore, zw_astoreN, zw_iinc, zw_iadd, zw_isub, zw_imul, zw_iand, zw_ior, zw_ixor, zw_ishl, zw_ishr, zw_iushr, zw_idiv, zw_irem, zw_ladd, zw_lsub, zw_lmul, zw_land, zw_ldiv, zw_lrem, zw_lcmp, zw_i2l, zw_l2i, zw_dup, zw_pop, zw_dup2i, zw_goto, zw_if_eq, zw_if_ne, zw_if_lt, zw_if_ge, zw_if_gt, zw_if_le, zw_ic_eq, zw_ic_ne, zw_ic_lt, zw_ic_ge, zw_ic_gt, zw_ic_le, zw_ifnn, zw_ifnnN, zw_tsw, zw_lsw, zw_getf_l, zw_getf_r, zw_getf_i, zw_getf_z, zw_putf_i, zw_putf_z, zw_putf_l, zw_putf_r, zw_iaload, zw_caload, zw_laload, zw_aaload, zw_iastore, zw_castore, zw_lastore, zw_aastore, zw_alen, zw_newa, zw_newq, zw_new, zw_oini, zw_invs, zw_invv, zw_copy, zw_invt, zw_iret, zw_lret, zw_ret, zc_r, zc_a, zk_rvs, zk_cat2, List.getElem?_cons_zero, List.getElem?_cons_succ, Bool.false_eq_true, and_false, false_and, and_true, true_and, reduceIte, Nat.reduceEqDiff, Nat.reduceLT, Nat.reduceAdd, List.cons_append, List.nil_append, Option.toList_some, Option.toList_none, zk_cat_i, zk_cat_r, zk_cat_n, zk_same, Option.some.injEq, Value.int.injEq, Value.long.injEq, eq_self, false_implies, true_implies, zf_1, zf_6, zf_8, ho, hP2, zl_X, zc_n10, zc_cl, zc_in, not_true_eq_false, not_false_eq_true]
        exact no M5 k pl _ hq.symm x1 x2 (fun q a b c d => by rw [x3.1 q a b c, fr4 q a b d])
      · obtain ⟨x0, x1, x2, x3, x4⟩ := hX
        simp only [Option.some.injEq, Value.int.injEq] at x0
        subst x0
        simp only at hq
        have eK : (M5 7 1 = (-1 : Int32)) = (tkK f T p' = -1) := by rw [zi_m1]; exact zt_kd x1 _ (by decide) (by decide)
        refine hZ B_X6_read_87 _ _ _ _ _ _ _ k_X6_read_87 ?_
        simp only [B_X6_read_87, zk_ldi_s, zk_ldl_s, zk_lda_r, zk_lda_a, zk_lda_n, zk_iv_s, zr_nil, zr_cons, zp_0, zp_s, zt_0, zt_s, zt2_0, zt2_s, zw_iconst, zw_bipush, zw_sipush, zw_lconst, zw_ldcs, zw_ldc, zw_ldcw, zw_ldc2, zw_iload_n, zw_lload_n, zw_aload_n, zw_istore_n, zw_lstore_n, zw_astore_n, zw_astoreN_n, zw_iload, zw_lload, zw_aload, zw_istore, zw_lstore, zw_astore, zw_astoreN, zw_iinc, zw_iadd, zw_isub, zw_imul, zw_iand, zw_ior, zw_ixor, zw_ishl, zw_ishr, zw_iushr, zw_idiv, zw_irem, zw_ladd, zw_lsub, zw_lmul, zw_land, zw_ldiv, zw_lrem, zw_lcmp, zw_i2l, zw_l2i, zw_dup, zw_pop, zw_dup2i, zw_goto, zw_if_eq, zw_if_ne, zw_if_lt, zw_if_ge, zw_if_gt, zw_if_le, zw_ic_eq, zw_ic_ne, zw_ic_lt, zw_ic_ge, zw_ic_gt, zw_ic_le, zw_ifnn, zw_ifnnN, zw_tsw, zw_lsw, zw_getf_l, zw_getf_r, zw_getf_i, zw_getf_z, zw_putf_i, zw_putf_z, zw_putf_l, zw_putf_r, zw_iaload, zw_caload, zw_laload, zw_aaload, zw_iastore, zw_castore, zw_lastore, zw_aastore, zw_alen, zw_newa, zw_newq, zw_new, zw_oini, zw_invs, zw_invv, zw_copy, zw_invt, zw_iret, zw_lret, zw_ret, zc_r, zc_a, zk_rvs, zk_cat2, List.getElem?_cons_zero, List.getElem?_cons_succ, Bool.false_eq_true, and_false, false_and, and_true, true_and, reduceIte, Nat.reduceEqDiff, Nat.reduceLT, Nat.reduceAdd, List.cons_append, List.nil_append, Option.toList_some, Option.toList_none, zk_cat_i, zk_cat_r, zk_cat_n, zk_same, Option.some.injEq, Value.int.injEq, Value.long.injEq, eq_self, false_implies, true_implies, zf_1, zf_6, zf_8, ho, hP2, zl_X, zc_n10, zc_cl, zc_in, not_true_eq_false, not_false_eq_true, hP3, (show ((1 : Int32) = 0) = False from by decide), eK]
        refine ⟨fun g2 => ?_, fun g2 => ?_⟩
        · rw [if_pos g2] at hq
          refine hZ B_X6_read_114 _ _ _ _ _ _ _ k_X6_read_114 ?_
          simp only [B_X6_read_114, zk_ldi_s, zk_ldl_s, zk_lda_r, zk_lda_a, zk_lda_n, zk_iv_s, zr_nil, zr_cons, zp_0, zp_s, zt_0, zt_s, zt2_0, zt2_s, zw_iconst, zw_bipush, zw_sipush, zw_lconst, zw_ldcs, zw_ldc, zw_ldcw, zw_ldc2, zw_iload_n, zw_lload_n, zw_aload_n, zw_istore_n, zw_lstore_n, zw_astore_n, zw_astoreN_n, zw_iload, zw_lload, zw_aload, zw_istore, zw_lstore, zw_astore, zw_astoreN, zw_iinc, zw_iadd, zw_isub, zw_imul, zw_iand, zw_ior, zw_ixor, zw_ishl, zw_ishr, zw_iushr, zw_idiv, zw_irem, zw_ladd, zw_lsub, zw_lmul, zw_land, zw_ldiv, zw_lrem, zw_lcmp, zw_i2l, zw_l2i, zw_dup, zw_pop, zw_dup2i, zw_goto, zw_if_eq, zw_if_ne, zw_if_lt, zw_if_ge, zw_if_gt, zw_if_le, zw_ic_eq, zw_ic_ne, zw_ic_lt, zw_ic_ge, zw_ic_gt, zw_ic_le, zw_ifnn, zw_ifnnN, zw_tsw, zw_lsw, zw_getf_l, zw_getf_r, zw_getf_i, zw_getf_z, zw_putf_i, zw_putf_z, zw_putf_l, zw_putf_r, zw_iaload, zw_caload, zw_laload, zw_aaload, zw_iastore, zw_castore, zw_lastore, zw_aastore, zw_alen, zw_newa, zw_newq, zw_new, zw_oini, zw_invs, zw_invv, zw_copy, zw_invt, zw_iret, zw_lret, zw_ret, zc_r, zc_a, zk_rvs, zk_cat2, List.getElem?_cons_zero, List.getElem?_cons_succ, Bool.false_eq_true, and_false, false_and, and_true, true_and, reduceIte, Nat.reduceEqDiff, Nat.reduceLT, Nat.reduceAdd, List.cons_append, List.nil_append, Option.toList_some, Option.toList_none, zk_cat_i, zk_cat_r, zk_cat_n, zk_same, Option.some.injEq, Value.int.injEq, Value.long.injEq, eq_self, false_implies, true_implies, zf_1, zf_6, zf_8, ho, hP2, zl_X, zc_n10, zc_cl, zc_in, not_true_eq_false, not_false_eq_true]
          refine hZ B_X6_read_119 _ _ _ _ _ _ _ k_X6_read_119 ?_
          simp only [B_X6_read_119, zk_ldi_s, zk_ldl_s, zk_lda_r, zk_lda_a, zk_lda_n, zk_iv_s, zr_nil, zr_cons, zp_0, zp_s, zt_0, zt_s, zt2_0, zt2_s, zw_iconst, zw_bipush, zw_sipush, zw_lconst, zw_ldcs, zw_ldc, zw_ldcw, zw_ldc2, zw_iload_n, zw_lload_n, zw_aload_n, zw_istore_n, zw_lstore_n, zw_astore_n, zw_astoreN_n, zw_iload, zw_lload, zw_aload, zw_istore, zw_lstore, zw_astore, zw_astoreN, zw_iinc, zw_iadd, zw_isub, zw_imul, zw_iand, zw_ior, zw_ixor, zw_ishl, zw_ishr, zw_iushr, zw_idiv, zw_irem, zw_ladd, zw_lsub, zw_lmul, zw_land, zw_ldiv, zw_lrem, zw_lcmp, zw_i2l, zw_l2i, zw_dup, zw_pop, zw_dup2i, zw_goto, zw_if_eq, zw_if_ne, zw_if_lt, zw_if_ge, zw_if_gt, zw_if_le, zw_ic_eq, zw_ic_ne, zw_ic_lt, zw_ic_ge, zw_ic_gt, zw_ic_le, zw_ifnn, zw_ifnnN, zw_tsw, zw_lsw, zw_getf_l, zw_getf_r, zw_getf_i, zw_getf_z, zw_putf_i, zw_putf_z, zw_putf_l, zw_putf_r, zw_iaload, zw_caload, zw_laload, zw_aaload, zw_iastore, zw_castore, zw_lastore, zw_aastore, zw_alen, zw_newa, zw_newq, zw_new, zw_oini, zw_invs, zw_invv, zw_copy, zw_invt, zw_iret, zw_lret, zw_ret, zc_r, zc_a, zk_rvs, zk_cat2, List.getElem?_cons_zero, List.getElem?_cons_succ, Bool.false_eq_true, and_false, false_and, and_true, true_and, reduceIte, Nat.reduceEqDiff, Nat.reduceLT, Nat.reduceAdd, List.cons_append, List.nil_append, Option.toList_some, Option.toList_none, zk_cat_i, zk_cat_r, zk_cat_n, zk_same, Option.some.injEq, Value.int.injEq, Value.long.injEq, eq_self, false_implies, true_implies, zf_1, zf_6, zf_8, ho, hP2, zl_X, zc_n10, zc_cl, zc_in, not_true_eq_false, not_false_eq_true]
          rw [← hq]
          refine ⟨Or.inr rfl, hPf, rfl, x1.2.2.2, by rw [x4]; exact h77, by rw [x2.1.1 11 (by decide) (by decide) (by decide)]; exact m11, by rw [x2.2.2, Nat.zero_add], fun i hi => ?_, fun q a b c d => by rw [x2.1.1 q a b c, fr4 q a b d]⟩
          have := x2.2.1 i hi
          rw [Nat.zero_add] at this
          exact this
        · rw [if_neg g2] at hq
          rw [show (1 : Int32) = nI 1 from rfl]
          refine zk_callS (ct_refuseHere hn hX1 x1 1) (by first | decide | omega) (Nat.le_refl _) (Nat.le_of_ble_eq_true rfl) ?_
          simp only [zk_ldi_s, zk_ldl_s, zk_lda_r, zk_lda_a, zk_lda_n, zk_iv_s, zr_nil, zr_cons, zp_0, zp_s, zt_0, zt_s, zt2_0, zt2_s, zw_iconst, zw_bipush, zw_sipush, zw_lconst, zw_ldcs, zw_ldc, zw_ldcw, zw_ldc2, zw_iload_n, zw_lload_n, zw_aload_n, zw_istore_n, zw_lstore_n, zw_astore_n, zw_astoreN_n, zw_iload, zw_lload, zw_aload, zw_istore, zw_lstore, zw_astore, zw_astoreN, zw_iinc, zw_iadd, zw_isub, zw_imul, zw_iand, zw_ior, zw_ixor, zw_ishl, zw_ishr, zw_iushr, zw_idiv, zw_irem, zw_ladd, zw_lsub, zw_lmul, zw_land, zw_ldiv, zw_lrem, zw_lcmp, zw_i2l, zw_l2i, zw_dup, zw_pop, zw_dup2i, zw_goto, zw_if_eq, zw_if_ne, zw_if_lt, zw_if_ge, zw_if_gt, zw_if_le, zw_ic_eq, zw_ic_ne, zw_ic_lt, zw_ic_ge, zw_ic_gt, zw_ic_le, zw_ifnn, zw_ifnnN, zw_tsw, zw_lsw, zw_getf_l, zw_getf_r, zw_getf_i, zw_getf_z, zw_putf_i, zw_putf_z, zw_putf_l, zw_putf_r, zw_iaload, zw_caload, zw_laload, zw_aaload, zw_iastore, zw_castore, zw_lastore, zw_aastore, zw_alen, zw_newa, zw_newq, zw_new, zw_oini, zw_invs, zw_invv, zw_copy, zw_invt, zw_iret, zw_lret, zw_ret, zc_r, zc_a, zk_rvs, zk_cat2, List.getElem?_cons_zero, List.getElem?_cons_succ, Bool.false_eq_true, and_false, false_and, and_true, true_and, reduceIte, Nat.reduceEqDiff, Nat.reduceLT, Nat.reduceAdd, List.cons_append, List.nil_append, Option.toList_some, Option.toList_none, zk_cat_i, zk_cat_r, zk_cat_n, zk_same, Option.some.injEq, Value.int.injEq, Value.long.injEq, eq_self, false_implies, true_implies, zf_1, zf_6, zf_8, ho, hP2, zl_X, zc_n10, zc_cl, zc_in, not_true_eq_false, not_false_eq_true]
          have hb := zt_bad_m (M := M5) (M1 := M5) (M2 := zk_up (zk_up M5 7 6 (nI 1)) 7 7 (nI (tkS f T p'))) (fun _ _ => rfl) rfl
          exact no _ 1 _ _ hq.symm hb.1 hb.2.1 (fun q a b c d => by rw [hb.2.2 q a, x2.1.1 q a b c, fr4 q a b d])
    have bool : ∀ (M' : zk_MI) (r : Option Value) (X : sp_R), zfR M4 M' f T 9 0 0 r X → r = some (.int 0) ∨ r = some (.int 1) := fun M' r X h => by
      rcases X with ⟨k, pl⟩ | ⟨p', cs⟩
      · exact Or.inl h.1
      · exact Or.inr h.1
    simp only [zk_ldi_s, zk_ldl_s, zk_lda_r, zk_lda_a, zk_lda_n, zk_iv_s, zr_nil, zr_cons, zp_0, zp_s, zt_0, zt_s, zt2_0, zt2_s, zw_iconst, zw_bipush, zw_sipush, zw_lconst, zw_ldcs, zw_ldc, zw_ldcw, zw_ldc2, zw_iload_n, zw_lload_n, zw_aload_n, zw_istore_n, zw_lstore_n, zw_astore_n, zw_astoreN_n, zw_iload, zw_lload, zw_aload, zw_istore, zw_lstore, zw_astore, zw_astoreN, zw_iinc, zw_iadd, zw_isub, zw_imul, zw_iand, zw_ior, zw_ixor, zw_ishl, zw_ishr, zw_iushr, zw_idiv, zw_irem, zw_ladd, zw_lsub, zw_lmul, zw_land, zw_ldiv, zw_lrem, zw_lcmp, zw_i2l, zw_l2i, zw_dup, zw_pop, zw_dup2i, zw_goto, zw_if_eq, zw_if_ne, zw_if_lt, zw_if_ge, zw_if_gt, zw_if_le, zw_ic_eq, zw_ic_ne, zw_ic_lt, zw_ic_ge, zw_ic_gt, zw_ic_le, zw_ifnn, zw_ifnnN, zw_tsw, zw_lsw, zw_getf_l, zw_getf_r, zw_getf_i, zw_getf_z, zw_putf_i, zw_putf_z, zw_putf_l, zw_putf_r, zw_iaload, zw_caload, zw_laload, zw_aaload, zw_iastore, zw_castore, zw_lastore, zw_aastore, zw_alen, zw_newa, zw_newq, zw_new, zw_oini, zw_invs, zw_invv, zw_copy, zw_invt, zw_iret, zw_lret, zw_ret, zc_r, zc_a, zk_rvs, zk_cat2, List.getElem?_cons_zero, List.getElem?_cons_succ, Bool.false_eq_true, and_false, false_and, and_true, true_and, reduceIte, Nat.reduceEqDiff, Nat.reduceLT, Nat.reduceAdd, List.cons_append, List.nil_append, Option.toList_some, Option.toList_none, zk_cat_i, zk_cat_r, zk_cat_n, zk_same, Option.some.injEq, Value.int.injEq, Value.long.injEq, eq_self, false_implies, true_implies, zf_1, zf_6, zf_8, ho, hP2, zl_X, zc_n10, zc_cl, zc_in, not_true_eq_false, not_false_eq_true, hP3, m11, e2]
    refine ⟨fun g2 => ?_, fun g2 => ?_⟩
    · rw [if_neg (by omega)] at hres
      refine hZ B_X6_read_80 _ _ _ _ _ _ _ k_X6_read_80 ?_
      simp only [B_X6_read_80, zk_ldi_s, zk_ldl_s, zk_lda_r, zk_lda_a, zk_lda_n, zk_iv_s, zr_nil, zr_cons, zp_0, zp_s, zt_0, zt_s, zt2_0, zt2_s, zw_iconst, zw_bipush, zw_sipush, zw_lconst, zw_ldcs, zw_ldc, zw_ldcw, zw_ldc2, zw_iload_n, zw_lload_n, zw_aload_n, zw_istore_n, zw_lstore_n, zw_astore_n, zw_astoreN_n, zw_iload, zw_lload, zw_aload, zw_istore, zw_lstore, zw_astore, zw_astoreN, zw_iinc, zw_iadd, zw_isub, zw_imul, zw_iand, zw_ior, zw_ixor, zw_ishl, zw_ishr, zw_iushr, zw_idiv, zw_irem, zw_ladd, zw_lsub, zw_lmul, zw_land, zw_ldiv, zw_lrem, zw_lcmp, zw_i2l, zw_l2i, zw_dup, zw_pop, zw_dup2i, zw_goto, zw_if_eq, zw_if_ne, zw_if_lt, zw_if_ge, zw_if_gt, zw_if_le, zw_ic_eq, zw_ic_ne, zw_ic_lt, zw_ic_ge, zw_ic_gt, zw_ic_le, zw_ifnn, zw_ifnnN, zw_tsw, zw_lsw, zw_getf_l, zw_getf_r, zw_getf_i, zw_getf_z, zw_putf_i, zw_putf_z, zw_putf_l, zw_putf_r, zw_iaload, zw_caload, zw_laload, zw_aaload, zw_iastore, zw_castore, zw_lastore, zw_aastore, zw_alen, zw_newa, zw_newq, zw_new, zw_oini, zw_invs, zw_invv, zw_copy, zw_invt, zw_iret, zw_lret, zw_ret, zc_r, zc_a, zk_rvs, zk_cat2, List.getElem?_cons_zero, List.getElem?_cons_succ, Bool.false_eq_true, and_false, false_and, and_true, true_and, reduceIte, Nat.reduceEqDiff, Nat.reduceLT, Nat.reduceAdd, List.cons_append, List.nil_append, Option.toList_some, Option.toList_none, zk_cat_i, zk_cat_r, zk_cat_n, zk_same, Option.some.injEq, Value.int.injEq, Value.long.injEq, eq_self, false_implies, true_implies, zf_1, zf_6, zf_8, ho, hP2, zl_X, zc_n10, zc_cl, zc_in, not_true_eq_false, not_false_eq_true, hP3]
      refine zk_callI ((ct_lev (G := G) (L := L) hJ hn hX1 (f := f) (T := T) (sort := 4) hS (by omega) 6 (Nat.le_refl _)).2 M4 0 (tkE f T 0) hpre) (by first | decide | omega) (Nat.le_refl _) (Nat.le_of_ble_eq_true rfl) (fun r M5 L9 P9 hpost => ?_)
      obtain ⟨hL9, hP9, x5⟩ := hpost
      have hL8 := hL9.symm
      have hP8 := hP9.symm
      clear hL9 hP9
      subst hL8
      subst hP8
      rcases bool _ _ _ x5 with rfl | rfl
      · simp only [zk_ldi_s, zk_ldl_s, zk_lda_r, zk_lda_a, zk_lda_n, zk_iv_s, zr_nil, zr_cons, zp_0, zp_s, zt_0, zt_s, zt2_0, zt2_s, zw_iconst, zw_bipush, zw_sipush, zw_lconst, zw_ldcs, zw_ldc, zw_ldcw, zw_ldc2, zw_iload_n, zw_lload_n, zw_aload_n, zw_istore_n, zw_lstore_n, zw_astore_n, zw_astoreN_n, zw_iload, zw_lload, zw_aload, zw_istore, zw_lstore, zw_astore, zw_astoreN, zw_iinc, zw_iadd, zw_isub, zw_imul, zw_iand, zw_ior, zw_ixor, zw_ishl, zw_ishr, zw_iushr, zw_idiv, zw_irem, zw_ladd, zw_lsub, zw_lmul, zw_land, zw_ldiv, zw_lrem, zw_lcmp, zw_i2l, zw_l2i, zw_dup, zw_pop, zw_dup2i, zw_goto, zw_if_eq, zw_if_ne, zw_if_lt, zw_if_ge, zw_if_gt, zw_if_le, zw_ic_eq, zw_ic_ne, zw_ic_lt, zw_ic_ge, zw_ic_gt, zw_ic_le, zw_ifnn, zw_ifnnN, zw_tsw, zw_lsw, zw_getf_l, zw_getf_r, zw_getf_i, zw_getf_z, zw_putf_i, zw_putf_z, zw_putf_l, zw_putf_r, zw_iaload, zw_caload, zw_laload, zw_aaload, zw_iastore, zw_castore, zw_lastore, zw_aastore, zw_alen, zw_newa, zw_newq, zw_new, zw_oini, zw_invs, zw_invv, zw_copy, zw_invt, zw_iret, zw_lret, zw_ret, zc_r, zc_a, zk_rvs, zk_cat2, List.getElem?_cons_zero, List.getElem?_cons_succ, Bool.false_eq_true, and_false, false_and, and_true, true_and, reduceIte, Nat.reduceEqDiff, Nat.reduceLT, Nat.reduceAdd, List.cons_append, List.nil_append, Option.toList_some, Option.toList_none, zk_cat_i, zk_cat_r, zk_cat_n, zk_same, Option.some.injEq, Value.int.injEq, Value.long.injEq, eq_self, false_implies, true_implies, zf_1, zf_6, zf_8, ho, hP2, zl_X, zc_n10, zc_cl, zc_in, not_true_eq_false, not_false_eq_true]
        exact at87 _ _ _ _ x5 hres
      · simp only [zk_ldi_s, zk_ldl_s, zk_lda_r, zk_lda_a, zk_lda_n, zk_iv_s, zr_nil, zr_cons, zp_0, zp_s, zt_0, zt_s, zt2_0, zt2_s, zw_iconst, zw_bipush, zw_sipush, zw_lconst, zw_ldcs, zw_ldc, zw_ldcw, zw_ldc2, zw_iload_n, zw_lload_n, zw_aload_n, zw_istore_n, zw_lstore_n, zw_astore_n, zw_astoreN_n, zw_iload, zw_lload, zw_aload, zw_istore, zw_lstore, zw_astore, zw_astoreN, zw_iinc, zw_iadd, zw_isub, zw_imul, zw_iand, zw_ior, zw_ixor, zw_ishl, zw_ishr, zw_iushr, zw_idiv, zw_irem, zw_ladd, zw_lsub, zw_lmul, zw_land, zw_ldiv, zw_lrem, zw_lcmp, zw_i2l, zw_l2i, zw_dup, zw_pop, zw_dup2i, zw_goto, zw_if_eq, zw_if_ne, zw_if_lt, zw_if_ge, zw_if_gt, zw_if_le, zw_ic_eq, zw_ic_ne, zw_ic_lt, zw_ic_ge, zw_ic_gt, zw_ic_le, zw_ifnn, zw_ifnnN, zw_tsw, zw_lsw, zw_getf_l, zw_getf_r, zw_getf_i, zw_getf_z, zw_putf_i, zw_putf_z, zw_putf_l, zw_putf_r, zw_iaload, zw_caload, zw_laload, zw_aaload, zw_iastore, zw_castore, zw_lastore, zw_aastore, zw_alen, zw_newa, zw_newq, zw_new, zw_oini, zw_invs, zw_invv, zw_copy, zw_invt, zw_iret, zw_lret, zw_ret, zc_r, zc_a, zk_rvs, zk_cat2, List.getElem?_cons_zero, List.getElem?_cons_succ, Bool.false_eq_true, and_false, false_and, and_true, true_and, reduceIte, Nat.reduceEqDiff, Nat.reduceLT, Nat.reduceAdd, List.cons_append, List.nil_append, Option.toList_some, Option.toList_none, zk_cat_i, zk_cat_r, zk_cat_n, zk_same, Option.some.injEq, Value.int.injEq, Value.long.injEq, eq_self, false_implies, true_implies, zf_1, zf_6, zf_8, ho, hP2, zl_X, zc_n10, zc_cl, zc_in, not_true_eq_false, not_false_eq_true]
        exact at87 _ _ _ _ x5 hres
    · rw [if_pos (by omega)] at hres
      refine zk_callI ((ct_tlev (G := G) (L := L) hJ hn hX1 (f := f) (T := T) (sort := 4) hS (by omega) 6 (Nat.le_refl _)).2 M4 0 (tkE f T 0) hpre) (by first | decide | omega) (Nat.le_refl _) (Nat.le_of_ble_eq_true rfl) (fun r M5 L9 P9 hpost => ?_)
      obtain ⟨hL9, hP9, x5⟩ := hpost
      have hL8 := hL9.symm
      have hP8 := hP9.symm
      clear hL9 hP9
      subst hL8
      subst hP8
      rcases bool _ _ _ x5 with rfl | rfl
      · simp only [zk_ldi_s, zk_ldl_s, zk_lda_r, zk_lda_a, zk_lda_n, zk_iv_s, zr_nil, zr_cons, zp_0, zp_s, zt_0, zt_s, zt2_0, zt2_s, zw_iconst, zw_bipush, zw_sipush, zw_lconst, zw_ldcs, zw_ldc, zw_ldcw, zw_ldc2, zw_iload_n, zw_lload_n, zw_aload_n, zw_istore_n, zw_lstore_n, zw_astore_n, zw_astoreN_n, zw_iload, zw_lload, zw_aload, zw_istore, zw_lstore, zw_astore, zw_astoreN, zw_iinc, zw_iadd, zw_isub, zw_imul, zw_iand, zw_ior, zw_ixor, zw_ishl, zw_ishr, zw_iushr, zw_idiv, zw_irem, zw_ladd, zw_lsub, zw_lmul, zw_land, zw_ldiv, zw_lrem, zw_lcmp, zw_i2l, zw_l2i, zw_dup, zw_pop, zw_dup2i, zw_goto, zw_if_eq, zw_if_ne, zw_if_lt, zw_if_ge, zw_if_gt, zw_if_le, zw_ic_eq, zw_ic_ne, zw_ic_lt, zw_ic_ge, zw_ic_gt, zw_ic_le, zw_ifnn, zw_ifnnN, zw_tsw, zw_lsw, zw_getf_l, zw_getf_r, zw_getf_i, zw_getf_z, zw_putf_i, zw_putf_z, zw_putf_l, zw_putf_r, zw_iaload, zw_caload, zw_laload, zw_aaload, zw_iastore, zw_castore, zw_lastore, zw_aastore, zw_alen, zw_newa, zw_newq, zw_new, zw_oini, zw_invs, zw_invv, zw_copy, zw_invt, zw_iret, zw_lret, zw_ret, zc_r, zc_a, zk_rvs, zk_cat2, List.getElem?_cons_zero, List.getElem?_cons_succ, Bool.false_eq_true, and_false, false_and, and_true, true_and, reduceIte, Nat.reduceEqDiff, Nat.reduceLT, Nat.reduceAdd, List.cons_append, List.nil_append, Option.toList_some, Option.toList_none, zk_cat_i, zk_cat_r, zk_cat_n, zk_same, Option.some.injEq, Value.int.injEq, Value.long.injEq, eq_self, false_implies, true_implies, zf_1, zf_6, zf_8, ho, hP2, zl_X, zc_n10, zc_cl, zc_in, not_true_eq_false, not_false_eq_true]
        exact at87 _ _ _ _ x5 hres
      · simp only [zk_ldi_s, zk_ldl_s, zk_lda_r, zk_lda_a, zk_lda_n, zk_iv_s, zr_nil, zr_cons, zp_0, zp_s, zt_0, zt_s, zt2_0, zt2_s, zw_iconst, zw_bipush, zw_sipush, zw_lconst, zw_ldcs, zw_ldc, zw_ldcw, zw_ldc2, zw_iload_n, zw_lload_n, zw_aload_n, zw_istore_n, zw_lstore_n, zw_astore_n, zw_astoreN_n, zw_iload, zw_lload, zw_aload, zw_istore, zw_lstore, zw_astore, zw_astoreN, zw_iinc, zw_iadd, zw_isub, zw_imul, zw_iand, zw_ior, zw_ixor, zw_ishl, zw_ishr, zw_iushr, zw_idiv, zw_irem, zw_ladd, zw_lsub, zw_lmul, zw_land, zw_ldiv, zw_lrem, zw_lcmp, zw_i2l, zw_l2i, zw_dup, zw_pop, zw_dup2i, zw_goto, zw_if_eq, zw_if_ne, zw_if_lt, zw_if_ge, zw_if_gt, zw_if_le, zw_ic_eq, zw_ic_ne, zw_ic_lt, zw_ic_ge, zw_ic_gt, zw_ic_le, zw_ifnn, zw_ifnnN, zw_tsw, zw_lsw, zw_getf_l, zw_getf_r, zw_getf_i, zw_getf_z, zw_putf_i, zw_putf_z, zw_putf_l, zw_putf_r, zw_iaload, zw_caload, zw_laload, zw_aaload, zw_iastore, zw_castore, zw_lastore, zw_aastore, zw_alen, zw_newa, zw_newq, zw_new, zw_oini, zw_invs, zw_invv, zw_copy, zw_invt, zw_iret, zw_lret, zw_ret, zc_r, zc_a, zk_rvs, zk_cat2, List.getElem?_cons_zero, List.getElem?_cons_succ, Bool.false_eq_true, and_false, false_and, and_true, true_and, reduceIte, Nat.reduceEqDiff, Nat.reduceLT, Nat.reduceAdd, List.cons_append, List.nil_append, Option.toList_some, Option.toList_none, zk_cat_i, zk_cat_r, zk_cat_n, zk_same, Option.some.injEq, Value.int.injEq, Value.long.injEq, eq_self, false_implies, true_implies, zf_1, zf_6, zf_8, ho, hP2, zl_X, zc_n10, zc_cl, zc_in, not_true_eq_false, not_false_eq_true]
        exact at87 _ _ _ _ x5 hres
  · rw [if_pos (by omega)] at hres
    rw [show (1 : Int32) = nI 1 from rfl]
    refine zk_callS (ct_refuseHere hn hP at2 1) (by first | decide | omega) (Nat.le_refl _) (Nat.le_of_ble_eq_true rfl) ?_
    simp only [zk_ldi_s, zk_ldl_s, zk_lda_r, zk_lda_a, zk_lda_n, zk_iv_s, zr_nil, zr_cons, zp_0, zp_s, zt_0, zt_s, zt2_0, zt2_s, zw_iconst, zw_bipush, zw_sipush, zw_lconst, zw_ldcs, zw_ldc, zw_ldcw, zw_ldc2, zw_iload_n, zw_lload_n, zw_aload_n, zw_istore_n, zw_lstore_n, zw_astore_n, zw_astoreN_n, zw_iload, zw_lload, zw_aload, zw_istore, zw_lstore, zw_astore, zw_astoreN, zw_iinc, zw_iadd, zw_isub, zw_imul, zw_iand, zw_ior, zw_ixor, zw_ishl, zw_ishr, zw_iushr, zw_idiv, zw_irem, zw_ladd, zw_lsub, zw_lmul, zw_land, zw_ldiv, zw_lrem, zw_lcmp, zw_i2l, zw_l2i, zw_dup, zw_pop, zw_dup2i, zw_goto, zw_if_eq, zw_if_ne, zw_if_lt, zw_if_ge, zw_if_gt, zw_if_le, zw_ic_eq, zw_ic_ne, zw_ic_lt, zw_ic_ge, zw_ic_gt, zw_ic_le, zw_ifnn, zw_ifnnN, zw_tsw, zw_lsw, zw_getf_l, zw_getf_r, zw_getf_i, zw_getf_z, zw_putf_i, zw_putf_z, zw_putf_l, zw_putf_r, zw_iaload, zw_caload, zw_laload, zw_aaload, zw_iastore, zw_castore, zw_lastore, zw_aastore, zw_alen, zw_newa, zw_newq, zw_new, zw_oini, zw_invs, zw_invv, zw_copy, zw_invt, zw_iret, zw_lret, zw_ret, zc_r, zc_a, zk_rvs, zk_cat2, List.getElem?_cons_zero, List.getElem?_cons_succ, Bool.false_eq_true, and_false, false_and, and_true, true_and, reduceIte, Nat.reduceEqDiff, Nat.reduceLT, Nat.reduceAdd, List.cons_append, List.nil_append, Option.toList_some, Option.toList_none, zk_cat_i, zk_cat_r, zk_cat_n, zk_same, Option.some.injEq, Value.int.injEq, Value.long.injEq, eq_self, false_implies, true_implies, zf_1, zf_6, zf_8, ho, hP2, zl_X, zc_n10, zc_cl, zc_in, not_true_eq_false, not_false_eq_true]
    have hb := zt_bad_m (M := M2) (M1 := M2) (M2 := zk_up (zk_up M2 7 6 (nI 1)) 7 7 (nI (tkS f T 0))) (fun _ _ => rfl) rfl
    rw [← hres]
    exact ⟨Or.inl rfl, zPf_rf P, rfl, hb.1, hb.2.1, fun q a b c d => by rw [hb.2.2 q a, m1 q d, k3 q a]⟩
theorem ct_learn (hn : 154 ≤ n) (hP : zs_X P) {b : Nat} (hb : zm_ok n P b) (hb4 : 4 < b) {pt : Nat → Nat → Nat} (hpt : zm_pt M b pt) (who k : Nat) (hw : who < 6) : zk_C G 1 38 [.ref 1, .ref b, .int (nI who), .int (nI k)] n M L P n (fun r M' L' P' => r = none ∧ L' = L ∧ P' = P ∧ (∀ t, t < 10 → M' 4 t = nI (pt who t)) ∧ M' 1 3 = nI k ∧ ∀ q, q ≠ 1 → q ≠ 4 → M' q = M q) := by
  refine zk_meth (ow := 2) (kind := 1) (k := 3) (nL := 5) (ct := false) (l0 := [.ref 1, .ref b, .int (nI who), .int (nI k), zk_un]) (by decide +kernel) (fun h => by cases h) (by decide +kernel) (by decide) (by decide) (fun h => absurd h (by decide)) (Nat.le_of_ble_eq_true rfl) rfl (by omega) (fun Z hZ => ?_)
  have ho := zo_X hn
  have hP2 := hP
  unfold zs_X at hP2
  have loop : ∀ (j i : Nat) (M1 : zk_MI), i + j = 10 → (∀ t, t < i → M1 4 t = nI (pt who t)) → (∀ q, q ≠ 4 → M1 q = M q) → Z 3 [.ref 1, .ref b, .int (nI who), .int (nI k), .int (nI i)] [] n M1 L P := by
    intro j
    induction j with
    | zero =>
      intro i M1 hi k1 k2
      obtain rfl : i = 10 := by omega
      refine hZ B_X2_learn_3 _ _ _ _ _ _ _ k_X2_learn_3 ?_
      simp only [B_X2_learn_3, zk_ldi_s, zk_ldl_s, zk_lda_r, zk_lda_a, zk_lda_n, zk_iv_s, zr_nil, zr_cons, zp_0, zp_s, zt_0, zt_s, zt2_0, zt2_s, zw_iconst, zw_bipush, zw_sipush, zw_lconst, zw_ldcs, zw_ldc, zw_ldcw, zw_ldc2, zw_iload_n, zw_lload_n, zw_aload_n, zw_istore_n, zw_lstore_n, zw_astore_n, zw_astoreN_n, zw_iload, zw_lload, zw_aload, zw_istore, zw_lstore, zw_astore, zw_astoreN, zw_iinc, zw_iadd, zw_isub, zw_imul, zw_iand, zw_ior, zw_ixor, zw_ishl, zw_ishr, zw_iushr, zw_idiv, zw_irem, zw_ladd, zw_lsub, zw_lmul, zw_land, zw_ldiv, zw_lrem, zw_lcmp, zw_i2l, zw_l2i, zw_dup, zw_pop, zw_dup2i, zw_goto, zw_if_eq, zw_if_ne, zw_if_lt, zw_if_ge, zw_if_gt, zw_if_le, zw_ic_eq, zw_ic_ne, zw_ic_lt, zw_ic_ge, zw_ic_gt, zw_ic_le, zw_ifnn, zw_ifnnN, zw_tsw, zw_lsw, zw_getf_l, zw_getf_r, zw_getf_i, zw_getf_z, zw_putf_i, zw_putf_z, zw_putf_l, zw_putf_r, zw_iaload, zw_caload, zw_laload, zw_aaload, zw_iastore, zw_castore, zw_lastore, zw_aastore, zw_alen, zw_newa, zw_newq, zw_new, zw_oini, zw_invs, zw_invv, zw_copy, zw_invt, zw_iret, zw_lret, zw_ret, zc_r, zc_a, zk_rvs, zk_cat2, List.getElem?_cons_zero, List.getElem?_cons_succ, Bool.false_eq_true, and_false, false_and, and_true, true_and, reduceIte, Nat.reduceEqDiff, Nat.reduceLT, Nat.reduceAdd, List.cons_append, List.nil_append, Option.toList_some, Option.toList_none, zk_cat_i, zk_cat_r, zk_cat_n, zk_same, Option.some.injEq, Value.int.injEq, Value.long.injEq, eq_self, false_implies, true_implies, zf_2, ho, hP2, zl_X, zc_n10, zc_cl, zc_in, not_true_eq_false, not_false_eq_true, (show ((10 : Int32) ≤ nI 10) = True from by decide)]
      refine hZ B_X2_learn_30 _ _ _ _ _ _ _ k_X2_learn_30 ?_
      simp only [B_X2_learn_30, zk_ldi_s, zk_ldl_s, zk_lda_r, zk_lda_a, zk_lda_n, zk_iv_s, zr_nil, zr_cons, zp_0, zp_s, zt_0, zt_s, zt2_0, zt2_s, zw_iconst, zw_bipush, zw_sipush, zw_lconst, zw_ldcs, zw_ldc, zw_ldcw, zw_ldc2, zw_iload_n, zw_lload_n, zw_aload_n, zw_istore_n, zw_lstore_n, zw_astore_n, zw_astoreN_n, zw_iload, zw_lload, zw_aload, zw_istore, zw_lstore, zw_astore, zw_astoreN, zw_iinc, zw_iadd, zw_isub, zw_imul, zw_iand, zw_ior, zw_ixor, zw_ishl, zw_ishr, zw_iushr, zw_idiv, zw_irem, zw_ladd, zw_lsub, zw_lmul, zw_land, zw_ldiv, zw_lrem, zw_lcmp, zw_i2l, zw_l2i, zw_dup, zw_pop, zw_dup2i, zw_goto, zw_if_eq, zw_if_ne, zw_if_lt, zw_if_ge, zw_if_gt, zw_if_le, zw_ic_eq, zw_ic_ne, zw_ic_lt, zw_ic_ge, zw_ic_gt, zw_ic_le, zw_ifnn, zw_ifnnN, zw_tsw, zw_lsw, zw_getf_l, zw_getf_r, zw_getf_i, zw_getf_z, zw_putf_i, zw_putf_z, zw_putf_l, zw_putf_r, zw_iaload, zw_caload, zw_laload, zw_aaload, zw_iastore, zw_castore, zw_lastore, zw_aastore, zw_alen, zw_newa, zw_newq, zw_new, zw_oini, zw_invs, zw_invv, zw_copy, zw_invt, zw_iret, zw_lret, zw_ret, zc_r, zc_a, zk_rvs, zk_cat2, List.getElem?_cons_zero, List.getElem?_cons_succ, Bool.false_eq_true, and_false, false_and, and_true, true_and, reduceIte, Nat.reduceEqDiff, Nat.reduceLT, Nat.reduceAdd, List.cons_append, List.nil_append, Option.toList_some, Option.toList_none, zk_cat_i, zk_cat_r, zk_cat_n, zk_same, Option.some.injEq, Value.int.injEq, Value.long.injEq, eq_self, false_implies, true_implies, zf_2, ho, hP2, zl_X, zc_n10, zc_cl, zc_in, not_true_eq_false, not_false_eq_true]
      exact ⟨fun t ht => by rw [zk_up_row (by decide)]; exact k1 t ht, zk_up_at, fun q a c => by rw [zk_up_row a, k2 q c]⟩
    | succ j ih =>
      intro i M1 hi k1 k2
      have e1 : ((10 : Int32) ≤ nI i) = False := by rw [fa_lit 10, zn_le (by omega) (by omega)]; simp; omega
      have hpt1 : zm_pt M1 b pt := fun p t hp ht => by rw [k2 _ (by omega)]; exact hpt p t hp ht
      refine hZ B_X2_learn_3 _ _ _ _ _ _ _ k_X2_learn_3 ?_
      simp only [B_X2_learn_3, zk_ldi_s, zk_ldl_s, zk_lda_r, zk_lda_a, zk_lda_n, zk_iv_s, zr_nil, zr_cons, zp_0, zp_s, zt_0, zt_s, zt2_0, zt2_s, zw_iconst, zw_bipush, zw_sipush, zw_lconst, zw_ldcs, zw_ldc, zw_ldcw, zw_ldc2, zw_iload_n, zw_lload_n, zw_aload_n, zw_istore_n, zw_lstore_n, zw_astore_n, zw_astoreN_n, zw_iload, zw_lload, zw_aload, zw_istore, zw_lstore, zw_astore, zw_astoreN, zw_iinc, zw_iadd, zw_isub, zw_imul, zw_iand, zw_ior, zw_ixor, zw_ishl, zw_ishr, zw_iushr, zw_idiv, zw_irem, zw_ladd, zw_lsub, zw_lmul, zw_land, zw_ldiv, zw_lrem, zw_lcmp, zw_i2l, zw_l2i, zw_dup, zw_pop, zw_dup2i, zw_goto, zw_if_eq, zw_if_ne, zw_if_lt, zw_if_ge, zw_if_gt, zw_if_le, zw_ic_eq, zw_ic_ne, zw_ic_lt, zw_ic_ge, zw_ic_gt, zw_ic_le, zw_ifnn, zw_ifnnN, zw_tsw, zw_lsw, zw_getf_l, zw_getf_r, zw_getf_i, zw_getf_z, zw_putf_i, zw_putf_z, zw_putf_l, zw_putf_r, zw_iaload, zw_caload, zw_laload, zw_aaload, zw_iastore, zw_castore, zw_lastore, zw_aastore, zw_alen, zw_newa, zw_newq, zw_new, zw_oini, zw_invs, zw_invv, zw_copy, zw_invt, zw_iret, zw_lret, zw_ret, zc_r, zc_a, zk_rvs, zk_cat2, List.getElem?_cons_zero, List.getElem?_cons_succ, Bool.false_eq_true, and_false, false_and, and_true, true_and, reduceIte, Nat.reduceEqDiff, Nat.reduceLT, Nat.reduceAdd, List.cons_append, List.nil_append, Option.toList_some, Option.toList_none, zk_cat_i, zk_cat_r, zk_cat_n, zk_same, Option.some.injEq, Value.int.injEq, Value.long.injEq, eq_self, false_implies, true_implies, zf_2, ho, hP2, zl_X, zc_n10, zc_cl, zc_in, not_true_eq_false, not_false_eq_true, e1, hb.1]
      refine zk_callS (ct_pointsOf hb hpt1 who i hw (by omega)) (by first | decide | omega) (Nat.le_refl _) (Nat.le_of_ble_eq_true rfl) ?_
      simp only [zk_ldi_s, zk_ldl_s, zk_lda_r, zk_lda_a, zk_lda_n, zk_iv_s, zr_nil, zr_cons, zp_0, zp_s, zt_0, zt_s, zt2_0, zt2_s, zw_iconst, zw_bipush, zw_sipush, zw_lconst, zw_ldcs, zw_ldc, zw_ldcw, zw_ldc2, zw_iload_n, zw_lload_n, zw_aload_n, zw_istore_n, zw_lstore_n, zw_astore_n, zw_astoreN_n, zw_iload, zw_lload, zw_aload, zw_istore, zw_lstore, zw_astore, zw_astoreN, zw_iinc, zw_iadd, zw_isub, zw_imul, zw_iand, zw_ior, zw_ixor, zw_ishl, zw_ishr, zw_iushr, zw_idiv, zw_irem, zw_ladd, zw_lsub, zw_lmul, zw_land, zw_ldiv, zw_lrem, zw_lcmp, zw_i2l, zw_l2i, zw_dup, zw_pop, zw_dup2i, zw_goto, zw_if_eq, zw_if_ne, zw_if_lt, zw_if_ge, zw_if_gt, zw_if_le, zw_ic_eq, zw_ic_ne, zw_ic_lt, zw_ic_ge, zw_ic_gt, zw_ic_le, zw_ifnn, zw_ifnnN, zw_tsw, zw_lsw, zw_getf_l, zw_getf_r, zw_getf_i, zw_getf_z, zw_putf_i, zw_putf_z, zw_putf_l, zw_putf_r, zw_iaload, zw_caload, zw_laload, zw_aaload, zw_iastore, zw_castore, zw_lastore, zw_aastore, zw_alen, zw_newa, zw_newq, zw_new, zw_oini, zw_invs, zw_invv, zw_copy, zw_invt, zw_iret, zw_lret, zw_ret, zc_r, zc_a, zk_rvs, zk_cat2, List.getElem?_cons_zero, List.getElem?_cons_succ, Bool.false_eq_true, and_false, false_and, and_true, true_and, reduceIte, Nat.reduceEqDiff, Nat.reduceLT, Nat.reduceAdd, List.cons_append, List.nil_append, Option.toList_some, Option.toList_none, zk_cat_i, zk_cat_r, zk_cat_n, zk_same, Option.some.injEq, Value.int.injEq, Value.long.injEq, eq_self, false_implies, true_implies, zf_2, ho, hP2, zl_X, zc_n10, zc_cl, zc_in, not_true_eq_false, not_false_eq_true, nI_clamp (show i < 2 ^ 31 by omega), vp_in_nI (show i < 10 by omega) (by omega), nI_1]
      refine ih (i + 1) _ (by omega) (fun t ht => ?_) (fun q hq => by rw [zk_up_row hq]; exact k2 q hq)
      by_cases e : t = i
      · subst e; exact zk_up_at
      · rw [zk_up_ne (by omega)]; exact k1 t (by omega)
  refine hZ B_X2_learn_0 _ _ _ _ _ _ _ k_X2_learn_0 ?_
  simp only [B_X2_learn_0, zk_ldi_s, zk_ldl_s, zk_lda_r, zk_lda_a, zk_lda_n, zk_iv_s, zr_nil, zr_cons, zp_0, zp_s, zt_0, zt_s, zt2_0, zt2_s, zw_iconst, zw_bipush, zw_sipush, zw_lconst, zw_ldcs, zw_ldc, zw_ldcw, zw_ldc2, zw_iload_n, zw_lload_n, zw_aload_n, zw_istore_n, zw_lstore_n, zw_astore_n, zw_astoreN_n, zw_iload, zw_lload, zw_aload, zw_istore, zw_lstore, zw_astore, zw_astoreN, zw_iinc, zw_iadd, zw_isub, zw_imul, zw_iand, zw_ior, zw_ixor, zw_ishl, zw_ishr, zw_iushr, zw_idiv, zw_irem, zw_ladd, zw_lsub, zw_lmul, zw_land, zw_ldiv, zw_lrem, zw_lcmp, zw_i2l, zw_l2i, zw_dup, zw_pop, zw_dup2i, zw_goto, zw_if_eq, zw_if_ne, zw_if_lt, zw_if_ge, zw_if_gt, zw_if_le, zw_ic_eq, zw_ic_ne, zw_ic_lt, zw_ic_ge, zw_ic_gt, zw_ic_le, zw_ifnn, zw_ifnnN, zw_tsw, zw_lsw, zw_getf_l, zw_getf_r, zw_getf_i, zw_getf_z, zw_putf_i, zw_putf_z, zw_putf_l, zw_putf_r, zw_iaload, zw_caload, zw_laload, zw_aaload, zw_iastore, zw_castore, zw_lastore, zw_aastore, zw_alen, zw_newa, zw_newq, zw_new, zw_oini, zw_invs, zw_invv, zw_copy, zw_invt, zw_iret, zw_lret, zw_ret, zc_r, zc_a, zk_rvs, zk_cat2, List.getElem?_cons_zero, List.getElem?_cons_succ, Bool.false_eq_true, and_false, false_and, and_true, true_and, reduceIte, Nat.reduceEqDiff, Nat.reduceLT, Nat.reduceAdd, List.cons_append, List.nil_append, Option.toList_some, Option.toList_none, zk_cat_i, zk_cat_r, zk_cat_n, zk_same, Option.some.injEq, Value.int.injEq, Value.long.injEq, eq_self, false_implies, true_implies, zf_2, ho, hP2, zl_X, zc_n10, zc_cl, zc_in, not_true_eq_false, not_false_eq_true]
  exact loop 10 0 M (by omega) (fun t ht => by omega) (fun _ _ => rfl)
end CQ1
