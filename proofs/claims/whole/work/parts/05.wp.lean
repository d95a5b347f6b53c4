/-! ===== what an instruction asks for ===== -/
abbrev zk_I : Type := Instr × Nat × Int32 × Nat × Nat × Nat × List (Int32 × Nat)
abbrev zk_K : Type := Nat → List Value → List Value → Nat → zk_MI → zk_ML → zk_MP → Prop
abbrev zk_Nx : Type := List Value → List Value → Nat → zk_MI → zk_ML → zk_MP → Prop
abbrev zk_Po : Type := Option Value → zk_MI → zk_ML → zk_MP → Prop
abbrev zk_F : Type := MethodName × ByteArray × Nat × Option FieldType
def zk_room (d k s : Nat) : Room := { frames := d, cells := k, slots := s, locals := 64 * d }
def zk_Q (G : zk_G) (n1 : Nat) (Post : zk_Po) : Array Value → State → Outcome → State → Prop := fun _ st oc t =>
  (∃ (r : Option Value) (M : zk_MI) (L : zk_ML) (P : zk_MP), oc = .returned (r.map (zk_ad G.2.2.2.1 G.2.2.2.2)) ∧ Post r M L P ∧ zk_Rep G n1 M L P t.heap) ∧ va_F (fun q => G.2.2.2.1 ≤ q) st t
/-- the contract of a method, at one start -/
def zk_CF (G : zk_G) (d : Nat) (F : zk_F) (av : List Value) (n : Nat) (M : zk_MI) (L : zk_ML) (P : zk_MP) (n1 : Nat) (Post : zk_Po) : Prop :=
  n ≤ n1 ∧ Met G.1 F.1 (.code F.1 F.2.1 F.2.2.1 F.2.2.2 :: zk_TB) (zk_room d (n1 - n) (zk_sl n1 - zk_sl n)) (va_Pc (av.map (zk_ad G.2.2.2.1 G.2.2.2.2)) (fun U => U.heap.size = G.2.2.2.1 + n ∧ zk_Rep G n M L P U.heap ∧ zk_Env G U U.heap)) (zk_Q G n1 Post) (n1 - n) (zk_sl n1 - zk_sl n) (fun q => G.2.2.2.1 ≤ q)
def zk_C (G : zk_G) (d y : Nat) (av : List Value) (n : Nat) (M : zk_MI) (L : zk_ML) (P : zk_MP) (n1 : Nat) (Post : zk_Po) : Prop := zk_CF G d (zk_m y) av n M L P n1 Post
def zk_ok (n p ci : Nat) : Prop := p < n ∧ (zk_lay p).1 = ci
def zk_lc (a : Int32) (b : Nat) : Int64 := if a = 0 then Int64.ofNat b else -(Int64.ofNat b)
def zk_pop : Nat → List Value → List Value → Option (List Value × List Value)
  | 0, acc, st => some (acc, st)
  | b + 1, acc, v :: st => zk_pop b (v :: acc) st
  | _ + 1, _, [] => none
def zk_rc (n c : Nat) : List Value → Prop
  | .ref p :: _ => zk_ok n p c ∧ c < 13
  | .retAddr 1 :: _ => c = 30
  | _ => False
def zk_call (G : zk_G) (d n1 : Nat) (N : zk_Nx) (y : Nat) (av rest lv : List Value) (n : Nat) (M : zk_MI) (L : zk_ML) (P : zk_MP) : Prop :=
  (rest.map Value.category).sum ≤ 8 ∧ ∃ (d' n2 : Nat) (Post : zk_Po), d' < d ∧ n2 ≤ n1 ∧ zk_C G d' y av n M L P n2 Post ∧ ∀ (r : Option Value) (M' : zk_MI) (L' : zk_ML) (P' : zk_MP), Post r M' L' P' → N lv (r.toList ++ rest) n2 M' L' P'
def zk_b1 (v : Int32) : Prop := v = 0 ∨ v = 1
def zk_cpy (M : zk_MI) (p q sp dp k : Nat) : zk_MI := zk_row M q (va_cpy (M p) (M q) sp dp k)
def zk_wp (G : zk_G) (d n1 : Nat) (Post : zk_Po) (K : zk_K) (N : zk_Nx) (i : Instr) (a : Int32) (b e c : Nat) (sw : List (Int32 × Nat)) (lv st : List Value) (n : Nat) (M : zk_MI) (L : zk_ML) (P : zk_MP) : Prop :=
  match i with
  | .iconst _ => N lv (.int a :: st) n M L P
  | .bipush _ => N lv (.int a :: st) n M L P
  | .sipush _ => N lv (.int a :: st) n M L P
  | .lconst _ => N lv (.long (zk_lc 0 b) :: st) n M L P
  | .ldc _ => if c = 30 then N lv (.retAddr 1 :: st) n M L P else N lv (.int a :: st) n M L P
  | .ldc_w _ => N lv (.int a :: st) n M L P
  | .ldc2_w _ => N lv (.long (zk_lc a b) :: st) n M L P
  | .iload_n _ => (match lv[b]? with
    | some (.int x) => N lv (.int x :: st) n M L P
    | _ => False)
  | .iload _ => (match lv[b]? with
    | some (.int x) => N lv (.int x :: st) n M L P
    | _ => False)
  | .lload_n _ => (match lv[b]? with
    | some (.long x) => N lv (.long x :: st) n M L P
    | _ => False)
  | .lload _ => (match lv[b]? with
    | some (.long x) => N lv (.long x :: st) n M L P
    | _ => False)
  | .aload_n _ => (match lv[b]? with
    | some (.ref x) => N lv (.ref x :: st) n M L P
    | some (.retAddr x) => N lv (.retAddr x :: st) n M L P
    | some .null => N lv (.null :: st) n M L P
    | _ => False)
  | .aload _ => (match lv[b]? with
    | some (.ref x) => N lv (.ref x :: st) n M L P
    | some (.retAddr x) => N lv (.retAddr x :: st) n M L P
    | some .null => N lv (.null :: st) n M L P
    | _ => False)
  | .istore_n _ => (match st with
    | .int x :: st => N (zk_set lv b (.int x)) st n M L P
    | _ => False)
  | .istore _ => (match st with
    | .int x :: st => N (zk_set lv b (.int x)) st n M L P
    | _ => False)
  | .lstore_n _ => (match st with
    | .long x :: st => N (zk_set2 lv b (.long x)) st n M L P
    | _ => False)
  | .lstore _ => (match st with
    | .long x :: st => N (zk_set2 lv b (.long x)) st n M L P
    | _ => False)
  | .astore_n _ => (match st with
    | .ref x :: st => N (zk_set lv b (.ref x)) st n M L P
    | .null :: st => N (zk_set lv b .null) st n M L P
    | _ => False)
  | .astore _ => (match st with
    | .ref x :: st => N (zk_set lv b (.ref x)) st n M L P
    | .null :: st => N (zk_set lv b .null) st n M L P
    | _ => False)
  | .iinc _ _ => (match lv[b]? with
    | some (.int x) => N (zk_set lv b (.int (x + a))) st n M L P
    | _ => False)
  | .iadd => (match st with
    | .int y :: .int x :: st => N lv (.int (x + y) :: st) n M L P
    | _ => False)
  | .isub => (match st with
    | .int y :: .int x :: st => N lv (.int (x - y) :: st) n M L P
    | _ => False)
  | .imul => (match st with
    | .int y :: .int x :: st => N lv (.int (x * y) :: st) n M L P
    | _ => False)
  | .iand => (match st with
    | .int y :: .int x :: st => N lv (.int (x &&& y) :: st) n M L P
    | _ => False)
  | .ior => (match st with
    | .int y :: .int x :: st => N lv (.int (x ||| y) :: st) n M L P
    | _ => False)
  | .ixor => (match st with
    | .int y :: .int x :: st => N lv (.int (x ^^^ y) :: st) n M L P
    | _ => False)
  | .ishl => (match st with
    | .int y :: .int x :: st => N lv (.int (x <<< (y &&& 31)) :: st) n M L P
    | _ => False)
  | .ishr => (match st with
    | .int y :: .int x :: st => N lv (.int (x >>> (y &&& 31)) :: st) n M L P
    | _ => False)
  | .iushr => (match st with
    | .int y :: .int x :: st => N lv (.int (x.toUInt32 >>> (y.toUInt32 &&& Int32.toUInt32 31)).toInt32 :: st) n M L P
    | _ => False)
  | .idiv => (match st with
    | .int y :: .int x :: st => ¬ y = 0 ∧ N lv (.int (x / y) :: st) n M L P
    | _ => False)
  | .irem => (match st with
    | .int y :: .int x :: st => ¬ y = 0 ∧ N lv (.int (x - x / y * y) :: st) n M L P
    | _ => False)
  | .ladd => (match st with
    | .long y :: .long x :: st => N lv (.long (x + y) :: st) n M L P
    | _ => False)
  | .lsub => (match st with
    | .long y :: .long x :: st => N lv (.long (x - y) :: st) n M L P
    | _ => False)
  | .lmul => (match st with
    | .long y :: .long x :: st => N lv (.long (x * y) :: st) n M L P
    | _ => False)
  | .land => (match st with
    | .long y :: .long x :: st => N lv (.long (x &&& y) :: st) n M L P
    | _ => False)
  | .ldiv => (match st with
    | .long y :: .long x :: st => ¬ y = 0 ∧ N lv (.long (x / y) :: st) n M L P
    | _ => False)
  | .lrem => (match st with
    | .long y :: .long x :: st => ¬ y = 0 ∧ N lv (.long (x - x / y * y) :: st) n M L P
    | _ => False)
  | .lcmp => (match st with
    | .long y :: .long x :: st => N lv (.int (lg_cmp x y) :: st) n M L P
    | _ => False)
  | .i2l => (match st with
    | .int x :: st => N lv (.long x.toInt64 :: st) n M L P
    | _ => False)
  | .l2i => (match st with
    | .long x :: st => N lv (.int x.toInt32 :: st) n M L P
    | _ => False)
  | .dup => (match st with
    | v :: st => v.category = 1 ∧ N lv (v :: v :: st) n M L P
    | _ => False)
  | .pop => (match st with
    | v :: st => v.category = 1 ∧ N lv st n M L P
    | _ => False)
  | .dup2 => (match st with
    | .long x :: st => N lv (.long x :: .long x :: st) n M L P
    | v :: w :: st => v.category = 1 ∧ w.category = 1 ∧ N lv (v :: w :: v :: w :: st) n M L P
    | _ => False)
  | .goto _ => K b lv st n M L P
  | .ifCond cnd _ => (match st with
    | .int x :: st => (match cnd with
      | .eq => (x = 0 → K b lv st n M L P) ∧ (¬ x = 0 → N lv st n M L P)
      | .ne => (¬ x = 0 → K b lv st n M L P) ∧ (x = 0 → N lv st n M L P)
      | .lt => (x < 0 → K b lv st n M L P) ∧ (¬ x < 0 → N lv st n M L P)
      | .ge => (0 ≤ x → K b lv st n M L P) ∧ (¬ 0 ≤ x → N lv st n M L P)
      | .gt => (0 < x → K b lv st n M L P) ∧ (¬ 0 < x → N lv st n M L P)
      | .le => (x ≤ 0 → K b lv st n M L P) ∧ (¬ x ≤ 0 → N lv st n M L P))
    | _ => False)
  | .if_icmp cnd _ => (match st with
    | .int y :: .int x :: st => (match cnd with
      | .eq => (x = y → K b lv st n M L P) ∧ (¬ x = y → N lv st n M L P)
      | .ne => (¬ x = y → K b lv st n M L P) ∧ (x = y → N lv st n M L P)
      | .lt => (x < y → K b lv st n M L P) ∧ (¬ x < y → N lv st n M L P)
      | .ge => (y ≤ x → K b lv st n M L P) ∧ (¬ y ≤ x → N lv st n M L P)
      | .gt => (y < x → K b lv st n M L P) ∧ (¬ y < x → N lv st n M L P)
      | .le => (x ≤ y → K b lv st n M L P) ∧ (¬ x ≤ y → N lv st n M L P))
    | _ => False)
  | .ifnonnull _ => (match st with
    | .ref _ :: st => K b lv st n M L P
    | .null :: st => N lv st n M L P
    | _ => False)
  | .tableswitch _ _ _ _ => (match st with
    | .int x :: st => (∀ q ∈ sw, x = q.1 → K q.2 lv st n M L P) ∧ ((∀ q ∈ sw, ¬ x = q.1) → K b lv st n M L P)
    | _ => False)
  | .lookupswitch _ _ => (match st with
    | .int x :: st => (∀ q ∈ sw, x = q.1 → K q.2 lv st n M L P) ∧ ((∀ q ∈ sw, ¬ x = q.1) → K b lv st n M L P)
    | _ => False)
  | .getfield _ => (match st with
    | .ref p :: st => zk_ok n p b ∧ (match zk_ft b e with
      | 1 => N lv (.long (L p e) :: st) n M L P
      | 2 => N lv (zk_rv (P p e) :: st) n M L P
      | _ => N lv (.int (M p e) :: st) n M L P)
    | _ => False)
  | .putfield _ => (match st with
    | .int x :: .ref p :: st => zk_ok n p b ∧ (match zk_ft b e with
      | 0 => N lv st n (zk_up M p e x) L P
      | 3 => zk_b1 x ∧ N lv st n (zk_up M p e x) L P
      | _ => False)
    | .long x :: .ref p :: st => zk_ok n p b ∧ zk_ft b e = 1 ∧ N lv st n M (zk_up L p e x) P
    | .ref x :: .ref p :: st => zk_ok n p b ∧ zk_ft b e = 2 ∧ N lv st n M L (zk_up P p e (some x))
    | _ => False)
  | .iaload => (match st with
    | .int i :: .ref p :: st => zk_ok n p 20 ∧ vp_in i (zk_lay p).2 ∧ N lv (.int (M p i.toNatClampNeg) :: st) n M L P
    | .int i :: .retAddr 4 :: st => vp_in i (G.2.2.2.2 5) ∧ N lv (.int (Int32.ofNat (G.2.2.2.2 (6 + i.toNatClampNeg))) :: st) n M L P
    | _ => False)
  | .caload => (match st with
    | .int i :: .ref p :: st => zk_ok n p 22 ∧ vp_in i (zk_lay p).2 ∧ N lv (.int (M p i.toNatClampNeg) :: st) n M L P
    | _ => False)
  | .laload => (match st with
    | .int i :: .ref p :: st => zk_ok n p 21 ∧ vp_in i (zk_lay p).2 ∧ N lv (.long (L p i.toNatClampNeg) :: st) n M L P
    | _ => False)
  | .aaload => (match st with
    | .int i :: .ref p :: st => zk_ok n p 23 ∧ vp_in i (zk_lay p).2 ∧ N lv (zk_rv (P p i.toNatClampNeg) :: st) n M L P
    | _ => False)
  | .iastore => (match st with
    | .int x :: .int i :: .ref p :: st => zk_ok n p 20 ∧ vp_in i (zk_lay p).2 ∧ N lv st n (zk_up M p i.toNatClampNeg x) L P
    | _ => False)
  | .castore => (match st with
    | .int x :: .int i :: .ref p :: st => zk_ok n p 22 ∧ vp_in i (zk_lay p).2 ∧ N lv st n (zk_up M p i.toNatClampNeg (vp_nar .char x)) L P
    | _ => False)
  | .lastore => (match st with
    | .long x :: .int i :: .ref p :: st => zk_ok n p 21 ∧ vp_in i (zk_lay p).2 ∧ N lv st n M (zk_up L p i.toNatClampNeg x) P
    | _ => False)
  | .aastore => (match st with
    | .ref x :: .int i :: .ref p :: st => zk_ok n p 23 ∧ zk_ok n x 3 ∧ vp_in i (zk_lay p).2 ∧ N lv st n M L (zk_up P p i.toNatClampNeg (some x))
    | _ => False)
  | .arraylength => (match st with
    | .ref p :: st => p < n ∧ 20 ≤ (zk_lay p).1 ∧ (zk_lay p).1 ≤ 23 ∧ N lv (.int (Int32.ofNat (zk_lay p).2) :: st) n M L P
    | .retAddr 4 :: st => N lv (.int (Int32.ofNat (G.2.2.2.2 5)) :: st) n M L P
    | _ => False)
  | .newarray _ => (match st with
    | .int x :: st => n + 1 ≤ n1 ∧ ¬ x < 0 ∧ zk_lay n = (c, x.toNatClampNeg) ∧ x.toNatClampNeg ≤ 60000 ∧ N lv (.ref n :: st) (n + 1) (zk_row M n (fun _ => 0)) (zk_row L n (fun _ => 0)) P
    | _ => False)
  | .anewarray _ => (match st with
    | .int x :: st => n + 1 ≤ n1 ∧ ¬ x < 0 ∧ zk_lay n = (23, x.toNatClampNeg) ∧ x.toNatClampNeg ≤ 60000 ∧ N lv (.ref n :: st) (n + 1) M L (zk_row P n (fun _ => none))
    | _ => False)
  | .new _ => n + 1 ≤ n1 ∧ (zk_lay n).1 = b ∧ N lv (.ref n :: st) (n + 1) (zk_row M n (fun _ => 0)) (zk_row L n (fun _ => 0)) (zk_row P n (fun _ => none))
  | .invokespecial _ => (match c with
    | 99 => (match st with
      | .ref _ :: st => 1 ≤ d ∧ (st.map Value.category).sum ≤ 8 ∧ N lv st n M L P
      | _ => False)
    | _ => (match zk_pop b [] st with
      | some (av, rest) => zk_rc n c av ∧ zk_call G d n1 N e av rest lv n M L P
      | none => False))
  | .invokevirtual _ => (match zk_pop b [] st with
    | some (av, rest) => zk_rc n c av ∧ zk_call G d n1 N e av rest lv n M L P
    | none => False)
  | .invokestatic _ => (match c with
    | 98 => (match st with
      | .int k :: .int dp :: .ref q :: .int sp :: .ref p :: st => 1 ≤ d ∧ (st.map Value.category).sum ≤ 8 ∧ zk_ok n p 20 ∧ zk_ok n q 20 ∧ ¬ sp < 0 ∧ ¬ dp < 0 ∧ ¬ k < 0 ∧ sp.toNatClampNeg + k.toNatClampNeg ≤ (zk_lay p).2 ∧ dp.toNatClampNeg + k.toNatClampNeg ≤ (zk_lay q).2 ∧
          N lv st n (zk_cpy M p q sp.toNatClampNeg dp.toNatClampNeg k.toNatClampNeg) L P
      | _ => False)
    | _ => (match zk_pop b [] st with
      | some (av, rest) => zk_call G d n1 N e av rest lv n M L P
      | none => False))
  | .ireturn => (match st with
    | [.int x] => n = n1 ∧ (b = 1 → zk_b1 x) ∧ Post (some (.int x)) M L P
    | _ => False)
  | .lreturn => (match st with
    | [.long x] => n = n1 ∧ Post (some (.long x)) M L P
    | _ => False)
  | .return_ => (match st with
    | [] => n = n1 ∧ Post none M L P
    | _ => False)
  | _ => False
/-- a row of instructions -/
def zk_run (G : zk_G) (d n1 : Nat) (Post : zk_Po) (K : zk_K) : List zk_I → Nat → List Value → List Value → Nat → zk_MI → zk_ML → zk_MP → Prop
  | [], pc, lv, st, n, M, L, P => K pc lv st n M L P
  | (i, len, a, b, e, c, sw) :: qs, pc, lv, st, n, M, L, P => zk_wp G d n1 Post K (zk_run G d n1 Post K qs (pc + len)) i a b e c sw lv st n M L P
/-! ===== the tables' answer for each instruction ===== -/
def zk_tcode : Option FieldType → Nat
  | some .int => 0
  | some .long => 1
  | some (.object _) => 2
  | some (.array _) => 2
  | some .boolean => 3
  | _ => 9
def zk_nests : List (Nat × Nat × Nat) := [(10, 148, 29), (5, 95, 159), (6, 51, 25), (6, 55, 29)]
/-- a call's words: own class, index, which link, kind, parameters, method, its class -/
def zk_ckm (ow idx : Nat) (a : Int32) (kind k e c : Nat) : Bool :=
  (if a = 1 then decide ((ow, idx, e) ∈ zk_nests) else decide ((ow, idx, e) ∈ zk_ml)) && decide ((e, kind, k, c) ∈ zk_mi)
def zk_ck (ow : Nat) (ct : Bool) (F : zk_F) (pc : Nat) (i : Instr) (len : Nat) (a : Int32) (b e c : Nat) (sw : List (Int32 × Nat)) : Bool :=
  decide (decode F.2.1 pc = .ok (i, len)) && (match i with
  | .iconst v => decide (len = 1) && decide (Int32.ofInt v = a)
  | .bipush v => decide (len = 2) && decide ((Int8.ofInt v).toInt32 = a)
  | .sipush v => decide (len = 3) && decide ((Int16.ofInt v).toInt32 = a)
  | .lconst k => decide (len = 1) && decide ((k : Nat) = b)
  | .ldc idx => decide (len = 2) && (if c = 30 then decide (idx = 66) && decide (ow = 8) else decide ((ow, idx, a) ∈ zk_cn))
  | .ldc_w idx => decide (len = 3) && decide ((ow, idx, a) ∈ zk_cn)
  | .ldc2_w idx => decide (len = 3) && decide ((ow, idx, zk_lc a b) ∈ zk_cg)
  | .iload_n k => decide (len = 1) && decide ((k : Nat) = b)
  | .iload k => decide (len = 2) && decide (k = b)
  | .lload_n k => decide (len = 1) && decide ((k : Nat) = b)
  | .lload k => decide (len = 2) && decide (k = b)
  | .aload_n k => decide (len = 1) && decide ((k : Nat) = b)
  | .aload k => decide (len = 2) && decide (k = b)
  | .istore_n k => decide (len = 1) && decide ((k : Nat) = b) && decide (b < F.2.2.1)
  | .istore k => decide (len = 2) && decide (k = b) && decide (b < F.2.2.1)
  | .lstore_n k => decide (len = 1) && decide ((k : Nat) = b) && decide (b + 1 < F.2.2.1)
  | .lstore k => decide (len = 2) && decide (k = b) && decide (b + 1 < F.2.2.1)
  | .astore_n k => decide (len = 1) && decide ((k : Nat) = b) && decide (b < F.2.2.1)
  | .astore k => decide (len = 2) && decide (k = b) && decide (b < F.2.2.1)
  | .iinc k v => decide (len = 3) && decide (k = b) && decide (Int32.ofInt v = a) && decide (b < F.2.2.1)
  | .goto off => decide (len = 3) && decide ((pc : Int) + off = b)
  | .ifCond _ off => decide (len = 3) && decide ((pc : Int) + off = b)
  | .if_icmp _ off => decide (len = 3) && decide ((pc : Int) + off = b)
  | .ifnonnull off => decide (len = 3) && decide ((pc : Int) + off = b)
  | .tableswitch dflt lo hi offs => decide ((pc : Int) + dflt = b) && decide ((sw.length : Int) = hi - lo + 1) && (List.range sw.length).all (fun j => decide ((sw.getD j (0, 0)).1.toInt = lo + j) && decide ((offs[j]?).map (fun o => (pc : Int) + o) = some ((sw.getD j (0, 0)).2 : Int)))
  | .lookupswitch dflt ps => decide ((pc : Int) + dflt = b) && (ps.toList.zip (ps.toList.drop 1)).all (fun (a, next) => a.1 < next.1) && decide (ps.toList.map (fun q => (q.1, (pc : Int) + q.2)) = sw.map (fun q => (q.1.toInt, (q.2 : Int))))
  | .getfield idx => decide (len = 3) && decide (b < 13) && decide (e < zk_N b) && decide ((ow, idx, b, e) ∈ zk_fl)
  | .putfield idx => decide (len = 3) && decide (b < 13) && decide (e < zk_N b) && decide ((ow, idx, b, e) ∈ zk_fl) && (if (zk_T b e).2.2.2 = true then ct && decide (b = ow) else true)
  | .newarray t => decide (len = 2) && decide ((t = .int ∧ c = 20) ∨ (t = .long ∧ c = 21) ∨ (t = .char ∧ c = 22))
  | .anewarray idx => decide (len = 3) && decide ((ow, idx, 3) ∈ zk_kl)
  | .new idx => decide (len = 3) && decide (b < 13) && decide ((ow, idx, b) ∈ zk_kl)
  | .invokespecial idx => decide (len = 3) && (if c = 99 then decide ((ow, idx) ∈ zk_ol) else zk_ckm ow idx 0 2 (b - 1) e c && decide (1 ≤ b))
  | .invokevirtual idx => decide (len = 3) && zk_ckm ow idx a 1 (b - 1) e c && decide (1 ≤ b)
  | .invokestatic idx => decide (len = 3) && (if c = 98 then decide ((ow, idx) ∈ zk_al) else zk_ckm ow idx a 0 b e c)
  | .ireturn => decide (len = 1) && decide ((b = 0 ∧ F.2.2.2 = some .int) ∨ (b = 1 ∧ F.2.2.2 = some .boolean))
  | .lreturn => decide (len = 1) && decide (F.2.2.2 = some .long)
  | .return_ => decide (len = 1) && decide (F.2.2.2 = none)
  | _ => decide (len = 1))
def zk_ckb (ow : Nat) (ct : Bool) (F : zk_F) : List zk_I → Nat → Bool
  | [], _ => true
  | (i, len, a, b, e, c, sw) :: qs, pc => zk_ck ow ct F pc i len a b e c sw && zk_ckb ow ct F qs (pc + len)
theorem zk_pop_eq : ∀ (b : Nat) (acc st av rest : List Value), zk_pop b acc st = some (av, rest) → acc.reverse ++ st = av.reverse ++ rest ∧ av.length = b + acc.length
  | 0, acc, st, av, rest, h => by
    simp only [zk_pop, Option.some.injEq, Prod.mk.injEq] at h
    obtain ⟨rfl, rfl⟩ := h
    simp
  | b + 1, acc, [], av, rest, h => by simp [zk_pop] at h
  | b + 1, acc, v :: st, av, rest, h => by
    simp only [zk_pop] at h
    obtain ⟨h1, h2⟩ := zk_pop_eq b (v :: acc) st av rest h
    refine ⟨?_, ?_⟩
    · rw [← h1]; simp
    · rw [h2]; simp; omega
