section STEPS
variable {G : zk_G} {d n1 : Nat} {Post : zk_Po} {K : zk_K} {N : zk_Nx} {a : Int32} {b e c : Nat} {sw : List (Int32 × Nat)} {lv st : List Value} {n : Nat} {M : zk_MI} {L : zk_ML} {P : zk_MP}
def zk_ldi : Option Value → (Int32 → Prop) → Prop
  | some (.int x), k => k x
  | _, _ => False
def zk_ldl : Option Value → (Int64 → Prop) → Prop
  | some (.long x), k => k x
  | _, _ => False
def zk_lda : Option Value → (Value → Prop) → Prop
  | some (.ref x), k => k (.ref x)
  | some (.retAddr x), k => k (.retAddr x)
  | some .null, k => k .null
  | _, _ => False
theorem zk_ldi_s {x : Int32} {k : Int32 → Prop} : zk_ldi (some (.int x)) k = k x := by simp only [zk_ldi]
theorem zk_ldl_s {x : Int64} {k : Int64 → Prop} : zk_ldl (some (.long x)) k = k x := by simp only [zk_ldl]
theorem zk_lda_r {x : Nat} {k : Value → Prop} : zk_lda (some (.ref x)) k = k (.ref x) := by simp only [zk_lda]
theorem zk_lda_a {x : Nat} {k : Value → Prop} : zk_lda (some (.retAddr x)) k = k (.retAddr x) := by simp only [zk_lda]
theorem zk_lda_n {k : Value → Prop} : zk_lda (some .null) k = k .null := by simp only [zk_lda]
theorem zk_ldi_eq {v : Option Value} {k : Int32 → Prop} : (match v with | some (.int x) => k x | _ => False) = zk_ldi v k := by
  rcases v with _ | v
  · rfl
  · cases v <;> rfl
theorem zk_ldl_eq {v : Option Value} {k : Int64 → Prop} : (match v with | some (.long x) => k x | _ => False) = zk_ldl v k := by
  rcases v with _ | v
  · rfl
  · cases v <;> rfl
def zk_iv : Option (List Value × List Value) → (List Value → List Value → Prop) → Prop
  | some (av, rest), k => k av rest
  | none, _ => False
theorem zk_iv_s {av rest : List Value} {k : List Value → List Value → Prop} : zk_iv (some (av, rest)) k = k av rest := by simp only [zk_iv]
theorem zr_nil {pc : Nat} : zk_run G d n1 Post K [] pc lv st n M L P = K pc lv st n M L P := by simp only [zk_run]
theorem zr_cons {i : Instr} {len pc : Nat} {qs : List zk_I} : zk_run G d n1 Post K ((i, len, a, b, e, c, sw) :: qs) pc lv st n M L P = zk_wp G d n1 Post K (zk_run G d n1 Post K qs (pc + len)) i a b e c sw lv st n M L P := by simp only [zk_run]
theorem zp_0 {acc : List Value} : zk_pop 0 acc st = some (acc, st) := by simp only [zk_pop]
theorem zp_s {acc : List Value} {v : Value} {k : Nat} : zk_pop (k + 1) acc (v :: st) = zk_pop k (v :: acc) st := by simp only [zk_pop]
theorem zt_0 {u v : Value} {t : List Value} : zk_set (u :: t) 0 v = v :: t := by simp only [zk_set]
theorem zt_s {u v : Value} {t : List Value} {i : Nat} : zk_set (u :: t) (i + 1) v = (if i = 0 ∧ zk_cat2 u = true then zk_un else u) :: zk_set t i v := by simp only [zk_set]
theorem zt2_0 {u w v : Value} {t : List Value} : zk_set2 (u :: w :: t) 0 v = v :: zk_un :: t := by simp only [zk_set2]
theorem zt2_s {u v : Value} {t : List Value} {i : Nat} : zk_set2 (u :: t) (i + 1) v = (if i = 0 ∧ zk_cat2 u = true then zk_un else u) :: zk_set2 t i v := by cases t <;> simp only [zk_set2]
theorem zw_iconst {k : Int}  : zk_wp G d n1 Post K N (.iconst k) a b e c sw lv st n M L P = (N lv (.int a :: st) n M L P) := by
  simp only [zk_wp]
theorem zw_bipush {k : Int}  : zk_wp G d n1 Post K N (.bipush k) a b e c sw lv st n M L P = (N lv (.int a :: st) n M L P) := by
  simp only [zk_wp]
theorem zw_sipush {k : Int}  : zk_wp G d n1 Post K N (.sipush k) a b e c sw lv st n M L P = (N lv (.int a :: st) n M L P) := by
  simp only [zk_wp]
theorem zw_lconst {k : Fin 2}  : zk_wp G d n1 Post K N (.lconst k) a b e c sw lv st n M L P = (N lv (.long (zk_lc 0 b) :: st) n M L P) := by
  simp only [zk_wp]
theorem zw_ldcs {k : Nat} (h : c = 30) : zk_wp G d n1 Post K N (.ldc k) a b e c sw lv st n M L P = (N lv (.retAddr 1 :: st) n M L P) := by
  simp only [zk_wp, if_pos h]
theorem zw_ldc {k : Nat} (h : ¬ c = 30) : zk_wp G d n1 Post K N (.ldc k) a b e c sw lv st n M L P = (N lv (.int a :: st) n M L P) := by
  simp only [zk_wp, if_neg h]
theorem zw_ldcw {k : Nat}  : zk_wp G d n1 Post K N (.ldc_w k) a b e c sw lv st n M L P = (N lv (.int a :: st) n M L P) := by
  simp only [zk_wp]
theorem zw_ldc2 {k : Nat}  : zk_wp G d n1 Post K N (.ldc2_w k) a b e c sw lv st n M L P = (N lv (.long (zk_lc a b) :: st) n M L P) := by
  simp only [zk_wp]
theorem zw_iload_n {k : Fin 4}  : zk_wp G d n1 Post K N (.iload_n k) a b e c sw lv st n M L P = (zk_ldi (lv[b]?) (fun x => N lv (.int x :: st) n M L P)) := by
  simp only [zk_wp]; exact zk_ldi_eq
theorem zw_lload_n {k : Fin 4}  : zk_wp G d n1 Post K N (.lload_n k) a b e c sw lv st n M L P = (zk_ldl (lv[b]?) (fun x => N lv (.long x :: st) n M L P)) := by
  simp only [zk_wp]; exact zk_ldl_eq
theorem zw_aload_n {k : Fin 4}  : zk_wp G d n1 Post K N (.aload_n k) a b e c sw lv st n M L P = (zk_lda (lv[b]?) (fun v => N lv (v :: st) n M L P)) := by
  simp only [zk_wp]
  generalize lv[b]? = w
  rcases w with _ | w
  · rfl
  · cases w <;> rfl
theorem zw_istore_n {k : Fin 4} {x : Int32}  : zk_wp G d n1 Post K N (.istore_n k) a b e c sw lv (.int x :: st) n M L P = (N (zk_set lv b (.int x)) st n M L P) := by
  simp only [zk_wp]
theorem zw_lstore_n {k : Fin 4} {x : Int64}  : zk_wp G d n1 Post K N (.lstore_n k) a b e c sw lv (.long x :: st) n M L P = (N (zk_set2 lv b (.long x)) st n M L P) := by
  simp only [zk_wp]
theorem zw_astore_n {k : Fin 4} {x : Nat}  : zk_wp G d n1 Post K N (.astore_n k) a b e c sw lv (.ref x :: st) n M L P = (N (zk_set lv b (.ref x)) st n M L P) := by
  simp only [zk_wp]
theorem zw_astoreN_n {k : Fin 4}  : zk_wp G d n1 Post K N (.astore_n k) a b e c sw lv (.null :: st) n M L P = (N (zk_set lv b .null) st n M L P) := by
  simp only [zk_wp]
theorem zw_iload {k : Nat}  : zk_wp G d n1 Post K N (.iload k) a b e c sw lv st n M L P = (zk_ldi (lv[b]?) (fun x => N lv (.int x :: st) n M L P)) := by
  simp only [zk_wp]; exact zk_ldi_eq
theorem zw_lload {k : Nat}  : zk_wp G d n1 Post K N (.lload k) a b e c sw lv st n M L P = (zk_ldl (lv[b]?) (fun x => N lv (.long x :: st) n M L P)) := by
  simp only [zk_wp]; exact zk_ldl_eq
theorem zw_aload {k : Nat}  : zk_wp G d n1 Post K N (.aload k) a b e c sw lv st n M L P = (zk_lda (lv[b]?) (fun v => N lv (v :: st) n M L P)) := by
  simp only [zk_wp]
  generalize lv[b]? = w
  rcases w with _ | w
  · rfl
  · cases w <;> rfl
theorem zw_istore {k : Nat} {x : Int32}  : zk_wp G d n1 Post K N (.istore k) a b e c sw lv (.int x :: st) n M L P = (N (zk_set lv b (.int x)) st n M L P) := by
  simp only [zk_wp]
theorem zw_lstore {k : Nat} {x : Int64}  : zk_wp G d n1 Post K N (.lstore k) a b e c sw lv (.long x :: st) n M L P = (N (zk_set2 lv b (.long x)) st n M L P) := by
  simp only [zk_wp]
theorem zw_astore {k : Nat} {x : Nat}  : zk_wp G d n1 Post K N (.astore k) a b e c sw lv (.ref x :: st) n M L P = (N (zk_set lv b (.ref x)) st n M L P) := by
  simp only [zk_wp]
theorem zw_astoreN {k : Nat}  : zk_wp G d n1 Post K N (.astore k) a b e c sw lv (.null :: st) n M L P = (N (zk_set lv b .null) st n M L P) := by
  simp only [zk_wp]
theorem zw_iinc {k : Nat} {v : Int}  : zk_wp G d n1 Post K N (.iinc k v) a b e c sw lv st n M L P = (zk_ldi (lv[b]?) (fun x => N (zk_set lv b (.int (x + a))) st n M L P)) := by
  simp only [zk_wp]; exact zk_ldi_eq
theorem zw_iadd {x y : Int32}  : zk_wp G d n1 Post K N .iadd a b e c sw lv (.int y :: .int x :: st) n M L P = (N lv (.int (x + y) :: st) n M L P) := by
  simp only [zk_wp]
theorem zw_isub {x y : Int32}  : zk_wp G d n1 Post K N .isub a b e c sw lv (.int y :: .int x :: st) n M L P = (N lv (.int (x - y) :: st) n M L P) := by
  simp only [zk_wp]
theorem zw_imul {x y : Int32}  : zk_wp G d n1 Post K N .imul a b e c sw lv (.int y :: .int x :: st) n M L P = (N lv (.int (x * y) :: st) n M L P) := by
  simp only [zk_wp]
theorem zw_iand {x y : Int32}  : zk_wp G d n1 Post K N .iand a b e c sw lv (.int y :: .int x :: st) n M L P = (N lv (.int (x &&& y) :: st) n M L P) := by
  simp only [zk_wp]
theorem zw_ior {x y : Int32}  : zk_wp G d n1 Post K N .ior a b e c sw lv (.int y :: .int x :: st) n M L P = (N lv (.int (x ||| y) :: st) n M L P) := by
  simp only [zk_wp]
theorem zw_ixor {x y : Int32}  : zk_wp G d n1 Post K N .ixor a b e c sw lv (.int y :: .int x :: st) n M L P = (N lv (.int (x ^^^ y) :: st) n M L P) := by
  simp only [zk_wp]
theorem zw_ishl {x y : Int32}  : zk_wp G d n1 Post K N .ishl a b e c sw lv (.int y :: .int x :: st) n M L P = (N lv (.int (x <<< (y &&& 31)) :: st) n M L P) := by
  simp only [zk_wp]
theorem zw_ishr {x y : Int32}  : zk_wp G d n1 Post K N .ishr a b e c sw lv (.int y :: .int x :: st) n M L P = (N lv (.int (x >>> (y &&& 31)) :: st) n M L P) := by
  simp only [zk_wp]
theorem zw_iushr {x y : Int32}  : zk_wp G d n1 Post K N .iushr a b e c sw lv (.int y :: .int x :: st) n M L P = (N lv (.int (x.toUInt32 >>> (y.toUInt32 &&& Int32.toUInt32 31)).toInt32 :: st) n M L P) := by
  simp only [zk_wp]
theorem zw_idiv {x y : Int32}  : zk_wp G d n1 Post K N .idiv a b e c sw lv (.int y :: .int x :: st) n M L P = (¬ y = 0 ∧ N lv (.int (x / y) :: st) n M L P) := by
  simp only [zk_wp]
theorem zw_irem {x y : Int32}  : zk_wp G d n1 Post K N .irem a b e c sw lv (.int y :: .int x :: st) n M L P = (¬ y = 0 ∧ N lv (.int (x - x / y * y) :: st) n M L P) := by
  simp only [zk_wp]
theorem zw_ladd {x y : Int64}  : zk_wp G d n1 Post K N .ladd a b e c sw lv (.long y :: .long x :: st) n M L P = (N lv (.long (x + y) :: st) n M L P) := by
  simp only [zk_wp]
theorem zw_lsub {x y : Int64}  : zk_wp G d n1 Post K N .lsub a b e c sw lv (.long y :: .long x :: st) n M L P = (N lv (.long (x - y) :: st) n M L P) := by
  simp only [zk_wp]
theorem zw_lmul {x y : Int64}  : zk_wp G d n1 Post K N .lmul a b e c sw lv (.long y :: .long x :: st) n M L P = (N lv (.long (x * y) :: st) n M L P) := by
  simp only [zk_wp]
theorem zw_land {x y : Int64}  : zk_wp G d n1 Post K N .land a b e c sw lv (.long y :: .long x :: st) n M L P = (N lv (.long (x &&& y) :: st) n M L P) := by
  simp only [zk_wp]
theorem zw_ldiv {x y : Int64}  : zk_wp G d n1 Post K N .ldiv a b e c sw lv (.long y :: .long x :: st) n M L P = (¬ y = 0 ∧ N lv (.long (x / y) :: st) n M L P) := by
  simp only [zk_wp]
theorem zw_lrem {x y : Int64}  : zk_wp G d n1 Post K N .lrem a b e c sw lv (.long y :: .long x :: st) n M L P = (¬ y = 0 ∧ N lv (.long (x - x / y * y) :: st) n M L P) := by
  simp only [zk_wp]
theorem zw_lcmp {x y : Int64}  : zk_wp G d n1 Post K N .lcmp a b e c sw lv (.long y :: .long x :: st) n M L P = (N lv (.int (lg_cmp x y) :: st) n M L P) := by
  simp only [zk_wp]
theorem zw_i2l {x : Int32}  : zk_wp G d n1 Post K N .i2l a b e c sw lv (.int x :: st) n M L P = (N lv (.long x.toInt64 :: st) n M L P) := by
  simp only [zk_wp]
theorem zw_l2i {x : Int64}  : zk_wp G d n1 Post K N .l2i a b e c sw lv (.long x :: st) n M L P = (N lv (.int x.toInt32 :: st) n M L P) := by
  simp only [zk_wp]
theorem zw_dup {v : Value}  : zk_wp G d n1 Post K N .dup a b e c sw lv (v :: st) n M L P = (v.category = 1 ∧ N lv (v :: v :: st) n M L P) := by
  simp only [zk_wp]
theorem zw_pop {v : Value}  : zk_wp G d n1 Post K N .pop a b e c sw lv (v :: st) n M L P = (v.category = 1 ∧ N lv st n M L P) := by
  simp only [zk_wp]
theorem zw_dup2i {v : Int32} {w : Value}  : zk_wp G d n1 Post K N .dup2 a b e c sw lv (.int v :: w :: st) n M L P = ((Value.int v).category = 1 ∧ w.category = 1 ∧ N lv (.int v :: w :: .int v :: w :: st) n M L P) := by
  simp only [zk_wp]
theorem zw_goto {k : Int}  : zk_wp G d n1 Post K N (.goto k) a b e c sw lv st n M L P = (K b lv st n M L P) := by
  simp only [zk_wp]
theorem zw_if_eq {k : Int} {x : Int32}  : zk_wp G d n1 Post K N (.ifCond .eq k) a b e c sw lv (.int x :: st) n M L P = ((x = 0 → K b lv st n M L P) ∧ (¬ x = 0 → N lv st n M L P)) := by
  simp only [zk_wp]
theorem zw_if_ne {k : Int} {x : Int32}  : zk_wp G d n1 Post K N (.ifCond .ne k) a b e c sw lv (.int x :: st) n M L P = ((¬ x = 0 → K b lv st n M L P) ∧ (x = 0 → N lv st n M L P)) := by
  simp only [zk_wp]
theorem zw_if_lt {k : Int} {x : Int32}  : zk_wp G d n1 Post K N (.ifCond .lt k) a b e c sw lv (.int x :: st) n M L P = ((x < 0 → K b lv st n M L P) ∧ (¬ x < 0 → N lv st n M L P)) := by
  simp only [zk_wp]
theorem zw_if_ge {k : Int} {x : Int32}  : zk_wp G d n1 Post K N (.ifCond .ge k) a b e c sw lv (.int x :: st) n M L P = ((0 ≤ x → K b lv st n M L P) ∧ (¬ 0 ≤ x → N lv st n M L P)) := by
  simp only [zk_wp]
theorem zw_if_gt {k : Int} {x : Int32}  : zk_wp G d n1 Post K N (.ifCond .gt k) a b e c sw lv (.int x :: st) n M L P = ((0 < x → K b lv st n M L P) ∧ (¬ 0 < x → N lv st n M L P)) := by
  simp only [zk_wp]
theorem zw_if_le {k : Int} {x : Int32}  : zk_wp G d n1 Post K N (.ifCond .le k) a b e c sw lv (.int x :: st) n M L P = ((x ≤ 0 → K b lv st n M L P) ∧ (¬ x ≤ 0 → N lv st n M L P)) := by
  simp only [zk_wp]
theorem zw_ic_eq {k : Int} {x y : Int32}  : zk_wp G d n1 Post K N (.if_icmp .eq k) a b e c sw lv (.int y :: .int x :: st) n M L P = ((x = y → K b lv st n M L P) ∧ (¬ x = y → N lv st n M L P)) := by
  simp only [zk_wp]
theorem zw_ic_ne {k : Int} {x y : Int32}  : zk_wp G d n1 Post K N (.if_icmp .ne k) a b e c sw lv (.int y :: .int x :: st) n M L P = ((¬ x = y → K b lv st n M L P) ∧ (x = y → N lv st n M L P)) := by
  simp only [zk_wp]
theorem zw_ic_lt {k : Int} {x y : Int32}  : zk_wp G d n1 Post K N (.if_icmp .lt k) a b e c sw lv (.int y :: .int x :: st) n M L P = ((x < y → K b lv st n M L P) ∧ (¬ x < y → N lv st n M L P)) := by
  simp only [zk_wp]
theorem zw_ic_ge {k : Int} {x y : Int32}  : zk_wp G d n1 Post K N (.if_icmp .ge k) a b e c sw lv (.int y :: .int x :: st) n M L P = ((y ≤ x → K b lv st n M L P) ∧ (¬ y ≤ x → N lv st n M L P)) := by
  simp only [zk_wp]
theorem zw_ic_gt {k : Int} {x y : Int32}  : zk_wp G d n1 Post K N (.if_icmp .gt k) a b e c sw lv (.int y :: .int x :: st) n M L P = ((y < x → K b lv st n M L P) ∧ (¬ y < x → N lv st n M L P)) := by
  simp only [zk_wp]
theorem zw_ic_le {k : Int} {x y : Int32}  : zk_wp G d n1 Post K N (.if_icmp .le k) a b e c sw lv (.int y :: .int x :: st) n M L P = ((x ≤ y → K b lv st n M L P) ∧ (¬ x ≤ y → N lv st n M L P)) := by
  simp only [zk_wp]
theorem zw_ifnn {k : Int} {x : Nat}  : zk_wp G d n1 Post K N (.ifnonnull k) a b e c sw lv (.ref x :: st) n M L P = (K b lv st n M L P) := by
  simp only [zk_wp]
theorem zw_ifnnN {k : Int}  : zk_wp G d n1 Post K N (.ifnonnull k) a b e c sw lv (.null :: st) n M L P = (N lv st n M L P) := by
  simp only [zk_wp]
theorem zw_tsw {k1 k2 k3 : Int} {k4 : Array Int} {x : Int32}  : zk_wp G d n1 Post K N (.tableswitch k1 k2 k3 k4) a b e c sw lv (.int x :: st) n M L P = ((∀ q ∈ sw, x = q.1 → K q.2 lv st n M L P) ∧ ((∀ q ∈ sw, ¬ x = q.1) → K b lv st n M L P)) := by
  simp only [zk_wp]
theorem zw_lsw {k1 : Int} {k2 : Array (Int × Int)} {x : Int32}  : zk_wp G d n1 Post K N (.lookupswitch k1 k2) a b e c sw lv (.int x :: st) n M L P = ((∀ q ∈ sw, x = q.1 → K q.2 lv st n M L P) ∧ ((∀ q ∈ sw, ¬ x = q.1) → K b lv st n M L P)) := by
  simp only [zk_wp]
theorem zw_getf_l {k p : Nat} (h : zk_ft b e = 1) : zk_wp G d n1 Post K N (.getfield k) a b e c sw lv (.ref p :: st) n M L P = (zk_ok n p b ∧ N lv (.long (L p e) :: st) n M L P) := by
  simp only [zk_wp, h]
theorem zw_getf_r {k p : Nat} (h : zk_ft b e = 2) : zk_wp G d n1 Post K N (.getfield k) a b e c sw lv (.ref p :: st) n M L P = (zk_ok n p b ∧ N lv (zk_rv (P p e) :: st) n M L P) := by
  simp only [zk_wp, h]
theorem zw_getf_i {k p : Nat} (h : zk_ft b e = 0) : zk_wp G d n1 Post K N (.getfield k) a b e c sw lv (.ref p :: st) n M L P = (zk_ok n p b ∧ N lv (.int (M p e) :: st) n M L P) := by
  simp only [zk_wp, h]
theorem zw_getf_z {k p : Nat} (h : zk_ft b e = 3) : zk_wp G d n1 Post K N (.getfield k) a b e c sw lv (.ref p :: st) n M L P = (zk_ok n p b ∧ N lv (.int (M p e) :: st) n M L P) := by
  simp only [zk_wp, h]
theorem zw_putf_i {k p : Nat} {x : Int32} (h : zk_ft b e = 0) : zk_wp G d n1 Post K N (.putfield k) a b e c sw lv (.int x :: .ref p :: st) n M L P = (zk_ok n p b ∧ N lv st n (zk_up M p e x) L P) := by
  simp only [zk_wp, h]
theorem zw_putf_z {k p : Nat} {x : Int32} (h : zk_ft b e = 3) : zk_wp G d n1 Post K N (.putfield k) a b e c sw lv (.int x :: .ref p :: st) n M L P = (zk_ok n p b ∧ zk_b1 x ∧ N lv st n (zk_up M p e x) L P) := by
  simp only [zk_wp, h]
theorem zw_putf_l {k p : Nat} {x : Int64}  : zk_wp G d n1 Post K N (.putfield k) a b e c sw lv (.long x :: .ref p :: st) n M L P = (zk_ok n p b ∧ zk_ft b e = 1 ∧ N lv st n M (zk_up L p e x) P) := by
  simp only [zk_wp]
theorem zw_putf_r {k p x : Nat}  : zk_wp G d n1 Post K N (.putfield k) a b e c sw lv (.ref x :: .ref p :: st) n M L P = (zk_ok n p b ∧ zk_ft b e = 2 ∧ N lv st n M L (zk_up P p e (some x))) := by
  simp only [zk_wp]
theorem zw_iaload {i : Int32} {p : Nat}  : zk_wp G d n1 Post K N .iaload a b e c sw lv (.int i :: .ref p :: st) n M L P = (zk_ok n p 20 ∧ vp_in i (zk_lay p).2 ∧ N lv (.int (M p i.toNatClampNeg) :: st) n M L P) := by
  simp only [zk_wp]
theorem zw_caload {i : Int32} {p : Nat}  : zk_wp G d n1 Post K N .caload a b e c sw lv (.int i :: .ref p :: st) n M L P = (zk_ok n p 22 ∧ vp_in i (zk_lay p).2 ∧ N lv (.int (M p i.toNatClampNeg) :: st) n M L P) := by
  simp only [zk_wp]
theorem zw_laload {i : Int32} {p : Nat}  : zk_wp G d n1 Post K N .laload a b e c sw lv (.int i :: .ref p :: st) n M L P = (zk_ok n p 21 ∧ vp_in i (zk_lay p).2 ∧ N lv (.long (L p i.toNatClampNeg) :: st) n M L P) := by
  simp only [zk_wp]
theorem zw_aaload {i : Int32} {p : Nat}  : zk_wp G d n1 Post K N .aaload a b e c sw lv (.int i :: .ref p :: st) n M L P = (zk_ok n p 23 ∧ vp_in i (zk_lay p).2 ∧ N lv (zk_rv (P p i.toNatClampNeg) :: st) n M L P) := by
  simp only [zk_wp]
theorem zw_iastore {i x : Int32} {p : Nat}  : zk_wp G d n1 Post K N .iastore a b e c sw lv (.int x :: .int i :: .ref p :: st) n M L P = (zk_ok n p 20 ∧ vp_in i (zk_lay p).2 ∧ N lv st n (zk_up M p i.toNatClampNeg x) L P) := by
  simp only [zk_wp]
theorem zw_castore {i x : Int32} {p : Nat}  : zk_wp G d n1 Post K N .castore a b e c sw lv (.int x :: .int i :: .ref p :: st) n M L P = (zk_ok n p 22 ∧ vp_in i (zk_lay p).2 ∧ N lv st n (zk_up M p i.toNatClampNeg (vp_nar .char x)) L P) := by
  simp only [zk_wp]
theorem zw_lastore {i : Int32} {x : Int64} {p : Nat}  : zk_wp G d n1 Post K N .lastore a b e c sw lv (.long x :: .int i :: .ref p :: st) n M L P = (zk_ok n p 21 ∧ vp_in i (zk_lay p).2 ∧ N lv st n M (zk_up L p i.toNatClampNeg x) P) := by
  simp only [zk_wp]
theorem zw_aastore {i : Int32} {x p : Nat}  : zk_wp G d n1 Post K N .aastore a b e c sw lv (.ref x :: .int i :: .ref p :: st) n M L P = (zk_ok n p 23 ∧ zk_ok n x 3 ∧ vp_in i (zk_lay p).2 ∧ N lv st n M L (zk_up P p i.toNatClampNeg (some x))) := by
  simp only [zk_wp]
theorem zw_alen {p : Nat}  : zk_wp G d n1 Post K N .arraylength a b e c sw lv (.ref p :: st) n M L P = (p < n ∧ 20 ≤ (zk_lay p).1 ∧ (zk_lay p).1 ≤ 23 ∧ N lv (.int (Int32.ofNat (zk_lay p).2) :: st) n M L P) := by
  simp only [zk_wp]
theorem zw_newa {k : ArrayType} {x : Int32}  : zk_wp G d n1 Post K N (.newarray k) a b e c sw lv (.int x :: st) n M L P = (n + 1 ≤ n1 ∧ ¬ x < 0 ∧ zk_lay n = (c, x.toNatClampNeg) ∧ x.toNatClampNeg ≤ 60000 ∧ N lv (.ref n :: st) (n + 1) (zk_row M n (fun _ => 0)) (zk_row L n (fun _ => 0)) P) := by
  simp only [zk_wp]
theorem zw_newq {k : Nat} {x : Int32}  : zk_wp G d n1 Post K N (.anewarray k) a b e c sw lv (.int x :: st) n M L P = (n + 1 ≤ n1 ∧ ¬ x < 0 ∧ zk_lay n = (23, x.toNatClampNeg) ∧ x.toNatClampNeg ≤ 60000 ∧ N lv (.ref n :: st) (n + 1) M L (zk_row P n (fun _ => none))) := by
  simp only [zk_wp]
theorem zw_new {k : Nat}  : zk_wp G d n1 Post K N (.new k) a b e c sw lv st n M L P = (n + 1 ≤ n1 ∧ (zk_lay n).1 = b ∧ N lv (.ref n :: st) (n + 1) (zk_row M n (fun _ => 0)) (zk_row L n (fun _ => 0)) (zk_row P n (fun _ => none))) := by
  simp only [zk_wp]
theorem zw_oini {k p : Nat} : zk_wp G d n1 Post K N (.invokespecial k) a b e 99 sw lv (.ref p :: st) n M L P = (1 ≤ d ∧ (st.map Value.category).sum ≤ 8 ∧ N lv st n M L P) := by
  simp only [zk_wp]
theorem zw_invs {k : Nat} (h : ¬ c = 99) : zk_wp G d n1 Post K N (.invokespecial k) a b e c sw lv st n M L P = (zk_iv (zk_pop b [] st) (fun av rest => zk_rc n c av ∧ zk_call G d n1 N e av rest lv n M L P)) := by
  simp only [zk_wp]
  generalize zk_pop b [] st = w
  rcases w with _ | ⟨av, rest⟩ <;> rfl
theorem zw_invv {k : Nat}  : zk_wp G d n1 Post K N (.invokevirtual k) a b e c sw lv st n M L P = (zk_iv (zk_pop b [] st) (fun av rest => zk_rc n c av ∧ zk_call G d n1 N e av rest lv n M L P)) := by
  simp only [zk_wp]
  generalize zk_pop b [] st = w
  rcases w with _ | ⟨av, rest⟩ <;> rfl
theorem zw_copy {j : Nat} {k dp sp : Int32} {q p : Nat} : zk_wp G d n1 Post K N (.invokestatic j) a b e 98 sw lv (.int k :: .int dp :: .ref q :: .int sp :: .ref p :: st) n M L P = (1 ≤ d ∧ (st.map Value.category).sum ≤ 8 ∧ zk_ok n p 20 ∧ zk_ok n q 20 ∧ ¬ sp < 0 ∧ ¬ dp < 0 ∧ ¬ k < 0 ∧ sp.toNatClampNeg + k.toNatClampNeg ≤ (zk_lay p).2 ∧ dp.toNatClampNeg + k.toNatClampNeg ≤ (zk_lay q).2 ∧ N lv st n (zk_cpy M p q sp.toNatClampNeg dp.toNatClampNeg k.toNatClampNeg) L P) := by
  simp only [zk_wp]
theorem zw_invt {k : Nat} (h : ¬ c = 98) : zk_wp G d n1 Post K N (.invokestatic k) a b e c sw lv st n M L P = (zk_iv (zk_pop b [] st) (fun av rest => zk_call G d n1 N e av rest lv n M L P)) := by
  simp only [zk_wp]
  generalize zk_pop b [] st = w
  rcases w with _ | ⟨av, rest⟩ <;> rfl
theorem zw_iret {x : Int32}  : zk_wp G d n1 Post K N .ireturn a b e c sw lv [.int x] n M L P = (n = n1 ∧ (b = 1 → zk_b1 x) ∧ Post (some (.int x)) M L P) := by
  simp only [zk_wp]
theorem zw_lret {x : Int64}  : zk_wp G d n1 Post K N .lreturn a b e c sw lv [.long x] n M L P = (n = n1 ∧ Post (some (.long x)) M L P) := by
  simp only [zk_wp]
theorem zw_ret   : zk_wp G d n1 Post K N .return_ a b e c sw lv [] n M L P = (n = n1 ∧ Post none M L P) := by
  simp only [zk_wp]
theorem zc_r {c p : Nat} {t : List Value} : zk_rc n c (.ref p :: t) = (zk_ok n p c ∧ c < 13) := by simp only [zk_rc]
theorem zc_a {c : Nat} {t : List Value} : zk_rc n c (.retAddr 1 :: t) = (c = 30) := by simp only [zk_rc]
end STEPS
