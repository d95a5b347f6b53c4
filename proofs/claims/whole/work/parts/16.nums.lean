/-! ===== numbers ===== -/
theorem zn_shl1 : ∀ t, t < 31 → (1 : Int32) <<< (nI t &&& 31) = nI (2 ^ t) := by decide +kernel
theorem zn_or {a t : Nat} (h : a < 2 ^ t) : nI a ||| nI (2 ^ t) = nI (a + 2 ^ t) := by
  have h1 := fa_or_sum (a := a) (k := t) 1 h
  rw [Nat.mul_one] at h1
  rw [fa_or, Nat.or_comm, ← fa_or, h1, Nat.add_comm]
theorem zn_bt {a i : Nat} (hi : i < 32) : bt (nI a) i = a.testBit i := by
  unfold bt nI
  show (BitVec.ofNat 32 a).getLsbD i = a.testBit i
  rw [BitVec.getLsbD_ofNat]
  simp [hi]
theorem zn_shr {a t : Nat} (ha : a < 2 ^ 31) (ht : t < 32) : nI a >>> (nI t &&& 31) = nI (a / 2 ^ t) := pk_shrN ha _ t (s_l t ht)
theorem zn_shl {a t : Nat} (ht : t < 32) (h : a * 2 ^ t < 2 ^ 32) : nI a <<< (nI t &&& 31) = nI (a * 2 ^ t) := pk_shlN _ t (s_l t ht) h
theorem zn_and1 (a : Nat) : nI a &&& 1 = nI (a % 2) := fa_mask a 1
theorem zn_bit {a t : Nat} (ha : a < 2 ^ 31) (ht : t < 32) : (nI a >>> (nI t &&& 31)) &&& 1 = nI (a / 2 ^ t % 2) := by rw [zn_shr ha ht, zn_and1]
theorem zn_tb (a t : Nat) : a / 2 ^ t % 2 = 1 ↔ a.testBit t = true := by
  rw [Nat.testBit_eq_decide_div_mod_eq]; simp
theorem zn_bit0 {a t : Nat} (ha : a < 2 ^ 31) (ht : t < 32) : (nI a >>> (nI t &&& 31)) &&& 1 = 0 ↔ a.testBit t = false := by
  rw [zn_bit ha ht, show (0 : Int32) = nI 0 from rfl, nI_eq (by omega) (by omega)]
  have := zn_tb a t
  rcases Nat.mod_two_eq_zero_or_one (a / 2 ^ t) with h | h
  · simp [h] at this ⊢; simpa using this
  · simp [h] at this ⊢; simpa using this
theorem zn_bit1 {a t : Nat} (ha : a < 2 ^ 31) (ht : t < 32) : (nI a >>> (nI t &&& 31)) &&& 1 = 1 ↔ a.testBit t = true := by
  rw [zn_bit ha ht, show (1 : Int32) = nI 1 from rfl, nI_eq (by omega) (by omega)]
  exact zn_tb a t
/-- every thing of a among those of k -/
def zn_in (a k : Nat) : Bool := a &&& k == a
theorem zn_in_iff (a k : Nat) : zn_in a k = true ↔ ∀ t, a.testBit t = true → k.testBit t = true := by
  simp only [zn_in, beq_iff_eq]
  constructor
  · intro h t ht
    have h2 : (a &&& k).testBit t = true := by rw [h]; exact ht
    rw [Nat.testBit_and] at h2
    simp at h2
    exact h2.2
  · intro h
    apply Nat.eq_of_testBit_eq
    intro t
    rw [Nat.testBit_and]
    cases ht : a.testBit t with
    | false => rfl
    | true => rw [h t ht]; rfl
theorem zn_sub {a k : Nat} (ha : a < 2 ^ 31) : nI a &&& (nI k ^^^ (-1)) = 0 ↔ zn_in a k = true := by
  rw [zn_in_iff]
  constructor
  · intro h t ht
    have htl : t < 32 := by
      rcases Nat.lt_or_ge t 32 with q | q
      · exact q
      · have := Nat.testBit_lt_two_pow (Nat.lt_of_lt_of_le ha (Nat.pow_le_pow_right (by decide) (show 31 ≤ t by omega)))
        rw [this] at ht; cases ht
    have h2 : bt (nI a &&& (nI k ^^^ (-1))) t = false := by rw [h]; exact b_0 t
    rw [b_and, b_xor, zn_bt htl, zn_bt htl, b_m1 t htl, ht] at h2
    simpa using h2
  · intro h
    apply b_ext
    intro i hi
    rw [b_and, b_xor, zn_bt hi, zn_bt hi, b_m1 i hi, b_0]
    cases hq : a.testBit i with
    | false => rfl
    | true => rw [h i hq]; rfl
theorem zn_nin {a k : Nat} (ha : a < 2 ^ 31) : ¬ nI a &&& (nI k ^^^ (-1)) = 0 ↔ zn_in a k = false := by
  rw [zn_sub ha]; simp
theorem zk_iter {A : Nat → Prop} : ∀ (k : Nat), (∀ i, i < k → A (i + 1) → A i) → A k → A 0
  | 0, _, h => h
  | k + 1, hs, h => zk_iter k (fun i hi => hs i (by omega)) (hs k (by omega) h)
theorem zn_lt {a b : Nat} (ha : a < 2 ^ 31) (hb : b < 2 ^ 31) : (nI a < nI b) = (a < b) := by simp only [nI_ltI ha hb]
theorem zn_le {a b : Nat} (ha : a < 2 ^ 31) (hb : b < 2 ^ 31) : (nI a ≤ nI b) = (a ≤ b) := by simp only [nI_leI ha hb]
theorem zn_eq {a b : Nat} (ha : a < 2 ^ 31) (hb : b < 2 ^ 31) : (nI a = nI b) = (a = b) := by simp only [nI_eq ha hb]
theorem zn_0 : (0 : Int32) = nI 0 := rfl
theorem zn_pos {a : Nat} (ha : a < 2 ^ 31) : ((0 : Int32) < nI a) = (0 < a) := by rw [zn_0, zn_lt (by omega) ha]
theorem zn_npos {a : Nat} (ha : a < 2 ^ 31) : (nI a ≤ (0 : Int32)) = (a = 0) := by rw [zn_0, zn_le ha (by omega)]; simp
theorem zn_z {a : Nat} (ha : a < 2 ^ 31) : (nI a = (0 : Int32)) = (a = 0) := by rw [zn_0, zn_eq ha (by omega)]
