/-! bits, as those of natural numbers -/
theorem bv_N {a : Nat} (h : a < 2147483648) : (Int32.ofInt (a : Int)).toBitVec.toNat = a := by
  show (BitVec.ofInt 32 (a : Int)).toNat = a
  rw [BitVec.toNat_ofInt]
  omega
theorem bv_I {x : Int32} (h : x.toBitVec.toNat < 2147483648) : x.toInt = (x.toBitVec.toNat : Int) := by
  show x.toBitVec.toInt = _
  rw [BitVec.toInt_eq_toNat_of_lt]
  omega
theorem bOr_N {a b : Nat} (ha : a < 2147483648) (hb : b < 2147483648) : bOr a b = ((a ||| b : Nat) : Int) := by
  rw [bOr_def]
  have h : (Int32.ofInt (a : Int) ||| Int32.ofInt (b : Int)).toBitVec.toNat = a ||| b := by
    rw [Int32.toBitVec_or, BitVec.toNat_or, bv_N ha, bv_N hb]
  rw [bv_I (by rw [h]; exact Nat.or_lt_two_pow (n := 31) ha hb), h]
theorem bAnd_N {a b : Nat} (ha : a < 2147483648) (hb : b < 2147483648) : bAnd a b = ((a &&& b : Nat) : Int) := by
  rw [bAnd_def]
  have h : (Int32.ofInt (a : Int) &&& Int32.ofInt (b : Int)).toBitVec.toNat = a &&& b := by
    rw [Int32.toBitVec_and, BitVec.toNat_and, bv_N ha, bv_N hb]
  rw [bv_I (by rw [h]; exact Nat.lt_of_le_of_lt Nat.and_le_left ha), h]
theorem bXor_N {a b : Nat} (ha : a < 2147483648) (hb : b < 2147483648) : bXor a b = ((a ^^^ b : Nat) : Int) := by
  rw [bXor_def]
  have h : (Int32.ofInt (a : Int) ^^^ Int32.ofInt (b : Int)).toBitVec.toNat = a ^^^ b := by
    rw [Int32.toBitVec_xor, BitVec.toNat_xor, bv_N ha, bv_N hb]
  rw [bv_I (by rw [h]; exact Nat.xor_lt_two_pow (n := 31) ha hb), h]
theorem sh_am : ∀ k : Nat, k < 32 → (Int32.ofInt (k : Int) &&& 31).toBitVec.smod 32 = BitVec.ofNat 32 k := by decide +kernel
theorem bShl_N {a k : Nat} (ha : a < 2147483648) (hk : k < 32) (h : a * 2 ^ k < 2147483648) : bShl a k = ((a * 2 ^ k : Nat) : Int) := by
  rw [bShl_def]
  have e : (Int32.ofInt (a : Int) <<< (Int32.ofInt (k : Int) &&& 31)).toBitVec.toNat = a * 2 ^ k := by
    rw [Int32.toBitVec_shiftLeft, sh_am k hk, BitVec.shiftLeft_eq', BitVec.toNat_shiftLeft, bv_N ha, BitVec.toNat_ofNat, Nat.mod_eq_of_lt (show k < 2 ^ 32 by omega), Nat.shiftLeft_eq]
    exact Nat.mod_eq_of_lt (by omega)
  rw [bv_I (by rw [e]; exact h), e]
theorem bShr_N {a k : Nat} (ha : a < 2147483648) (hk : k < 32) : bShr a k = ((a >>> k : Nat) : Int) := by
  rw [bShr_def]
  have hm : (Int32.ofInt (a : Int)).toBitVec.msb = false := by
    rw [BitVec.msb_eq_decide, decide_eq_false_iff_not, bv_N ha]
    omega
  have e : (Int32.ofInt (a : Int) >>> (Int32.ofInt (k : Int) &&& 31)).toBitVec.toNat = a >>> k := by
    rw [Int32.toBitVec_shiftRight, sh_am k hk, BitVec.sshiftRight_eq', BitVec.sshiftRight_eq_of_msb_false hm, BitVec.toNat_ushiftRight, bv_N ha, BitVec.toNat_ofNat, Nat.mod_eq_of_lt (show k < 2 ^ 32 by omega)]
  rw [bv_I (by rw [e]; exact Nat.lt_of_le_of_lt (Nat.shiftRight_le a k) ha), e]
/-- the k-th bit -/
def bt (a k : Nat) : Int := if a.testBit k = true then 1 else 0
theorem bit_N {a k : Nat} (ha : a < 2147483648) (hk : k < 32) : bAnd (bShr a k) 1 = bt a k := by
  rw [bShr_N ha hk]
  have h1 : a >>> k < 2147483648 := Nat.lt_of_le_of_lt (Nat.shiftRight_le a k) ha
  have := bAnd_N h1 (show 1 < 2147483648 by omega)
  rw [show ((1 : Nat) : Int) = 1 from rfl] at this
  rw [this, Nat.and_one_is_mod]
  unfold bt
  rw [Nat.testBit_eq_decide_div_mod_eq, Nat.shiftRight_eq_div_pow]
  by_cases e : a / 2 ^ k % 2 = 1
  · simp [e]
  · have : a / 2 ^ k % 2 = 0 := by omega
    simp [this]
/-- sums -/
def smN (f : Nat → Int) : Nat → Int
  | 0 => 0
  | n + 1 => smN f n + f n
theorem smN_bd {f : Nat → Int} {lo hi : Int} {n : Nat} (h : ∀ i, i < n → lo ≤ f i ∧ f i ≤ hi) : lo * n ≤ smN f n ∧ smN f n ≤ hi * n := by
  induction n with
  | zero => unfold smN; omega
  | succ n ih =>
    have h1 := ih fun i hi => h i (by omega)
    have h2 := h n (by omega)
    unfold smN
    rw [Int.natCast_add, Int.mul_add, Int.mul_add]
    omega
theorem smN_congr {f g : Nat → Int} {n : Nat} (h : ∀ i, i < n → f i = g i) : smN f n = smN g n := by
  induction n with
  | zero => rfl
  | succ n ih => unfold smN; rw [ih fun i hi => h i (by omega), h n (by omega)]
/-- a set of those below n of which p holds, as bits -/
def bsN (p : Nat → Bool) : Nat → Nat
  | 0 => 0
  | n + 1 => bsN p n ||| (if p n = true then 2 ^ n else 0)
theorem bsN_lt (p : Nat → Bool) (n : Nat) : bsN p n < 2 ^ n := by
  induction n with
  | zero => unfold bsN; omega
  | succ n ih =>
    unfold bsN
    have h1 : bsN p n < 2 ^ (n + 1) := by rw [Nat.pow_succ]; omega
    have h2 : (if p n = true then 2 ^ n else 0) < 2 ^ (n + 1) := by
      have := Nat.two_pow_pos n
      rw [Nat.pow_succ]
      split <;> omega
    exact Nat.or_lt_two_pow h1 h2
theorem bsN_tb (p : Nat → Bool) (n k : Nat) : (bsN p n).testBit k = (decide (k < n) && p k) := by
  induction n with
  | zero => unfold bsN; simp
  | succ n ih =>
    unfold bsN
    rw [Nat.testBit_or, ih]
    by_cases e : k = n
    · subst e
      by_cases h : p k = true
      · rw [if_pos h, Nat.testBit_two_pow_self, h]; simp
      · rw [if_neg h]; simp [h]
    · have e2 : (if p n = true then 2 ^ n else 0).testBit k = false := by
        split
        · rw [Nat.testBit_two_pow]; simp [Ne.symm e]
        · simp
      rw [e2, Bool.or_false]
      have e3 : decide (k < n) = decide (k < n + 1) := by
        by_cases h : k < n
        · simp [h, Nat.lt_succ_of_lt h]
        · have : ¬ k < n + 1 := by omega
          simp [h, this]
      rw [e3]
