/-! bits of small numbers, by the machine's own operations -/
theorem nb_bv {a : Nat} (h : a < 4294967296) : (Int32.ofInt (a : Int)).toBitVec.toNat = a := by
  show (BitVec.ofInt 32 (a : Int)).toNat = a
  rw [BitVec.toNat_ofInt]
  omega
theorem nb_toInt {x : Int32} {n : Nat} (h : x.toBitVec.toNat = n) (hn : n < 2147483648) : x.toInt = (n : Int) := by
  show x.toBitVec.toInt = (n : Int)
  rw [BitVec.toInt_eq_toNat_of_lt (by rw [h]; omega), h]
theorem nb_and {a b : Nat} (ha : a < 2147483648) (hb : b < 2147483648) : am_and (a : Int) (b : Int) = ((a &&& b : Nat) : Int) := by
  unfold am_and
  refine nb_toInt ?_ (Nat.lt_of_le_of_lt Nat.and_le_left ha)
  rw [Int32.toBitVec_and, BitVec.toNat_and, nb_bv (by omega), nb_bv (by omega)]
theorem nb_or {a b : Nat} (ha : a < 2147483648) (hb : b < 2147483648) : am_or (a : Int) (b : Int) = ((a ||| b : Nat) : Int) := by
  unfold am_or
  refine nb_toInt ?_ (Nat.or_lt_two_pow (n := 31) ha hb)
  rw [Int32.toBitVec_or, BitVec.toNat_or, nb_bv (by omega), nb_bv (by omega)]
theorem nb_k : ∀ k, k < 32 → ((Int32.ofInt ((k : Nat) : Int) &&& 31).toBitVec.smod 32).toNat = k := by decide +kernel
theorem nb_shr {a k : Nat} (ha : a < 2147483648) (hk : k < 32) : am_shr (a : Int) (k : Int) = ((a >>> k : Nat) : Int) := by
  unfold am_shr
  refine nb_toInt ?_ (Nat.lt_of_le_of_lt (by rw [Nat.shiftRight_eq_div_pow]; exact Nat.div_le_self _ _) ha)
  show (BitVec.sshiftRight' (Int32.ofInt (a : Int)).toBitVec ((Int32.ofInt (k : Int) &&& 31).toBitVec.smod 32)).toNat = a >>> k
  unfold BitVec.sshiftRight'
  rw [nb_k k hk, BitVec.sshiftRight_eq_of_msb_false, BitVec.toNat_ushiftRight, nb_bv (by omega)]
  rw [BitVec.msb_eq_decide, nb_bv (by omega)]
  simp
  omega
theorem nb_shl {a k : Nat} (hk : k < 32) (h : a <<< k < 2147483648) (ha : a < 2147483648) : am_shl (a : Int) (k : Int) = ((a <<< k : Nat) : Int) := by
  unfold am_shl
  refine nb_toInt ?_ h
  show ((Int32.ofInt (a : Int)).toBitVec <<< ((Int32.ofInt (k : Int) &&& 31).toBitVec.smod 32)).toNat = a <<< k
  rw [BitVec.shiftLeft_eq', nb_k k hk, BitVec.toNat_shiftLeft, nb_bv (by omega)]
  exact Nat.mod_eq_of_lt (by omega)
theorem nb_bit {a k : Nat} (ha : a < 2147483648) (hk : k < 32) : am_and (am_shr (a : Int) (k : Int)) 1 = if a.testBit k then 1 else 0 := by
  rw [nb_shr ha hk]
  have h1 : a >>> k < 2147483648 := Nat.lt_of_le_of_lt (by rw [Nat.shiftRight_eq_div_pow]; exact Nat.div_le_self _ _) ha
  rw [show (1 : Int) = ((1 : Nat) : Int) from rfl, nb_and h1 (by decide), Nat.and_one_is_mod]
  rw [Nat.testBit_eq_decide_div_mod_eq, Nat.shiftRight_eq_div_pow]
  by_cases q : a / 2 ^ k % 2 = 1
  · rw [q]; simp
  · have h2 : a / 2 ^ k % 2 = 0 := by omega
    rw [h2]; simp
theorem nb_one {k : Nat} (hk : k < 31) : am_shl 1 (k : Int) = ((2 ^ k : Nat) : Int) := by
  have h := nb_shl (a := 1) (k := k) (by omega) (by rw [Nat.one_shiftLeft]; exact Nat.lt_of_lt_of_le (Nat.pow_lt_pow_right (by decide) hk) (by decide)) (by decide)
  rw [Nat.one_shiftLeft] at h
  exact h
