/-! The parts of an instruction's word. -/
theorem and_le (x : Int32) (n : Nat) (hn : n < 2147483648) : 0 ≤ x &&& Int32.ofNat n ∧ x &&& Int32.ofNat n ≤ Int32.ofNat n := by
  have h0 : (0 : Int32).toInt = 0 := rfl
  have e1 : (Int32.ofNat n).toInt = n := Int32.toInt_ofNat_of_lt (by omega)
  have e2 : (Int32.ofNat n).toBitVec = BitVec.ofNat 32 n := rfl
  have e3 : (x &&& Int32.ofNat n).toBitVec.toNat = x.toBitVec.toNat &&& n := by
    rw [Int32.toBitVec_and, BitVec.toNat_and, e2, BitVec.toNat_ofNat, Nat.mod_eq_of_lt (by omega)]
  have e4 : (x &&& Int32.ofNat n).toBitVec.toNat ≤ n := by
    rw [e3]
    exact Nat.and_le_right
  have e5 : (x &&& Int32.ofNat n).toInt = (x &&& Int32.ofNat n).toBitVec.toNat := by
    show (x &&& Int32.ofNat n).toBitVec.toInt = _
    rw [BitVec.toInt_eq_toNat_of_lt (by omega)]
  rw [i32_le, i32_le, h0, e1, e5]
  omega
theorem iA_in (w : Int32) : 0 ≤ iA w ∧ iA w ≤ 255 := and_le _ 255 (by decide)
theorem iC_in (w : Int32) : 0 ≤ iC w ∧ iC w ≤ 511 := and_le _ 511 (by decide)
theorem iO_in (w : Int32) : 0 ≤ iO w ∧ iO w ≤ 63 := and_le _ 63 (by decide)
theorem ushr_in (w : Int32) (k : Nat) (hk : 0 < k ∧ k < 32) : 0 ≤ iushr w (Int32.ofNat k) ∧ (iushr w (Int32.ofNat k)).toInt < 2 ^ (32 - k) := by
  have h0 : (0 : Int32).toInt = 0 := rfl
  have e1 : ((Int32.ofNat k).toUInt32 &&& Int32.toUInt32 31).toNat = k := by
    show (BitVec.ofNat 32 k &&& 31#32).toNat = k
    rw [BitVec.toNat_and, BitVec.toNat_ofNat, Nat.mod_eq_of_lt (by omega)]
    show k &&& 31 = k
    exact Nat.and_two_pow_sub_one_of_lt_two_pow (n := 5) (by omega)
  have e2 : (w.toUInt32 >>> ((Int32.ofNat k).toUInt32 &&& Int32.toUInt32 31)).toNat = w.toUInt32.toNat >>> k := by
    rw [UInt32.toNat_shiftRight, e1, Nat.mod_eq_of_lt (by omega)]
  have e3 : w.toUInt32.toNat < 2 ^ 32 := w.toUInt32.toNat_lt
  have e4 : w.toUInt32.toNat >>> k < 2 ^ (32 - k) := by
    rw [Nat.shiftRight_eq_div_pow]
    apply Nat.div_lt_of_lt_mul
    rw [← Nat.pow_add]
    have : k + (32 - k) = 32 := by omega
    rw [this]
    exact e3
  have e5 : 2 ^ (32 - k) ≤ 2 ^ 31 := Nat.pow_le_pow_right (by decide) (by omega)
  have e6 : (iushr w (Int32.ofNat k)).toInt = (w.toUInt32.toNat >>> k : Nat) := by
    unfold iushr
    show (w.toUInt32 >>> ((Int32.ofNat k).toUInt32 &&& Int32.toUInt32 31)).toBitVec.toInt = _
    rw [BitVec.toInt_eq_toNat_of_lt]
    · exact congrArg _ e2
    · have : (w.toUInt32 >>> ((Int32.ofNat k).toUInt32 &&& Int32.toUInt32 31)).toBitVec.toNat = w.toUInt32.toNat >>> k := e2
      rw [this]
      omega
  rw [i32_le, h0, e6]
  have e7 : ((2 ^ (32 - k) : Nat) : Int) = 2 ^ (32 - k) := by simp
  refine ⟨by omega, ?_⟩
  rw [← e7]
  omega
theorem iB_in (w : Int32) : 0 ≤ iB w ∧ iB w ≤ 511 := by
  have h := ushr_in w 23 (by decide)
  have c : (511 : Int32).toInt = 511 := rfl
  refine ⟨h.1, ?_⟩
  rw [i32_le, c]
  have := h.2
  have e : (2 : Int) ^ (32 - 23) = 512 := by decide
  rw [e] at this
  show (iushr w (Int32.ofNat 23)).toInt ≤ 511
  omega
theorem iX_in (w : Int32) : 0 ≤ iX w ∧ iX w ≤ 262143 := by
  have h := ushr_in w 14 (by decide)
  have c : (262143 : Int32).toInt = 262143 := rfl
  refine ⟨h.1, ?_⟩
  rw [i32_le, c]
  have := h.2
  have e : (2 : Int) ^ (32 - 14) = 262144 := by decide
  rw [e] at this
  show (iushr w (Int32.ofNat 14)).toInt ≤ 262143
  omega
