/-! numbers: division and bits -/
theorem n_div {a b : Nat} (ha : a < 2147483648) (hb : b < 2147483648) : nI a / nI b = nI (a / b) := by
  have hne : nI a ≠ Int32.minValue := by
    intro h
    have := nI_pos (n := a) ha
    rw [h] at this
    exact this (by decide)
  apply Int32.toInt_inj.mp
  rw [Int32.toInt_div_of_ne_left _ _ hne, nI_toInt ha, nI_toInt hb, nI_toInt (Nat.lt_of_le_of_lt (Nat.div_le_self a b) ha)]
  rfl
theorem n_rem {a b : Nat} (ha : a < 2147483648) (hb : b < 2147483648) : q_rem (nI a) (nI b) = nI (a % b) := by
  unfold q_rem
  rw [n_div ha hb, n_mul, n_sub (Nat.div_mul_le_self a b)]
  congr 1
  have := Nat.div_add_mod a b
  rw [Nat.mul_comm] at this
  omega
theorem n_and (a b : Nat) : nI a &&& nI b = nI (a &&& b) := by
  apply Int32.toBitVec_inj.mp
  simp [nI, Int32.toBitVec_and]
theorem n_or (a b : Nat) : nI a ||| nI b = nI (a ||| b) := by
  apply Int32.toBitVec_inj.mp
  simp [nI, Int32.toBitVec_or]
theorem n_xor (a b : Nat) : nI a ^^^ nI b = nI (a ^^^ b) := by
  apply Int32.toBitVec_inj.mp
  simp [nI, Int32.toBitVec_xor]
theorem n_31 {k : Nat} (h : k < 32) : nI k &&& nI 31 = nI k := by
  rw [n_and]
  congr 1
  rw [show 31 = 2 ^ 5 - 1 from rfl, Nat.and_two_pow_sub_one_eq_mod]
  omega
theorem n_sm {k : Nat} (h : k < 32) : ((BitVec.ofNat 32 k).smod 32#32).toNat = k := (by decide : ∀ k : Fin 32, ((BitVec.ofNat 32 k.val).smod 32#32).toNat = k.val) ⟨k, h⟩
theorem n_shl {k a : Nat} (h : k < 32) : nI a <<< nI k = nI (a <<< k) := by
  apply Int32.toBitVec_inj.mp
  rw [Int32.toBitVec_shiftLeft]
  show BitVec.ofNat 32 a <<< ((BitVec.ofNat 32 k).smod 32#32).toNat = BitVec.ofNat 32 (a <<< k)
  rw [n_sm h]
  apply BitVec.eq_of_toNat_eq
  rw [BitVec.toNat_shiftLeft, BitVec.toNat_ofNat, BitVec.toNat_ofNat, Nat.shiftLeft_eq, Nat.shiftLeft_eq, Nat.mod_mul_mod]
theorem n_shr {k a : Nat} (h : k < 32) (ha : a < 2147483648) : nI a >>> nI k = nI (a >>> k) := by
  apply Int32.toBitVec_inj.mp
  rw [Int32.toBitVec_shiftRight]
  show (BitVec.ofNat 32 a).sshiftRight ((BitVec.ofNat 32 k).smod 32#32).toNat = BitVec.ofNat 32 (a >>> k)
  rw [n_sm h]
  have hle : a >>> k ≤ a := by rw [Nat.shiftRight_eq_div_pow]; exact Nat.div_le_self _ _
  rw [BitVec.sshiftRight_eq_of_msb_false (by
    rw [BitVec.msb_eq_decide, BitVec.toNat_ofNat, Nat.mod_eq_of_lt (by omega)]
    simp
    omega)]
  apply BitVec.eq_of_toNat_eq
  rw [BitVec.toNat_ushiftRight, BitVec.toNat_ofNat, BitVec.toNat_ofNat, Nat.mod_eq_of_lt (by omega), Nat.mod_eq_of_lt (by omega)]
theorem n_bit {k a : Nat} (h : k < 32) (ha : a < 2147483648) : ((nI a >>> (nI k &&& nI 31)) &&& nI 1 = nI 1) = (a.testBit k = true) := by
  rw [n_31 h, n_shr h ha, n_and, n_eq (by
    have : (a >>> k) &&& 1 ≤ 1 := Nat.and_le_right
    omega) (by omega), Nat.and_one_is_mod]
  simp [Nat.testBit, Nat.and_comm 1, Nat.and_one_is_mod]
theorem n_bit0 {k a : Nat} (h : k < 32) (ha : a < 2147483648) : ((nI a >>> (nI k &&& nI 31)) &&& nI 1 = nI 0) = (a.testBit k = false) := by
  rw [n_31 h, n_shr h ha, n_and, n_eq (by
    have : (a >>> k) &&& 1 ≤ 1 := Nat.and_le_right
    omega) (by omega), Nat.and_one_is_mod]
  simp [Nat.testBit, Nat.and_comm 1, Nat.and_one_is_mod]
theorem n_one {k : Nat} (h : k < 32) : nI 1 <<< (nI k &&& nI 31) = nI (2 ^ k) := by
  rw [n_31 h, n_shl h, Nat.one_shiftLeft]
theorem n_tb {k a : Nat} (h : k < 32) (ha : a < 2147483648) : ((nI a >>> nI k) &&& nI 1 = nI 1) = (a.testBit k = true) := by
  rw [← n_31 h]; exact n_bit h ha
theorem n_tb0 {k a : Nat} (h : k < 32) (ha : a < 2147483648) : ((nI a >>> nI k) &&& nI 1 = nI 0) = (a.testBit k = false) := by
  rw [← n_31 h]; exact n_bit0 h ha
theorem n_p2 {k : Nat} (h : k < 32) : nI 1 <<< nI k = nI (2 ^ k) := by
  rw [n_shl h, Nat.one_shiftLeft]
