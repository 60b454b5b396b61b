/-! Bits of the machine's ints, for numbers that are not negative -/
section NUMS
theorem b32 {n : Nat} (h : n < 2147483648) : (Int32.ofInt (n : Int)).toBitVec.toNat = n := by
  rw [Int32.toBitVec_ofInt, BitVec.toNat_ofInt]
  omega
theorem t32 {x : Int32} {n : Nat} (h : x.toBitVec.toNat = n) (hn : n < 2147483648) : x.toInt = n := by
  show x.toBitVec.toInt = n
  rw [BitVec.toInt_eq_toNat_of_lt (by rw [h]; omega), h]
theorem b64 {n : Nat} (h : n < 9223372036854775808) : (Int64.ofInt (n : Int)).toBitVec.toNat = n := by
  rw [Int64.toBitVec_ofInt, BitVec.toNat_ofInt]
  omega
theorem t64 {x : Int64} {n : Nat} (h : x.toBitVec.toNat = n) (hn : n < 9223372036854775808) : x.toInt = n := by
  show x.toBitVec.toInt = n
  rw [BitVec.toInt_eq_toNat_of_lt (by rw [h]; omega), h]
theorem shk {k : Nat} (hk : k < 32) : ((Int32.ofInt (k : Int) &&& 31).toBitVec.smod 32).toNat = k := by
  have h : (Int32.ofInt (k : Int) &&& 31).toBitVec = BitVec.ofNat 32 k := BitVec.eq_of_toNat_eq (by
    rw [Int32.toBitVec_and, BitVec.toNat_and, b32 (by omega)]
    show k &&& 31 = (BitVec.ofNat 32 k).toNat
    rw [show (31 : Nat) = 2 ^ 5 - 1 from rfl, Nat.and_two_pow_sub_one_eq_mod, BitVec.toNat_ofNat]
    omega)
  rw [h]
  revert k
  decide
theorem shk64 {k : Nat} (hk : k < 64) : (((Int32.ofInt (k : Int)).toInt64 &&& 63).toBitVec.smod 64).toNat = k := by
  have h0 : (Int32.ofInt (k : Int)).toInt64.toBitVec.toNat = k := by
    have h1 : (Int32.ofInt (k : Int)).toInt64.toInt = k := by rw [Int32.toInt_toInt64]; exact t32 (b32 (by omega)) (by omega)
    have h2 : (Int32.ofInt (k : Int)).toInt64 = Int64.ofInt k := by
      have h3 := Int64.ofInt_toInt (Int32.ofInt (k : Int)).toInt64
      rw [h1] at h3
      exact h3.symm
    rw [h2]
    exact b64 (by omega)
  have h : ((Int32.ofInt (k : Int)).toInt64 &&& 63).toBitVec = BitVec.ofNat 64 k := BitVec.eq_of_toNat_eq (by
    rw [Int64.toBitVec_and, BitVec.toNat_and, h0]
    show k &&& 63 = (BitVec.ofNat 64 k).toNat
    rw [show (63 : Nat) = 2 ^ 6 - 1 from rfl, Nat.and_two_pow_sub_one_eq_mod, BitVec.toNat_ofNat]
    omega)
  rw [h]
  clear h h0
  revert k
  decide
theorem jop3 {x y : Nat} (hx : x < 2147483648) (hy : y < 2147483648) : j_op 3 x y = ((x &&& y : Nat) : Int) := by
  refine t32 ?_ (Nat.lt_of_le_of_lt Nat.and_le_left hx)
  rw [Int32.toBitVec_and, BitVec.toNat_and, b32 hx, b32 hy]
theorem jop4 {x y : Nat} (hx : x < 2147483648) (hy : y < 2147483648) : j_op 4 x y = ((x ||| y : Nat) : Int) := by
  refine t32 ?_ (Nat.or_lt_two_pow (n := 31) hx hy)
  rw [Int32.toBitVec_or, BitVec.toNat_or, b32 hx, b32 hy]
theorem jop6 {x k : Nat} (hk : k < 32) (hx : x * 2 ^ k < 2147483648) : j_op 6 x k = ((x * 2 ^ k : Nat) : Int) := by
  have h1 : x < 2147483648 := Nat.lt_of_le_of_lt (Nat.le_mul_of_pos_right _ (Nat.two_pow_pos k)) hx
  refine t32 ?_ hx
  rw [Int32.toBitVec_shiftLeft, BitVec.shiftLeft_eq', BitVec.toNat_shiftLeft, b32 h1, shk hk, Nat.shiftLeft_eq]
  omega
theorem jop7 {x k : Nat} (hk : k < 32) (hx : x < 2147483648) : j_op 7 x k = ((x / 2 ^ k : Nat) : Int) := by
  refine t32 ?_ (Nat.lt_of_le_of_lt (Nat.div_le_self _ _) hx)
  rw [Int32.toBitVec_shiftRight, BitVec.sshiftRight_eq', shk hk, BitVec.toNat_sshiftRight_of_msb_false, b32 hx, Nat.shiftRight_eq_div_pow]
  rw [BitVec.msb_eq_false_iff_two_mul_lt, b32 hx]
  omega
theorem jlop3 {x y : Nat} (hx : x < 9223372036854775808) (hy : y < 9223372036854775808) : j_lop 3 x y = ((x &&& y : Nat) : Int) := by
  refine t64 ?_ (Nat.lt_of_le_of_lt Nat.and_le_left hx)
  rw [Int64.toBitVec_and, BitVec.toNat_and, b64 hx, b64 hy]
theorem jlop4 {x y : Nat} (hx : x < 9223372036854775808) (hy : y < 9223372036854775808) : j_lop 4 x y = ((x ||| y : Nat) : Int) := by
  refine t64 ?_ (Nat.or_lt_two_pow (n := 63) hx hy)
  rw [Int64.toBitVec_or, BitVec.toNat_or, b64 hx, b64 hy]
theorem jlshl {x k : Nat} (hk : k < 64) (hx : x * 2 ^ k < 9223372036854775808) : j_lshl x k = ((x * 2 ^ k : Nat) : Int) := by
  have h1 : x < 9223372036854775808 := Nat.lt_of_le_of_lt (Nat.le_mul_of_pos_right _ (Nat.two_pow_pos k)) hx
  refine t64 ?_ hx
  rw [Int64.toBitVec_shiftLeft, BitVec.shiftLeft_eq', BitVec.toNat_shiftLeft, b64 h1, shk64 hk, Nat.shiftLeft_eq]
  omega
theorem jlshr {x k : Nat} (hk : k < 64) (hx : x < 9223372036854775808) : j_lshr x k = ((x / 2 ^ k : Nat) : Int) := by
  refine t64 ?_ (Nat.lt_of_le_of_lt (Nat.div_le_self _ _) hx)
  rw [Int64.toBitVec_shiftRight, BitVec.sshiftRight_eq', shk64 hk, BitVec.toNat_sshiftRight_of_msb_false, b64 hx, Nat.shiftRight_eq_div_pow]
  rw [BitVec.msb_eq_false_iff_two_mul_lt, b64 hx]
  omega
/-- a bit -/
theorem jbit1 (x : Int) : j_op 3 x 1 = 0 ∨ j_op 3 x 1 = 1 := by
  have h : (Int32.ofInt x &&& Int32.ofInt 1).toBitVec.toNat = (Int32.ofInt x).toBitVec.toNat % 2 := by
    rw [Int32.toBitVec_and, BitVec.toNat_and]
    exact Nat.and_one_is_mod _
  have h2 := t32 h (by omega)
  show (Int32.ofInt x &&& Int32.ofInt 1).toInt = 0 ∨ (Int32.ofInt x &&& Int32.ofInt 1).toInt = 1
  rw [h2]
  omega
theorem jbit {x k : Nat} (hk : k < 32) (hx : x < 2147483648) : j_op 3 (j_op 7 x k) 1 = if x.testBit k = true then 1 else 0 := by
  rw [jop7 hk hx]
  have h := jop3 (x := x / 2 ^ k) (y := 1) (Nat.lt_of_le_of_lt (Nat.div_le_self _ _) hx) (by decide)
  rw [show ((1 : Nat) : Int) = 1 from rfl] at h
  rw [h, Nat.and_one_is_mod, Nat.testBit_eq_decide_div_mod_eq]
  split
  · rename_i h
    rw [of_decide_eq_true h]; rfl
  · rename_i h
    have : ¬ x / 2 ^ k % 2 = 1 := fun q => h (decide_eq_true q)
    omega
theorem jsh1 {k : Nat} (hk : k < 31) : j_op 6 1 k = ((2 ^ k : Nat) : Int) := by
  have h : (2 : Nat) ^ k < 2 ^ 31 := Nat.pow_lt_pow_right (by decide) hk
  have := jop6 (x := 1) (k := k) (by omega) (by omega)
  rw [Nat.one_mul] at this
  exact this
theorem jw_rg (x : Int32) : j_w x.toInt = x.toInt := by unfold j_w; rw [Int32.ofInt_toInt]
theorem jdiv {x y : Int} (hx : 0 ≤ x ∧ x < 2147483648) (hy : 0 < y ∧ y < 2147483648) : j_div x y = x / y := by
  have h1 : (Int32.ofInt x).toInt = x := Int32.toInt_ofInt_of_le (by omega) (by omega)
  have h2 : (Int32.ofInt y).toInt = y := Int32.toInt_ofInt_of_le (by omega) (by omega)
  unfold j_div
  rw [Int32.toInt_div_of_ne_right _ _ (fun q => by rw [q] at h2; have : (-1 : Int32).toInt = -1 := rfl; omega), h1, h2, Int.tdiv_eq_ediv_of_nonneg (by omega)]
theorem jrem {x y : Int} (hx : 0 ≤ x ∧ x < 2147483648) (hy : 0 < y ∧ y < 2147483648) : j_rem x y = x % y := by
  have h1 : (Int32.ofInt x).toInt = x := Int32.toInt_ofInt_of_le (by omega) (by omega)
  have h2 : (Int32.ofInt y).toInt = y := Int32.toInt_ofInt_of_le (by omega) (by omega)
  have h3 : (Int32.ofInt x / Int32.ofInt y).toInt = x / y := jdiv hx hy
  have h4 := Int.mul_ediv_add_emod x y
  have h5 := Int.emod_nonneg x (show y ≠ 0 by omega)
  have h6 := Int.emod_lt_of_pos x hy.1
  have h7 : 0 ≤ x / y := Int.ediv_nonneg hx.1 (by omega)
  have h8 : 0 ≤ y * (x / y) := Int.mul_nonneg (by omega) h7
  have h9 : (Int32.ofInt x / Int32.ofInt y * Int32.ofInt y).toInt = x / y * y := by
    rw [Int32.toInt_mul, h3, h2, Int.bmod_eq_of_le (by rw [Int.mul_comm]; omega) (by rw [Int.mul_comm]; omega)]
  unfold j_rem
  rw [Int32.toInt_sub, h9, h1, Int.mul_comm, Int.bmod_eq_of_le (by omega) (by omega)]
  omega
theorem jldiv {x y : Int} (hx : 0 ≤ x ∧ x < 9223372036854775808) (hy : 0 < y ∧ y < 9223372036854775808) : j_ldiv x y = x / y := by
  have h1 : (Int64.ofInt x).toInt = x := Int64.toInt_ofInt_of_le (by omega) (by omega)
  have h2 : (Int64.ofInt y).toInt = y := Int64.toInt_ofInt_of_le (by omega) (by omega)
  unfold j_ldiv
  rw [Int64.toInt_div_of_ne_right _ _ (fun q => by rw [q] at h2; have : (-1 : Int64).toInt = -1 := rfl; omega), h1, h2, Int.tdiv_eq_ediv_of_nonneg (by omega)]
theorem jlrem {x y : Int} (hx : 0 ≤ x ∧ x < 9223372036854775808) (hy : 0 < y ∧ y < 9223372036854775808) : j_lrem x y = x % y := by
  have h1 : (Int64.ofInt x).toInt = x := Int64.toInt_ofInt_of_le (by omega) (by omega)
  have h2 : (Int64.ofInt y).toInt = y := Int64.toInt_ofInt_of_le (by omega) (by omega)
  have h3 : (Int64.ofInt x / Int64.ofInt y).toInt = x / y := jldiv hx hy
  have h4 := Int.mul_ediv_add_emod x y
  have h5 := Int.emod_nonneg x (show y ≠ 0 by omega)
  have h6 := Int.emod_lt_of_pos x hy.1
  have h7 : 0 ≤ x / y := Int.ediv_nonneg hx.1 (by omega)
  have h8 : 0 ≤ y * (x / y) := Int.mul_nonneg (by omega) h7
  have h9 : (Int64.ofInt x / Int64.ofInt y * Int64.ofInt y).toInt = x / y * y := by
    rw [Int64.toInt_mul, h3, h2, Int.bmod_eq_of_le (by rw [Int.mul_comm]; omega) (by rw [Int.mul_comm]; omega)]
  unfold j_lrem
  rw [Int64.toInt_sub, h9, h1, Int.mul_comm, Int.bmod_eq_of_le (by omega) (by omega)]
  omega
theorem jor_small {x c : Int} (hx : 0 ≤ x ∧ x < 33554432) (hc : 0 ≤ c ∧ c < 32) : j_op 4 (j_op 6 x 5) c = x * 32 + c := by
  obtain ⟨n, rfl⟩ := Int.eq_ofNat_of_zero_le hx.1
  obtain ⟨m, rfl⟩ := Int.eq_ofNat_of_zero_le hc.1
  have h1 := jop6 (x := n) (k := 5) (by decide) (by omega)
  rw [show ((5 : Nat) : Int) = 5 from rfl] at h1
  rw [h1, jop4 (by omega) (by omega), ← Nat.shiftLeft_eq, ← Nat.shiftLeft_add_eq_or_of_lt (by omega), Nat.shiftLeft_eq]
  omega
end NUMS
