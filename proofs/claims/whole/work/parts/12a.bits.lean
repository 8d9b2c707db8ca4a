/-! bits of numbers, for any number -/
theorem nI_bv (a : Nat) : (nI a).toBitVec = BitVec.ofNat 32 a := rfl
theorem nI_and (a b : Nat) : nI a &&& nI b = nI (a &&& b) := by
  apply Int32.toBitVec_inj.mp
  rw [Int32.toBitVec_and, nI_bv, nI_bv, nI_bv, BitVec.ofNat_and]
theorem nI_or (a b : Nat) : nI a ||| nI b = nI (a ||| b) := by
  apply Int32.toBitVec_inj.mp
  rw [Int32.toBitVec_or, nI_bv, nI_bv, nI_bv, BitVec.ofNat_or]
theorem nI_xor (a b : Nat) : nI a ^^^ nI b = nI (a ^^^ b) := by
  apply Int32.toBitVec_inj.mp
  rw [Int32.toBitVec_xor, nI_bv, nI_bv, nI_bv, BitVec.ofNat_xor]
theorem nI_neg1 : (-1 : Int32) = nI 4294967295 := by decide
theorem sh_amt : ∀ s, s < 32 → ((nI s &&& 31).toBitVec.smod 32).toNat = s := by decide +kernel
theorem nI_shl {a s : Nat} (hs : s < 32) : nI a <<< (nI s &&& 31) = nI (a * 2 ^ s) := by
  apply Int32.toBitVec_inj.mp
  rw [Int32.toBitVec_shiftLeft, nI_bv, nI_bv, BitVec.shiftLeft_eq', sh_amt s hs]
  apply BitVec.eq_of_toNat_eq
  simp [Nat.shiftLeft_eq, Nat.mod_mul_mod]
theorem nI_shr {a s : Nat} (ha : a < 2 ^ 31) (hs : s < 32) : nI a >>> (nI s &&& 31) = nI (a >>> s) := by
  apply Int32.toBitVec_inj.mp
  rw [Int32.toBitVec_shiftRight, nI_bv, nI_bv]
  have : (BitVec.ofNat 32 a).msb = false := by
    rw [BitVec.msb_eq_decide]
    simp
    omega
  rw [BitVec.sshiftRight_eq', sh_amt s hs, BitVec.sshiftRight_eq_of_msb_false this]
  apply BitVec.eq_of_toNat_eq
  have h2 : a >>> s ≤ a := Nat.shiftRight_le a s
  simp [Nat.mod_eq_of_lt (show a < 4294967296 by omega), Nat.mod_eq_of_lt (show a >>> s < 4294967296 by omega)]
theorem nI_z32 {a : Nat} (h : a < 2 ^ 32) : (nI a = 0) = (a = 0) := by
  apply propext
  constructor
  · intro e
    have := congrArg (fun x => x.toBitVec.toNat) e
    simp [nI_bv] at this
    omega
  · rintro rfl
    rfl
theorem nI_md {a : Nat} : nI (a % 2 ^ 32) = nI a := by
  apply Int32.toBitVec_inj.mp
  rw [nI_bv, nI_bv]
  apply BitVec.eq_of_toNat_eq
  simp
theorem nI_sub' {a b : Nat} (h : b ≤ a) : nI a - nI b = nI (a - b) := nI_sub h
theorem nI_div {a b : Nat} (ha : a < 2 ^ 31) (hb : b < 2 ^ 31) : nI a / nI b = nI (a / b) := by
  apply Int32.toBitVec_inj.mp
  rw [Int32.toBitVec_div, nI_bv, nI_bv, nI_bv]
  have m1 : (BitVec.ofNat 32 a).msb = false := by rw [BitVec.msb_eq_decide]; simp; omega
  have m2 : (BitVec.ofNat 32 b).msb = false := by rw [BitVec.msb_eq_decide]; simp; omega
  rw [BitVec.sdiv_eq, m1, m2]
  apply BitVec.eq_of_toNat_eq
  have : a / b ≤ a := Nat.div_le_self a b
  simp [Nat.mod_eq_of_lt (show a < 4294967296 by omega), Nat.mod_eq_of_lt (show b < 4294967296 by omega), Nat.mod_eq_of_lt (show a / b < 4294967296 by omega)]
theorem nI_md32 {a : Nat} (ha : a < 2 ^ 31) : nI a - nI a / nI 32 * nI 32 = nI (a % 32) := by
  rw [nI_div ha (by decide), pk_mul, nI_sub (by omega)]
  congr 1
  omega
/-- a digit below -/
theorem ad_and {x y i j : Nat} (hi : i < 4) (hj : j < 4) : (4 * x + i) &&& (4 * y + j) = 4 * (x &&& y) + (i &&& j) := by
  apply Nat.eq_of_testBit_eq
  intro k
  have h4 : (4 : Nat) = 2 ^ 2 := rfl
  have hij : i &&& j < 2 ^ 2 := Nat.and_lt_two_pow i hj
  rw [Nat.testBit_and, h4, Nat.testBit_two_pow_mul_add x (show i < 2 ^ 2 from hi), Nat.testBit_two_pow_mul_add y (show j < 2 ^ 2 from hj), Nat.testBit_two_pow_mul_add _ hij]
  split <;> simp [Nat.testBit_and]
theorem ad_or {x y i j : Nat} (hi : i < 4) (hj : j < 4) : (4 * x + i) ||| (4 * y + j) = 4 * (x ||| y) + (i ||| j) := by
  apply Nat.eq_of_testBit_eq
  intro k
  have h4 : (4 : Nat) = 2 ^ 2 := rfl
  have hij : i ||| j < 2 ^ 2 := Nat.or_lt_two_pow (show i < 2 ^ 2 from hi) (show j < 2 ^ 2 from hj)
  rw [Nat.testBit_or, h4, Nat.testBit_two_pow_mul_add x (show i < 2 ^ 2 from hi), Nat.testBit_two_pow_mul_add y (show j < 2 ^ 2 from hj), Nat.testBit_two_pow_mul_add _ hij]
  split <;> simp [Nat.testBit_or]
theorem ad_xor {x y i j : Nat} (hi : i < 4) (hj : j < 4) : (4 * x + i) ^^^ (4 * y + j) = 4 * (x ^^^ y) + (i ^^^ j) := by
  apply Nat.eq_of_testBit_eq
  intro k
  have h4 : (4 : Nat) = 2 ^ 2 := rfl
  have hij : i ^^^ j < 2 ^ 2 := Nat.xor_lt_two_pow (show i < 2 ^ 2 from hi) (show j < 2 ^ 2 from hj)
  rw [Nat.testBit_xor, h4, Nat.testBit_two_pow_mul_add x (show i < 2 ^ 2 from hi), Nat.testBit_two_pow_mul_add y (show j < 2 ^ 2 from hj), Nat.testBit_two_pow_mul_add _ hij]
  split <;> simp [Nat.testBit_xor]
