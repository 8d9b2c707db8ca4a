/-! longs as rows of bits -/
def nJ (a : Nat) : Int64 := Int64.ofNat a
theorem nJ_bv (a : Nat) : (nJ a).toBitVec = BitVec.ofNat 64 a := rfl
theorem nJ_or (a b : Nat) : nJ a ||| nJ b = nJ (a ||| b) := by
  apply Int64.toBitVec_inj.mp
  rw [Int64.toBitVec_or, nJ_bv, nJ_bv, nJ_bv, BitVec.ofNat_or]
theorem nJ_0 : (0 : Int64) = nJ 0 := rfl
theorem nJ_1 : (1 : Int64) = nJ 1 := rfl
theorem jsh_amt : ∀ s, s < 64 → (((nI s).toInt64 &&& 63).toBitVec.smod 64).toNat = s := by decide +kernel
theorem jsh1 : ∀ s, s < 64 → (1 : Int64) <<< ((nI s).toInt64 &&& 63) = nJ (2 ^ s) := by decide +kernel
theorem jbit {a s : Nat} (hs : s < 64) : (nJ a >>> ((nI s).toInt64 &&& 63)) &&& 1 = if a.testBit s = true then nJ 1 else nJ 0 := by
  apply Int64.toBitVec_inj.mp
  rw [Int64.toBitVec_and, Int64.toBitVec_shiftRight, nJ_bv, BitVec.sshiftRight_eq', jsh_amt s hs]
  apply BitVec.eq_of_getLsbD_eq
  intro i hi
  rw [BitVec.getLsbD_and, BitVec.getLsbD_sshiftRight]
  have h1 : ∀ j, (nJ 1).toBitVec.getLsbD j = decide (0 = j) := fun j => by
    rw [nJ_bv, BitVec.getLsbD_ofNat, show (1 : Nat) = 2 ^ 0 from rfl, Nat.testBit_two_pow]
    by_cases h : 0 = j <;> simp [h]
    omega
  have h2 : ∀ j, (nJ 0).toBitVec.getLsbD j = false := fun j => by
    rw [nJ_bv, BitVec.getLsbD_ofNat, Nat.zero_testBit, Bool.and_false]
  rw [nJ_1, h1]
  by_cases h0 : 0 = i
  · subst h0
    rw [if_pos (show s + 0 < 64 by omega), BitVec.getLsbD_ofNat]
    cases h : a.testBit s with
    | true => simp [h, hs, h1, h2]
    | false =>
      rw [if_neg (by decide), h2]
      simp [h]
  · rw [decide_eq_false h0, Bool.and_false]
    split
    · rw [h1, decide_eq_false h0]
    · rw [h2]
theorem jcmp0 : lg_cmp (nJ 0) 0 = 0 := by decide
theorem jcmp1 : ¬ lg_cmp (nJ 1) 0 = 0 := by decide
