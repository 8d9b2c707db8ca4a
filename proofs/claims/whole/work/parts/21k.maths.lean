/-! ones counted: longs -/
section
variable {x a b : Nat}
theorem nJ_and (a b : Nat) : nJ a &&& nJ b = nJ (a &&& b) := by
  apply Int64.toBitVec_inj.mp
  rw [Int64.toBitVec_and, nJ_bv, nJ_bv, nJ_bv, BitVec.ofNat_and]
theorem nJ_add (a b : Nat) : nJ a + nJ b = nJ (a + b) := by
  apply Int64.toBitVec_inj.mp
  rw [Int64.toBitVec_add, nJ_bv, nJ_bv, nJ_bv, BitVec.ofNat_add]
theorem nJ_sub (h : b ≤ a) : nJ a - nJ b = nJ (a - b) := by
  have e : nJ a = nJ (a - b) + nJ b := by rw [nJ_add, Nat.sub_add_cancel h]
  rw [e, Int64.add_sub_cancel]
theorem nJ_us {a : Nat} (ha : a < 2 ^ 64) (u : UInt64) : ((nJ a).toUInt64 >>> u).toInt64 = nJ (a >>> (u.toNat % 64)) := by
  apply Int64.toBitVec_inj.mp
  rw [nJ_bv]
  apply BitVec.eq_of_toNat_eq
  show ((nJ a).toUInt64 >>> u).toNat = _
  have e : (nJ a).toUInt64.toNat = a := by
    show (BitVec.ofNat 64 a).toNat = a
    rw [BitVec.toNat_ofNat, Nat.mod_eq_of_lt ha]
  rw [UInt64.toNat_shiftRight, e, BitVec.toNat_ofNat, Nat.mod_eq_of_lt (Nat.lt_of_le_of_lt (Nat.shiftRight_le _ _) ha)]
theorem nJ_i (a : Nat) : (nJ a).toInt32 = nI a := by
  apply Int32.toBitVec_inj.mp
  show (BitVec.ofNat 64 a).signExtend 32 = BitVec.ofNat 32 a
  rw [BitVec.signExtend_eq_setWidth_of_le _ (by decide), BitVec.setWidth_ofNat_of_le (by decide)]
theorem s1W_J {k : Nat} (hx : x < 2 ^ 64) {u : UInt64} {c : Int64} (hu : u.toNat % 64 = 1) (hc : c = nJ (rpB 85 k)) : nJ x - (((nJ x).toUInt64 >>> u).toInt64 &&& c) = nJ (s1W k x) := by
  unfold s1W
  rw [nJ_us hx, hu, hc, nJ_and, nJ_sub s1W_le]
theorem s2W_J {k : Nat} (hx : x < 2 ^ 64) {u : UInt64} {c : Int64} (hu : u.toNat % 64 = 2) (hc : c = nJ (rpB 51 k)) : (nJ x &&& c) + (((nJ x).toUInt64 >>> u).toInt64 &&& c) = nJ (s2W k x) := by
  unfold s2W
  rw [nJ_us hx, hu, hc, nJ_and, nJ_and, nJ_add]
theorem s3W_J {k : Nat} (hx : x < 2 ^ 64) {u : UInt64} {c : Int64} (hu : u.toNat % 64 = 4) (hc : c = nJ (rpB 15 k)) : nJ x + ((nJ x).toUInt64 >>> u).toInt64 &&& c = nJ (s3W k x) := by
  unfold s3W
  rw [nJ_us hx, hu, hc, nJ_add, nJ_and]
theorem s4W_J (hx : x < 2 ^ 64) {u : UInt64} {t : Nat} (hu : u.toNat % 64 = t) : nJ x + ((nJ x).toUInt64 >>> u).toInt64 = nJ (x + x / 2 ^ t) := by
  rw [nJ_us hx, hu, nJ_add, Nat.shiftRight_eq_div_pow]
/-- eight bytes, told by two fours -/
theorem swW_8 (hx : x < 2 ^ 64) : swW 8 x = 4294967296 * swW 4 (x / 256 / 256 / 256 / 256) + (256 * (256 * (256 * ons 8 (x / 256 / 256 / 256) + ons 8 (x / 256 / 256)) + ons 8 (x / 256)) + ons 8 x) := by
  rw [swW_s (k := 7) (by omega), swW_s (k := 6) (by omega), swW_s (k := 5) (by omega), swW_s (k := 4) (by omega)]
  omega
theorem ons_64 : ons 64 x = ons 32 x + ons 32 (x / 256 / 256 / 256 / 256) := by
  rw [show (64 : Nat) = 32 + 32 from rfl, ons_ad, show x / 2 ^ 32 = x / 256 / 256 / 256 / 256 by omega]
theorem dv_e {q r t c : Nat} (hr : r < t) (hc : c = t * q + r) : c / t = q := by
  rw [hc, Nat.mul_add_div (Nat.lt_of_le_of_lt (Nat.zero_le _) hr), Nat.div_eq_of_lt hr, Nat.add_zero]
theorem md_e {q r c : Nat} (hr : r < 128) (hc : c = 256 * q + r) : c % 2 ^ 7 = r := by omega
theorem swJ_1 {p0 p1 p2 p3 p4 p5 p6 p7 c : Nat} (hc : c = 4294967296 * (256 * (256 * (256 * p7 + p6) + p5) + p4) + (256 * (256 * (256 * p3 + p2) + p1) + p0)) : c = 2 ^ 8 * (p1 + 256 * p2 + 65536 * p3 + 16777216 * (256 * (256 * (256 * p7 + p6) + p5) + p4)) + p0 := by omega
theorem swJ_2 {p0 p1 p2 p3 p4 p5 p6 p7 c e : Nat} (hc : c = 4294967296 * (256 * (256 * (256 * p7 + p6) + p5) + p4) + (256 * (256 * (256 * p3 + p2) + p1) + p0)) (he : e = c + (p1 + 256 * p2 + 65536 * p3 + 16777216 * (256 * (256 * (256 * p7 + p6) + p5) + p4))) : e = 2 ^ 16 * ((p2 + p3) + 256 * (p3 + p4) + 65536 * (p4 + p5) + 16777216 * (p5 + p6) + 4294967296 * (p6 + p7) + 1099511627776 * p7) + (256 * (p1 + p2) + (p0 + p1)) ∧ e = 2 ^ 32 * ((p4 + p5) + 256 * (p5 + p6) + 65536 * (p6 + p7) + 16777216 * p7) + (16777216 * (p3 + p4) + 65536 * (p2 + p3) + 256 * (p1 + p2) + (p0 + p1)) ∧ e = 256 * ((p1 + p2) + 256 * (p2 + p3) + 65536 * (p3 + p4) + 16777216 * (p4 + p5) + 4294967296 * (p5 + p6) + 1099511627776 * (p6 + p7) + 281474976710656 * p7) + (p0 + p1) := by
  refine ⟨by omega, by omega, by omega⟩
theorem swJ_3 {p2 p3 p4 p5 p6 p7 e f g x y z : Nat} (he : e = 2 ^ 32 * ((p4 + p5) + 256 * (p5 + p6) + 65536 * (p6 + p7) + 16777216 * p7) + x) (h' : e = 256 * y + z) (hf : f = (p2 + p3) + 256 * (p3 + p4) + 65536 * (p4 + p5) + 16777216 * (p5 + p6) + 4294967296 * (p6 + p7) + 1099511627776 * p7) (hg : g = e + f) : g = 2 ^ 32 * ((p4 + p5 + p6 + p7) + 256 * (p5 + p6 + p7) + 65536 * (p6 + p7) + 16777216 * p7) + (x + ((p2 + p3) + 256 * (p3 + p4) + 65536 * (p4 + p5) + 16777216 * (p5 + p6))) ∧ g = 256 * (y + ((p3 + p4) + 256 * (p4 + p5) + 65536 * (p5 + p6) + 16777216 * (p6 + p7) + 4294967296 * p7)) + (z + (p2 + p3)) := by
  refine ⟨by omega, by omega⟩
theorem swJ_e {p0 p1 p2 p3 p4 p5 p6 p7 : Nat} (o0 : p0 ≤ 8) (o1 : p1 ≤ 8) (o2 : p2 ≤ 8) (o3 : p3 ≤ 8) (o4 : p4 ≤ 8) (o5 : p5 ≤ 8) (o6 : p6 ≤ 8) (o7 : p7 ≤ 8) {c e g i : Nat} (hc : c = 4294967296 * (256 * (256 * (256 * p7 + p6) + p5) + p4) + (256 * (256 * (256 * p3 + p2) + p1) + p0)) (he : e = c + c / 2 ^ 8) (hg : g = e + e / 2 ^ 16) (hi : i = g + g / 2 ^ 32) : i % 2 ^ 7 = p0 + (p1 + (p2 + p3)) + (p4 + (p5 + (p6 + p7))) := by
  rw [dv_e (by clear hc; omega) (swJ_1 hc)] at he
  obtain ⟨e1, e2, e3⟩ := swJ_2 hc he
  rw [dv_e (by clear hc he e1 e2 e3; omega) e1] at hg
  obtain ⟨g1, g2⟩ := swJ_3 e2 e3 rfl hg
  rw [dv_e (by clear hc he e1 e2 e3 hg g1 g2; omega) g1] at hi
  refine md_e (q := (p1 + p2 + 256 * (p2 + p3) + 65536 * (p3 + p4) + 16777216 * (p4 + p5) + 4294967296 * (p5 + p6) + 1099511627776 * (p6 + p7) + 281474976710656 * p7) + ((p3 + p4) + 256 * (p4 + p5) + 65536 * (p5 + p6) + 16777216 * (p6 + p7) + 4294967296 * p7) + ((p5 + p6 + p7) + 256 * (p6 + p7) + 65536 * p7)) (by clear hc he e1 e2 e3 hg g1 g2 hi; omega) ?_
  rw [hi, g2]
  clear hc he e1 e2 e3 hg g1 g2 hi o0 o1 o2 o3 o4 o5 o6 o7
  omega
theorem rpJ_51 : rpB 51 8 = 3689348814741910323 := by decide +kernel
theorem rpJ_15 : rpB 15 8 = 1085102592571150095 := by decide +kernel
theorem pcJ_c1 : (6148914691236517205 : Int64) = nJ (rpB 85 8) := by decide +kernel
theorem pcJ_c2 : (3689348814741910323 : Int64) = nJ (rpB 51 8) := by decide +kernel
theorem pcJ_c3 : (1085102592571150095 : Int64) = nJ (rpB 15 8) := by decide +kernel
def pcJg (a b c : Int64) (y : Int64) : Int32 :=
  let i1 := y - ((y.toUInt64 >>> ((nI 1).toInt64.toUInt64 &&& Int64.toUInt64 63)).toInt64 &&& a)
  let i2 := (i1 &&& b) + ((i1.toUInt64 >>> ((nI 2).toInt64.toUInt64 &&& Int64.toUInt64 63)).toInt64 &&& b)
  let i3 := i2 + (i2.toUInt64 >>> ((nI 4).toInt64.toUInt64 &&& Int64.toUInt64 63)).toInt64 &&& c
  let i4 := i3 + (i3.toUInt64 >>> ((nI 8).toInt64.toUInt64 &&& Int64.toUInt64 63)).toInt64
  let i5 := i4 + (i4.toUInt64 >>> ((nI 16).toInt64.toUInt64 &&& Int64.toUInt64 63)).toInt64
  let i6 := i5 + (i5.toUInt64 >>> ((nI 32).toInt64.toUInt64 &&& Int64.toUInt64 63)).toInt64
  i6.toInt32 &&& nI 127
theorem pcJ_g {y : Int64} : pcJ y = pcJg 6148914691236517205 3689348814741910323 1085102592571150095 y := rfl
theorem pcJ_u : ∀ k : Nat, k < 6 → ((nI (2 ^ k)).toInt64.toUInt64 &&& Int64.toUInt64 63).toNat % 64 = 2 ^ k := by decide +kernel
theorem pcJ_v {a b c y i1 i2 i3 i4 i5 i6 : Int64} (h1 : y - ((y.toUInt64 >>> ((nI 1).toInt64.toUInt64 &&& Int64.toUInt64 63)).toInt64 &&& a) = i1) (h2 : (i1 &&& b) + ((i1.toUInt64 >>> ((nI 2).toInt64.toUInt64 &&& Int64.toUInt64 63)).toInt64 &&& b) = i2) (h3 : i2 + (i2.toUInt64 >>> ((nI 4).toInt64.toUInt64 &&& Int64.toUInt64 63)).toInt64 &&& c = i3) (h4 : i3 + (i3.toUInt64 >>> ((nI 8).toInt64.toUInt64 &&& Int64.toUInt64 63)).toInt64 = i4) (h5 : i4 + (i4.toUInt64 >>> ((nI 16).toInt64.toUInt64 &&& Int64.toUInt64 63)).toInt64 = i5) (h6 : i5 + (i5.toUInt64 >>> ((nI 32).toInt64.toUInt64 &&& Int64.toUInt64 63)).toInt64 = i6) : pcJg a b c y = i6.toInt32 &&& nI 127 := by
  unfold pcJg
  dsimp only
  rw [h1, h2, h3, h4, h5, h6]
theorem pcJ_w (hx : x < 2 ^ 64) : (swW 8 x + swW 8 x / 2 ^ 8 + (swW 8 x + swW 8 x / 2 ^ 8) / 2 ^ 16 + (swW 8 x + swW 8 x / 2 ^ 8 + (swW 8 x + swW 8 x / 2 ^ 8) / 2 ^ 16) / 2 ^ 32) &&& 127 = ons 64 x := by
  rw [show (127 : Nat) = 2 ^ 7 - 1 from rfl, Nat.and_two_pow_sub_one_eq_mod, ons_64, ons_32, ons_32]
  refine swJ_e ons_le ons_le ons_le ons_le ons_le ons_le ons_le ons_le (c := swW 8 x) ?_ rfl rfl rfl
  rw [swW_8 hx, swW_4 (by omega)]
/-- Long.bitCount tells the ones -/
theorem pc_J (hx : x < 2 ^ 64) : pcJ (nJ x) = nI (ons 64 x) := by
  have b1 : s1W 8 x < 2 ^ 64 := Nat.lt_of_le_of_lt s1W_x hx
  have b2 : s2W 8 (s1W 8 x) < 2 ^ 64 := by
    have := s2W_x (k := 8) (x := s1W 8 x)
    rw [rpJ_51] at this
    omega
  have b3 : swW 8 x ≤ 1085102592571150095 := by
    have := s3W_x (k := 8) (x := s2W 8 (s1W 8 x))
    rw [rpJ_15] at this
    exact this
  rw [pcJ_g, pcJ_v (s1W_J (k := 8) hx (pcJ_u 0 (by decide)) pcJ_c1) (s2W_J (k := 8) b1 (pcJ_u 1 (by decide)) pcJ_c2) (s3W_J (k := 8) b2 (pcJ_u 2 (by decide)) pcJ_c3) (s4W_J (x := swW 8 x) (Nat.lt_of_le_of_lt b3 (by decide)) (pcJ_u 3 (by decide))) (s4W_J (x := swW 8 x + swW 8 x / 2 ^ 8) (by omega) (pcJ_u 4 (by decide))) (s4W_J (x := swW 8 x + swW 8 x / 2 ^ 8 + (swW 8 x + swW 8 x / 2 ^ 8) / 2 ^ 16) (by omega) (pcJ_u 5 (by decide))), nJ_i, nI_and]
  exact congrArg nI (pcJ_w hx)
end
