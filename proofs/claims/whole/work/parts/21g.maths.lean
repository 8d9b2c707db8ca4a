/-! ones counted: words -/
section
variable {h l M m s w x a b c : Nat}
theorem nI_us {a : Nat} (ha : a < 2 ^ 32) (u : UInt32) : ((nI a).toUInt32 >>> u).toInt32 = nI (a >>> (u.toNat % 32)) := by
  apply Int32.toBitVec_inj.mp
  rw [nI_bv]
  apply BitVec.eq_of_toNat_eq
  show ((nI a).toUInt32 >>> u).toNat = _
  have e : (nI a).toUInt32.toNat = a := by
    show (BitVec.ofNat 32 a).toNat = a
    rw [BitVec.toNat_ofNat, Nat.mod_eq_of_lt ha]
  rw [UInt32.toNat_shiftRight, e, BitVec.toNat_ofNat, Nat.mod_eq_of_lt (Nat.lt_of_le_of_lt (Nat.shiftRight_le _ _) ha)]
theorem ons_ad : ∀ (r k x : Nat), ons (k + r) x = ons r x + ons k (x / 2 ^ r)
  | 0, k, x => by
    rw [Nat.pow_zero, Nat.div_one, Nat.add_zero, show ons 0 x = 0 from rfl, Nat.zero_add]
  | r + 1, k, x => by
    rw [show k + (r + 1) = (k + r) + 1 from rfl, show ons (k + r + 1) x = x % 2 + ons (k + r) (x / 2) from rfl, ons_ad r k (x / 2), show ons (r + 1) x = x % 2 + ons r (x / 2) from rfl, Nat.div_div_eq_div_mul, Nat.pow_succ, Nat.mul_comm 2, Nat.add_assoc]
theorem ons_8 : ons 8 (x % 256) = ons 8 x := by
  simp only [ons]
  omega
theorem swW_0 : swW 0 0 = 0 := by decide
theorem swW_s {k : Nat} (hx : x < 256 ^ (k + 1)) : swW (k + 1) x = 256 * swW k (x / 256) + ons 8 x := by
  have e := swW_c (k := k) (h := x / 256) (l := x % 256) (by rw [Nat.pow_succ] at hx; omega) (by omega)
  rw [show 256 * (x / 256) + x % 256 = x by omega, ons_8] at e
  exact e
theorem swW_4 (hx : x < 2 ^ 32) : swW 4 x = 256 * (256 * (256 * ons 8 (x / 256 / 256 / 256) + ons 8 (x / 256 / 256)) + ons 8 (x / 256)) + ons 8 x := by
  rw [swW_s (k := 3) (by omega), swW_s (k := 2) (by omega), swW_s (k := 1) (by omega), swW_s (k := 0) (by omega), show x / 256 / 256 / 256 / 256 = 0 by omega, swW_0, Nat.mul_zero, Nat.zero_add]
theorem ons_32 : ons 32 x = ons 8 x + (ons 8 (x / 256) + (ons 8 (x / 256 / 256) + ons 8 (x / 256 / 256 / 256))) := by
  rw [show (32 : Nat) = 24 + 8 from rfl, ons_ad, show (24 : Nat) = 16 + 8 from rfl, ons_ad, show (16 : Nat) = 8 + 8 from rfl, ons_ad]
theorem s1W_I {k : Nat} (hx : x < 2 ^ 32) {u : UInt32} {c : Int32} (hu : u.toNat % 32 = 1) (hc : c = nI (rpB 85 k)) : nI x - (((nI x).toUInt32 >>> u).toInt32 &&& c) = nI (s1W k x) := by
  unfold s1W
  rw [nI_us hx, hu, hc, nI_and, nI_sub s1W_le]
theorem s2W_I {k : Nat} (hx : x < 2 ^ 32) {u : UInt32} {c : Int32} (hu : u.toNat % 32 = 2) (hc : c = nI (rpB 51 k)) : (nI x &&& c) + (((nI x).toUInt32 >>> u).toInt32 &&& c) = nI (s2W k x) := by
  unfold s2W
  rw [nI_us hx, hu, hc, nI_and, nI_and, nI_add]
theorem s3W_I {k : Nat} (hx : x < 2 ^ 32) {u : UInt32} {c : Int32} (hu : u.toNat % 32 = 4) (hc : c = nI (rpB 15 k)) : nI x + ((nI x).toUInt32 >>> u).toInt32 &&& c = nI (s3W k x) := by
  unfold s3W
  rw [nI_us hx, hu, hc, nI_add, nI_and]
theorem s4W_I (hx : x < 2 ^ 32) {u : UInt32} {t : Nat} (hu : u.toNat % 32 = t) : nI x + ((nI x).toUInt32 >>> u).toInt32 = nI (x + x / 2 ^ t) := by
  rw [nI_us hx, hu, nI_add, Nat.shiftRight_eq_div_pow]
theorem s1W_x {k : Nat} : s1W k x ≤ x := by
  unfold s1W
  exact Nat.sub_le _ _
theorem s2W_x {k : Nat} : s2W k x ≤ rpB 51 k + rpB 51 k := by
  unfold s2W
  exact Nat.add_le_add Nat.and_le_right Nat.and_le_right
theorem s3W_x {k : Nat} : s3W k x ≤ rpB 15 k := by
  unfold s3W
  exact Nat.and_le_right
theorem swW_e (hx : x < 2 ^ 32) : ((swW 4 x + swW 4 x / 2 ^ 8) + (swW 4 x + swW 4 x / 2 ^ 8) / 2 ^ 16) &&& 63 = ons 32 x := by
  rw [show (63 : Nat) = 2 ^ 6 - 1 from rfl, Nat.and_two_pow_sub_one_eq_mod, swW_4 hx, ons_32]
  have o0 : ons 8 x ≤ 8 := ons_le
  have o1 : ons 8 (x / 256) ≤ 8 := ons_le
  have o2 : ons 8 (x / 256 / 256) ≤ 8 := ons_le
  have o3 : ons 8 (x / 256 / 256 / 256) ≤ 8 := ons_le
  generalize ons 8 x = p0 at o0 ⊢
  generalize ons 8 (x / 256) = p1 at o1 ⊢
  generalize ons 8 (x / 256 / 256) = p2 at o2 ⊢
  generalize ons 8 (x / 256 / 256 / 256) = p3 at o3 ⊢
  have h1 : (256 * (256 * (256 * p3 + p2) + p1) + p0) / 2 ^ 8 = p1 + 256 * p2 + 65536 * p3 := by omega
  rw [h1]
  have h2 : (256 * (256 * (256 * p3 + p2) + p1) + p0 + (p1 + 256 * p2 + 65536 * p3)) / 2 ^ 16 = p2 + p3 + 256 * p3 := by omega
  rw [h2]
  omega
theorem rpB_51 : rpB 51 4 = 858993459 := by decide
theorem rpB_15 : rpB 15 4 = 252645135 := by decide
/-- Integer.bitCount tells the ones -/
theorem pc_I (hx : x < 2 ^ 32) : pcI (nI x) = nI (ons 32 x) := by
  have b1 : s1W 4 x < 2 ^ 32 := Nat.lt_of_le_of_lt s1W_x hx
  have b2 : s2W 4 (s1W 4 x) < 2 ^ 32 := by
    have := s2W_x (k := 4) (x := s1W 4 x)
    rw [rpB_51] at this
    omega
  have b3 : swW 4 x ≤ 252645135 := by
    have := s3W_x (k := 4) (x := s2W 4 (s1W 4 x))
    rw [rpB_15] at this
    exact this
  have A := s1W_I (k := 4) hx (u := (nI 1).toUInt32 &&& Int32.toUInt32 31) (c := 1431655765) (by decide) (by decide)
  have B := s2W_I (k := 4) b1 (u := (nI 2).toUInt32 &&& Int32.toUInt32 31) (c := 858993459) (by decide) (by decide)
  have C := s3W_I (k := 4) b2 (u := (nI 4).toUInt32 &&& Int32.toUInt32 31) (c := 252645135) (by decide) (by decide)
  rw [show s3W 4 (s2W 4 (s1W 4 x)) = swW 4 x from rfl] at C
  have E := s4W_I (x := swW 4 x) (by omega) (u := (nI 8).toUInt32 &&& Int32.toUInt32 31) (t := 8) (by decide)
  have I := s4W_I (x := swW 4 x + swW 4 x / 2 ^ 8) (by omega) (u := (nI 16).toUInt32 &&& Int32.toUInt32 31) (t := 16) (by decide)
  unfold pcI
  dsimp only
  rw [A, B, C, E, I, nI_and, swW_e hx]
end
