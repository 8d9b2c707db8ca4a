/-! ones counted: bytes on their own -/
section
variable {h l M m s w x : Nat}
theorem cat_shr_and (hl : l < 2 ^ w) (hs : s ≤ w) (hm : m < 2 ^ (w - s)) : ((2 ^ w * h + l) >>> s) &&& (2 ^ w * M + m) = 2 ^ w * ((h >>> s) &&& M) + ((l >>> s) &&& m) := by
  have hm2 : m < 2 ^ w := Nat.lt_of_lt_of_le hm (Nat.pow_le_pow_right (by decide) (Nat.sub_le w s))
  have hlm : (l >>> s) &&& m < 2 ^ w := Nat.lt_of_le_of_lt Nat.and_le_right hm2
  refine Nat.eq_of_testBit_eq fun i => ?_
  rw [Nat.testBit_and, Nat.testBit_shiftRight, Nat.testBit_two_pow_mul_add _ hl, Nat.testBit_two_pow_mul_add _ hm2, Nat.testBit_two_pow_mul_add _ hlm]
  by_cases h1 : i < w
  · rw [if_pos h1, if_pos h1, Nat.testBit_and, Nat.testBit_shiftRight]
    by_cases h2 : s + i < w
    · rw [if_pos h2]
    · have h3 : m.testBit i = false := Nat.testBit_lt_two_pow (Nat.lt_of_lt_of_le hm (Nat.pow_le_pow_right (by decide) (by omega)))
      rw [h3, Bool.and_false, Bool.and_false]
  · rw [if_neg h1, if_neg h1, if_neg (show ¬ s + i < w by omega), Nat.testBit_and, Nat.testBit_shiftRight, show s + i - w = s + (i - w) by omega]
theorem cat_and (hl : l < 2 ^ w) (hm : m < 2 ^ w) : (2 ^ w * h + l) &&& (2 ^ w * M + m) = 2 ^ w * (h &&& M) + (l &&& m) := cat_shr_and (s := 0) hl (Nat.zero_le w) hm
/-- a mask's byte, many times -/
def rpB (m : Nat) : Nat → Nat
  | 0 => 0
  | k + 1 => 256 * rpB m k + m
def s1W (k x : Nat) : Nat := x - ((x >>> 1) &&& rpB 85 k)
def s2W (k x : Nat) : Nat := (x &&& rpB 51 k) + ((x >>> 2) &&& rpB 51 k)
def s3W (k x : Nat) : Nat := (x + (x >>> 4)) &&& rpB 15 k
def swW (k x : Nat) : Nat := s3W k (s2W k (s1W k x))
def s1b (l : Nat) : Nat := l - ((l >>> 1) &&& 85)
def s2b (l : Nat) : Nat := (l &&& 51) + ((l >>> 2) &&& 51)
def s3b (l : Nat) : Nat := (l + (l >>> 4)) &&& 15
theorem byt_b : ∀ a, a < 16 → ∀ b, b < 16 → (decide ((((16 * a + b) >>> 1) &&& 85) ≤ 16 * a + b) && (decide (s2b (s1b (16 * a + b)) % 16 ≤ 4) && (decide (s2b (s1b (16 * a + b)) ≤ 68) && decide (s3b (s2b (s1b (16 * a + b))) = ons 8 (16 * a + b))))) = true := by decide +kernel
theorem byt (hl : l < 256) : ((l >>> 1) &&& 85) ≤ l ∧ s2b (s1b l) % 16 ≤ 4 ∧ s2b (s1b l) ≤ 68 ∧ s3b (s2b (s1b l)) = ons 8 l := by
  have h := byt_b (l / 16) (by omega) (l % 16) (by omega)
  rw [show 16 * (l / 16) + l % 16 = l by omega] at h
  simp only [Bool.and_eq_true, decide_eq_true_eq] at h
  exact h
theorem s1W_le {k x : Nat} : (x >>> 1) &&& rpB 85 k ≤ x := Nat.le_trans Nat.and_le_left (by rw [Nat.shiftRight_eq_div_pow]; exact Nat.div_le_self _ _)
theorem s1W_c {k : Nat} (hl : l < 256) : s1W (k + 1) (256 * h + l) = 256 * s1W k h + s1b l := by
  unfold s1W s1b
  have e := cat_shr_and (w := 8) (s := 1) (h := h) (l := l) (M := rpB 85 k) (m := 85) hl (by decide) (by decide)
  have h1 := s1W_le (k := k) (x := h)
  have h2 := (byt hl).1
  rw [show rpB 85 (k + 1) = 2 ^ 8 * rpB 85 k + 85 from rfl, show (256 : Nat) = 2 ^ 8 from rfl, e]
  omega
theorem s2W_c {k : Nat} (hl : l < 256) : s2W (k + 1) (256 * h + l) = 256 * s2W k h + s2b l := by
  unfold s2W s2b
  have e1 := cat_and (w := 8) (h := h) (l := l) (M := rpB 51 k) (m := 51) hl (by decide)
  have e2 := cat_shr_and (w := 8) (s := 2) (h := h) (l := l) (M := rpB 51 k) (m := 51) hl (by decide) (by decide)
  rw [show rpB 51 (k + 1) = 2 ^ 8 * rpB 51 k + 51 from rfl, show (256 : Nat) = 2 ^ 8 from rfl, e1, e2]
  omega
theorem s3W_c {k : Nat} (hl : l ≤ 68) (hh : h % 16 ≤ 4) : s3W (k + 1) (256 * h + l) = 256 * s3W k h + s3b l := by
  unfold s3W s3b
  have e0 : 256 * h + l + (256 * h + l) >>> 4 = 2 ^ 8 * (h + h >>> 4) + (l + l / 16 + 16 * (h % 16)) := by
    rw [Nat.shiftRight_eq_div_pow, Nat.shiftRight_eq_div_pow]
    omega
  have e1 := cat_and (w := 8) (h := h + h >>> 4) (l := l + l / 16 + 16 * (h % 16)) (M := rpB 15 k) (m := 15) (by omega) (by decide)
  rw [e0, show rpB 15 (k + 1) = 2 ^ 8 * rpB 15 k + 15 from rfl, e1, show (15 : Nat) = 2 ^ 4 - 1 from rfl, Nat.and_two_pow_sub_one_eq_mod, Nat.and_two_pow_sub_one_eq_mod, Nat.shiftRight_eq_div_pow l 4]
  omega
theorem s2W_m {k : Nat} : ∀ {x : Nat}, x < 256 ^ k → s2W k (s1W k x) % 16 ≤ 4 := by
  cases k with
  | zero =>
    intro x hx
    obtain rfl : x = 0 := by omega
    decide
  | succ k =>
    intro x hx
    have hl : x % 256 < 256 := by omega
    have hb := byt hl
    have e : x = 256 * (x / 256) + x % 256 := by omega
    have h1 : s1b (x % 256) < 256 := by unfold s1b; omega
    rw [e, s1W_c hl, s2W_c h1]
    omega
theorem swW_c {k : Nat} (hh : h < 256 ^ k) (hl : l < 256) : swW (k + 1) (256 * h + l) = 256 * swW k h + ons 8 l := by
  have hb := byt hl
  have h1 : s1b l < 256 := by unfold s1b; omega
  unfold swW
  rw [s1W_c hl, s2W_c h1, s3W_c hb.2.2.1 (s2W_m hh), hb.2.2.2]
end
