/-! the two reckonings alike: the exchange -/
section
variable {a b c d e n k x y z : Nat} {F G R : Nat → Int32}
def bmB (n : Nat) (R : Nat → Int32) (s : Nat) : Bool := (trip n).any fun t => decide (msk t.1 t.2.1 t.2.2 = s) && baB R t.1 t.2.1 t.2.2
theorem bmB_b : ∀ n, n < 7 → ∀ a, a < n → ∀ b, b < n → ∀ c, c < n → (!dis3 a b c || ((trip n).any (fun t => decide (msk t.1 t.2.1 t.2.2 = msk a b c)) && (trip n).all fun t => !decide (msk t.1 t.2.1 t.2.2 = msk a b c) || decide (pT t.1 t.2.1 t.2.2 = pT a b c))) = true := by decide +kernel
theorem tO_nz {u v w : Int32} (h : u = 1 ∨ u = -1) : decide (u * w ≠ 0) = decide (w ≠ 0) := by
  rcases h with rfl | rfl
  · rw [Int32.one_mul]
  · rw [show (-1 : Int32) * w = -w by rw [Int32.neg_mul, Int32.one_mul]]
    by_cases h : w = 0
    · subst h; rfl
    · rw [decide_eq_true (show w ≠ 0 from h), decide_eq_true (show -w ≠ 0 from fun h' => h (Int32.neg_inj.mp (h'.trans neg0.symm)))]
end
