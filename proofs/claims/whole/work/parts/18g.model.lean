/-! the model: vectors by threes -/
def dgN (n c e : Nat) : Nat := c / 3 ^ (n - 1 - e) % 3
def dg32 (n c e : Nat) : Int32 := nI (dgN n c e) - nI 1
theorem dgN_lt {n c e : Nat} : dgN n c e < 3 := Nat.mod_lt _ (by decide)
theorem d3_0 : ∀ a, a < 3 → (nI a - nI 1 = 0 ↔ a = 1) := by decide
theorem dg32_0 {n c e : Nat} : (dg32 n c e = 0) = (dgN n c e = 1) := propext (d3_0 _ dgN_lt)
def zrN (n c : Nat) : Nat := (rg 0 n).foldl (fun x e => if dgN n c e = 1 then x + 1 else x) 0
theorem p3_le : ∀ k, k ≤ 6 → 3 ^ k < 730 ∧ 0 < 3 ^ k := by decide
theorem p3_fold : ∀ k, k ≤ 6 → (rg 0 k).foldl (fun x _ => x * 3) 1 = 3 ^ k := by decide
def cdF (n : Nat) (D : Nat → Nat) : Nat := (rg 0 n).foldl (fun c e => 3 * c + D e) 0
section
variable {d a b c e f g i n k t u : Nat} {m : Mem} {q : MemJ} {h : AH} {v3 v4 v5 v6 v7 : Value}
theorem x_M_power (hk : k ≤ 6) : ev d 233 0 [.int (nI k), .null, .null] [] h = some (some (.int (nI (3 ^ k))), h) := by
  have L := ev_for1 (fun _ => True) (fun i (x : Nat) (_ : Unit) => ev d 233 4 [.int (nI k), .int (nI x), .int (nI i)] [] h) (fun x => some (some (.int (nI x)), h)) (fun _ x => x * 3) k
    (fun x _ _ => by rw [s233_4]; simp only [s233_0, s233_1, s233_2, s233_3, s233_5, s233_6, s233_9, s233_10, s233_11, s233_12, s233_13, s233_16, s233_19, s233_20, nI_irr, if_false])
    (fun _ _ _ _ => trivial)
    (fun i x _ hi _ => ⟨(), by rw [s233_4]; simp only [s233_0, s233_1, s233_2, s233_3, s233_5, s233_6, s233_9, s233_10, s233_11, s233_12, s233_13, s233_16, s233_19, s233_20, nI_lt hi (show k < 2 ^ 31 by omega), if_true, nI_add, pk_mul]⟩) 0 (Nat.zero_le _) 1 () trivial
  rw [p3_fold k hk] at L
  simp only [s233_0, s233_1, s233_2, s233_3, s233_5, s233_6, s233_9, s233_10, s233_11, s233_12, s233_13, s233_16, s233_19, s233_20]
  exact L
theorem x_M_digit (hc : c < 729) (hn6 : n ≤ 6) (he : e < n) : ev (d + 1) 238 0 [.int (nI c), .int (nI n), .int (nI e)] [] h = some (some (.int (dg32 n c e)), h) := by
  have hp := p3_le (n - 1 - e) (by omega)
  have hd : c / 3 ^ (n - 1 - e) ≤ c := Nat.div_le_self _ _
  simp only [s238_0, s238_1, s238_2, s238_3, s238_4, s238_5, s238_6, s238_9, s238_10, s238_11, s238_12, s238_13, s238_14, nI_sub (show 1 ≤ n by omega), nI_sub (show e ≤ n - 1 by omega), x_M_power (show n - 1 - e ≤ 6 by omega), Option.bind_some, Option.toList_some, Option.toList_none, List.nil_append, List.cons_append, nI_z (show 3 ^ (n - 1 - e) < 2 ^ 31 by omega), show ¬ 3 ^ (n - 1 - e) = 0 by omega, not_false_eq_true, nI_div (show c < 2 ^ 31 by omega) (show 3 ^ (n - 1 - e) < 2 ^ 31 by omega), show ¬ (3 : Nat) = 0 by decide, nI_z (show 3 < 2 ^ 31 by decide), pk_rem (show c / 3 ^ (n - 1 - e) < 2 ^ 31 by omega) (show 0 < 3 by decide) (show 3 < 2 ^ 31 by decide)]
  rfl
theorem x_M_zeros (hc : c < 729) (hn6 : n ≤ 6) : ev (d + 2) 237 0 [.int (nI c), .int (nI n), .null, .null] [] h = some (some (.int (nI (zrN n c))), h) := by
  have L := ev_for1 (fun _ => True) (fun e (x : Nat) (_ : Unit) => ev (d + 2) 237 4 [.int (nI c), .int (nI n), .int (nI x), .int (nI e)] [] h) (fun x => some (some (.int (nI x)), h)) (fun e x => if dgN n c e = 1 then x + 1 else x) n
    (fun x _ _ => by rw [s237_4]; simp only [s237_0, s237_1, s237_2, s237_3, s237_5, s237_6, s237_9, s237_10, s237_11, s237_12, s237_13, s237_16, s237_19, s237_20, s237_23, s237_24, s237_25, s237_26, s237_29, s237_32, s237_33, nI_irr, if_false])
    (fun _ _ _ _ => trivial)
    (fun e x _ he _ => ⟨(), by
      rw [s237_4]
      simp only [s237_0, s237_1, s237_2, s237_3, s237_5, s237_6, s237_9, s237_10, s237_11, s237_12, s237_13, s237_16, s237_19, s237_20, s237_23, s237_24, s237_25, s237_26, s237_29, s237_32, s237_33, nI_lt he (show n < 2 ^ 31 by omega), if_true, x_M_digit hc hn6 he, Option.bind_some, Option.toList_some, Option.toList_none, List.nil_append, List.cons_append, dg32_0]
      by_cases z : dgN n c e = 1
      · simp only [z, if_true, s237_0, s237_1, s237_2, s237_3, s237_5, s237_6, s237_9, s237_10, s237_11, s237_12, s237_13, s237_16, s237_19, s237_20, s237_23, s237_24, s237_25, s237_26, s237_29, s237_32, s237_33, nI_add]
      · simp only [z, if_false, s237_0, s237_1, s237_2, s237_3, s237_5, s237_6, s237_9, s237_10, s237_11, s237_12, s237_13, s237_16, s237_19, s237_20, s237_23, s237_24, s237_25, s237_26, s237_29, s237_32, s237_33, nI_add, Nat.add_zero]⟩) 0 (Nat.zero_le _) 0 () trivial
  simp only [s237_0, s237_1, s237_2, s237_3, s237_5, s237_6, s237_9, s237_10, s237_11, s237_12, s237_13, s237_16, s237_19, s237_20, s237_23, s237_24, s237_25, s237_26, s237_29, s237_32, s237_33]
  exact L
theorem x_M_codeOf {D : Nat → Nat} (hn : m 1 0 = nI n) (hn6 : n ≤ 6) (hD : ∀ e, e < n → m 11 e + nI 1 = nI (D e)) : ev (d + 1) 236 0 [.ref 0, .null, .null] [] (mk shM m q) = some (some (.int (nI (cdF n D))), mk shM m q) := by
  have L := ev_for1 (fun _ => True) (fun e (x : Nat) (_ : Unit) => ev (d + 1) 236 4 [.ref 0, .int (nI x), .int (nI e)] [] (mk shM m q)) (fun x => some (some (.int (nI x)), mk shM m q)) (fun e x => 3 * x + D e) n
    (fun x _ _ => by rw [s236_4]; simp only [s236_0, s236_1, s236_2, s236_3, s236_5, s236_6, s236_9, s236_12, s236_13, s236_14, s236_15, s236_16, s236_19, s236_20, s236_21, s236_22, s236_23, s236_24, s236_25, s236_28, s236_31, s236_32, x_M_n, hn, Option.bind_some, Option.toList_some, Option.toList_none, List.nil_append, List.cons_append, nI_irr, if_false])
    (fun _ _ _ _ => trivial)
    (fun e x _ he _ => ⟨(), by
      rw [s236_4]
      simp only [s236_0, s236_1, s236_2, s236_3, s236_5, s236_6, s236_9, s236_12, s236_13, s236_14, s236_15, s236_16, s236_19, s236_20, s236_21, s236_22, s236_23, s236_24, s236_25, s236_28, s236_31, s236_32, x_M_n, hn, Option.bind_some, Option.toList_some, Option.toList_none, List.nil_append, List.cons_append, nI_lt he (show n < 2 ^ 31 by omega), if_true, tM11, nM11, show e < 6 by omega, pk_mul, Int32.add_assoc, hD e he, nI_add]⟩) 0 (Nat.zero_le _) 0 () trivial
  simp only [s236_0, s236_1, s236_2, s236_3, s236_5, s236_6, s236_9, s236_12, s236_13, s236_14, s236_15, s236_16, s236_19, s236_20, s236_21, s236_22, s236_23, s236_24, s236_25, s236_28, s236_31, s236_32]
  exact L
end
