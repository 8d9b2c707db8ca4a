/-! the model: its rows, signs, places -/
def lo3 (a b c : Nat) : Nat := if a < b then (if a < c then a else c) else if b < c then b else c
def hi3 (a b c : Nat) : Nat := if b < a then (if c < a then a else c) else if c < b then b else c
def ng3 (a b c : Nat) (v : Int32) : Int32 := if c < b then -(if c < a then -(if b < a then -v else v) else (if b < a then -v else v)) else (if c < a then -(if b < a then -v else v) else (if b < a then -v else v))
/-- how three stand -/
def tO (a b c : Nat) : Int32 := ng3 a b c (if a = b ∨ a = c ∨ b = c then nI 0 else nI 1)
def pl1 (a : Nat) : Int32 := (rg 0 a).foldl (fun p x => p + (nI 5 - nI x) * (nI 4 - nI x) / nI 2) (nI 0)
def pl2 (a b : Nat) : Int32 := (rg (a + 1) b).foldl (fun p y => p + (nI 5 - nI y)) (pl1 a)
def pl (a b c : Nat) : Nat := (if a = 0 then 0 else if a = 1 then 10 else if a = 2 then 16 else 19) + (if a + 1 < b then 5 * (b - a - 1) - (b * (b - 1) / 2 - a * (a + 1) / 2) else 0) + (c - b - 1)
theorem pl_b : ∀ a, a < 6 → ∀ b, b < 6 → ∀ c, c < 6 → (!(decide (a < b) && decide (b < c)) || (decide (pl2 a b + nI c - nI b - nI 1 = nI (pl a b c)) && decide (pl a b c < 20))) = true := by decide +kernel
theorem pl_eq (a : Nat) (ha : a < 6) (b : Nat) (hb : b < 6) (c : Nat) (hc : c < 6) (hab : a < b) (hbc : b < c) : pl2 a b + nI c - nI b - nI 1 = nI (pl a b c) ∧ pl a b c < 20 := by
  have h := pl_b a ha b hb c hc
  rw [decide_eq_true hab, decide_eq_true hbc] at h
  simp only [Bool.and_true, Bool.not_true, Bool.false_or, Bool.and_eq_true, decide_eq_true_eq] at h
  exact h
def mid3 (a b c : Nat) : Nat := a + b + c - lo3 a b c - hi3 a b c
/-- the place of three, sorted -/
def pT (a b c : Nat) : Nat := pl (lo3 a b c) (mid3 a b c) (hi3 a b c)
theorem d3_b : ∀ a, a < 6 → ∀ b, b < 6 → ∀ c, c < 6 → ((decide (lo3 a b c ≤ a + b + c) && decide (hi3 a b c ≤ a + b + c - lo3 a b c)) && (decide (a = b) || (decide (a = c) || (decide (b = c) || (decide (lo3 a b c < mid3 a b c) && (decide (mid3 a b c < hi3 a b c) && decide (hi3 a b c < 6))))))) = true := by decide +kernel
theorem d3 (a : Nat) (ha : a < 6) (b : Nat) (hb : b < 6) (c : Nat) (hc : c < 6) : (lo3 a b c ≤ a + b + c ∧ hi3 a b c ≤ a + b + c - lo3 a b c) ∧ (a = b ∨ a = c ∨ b = c ∨ (lo3 a b c < mid3 a b c ∧ mid3 a b c < hi3 a b c ∧ hi3 a b c < 6)) := by
  have h := d3_b a ha b hb c hc
  simp only [Bool.and_eq_true, Bool.or_eq_true, decide_eq_true_eq] at h
  exact h
theorem tO_0 : ∀ a, a < 6 → ∀ b, b < 6 → ∀ c, c < 6 → (tO a b c = 0 ↔ (a = b ∨ a = c ∨ b = c)) := by decide +kernel
/-- the sign of three, in the model's row -/
def mS (R : Nat → Int32) (a b c : Nat) : Int32 := tO a b c * R (1 + pT a b c)
theorem pT_lt {a b c : Nat} (ha : a < 6) (hb : b < 6) (hc : c < 6) (h : ¬ (a = b ∨ a = c ∨ b = c)) : pT a b c < 20 := by
  rcases (d3 a ha b hb c hc).2 with h1 | h1 | h1 | ⟨h1, h2, h3⟩
  · exact absurd (Or.inl h1) h
  · exact absurd (Or.inr (Or.inl h1)) h
  · exact absurd (Or.inr (Or.inr h1)) h
  · exact (pl_eq _ (by omega) _ (by omega) _ h3 h1 h2).2
def sgM (x : Int32) : Int32 := if 0 < x then 1 else if x < 0 then -1 else 0
def mco (R : Nat → Int32) (e i : Nat) : Int32 := R (21 + 3 * e + i)
def mtn (R : Nat → Int32) (a b c : Nat) : Int32 := nI 0 + mco R a 0 * (mco R b 1 * mco R c 2 - mco R b 2 * mco R c 1) + mco R a 1 * (mco R b 2 * mco R c 0 - mco R b 0 * mco R c 2) + mco R a 2 * (mco R b 0 * mco R c 1 - mco R b 1 * mco R c 0)
def ptM (R : Nat → Int32) (e : Nat) (x y z : Int32) : Nat → Int32 := upd (upd (upd R (21 + 3 * e) x) (21 + 3 * e + 1) y) (21 + 3 * e + 2) z
def sgU (R : Nat → Int32) (a b c : Nat) (v : Int32) : Nat → Int32 := upd R (1 + pT a b c) (v * tO a b c)
section
variable {d a b c e i n : Nat} {m : Mem} {q : MemJ} {x y z lo hi v : Int32} {h : AH}
theorem x_M_in : ev d 166 0 [.long x.toInt64, .null, .long lo.toInt64, .null, .long hi.toInt64, .null] [] h = some (some (.int (bI (!decide (x < lo) && !decide (hi < x)))), h) := by
  have e1 : ∀ {u w : Int32}, (lg_cmp u.toInt64 w.toInt64 < 0) = (u < w) := fun {u w} => propext ((lg_cmp_lt _ _).trans (by rw [Int64.lt_iff_toInt_lt, Int32.lt_iff_toInt_lt, Int32.toInt_toInt64, Int32.toInt_toInt64]))
  have e2 : ∀ {u w : Int32}, (0 < lg_cmp u.toInt64 w.toInt64) = (w < u) := fun {u w} => propext ((lg_cmp_gt _ _).trans (by rw [Int64.lt_iff_toInt_lt, Int32.lt_iff_toInt_lt, Int32.toInt_toInt64, Int32.toInt_toInt64]))
  by_cases h1 : x < lo
  · simp only [s166_0, s166_1, s166_2, s166_3, s166_6, s166_7, s166_9, s166_10, s166_13, s166_14, s166_17, s166_18, e1, e2, h1, if_true, am_b0, decide_true, Bool.not_true, Bool.false_and, bI_f]
  · by_cases h2 : hi < x
    · simp only [s166_0, s166_1, s166_2, s166_3, s166_6, s166_7, s166_9, s166_10, s166_13, s166_14, s166_17, s166_18, e1, e2, h1, h2, if_true, if_false, am_b0, decide_true, decide_false, Bool.not_true, Bool.and_false, bI_f]
    · simp only [s166_0, s166_1, s166_2, s166_3, s166_6, s166_7, s166_9, s166_10, s166_13, s166_14, s166_17, s166_18, e1, e2, h1, h2, if_false, am_b1, decide_false, Bool.not_false, Bool.and_self, bI_t]
theorem in_elB {k : Nat} (hk : k < 1000) : (!decide (x < 0) && !decide (nI k - nI 1 < x)) = elB k x := by
  unfold elB
  by_cases h0 : x < 0
  · simp [h0]
  · simp only [h0, decide_false, Bool.not_false, Bool.true_and]
    rcases Nat.eq_zero_or_pos k with rfl | hp
    · have h1 : nI 0 - nI 1 < x := by
        have : ¬ x.toInt < 0 := fun h => h0 (Int32.lt_iff_toInt_lt.mpr (by simpa using h))
        rw [Int32.lt_iff_toInt_lt, show (nI 0 - nI 1).toInt = -1 from by decide]
        omega
      rw [decide_eq_true h1, decide_eq_false (show ¬ x < nI 0 from h0)]
      rfl
    · rw [nI_sub hp]
      by_cases h2 : x < nI k
      · rw [decide_eq_true h2]
        have : ¬ nI (k - 1) < x := by
          rw [Int32.lt_iff_toInt_lt, nI_toInt (by omega)] at *
          omega
        rw [decide_eq_false this]
        rfl
      · rw [decide_eq_false h2]
        have : nI (k - 1) < x := by
          rw [Int32.lt_iff_toInt_lt, nI_toInt (by omega)] at *
          omega
        rw [decide_eq_true this]
        rfl
theorem x_M_inE {k : Nat} (hk : k < 1000) {K Z : Int64} (hZ : (0 : Int32).toInt64 = Z) (hK : (nI k - nI 1).toInt64 = K) : ev d 166 0 [.long x.toInt64, .null, .long Z, .null, .long K, .null] [] h = some (some (.int (bI (elB k x))), h) := by
  rw [← hZ, ← hK, x_M_in, in_elB hk]
theorem x_M_n : ev d 170 0 [.ref 0] [] (mk shM m q) = some (some (.int (m 1 0)), mk shM m q) := by
  simp only [s170_0, s170_1, s170_4, s170_5, s170_6, tM1, nM1, show 0 < 429 by decide]
theorem x_M_isElement (hn : m 1 0 = nI n) (hn6 : n ≤ 6) : ev (d + 1) 201 0 [.ref 0, .int x] [] (mk shM m q) = some (some (.int (bI (elB n x))), mk shM m q) := by
  have := x_M_inE (d := d) (x := x) (h := mk shM m q) (show n < 1000 by omega) (Z := 0) (by decide) rfl
  simp only [s201_0, s201_1, s201_2, s201_3, s201_4, s201_7, s201_8, s201_9, s201_10, s201_13, x_M_n, hn, Option.bind_some, Option.toList_some, Option.toList_none, List.nil_append, List.cons_append, this, bI_b]
theorem x_M_areThree (hn : m 1 0 = nI n) (hn6 : n ≤ 6) : ev (d + 2) 200 0 [.ref 0, .int x, .int y, .int z] [] (mk shM m q) = some (some (.int (bI (elB n x && elB n y && elB n z))), mk shM m q) := by
  simp only [s200_0, s200_1, s200_2, s200_5, s200_8, s200_9, s200_10, s200_13, s200_16, s200_17, s200_18, s200_21, s200_24, s200_25, s200_28, s200_29, x_M_isElement hn hn6, Option.bind_some, Option.toList_some, Option.toList_none, List.nil_append, List.cons_append, bI_z]
  cases elB n x with
  | false => simp only [if_true, am_b0, Bool.false_and, bI_f, s200_0, s200_1, s200_2, s200_5, s200_8, s200_9, s200_10, s200_13, s200_16, s200_17, s200_18, s200_21, s200_24, s200_25, s200_28, s200_29]
  | true =>
    cases elB n y with
    | false => simp only [Bool.true_eq_false, if_false, if_true, am_b0, Bool.and_false, Bool.false_and, bI_f, s200_0, s200_1, s200_2, s200_5, s200_8, s200_9, s200_10, s200_13, s200_16, s200_17, s200_18, s200_21, s200_24, s200_25, s200_28, s200_29, x_M_isElement hn hn6, Option.bind_some, Option.toList_some, Option.toList_none, List.nil_append, List.cons_append, bI_z]
    | true =>
      cases elB n z with
      | false => simp only [Bool.true_eq_false, if_false, if_true, am_b0, Bool.and_false, bI_f, s200_0, s200_1, s200_2, s200_5, s200_8, s200_9, s200_10, s200_13, s200_16, s200_17, s200_18, s200_21, s200_24, s200_25, s200_28, s200_29, x_M_isElement hn hn6, Option.bind_some, Option.toList_some, Option.toList_none, List.nil_append, List.cons_append, bI_z]
      | true => simp only [Bool.true_eq_false, if_false, am_b1, Bool.and_self, bI_t, s200_0, s200_1, s200_2, s200_5, s200_8, s200_9, s200_10, s200_13, s200_16, s200_17, s200_18, s200_21, s200_24, s200_25, s200_28, s200_29, x_M_isElement hn hn6, Option.bind_some, Option.toList_some, Option.toList_none, List.nil_append, List.cons_append, bI_z]
theorem x_M_coordinate (he : e < 6) (hi : i < 3) : ev d 189 0 [.ref 0, .int (nI e), .int (nI i)] [] (mk shM m q) = some (some (.int (mco (m 1) e i)), mk shM m q) := by
  simp only [s189_0, s189_1, s189_4, s189_6, s189_7, s189_8, s189_9, s189_10, s189_11, s189_12, s189_13, nI_add, pk_mul, tM1, nM1, show 21 + 3 * e + i < 429 by omega, mco]
theorem x_M_low (ha : a < 1000) (hb : b < 1000) (hc : c < 1000) : ev d 181 0 [.int (nI a), .int (nI b), .int (nI c)] [] h = some (some (.int (nI (lo3 a b c))), h) := by
  by_cases h1 : a < b <;> by_cases h2 : a < c <;> by_cases h3 : b < c <;> simp only [s181_0, s181_1, s181_2, s181_5, s181_6, s181_7, s181_10, s181_11, s181_14, s181_15, s181_18, s181_19, s181_20, s181_23, s181_24, s181_27, s181_28, nI_ltI (show a < 2 ^ 31 by omega) (show b < 2 ^ 31 by omega), nI_ltI (show a < 2 ^ 31 by omega) (show c < 2 ^ 31 by omega), nI_ltI (show b < 2 ^ 31 by omega) (show c < 2 ^ 31 by omega), h1, h2, h3, if_true, if_false, lo3]
theorem x_M_high (ha : a < 1000) (hb : b < 1000) (hc : c < 1000) : ev d 182 0 [.int (nI a), .int (nI b), .int (nI c)] [] h = some (some (.int (nI (hi3 a b c))), h) := by
  by_cases h1 : b < a <;> by_cases h2 : c < a <;> by_cases h3 : c < b <;> simp only [s182_0, s182_1, s182_2, s182_5, s182_6, s182_7, s182_10, s182_11, s182_14, s182_15, s182_18, s182_19, s182_20, s182_23, s182_24, s182_27, s182_28, nI_ltI (show b < 2 ^ 31 by omega) (show a < 2 ^ 31 by omega), nI_ltI (show c < 2 ^ 31 by omega) (show a < 2 ^ 31 by omega), nI_ltI (show c < 2 ^ 31 by omega) (show b < 2 ^ 31 by omega), h1, h2, h3, if_true, if_false, hi3]
theorem x_M_turnsOf (ha : a < 1000) (hb : b < 1000) (hc : c < 1000) : ev d 184 0 [.int (nI a), .int (nI b), .int (nI c), .null] [] h = some (some (.int (tO a b c)), h) := by
  have s2 : ∀ v : Int32, ev d 184 20 [.int (nI a), .int (nI b), .int (nI c), .null] [.int v] h = some (some (.int (ng3 a b c v)), h) := fun v => by
    by_cases h1 : b < a <;> by_cases h2 : c < a <;> by_cases h3 : c < b <;> simp only [s184_20, s184_21, s184_22, s184_23, s184_26, s184_27, s184_28, s184_31, s184_32, s184_33, s184_34, s184_35, s184_38, s184_39, s184_40, s184_43, s184_44, s184_45, s184_46, s184_47, s184_50, s184_51, s184_52, s184_55, s184_56, nI_ltI (show b < 2 ^ 31 by omega) (show a < 2 ^ 31 by omega), nI_ltI (show c < 2 ^ 31 by omega) (show a < 2 ^ 31 by omega), nI_ltI (show c < 2 ^ 31 by omega) (show b < 2 ^ 31 by omega), h1, h2, h3, if_true, if_false, ng3]
  unfold tO
  by_cases h1 : a = b
  · rw [if_pos (Or.inl h1)]
    simp only [s184_0, s184_1, s184_2, s184_5, s184_6, s184_7, s184_10, s184_11, s184_12, s184_15, s184_16, s184_19, nI_eq (show a < 2 ^ 31 by omega) (show b < 2 ^ 31 by omega), h1, if_true]
    have := s2 (nI 0)
    rw [h1] at this
    exact this
  · by_cases h2 : a = c
    · rw [if_pos (Or.inr (Or.inl h2))]
      simp only [s184_0, s184_1, s184_2, s184_5, s184_6, s184_7, s184_10, s184_11, s184_12, s184_15, s184_16, s184_19, nI_eq (show a < 2 ^ 31 by omega) (show b < 2 ^ 31 by omega), nI_eq (show a < 2 ^ 31 by omega) (show c < 2 ^ 31 by omega), h1, if_false]
      rw [if_pos h2, s2]
    · by_cases h3 : b = c
      · rw [if_pos (Or.inr (Or.inr h3))]
        simp only [s184_0, s184_1, s184_2, s184_5, s184_6, s184_7, s184_10, s184_11, s184_12, s184_15, s184_16, s184_19, nI_eq (show a < 2 ^ 31 by omega) (show b < 2 ^ 31 by omega), nI_eq (show a < 2 ^ 31 by omega) (show c < 2 ^ 31 by omega), nI_eq (show b < 2 ^ 31 by omega) (show c < 2 ^ 31 by omega), h1, h2, if_false]
        rw [if_pos h3, s2]
      · rw [if_neg (by rintro (h | h | h); exact h1 h; exact h2 h; exact h3 h)]
        simp only [s184_0, s184_1, s184_2, s184_5, s184_6, s184_7, s184_10, s184_11, s184_12, s184_15, s184_16, s184_19, nI_eq (show a < 2 ^ 31 by omega) (show b < 2 ^ 31 by omega), nI_eq (show a < 2 ^ 31 by omega) (show c < 2 ^ 31 by omega), nI_eq (show b < 2 ^ 31 by omega) (show c < 2 ^ 31 by omega), h1, h2, h3, if_false, s2]
theorem x_M_placeOf (hab : a < b) (hbc : b < c) (hc : c < 6) : ev d 183 0 [.int (nI a), .int (nI b), .int (nI c), .null, .null] [] h = some (some (.int (nI (pl a b c))), h) := by
  have L2 : ∀ p : Int32, ev d 183 36 [.int (nI a), .int (nI b), .int (nI c), .int p, .int (nI (a + 1))] [] h = some (some (.int ((rg (a + 1) b).foldl (fun p y => p + (nI 5 - nI y)) p + nI c - nI b - nI 1)), h) := fun p =>
    ev_for1 (fun _ => True) (fun i (p : Int32) (_ : Unit) => ev d 183 36 [.int (nI a), .int (nI b), .int (nI c), .int p, .int (nI i)] [] h) (fun p => some (some (.int (p + nI c - nI b - nI 1)), h)) (fun y p => p + (nI 5 - nI y)) b
      (fun p _ _ => by rw [s183_36]; simp only [s183_0, s183_1, s183_2, s183_3, s183_7, s183_8, s183_11, s183_12, s183_13, s183_15, s183_16, s183_17, s183_19, s183_20, s183_21, s183_22, s183_23, s183_24, s183_25, s183_28, s183_31, s183_32, s183_33, s183_34, s183_38, s183_39, s183_42, s183_43, s183_44, s183_46, s183_47, s183_48, s183_49, s183_52, s183_55, s183_56, s183_57, s183_58, s183_59, s183_60, s183_61, s183_62, nI_irr, if_false])
      (fun _ _ _ _ => trivial)
      (fun i p _ hi _ => ⟨(), by rw [s183_36]; simp only [s183_0, s183_1, s183_2, s183_3, s183_7, s183_8, s183_11, s183_12, s183_13, s183_15, s183_16, s183_17, s183_19, s183_20, s183_21, s183_22, s183_23, s183_24, s183_25, s183_28, s183_31, s183_32, s183_33, s183_34, s183_38, s183_39, s183_42, s183_43, s183_44, s183_46, s183_47, s183_48, s183_49, s183_52, s183_55, s183_56, s183_57, s183_58, s183_59, s183_60, s183_61, s183_62, nI_lt hi (show b < 2 ^ 31 by omega), if_true, nI_add]⟩) (a + 1) (by omega) p () trivial
  have L1 := ev_for1 (fun _ => True) (fun i (p : Int32) (_ : Unit) => ev d 183 5 [.int (nI a), .int (nI b), .int (nI c), .int p, .int (nI i)] [] h) (fun p => some (some (.int ((rg (a + 1) b).foldl (fun p y => p + (nI 5 - nI y)) p + nI c - nI b - nI 1)), h)) (fun x p => p + (nI 5 - nI x) * (nI 4 - nI x) / nI 2) a
    (fun p _ _ => by rw [s183_5]; simp only [s183_0, s183_1, s183_2, s183_3, s183_7, s183_8, s183_11, s183_12, s183_13, s183_15, s183_16, s183_17, s183_19, s183_20, s183_21, s183_22, s183_23, s183_24, s183_25, s183_28, s183_31, s183_32, s183_33, s183_34, s183_38, s183_39, s183_42, s183_43, s183_44, s183_46, s183_47, s183_48, s183_49, s183_52, s183_55, s183_56, s183_57, s183_58, s183_59, s183_60, s183_61, s183_62, nI_irr, if_false, nI_add, L2])
    (fun _ _ _ _ => trivial)
    (fun i p _ hi _ => ⟨(), by rw [s183_5]; simp only [s183_0, s183_1, s183_2, s183_3, s183_7, s183_8, s183_11, s183_12, s183_13, s183_15, s183_16, s183_17, s183_19, s183_20, s183_21, s183_22, s183_23, s183_24, s183_25, s183_28, s183_31, s183_32, s183_33, s183_34, s183_38, s183_39, s183_42, s183_43, s183_44, s183_46, s183_47, s183_48, s183_49, s183_52, s183_55, s183_56, s183_57, s183_58, s183_59, s183_60, s183_61, s183_62, nI_lt hi (show a < 2 ^ 31 by omega), if_true, nI_add, show ¬ nI 2 = 0 by decide, not_false_eq_true]⟩) 0 (Nat.zero_le _) (nI 0) () trivial
  simp only [s183_0, s183_1, s183_2, s183_3, s183_7, s183_8, s183_11, s183_12, s183_13, s183_15, s183_16, s183_17, s183_19, s183_20, s183_21, s183_22, s183_23, s183_24, s183_25, s183_28, s183_31, s183_32, s183_33, s183_34, s183_38, s183_39, s183_42, s183_43, s183_44, s183_46, s183_47, s183_48, s183_49, s183_52, s183_55, s183_56, s183_57, s183_58, s183_59, s183_60, s183_61, s183_62]
  rw [L1]
  have := (pl_eq a (by omega) b (by omega) c hc hab hbc).1
  unfold pl2 pl1 at this
  rw [this]
theorem x_M_signOf (ha : a < 6) (hb : b < 6) (hc : c < 6) : ev (d + 1) 188 0 [.ref 0, .int (nI a), .int (nI b), .int (nI c), .null, .null, .null] [] (mk shM m q) = some (some (.int (mS (m 1) a b c)), mk shM m q) := by
  have t := x_M_turnsOf (d := d) (h := mk shM m q) (show a < 1000 by omega) (show b < 1000 by omega) (show c < 1000 by omega)
  unfold mS
  by_cases h0 : a = b ∨ a = c ∨ b = c
  · have z := (tO_0 a ha b hb c hc).mpr h0
    simp only [s188_0, s188_1, s188_2, s188_3, s188_6, s188_8, s188_10, s188_13, s188_14, s188_15, s188_16, s188_17, s188_18, s188_21, s188_23, s188_24, s188_25, s188_26, s188_29, s188_31, s188_33, s188_34, s188_37, s188_38, s188_40, s188_41, s188_42, s188_43, s188_44, s188_45, s188_47, s188_48, s188_50, s188_51, s188_53, s188_56, s188_57, s188_58, s188_59, t, Option.bind_some, Option.toList_some, Option.toList_none, List.nil_append, List.cons_append, z, if_true, Int32.zero_mul]
    rfl
  · have z : ¬ tO a b c = 0 := fun h => h0 ((tO_0 a ha b hb c hc).mp h)
    have p20 := pT_lt ha hb hc h0
    obtain ⟨⟨g1, g2⟩, g3⟩ := d3 a ha b hb c hc
    rcases g3 with g3 | g3 | g3 | ⟨g3, g4, g5⟩
    · exact absurd (Or.inl g3) h0
    · exact absurd (Or.inr (Or.inl g3)) h0
    · exact absurd (Or.inr (Or.inr g3)) h0
    have p := x_M_placeOf (d := d) (h := mk shM m q) g3 g4 g5
    unfold mid3 at p
    simp only [s188_0, s188_1, s188_2, s188_3, s188_6, s188_8, s188_10, s188_13, s188_14, s188_15, s188_16, s188_17, s188_18, s188_21, s188_23, s188_24, s188_25, s188_26, s188_29, s188_31, s188_33, s188_34, s188_37, s188_38, s188_40, s188_41, s188_42, s188_43, s188_44, s188_45, s188_47, s188_48, s188_50, s188_51, s188_53, s188_56, s188_57, s188_58, s188_59, t, Option.bind_some, Option.toList_some, Option.toList_none, List.nil_append, List.cons_append, z, if_false, x_M_low (show a < 1000 by omega) (show b < 1000 by omega) (show c < 1000 by omega), x_M_high (show a < 1000 by omega) (show b < 1000 by omega) (show c < 1000 by omega), nI_add, nI_sub g1, nI_sub g2, p, tM1, nM1]
    have p21 : 1 + pl (lo3 a b c) (a + b + c - lo3 a b c - hi3 a b c) (hi3 a b c) < 429 := by
      have := p20
      unfold pT mid3 at this
      omega
    simp only [s188_0, s188_1, s188_2, s188_3, s188_6, s188_8, s188_10, s188_13, s188_14, s188_15, s188_16, s188_17, s188_18, s188_21, s188_23, s188_24, s188_25, s188_26, s188_29, s188_31, s188_33, s188_34, s188_37, s188_38, s188_40, s188_41, s188_42, s188_43, s188_44, s188_45, s188_47, s188_48, s188_50, s188_51, s188_53, s188_56, s188_57, s188_58, s188_59, tM1, nM1, p21]
    rfl
theorem x_M_signs (ha : a < 6) (hb : b < 6) (hc : c < 6) (h0 : ¬ (a = b ∨ a = c ∨ b = c)) : ev (d + 1) 180 0 [.ref 0, .int (nI a), .int (nI b), .int (nI c), .int v, .null, .null] [] (mk shM m q) = some (none, mk shM (mu m 1 (sgU (m 1) a b c v)) q) := by
  have t := x_M_turnsOf (d := d) (h := mk shM m q) (show a < 1000 by omega) (show b < 1000 by omega) (show c < 1000 by omega)
  have p20 := pT_lt ha hb hc h0
  obtain ⟨⟨g1, g2⟩, g3⟩ := d3 a ha b hb c hc
  rcases g3 with g3 | g3 | g3 | ⟨g3, g4, g5⟩
  · exact absurd (Or.inl g3) h0
  · exact absurd (Or.inr (Or.inl g3)) h0
  · exact absurd (Or.inr (Or.inr g3)) h0
  have p := x_M_placeOf (d := d) (h := mk shM m q) g3 g4 g5
  unfold mid3 at p
  have p21 : 1 + pl (lo3 a b c) (a + b + c - lo3 a b c - hi3 a b c) (hi3 a b c) < 429 := by
    have := p20
    unfold pT mid3 at this
    omega
  simp only [s180_0, s180_1, s180_2, s180_3, s180_6, s180_8, s180_9, s180_10, s180_11, s180_14, s180_16, s180_17, s180_20, s180_21, s180_23, s180_24, s180_25, s180_26, s180_27, s180_28, s180_30, s180_31, s180_33, s180_34, s180_36, s180_39, s180_40, s180_42, s180_43, s180_44, s180_45, s180_48, s180_49, s180_50, t, Option.bind_some, Option.toList_some, Option.toList_none, List.nil_append, List.cons_append, x_M_low (show a < 1000 by omega) (show b < 1000 by omega) (show c < 1000 by omega), x_M_high (show a < 1000 by omega) (show b < 1000 by omega) (show c < 1000 by omega), nI_add, nI_sub g1, nI_sub g2, p, tM1, nM1, p21]
  rfl
theorem x_M_turnOf (ha : a < 6) (hb : b < 6) (hc : c < 6) : ev (d + 1) 197 0 [.ref 0, .int (nI a), .int (nI b), .int (nI c), .null, .null, .null, .null] [] (mk shM m q) = some (some (.int (sgM (mtn (m 1) a b c))), mk shM m q) := by
  have k0 : ∀ {e : Nat}, e < 6 → ev d 189 0 [.ref 0, .int (nI e), .int (nI 0)] [] (mk shM m q) = some (some (.int (mco (m 1) e 0)), mk shM m q) := fun he => x_M_coordinate he (by decide)
  have k1 : ∀ {e : Nat}, e < 6 → ev d 189 0 [.ref 0, .int (nI e), .int (nI 1)] [] (mk shM m q) = some (some (.int (mco (m 1) e 1)), mk shM m q) := fun he => x_M_coordinate he (by decide)
  have k2 : ∀ {e : Nat}, e < 6 → ev d 189 0 [.ref 0, .int (nI e), .int (nI 2)] [] (mk shM m q) = some (some (.int (mco (m 1) e 2)), mk shM m q) := fun he => x_M_coordinate he (by decide)
  have st : ∀ (i j k : Nat) (w : Int32) (v6 v7 : Value), i < 3 → nI (i + 1) - nI (i + 1) / nI 3 * nI 3 = nI j → nI (i + 2) - nI (i + 2) / nI 3 * nI 3 = nI k → j < 3 → k < 3 → ev (d + 1) 197 6 [.ref 0, .int (nI a), .int (nI b), .int (nI c), .int w, .int (nI i), v6, v7] [] (mk shM m q) = ev (d + 1) 197 6 [.ref 0, .int (nI a), .int (nI b), .int (nI c), .int (w + mco (m 1) a i * (mco (m 1) b j * mco (m 1) c k - mco (m 1) b k * mco (m 1) c j)), .int (nI (i + 1)), .int (nI j), .int (nI k)] [] (mk shM m q) := fun i j k w v6 v7 hi e1 e2 hj hk => by
    rw [s197_6]
    simp only [s197_0, s197_1, s197_3, s197_4, s197_8, s197_9, s197_12, s197_14, s197_15, s197_16, s197_17, s197_18, s197_20, s197_22, s197_23, s197_24, s197_25, s197_26, s197_28, s197_30, s197_31, s197_32, s197_34, s197_37, s197_38, s197_39, s197_41, s197_44, s197_45, s197_46, s197_48, s197_51, s197_52, s197_53, s197_54, s197_56, s197_59, s197_60, s197_61, s197_63, s197_66, s197_67, s197_68, s197_69, s197_70, s197_72, s197_75, s197_78, s197_80, s197_83, s197_84, s197_87, s197_89, s197_92, s197_93, s197_96, s197_97, nI_lt hi (show 3 < 2 ^ 31 by decide), if_true, nI_add, show ¬ nI 3 = 0 by decide, not_false_eq_true, e1, e2, x_M_coordinate ha hi, x_M_coordinate hb hj, x_M_coordinate hc hk, x_M_coordinate hb hk, x_M_coordinate hc hj, Option.bind_some, Option.toList_some, Option.toList_none, List.nil_append, List.cons_append]
  have en : ∀ (w : Int32) (v6 v7 : Value), ev (d + 1) 197 6 [.ref 0, .int (nI a), .int (nI b), .int (nI c), .int w, .int (nI 3), v6, v7] [] (mk shM m q) = some (some (.int (sgM w)), mk shM m q) := fun w v6 v7 => by
    rw [s197_6]
    unfold sgM
    by_cases h1 : 0 < w
    · simp only [s197_0, s197_1, s197_3, s197_4, s197_8, s197_9, s197_12, s197_14, s197_15, s197_16, s197_17, s197_18, s197_20, s197_22, s197_23, s197_24, s197_25, s197_26, s197_28, s197_30, s197_31, s197_32, s197_34, s197_37, s197_38, s197_39, s197_41, s197_44, s197_45, s197_46, s197_48, s197_51, s197_52, s197_53, s197_54, s197_56, s197_59, s197_60, s197_61, s197_63, s197_66, s197_67, s197_68, s197_69, s197_70, s197_72, s197_75, s197_78, s197_80, s197_83, s197_84, s197_87, s197_89, s197_92, s197_93, s197_96, s197_97, nI_irr, if_false, h1, if_true]
      rfl
    · by_cases h2 : w < 0
      · simp only [s197_0, s197_1, s197_3, s197_4, s197_8, s197_9, s197_12, s197_14, s197_15, s197_16, s197_17, s197_18, s197_20, s197_22, s197_23, s197_24, s197_25, s197_26, s197_28, s197_30, s197_31, s197_32, s197_34, s197_37, s197_38, s197_39, s197_41, s197_44, s197_45, s197_46, s197_48, s197_51, s197_52, s197_53, s197_54, s197_56, s197_59, s197_60, s197_61, s197_63, s197_66, s197_67, s197_68, s197_69, s197_70, s197_72, s197_75, s197_78, s197_80, s197_83, s197_84, s197_87, s197_89, s197_92, s197_93, s197_96, s197_97, nI_irr, if_false, h1, h2, if_true]
      · simp only [s197_0, s197_1, s197_3, s197_4, s197_8, s197_9, s197_12, s197_14, s197_15, s197_16, s197_17, s197_18, s197_20, s197_22, s197_23, s197_24, s197_25, s197_26, s197_28, s197_30, s197_31, s197_32, s197_34, s197_37, s197_38, s197_39, s197_41, s197_44, s197_45, s197_46, s197_48, s197_51, s197_52, s197_53, s197_54, s197_56, s197_59, s197_60, s197_61, s197_63, s197_66, s197_67, s197_68, s197_69, s197_70, s197_72, s197_75, s197_78, s197_80, s197_83, s197_84, s197_87, s197_89, s197_92, s197_93, s197_96, s197_97, nI_irr, if_false, h1, h2]
        rfl
  simp only [s197_0, s197_1, s197_3, s197_4, s197_8, s197_9, s197_12, s197_14, s197_15, s197_16, s197_17, s197_18, s197_20, s197_22, s197_23, s197_24, s197_25, s197_26, s197_28, s197_30, s197_31, s197_32, s197_34, s197_37, s197_38, s197_39, s197_41, s197_44, s197_45, s197_46, s197_48, s197_51, s197_52, s197_53, s197_54, s197_56, s197_59, s197_60, s197_61, s197_63, s197_66, s197_67, s197_68, s197_69, s197_70, s197_72, s197_75, s197_78, s197_80, s197_83, s197_84, s197_87, s197_89, s197_92, s197_93, s197_96, s197_97]
  exact (st 0 1 2 _ _ _ (by decide) (by decide) (by decide) (by decide) (by decide)).trans ((st 1 2 0 _ _ _ (by decide) (by decide) (by decide) (by decide) (by decide)).trans ((st 2 0 1 _ _ _ (by decide) (by decide) (by decide) (by decide) (by decide)).trans (en _ _ _)))
theorem x_M_points (he : e < 6) : ev d 190 0 [.ref 0, .int (nI e), .int x, .int y, .int z] [] (mk shM m q) = some (none, mk shM (mu m 1 (ptM (m 1) e x y z)) q) := by
  simp only [s190_0, s190_1, s190_4, s190_6, s190_7, s190_8, s190_9, s190_10, s190_11, s190_12, s190_13, s190_16, s190_18, s190_19, s190_20, s190_21, s190_22, s190_23, s190_24, s190_25, s190_26, s190_27, s190_30, s190_32, s190_33, s190_34, s190_35, s190_36, s190_37, s190_38, s190_40, s190_41, nI_add, pk_mul, tM1, nM1, show 21 + 3 * e < 429 by omega, show 21 + 3 * e + 1 < 429 by omega, show 21 + 3 * e + 2 < 429 by omega, mu_mu, mu_same, ptM]
end
