/-! what is told: signs, turns, points -/
def elB (n : Nat) (x : Int32) : Bool := !decide (x < 0) && decide (x < nI n)
def eN (x : Int32) : Nat := x.toNatClampNeg
theorem elB_t {n : Nat} {x : Int32} (hn : n < 1000) (h : elB n x = true) : eN x < n ∧ x = nI (eN x) := by
  rcases el_or n x (by omega) with h2 | ⟨e, he, rfl⟩
  · unfold elB at h
    simp only [Bool.and_eq_true, Bool.not_eq_true', decide_eq_false_iff_not, decide_eq_true_eq] at h
    rcases h2 with h2 | h2
    · exact absurd h2 h.1
    · exact absurd h.2 (Int32.not_lt.mpr h2)
  · rw [show eN (nI e) = e from nI_c (by omega)]
    exact ⟨he, rfl⟩
theorem x_A_has {d k n : Nat} {x : Int32} {m : Mem} {q : MemJ} (ho : oC0 k) (hn : m k 0 = nI n) : ev d 55 0 [.ref k, .int x] [] (mk shC m q) = some (some (.int (bI (elB n x))), mk shC m q) := by
  unfold elB
  by_cases h : x < 0
  · simp only [s55_0, s55_1, s55_4, s55_5, s55_6, s55_9, s55_12, s55_13, s55_16, s55_17, h, if_true, am_b0, decide_true, Bool.not_true, Bool.false_and, bI_f]
  · by_cases h2 : x < nI n
    · simp only [s55_0, s55_1, s55_4, s55_5, s55_6, s55_9, s55_12, s55_13, s55_16, s55_17, ho, hn, h, h2, if_true, if_false, am_b1, decide_true, decide_false, Bool.not_false, Bool.and_self, bI_t]
    · simp only [s55_0, s55_1, s55_4, s55_5, s55_6, s55_9, s55_12, s55_13, s55_16, s55_17, ho, hn, h, h2, if_false, am_b0, decide_false, Bool.and_false, bI_f]
section
variable {d n : Nat} {m : Mem} {q : MemJ} {x y z : Int32}
theorem x_S_sign (hn : m 1 0 = nI n) (hn6 : n ≤ 6) : ev (d + 1) 54 0 [.ref 0, .int x, .int y, .int z] [] (mk shC m q) = some (some (.int (if (elB n x && elB n y && elB n z) = true then m 2 ((eN x * 6 + eN y) * 6 + eN z) else -1001)), mk shC m q) := by
  simp only [s54_0, s54_1, s54_4, s54_5, s54_8, s54_11, s54_12, s54_15, s54_16, s54_19, s54_22, s54_23, s54_26, s54_27, s54_30, s54_33, s54_36, s54_37, s54_38, s54_41, s54_42, s54_43, s54_44, s54_47, oC0_1, x_A_has oC0_1 hn, Option.bind_some, Option.toList_some, Option.toList_none, List.nil_append, List.cons_append, bI_z]
  cases hx : elB n x with
  | false => simp only [if_true, Bool.false_and, Bool.false_eq_true, if_false]
  | true =>
    cases hy : elB n y with
    | false => simp only [if_true, Bool.true_eq_false, if_false, Bool.and_false, Bool.false_and, Bool.false_eq_true, s54_0, s54_1, s54_4, s54_5, s54_8, s54_11, s54_12, s54_15, s54_16, s54_19, s54_22, s54_23, s54_26, s54_27, s54_30, s54_33, s54_36, s54_37, s54_38, s54_41, s54_42, s54_43, s54_44, s54_47, oC0_1, x_A_has oC0_1 hn, Option.bind_some, Option.toList_some, Option.toList_none, List.nil_append, List.cons_append, bI_z, hy]
    | true =>
      cases hz : elB n z with
      | false => simp only [if_true, Bool.true_eq_false, if_false, Bool.and_false, Bool.false_eq_true, s54_0, s54_1, s54_4, s54_5, s54_8, s54_11, s54_12, s54_15, s54_16, s54_19, s54_22, s54_23, s54_26, s54_27, s54_30, s54_33, s54_36, s54_37, s54_38, s54_41, s54_42, s54_43, s54_44, s54_47, oC0_1, x_A_has oC0_1 hn, Option.bind_some, Option.toList_some, Option.toList_none, List.nil_append, List.cons_append, bI_z, hy, hz, not_true]
      | true =>
        have ex := elB_t (by omega) hx
        have ey := elB_t (by omega) hy
        have ez := elB_t (by omega) hz
        have A := x_A_signOf (d := d) (m := m) (q := q) oC0_1 (show (eN x * 6 + eN y) * 6 + eN z < 216 by omega)
        rw [← ex.2, ← ey.2, ← ez.2] at A
        simp only [if_true, Bool.true_eq_false, if_false, Bool.and_self, s54_0, s54_1, s54_4, s54_5, s54_8, s54_11, s54_12, s54_15, s54_16, s54_19, s54_22, s54_23, s54_26, s54_27, s54_30, s54_33, s54_36, s54_37, s54_38, s54_41, s54_42, s54_43, s54_44, s54_47, oC0_1, x_A_has oC0_1 hn, Option.bind_some, Option.toList_some, Option.toList_none, List.nil_append, List.cons_append, bI_z, hy, hz, not_false_eq_true, A]
theorem x_S_turn (hn : m 1 0 = nI n) (hn6 : n ≤ 6) : ev (d + 3) 56 0 [.ref 0, .int x, .int y, .int z] [] (mk shC m q) = some (some (.int (if (elB n x && elB n y && elB n z) = true then sgn (trn (m 3) (eN x) (eN y) (eN z)) else -1001)), mk shC m q) := by
  simp only [s56_0, s56_1, s56_4, s56_5, s56_8, s56_11, s56_12, s56_15, s56_16, s56_19, s56_22, s56_23, s56_26, s56_27, s56_30, s56_33, s56_36, s56_37, s56_38, s56_41, s56_42, s56_43, s56_44, s56_47, oC0_1, x_A_has oC0_1 hn, Option.bind_some, Option.toList_some, Option.toList_none, List.nil_append, List.cons_append, bI_z]
  cases hx : elB n x with
  | false => simp only [if_true, Bool.false_and, Bool.false_eq_true, if_false]
  | true =>
    cases hy : elB n y with
    | false => simp only [if_true, Bool.true_eq_false, if_false, Bool.and_false, Bool.false_and, Bool.false_eq_true, s56_0, s56_1, s56_4, s56_5, s56_8, s56_11, s56_12, s56_15, s56_16, s56_19, s56_22, s56_23, s56_26, s56_27, s56_30, s56_33, s56_36, s56_37, s56_38, s56_41, s56_42, s56_43, s56_44, s56_47, oC0_1, x_A_has oC0_1 hn, Option.bind_some, Option.toList_some, Option.toList_none, List.nil_append, List.cons_append, bI_z, hy]
    | true =>
      cases hz : elB n z with
      | false => simp only [if_true, Bool.true_eq_false, if_false, Bool.and_false, Bool.false_eq_true, s56_0, s56_1, s56_4, s56_5, s56_8, s56_11, s56_12, s56_15, s56_16, s56_19, s56_22, s56_23, s56_26, s56_27, s56_30, s56_33, s56_36, s56_37, s56_38, s56_41, s56_42, s56_43, s56_44, s56_47, oC0_1, x_A_has oC0_1 hn, Option.bind_some, Option.toList_some, Option.toList_none, List.nil_append, List.cons_append, bI_z, hy, hz, not_true]
      | true =>
        have ex := elB_t (by omega) hx
        have ey := elB_t (by omega) hy
        have ez := elB_t (by omega) hz
        have A := x_A_turnOf (d := d) (m := m) (q := q) oC0_1 (show eN x < 6 by omega) (show eN y < 6 by omega) (show eN z < 6 by omega)
        rw [← ex.2, ← ey.2, ← ez.2] at A
        simp only [if_true, Bool.true_eq_false, if_false, Bool.and_self, s56_0, s56_1, s56_4, s56_5, s56_8, s56_11, s56_12, s56_15, s56_16, s56_19, s56_22, s56_23, s56_26, s56_27, s56_30, s56_33, s56_36, s56_37, s56_38, s56_41, s56_42, s56_43, s56_44, s56_47, oC0_1, x_A_has oC0_1 hn, Option.bind_some, Option.toList_some, Option.toList_none, List.nil_append, List.cons_append, bI_z, hy, hz, not_false_eq_true, A]
theorem x_S_point (hn : m 1 0 = nI n) (hn6 : n ≤ 6) : ev (d + 1) 57 0 [.ref 0, .int x, .int y] [] (mk shC m q) = some (some (.int (if elB n x = true then (if elB 3 y = true then m 3 (eN x * 3 + eN y) else -1002) else -1001)), mk shC m q) := by
  simp only [s57_0, s57_1, s57_4, s57_5, s57_8, s57_11, s57_14, s57_15, s57_16, s57_19, s57_20, s57_21, s57_24, s57_27, s57_28, s57_29, s57_32, s57_33, s57_34, s57_37, oC0_1, x_A_has oC0_1 hn, Option.bind_some, Option.toList_some, Option.toList_none, List.nil_append, List.cons_append, bI_z]
  cases hx : elB n x with
  | false => simp only [if_true, Bool.false_eq_true, if_false, not_true]
  | true =>
    have ex := elB_t (by omega) hx
    cases hy : elB 3 y with
    | true =>
      have ey := elB_t (by omega) hy
      have A := x_A_numberOf (d := d) (m := m) (q := q) oC0_1 (show eN x * 3 + eN y < 18 by omega)
      rw [← ex.2, ← ey.2] at A
      unfold elB at hy
      simp only [Bool.and_eq_true, Bool.not_eq_true', decide_eq_false_iff_not, decide_eq_true_eq] at hy
      simp only [if_true, Bool.true_eq_false, if_false, not_false_eq_true, s57_0, s57_1, s57_4, s57_5, s57_8, s57_11, s57_14, s57_15, s57_16, s57_19, s57_20, s57_21, s57_24, s57_27, s57_28, s57_29, s57_32, s57_33, s57_34, s57_37, hy.1, hy.2, oC0_1, A, Option.bind_some, Option.toList_some, Option.toList_none, List.nil_append, List.cons_append]
    | false =>
      unfold elB at hy
      simp only [Bool.true_eq_false, not_false_eq_true, if_true, Bool.false_eq_true, if_false, s57_0, s57_1, s57_4, s57_5, s57_8, s57_11, s57_14, s57_15, s57_16, s57_19, s57_20, s57_21, s57_24, s57_27, s57_28, s57_29, s57_32, s57_33, s57_34, s57_37]
      by_cases h : y < 0
      · simp only [h, if_true]
      · have h2 : ¬ y < nI 3 := fun h2 => by simp [h, h2] at hy
        simp only [h, h2, if_false]
end
