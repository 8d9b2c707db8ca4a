/-! deeds: add, place, drop -/
section
variable {d n x s : Nat} {m : Mem} {q : MemJ} {e a b c : Int32}
theorem x_S_isFar {h : AH} : ev d 62 0 [.int a] [] h = some (some (.int (bI (faB a))), h) := by
  unfold faB
  by_cases h1 : a < -99
  · simp only [s62_0, s62_1, s62_3, s62_6, s62_7, s62_9, s62_12, s62_13, s62_16, s62_17, h1, if_true, am_b1, decide_true, Bool.true_or, bI_t]
  · by_cases h2 : nI 99 < a
    · simp only [s62_0, s62_1, s62_3, s62_6, s62_7, s62_9, s62_12, s62_13, s62_16, s62_17, h1, h2, if_true, if_false, am_b1, decide_true, decide_false, Bool.or_true, bI_t]
    · simp only [s62_0, s62_1, s62_3, s62_6, s62_7, s62_9, s62_12, s62_13, s62_16, s62_17, h1, h2, if_false, am_b0, decide_false, Bool.or_self, bI_f]
theorem x_S_drop (hn : m 1 0 = nI n) (hn6 : n ≤ 6) (hx : m 7 1 = nI x) (hx8 : x < 8) (hs : m 7 2 = nI s) (hs8 : s ≤ 8) (h1 : zA m (9 + 3 * x)) (h2 : zA m 1) : ev (d + 8) 68 0 [.ref 0, .int e] [] (mk shC m q) = if elB n e = true then (if 3 < n then some (some (.int (nI (n - 1))), mk shC (mu (mu (mu (bdH m x s) 1 (upd (m 1) 0 (nI (n - 1)))) 3 (rmP (n - 1) (eN e) (m 3))) 2 (rmS (n - 1) (eN e) (m 2))) q) else some (some (.int (-1003)), mk shC m q)) else some (some (.int (-1001)), mk shC m q) := by
  simp only [s68_0, s68_1, s68_4, s68_5, s68_8, s68_11, s68_14, s68_15, s68_16, s68_19, s68_22, s68_23, s68_26, s68_29, s68_30, s68_31, s68_34, s68_35, s68_38, s68_39, s68_42, s68_43, s68_46, s68_49, oC0_1, x_A_has oC0_1 hn, Option.bind_some, Option.toList_some, Option.toList_none, List.nil_append, List.cons_append, bI_z]
  cases he : elB n e with
  | false => simp only [if_true, Bool.false_eq_true, if_false, not_true]
  | true =>
    have ex := elB_t (by omega) he
    simp only [Bool.true_eq_false, if_true, if_false, not_false_eq_true, s68_0, s68_1, s68_4, s68_5, s68_8, s68_11, s68_14, s68_15, s68_16, s68_19, s68_22, s68_23, s68_26, s68_29, s68_30, s68_31, s68_34, s68_35, s68_38, s68_39, s68_42, s68_43, s68_46, s68_49, oC0_1, x_A_size oC0_1, hn, Option.bind_some, Option.toList_some, Option.toList_none, List.nil_append, List.cons_append, nI_ltI (show 3 < 2 ^ 31 by decide) (show n < 2 ^ 31 by omega)]
    by_cases h3 : 3 < n
    · have bd := x_S_beginDeed (d := d) (q := q) hx hx8 hs hs8 h1 h2
      have g1 : bdH m x s 1 = m 1 := bdH_ne (by decide) (by omega) (by decide) (by decide)
      have g2 : bdH m x s 2 = m 2 := bdH_ne (by decide) (by omega) (by decide) (by decide)
      have g3 : bdH m x s 3 = m 3 := bdH_ne (by decide) (by omega) (by decide) (by decide)
      have t := x_A_remove (d := d + 5) (n := n - 1) (e := eN e) (m := bdH m x s) (q := q) oC0_1 (by rw [g1, hn, show n - 1 + 1 = n by omega]) (by omega) (by omega)
      rw [← ex.2, show (1 + 1 : Nat) = 2 from rfl, show (1 + 2 : Nat) = 3 from rfl, g1, g2, g3] at t
      simp only [h3, if_true, s68_0, s68_1, s68_4, s68_5, s68_8, s68_11, s68_14, s68_15, s68_16, s68_19, s68_22, s68_23, s68_26, s68_29, s68_30, s68_31, s68_34, s68_35, s68_38, s68_39, s68_42, s68_43, s68_46, s68_49, bd, Option.bind_some, Option.toList_some, Option.toList_none, List.nil_append, List.cons_append, oC0_1, t, x_A_size oC0_1, mu_ne (show (1 : Nat) ≠ 2 by decide), mu_ne (show (1 : Nat) ≠ 3 by decide), mu_same, show upd (m 1) 0 (nI (n - 1)) 0 = nI (n - 1) by simp [upd]]
    · simp only [h3, if_false]
theorem x_S_add (hn : m 1 0 = nI n) (hn6 : n ≤ 6) (hx : m 7 1 = nI x) (hx8 : x < 8) (hs : m 7 2 = nI s) (hs8 : s ≤ 8) (h1 : zA m (9 + 3 * x)) (h2 : zA m 1) : ev (d + 8) 66 0 [.ref 0, .int a, .int b, .int c] [] (mk shC m q) = if (faB a || faB b || faB c) = true then some (some (.int (-1002)), mk shC m q) else if n < 6 then some (some (.int (nI (n + 1))), mk shC (mu (mu (mu (bdH m x s) 1 (upd (m 1) 0 (nI (n + 1)))) 3 (pt3 (m 3) n a b c)) 2 (apn n (pt3 (m 3) n a b c) (m 2))) q) else some (some (.int (-1004)), mk shC m q) := by
  simp only [s66_0, s66_1, s66_4, s66_7, s66_8, s66_11, s66_14, s66_15, s66_18, s66_21, s66_24, s66_25, s66_26, s66_29, s66_32, s66_34, s66_37, s66_40, s66_41, s66_42, s66_45, s66_46, s66_49, s66_50, s66_51, s66_52, s66_55, s66_56, s66_59, s66_62, x_S_isFar, Option.bind_some, Option.toList_some, Option.toList_none, List.nil_append, List.cons_append, bI_z]
  cases ha : faB a with
  | true => simp only [Bool.true_eq_false, if_false, if_true, Bool.true_or]
  | false =>
    simp only [if_true, s66_0, s66_1, s66_4, s66_7, s66_8, s66_11, s66_14, s66_15, s66_18, s66_21, s66_24, s66_25, s66_26, s66_29, s66_32, s66_34, s66_37, s66_40, s66_41, s66_42, s66_45, s66_46, s66_49, s66_50, s66_51, s66_52, s66_55, s66_56, s66_59, s66_62, x_S_isFar, Option.bind_some, Option.toList_some, Option.toList_none, List.nil_append, List.cons_append, bI_z]
    cases hb : faB b with
    | true => simp only [Bool.true_eq_false, if_false, if_true, Bool.true_or, Bool.or_true]
    | false =>
      simp only [if_true, s66_0, s66_1, s66_4, s66_7, s66_8, s66_11, s66_14, s66_15, s66_18, s66_21, s66_24, s66_25, s66_26, s66_29, s66_32, s66_34, s66_37, s66_40, s66_41, s66_42, s66_45, s66_46, s66_49, s66_50, s66_51, s66_52, s66_55, s66_56, s66_59, s66_62, x_S_isFar, Option.bind_some, Option.toList_some, Option.toList_none, List.nil_append, List.cons_append, bI_z]
      cases hc : faB c with
      | true => simp only [Bool.true_eq_false, if_false, if_true, Bool.or_true, s66_0, s66_1, s66_4, s66_7, s66_8, s66_11, s66_14, s66_15, s66_18, s66_21, s66_24, s66_25, s66_26, s66_29, s66_32, s66_34, s66_37, s66_40, s66_41, s66_42, s66_45, s66_46, s66_49, s66_50, s66_51, s66_52, s66_55, s66_56, s66_59, s66_62]
      | false =>
        simp only [if_true, Bool.or_self, Bool.false_eq_true, if_false, s66_0, s66_1, s66_4, s66_7, s66_8, s66_11, s66_14, s66_15, s66_18, s66_21, s66_24, s66_25, s66_26, s66_29, s66_32, s66_34, s66_37, s66_40, s66_41, s66_42, s66_45, s66_46, s66_49, s66_50, s66_51, s66_52, s66_55, s66_56, s66_59, s66_62, oC0_1, x_A_size oC0_1, hn, Option.bind_some, Option.toList_some, Option.toList_none, List.nil_append, List.cons_append, nI_ltI (show n < 2 ^ 31 by omega) (show 6 < 2 ^ 31 by decide)]
        by_cases h6 : n < 6
        · have bd := x_S_beginDeed (d := d) (q := q) hx hx8 hs hs8 h1 h2
          have g1 : bdH m x s 1 = m 1 := bdH_ne (by decide) (by omega) (by decide) (by decide)
          have g2 : bdH m x s 2 = m 2 := bdH_ne (by decide) (by omega) (by decide) (by decide)
          have g3 : bdH m x s 3 = m 3 := bdH_ne (by decide) (by omega) (by decide) (by decide)
          have t := x_A_append (d := d + 4) (n := n) (x := a) (y := b) (z := c) (m := bdH m x s) (q := q) oC0_1 (by rw [g1, hn]) h6
          rw [show (1 + 1 : Nat) = 2 from rfl, show (1 + 2 : Nat) = 3 from rfl, g1, g2, g3] at t
          simp only [h6, if_true, s66_0, s66_1, s66_4, s66_7, s66_8, s66_11, s66_14, s66_15, s66_18, s66_21, s66_24, s66_25, s66_26, s66_29, s66_32, s66_34, s66_37, s66_40, s66_41, s66_42, s66_45, s66_46, s66_49, s66_50, s66_51, s66_52, s66_55, s66_56, s66_59, s66_62, bd, Option.bind_some, Option.toList_some, Option.toList_none, List.nil_append, List.cons_append, oC0_1, t, x_A_size oC0_1, mu_ne (show (1 : Nat) ≠ 2 by decide), mu_ne (show (1 : Nat) ≠ 3 by decide), mu_same, show upd (m 1) 0 (nI (n + 1)) 0 = nI (n + 1) by simp [upd]]
        · simp only [h6, if_false]
end
