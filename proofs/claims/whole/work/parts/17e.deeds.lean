/-! deeds: place -/
section
variable {d n x s : Nat} {m : Mem} {q : MemJ} {e a b c : Int32}
theorem x_S_place (hn : m 1 0 = nI n) (hn6 : n ≤ 6) (hx : m 7 1 = nI x) (hx8 : x < 8) (hs : m 7 2 = nI s) (hs8 : s ≤ 8) (h1 : zA m (9 + 3 * x)) (h2 : zA m 1) : ev (d + 8) 61 0 [.ref 0, .int e, .int a, .int b, .int c, .null] [] (mk shC m q) = if elB n e = true then (if (faB a || faB b || faB c) = true then some (some (.int (-1002)), mk shC m q) else some (some (.int (if m 3 (eN e * 3) = a ∧ m 3 (eN e * 3 + 1) = b ∧ m 3 (eN e * 3 + 2) = c then nI 0 else nI 1)), mk shC (mu (bdH m x s) 3 (pt3 (m 3) (eN e) a b c)) q)) else some (some (.int (-1001)), mk shC m q) := by
  simp only [s61_0, s61_1, s61_4, s61_5, s61_8, s61_11, s61_14, s61_15, s61_16, s61_19, s61_22, s61_23, s61_26, s61_29, s61_31, s61_34, s61_37, s61_40, s61_41, s61_42, s61_45, s61_46, s61_49, s61_50, s61_51, s61_52, s61_54, s61_57, s61_59, s61_60, s61_63, s61_64, s61_65, s61_66, s61_68, s61_71, s61_73, s61_76, s61_77, s61_80, s61_81, oC0_1, x_A_has oC0_1 hn, Option.bind_some, Option.toList_some, Option.toList_none, List.nil_append, List.cons_append, bI_z]
  cases he : elB n e with
  | false => simp only [if_true, Bool.false_eq_true, if_false, not_true]
  | true =>
    have ex := elB_t (by omega) he
    simp only [Bool.true_eq_false, if_true, if_false, not_false_eq_true, s61_0, s61_1, s61_4, s61_5, s61_8, s61_11, s61_14, s61_15, s61_16, s61_19, s61_22, s61_23, s61_26, s61_29, s61_31, s61_34, s61_37, s61_40, s61_41, s61_42, s61_45, s61_46, s61_49, s61_50, s61_51, s61_52, s61_54, s61_57, s61_59, s61_60, s61_63, s61_64, s61_65, s61_66, s61_68, s61_71, s61_73, s61_76, s61_77, s61_80, s61_81, x_S_isFar, Option.bind_some, Option.toList_some, Option.toList_none, List.nil_append, List.cons_append, bI_z]
    cases ha : faB a with
    | true => simp only [Bool.true_eq_false, if_false, if_true, Bool.true_or]
    | false =>
      simp only [if_true, s61_0, s61_1, s61_4, s61_5, s61_8, s61_11, s61_14, s61_15, s61_16, s61_19, s61_22, s61_23, s61_26, s61_29, s61_31, s61_34, s61_37, s61_40, s61_41, s61_42, s61_45, s61_46, s61_49, s61_50, s61_51, s61_52, s61_54, s61_57, s61_59, s61_60, s61_63, s61_64, s61_65, s61_66, s61_68, s61_71, s61_73, s61_76, s61_77, s61_80, s61_81, x_S_isFar, Option.bind_some, Option.toList_some, Option.toList_none, List.nil_append, List.cons_append, bI_z]
      cases hb : faB b with
      | true => simp only [Bool.true_eq_false, if_false, if_true, Bool.true_or, Bool.or_true]
      | false =>
        simp only [if_true, s61_0, s61_1, s61_4, s61_5, s61_8, s61_11, s61_14, s61_15, s61_16, s61_19, s61_22, s61_23, s61_26, s61_29, s61_31, s61_34, s61_37, s61_40, s61_41, s61_42, s61_45, s61_46, s61_49, s61_50, s61_51, s61_52, s61_54, s61_57, s61_59, s61_60, s61_63, s61_64, s61_65, s61_66, s61_68, s61_71, s61_73, s61_76, s61_77, s61_80, s61_81, x_S_isFar, Option.bind_some, Option.toList_some, Option.toList_none, List.nil_append, List.cons_append, bI_z]
        cases hc : faB c with
        | true => simp only [Bool.true_eq_false, if_false, if_true, Bool.or_true, s61_0, s61_1, s61_4, s61_5, s61_8, s61_11, s61_14, s61_15, s61_16, s61_19, s61_22, s61_23, s61_26, s61_29, s61_31, s61_34, s61_37, s61_40, s61_41, s61_42, s61_45, s61_46, s61_49, s61_50, s61_51, s61_52, s61_54, s61_57, s61_59, s61_60, s61_63, s61_64, s61_65, s61_66, s61_68, s61_71, s61_73, s61_76, s61_77, s61_80, s61_81]
        | false =>
          have bd := x_S_beginDeed (d := d) (q := q) hx hx8 hs hs8 h1 h2
          have g3 : bdH m x s 3 = m 3 := bdH_ne (by decide) (by omega) (by decide) (by decide)
          have t := x_A_isAt (d := d + 6) (e := eN e) (x := a) (y := b) (z := c) (m := bdH m x s) (q := q) oC0_1 (by omega)
          have g := x_A_givePoint (d := d + 7) (e := eN e) (x := a) (y := b) (z := c) (m := bdH m x s) (q := q) oC0_1 (by omega)
          rw [← ex.2, show (1 + 2 : Nat) = 3 from rfl, g3] at t g
          simp only [if_true, Bool.or_self, Bool.false_eq_true, if_false, s61_0, s61_1, s61_4, s61_5, s61_8, s61_11, s61_14, s61_15, s61_16, s61_19, s61_22, s61_23, s61_26, s61_29, s61_31, s61_34, s61_37, s61_40, s61_41, s61_42, s61_45, s61_46, s61_49, s61_50, s61_51, s61_52, s61_54, s61_57, s61_59, s61_60, s61_63, s61_64, s61_65, s61_66, s61_68, s61_71, s61_73, s61_76, s61_77, s61_80, s61_81, bd, Option.bind_some, Option.toList_some, Option.toList_none, List.nil_append, List.cons_append, oC0_1, t, g]
          by_cases hq : m 3 (eN e * 3) = a ∧ m 3 (eN e * 3 + 1) = b ∧ m 3 (eN e * 3 + 2) = c
          · simp only [if_pos hq, nI10, if_false, s61_0, s61_1, s61_4, s61_5, s61_8, s61_11, s61_14, s61_15, s61_16, s61_19, s61_22, s61_23, s61_26, s61_29, s61_31, s61_34, s61_37, s61_40, s61_41, s61_42, s61_45, s61_46, s61_49, s61_50, s61_51, s61_52, s61_54, s61_57, s61_59, s61_60, s61_63, s61_64, s61_65, s61_66, s61_68, s61_71, s61_73, s61_76, s61_77, s61_80, s61_81]
          · simp only [if_neg hq, nI00, if_true, s61_0, s61_1, s61_4, s61_5, s61_8, s61_11, s61_14, s61_15, s61_16, s61_19, s61_22, s61_23, s61_26, s61_29, s61_31, s61_34, s61_37, s61_40, s61_41, s61_42, s61_45, s61_46, s61_49, s61_50, s61_51, s61_52, s61_54, s61_57, s61_59, s61_60, s61_63, s61_64, s61_65, s61_66, s61_68, s61_71, s61_73, s61_76, s61_77, s61_80, s61_81]
end
