/-! deeds: set -/
/-- three of n, no two alike -/
def el3 (n : Nat) (a b c : Int32) : Bool := elB n a && elB n b && elB n c && !decide (a = b) && !decide (a = c) && !decide (b = c)
section
variable {d n x s : Nat} {m : Mem} {q : MemJ} {a b c v : Int32}
theorem x_S_set (hn : m 1 0 = nI n) (hn6 : n ≤ 6) (hx : m 7 1 = nI x) (hx8 : x < 8) (hs : m 7 2 = nI s) (hs8 : s ≤ 8) (h1 : zA m (9 + 3 * x)) (h2 : zA m 1) : ev (d + 8) 58 0 [.ref 0, .int a, .int b, .int c, .int v, .null] [] (mk shC m q) = if el3 n a b c = true then (if v < -1 ∨ nI 1 < v then some (some (.int (-1002)), mk shC m q) else some (some (.int (m 2 ((eN a * 6 + eN b) * 6 + eN c))), mk shC (mu (bdH m x s) 2 (sg6 (m 2) (eN a) (eN b) (eN c) v)) q)) else some (some (.int (-1001)), mk shC m q) := by
  unfold el3
  simp only [s58_0, s58_1, s58_4, s58_5, s58_8, s58_11, s58_12, s58_15, s58_16, s58_19, s58_22, s58_23, s58_26, s58_27, s58_30, s58_33, s58_34, s58_35, s58_38, s58_39, s58_40, s58_43, s58_44, s58_45, s58_48, s58_51, s58_52, s58_54, s58_55, s58_58, s58_60, s58_61, s58_64, s58_67, s58_68, s58_69, s58_72, s58_73, s58_76, s58_77, s58_78, s58_79, s58_82, s58_84, s58_85, s58_88, s58_89, s58_90, s58_91, s58_93, s58_96, s58_98, oC0_1, x_A_has oC0_1 hn, Option.bind_some, Option.toList_some, Option.toList_none, List.nil_append, List.cons_append, bI_z]
  cases ha : elB n a with
  | false => simp only [if_true, Bool.false_and, Bool.false_eq_true, if_false]
  | true =>
    cases hb : elB n b with
    | false => simp only [if_true, Bool.true_eq_false, if_false, Bool.and_false, Bool.false_and, Bool.false_eq_true, s58_0, s58_1, s58_4, s58_5, s58_8, s58_11, s58_12, s58_15, s58_16, s58_19, s58_22, s58_23, s58_26, s58_27, s58_30, s58_33, s58_34, s58_35, s58_38, s58_39, s58_40, s58_43, s58_44, s58_45, s58_48, s58_51, s58_52, s58_54, s58_55, s58_58, s58_60, s58_61, s58_64, s58_67, s58_68, s58_69, s58_72, s58_73, s58_76, s58_77, s58_78, s58_79, s58_82, s58_84, s58_85, s58_88, s58_89, s58_90, s58_91, s58_93, s58_96, s58_98, oC0_1, x_A_has oC0_1 hn, Option.bind_some, Option.toList_some, Option.toList_none, List.nil_append, List.cons_append, bI_z, hb]
    | true =>
      cases hc : elB n c with
      | false => simp only [if_true, Bool.true_eq_false, if_false, Bool.and_false, Bool.false_and, Bool.false_eq_true, s58_0, s58_1, s58_4, s58_5, s58_8, s58_11, s58_12, s58_15, s58_16, s58_19, s58_22, s58_23, s58_26, s58_27, s58_30, s58_33, s58_34, s58_35, s58_38, s58_39, s58_40, s58_43, s58_44, s58_45, s58_48, s58_51, s58_52, s58_54, s58_55, s58_58, s58_60, s58_61, s58_64, s58_67, s58_68, s58_69, s58_72, s58_73, s58_76, s58_77, s58_78, s58_79, s58_82, s58_84, s58_85, s58_88, s58_89, s58_90, s58_91, s58_93, s58_96, s58_98, oC0_1, x_A_has oC0_1 hn, Option.bind_some, Option.toList_some, Option.toList_none, List.nil_append, List.cons_append, bI_z, hb, hc]
      | true =>
        simp only [if_true, Bool.true_eq_false, if_false, Bool.and_self, Bool.true_and, s58_0, s58_1, s58_4, s58_5, s58_8, s58_11, s58_12, s58_15, s58_16, s58_19, s58_22, s58_23, s58_26, s58_27, s58_30, s58_33, s58_34, s58_35, s58_38, s58_39, s58_40, s58_43, s58_44, s58_45, s58_48, s58_51, s58_52, s58_54, s58_55, s58_58, s58_60, s58_61, s58_64, s58_67, s58_68, s58_69, s58_72, s58_73, s58_76, s58_77, s58_78, s58_79, s58_82, s58_84, s58_85, s58_88, s58_89, s58_90, s58_91, s58_93, s58_96, s58_98, oC0_1, x_A_has oC0_1 hn, Option.bind_some, Option.toList_some, Option.toList_none, List.nil_append, List.cons_append, bI_z, hb, hc]
        by_cases e1 : a = b
        · simp [e1]
        · by_cases e2 : a = c
          · simp [e1, e2]
          · by_cases e3 : b = c
            · simp [e1, e2, e3]
            · have ea := elB_t (by omega) ha
              have eb := elB_t (by omega) hb
              have ec := elB_t (by omega) hc
              have bd := x_S_beginDeed (d := d) (q := q) hx hx8 hs hs8 h1 h2
              have g2 : bdH m x s 2 = m 2 := bdH_ne (by decide) (by omega) (by decide) (by decide)
              have t := x_A_signOf (d := d + 7) (m := bdH m x s) (q := q) oC0_1 (show (eN a * 6 + eN b) * 6 + eN c < 216 by omega)
              have g := x_A_giveSign (d := d + 6) (v := v) (m := bdH m x s) (q := q) oC0_1 (show eN a < 6 by omega) (show eN b < 6 by omega) (show eN c < 6 by omega)
              rw [← ea.2, ← eb.2, ← ec.2, show (1 + 1 : Nat) = 2 from rfl, g2] at t g
              simp only [e1, e2, e3, if_false, not_false_eq_true, if_true, decide_false, Bool.not_false, Bool.and_self]
              by_cases w1 : v < -1
              · simp only [w1, if_true, true_or]
              · by_cases w2 : nI 1 < v
                · simp only [w1, w2, if_true, if_false, or_true]
                · simp only [w1, w2, if_false, or_self, s58_0, s58_1, s58_4, s58_5, s58_8, s58_11, s58_12, s58_15, s58_16, s58_19, s58_22, s58_23, s58_26, s58_27, s58_30, s58_33, s58_34, s58_35, s58_38, s58_39, s58_40, s58_43, s58_44, s58_45, s58_48, s58_51, s58_52, s58_54, s58_55, s58_58, s58_60, s58_61, s58_64, s58_67, s58_68, s58_69, s58_72, s58_73, s58_76, s58_77, s58_78, s58_79, s58_82, s58_84, s58_85, s58_88, s58_89, s58_90, s58_91, s58_93, s58_96, s58_98, bd, Option.bind_some, Option.toList_some, Option.toList_none, List.nil_append, List.cons_append, oC0_1, t, g]
end
