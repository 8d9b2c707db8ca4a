/-! deeds: swap, add, drop -/
section
variable {d n x s : Nat} {m : Mem} {q : MemJ} {e f : Int32}
theorem x_S_swap (hn : m 1 0 = nI n) (hn6 : n ≤ 6) (hx : m 7 1 = nI x) (hx8 : x < 8) (hs : m 7 2 = nI s) (hs8 : s ≤ 8) (h1 : zA m (9 + 3 * x)) (h2 : zA m 1) : ev (d + 8) 65 0 [.ref 0, .int e, .int f] [] (mk shC m q) = if (elB n e && elB n f && !decide (e = f)) = true then some (some (.int (trd n (eN e) (eN f) (m 2)).2), mk shC (mu (mu (bdH m x s) 3 (tdP (m 3) (eN e) (eN f))) 2 (trd n (eN e) (eN f) (m 2)).1) q) else some (some (.int (-1001)), mk shC m q) := by
  simp only [s65_0, s65_1, s65_4, s65_5, s65_8, s65_11, s65_12, s65_15, s65_16, s65_19, s65_22, s65_23, s65_24, s65_27, s65_30, s65_31, s65_32, s65_35, s65_36, s65_39, s65_40, s65_41, s65_44, oC0_1, x_A_has oC0_1 hn, Option.bind_some, Option.toList_some, Option.toList_none, List.nil_append, List.cons_append, bI_z]
  cases he : elB n e with
  | false => simp only [if_true, Bool.false_and, Bool.false_eq_true, if_false]
  | true =>
    cases hf : elB n f with
    | false => simp only [if_true, Bool.true_eq_false, if_false, Bool.and_false, Bool.false_and, Bool.false_eq_true, s65_0, s65_1, s65_4, s65_5, s65_8, s65_11, s65_12, s65_15, s65_16, s65_19, s65_22, s65_23, s65_24, s65_27, s65_30, s65_31, s65_32, s65_35, s65_36, s65_39, s65_40, s65_41, s65_44, oC0_1, x_A_has oC0_1 hn, Option.bind_some, Option.toList_some, Option.toList_none, List.nil_append, List.cons_append, bI_z, hf]
    | true =>
      by_cases hef : e = f
      · simp only [if_true, Bool.true_eq_false, if_false, s65_0, s65_1, s65_4, s65_5, s65_8, s65_11, s65_12, s65_15, s65_16, s65_19, s65_22, s65_23, s65_24, s65_27, s65_30, s65_31, s65_32, s65_35, s65_36, s65_39, s65_40, s65_41, s65_44, oC0_1, x_A_has oC0_1 hn, Option.bind_some, Option.toList_some, Option.toList_none, List.nil_append, List.cons_append, bI_z, hf, hef, not_true, decide_true, Bool.not_true, Bool.and_false, Bool.false_eq_true]
      · have ex := elB_t (by omega) he
        have ef := elB_t (by omega) hf
        have b := x_S_beginDeed (d := d) (q := q) hx hx8 hs hs8 h1 h2
        have g1 : bdH m x s 1 = m 1 := bdH_ne (by decide) (by omega) (by decide) (by decide)
        have g2 : bdH m x s 2 = m 2 := bdH_ne (by decide) (by omega) (by decide) (by decide)
        have g3 : bdH m x s 3 = m 3 := bdH_ne (by decide) (by omega) (by decide) (by decide)
        have t := x_A_trade (d := d + 4) (n := n) (e := eN e) (f := eN f) (m := bdH m x s) (q := q) oC0_1 (by rw [g1]; exact hn) hn6 ex.1 ef.1
        rw [← ex.2, ← ef.2, show (1 + 1 : Nat) = 2 from rfl, show (1 + 2 : Nat) = 3 from rfl, g2, g3] at t
        simp only [if_true, Bool.true_eq_false, if_false, not_false_eq_true, s65_0, s65_1, s65_4, s65_5, s65_8, s65_11, s65_12, s65_15, s65_16, s65_19, s65_22, s65_23, s65_24, s65_27, s65_30, s65_31, s65_32, s65_35, s65_36, s65_39, s65_40, s65_41, s65_44, oC0_1, x_A_has oC0_1 hn, Option.bind_some, Option.toList_some, Option.toList_none, List.nil_append, List.cons_append, bI_z, hf, hef, decide_false, Bool.not_false, Bool.and_self, b, t]
        rfl
/-- too far for a coordinate -/
def faB (x : Int32) : Bool := decide (x < -99) || decide (nI 99 < x)
end
