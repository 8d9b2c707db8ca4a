/-! deeds begin -/
def rmH (m : Mem) (x s : Nat) : Mem := mu (cpE m (9 + 3 * x) 1) 7 (upd (upd (m 7) 1 (nI (if x + 1 < 8 then x + 1 else 0))) 2 (nI (if s < 8 then s + 1 else 8)))
def fgH (m : Mem) : Mem := mu (mu m 43 (upd (upd (upd (upd (m 43) 5 (nI 0)) 7 (nI 0)) 8 (-1)) 9 (-1))) 49 (upd (upd (upd (upd (m 49) 0 (nI 0)) 1 (nI 0)) 2 (nI 0)) 3 (nI 0))
theorem fgH_ne {m : Mem} {c : Nat} (h : c ≠ 43) (h2 : c ≠ 49) : fgH m c = m c := by unfold fgH; rw [mu_ne h2, mu_ne h]
theorem rmH_ne {m : Mem} {x s c : Nat} (h : c ≠ 7) (h2 : c < 9 + 3 * x ∨ 11 + 3 * x < c) : rmH m x s c = m c := by
  unfold rmH cpE
  rw [mu_ne h, mu_ne (by omega), mu_ne (by omega), mu_ne (by omega)]
/-- the heap behind a deed's beginning -/
def bdH (m : Mem) (x s : Nat) : Mem := fgH (rmH m x s)
theorem bdH_ne {m : Mem} {x s c : Nat} (h7 : c ≠ 7) (h2 : c < 9 + 3 * x ∨ 11 + 3 * x < c) (h43 : c ≠ 43) (h49 : c ≠ 49) : bdH m x s c = m c := by
  unfold bdH
  rw [fgH_ne h43 h49, rmH_ne h7 h2]
section
variable {d n x s : Nat} {m : Mem} {q : MemJ} {e : Int32}
theorem x_S_beginDeed (hx : m 7 1 = nI x) (hx8 : x < 8) (hs : m 7 2 = nI s) (hs8 : s ≤ 8) (h1 : zA m (9 + 3 * x)) (h2 : zA m 1) : ev (d + 7) 59 0 [.ref 0] [] (mk shC m q) = some (none, mk shC (bdH m x s) q) := by
  have r := x_H_remember (d := d) (q := q) hx hx8 hs hs8 h1 h2
  change _ = some (none, mk shC (rmH m x s) q) at r
  have f := x_F_forget (d := d + 5) (m := rmH m x s) (q := q)
  change _ = some (none, mk shC (fgH (rmH m x s)) q) at f
  simp only [s59_0, s59_1, s59_4, s59_5, s59_8, s59_11, s59_12, s59_15, s59_18, r, f, Option.bind_some, Option.toList_some, Option.toList_none, List.nil_append, List.cons_append]
  rfl
theorem x_S_draw (hn : m 1 0 = nI n) (hn6 : n ≤ 6) (hx : m 7 1 = nI x) (hx8 : x < 8) (hs : m 7 2 = nI s) (hs8 : s ≤ 8) (h1 : zA m (9 + 3 * x)) (h2 : zA m 1) : ev (d + 8) 70 0 [.ref 0] [] (mk shC m q) = some (some (.int (tkt n (m 3) (m 2)).2), mk shC (mu (bdH m x s) 2 (tkt n (m 3) (m 2)).1) q) := by
  have b := x_S_beginDeed (d := d) (q := q) hx hx8 hs hs8 h1 h2
  have g1 : bdH m x s 1 = m 1 := bdH_ne (by decide) (by omega) (by decide) (by decide)
  have g2 : bdH m x s 2 = m 2 := bdH_ne (by decide) (by omega) (by decide) (by decide)
  have g3 : bdH m x s 3 = m 3 := bdH_ne (by decide) (by omega) (by decide) (by decide)
  have t := x_A_takeTurns (d := d + 4) (n := n) (m := bdH m x s) (q := q) oC0_1 (by rw [g1]; exact hn) hn6
  rw [show (1 + 1 : Nat) = 2 from rfl, show (1 + 2 : Nat) = 3 from rfl, g2, g3] at t
  simp only [s70_0, s70_1, s70_4, s70_5, s70_8, s70_11, b, Option.bind_some, Option.toList_some, Option.toList_none, List.nil_append, List.cons_append, oC0_1, t]
theorem x_S_flip (hn : m 1 0 = nI n) (hn6 : n ≤ 6) (hx : m 7 1 = nI x) (hx8 : x < 8) (hs : m 7 2 = nI s) (hs8 : s ≤ 8) (h1 : zA m (9 + 3 * x)) (h2 : zA m 1) : ev (d + 8) 64 0 [.ref 0, .int e] [] (mk shC m q) = if elB n e = true then some (some (.int (rvs n (eN e) (m 2)).2), mk shC (mu (mu (bdH m x s) 3 (rvP (m 3) (eN e))) 2 (rvs n (eN e) (m 2)).1) q) else some (some (.int (-1001)), mk shC m q) := by
  simp only [s64_0, s64_1, s64_4, s64_5, s64_8, s64_11, s64_14, s64_15, s64_16, s64_19, s64_20, s64_23, s64_24, s64_27, oC0_1, x_A_has oC0_1 hn, Option.bind_some, Option.toList_some, Option.toList_none, List.nil_append, List.cons_append, bI_z]
  cases he : elB n e with
  | false => simp only [if_true, Bool.false_eq_true, if_false, not_true]
  | true =>
    have ex := elB_t (by omega) he
    have b := x_S_beginDeed (d := d) (q := q) hx hx8 hs hs8 h1 h2
    have g1 : bdH m x s 1 = m 1 := bdH_ne (by decide) (by omega) (by decide) (by decide)
    have g2 : bdH m x s 2 = m 2 := bdH_ne (by decide) (by omega) (by decide) (by decide)
    have g3 : bdH m x s 3 = m 3 := bdH_ne (by decide) (by omega) (by decide) (by decide)
    have t := x_A_reverse (d := d + 5) (n := n) (e := eN e) (m := bdH m x s) (q := q) oC0_1 (by rw [g1]; exact hn) hn6 ex.1
    rw [← ex.2, show (1 + 1 : Nat) = 2 from rfl, show (1 + 2 : Nat) = 3 from rfl, g2, g3] at t
    simp only [Bool.true_eq_false, if_true, if_false, not_false_eq_true, s64_0, s64_1, s64_4, s64_5, s64_8, s64_11, s64_14, s64_15, s64_16, s64_19, s64_20, s64_23, s64_24, s64_27, b, Option.bind_some, Option.toList_some, Option.toList_none, List.nil_append, List.cons_append, oC0_1, t]
    rfl
end
