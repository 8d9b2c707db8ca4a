/-! undo -/
section
variable {d n x s : Nat} {m : Mem} {q : MemJ}
def pvX (x : Nat) : Nat := if 0 < x then x - 1 else 7
/-- the heap behind undo -/
def unH (m : Mem) (x s : Nat) : Mem := fgH (cpE (mu m 7 (upd (upd (m 7) 1 (nI (pvX x))) 2 (nI (s - 1)))) 1 (9 + 3 * pvX x))
theorem x_S_undo (hx : m 7 1 = nI x) (hx8 : x < 8) (hs : m 7 2 = nI s) (hs8 : s ≤ 8) (h1 : zA m (9 + 3 * pvX x)) (h2 : zA m 1) : ev (d + 7) 71 0 [.ref 0] [] (mk shC m q) = if s = 0 then some (some (.int (-1003)), mk shC m q) else some (some (.int (nI (s - 1))), mk shC (unH m x s) q) := by
  by_cases h : s = 0
  · simp only [s71_0, s71_1, s71_4, s71_7, s71_10, s71_13, s71_14, s71_15, s71_18, s71_19, s71_22, s71_25, s71_26, s71_29, s71_32, s71_33, s71_36, s71_39, x_H_size, hs, Option.bind_some, Option.toList_some, Option.toList_none, List.nil_append, List.cons_append, nI_z (show s < 2 ^ 31 by omega), h, if_true, nI00]
  · have t := x_H_takeLatest (d := d) (q := q) hx hx8 hs (by omega) h1 h2
    change _ = some (none, mk shC (cpE (mu m 7 (upd (upd (m 7) 1 (nI (pvX x))) 2 (nI (s - 1)))) 1 (9 + 3 * pvX x)) q) at t
    have f := x_F_forget (d := d + 5) (m := cpE (mu m 7 (upd (upd (m 7) 1 (nI (pvX x))) 2 (nI (s - 1)))) 1 (9 + 3 * pvX x)) (q := q)
    change _ = some (none, mk shC (unH m x s) q) at f
    have g : unH m x s 7 2 = nI (s - 1) := by
      unfold unH
      rw [fgH_ne (by decide) (by decide)]
      unfold cpE
      rw [mu_ne (by decide), mu_ne (by decide), mu_ne (by decide), mu_same]
      simp [upd]
    simp only [s71_0, s71_1, s71_4, s71_7, s71_10, s71_13, s71_14, s71_15, s71_18, s71_19, s71_22, s71_25, s71_26, s71_29, s71_32, s71_33, s71_36, s71_39, x_H_size, hs, Option.bind_some, Option.toList_some, Option.toList_none, List.nil_append, List.cons_append, nI_z (show s < 2 ^ 31 by omega), h, if_false, t, f, g]
end
