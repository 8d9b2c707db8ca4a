/-! the model: the deeds -/
theorem sgU_0 {R : Nat → Int32} {a b c : Nat} {v : Int32} : sgU R a b c v 0 = R 0 := by
  unfold sgU
  rw [upd, if_neg (by omega)]
theorem ptM_0 {R : Nat → Int32} {e : Nat} {x y z : Int32} : ptM R e x y z 0 = R 0 := by
  unfold ptM
  rw [upd, if_neg (by omega), upd, if_neg (by omega), upd, if_neg (by omega)]
def flS (e : Nat) (x : (Nat → Int32) × Int32) (a b : Nat) : (Nat → Int32) × Int32 := if a ≠ e ∧ b ≠ e then (sgU x.1 e a b (-(mS x.1 e a b)), x.2 + if mS x.1 e a b = 0 then nI 0 else nI 1) else x
def flM (n e : Nat) (R : Nat → Int32) : (Nat → Int32) × Int32 := (prs n).foldl (fun x t => flS e x t.1 t.2) (R, nI 0)
def ngM (R : Nat → Int32) (e : Nat) : Nat → Int32 := ptM R e (-(mco R e 0)) (-(mco R e 1)) (-(mco R e 2))
def waC (W R : Nat → Int32) : Nat → Int32 := (rg 0 39).foldl (fun W k => upd W k (R k)) W
theorem waC_at {W R : Nat → Int32} : ∀ k, k ≤ 39 → ∀ i, i < k → ((rg 0 k).foldl (fun W k => upd W k (R k)) W) i = R i := by
  intro k
  induction k with
  | zero => intro _ i hi; omega
  | succ k ih =>
    intro hk i hi
    have e : rg 0 (k + 1) = rg 0 k ++ [k] := by simp [rg, List.range'_concat]
    rw [e, List.foldl_append]
    simp only [List.foldl_cons, List.foldl_nil, upd]
    by_cases h : i = k
    · rw [if_pos h, h]
    · rw [if_neg h]
      exact ih (by omega) i (by omega)
def und (x e f : Nat) : Nat := if x = e then f else if x = f then e else x
def swS (W : Nat → Int32) (e f : Nat) (x : (Nat → Int32) × Int32) (a b c : Nat) : (Nat → Int32) × Int32 := (sgU x.1 a b c (mS W (und a e f) (und b e f) (und c e f)), x.2 + if mS W (und a e f) (und b e f) (und c e f) = mS x.1 a b c then nI 0 else nI 1)
def swM (W : Nat → Int32) (n e f : Nat) (R : Nat → Int32) : (Nat → Int32) × Int32 := (trip n).foldl (fun x t => swS W e f x t.1 t.2.1 t.2.2) (R, nI 0)
def swP (W : Nat → Int32) (e f : Nat) (R : Nat → Int32) : Nat → Int32 := (rg 0 3).foldl (fun R i => upd (upd R (21 + 3 * e + i) (W (21 + 3 * f + i))) (21 + 3 * f + i) (W (21 + 3 * e + i))) R
def adM (n : Nat) (R : Nat → Int32) : Nat → Int32 := (prs n).foldl (fun R t => sgU R t.1 t.2 n (sgM (mtn R t.1 t.2 n))) R
def drA (W : Nat → Int32) (k e a : Nat) (R : Nat → Int32) : Nat → Int32 := (rg (a + 1) k).foldl (fun R b => (rg (b + 1) k).foldl (fun R c => sgU R a b c (mS W (shf e a) (shf e b) (shf e c))) R) R
def drM (W : Nat → Int32) (k e : Nat) (R : Nat → Int32) : Nat → Int32 := (rg 0 k).foldl (fun R a => ptM (drA W k e a R) a (W (21 + 3 * shf e a)) (W (21 + 3 * shf e a + 1)) (W (21 + 3 * shf e a + 2))) R
def dwM (n : Nat) (R : Nat → Int32) : (Nat → Int32) × Int32 := (trip n).foldl (fun x t => (sgU x.1 t.1 t.2.1 t.2.2 (sgM (mtn x.1 t.1 t.2.1 t.2.2)), x.2 + if sgM (mtn x.1 t.1 t.2.1 t.2.2) = mS x.1 t.1 t.2.1 t.2.2 then nI 0 else nI 1)) (R, nI 0)
section
variable {d a b c e f i n k t u : Nat} {m : Mem} {q : MemJ} {x y z w v : Int32} {h : AH}
theorem x_M_set (hn : m 1 0 = nI n) (hn6 : n ≤ 6) (hu : m 0 1 = nI u) (hu8 : u ≤ 8) : ev (d + 3) 204 0 [.ref 0, .int x, .int y, .int z, .int v, .null] [] (mk shM m q) = if el3 n x y z = true then (if v < -1 ∨ nI 1 < v then some (some (.int (-1002)), mk shM m q) else some (some (.int (mS (m 1) (eN x) (eN y) (eN z))), mk shM (deH m u (sgU (ntR (m 1) u) (eN x) (eN y) (eN z) v)) q)) else some (some (.int (-1001)), mk shM m q) := by
  unfold el3
  simp only [s204_0, s204_1, s204_2, s204_3, s204_4, s204_7, s204_10, s204_11, s204_12, s204_13, s204_16, s204_19, s204_22, s204_23, s204_25, s204_26, s204_29, s204_30, s204_33, s204_36, s204_39, s204_40, s204_41, s204_44, s204_45, s204_46, s204_47, s204_48, s204_51, s204_53, s204_54, s204_55, s204_56, s204_57, s204_59, s204_62, s204_64, x_M_areThree hn hn6, Option.bind_some, Option.toList_some, Option.toList_none, List.nil_append, List.cons_append, bI_z]
  cases hh : elB n x && elB n y && elB n z with
  | false => simp only [if_true, Bool.false_and, Bool.false_eq_true, if_false]
  | true =>
    simp only [Bool.and_eq_true] at hh
    have ex := elB_t (by omega) hh.1.1
    have ey := elB_t (by omega) hh.1.2
    have ez := elB_t (by omega) hh.2
    have T := x_M_turnsOf (d := d + 2) (h := mk shM m q) (show eN x < 1000 by omega) (show eN y < 1000 by omega) (show eN z < 1000 by omega)
    have Z := tO_0 (eN x) (by omega) (eN y) (by omega) (eN z) (by omega)
    rw [← ex.2, ← ey.2, ← ez.2] at T
    have d1 : decide (x = y) = decide (eN x = eN y) := by
      have : (x = y) = (eN x = eN y) := by rw [ex.2, ey.2, eN_nI (by omega), eN_nI (by omega), nI_eq (by omega) (by omega)]
      simp only [this]
    have d2 : decide (x = z) = decide (eN x = eN z) := by
      have : (x = z) = (eN x = eN z) := by rw [ex.2, ez.2, eN_nI (by omega), eN_nI (by omega), nI_eq (by omega) (by omega)]
      simp only [this]
    have d3 : decide (y = z) = decide (eN y = eN z) := by
      have : (y = z) = (eN y = eN z) := by rw [ey.2, ez.2, eN_nI (by omega), eN_nI (by omega), nI_eq (by omega) (by omega)]
      simp only [this]
    rw [d1, d2, d3]
    simp only [Bool.true_eq_false, if_false, Bool.true_and, s204_0, s204_1, s204_2, s204_3, s204_4, s204_7, s204_10, s204_11, s204_12, s204_13, s204_16, s204_19, s204_22, s204_23, s204_25, s204_26, s204_29, s204_30, s204_33, s204_36, s204_39, s204_40, s204_41, s204_44, s204_45, s204_46, s204_47, s204_48, s204_51, s204_53, s204_54, s204_55, s204_56, s204_57, s204_59, s204_62, s204_64, T, Option.bind_some, Option.toList_some, Option.toList_none, List.nil_append, List.cons_append]
    by_cases h0 : eN x = eN y ∨ eN x = eN z ∨ eN y = eN z
    · rw [if_pos (Z.mpr h0), if_neg (by rintro h; simp only [Bool.and_eq_true, Bool.not_eq_true', decide_eq_false_iff_not] at h; rcases h0 with h1 | h1 | h1; exact h.1.1 h1; exact h.1.2 h1; exact h.2 h1)]
    · rw [if_neg (fun h => h0 (Z.mp h)), if_pos (by simp only [Bool.and_eq_true, Bool.not_eq_true', decide_eq_false_iff_not]; exact ⟨⟨fun h => h0 (Or.inl h), fun h => h0 (Or.inr (Or.inl h))⟩, fun h => h0 (Or.inr (Or.inr h))⟩)]
      have I := x_M_in (d := d + 2) (x := v) (lo := -1) (hi := 1) (h := mk shM m q)
      rw [show (-1 : Int32).toInt64 = -1 by decide, show (1 : Int32).toInt64 = 1 by decide] at I
      simp only [s204_0, s204_1, s204_2, s204_3, s204_4, s204_7, s204_10, s204_11, s204_12, s204_13, s204_16, s204_19, s204_22, s204_23, s204_25, s204_26, s204_29, s204_30, s204_33, s204_36, s204_39, s204_40, s204_41, s204_44, s204_45, s204_46, s204_47, s204_48, s204_51, s204_53, s204_54, s204_55, s204_56, s204_57, s204_59, s204_62, s204_64, I, Option.bind_some, Option.toList_some, Option.toList_none, List.nil_append, List.cons_append, bI_z, nI_one]
      by_cases w1 : v < -1
      · simp only [w1, decide_true, Bool.not_true, Bool.false_and, if_true, true_or]
      · by_cases w2 : 1 < v
        · simp only [w1, w2, decide_true, decide_false, Bool.not_true, Bool.not_false, Bool.and_false, if_true, or_true]
        · have N := x_M_notes (d := d + 1) (m := m) (q := q) hu hu8
          have S := x_M_signOf (d := d + 1) (m := deH m u (ntR (m 1) u)) (q := q) (show eN x < 6 by omega) (show eN y < 6 by omega) (show eN z < 6 by omega)
          have G := x_M_signs (d := d + 1) (v := v) (m := deH m u (ntR (m 1) u)) (q := q) (show eN x < 6 by omega) (show eN y < 6 by omega) (show eN z < 6 by omega) h0
          rw [← ex.2, ← ey.2, ← ez.2, deH_1] at S G
          rw [deH_mu] at G
          have E : mS (ntR (m 1) u) (eN x) (eN y) (eN z) = mS (m 1) (eN x) (eN y) (eN z) := by
            unfold mS
            rw [ntR_0 (by have := pT_lt (show eN x < 6 by omega) (show eN y < 6 by omega) (show eN z < 6 by omega) h0; omega)]
          rw [E] at S
          simp only [w1, w2, decide_false, Bool.not_false, Bool.and_self, Bool.true_eq_false, if_false, or_self, s204_0, s204_1, s204_2, s204_3, s204_4, s204_7, s204_10, s204_11, s204_12, s204_13, s204_16, s204_19, s204_22, s204_23, s204_25, s204_26, s204_29, s204_30, s204_33, s204_36, s204_39, s204_40, s204_41, s204_44, s204_45, s204_46, s204_47, s204_48, s204_51, s204_53, s204_54, s204_55, s204_56, s204_57, s204_59, s204_62, s204_64, N, S, G, Option.bind_some, Option.toList_some, Option.toList_none, List.nil_append, List.cons_append]
theorem x_M_place (hn : m 1 0 = nI n) (hn6 : n ≤ 6) (hu : m 0 1 = nI u) (hu8 : u ≤ 8) : ev (d + 2) 207 0 [.ref 0, .int x, .int y, .int z, .int w, .null] [] (mk shM m q) = if elB n x = true then (if (faB y || faB z || faB w) = true then some (some (.int (-1002)), mk shM m q) else some (some (.int (if mco (m 1) (eN x) 0 = y ∧ mco (m 1) (eN x) 1 = z ∧ mco (m 1) (eN x) 2 = w then nI 0 else nI 1)), mk shM (deH m u (ptM (ntR (m 1) u) (eN x) y z w)) q)) else some (some (.int (-1001)), mk shM m q) := by
  simp only [s207_0, s207_1, s207_2, s207_5, s207_8, s207_11, s207_12, s207_13, s207_16, s207_19, s207_20, s207_23, s207_26, s207_28, s207_31, s207_34, s207_37, s207_38, s207_39, s207_42, s207_43, s207_44, s207_45, s207_48, s207_49, s207_52, s207_53, s207_54, s207_55, s207_58, s207_59, s207_62, s207_63, s207_64, s207_65, s207_68, s207_70, s207_73, s207_74, s207_77, s207_78, s207_80, s207_81, s207_82, s207_83, s207_84, s207_86, s207_89, s207_91, x_M_isElement hn hn6, Option.bind_some, Option.toList_some, Option.toList_none, List.nil_append, List.cons_append, bI_z]
  cases hx : elB n x with
  | false => simp only [if_true, Bool.false_eq_true, if_false]
  | true =>
    have ex := elB_t (by omega) hx
    simp only [Bool.true_eq_false, if_true, if_false, s207_0, s207_1, s207_2, s207_5, s207_8, s207_11, s207_12, s207_13, s207_16, s207_19, s207_20, s207_23, s207_26, s207_28, s207_31, s207_34, s207_37, s207_38, s207_39, s207_42, s207_43, s207_44, s207_45, s207_48, s207_49, s207_52, s207_53, s207_54, s207_55, s207_58, s207_59, s207_62, s207_63, s207_64, s207_65, s207_68, s207_70, s207_73, s207_74, s207_77, s207_78, s207_80, s207_81, s207_82, s207_83, s207_84, s207_86, s207_89, s207_91, x_M_isCoordinate, Option.bind_some, Option.toList_some, Option.toList_none, List.nil_append, List.cons_append, bI_z]
    cases ha : faB y with
    | true => simp only [Bool.not_true, if_true, Bool.true_or]
    | false =>
      simp only [Bool.not_false, Bool.true_eq_false, if_false, s207_0, s207_1, s207_2, s207_5, s207_8, s207_11, s207_12, s207_13, s207_16, s207_19, s207_20, s207_23, s207_26, s207_28, s207_31, s207_34, s207_37, s207_38, s207_39, s207_42, s207_43, s207_44, s207_45, s207_48, s207_49, s207_52, s207_53, s207_54, s207_55, s207_58, s207_59, s207_62, s207_63, s207_64, s207_65, s207_68, s207_70, s207_73, s207_74, s207_77, s207_78, s207_80, s207_81, s207_82, s207_83, s207_84, s207_86, s207_89, s207_91, x_M_isCoordinate, Option.bind_some, Option.toList_some, Option.toList_none, List.nil_append, List.cons_append, bI_z]
      cases hb : faB z with
      | true => simp only [Bool.not_true, if_true, Bool.true_or, Bool.or_true]
      | false =>
        simp only [Bool.not_false, Bool.true_eq_false, if_false, s207_0, s207_1, s207_2, s207_5, s207_8, s207_11, s207_12, s207_13, s207_16, s207_19, s207_20, s207_23, s207_26, s207_28, s207_31, s207_34, s207_37, s207_38, s207_39, s207_42, s207_43, s207_44, s207_45, s207_48, s207_49, s207_52, s207_53, s207_54, s207_55, s207_58, s207_59, s207_62, s207_63, s207_64, s207_65, s207_68, s207_70, s207_73, s207_74, s207_77, s207_78, s207_80, s207_81, s207_82, s207_83, s207_84, s207_86, s207_89, s207_91, x_M_isCoordinate, Option.bind_some, Option.toList_some, Option.toList_none, List.nil_append, List.cons_append, bI_z]
        cases hc : faB w with
        | true => simp only [Bool.not_true, if_true, Bool.or_true]
        | false =>
          have N := x_M_notes (d := d) (m := m) (q := q) hu hu8
          have c0 := x_M_coordinate (d := d + 1) (m := deH m u (ntR (m 1) u)) (q := q) (show eN x < 6 by omega) (show 0 < 3 by decide)
          have c1 := x_M_coordinate (d := d + 1) (m := deH m u (ntR (m 1) u)) (q := q) (show eN x < 6 by omega) (show 1 < 3 by decide)
          have c2 := x_M_coordinate (d := d + 1) (m := deH m u (ntR (m 1) u)) (q := q) (show eN x < 6 by omega) (show 2 < 3 by decide)
          have P := x_M_points (d := d + 1) (x := y) (y := z) (z := w) (m := deH m u (ntR (m 1) u)) (q := q) (show eN x < 6 by omega)
          have g : ∀ i, i < 3 → mco (ntR (m 1) u) (eN x) i = mco (m 1) (eN x) i := fun i hi => by
            unfold mco
            rw [ntR_0 (by omega)]
          rw [← ex.2, deH_1, g _ (by decide)] at c0 c1 c2
          rw [← ex.2, deH_1, deH_mu] at P
          simp only [Bool.not_false, Bool.true_eq_false, if_false, Bool.or_self, Bool.false_eq_true, s207_0, s207_1, s207_2, s207_5, s207_8, s207_11, s207_12, s207_13, s207_16, s207_19, s207_20, s207_23, s207_26, s207_28, s207_31, s207_34, s207_37, s207_38, s207_39, s207_42, s207_43, s207_44, s207_45, s207_48, s207_49, s207_52, s207_53, s207_54, s207_55, s207_58, s207_59, s207_62, s207_63, s207_64, s207_65, s207_68, s207_70, s207_73, s207_74, s207_77, s207_78, s207_80, s207_81, s207_82, s207_83, s207_84, s207_86, s207_89, s207_91, N, c0, Option.bind_some, Option.toList_some, Option.toList_none, List.nil_append, List.cons_append]
          by_cases e0 : mco (m 1) (eN x) 0 = y
          · simp only [e0, if_true, true_and, s207_0, s207_1, s207_2, s207_5, s207_8, s207_11, s207_12, s207_13, s207_16, s207_19, s207_20, s207_23, s207_26, s207_28, s207_31, s207_34, s207_37, s207_38, s207_39, s207_42, s207_43, s207_44, s207_45, s207_48, s207_49, s207_52, s207_53, s207_54, s207_55, s207_58, s207_59, s207_62, s207_63, s207_64, s207_65, s207_68, s207_70, s207_73, s207_74, s207_77, s207_78, s207_80, s207_81, s207_82, s207_83, s207_84, s207_86, s207_89, s207_91, c1, Option.bind_some, Option.toList_some, Option.toList_none, List.nil_append, List.cons_append]
            by_cases e1 : mco (m 1) (eN x) 1 = z
            · simp only [e1, if_true, true_and, s207_0, s207_1, s207_2, s207_5, s207_8, s207_11, s207_12, s207_13, s207_16, s207_19, s207_20, s207_23, s207_26, s207_28, s207_31, s207_34, s207_37, s207_38, s207_39, s207_42, s207_43, s207_44, s207_45, s207_48, s207_49, s207_52, s207_53, s207_54, s207_55, s207_58, s207_59, s207_62, s207_63, s207_64, s207_65, s207_68, s207_70, s207_73, s207_74, s207_77, s207_78, s207_80, s207_81, s207_82, s207_83, s207_84, s207_86, s207_89, s207_91, c2, Option.bind_some, Option.toList_some, Option.toList_none, List.nil_append, List.cons_append]
              by_cases e2 : mco (m 1) (eN x) 2 = w
              · simp only [e2, if_true, s207_0, s207_1, s207_2, s207_5, s207_8, s207_11, s207_12, s207_13, s207_16, s207_19, s207_20, s207_23, s207_26, s207_28, s207_31, s207_34, s207_37, s207_38, s207_39, s207_42, s207_43, s207_44, s207_45, s207_48, s207_49, s207_52, s207_53, s207_54, s207_55, s207_58, s207_59, s207_62, s207_63, s207_64, s207_65, s207_68, s207_70, s207_73, s207_74, s207_77, s207_78, s207_80, s207_81, s207_82, s207_83, s207_84, s207_86, s207_89, s207_91, P, Option.bind_some, Option.toList_some, Option.toList_none, List.nil_append, List.cons_append]
              · simp only [e2, if_false, s207_0, s207_1, s207_2, s207_5, s207_8, s207_11, s207_12, s207_13, s207_16, s207_19, s207_20, s207_23, s207_26, s207_28, s207_31, s207_34, s207_37, s207_38, s207_39, s207_42, s207_43, s207_44, s207_45, s207_48, s207_49, s207_52, s207_53, s207_54, s207_55, s207_58, s207_59, s207_62, s207_63, s207_64, s207_65, s207_68, s207_70, s207_73, s207_74, s207_77, s207_78, s207_80, s207_81, s207_82, s207_83, s207_84, s207_86, s207_89, s207_91, P, Option.bind_some, Option.toList_some, Option.toList_none, List.nil_append, List.cons_append]
            · simp only [e1, if_false, false_and, s207_0, s207_1, s207_2, s207_5, s207_8, s207_11, s207_12, s207_13, s207_16, s207_19, s207_20, s207_23, s207_26, s207_28, s207_31, s207_34, s207_37, s207_38, s207_39, s207_42, s207_43, s207_44, s207_45, s207_48, s207_49, s207_52, s207_53, s207_54, s207_55, s207_58, s207_59, s207_62, s207_63, s207_64, s207_65, s207_68, s207_70, s207_73, s207_74, s207_77, s207_78, s207_80, s207_81, s207_82, s207_83, s207_84, s207_86, s207_89, s207_91, P, Option.bind_some, Option.toList_some, Option.toList_none, List.nil_append, List.cons_append]
          · simp only [e0, if_false, false_and, s207_0, s207_1, s207_2, s207_5, s207_8, s207_11, s207_12, s207_13, s207_16, s207_19, s207_20, s207_23, s207_26, s207_28, s207_31, s207_34, s207_37, s207_38, s207_39, s207_42, s207_43, s207_44, s207_45, s207_48, s207_49, s207_52, s207_53, s207_54, s207_55, s207_58, s207_59, s207_62, s207_63, s207_64, s207_65, s207_68, s207_70, s207_73, s207_74, s207_77, s207_78, s207_80, s207_81, s207_82, s207_83, s207_84, s207_86, s207_89, s207_91, P, Option.bind_some, Option.toList_some, Option.toList_none, List.nil_append, List.cons_append]
theorem x_M_flips (hn : m 1 0 = nI n) (hn6 : n ≤ 6) (he : e < n) : ev (d + 2) 187 0 [.ref 0, .int (nI e), .null, .null, .null, .null] [] (mk shM m q) = some (some (.int (flM n e (m 1)).2), mk shM (mu m 1 (ngM (flM n e (m 1)).1 e)) q) := by
  have L := ev_for2 (fun x => x.1 0 = nI n) (fun a (x : (Nat → Int32) × Int32) (v : Value × Value) => ev (d + 2) 187 4 [.ref 0, .int (nI e), .int x.2, .int (nI a), v.1, v.2] [] (mk shM (mu m 1 x.1) q))
    (fun a b x v => ev (d + 2) 187 17 [.ref 0, .int (nI e), .int x.2, .int (nI a), .int (nI b), v.2] [] (mk shM (mu m 1 x.1) q))
    (fun x => some (some (.int x.2), mk shM (mu m 1 (ngM x.1 e)) q)) (fun a b x => flS e x a b) n
    (fun x v hx => by
      have k0 := x_M_coordinate (d := d + 1) (m := mu m 1 x.1) (q := q) (show e < 6 by omega) (show 0 < 3 by decide)
      have k1 := x_M_coordinate (d := d + 1) (m := mu m 1 x.1) (q := q) (show e < 6 by omega) (show 1 < 3 by decide)
      have k2 := x_M_coordinate (d := d + 1) (m := mu m 1 x.1) (q := q) (show e < 6 by omega) (show 2 < 3 by decide)
      rw [mu_same] at k0 k1 k2
      rw [s187_4]
      simp only [s187_0, s187_1, s187_2, s187_3, s187_5, s187_6, s187_9, s187_12, s187_13, s187_14, s187_15, s187_19, s187_20, s187_23, s187_26, s187_27, s187_28, s187_31, s187_33, s187_34, s187_37, s187_38, s187_39, s187_40, s187_42, s187_45, s187_47, s187_48, s187_50, s187_53, s187_54, s187_57, s187_58, s187_59, s187_60, s187_61, s187_62, s187_63, s187_65, s187_67, s187_68, s187_71, s187_74, s187_77, s187_80, s187_83, s187_84, s187_85, s187_86, s187_87, s187_88, s187_91, s187_92, s187_93, s187_94, s187_95, s187_98, s187_99, s187_100, s187_101, s187_102, s187_105, s187_106, s187_109, s187_110, x_M_n, mu_same, mu_mu, hx, Option.bind_some, Option.toList_some, Option.toList_none, List.nil_append, List.cons_append, nI_irr, if_false, k0, k1, k2, x_M_points (show e < 6 by omega)]
      rfl)
    (fun a x v ha hx => ⟨v, by rw [s187_4]; simp only [s187_0, s187_1, s187_2, s187_3, s187_5, s187_6, s187_9, s187_12, s187_13, s187_14, s187_15, s187_19, s187_20, s187_23, s187_26, s187_27, s187_28, s187_31, s187_33, s187_34, s187_37, s187_38, s187_39, s187_40, s187_42, s187_45, s187_47, s187_48, s187_50, s187_53, s187_54, s187_57, s187_58, s187_59, s187_60, s187_61, s187_62, s187_63, s187_65, s187_67, s187_68, s187_71, s187_74, s187_77, s187_80, s187_83, s187_84, s187_85, s187_86, s187_87, s187_88, s187_91, s187_92, s187_93, s187_94, s187_95, s187_98, s187_99, s187_100, s187_101, s187_102, s187_105, s187_106, s187_109, s187_110, x_M_n, mu_same, hx, Option.bind_some, Option.toList_some, Option.toList_none, List.nil_append, List.cons_append, nI_lt ha (show n < 2 ^ 31 by omega), if_true, nI_add]⟩)
    (fun a x v ha hx => ⟨(.int (nI n), v.2), by rw [s187_17]; simp only [s187_0, s187_1, s187_2, s187_3, s187_5, s187_6, s187_9, s187_12, s187_13, s187_14, s187_15, s187_19, s187_20, s187_23, s187_26, s187_27, s187_28, s187_31, s187_33, s187_34, s187_37, s187_38, s187_39, s187_40, s187_42, s187_45, s187_47, s187_48, s187_50, s187_53, s187_54, s187_57, s187_58, s187_59, s187_60, s187_61, s187_62, s187_63, s187_65, s187_67, s187_68, s187_71, s187_74, s187_77, s187_80, s187_83, s187_84, s187_85, s187_86, s187_87, s187_88, s187_91, s187_92, s187_93, s187_94, s187_95, s187_98, s187_99, s187_100, s187_101, s187_102, s187_105, s187_106, s187_109, s187_110, x_M_n, mu_same, hx, Option.bind_some, Option.toList_some, Option.toList_none, List.nil_append, List.cons_append, nI_irr, if_false, nI_add]⟩)
    (fun a b x _ _ hx => by
      unfold flS
      split
      · exact sgU_0.trans hx
      · exact hx)
    (fun a b x v hab hb hx => by
      have ha6 : a < 6 := by omega
      have hb6 : b < 6 := by omega
      have sg := x_M_signOf (d := d) (m := mu m 1 x.1) (q := q) (show e < 6 by omega) ha6 hb6
      rw [mu_same] at sg
      by_cases c1 : a = e
      · refine ⟨v, ?_⟩
        rw [s187_17]
        simp only [s187_0, s187_1, s187_2, s187_3, s187_5, s187_6, s187_9, s187_12, s187_13, s187_14, s187_15, s187_19, s187_20, s187_23, s187_26, s187_27, s187_28, s187_31, s187_33, s187_34, s187_37, s187_38, s187_39, s187_40, s187_42, s187_45, s187_47, s187_48, s187_50, s187_53, s187_54, s187_57, s187_58, s187_59, s187_60, s187_61, s187_62, s187_63, s187_65, s187_67, s187_68, s187_71, s187_74, s187_77, s187_80, s187_83, s187_84, s187_85, s187_86, s187_87, s187_88, s187_91, s187_92, s187_93, s187_94, s187_95, s187_98, s187_99, s187_100, s187_101, s187_102, s187_105, s187_106, s187_109, s187_110, x_M_n, mu_same, hx, Option.bind_some, Option.toList_some, Option.toList_none, List.nil_append, List.cons_append, nI_lt hb (show n < 2 ^ 31 by omega), if_true, nI_add, nI_eq (show a < 2 ^ 31 by omega) (show e < 2 ^ 31 by omega), c1, flS, ne_eq, not_true, false_and, if_false]
      · by_cases c2 : b = e
        · refine ⟨v, ?_⟩
          subst c2
          rw [s187_17]
          simp only [s187_0, s187_1, s187_2, s187_3, s187_5, s187_6, s187_9, s187_12, s187_13, s187_14, s187_15, s187_19, s187_20, s187_23, s187_26, s187_27, s187_28, s187_31, s187_33, s187_34, s187_37, s187_38, s187_39, s187_40, s187_42, s187_45, s187_47, s187_48, s187_50, s187_53, s187_54, s187_57, s187_58, s187_59, s187_60, s187_61, s187_62, s187_63, s187_65, s187_67, s187_68, s187_71, s187_74, s187_77, s187_80, s187_83, s187_84, s187_85, s187_86, s187_87, s187_88, s187_91, s187_92, s187_93, s187_94, s187_95, s187_98, s187_99, s187_100, s187_101, s187_102, s187_105, s187_106, s187_109, s187_110, x_M_n, mu_same, hx, Option.bind_some, Option.toList_some, Option.toList_none, List.nil_append, List.cons_append, nI_lt hb (show n < 2 ^ 31 by omega), if_true, nI_add, nI_eq (show a < 2 ^ 31 by omega) (show b < 2 ^ 31 by omega), c1, flS, ne_eq, not_true, and_false, if_false]
        · refine ⟨(v.1, .int (mS x.1 e a b)), ?_⟩
          have st := x_M_signs (d := d) (v := -(mS x.1 e a b)) (m := mu m 1 x.1) (q := q) (show e < 6 by omega) ha6 hb6 (by omega)
          rw [mu_same, mu_mu] at st
          have fs : flS e x a b = (sgU x.1 e a b (-(mS x.1 e a b)), x.2 + if mS x.1 e a b = 0 then nI 0 else nI 1) := if_pos ⟨c1, c2⟩
          rw [s187_17]
          simp only [s187_0, s187_1, s187_2, s187_3, s187_5, s187_6, s187_9, s187_12, s187_13, s187_14, s187_15, s187_19, s187_20, s187_23, s187_26, s187_27, s187_28, s187_31, s187_33, s187_34, s187_37, s187_38, s187_39, s187_40, s187_42, s187_45, s187_47, s187_48, s187_50, s187_53, s187_54, s187_57, s187_58, s187_59, s187_60, s187_61, s187_62, s187_63, s187_65, s187_67, s187_68, s187_71, s187_74, s187_77, s187_80, s187_83, s187_84, s187_85, s187_86, s187_87, s187_88, s187_91, s187_92, s187_93, s187_94, s187_95, s187_98, s187_99, s187_100, s187_101, s187_102, s187_105, s187_106, s187_109, s187_110, x_M_n, mu_same, hx, Option.bind_some, Option.toList_some, Option.toList_none, List.nil_append, List.cons_append, nI_lt hb (show n < 2 ^ 31 by omega), if_true, nI_eq (show a < 2 ^ 31 by omega) (show e < 2 ^ 31 by omega), nI_eq (show b < 2 ^ 31 by omega) (show e < 2 ^ 31 by omega), c1, c2, if_false, sg, fs]
          by_cases z : mS x.1 e a b = 0
          · rw [if_pos z, if_pos z]
            simp only [s187_0, s187_1, s187_2, s187_3, s187_5, s187_6, s187_9, s187_12, s187_13, s187_14, s187_15, s187_19, s187_20, s187_23, s187_26, s187_27, s187_28, s187_31, s187_33, s187_34, s187_37, s187_38, s187_39, s187_40, s187_42, s187_45, s187_47, s187_48, s187_50, s187_53, s187_54, s187_57, s187_58, s187_59, s187_60, s187_61, s187_62, s187_63, s187_65, s187_67, s187_68, s187_71, s187_74, s187_77, s187_80, s187_83, s187_84, s187_85, s187_86, s187_87, s187_88, s187_91, s187_92, s187_93, s187_94, s187_95, s187_98, s187_99, s187_100, s187_101, s187_102, s187_105, s187_106, s187_109, s187_110, st, Option.bind_some, Option.toList_some, Option.toList_none, List.nil_append, List.cons_append, nI_add]
          · rw [if_neg z, if_neg z]
            simp only [s187_0, s187_1, s187_2, s187_3, s187_5, s187_6, s187_9, s187_12, s187_13, s187_14, s187_15, s187_19, s187_20, s187_23, s187_26, s187_27, s187_28, s187_31, s187_33, s187_34, s187_37, s187_38, s187_39, s187_40, s187_42, s187_45, s187_47, s187_48, s187_50, s187_53, s187_54, s187_57, s187_58, s187_59, s187_60, s187_61, s187_62, s187_63, s187_65, s187_67, s187_68, s187_71, s187_74, s187_77, s187_80, s187_83, s187_84, s187_85, s187_86, s187_87, s187_88, s187_91, s187_92, s187_93, s187_94, s187_95, s187_98, s187_99, s187_100, s187_101, s187_102, s187_105, s187_106, s187_109, s187_110, st, Option.bind_some, Option.toList_some, Option.toList_none, List.nil_append, List.cons_append, nI_add]) (m 1, nI 0) (.null, .null) hn
  rw [mu_self] at L
  simp only [s187_0, s187_1, s187_2, s187_3, s187_5, s187_6, s187_9, s187_12, s187_13, s187_14, s187_15, s187_19, s187_20, s187_23, s187_26, s187_27, s187_28, s187_31, s187_33, s187_34, s187_37, s187_38, s187_39, s187_40, s187_42, s187_45, s187_47, s187_48, s187_50, s187_53, s187_54, s187_57, s187_58, s187_59, s187_60, s187_61, s187_62, s187_63, s187_65, s187_67, s187_68, s187_71, s187_74, s187_77, s187_80, s187_83, s187_84, s187_85, s187_86, s187_87, s187_88, s187_91, s187_92, s187_93, s187_94, s187_95, s187_98, s187_99, s187_100, s187_101, s187_102, s187_105, s187_106, s187_109, s187_110]
  exact L
theorem x_M_flip (hn : m 1 0 = nI n) (hn6 : n ≤ 6) (hu : m 0 1 = nI u) (hu8 : u ≤ 8) : ev (d + 3) 209 0 [.ref 0, .int x] [] (mk shM m q) = if elB n x = true then some (some (.int (flM n (eN x) (ntR (m 1) u)).2), mk shM (deH m u (ngM (flM n (eN x) (ntR (m 1) u)).1 (eN x))) q) else some (some (.int (-1001)), mk shM m q) := by
  simp only [s209_0, s209_1, s209_2, s209_5, s209_8, s209_11, s209_12, s209_13, s209_16, s209_17, s209_18, s209_21, x_M_isElement hn hn6, Option.bind_some, Option.toList_some, Option.toList_none, List.nil_append, List.cons_append, bI_z]
  cases hx : elB n x with
  | false => simp only [if_true, Bool.false_eq_true, if_false]
  | true =>
    have ex := elB_t (by omega) hx
    have N := x_M_notes (d := d + 1) (m := m) (q := q) hu hu8
    have F := x_M_flips (d := d) (n := n) (e := eN x) (m := deH m u (ntR (m 1) u)) (q := q) (by rw [deH_1, ntR_0 (by decide)]; exact hn) hn6 ex.1
    rw [← ex.2, deH_1, deH_mu] at F
    simp only [Bool.true_eq_false, if_true, if_false, s209_0, s209_1, s209_2, s209_5, s209_8, s209_11, s209_12, s209_13, s209_16, s209_17, s209_18, s209_21, N, F, Option.bind_some, Option.toList_some, Option.toList_none, List.nil_append, List.cons_append]
theorem x_M_under (ha : a < 1000) (he : e < 1000) (hf : f < 1000) : ev d 194 0 [.int (nI a), .int (nI e), .int (nI f)] [] h = some (some (.int (nI (und a e f))), h) := by
  have e1 := nI_eq (show a < 2 ^ 31 by omega) (show e < 2 ^ 31 by omega)
  have e2 := nI_eq (show a < 2 ^ 31 by omega) (show f < 2 ^ 31 by omega)
  unfold und
  by_cases h1 : a = e
  · rw [if_pos h1]
    simp only [s194_0, s194_1, s194_2, s194_5, s194_6, s194_9, s194_10, s194_11, s194_14, s194_15, s194_18, s194_19, e1, h1, if_true]
  · rw [if_neg h1]
    by_cases h2 : a = f
    · rw [if_pos h2]
      simp only [s194_0, s194_1, s194_2, s194_5, s194_6, s194_9, s194_10, s194_11, s194_14, s194_15, s194_18, s194_19, e1, e2, h1, if_false, eq_true h2, if_true]
    · rw [if_neg h2]
      simp only [s194_0, s194_1, s194_2, s194_5, s194_6, s194_9, s194_10, s194_11, s194_14, s194_15, s194_18, s194_19, e1, e2, h1, if_false, eq_false h2]
theorem x_M_wasSign (ha : a < 6) (hb : b < 6) (hc : c < 6) (h0 : ¬ (a = b ∨ a = c ∨ b = c)) : ev (d + 1) 195 0 [.ref 0, .int (nI a), .int (nI b), .int (nI c), .null, .null] [] (mk shM m q) = some (some (.int (mS (m 9) a b c)), mk shM m q) := by
  have t := x_M_turnsOf (d := d) (h := mk shM m q) (show a < 1000 by omega) (show b < 1000 by omega) (show c < 1000 by omega)
  have p20 := pT_lt ha hb hc h0
  obtain ⟨⟨g1, g2⟩, g3⟩ := d3 a ha b hb c hc
  rcases g3 with g3 | g3 | g3 | ⟨g3, g4, g5⟩
  · exact absurd (Or.inl g3) h0
  · exact absurd (Or.inr (Or.inl g3)) h0
  · exact absurd (Or.inr (Or.inr g3)) h0
  have p := x_M_placeOf (d := d) (h := mk shM m q) g3 g4 g5
  unfold mid3 at p
  have p21 : 1 + pl (lo3 a b c) (a + b + c - lo3 a b c - hi3 a b c) (hi3 a b c) < 39 := by
    have := p20
    unfold pT mid3 at this
    omega
  simp only [s195_0, s195_1, s195_2, s195_3, s195_6, s195_8, s195_9, s195_10, s195_11, s195_14, s195_16, s195_17, s195_18, s195_19, s195_22, s195_23, s195_26, s195_27, s195_29, s195_30, s195_31, s195_32, s195_33, s195_34, s195_36, s195_37, s195_39, s195_40, s195_42, s195_45, s195_46, s195_47, s195_48, t, Option.bind_some, Option.toList_some, Option.toList_none, List.nil_append, List.cons_append, x_M_low (show a < 1000 by omega) (show b < 1000 by omega) (show c < 1000 by omega), x_M_high (show a < 1000 by omega) (show b < 1000 by omega) (show c < 1000 by omega), nI_add, nI_sub g1, nI_sub g2, p, tM9, nM9, p21]
  rfl
theorem und_lt {x e f n : Nat} (hx : x < n) (he : e < n) (hf : f < n) : und x e f < n := by
  unfold und
  split
  · exact hf
  · split <;> assumption
theorem und_ne {x y e f : Nat} (h : x ≠ y) : und x e f ≠ und y e f := by
  unfold und
  split <;> split <;> (try split) <;> (try split) <;> omega
theorem x_M_draws (hn : m 1 0 = nI n) (hn6 : n ≤ 6) : ev (d + 2) 196 0 [.ref 0, .null, .null, .null, .null, .null] [] (mk shM m q) = some (some (.int (dwM n (m 1)).2), mk shM (mu m 1 (dwM n (m 1)).1) q) := by
  have L := ev_for3 (fun x => x.1 0 = nI n) (fun a (x : (Nat → Int32) × Int32) (v : Value × Value × Value) => ev (d + 2) 196 4 [.ref 0, .int x.2, .int (nI a), v.1, v.2.1, v.2.2] [] (mk shM (mu m 1 x.1) q))
    (fun a b x v => ev (d + 2) 196 16 [.ref 0, .int x.2, .int (nI a), .int (nI b), v.2.1, v.2.2] [] (mk shM (mu m 1 x.1) q))
    (fun a b c x v => ev (d + 2) 196 29 [.ref 0, .int x.2, .int (nI a), .int (nI b), .int (nI c), v.2.2] [] (mk shM (mu m 1 x.1) q))
    (fun x => some (some (.int x.2), mk shM (mu m 1 x.1) q)) (fun a b c x => (sgU x.1 a b c (sgM (mtn x.1 a b c)), x.2 + if sgM (mtn x.1 a b c) = mS x.1 a b c then nI 0 else nI 1)) n
    (fun x v hx => by rw [s196_4]; simp only [s196_0, s196_1, s196_2, s196_3, s196_5, s196_6, s196_9, s196_12, s196_13, s196_14, s196_15, s196_17, s196_18, s196_21, s196_24, s196_25, s196_26, s196_27, s196_31, s196_32, s196_35, s196_38, s196_39, s196_40, s196_41, s196_43, s196_46, s196_48, s196_49, s196_51, s196_52, s196_53, s196_54, s196_56, s196_59, s196_62, s196_63, s196_66, s196_67, s196_68, s196_69, s196_70, s196_71, s196_72, s196_74, s196_76, s196_79, s196_82, s196_85, s196_88, s196_91, s196_94, s196_97, s196_98, x_M_n, mu_same, hx, Option.bind_some, Option.toList_some, Option.toList_none, List.nil_append, List.cons_append, nI_irr, if_false])
    (fun a x v ha hx => ⟨v, by rw [s196_4]; simp only [s196_0, s196_1, s196_2, s196_3, s196_5, s196_6, s196_9, s196_12, s196_13, s196_14, s196_15, s196_17, s196_18, s196_21, s196_24, s196_25, s196_26, s196_27, s196_31, s196_32, s196_35, s196_38, s196_39, s196_40, s196_41, s196_43, s196_46, s196_48, s196_49, s196_51, s196_52, s196_53, s196_54, s196_56, s196_59, s196_62, s196_63, s196_66, s196_67, s196_68, s196_69, s196_70, s196_71, s196_72, s196_74, s196_76, s196_79, s196_82, s196_85, s196_88, s196_91, s196_94, s196_97, s196_98, x_M_n, mu_same, hx, Option.bind_some, Option.toList_some, Option.toList_none, List.nil_append, List.cons_append, nI_lt ha (show n < 2 ^ 31 by omega), if_true, nI_add]⟩)
    (fun a x v ha hx => ⟨(.int (nI n), v.2), by rw [s196_16]; simp only [s196_0, s196_1, s196_2, s196_3, s196_5, s196_6, s196_9, s196_12, s196_13, s196_14, s196_15, s196_17, s196_18, s196_21, s196_24, s196_25, s196_26, s196_27, s196_31, s196_32, s196_35, s196_38, s196_39, s196_40, s196_41, s196_43, s196_46, s196_48, s196_49, s196_51, s196_52, s196_53, s196_54, s196_56, s196_59, s196_62, s196_63, s196_66, s196_67, s196_68, s196_69, s196_70, s196_71, s196_72, s196_74, s196_76, s196_79, s196_82, s196_85, s196_88, s196_91, s196_94, s196_97, s196_98, x_M_n, mu_same, hx, Option.bind_some, Option.toList_some, Option.toList_none, List.nil_append, List.cons_append, nI_irr, if_false, nI_add]⟩)
    (fun a b x v hab hb hx => ⟨v, by rw [s196_16]; simp only [s196_0, s196_1, s196_2, s196_3, s196_5, s196_6, s196_9, s196_12, s196_13, s196_14, s196_15, s196_17, s196_18, s196_21, s196_24, s196_25, s196_26, s196_27, s196_31, s196_32, s196_35, s196_38, s196_39, s196_40, s196_41, s196_43, s196_46, s196_48, s196_49, s196_51, s196_52, s196_53, s196_54, s196_56, s196_59, s196_62, s196_63, s196_66, s196_67, s196_68, s196_69, s196_70, s196_71, s196_72, s196_74, s196_76, s196_79, s196_82, s196_85, s196_88, s196_91, s196_94, s196_97, s196_98, x_M_n, mu_same, hx, Option.bind_some, Option.toList_some, Option.toList_none, List.nil_append, List.cons_append, nI_lt hb (show n < 2 ^ 31 by omega), if_true, nI_add]⟩)
    (fun a b x v hab hb hx => ⟨(v.1, .int (nI n), v.2.2), by rw [s196_29]; simp only [s196_0, s196_1, s196_2, s196_3, s196_5, s196_6, s196_9, s196_12, s196_13, s196_14, s196_15, s196_17, s196_18, s196_21, s196_24, s196_25, s196_26, s196_27, s196_31, s196_32, s196_35, s196_38, s196_39, s196_40, s196_41, s196_43, s196_46, s196_48, s196_49, s196_51, s196_52, s196_53, s196_54, s196_56, s196_59, s196_62, s196_63, s196_66, s196_67, s196_68, s196_69, s196_70, s196_71, s196_72, s196_74, s196_76, s196_79, s196_82, s196_85, s196_88, s196_91, s196_94, s196_97, s196_98, x_M_n, mu_same, hx, Option.bind_some, Option.toList_some, Option.toList_none, List.nil_append, List.cons_append, nI_irr, if_false, nI_add]⟩)
    (fun a b c x _ _ _ hx => sgU_0.trans hx)
    (fun a b c x v hab hbc hc hx => ⟨(v.1, v.2.1, .int (sgM (mtn x.1 a b c))), by
      have sg := x_M_signOf (d := d) (m := mu m 1 x.1) (q := q) (show a < 6 by omega) (show b < 6 by omega) (show c < 6 by omega)
      have tn := x_M_turnOf (d := d) (m := mu m 1 x.1) (q := q) (show a < 6 by omega) (show b < 6 by omega) (show c < 6 by omega)
      have st := x_M_signs (d := d) (v := sgM (mtn x.1 a b c)) (m := mu m 1 x.1) (q := q) (show a < 6 by omega) (show b < 6 by omega) (show c < 6 by omega) (by omega)
      rw [mu_same] at sg tn st
      rw [mu_mu] at st
      rw [s196_29]
      simp only [s196_0, s196_1, s196_2, s196_3, s196_5, s196_6, s196_9, s196_12, s196_13, s196_14, s196_15, s196_17, s196_18, s196_21, s196_24, s196_25, s196_26, s196_27, s196_31, s196_32, s196_35, s196_38, s196_39, s196_40, s196_41, s196_43, s196_46, s196_48, s196_49, s196_51, s196_52, s196_53, s196_54, s196_56, s196_59, s196_62, s196_63, s196_66, s196_67, s196_68, s196_69, s196_70, s196_71, s196_72, s196_74, s196_76, s196_79, s196_82, s196_85, s196_88, s196_91, s196_94, s196_97, s196_98, x_M_n, mu_same, hx, Option.bind_some, Option.toList_some, Option.toList_none, List.nil_append, List.cons_append, nI_lt hc (show n < 2 ^ 31 by omega), if_true, tn, sg]
      by_cases z : sgM (mtn x.1 a b c) = mS x.1 a b c
      · rw [if_pos z, if_pos z]
        simp only [s196_0, s196_1, s196_2, s196_3, s196_5, s196_6, s196_9, s196_12, s196_13, s196_14, s196_15, s196_17, s196_18, s196_21, s196_24, s196_25, s196_26, s196_27, s196_31, s196_32, s196_35, s196_38, s196_39, s196_40, s196_41, s196_43, s196_46, s196_48, s196_49, s196_51, s196_52, s196_53, s196_54, s196_56, s196_59, s196_62, s196_63, s196_66, s196_67, s196_68, s196_69, s196_70, s196_71, s196_72, s196_74, s196_76, s196_79, s196_82, s196_85, s196_88, s196_91, s196_94, s196_97, s196_98, st, Option.bind_some, Option.toList_some, Option.toList_none, List.nil_append, List.cons_append, nI_add]
      · rw [if_neg z, if_neg z]
        simp only [s196_0, s196_1, s196_2, s196_3, s196_5, s196_6, s196_9, s196_12, s196_13, s196_14, s196_15, s196_17, s196_18, s196_21, s196_24, s196_25, s196_26, s196_27, s196_31, s196_32, s196_35, s196_38, s196_39, s196_40, s196_41, s196_43, s196_46, s196_48, s196_49, s196_51, s196_52, s196_53, s196_54, s196_56, s196_59, s196_62, s196_63, s196_66, s196_67, s196_68, s196_69, s196_70, s196_71, s196_72, s196_74, s196_76, s196_79, s196_82, s196_85, s196_88, s196_91, s196_94, s196_97, s196_98, st, Option.bind_some, Option.toList_some, Option.toList_none, List.nil_append, List.cons_append, nI_add]⟩) (m 1, nI 0) (.null, .null, .null) hn
  rw [mu_self] at L
  simp only [s196_0, s196_1, s196_2, s196_3, s196_5, s196_6, s196_9, s196_12, s196_13, s196_14, s196_15, s196_17, s196_18, s196_21, s196_24, s196_25, s196_26, s196_27, s196_31, s196_32, s196_35, s196_38, s196_39, s196_40, s196_41, s196_43, s196_46, s196_48, s196_49, s196_51, s196_52, s196_53, s196_54, s196_56, s196_59, s196_62, s196_63, s196_66, s196_67, s196_68, s196_69, s196_70, s196_71, s196_72, s196_74, s196_76, s196_79, s196_82, s196_85, s196_88, s196_91, s196_94, s196_97, s196_98]
  exact L
theorem x_M_draw (hn : m 1 0 = nI n) (hn6 : n ≤ 6) (hu : m 0 1 = nI u) (hu8 : u ≤ 8) : ev (d + 3) 213 0 [.ref 0] [] (mk shM m q) = some (some (.int (dwM n (ntR (m 1) u)).2), mk shM (deH m u (dwM n (ntR (m 1) u)).1) q) := by
  have N := x_M_notes (d := d + 1) (m := m) (q := q) hu hu8
  have F := x_M_draws (d := d) (n := n) (m := deH m u (ntR (m 1) u)) (q := q) (by rw [deH_1, ntR_0 (by decide)]; exact hn) hn6
  rw [deH_1, deH_mu] at F
  simp only [s213_0, s213_1, s213_4, s213_5, s213_8, N, F, Option.bind_some, Option.toList_some, Option.toList_none, List.nil_append, List.cons_append]
theorem x_M_undo (hu : m 0 1 = nI u) (hu8 : u ≤ 8) : ev (d + 1) 214 0 [.ref 0] [] (mk shM m q) = if u = 0 then some (some (.int (-1003)), mk shM m q) else some (some (.int (nI (u - 1))), mk shM (mu (mu m 0 (upd (m 0) 1 (nI (u - 1)))) 1 (cyM (m 1) (39 + 39 * (u - 1)) 0)) q) := by
  by_cases h : u = 0
  · simp only [s214_0, s214_1, s214_4, s214_7, s214_10, s214_11, s214_12, s214_13, s214_16, s214_17, s214_18, s214_21, s214_22, s214_24, s214_26, s214_27, s214_30, s214_31, s214_32, s214_33, s214_36, s214_37, s214_40, hu, nI_z (show u < 2 ^ 31 by omega), h, nI00, if_true]
  · have c := x_M_copyRow (d := d) (f := 39 + 39 * (u - 1)) (t := 0) (m := mu m 0 (upd (m 0) 1 (nI (u - 1)))) (q := q) (by omega) (by decide)
    rw [mu_ne (show (1 : Nat) ≠ 0 by decide)] at c
    simp only [s214_0, s214_1, s214_4, s214_7, s214_10, s214_11, s214_12, s214_13, s214_16, s214_17, s214_18, s214_21, s214_22, s214_24, s214_26, s214_27, s214_30, s214_31, s214_32, s214_33, s214_36, s214_37, s214_40, hu, nI_z (show u < 2 ^ 31 by omega), h, if_false, nI_sub (show 1 ≤ u by omega), mu_same, show upd (m 0) 1 (nI (u - 1)) 1 = nI (u - 1) by simp [upd], pk_mul, nI_add, c, Option.bind_some, Option.toList_some, Option.toList_none, List.nil_append, List.cons_append, mu_ne (show (0 : Nat) ≠ 1 by decide)]
theorem x_M_keep (hn : m 1 0 = nI n) : ev (d + 1) 215 0 [.ref 0, .int x] [] (mk shM m q) = if elB 2 x = true then some (some (.int (nI n)), mk shM (mu (mu m 1 (cyM (m 1) 0 (351 + 39 * eN x))) 2 (upd (m 2) (eN x) (nI 1))) q) else some (some (.int (-1002)), mk shM m q) := by
  have I := x_M_inE (d := d) (x := x) (h := mk shM m q) (show 2 < 1000 by decide) (Z := 0) (K := 1) (by decide) (by decide)
  rcases elB_or 2 x (by decide) with ⟨hx, _⟩ | ⟨k, hk, rfl⟩
  · simp only [s215_0, s215_1, s215_2, s215_3, s215_4, s215_7, s215_10, s215_13, s215_14, s215_15, s215_16, s215_19, s215_21, s215_22, s215_23, s215_24, s215_27, s215_28, s215_31, s215_32, s215_33, s215_34, s215_35, s215_38, I, Option.bind_some, Option.toList_some, Option.toList_none, List.nil_append, List.cons_append, bI_z, hx, if_true, Bool.false_eq_true, if_false]
  · have e2 := elB_nI (show 2 < 1000 by decide) hk
    have c := x_M_copyRow (d := d) (f := 0) (t := 351 + 39 * k) (m := m) (q := q) (by decide) (by omega)
    have g : mu (mu m 1 (cyM (m 1) 0 (351 + 39 * k))) 2 (upd (m 2) k (nI 1)) 1 0 = nI n := by
      rw [mu_ne (by decide), mu_same, cyM_at (by omega), if_neg (by omega)]
      exact hn
    simp only [s215_0, s215_1, s215_2, s215_3, s215_4, s215_7, s215_10, s215_13, s215_14, s215_15, s215_16, s215_19, s215_21, s215_22, s215_23, s215_24, s215_27, s215_28, s215_31, s215_32, s215_33, s215_34, s215_35, s215_38, I, Option.bind_some, Option.toList_some, Option.toList_none, List.nil_append, List.cons_append, bI_z, e2, if_true, Bool.true_eq_false, if_false, pk_mul, nI_add, c, tM2, nM2, hk, nar1, x_M_n, eN_nI (show k < 1000 by omega), mu_ne (show (2 : Nat) ≠ 1 by decide), g]
theorem x_M_back {kt : Nat → Bool} {N : Nat → Nat} (hk2 : ∀ k, k < 2 → m 2 k = bI (kt k)) (hN : ∀ k, k < 2 → m 1 (351 + 39 * k) = nI (N k)) : ev (d + 1) 216 0 [.ref 0, .int x] [] (mk shM m q) = if elB 2 x = true then (if kt (eN x) = true then some (some (.int (nI (N (eN x)))), mk shM (mu (mu m 1 (cyM (m 1) (351 + 39 * eN x) 0)) 0 (upd (m 0) 1 (nI 0))) q) else some (some (.int (-1003)), mk shM m q)) else some (some (.int (-1002)), mk shM m q) := by
  have I := x_M_inE (d := d) (x := x) (h := mk shM m q) (show 2 < 1000 by decide) (Z := 0) (K := 1) (by decide) (by decide)
  rcases elB_or 2 x (by decide) with ⟨hx, _⟩ | ⟨k, hk, rfl⟩
  · simp only [s216_0, s216_1, s216_2, s216_3, s216_4, s216_7, s216_10, s216_13, s216_14, s216_15, s216_18, s216_19, s216_20, s216_23, s216_26, s216_27, s216_28, s216_31, s216_33, s216_34, s216_35, s216_36, s216_37, s216_40, s216_41, s216_42, s216_45, s216_46, s216_49, I, Option.bind_some, Option.toList_some, Option.toList_none, List.nil_append, List.cons_append, bI_z, hx, if_true, Bool.false_eq_true, if_false]
  · have e2 := elB_nI (show 2 < 1000 by decide) hk
    rw [e2, eN_nI (by omega), if_pos rfl]
    simp only [s216_0, s216_1, s216_2, s216_3, s216_4, s216_7, s216_10, s216_13, s216_14, s216_15, s216_18, s216_19, s216_20, s216_23, s216_26, s216_27, s216_28, s216_31, s216_33, s216_34, s216_35, s216_36, s216_37, s216_40, s216_41, s216_42, s216_45, s216_46, s216_49, I, Option.bind_some, Option.toList_some, Option.toList_none, List.nil_append, List.cons_append, bI_z, e2, if_true, Bool.true_eq_false, if_false, tM2, nM2, hk, hk2 k hk]
    cases hb : kt k with
    | false => simp only [if_true, Bool.false_eq_true, if_false, s216_0, s216_1, s216_2, s216_3, s216_4, s216_7, s216_10, s216_13, s216_14, s216_15, s216_18, s216_19, s216_20, s216_23, s216_26, s216_27, s216_28, s216_31, s216_33, s216_34, s216_35, s216_36, s216_37, s216_40, s216_41, s216_42, s216_45, s216_46, s216_49]
    | true =>
      have c := x_M_copyRow (d := d) (f := 351 + 39 * k) (t := 0) (m := m) (q := q) (by omega) (by decide)
      have g : mu (mu m 1 (cyM (m 1) (351 + 39 * k) 0)) 0 (upd (m 0) 1 (nI 0)) 1 0 = nI (N k) := by
        rw [mu_ne (by decide), mu_same, cyM_at (by omega), if_pos (by omega)]
        exact hN k hk
      simp only [Bool.true_eq_false, if_true, if_false, s216_0, s216_1, s216_2, s216_3, s216_4, s216_7, s216_10, s216_13, s216_14, s216_15, s216_18, s216_19, s216_20, s216_23, s216_26, s216_27, s216_28, s216_31, s216_33, s216_34, s216_35, s216_36, s216_37, s216_40, s216_41, s216_42, s216_45, s216_46, s216_49, pk_mul, nI_add, c, Option.bind_some, Option.toList_some, Option.toList_none, List.nil_append, List.cons_append, x_M_n, mu_ne (show (0 : Nat) ≠ 1 by decide), g]
end
