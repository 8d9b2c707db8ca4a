/-! the model: what is found, by the signs -/
/-- three loops, one in another, whose innermost ends early once the state is false -/
theorem ev_and3 {J ρ : Type} (S1 : Nat → Bool → J → ρ) (S2 : Nat → Nat → Bool → J → ρ) (S3 : Nat → Nat → Nat → Bool → J → ρ) (Z : Bool → ρ) (g : Nat → Nat → Nat → Bool) (n : Nat)
    (x1 : ∀ x v, S1 n x v = Z x) (e1 : ∀ a x v, a < n → ∃ v', S1 a x v = S2 a (a + 1) x v') (x2 : ∀ a x v, a < n → ∃ v', S2 a n x v = S1 (a + 1) x v')
    (e2 : ∀ a b x v, a < b → b < n → ∃ v', S2 a b x v = S3 a b (b + 1) x v') (x3 : ∀ a b x v, a < b → b < n → ∃ v', S3 a b n x v = S2 a (b + 1) x v')
    (o3 : ∀ a b c v, a < b → b < c → c < n → ∃ v', S3 a b c false v = S2 a (b + 1) false v') (e3 : ∀ a b c v, a < b → b < c → c < n → ∃ v', S3 a b c true v = S3 a b (c + 1) (g a b c) v') : ∀ x v, S1 0 x v = Z (x && (trip n).all fun t => g t.1 t.2.1 t.2.2) := by
  have f2 : ∀ k a b v, a < n → a < b → b + k = n → (∀ v, S1 (a + 1) false v = Z false) → S2 a b false v = Z false := by
    intro k
    induction k with
    | zero =>
      intro a b v ha hab hb h1
      obtain rfl : b = n := by omega
      obtain ⟨v', h⟩ := x2 a false v ha
      exact h.trans (h1 v')
    | succ k ih =>
      intro a b v ha hab hb h1
      obtain ⟨v1, g1⟩ := e2 a b false v hab (by omega)
      rw [g1]
      rcases Nat.lt_or_ge (b + 1) n with h | h
      · obtain ⟨v2, g2⟩ := o3 a b (b + 1) v1 hab (by omega) h
        rw [g2]
        exact ih a (b + 1) v2 ha (by omega) (by omega) h1
      · obtain ⟨v2, g2⟩ := x3 a b false v1 hab (by omega)
        have hbn : b + 1 = n := by omega
        rw [hbn] at g2 ⊢
        rw [g2]
        have := ih a n v2 ha (by omega) (by omega) h1
        exact this
  have f1 : ∀ k a v, a + k = n → S1 a false v = Z false := by
    intro k
    induction k with
    | zero =>
      intro a v ha
      obtain rfl : a = n := by omega
      exact x1 false v
    | succ k ih =>
      intro a v ha
      obtain ⟨v1, g1⟩ := e1 a false v (by omega)
      rw [g1]
      exact f2 (n - (a + 1)) a (a + 1) v1 (by omega) (by omega) (by omega) fun v => ih (a + 1) v (by omega)
  have f3 : ∀ a b c v, a < b → b < n → b < c → c ≤ n → S3 a b c false v = Z false := by
    intro a b c v hab hb hbc hc
    rcases Nat.lt_or_ge c n with h | h
    · obtain ⟨v1, g1⟩ := o3 a b c v hab hbc h
      rw [g1]
      exact f2 (n - (b + 1)) a (b + 1) v1 (by omega) (by omega) (by omega) fun v => f1 (n - (a + 1)) (a + 1) v (by omega)
    · obtain rfl : c = n := by omega
      obtain ⟨v1, g1⟩ := x3 a b false v hab hb
      rw [g1]
      exact f2 (c - (b + 1)) a (b + 1) v1 (by omega) (by omega) (by omega) fun v => f1 (c - (a + 1)) (a + 1) v (by omega)
  intro x v
  cases x with
  | false => exact f1 n 0 v (by omega)
  | true =>
    have := ev_all3 (fun a v => S1 a true v) (fun a b v => S2 a b true v) (fun a b c v => S3 a b c true v) (Z true) (Z false) g n (x1 true) (fun a v => e1 a true v) (fun a v => x2 a true v) (fun a b v => e2 a b true v) (fun a b v => x3 a b true v)
      (fun a b c v hab hbc hc hg => by
        obtain ⟨v', h⟩ := e3 a b c v hab hbc hc
        rw [hg] at h
        exact ⟨v', h⟩)
      (fun a b c v hab hbc hc hg => by
        obtain ⟨v', h⟩ := e3 a b c v hab hbc hc
        rw [hg] at h
        exact h.trans (f3 a b (c + 1) v' hab (by omega) (by omega) (by omega))) v
    rw [this, Bool.true_and]
    cases (trip n).all fun t => g t.1 t.2.1 t.2.2 <;> rfl
def baB (R : Nat → Int32) (a b c : Nat) : Bool := decide (mS R a b c ≠ 0)
def nwB (a b c y : Nat) : Bool := decide (y ≠ a) && (decide (y ≠ b) && decide (y ≠ c))
def ifN (a x y : Nat) : Nat := if a = x then y else a
def ecS (R : Nat → Int32) (a b c x y : Nat) (z : Bool) : Bool := z || (nwB a b c y && baB R (ifN a x y) (ifN b x y) (ifN c x y))
/-- one of three others makes it a base -/
def ecB (R : Nat → Int32) (a b c d e f x : Nat) : Bool := ecS R a b c x f (ecS R a b c x e (ecS R a b c x d false))
def eaS (R : Nat → Int32) (a b c d e f x : Nat) (z : Bool) : Bool := z && (decide (x = d) || (decide (x = e) || (decide (x = f) || ecB R a b c d e f x)))
def eaB (R : Nat → Int32) (a b c d e f : Nat) : Bool := eaS R a b c d e f c (eaS R a b c d e f b (eaS R a b c d e f a true))
def aeB (n : Nat) (R : Nat → Int32) (a b c : Nat) : Bool := (trip n).all fun t => !baB R t.1 t.2.1 t.2.2 || eaB R a b c t.1 t.2.1 t.2.2
def bsM (n : Nat) (R : Nat → Int32) : Int32 := (trip n).foldl (fun x t => x + if mS R t.1 t.2.1 t.2.2 = 0 then nI 0 else nI 1) (nI 0)
def exM (n : Nat) (R : Nat → Int32) : Bool := decide (0 < bsM n R) && (trip n).all fun t => !baB R t.1 t.2.1 t.2.2 || aeB n R t.1 t.2.1 t.2.2
section
variable {d a b c e f g i n k t u x y : Nat} {m : Mem} {q : MemJ} {h : AH} {v3 v4 v5 v6 v7 : Value}
theorem x_M_isBase (ha : a < 6) (hb : b < 6) (hc : c < 6) : ev (d + 2) 222 0 [.ref 0, .int (nI a), .int (nI b), .int (nI c)] [] (mk shM m q) = some (some (.int (bI (baB (m 1) a b c))), mk shM m q) := by
  have s := x_M_signOf (d := d) (m := m) (q := q) ha hb hc
  unfold baB
  by_cases z : mS (m 1) a b c = 0
  · simp only [s222_0, s222_1, s222_2, s222_3, s222_4, s222_7, s222_10, s222_11, s222_14, s222_15, s, Option.bind_some, Option.toList_some, Option.toList_none, List.nil_append, List.cons_append, z, if_true, am_b0, decide_not, decide_true, Bool.not_true, bI_f]
  · simp only [s222_0, s222_1, s222_2, s222_3, s222_4, s222_7, s222_10, s222_11, s222_14, s222_15, s, Option.bind_some, Option.toList_some, Option.toList_none, List.nil_append, List.cons_append, z, if_false, am_b1, decide_not, decide_false, Bool.not_false, bI_t]
theorem x_M_bases (hn : m 1 0 = nI n) (hn6 : n ≤ 6) : ev (d + 3) 221 0 [.ref 0, .null, .null, .null, .null] [] (mk shM m q) = some (some (.int (bsM n (m 1))), mk shM m q) := by
  have L := ev_for3 (fun _ => True) (fun a (x : Int32) (v : Value × Value) => ev (d + 3) 221 4 [.ref 0, .int x, .int (nI a), v.1, v.2] [] (mk shM m q))
    (fun a b x v => ev (d + 3) 221 16 [.ref 0, .int x, .int (nI a), .int (nI b), v.2] [] (mk shM m q))
    (fun a b c x v => ev (d + 3) 221 29 [.ref 0, .int x, .int (nI a), .int (nI b), .int (nI c)] [] (mk shM m q))
    (fun x => some (some (.int x), mk shM m q)) (fun a b c x => x + if mS (m 1) a b c = 0 then nI 0 else nI 1) n
    (fun x v _ => by rw [s221_4]; simp only [s221_0, s221_1, s221_2, s221_3, s221_5, s221_6, s221_9, s221_12, s221_13, s221_14, s221_15, s221_17, s221_18, s221_21, s221_24, s221_25, s221_26, s221_27, s221_31, s221_32, s221_35, s221_38, s221_39, s221_40, s221_41, s221_42, s221_44, s221_47, s221_50, s221_51, s221_54, s221_55, s221_56, s221_57, s221_60, s221_63, s221_66, s221_69, s221_72, s221_75, s221_76, x_M_n, hn, Option.bind_some, Option.toList_some, Option.toList_none, List.nil_append, List.cons_append, nI_irr, if_false])
    (fun a x v ha _ => ⟨v, by rw [s221_4]; simp only [s221_0, s221_1, s221_2, s221_3, s221_5, s221_6, s221_9, s221_12, s221_13, s221_14, s221_15, s221_17, s221_18, s221_21, s221_24, s221_25, s221_26, s221_27, s221_31, s221_32, s221_35, s221_38, s221_39, s221_40, s221_41, s221_42, s221_44, s221_47, s221_50, s221_51, s221_54, s221_55, s221_56, s221_57, s221_60, s221_63, s221_66, s221_69, s221_72, s221_75, s221_76, x_M_n, hn, Option.bind_some, Option.toList_some, Option.toList_none, List.nil_append, List.cons_append, nI_lt ha (show n < 2 ^ 31 by omega), if_true, nI_add]⟩)
    (fun a x v ha _ => ⟨(.int (nI n), v.2), by rw [s221_16]; simp only [s221_0, s221_1, s221_2, s221_3, s221_5, s221_6, s221_9, s221_12, s221_13, s221_14, s221_15, s221_17, s221_18, s221_21, s221_24, s221_25, s221_26, s221_27, s221_31, s221_32, s221_35, s221_38, s221_39, s221_40, s221_41, s221_42, s221_44, s221_47, s221_50, s221_51, s221_54, s221_55, s221_56, s221_57, s221_60, s221_63, s221_66, s221_69, s221_72, s221_75, s221_76, x_M_n, hn, Option.bind_some, Option.toList_some, Option.toList_none, List.nil_append, List.cons_append, nI_irr, if_false, nI_add]⟩)
    (fun a b x v hab hb _ => ⟨v, by rw [s221_16]; simp only [s221_0, s221_1, s221_2, s221_3, s221_5, s221_6, s221_9, s221_12, s221_13, s221_14, s221_15, s221_17, s221_18, s221_21, s221_24, s221_25, s221_26, s221_27, s221_31, s221_32, s221_35, s221_38, s221_39, s221_40, s221_41, s221_42, s221_44, s221_47, s221_50, s221_51, s221_54, s221_55, s221_56, s221_57, s221_60, s221_63, s221_66, s221_69, s221_72, s221_75, s221_76, x_M_n, hn, Option.bind_some, Option.toList_some, Option.toList_none, List.nil_append, List.cons_append, nI_lt hb (show n < 2 ^ 31 by omega), if_true, nI_add]⟩)
    (fun a b x v hab hb _ => ⟨(v.1, .int (nI n)), by rw [s221_29]; simp only [s221_0, s221_1, s221_2, s221_3, s221_5, s221_6, s221_9, s221_12, s221_13, s221_14, s221_15, s221_17, s221_18, s221_21, s221_24, s221_25, s221_26, s221_27, s221_31, s221_32, s221_35, s221_38, s221_39, s221_40, s221_41, s221_42, s221_44, s221_47, s221_50, s221_51, s221_54, s221_55, s221_56, s221_57, s221_60, s221_63, s221_66, s221_69, s221_72, s221_75, s221_76, x_M_n, hn, Option.bind_some, Option.toList_some, Option.toList_none, List.nil_append, List.cons_append, nI_irr, if_false, nI_add]⟩)
    (fun _ _ _ _ _ _ _ _ => trivial)
    (fun a b c x v hab hbc hc _ => ⟨v, by
      rw [s221_29]
      simp only [s221_0, s221_1, s221_2, s221_3, s221_5, s221_6, s221_9, s221_12, s221_13, s221_14, s221_15, s221_17, s221_18, s221_21, s221_24, s221_25, s221_26, s221_27, s221_31, s221_32, s221_35, s221_38, s221_39, s221_40, s221_41, s221_42, s221_44, s221_47, s221_50, s221_51, s221_54, s221_55, s221_56, s221_57, s221_60, s221_63, s221_66, s221_69, s221_72, s221_75, s221_76, x_M_n, hn, Option.bind_some, Option.toList_some, Option.toList_none, List.nil_append, List.cons_append, nI_lt hc (show n < 2 ^ 31 by omega), if_true, nI_add, x_M_isBase (show a < 6 by omega) (show b < 6 by omega) (show c < 6 by omega), bI_z]
      unfold baB
      by_cases z : mS (m 1) a b c = 0
      · simp only [z, ne_eq, not_true, decide_false, if_true, s221_0, s221_1, s221_2, s221_3, s221_5, s221_6, s221_9, s221_12, s221_13, s221_14, s221_15, s221_17, s221_18, s221_21, s221_24, s221_25, s221_26, s221_27, s221_31, s221_32, s221_35, s221_38, s221_39, s221_40, s221_41, s221_42, s221_44, s221_47, s221_50, s221_51, s221_54, s221_55, s221_56, s221_57, s221_60, s221_63, s221_66, s221_69, s221_72, s221_75, s221_76, nI_add]
      · simp only [z, ne_eq, not_false_eq_true, decide_true, Bool.true_eq_false, if_false, s221_0, s221_1, s221_2, s221_3, s221_5, s221_6, s221_9, s221_12, s221_13, s221_14, s221_15, s221_17, s221_18, s221_21, s221_24, s221_25, s221_26, s221_27, s221_31, s221_32, s221_35, s221_38, s221_39, s221_40, s221_41, s221_42, s221_44, s221_47, s221_50, s221_51, s221_54, s221_55, s221_56, s221_57, s221_60, s221_63, s221_66, s221_69, s221_72, s221_75, s221_76, nI_add]⟩) (nI 0) (.null, .null) trivial
  simp only [s221_0, s221_1, s221_2, s221_3, s221_5, s221_6, s221_9, s221_12, s221_13, s221_14, s221_15, s221_17, s221_18, s221_21, s221_24, s221_25, s221_26, s221_27, s221_31, s221_32, s221_35, s221_38, s221_39, s221_40, s221_41, s221_42, s221_44, s221_47, s221_50, s221_51, s221_54, s221_55, s221_56, s221_57, s221_60, s221_63, s221_66, s221_69, s221_72, s221_75, s221_76]
  exact L
theorem x_M_exchanges (ha : a < 6) (hb : b < 6) (hc : c < 6) (hd : t < 6) (he : e < 6) (hf : f < 6) (hx : x < 6) : ev (d + 3) 225 0 [.ref 0, .int (nI a), .int (nI b), .int (nI c), .int (nI t), .int (nI e), .int (nI f), .int (nI x), .null, .null, .null, .null] [] (mk shM m q) = some (some (.int (bI (ecB (m 1) a b c t e f x))), mk shM m q) := by
  have nw : ∀ {y : Nat} {z k : Int32} {v10 v11 : Value}, y < 6 → ev (d + 3) 225 35 [.ref 0, .int (nI a), .int (nI b), .int (nI c), .int (nI t), .int (nI e), .int (nI f), .int (nI x), .int z, .int k, v10, v11] [.int (nI y)] (mk shM m q) = ev (d + 3) 225 62 [.ref 0, .int (nI a), .int (nI b), .int (nI c), .int (nI t), .int (nI e), .int (nI f), .int (nI x), .int z, .int k, .int (nI y), .int (bI (nwB a b c y))] [] (mk shM m q) := fun {y z k v10 v11} hy => by
    have e1 := nI_eq (show y < 2 ^ 31 by omega) (show a < 2 ^ 31 by omega)
    have e2 := nI_eq (show y < 2 ^ 31 by omega) (show b < 2 ^ 31 by omega)
    have e3 := nI_eq (show y < 2 ^ 31 by omega) (show c < 2 ^ 31 by omega)
    unfold nwB
    by_cases c1 : y = a
    · simp only [s225_35, s225_37, s225_39, s225_40, s225_43, s225_45, s225_46, s225_49, s225_51, s225_52, s225_55, s225_56, s225_59, s225_60, e1, eq_true c1, if_true, ne_eq, not_true, decide_false, Bool.false_and, bI_f]
    · by_cases c2 : y = b
      · simp only [s225_35, s225_37, s225_39, s225_40, s225_43, s225_45, s225_46, s225_49, s225_51, s225_52, s225_55, s225_56, s225_59, s225_60, e1, eq_false c1, e2, eq_true c2, if_true, if_false, ne_eq, not_true, decide_false, Bool.false_and, Bool.and_false, bI_f]
      · by_cases c3 : y = c
        · simp only [s225_35, s225_37, s225_39, s225_40, s225_43, s225_45, s225_46, s225_49, s225_51, s225_52, s225_55, s225_56, s225_59, s225_60, e1, eq_false c1, e2, eq_false c2, e3, eq_true c3, if_true, if_false, ne_eq, not_true, decide_false, Bool.and_false, bI_f]
        · simp only [s225_35, s225_37, s225_39, s225_40, s225_43, s225_45, s225_46, s225_49, s225_51, s225_52, s225_55, s225_56, s225_59, s225_60, e1, eq_false c1, e2, eq_false c2, e3, eq_false c3, if_false, ne_eq, not_false_eq_true, decide_true, Bool.and_self, bI_t]
  have st : ∀ {y k : Nat} {z : Bool} {v10 v11 : Value}, y < 6 → ev (d + 3) 225 35 [.ref 0, .int (nI a), .int (nI b), .int (nI c), .int (nI t), .int (nI e), .int (nI f), .int (nI x), .int (bI z), .int (nI k), v10, v11] [.int (nI y)] (mk shM m q) = ev (d + 3) 225 6 [.ref 0, .int (nI a), .int (nI b), .int (nI c), .int (nI t), .int (nI e), .int (nI f), .int (nI x), .int (bI (ecS (m 1) a b c x y z)), .int (nI (k + 1)), .int (nI y), .int (bI (nwB a b c y))] [] (mk shM m q) := fun {y k z v10 v11} hy => by
    rw [nw hy]
    unfold ecS
    cases z with
    | true => simp only [s225_62, s225_64, s225_67, s225_69, s225_72, s225_73, s225_74, s225_76, s225_79, s225_81, s225_84, s225_85, s225_86, s225_88, s225_91, s225_93, s225_96, s225_97, s225_98, s225_100, s225_103, s225_105, s225_108, s225_109, s225_112, s225_115, s225_116, s225_119, s225_120, s225_122, s225_125, s225_128, bI_z, Bool.true_eq_false, if_false, Bool.true_or, nI_add, bI_t, nI10, nI00]
    | false =>
      cases hw : nwB a b c y with
      | false => simp only [s225_62, s225_64, s225_67, s225_69, s225_72, s225_73, s225_74, s225_76, s225_79, s225_81, s225_84, s225_85, s225_86, s225_88, s225_91, s225_93, s225_96, s225_97, s225_98, s225_100, s225_103, s225_105, s225_108, s225_109, s225_112, s225_115, s225_116, s225_119, s225_120, s225_122, s225_125, s225_128, bI_z, Bool.true_eq_false, if_true, Bool.false_and, Bool.or_self, nI_add, bI_f, nI10, nI00]
      | true =>
        have e1 := nI_eq (show a < 2 ^ 31 by omega) (show x < 2 ^ 31 by omega)
        have e2 := nI_eq (show b < 2 ^ 31 by omega) (show x < 2 ^ 31 by omega)
        have e3 := nI_eq (show c < 2 ^ 31 by omega) (show x < 2 ^ 31 by omega)
        have ib := x_M_isBase (d := d) (m := m) (q := q) (a := ifN a x y) (b := ifN b x y) (c := ifN c x y) (by unfold ifN; split <;> omega) (by unfold ifN; split <;> omega) (by unfold ifN; split <;> omega)
        rw [Bool.true_and, Bool.false_or]
        generalize hB : baB (m 1) (ifN a x y) (ifN b x y) (ifN c x y) = B at ib ⊢
        unfold ifN at ib
        by_cases c1 : a = x <;> by_cases c2 : b = x <;> by_cases c3 : c = x <;> simp only [c1, c2, c3, if_true, if_false] at ib e1 e2 e3 <;> simp only [s225_62, s225_64, s225_67, s225_69, s225_72, s225_73, s225_74, s225_76, s225_79, s225_81, s225_84, s225_85, s225_86, s225_88, s225_91, s225_93, s225_96, s225_97, s225_98, s225_100, s225_103, s225_105, s225_108, s225_109, s225_112, s225_115, s225_116, s225_119, s225_120, s225_122, s225_125, s225_128, bI_z, Bool.true_eq_false, if_true, if_false, e1, e2, e3, c1, c2, c3, ib, Option.bind_some, Option.toList_some, Option.toList_none, List.nil_append, List.cons_append] <;> cases B <;> simp only [s225_62, s225_64, s225_67, s225_69, s225_72, s225_73, s225_74, s225_76, s225_79, s225_81, s225_84, s225_85, s225_86, s225_88, s225_91, s225_93, s225_96, s225_97, s225_98, s225_100, s225_103, s225_105, s225_108, s225_109, s225_112, s225_115, s225_116, s225_119, s225_120, s225_122, s225_125, s225_128, Bool.true_eq_false, if_true, if_false, nI_add, bI_t, bI_f, nI10, nI00]
  unfold ecB
  generalize hr : ecS (m 1) a b c x f (ecS (m 1) a b c x e (ecS (m 1) a b c x t false)) = r
  have h0 : ∀ {z : Bool} {v10 v11 : Value}, ev (d + 3) 225 6 [.ref 0, .int (nI a), .int (nI b), .int (nI c), .int (nI t), .int (nI e), .int (nI f), .int (nI x), .int (bI z), .int (nI 0), v10, v11] [] (mk shM m q) = ev (d + 3) 225 6 [.ref 0, .int (nI a), .int (nI b), .int (nI c), .int (nI t), .int (nI e), .int (nI f), .int (nI x), .int (bI (ecS (m 1) a b c x t z)), .int (nI 1), .int (nI t), .int (bI (nwB a b c t))] [] (mk shM m q) := fun {z v10 v11} => by
    rw [s225_6, ← st (k := 0) (v10 := v10) (v11 := v11) hd]
    simp only [s225_8, s225_9, s225_12, s225_14, s225_17, s225_19, s225_22, s225_24, s225_25, s225_28, s225_30, s225_33, nI_ltI (show 0 < 2 ^ 31 by decide) (show 3 < 2 ^ 31 by decide), show (0 : Nat) < 3 by decide, if_true, nI00]
  have h1 : ∀ {z : Bool} {v10 v11 : Value}, ev (d + 3) 225 6 [.ref 0, .int (nI a), .int (nI b), .int (nI c), .int (nI t), .int (nI e), .int (nI f), .int (nI x), .int (bI z), .int (nI 1), v10, v11] [] (mk shM m q) = ev (d + 3) 225 6 [.ref 0, .int (nI a), .int (nI b), .int (nI c), .int (nI t), .int (nI e), .int (nI f), .int (nI x), .int (bI (ecS (m 1) a b c x e z)), .int (nI 2), .int (nI e), .int (bI (nwB a b c e))] [] (mk shM m q) := fun {z v10 v11} => by
    rw [s225_6, ← st (k := 1) (v10 := v10) (v11 := v11) he]
    simp only [s225_8, s225_9, s225_12, s225_14, s225_17, s225_19, s225_22, s225_24, s225_25, s225_28, s225_30, s225_33, nI_ltI (show 1 < 2 ^ 31 by decide) (show 3 < 2 ^ 31 by decide), show (1 : Nat) < 3 by decide, if_true, nI10, if_false]
  have h2 : ∀ {z : Bool} {v10 v11 : Value}, ev (d + 3) 225 6 [.ref 0, .int (nI a), .int (nI b), .int (nI c), .int (nI t), .int (nI e), .int (nI f), .int (nI x), .int (bI z), .int (nI 2), v10, v11] [] (mk shM m q) = ev (d + 3) 225 6 [.ref 0, .int (nI a), .int (nI b), .int (nI c), .int (nI t), .int (nI e), .int (nI f), .int (nI x), .int (bI (ecS (m 1) a b c x f z)), .int (nI 3), .int (nI f), .int (bI (nwB a b c f))] [] (mk shM m q) := fun {z v10 v11} => by
    rw [s225_6, ← st (k := 2) (v10 := v10) (v11 := v11) hf]
    simp only [s225_8, s225_9, s225_12, s225_14, s225_17, s225_19, s225_22, s225_24, s225_25, s225_28, s225_30, s225_33, nI_ltI (show 2 < 2 ^ 31 by decide) (show 3 < 2 ^ 31 by decide), show (2 : Nat) < 3 by decide, if_true, show ¬ nI 2 = 0 by decide, show ¬ nI 2 = nI 1 by decide, if_false]
  have h3 : ∀ {z : Bool} {v10 v11 : Value}, ev (d + 3) 225 6 [.ref 0, .int (nI a), .int (nI b), .int (nI c), .int (nI t), .int (nI e), .int (nI f), .int (nI x), .int (bI z), .int (nI 3), v10, v11] [] (mk shM m q) = some (some (.int (bI z)), mk shM m q) := fun {z v10 v11} => by
    rw [s225_6]
    simp only [s225_0, s225_1, s225_3, s225_4, s225_8, s225_9, s225_12, s225_14, s225_17, s225_19, s225_22, s225_24, s225_25, s225_28, s225_30, s225_33, s225_35, s225_37, s225_39, s225_40, s225_43, s225_45, s225_46, s225_49, s225_51, s225_52, s225_55, s225_56, s225_59, s225_60, s225_62, s225_64, s225_67, s225_69, s225_72, s225_73, s225_74, s225_76, s225_79, s225_81, s225_84, s225_85, s225_86, s225_88, s225_91, s225_93, s225_96, s225_97, s225_98, s225_100, s225_103, s225_105, s225_108, s225_109, s225_112, s225_115, s225_116, s225_119, s225_120, s225_122, s225_125, s225_128, s225_130, nI_irr, if_false, bI_b]
  have i0 := h0 (z := false) (v10 := .null) (v11 := .null)
  rw [bI_f] at i0
  simp only [s225_0, s225_1, s225_3, s225_4, i0, h1, h2, h3, hr]
theorem x_M_exchangeable (ha : a < 6) (hb : b < 6) (hc : c < 6) (hd : t < 6) (he : e < 6) (hf : f < 6) : ev (d + 4) 224 0 [.ref 0, .int (nI a), .int (nI b), .int (nI c), .int (nI t), .int (nI e), .int (nI f), .null, .null, .null] [] (mk shM m q) = some (some (.int (bI (eaB (m 1) a b c t e f))), mk shM m q) := by
  have st : ∀ {x k : Nat} {z : Bool} {v9 : Value}, x < 6 → ev (d + 4) 224 32 [.ref 0, .int (nI a), .int (nI b), .int (nI c), .int (nI t), .int (nI e), .int (nI f), .int (bI z), .int (nI k), v9] [.int (nI x)] (mk shM m q) = ev (d + 4) 224 6 [.ref 0, .int (nI a), .int (nI b), .int (nI c), .int (nI t), .int (nI e), .int (nI f), .int (bI (eaS (m 1) a b c t e f x z)), .int (nI (k + 1)), .int (nI x)] [] (mk shM m q) := fun {x k z v9} hx => by
    have e1 := nI_eq (show x < 2 ^ 31 by omega) (show t < 2 ^ 31 by omega)
    have e2 := nI_eq (show x < 2 ^ 31 by omega) (show e < 2 ^ 31 by omega)
    have e3 := nI_eq (show x < 2 ^ 31 by omega) (show f < 2 ^ 31 by omega)
    have ex := x_M_exchanges (d := d) (m := m) (q := q) ha hb hc hd he hf hx
    unfold eaS
    cases z with
    | false => simp only [s224_32, s224_34, s224_36, s224_39, s224_41, s224_43, s224_46, s224_48, s224_50, s224_53, s224_55, s224_57, s224_60, s224_61, s224_62, s224_63, s224_64, s224_66, s224_68, s224_70, s224_72, s224_75, s224_78, s224_79, s224_82, s224_83, s224_85, s224_88, s224_91, s224_93, bI_z, if_true, Bool.false_and, nI_add, bI_f, nI10, nI00]
    | true =>
      by_cases c1 : x = t
      · simp only [s224_32, s224_34, s224_36, s224_39, s224_41, s224_43, s224_46, s224_48, s224_50, s224_53, s224_55, s224_57, s224_60, s224_61, s224_62, s224_63, s224_64, s224_66, s224_68, s224_70, s224_72, s224_75, s224_78, s224_79, s224_82, s224_83, s224_85, s224_88, s224_91, s224_93, bI_z, Bool.true_eq_false, if_true, if_false, e1, eq_true c1, decide_true, Bool.true_or, Bool.and_self, nI_add, bI_t, nI10, nI00]
      · by_cases c2 : x = e
        · simp only [s224_32, s224_34, s224_36, s224_39, s224_41, s224_43, s224_46, s224_48, s224_50, s224_53, s224_55, s224_57, s224_60, s224_61, s224_62, s224_63, s224_64, s224_66, s224_68, s224_70, s224_72, s224_75, s224_78, s224_79, s224_82, s224_83, s224_85, s224_88, s224_91, s224_93, bI_z, Bool.true_eq_false, if_true, if_false, e1, eq_false c1, e2, eq_true c2, decide_true, decide_false, Bool.true_or, Bool.false_or, Bool.and_self, nI_add, bI_t, nI10, nI00]
        · by_cases c3 : x = f
          · simp only [s224_32, s224_34, s224_36, s224_39, s224_41, s224_43, s224_46, s224_48, s224_50, s224_53, s224_55, s224_57, s224_60, s224_61, s224_62, s224_63, s224_64, s224_66, s224_68, s224_70, s224_72, s224_75, s224_78, s224_79, s224_82, s224_83, s224_85, s224_88, s224_91, s224_93, bI_z, Bool.true_eq_false, if_true, if_false, e1, eq_false c1, e2, eq_false c2, e3, eq_true c3, decide_true, decide_false, Bool.true_or, Bool.false_or, Bool.and_self, nI_add, bI_t, nI10, nI00]
          · simp only [s224_32, s224_34, s224_36, s224_39, s224_41, s224_43, s224_46, s224_48, s224_50, s224_53, s224_55, s224_57, s224_60, s224_61, s224_62, s224_63, s224_64, s224_66, s224_68, s224_70, s224_72, s224_75, s224_78, s224_79, s224_82, s224_83, s224_85, s224_88, s224_91, s224_93, bI_z, Bool.true_eq_false, if_true, if_false, e1, eq_false c1, e2, eq_false c2, e3, eq_false c3, ex, Option.bind_some, Option.toList_some, Option.toList_none, List.nil_append, List.cons_append, decide_false, Bool.false_or, Bool.true_and]
            cases ecB (m 1) a b c t e f x <;> simp only [Bool.true_eq_false, if_true, if_false, s224_32, s224_34, s224_36, s224_39, s224_41, s224_43, s224_46, s224_48, s224_50, s224_53, s224_55, s224_57, s224_60, s224_61, s224_62, s224_63, s224_64, s224_66, s224_68, s224_70, s224_72, s224_75, s224_78, s224_79, s224_82, s224_83, s224_85, s224_88, s224_91, s224_93, nI_add, bI_t, bI_f, nI10, nI00]
  unfold eaB
  generalize hr : eaS (m 1) a b c t e f c (eaS (m 1) a b c t e f b (eaS (m 1) a b c t e f a true)) = r
  have h0 : ∀ {z : Bool} {v9 : Value}, ev (d + 4) 224 6 [.ref 0, .int (nI a), .int (nI b), .int (nI c), .int (nI t), .int (nI e), .int (nI f), .int (bI z), .int (nI 0), v9] [] (mk shM m q) = ev (d + 4) 224 6 [.ref 0, .int (nI a), .int (nI b), .int (nI c), .int (nI t), .int (nI e), .int (nI f), .int (bI (eaS (m 1) a b c t e f a z)), .int (nI 1), .int (nI a)] [] (mk shM m q) := fun {z v9} => by
    rw [s224_6, ← st (k := 0) (v9 := v9) ha]
    simp only [s224_8, s224_9, s224_12, s224_14, s224_17, s224_18, s224_21, s224_23, s224_24, s224_27, s224_28, s224_31, nI_ltI (show 0 < 2 ^ 31 by decide) (show 3 < 2 ^ 31 by decide), show (0 : Nat) < 3 by decide, if_true, nI00]
  have h1 : ∀ {z : Bool} {v9 : Value}, ev (d + 4) 224 6 [.ref 0, .int (nI a), .int (nI b), .int (nI c), .int (nI t), .int (nI e), .int (nI f), .int (bI z), .int (nI 1), v9] [] (mk shM m q) = ev (d + 4) 224 6 [.ref 0, .int (nI a), .int (nI b), .int (nI c), .int (nI t), .int (nI e), .int (nI f), .int (bI (eaS (m 1) a b c t e f b z)), .int (nI 2), .int (nI b)] [] (mk shM m q) := fun {z v9} => by
    rw [s224_6, ← st (k := 1) (v9 := v9) hb]
    simp only [s224_8, s224_9, s224_12, s224_14, s224_17, s224_18, s224_21, s224_23, s224_24, s224_27, s224_28, s224_31, nI_ltI (show 1 < 2 ^ 31 by decide) (show 3 < 2 ^ 31 by decide), show (1 : Nat) < 3 by decide, if_true, nI10, if_false]
  have h2 : ∀ {z : Bool} {v9 : Value}, ev (d + 4) 224 6 [.ref 0, .int (nI a), .int (nI b), .int (nI c), .int (nI t), .int (nI e), .int (nI f), .int (bI z), .int (nI 2), v9] [] (mk shM m q) = ev (d + 4) 224 6 [.ref 0, .int (nI a), .int (nI b), .int (nI c), .int (nI t), .int (nI e), .int (nI f), .int (bI (eaS (m 1) a b c t e f c z)), .int (nI 3), .int (nI c)] [] (mk shM m q) := fun {z v9} => by
    rw [s224_6, ← st (k := 2) (v9 := v9) hc]
    simp only [s224_8, s224_9, s224_12, s224_14, s224_17, s224_18, s224_21, s224_23, s224_24, s224_27, s224_28, s224_31, nI_ltI (show 2 < 2 ^ 31 by decide) (show 3 < 2 ^ 31 by decide), show (2 : Nat) < 3 by decide, if_true, show ¬ nI 2 = 0 by decide, show ¬ nI 2 = nI 1 by decide, if_false]
  have h3 : ∀ {z : Bool} {v9 : Value}, ev (d + 4) 224 6 [.ref 0, .int (nI a), .int (nI b), .int (nI c), .int (nI t), .int (nI e), .int (nI f), .int (bI z), .int (nI 3), v9] [] (mk shM m q) = some (some (.int (bI z)), mk shM m q) := fun {z v9} => by
    rw [s224_6]
    simp only [s224_0, s224_1, s224_3, s224_4, s224_8, s224_9, s224_12, s224_14, s224_17, s224_18, s224_21, s224_23, s224_24, s224_27, s224_28, s224_31, s224_32, s224_34, s224_36, s224_39, s224_41, s224_43, s224_46, s224_48, s224_50, s224_53, s224_55, s224_57, s224_60, s224_61, s224_62, s224_63, s224_64, s224_66, s224_68, s224_70, s224_72, s224_75, s224_78, s224_79, s224_82, s224_83, s224_85, s224_88, s224_91, s224_93, nI_irr, if_false, bI_b]
  have i0 := h0 (z := true) (v9 := .null)
  rw [bI_t] at i0
  simp only [s224_0, s224_1, s224_3, s224_4, i0, h1, h2, h3, hr]
theorem x_M_areExchangeable (hn : m 1 0 = nI n) (hn6 : n ≤ 6) (ha : a < 6) (hb : b < 6) (hc : c < 6) : ev (d + 5) 223 0 [.ref 0, .int (nI a), .int (nI b), .int (nI c), .null, .null, .null, .null] [] (mk shM m q) = some (some (.int (bI (aeB n (m 1) a b c))), mk shM m q) := by
  have L := ev_and3 (fun p (x : Bool) (v : Value × Value) => ev (d + 5) 223 6 [.ref 0, .int (nI a), .int (nI b), .int (nI c), .int (bI x), .int (nI p), v.1, v.2] [] (mk shM m q))
    (fun p r x v => ev (d + 5) 223 21 [.ref 0, .int (nI a), .int (nI b), .int (nI c), .int (bI x), .int (nI p), .int (nI r), v.2] [] (mk shM m q))
    (fun p r s x v => ev (d + 5) 223 36 [.ref 0, .int (nI a), .int (nI b), .int (nI c), .int (bI x), .int (nI p), .int (nI r), .int (nI s)] [] (mk shM m q))
    (fun x => some (some (.int (bI x)), mk shM m q)) (fun p r s => !baB (m 1) p r s || eaB (m 1) a b c p r s) n
    (fun x v => by rw [s223_6]; simp only [s223_0, s223_1, s223_3, s223_4, s223_8, s223_9, s223_12, s223_15, s223_17, s223_18, s223_19, s223_23, s223_24, s223_27, s223_30, s223_32, s223_33, s223_34, s223_38, s223_39, s223_42, s223_45, s223_47, s223_50, s223_51, s223_53, s223_55, s223_57, s223_60, s223_63, s223_64, s223_65, s223_66, s223_67, s223_69, s223_71, s223_73, s223_76, s223_79, s223_80, s223_83, s223_84, s223_86, s223_89, s223_92, s223_95, s223_98, s223_101, s223_104, s223_106, x_M_n, hn, Option.bind_some, Option.toList_some, Option.toList_none, List.nil_append, List.cons_append, nI_irr, if_false, bI_b])
    (fun p x v hp => ⟨v, by rw [s223_6]; simp only [s223_0, s223_1, s223_3, s223_4, s223_8, s223_9, s223_12, s223_15, s223_17, s223_18, s223_19, s223_23, s223_24, s223_27, s223_30, s223_32, s223_33, s223_34, s223_38, s223_39, s223_42, s223_45, s223_47, s223_50, s223_51, s223_53, s223_55, s223_57, s223_60, s223_63, s223_64, s223_65, s223_66, s223_67, s223_69, s223_71, s223_73, s223_76, s223_79, s223_80, s223_83, s223_84, s223_86, s223_89, s223_92, s223_95, s223_98, s223_101, s223_104, s223_106, x_M_n, hn, Option.bind_some, Option.toList_some, Option.toList_none, List.nil_append, List.cons_append, nI_lt hp (show n < 2 ^ 31 by omega), if_true, nI_add]⟩)
    (fun p x v hp => ⟨(.int (nI n), v.2), by rw [s223_21]; simp only [s223_0, s223_1, s223_3, s223_4, s223_8, s223_9, s223_12, s223_15, s223_17, s223_18, s223_19, s223_23, s223_24, s223_27, s223_30, s223_32, s223_33, s223_34, s223_38, s223_39, s223_42, s223_45, s223_47, s223_50, s223_51, s223_53, s223_55, s223_57, s223_60, s223_63, s223_64, s223_65, s223_66, s223_67, s223_69, s223_71, s223_73, s223_76, s223_79, s223_80, s223_83, s223_84, s223_86, s223_89, s223_92, s223_95, s223_98, s223_101, s223_104, s223_106, x_M_n, hn, Option.bind_some, Option.toList_some, Option.toList_none, List.nil_append, List.cons_append, nI_irr, if_false, nI_add]⟩)
    (fun p r x v hpr hr => ⟨v, by rw [s223_21]; simp only [s223_0, s223_1, s223_3, s223_4, s223_8, s223_9, s223_12, s223_15, s223_17, s223_18, s223_19, s223_23, s223_24, s223_27, s223_30, s223_32, s223_33, s223_34, s223_38, s223_39, s223_42, s223_45, s223_47, s223_50, s223_51, s223_53, s223_55, s223_57, s223_60, s223_63, s223_64, s223_65, s223_66, s223_67, s223_69, s223_71, s223_73, s223_76, s223_79, s223_80, s223_83, s223_84, s223_86, s223_89, s223_92, s223_95, s223_98, s223_101, s223_104, s223_106, x_M_n, hn, Option.bind_some, Option.toList_some, Option.toList_none, List.nil_append, List.cons_append, nI_lt hr (show n < 2 ^ 31 by omega), if_true, nI_add]⟩)
    (fun p r x v hpr hr => ⟨(v.1, .int (nI n)), by rw [s223_36]; simp only [s223_0, s223_1, s223_3, s223_4, s223_8, s223_9, s223_12, s223_15, s223_17, s223_18, s223_19, s223_23, s223_24, s223_27, s223_30, s223_32, s223_33, s223_34, s223_38, s223_39, s223_42, s223_45, s223_47, s223_50, s223_51, s223_53, s223_55, s223_57, s223_60, s223_63, s223_64, s223_65, s223_66, s223_67, s223_69, s223_71, s223_73, s223_76, s223_79, s223_80, s223_83, s223_84, s223_86, s223_89, s223_92, s223_95, s223_98, s223_101, s223_104, s223_106, x_M_n, hn, Option.bind_some, Option.toList_some, Option.toList_none, List.nil_append, List.cons_append, nI_irr, if_false, nI_add]⟩)
    (fun p r s v hpr hrs hs => ⟨(v.1, .int (nI s)), by rw [s223_36]; simp only [s223_0, s223_1, s223_3, s223_4, s223_8, s223_9, s223_12, s223_15, s223_17, s223_18, s223_19, s223_23, s223_24, s223_27, s223_30, s223_32, s223_33, s223_34, s223_38, s223_39, s223_42, s223_45, s223_47, s223_50, s223_51, s223_53, s223_55, s223_57, s223_60, s223_63, s223_64, s223_65, s223_66, s223_67, s223_69, s223_71, s223_73, s223_76, s223_79, s223_80, s223_83, s223_84, s223_86, s223_89, s223_92, s223_95, s223_98, s223_101, s223_104, s223_106, x_M_n, hn, Option.bind_some, Option.toList_some, Option.toList_none, List.nil_append, List.cons_append, nI_lt hs (show n < 2 ^ 31 by omega), if_true, bI_z, nI_add]⟩)
    (fun p r s v hpr hrs hs => ⟨v, by
      have ib := x_M_isBase (d := d + 2) (m := m) (q := q) (show p < 6 by omega) (show r < 6 by omega) (show s < 6 by omega)
      have ex := x_M_exchangeable (d := d) (m := m) (q := q) ha hb hc (show p < 6 by omega) (show r < 6 by omega) (show s < 6 by omega)
      rw [s223_36]
      simp only [s223_0, s223_1, s223_3, s223_4, s223_8, s223_9, s223_12, s223_15, s223_17, s223_18, s223_19, s223_23, s223_24, s223_27, s223_30, s223_32, s223_33, s223_34, s223_38, s223_39, s223_42, s223_45, s223_47, s223_50, s223_51, s223_53, s223_55, s223_57, s223_60, s223_63, s223_64, s223_65, s223_66, s223_67, s223_69, s223_71, s223_73, s223_76, s223_79, s223_80, s223_83, s223_84, s223_86, s223_89, s223_92, s223_95, s223_98, s223_101, s223_104, s223_106, x_M_n, hn, Option.bind_some, Option.toList_some, Option.toList_none, List.nil_append, List.cons_append, nI_lt hs (show n < 2 ^ 31 by omega), if_true, bI_z, Bool.true_eq_false, if_false, ib]
      cases baB (m 1) p r s with
      | false => simp only [if_true, Bool.not_false, Bool.true_or, s223_0, s223_1, s223_3, s223_4, s223_8, s223_9, s223_12, s223_15, s223_17, s223_18, s223_19, s223_23, s223_24, s223_27, s223_30, s223_32, s223_33, s223_34, s223_38, s223_39, s223_42, s223_45, s223_47, s223_50, s223_51, s223_53, s223_55, s223_57, s223_60, s223_63, s223_64, s223_65, s223_66, s223_67, s223_69, s223_71, s223_73, s223_76, s223_79, s223_80, s223_83, s223_84, s223_86, s223_89, s223_92, s223_95, s223_98, s223_101, s223_104, s223_106, nI_add, bI_t]
      | true =>
        simp only [Bool.true_eq_false, if_false, Bool.not_true, Bool.false_or, s223_0, s223_1, s223_3, s223_4, s223_8, s223_9, s223_12, s223_15, s223_17, s223_18, s223_19, s223_23, s223_24, s223_27, s223_30, s223_32, s223_33, s223_34, s223_38, s223_39, s223_42, s223_45, s223_47, s223_50, s223_51, s223_53, s223_55, s223_57, s223_60, s223_63, s223_64, s223_65, s223_66, s223_67, s223_69, s223_71, s223_73, s223_76, s223_79, s223_80, s223_83, s223_84, s223_86, s223_89, s223_92, s223_95, s223_98, s223_101, s223_104, s223_106, ex, Option.bind_some, Option.toList_some, Option.toList_none, List.nil_append, List.cons_append, bI_z]
        cases eaB (m 1) a b c p r s <;> simp only [Bool.true_eq_false, if_true, if_false, s223_0, s223_1, s223_3, s223_4, s223_8, s223_9, s223_12, s223_15, s223_17, s223_18, s223_19, s223_23, s223_24, s223_27, s223_30, s223_32, s223_33, s223_34, s223_38, s223_39, s223_42, s223_45, s223_47, s223_50, s223_51, s223_53, s223_55, s223_57, s223_60, s223_63, s223_64, s223_65, s223_66, s223_67, s223_69, s223_71, s223_73, s223_76, s223_79, s223_80, s223_83, s223_84, s223_86, s223_89, s223_92, s223_95, s223_98, s223_101, s223_104, s223_106, nI_add, bI_t, bI_f]⟩) true (.null, .null)
  simp only [s223_0, s223_1, s223_3, s223_4, s223_8, s223_9, s223_12, s223_15, s223_17, s223_18, s223_19, s223_23, s223_24, s223_27, s223_30, s223_32, s223_33, s223_34, s223_38, s223_39, s223_42, s223_45, s223_47, s223_50, s223_51, s223_53, s223_55, s223_57, s223_60, s223_63, s223_64, s223_65, s223_66, s223_67, s223_69, s223_71, s223_73, s223_76, s223_79, s223_80, s223_83, s223_84, s223_86, s223_89, s223_92, s223_95, s223_98, s223_101, s223_104, s223_106]
  rw [Bool.true_and, bI_t] at L
  exact L
theorem x_M_isExchange (hn : m 1 0 = nI n) (hn6 : n ≤ 6) : ev (d + 6) 220 0 [.ref 0, .null, .null, .null, .null] [] (mk shM m q) = some (some (.int (bI (exM n (m 1)))), mk shM m q) := by
  have L := fun x0 => ev_and3 (fun p (x : Bool) (v : Value × Value) => ev (d + 6) 220 15 [.ref 0, .int (bI x), .int (nI p), v.1, v.2] [] (mk shM m q))
    (fun p r x v => ev (d + 6) 220 27 [.ref 0, .int (bI x), .int (nI p), .int (nI r), v.2] [] (mk shM m q))
    (fun p r s x v => ev (d + 6) 220 40 [.ref 0, .int (bI x), .int (nI p), .int (nI r), .int (nI s)] [] (mk shM m q))
    (fun x => some (some (.int (bI x)), mk shM m q)) (fun p r s => !baB (m 1) p r s || aeB n (m 1) p r s) n
    (fun x v => by rw [s220_15]; simp only [s220_0, s220_1, s220_4, s220_7, s220_8, s220_11, s220_12, s220_13, s220_14, s220_16, s220_17, s220_20, s220_23, s220_24, s220_25, s220_26, s220_28, s220_29, s220_32, s220_35, s220_36, s220_37, s220_38, s220_42, s220_43, s220_46, s220_49, s220_50, s220_53, s220_54, s220_55, s220_56, s220_58, s220_61, s220_64, s220_65, s220_66, s220_67, s220_69, s220_72, s220_75, s220_76, s220_79, s220_80, s220_81, s220_84, s220_87, s220_90, s220_93, s220_96, s220_99, s220_100, x_M_n, hn, Option.bind_some, Option.toList_some, Option.toList_none, List.nil_append, List.cons_append, nI_irr, if_false, bI_b])
    (fun p x v hp => ⟨v, by rw [s220_15]; simp only [s220_0, s220_1, s220_4, s220_7, s220_8, s220_11, s220_12, s220_13, s220_14, s220_16, s220_17, s220_20, s220_23, s220_24, s220_25, s220_26, s220_28, s220_29, s220_32, s220_35, s220_36, s220_37, s220_38, s220_42, s220_43, s220_46, s220_49, s220_50, s220_53, s220_54, s220_55, s220_56, s220_58, s220_61, s220_64, s220_65, s220_66, s220_67, s220_69, s220_72, s220_75, s220_76, s220_79, s220_80, s220_81, s220_84, s220_87, s220_90, s220_93, s220_96, s220_99, s220_100, x_M_n, hn, Option.bind_some, Option.toList_some, Option.toList_none, List.nil_append, List.cons_append, nI_lt hp (show n < 2 ^ 31 by omega), if_true, nI_add]⟩)
    (fun p x v hp => ⟨(.int (nI n), v.2), by rw [s220_27]; simp only [s220_0, s220_1, s220_4, s220_7, s220_8, s220_11, s220_12, s220_13, s220_14, s220_16, s220_17, s220_20, s220_23, s220_24, s220_25, s220_26, s220_28, s220_29, s220_32, s220_35, s220_36, s220_37, s220_38, s220_42, s220_43, s220_46, s220_49, s220_50, s220_53, s220_54, s220_55, s220_56, s220_58, s220_61, s220_64, s220_65, s220_66, s220_67, s220_69, s220_72, s220_75, s220_76, s220_79, s220_80, s220_81, s220_84, s220_87, s220_90, s220_93, s220_96, s220_99, s220_100, x_M_n, hn, Option.bind_some, Option.toList_some, Option.toList_none, List.nil_append, List.cons_append, nI_irr, if_false, nI_add]⟩)
    (fun p r x v hpr hr => ⟨v, by rw [s220_27]; simp only [s220_0, s220_1, s220_4, s220_7, s220_8, s220_11, s220_12, s220_13, s220_14, s220_16, s220_17, s220_20, s220_23, s220_24, s220_25, s220_26, s220_28, s220_29, s220_32, s220_35, s220_36, s220_37, s220_38, s220_42, s220_43, s220_46, s220_49, s220_50, s220_53, s220_54, s220_55, s220_56, s220_58, s220_61, s220_64, s220_65, s220_66, s220_67, s220_69, s220_72, s220_75, s220_76, s220_79, s220_80, s220_81, s220_84, s220_87, s220_90, s220_93, s220_96, s220_99, s220_100, x_M_n, hn, Option.bind_some, Option.toList_some, Option.toList_none, List.nil_append, List.cons_append, nI_lt hr (show n < 2 ^ 31 by omega), if_true, nI_add]⟩)
    (fun p r x v hpr hr => ⟨(v.1, .int (nI n)), by rw [s220_40]; simp only [s220_0, s220_1, s220_4, s220_7, s220_8, s220_11, s220_12, s220_13, s220_14, s220_16, s220_17, s220_20, s220_23, s220_24, s220_25, s220_26, s220_28, s220_29, s220_32, s220_35, s220_36, s220_37, s220_38, s220_42, s220_43, s220_46, s220_49, s220_50, s220_53, s220_54, s220_55, s220_56, s220_58, s220_61, s220_64, s220_65, s220_66, s220_67, s220_69, s220_72, s220_75, s220_76, s220_79, s220_80, s220_81, s220_84, s220_87, s220_90, s220_93, s220_96, s220_99, s220_100, x_M_n, hn, Option.bind_some, Option.toList_some, Option.toList_none, List.nil_append, List.cons_append, nI_irr, if_false, nI_add]⟩)
    (fun p r s v hpr hrs hs => ⟨(v.1, .int (nI s)), by rw [s220_40]; simp only [s220_0, s220_1, s220_4, s220_7, s220_8, s220_11, s220_12, s220_13, s220_14, s220_16, s220_17, s220_20, s220_23, s220_24, s220_25, s220_26, s220_28, s220_29, s220_32, s220_35, s220_36, s220_37, s220_38, s220_42, s220_43, s220_46, s220_49, s220_50, s220_53, s220_54, s220_55, s220_56, s220_58, s220_61, s220_64, s220_65, s220_66, s220_67, s220_69, s220_72, s220_75, s220_76, s220_79, s220_80, s220_81, s220_84, s220_87, s220_90, s220_93, s220_96, s220_99, s220_100, x_M_n, hn, Option.bind_some, Option.toList_some, Option.toList_none, List.nil_append, List.cons_append, nI_lt hs (show n < 2 ^ 31 by omega), if_true, bI_z, nI_add]⟩)
    (fun p r s v hpr hrs hs => ⟨v, by
      have ib := x_M_isBase (d := d + 3) (m := m) (q := q) (show p < 6 by omega) (show r < 6 by omega) (show s < 6 by omega)
      have ex := x_M_areExchangeable (d := d) (m := m) (q := q) hn hn6 (show p < 6 by omega) (show r < 6 by omega) (show s < 6 by omega)
      rw [s220_40]
      simp only [s220_0, s220_1, s220_4, s220_7, s220_8, s220_11, s220_12, s220_13, s220_14, s220_16, s220_17, s220_20, s220_23, s220_24, s220_25, s220_26, s220_28, s220_29, s220_32, s220_35, s220_36, s220_37, s220_38, s220_42, s220_43, s220_46, s220_49, s220_50, s220_53, s220_54, s220_55, s220_56, s220_58, s220_61, s220_64, s220_65, s220_66, s220_67, s220_69, s220_72, s220_75, s220_76, s220_79, s220_80, s220_81, s220_84, s220_87, s220_90, s220_93, s220_96, s220_99, s220_100, x_M_n, hn, Option.bind_some, Option.toList_some, Option.toList_none, List.nil_append, List.cons_append, nI_lt hs (show n < 2 ^ 31 by omega), if_true, bI_z, Bool.true_eq_false, if_false, ib]
      cases baB (m 1) p r s with
      | false => simp only [if_true, Bool.not_false, Bool.true_or, s220_0, s220_1, s220_4, s220_7, s220_8, s220_11, s220_12, s220_13, s220_14, s220_16, s220_17, s220_20, s220_23, s220_24, s220_25, s220_26, s220_28, s220_29, s220_32, s220_35, s220_36, s220_37, s220_38, s220_42, s220_43, s220_46, s220_49, s220_50, s220_53, s220_54, s220_55, s220_56, s220_58, s220_61, s220_64, s220_65, s220_66, s220_67, s220_69, s220_72, s220_75, s220_76, s220_79, s220_80, s220_81, s220_84, s220_87, s220_90, s220_93, s220_96, s220_99, s220_100, nI_add, bI_t]
      | true =>
        simp only [Bool.true_eq_false, if_false, Bool.not_true, Bool.false_or, s220_0, s220_1, s220_4, s220_7, s220_8, s220_11, s220_12, s220_13, s220_14, s220_16, s220_17, s220_20, s220_23, s220_24, s220_25, s220_26, s220_28, s220_29, s220_32, s220_35, s220_36, s220_37, s220_38, s220_42, s220_43, s220_46, s220_49, s220_50, s220_53, s220_54, s220_55, s220_56, s220_58, s220_61, s220_64, s220_65, s220_66, s220_67, s220_69, s220_72, s220_75, s220_76, s220_79, s220_80, s220_81, s220_84, s220_87, s220_90, s220_93, s220_96, s220_99, s220_100, ex, Option.bind_some, Option.toList_some, Option.toList_none, List.nil_append, List.cons_append, bI_z]
        cases aeB n (m 1) p r s <;> simp only [Bool.true_eq_false, if_true, if_false, s220_0, s220_1, s220_4, s220_7, s220_8, s220_11, s220_12, s220_13, s220_14, s220_16, s220_17, s220_20, s220_23, s220_24, s220_25, s220_26, s220_28, s220_29, s220_32, s220_35, s220_36, s220_37, s220_38, s220_42, s220_43, s220_46, s220_49, s220_50, s220_53, s220_54, s220_55, s220_56, s220_58, s220_61, s220_64, s220_65, s220_66, s220_67, s220_69, s220_72, s220_75, s220_76, s220_79, s220_80, s220_81, s220_84, s220_87, s220_90, s220_93, s220_96, s220_99, s220_100, nI_add, bI_t, bI_f]⟩) x0 (.null, .null)
  have bs := x_M_bases (d := d + 2) (m := m) (q := q) hn hn6
  have L' := L (decide (0 < bsM n (m 1)))
  unfold exM
  by_cases h0 : 0 < bsM n (m 1)
  · rw [decide_eq_true h0] at L' ⊢
    simp only [s220_0, s220_1, s220_4, s220_7, s220_8, s220_11, s220_12, s220_13, s220_14, s220_16, s220_17, s220_20, s220_23, s220_24, s220_25, s220_26, s220_28, s220_29, s220_32, s220_35, s220_36, s220_37, s220_38, s220_42, s220_43, s220_46, s220_49, s220_50, s220_53, s220_54, s220_55, s220_56, s220_58, s220_61, s220_64, s220_65, s220_66, s220_67, s220_69, s220_72, s220_75, s220_76, s220_79, s220_80, s220_81, s220_84, s220_87, s220_90, s220_93, s220_96, s220_99, s220_100, bs, Option.bind_some, Option.toList_some, Option.toList_none, List.nil_append, List.cons_append, h0, if_true]
    exact L'
  · rw [decide_eq_false h0] at L' ⊢
    simp only [s220_0, s220_1, s220_4, s220_7, s220_8, s220_11, s220_12, s220_13, s220_14, s220_16, s220_17, s220_20, s220_23, s220_24, s220_25, s220_26, s220_28, s220_29, s220_32, s220_35, s220_36, s220_37, s220_38, s220_42, s220_43, s220_46, s220_49, s220_50, s220_53, s220_54, s220_55, s220_56, s220_58, s220_61, s220_64, s220_65, s220_66, s220_67, s220_69, s220_72, s220_75, s220_76, s220_79, s220_80, s220_81, s220_84, s220_87, s220_90, s220_93, s220_96, s220_99, s220_100, bs, Option.bind_some, Option.toList_some, Option.toList_none, List.nil_append, List.cons_append, h0, if_false]
    exact L'
end
