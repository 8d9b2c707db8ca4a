/-! the text: point, flip, swap, draw -/
def rvP (G : Nat → Int32) (t : Nat) : Nat → Int32 := pt3 G t (-(G (t * 3))) (-(G (t * 3 + 1))) (-(G (t * 3 + 2)))
def tdP (G : Nat → Int32) (t u : Nat) : Nat → Int32 := pt3 (pt3 G t (G (u * 3)) (G (u * 3 + 1)) (G (u * 3 + 2))) u (G (t * 3)) (G (t * 3 + 1)) (G (t * 3 + 2))
abbrev TK : Type := Nat × Nat
def sFl (n : Nat) (F G : Nat → Int32) (z : TK) (v : Int32) : Bool × PS := (false, n, F, G, z.1, z.2, v)
def cPt3 (f : Nat → Nat) (L n : Nat) (F G : Nat → Int32) (k : Nat) (x y : Int32) (z : TK) : Bool × PS := match rdC f L z.1 z.2 with
  | none => sFl n F G (mnT f L z.1 z.2) y
  | some w => (true, n, F, pt3 G k x y w, (rdE f L z.1 z.2).1, (rdE f L z.1 z.2).2, w)
def cPt2 (f : Nat → Nat) (L n : Nat) (F G : Nat → Int32) (k : Nat) (x : Int32) (z : TK) : Bool × PS := match rdC f L z.1 z.2 with
  | none => sFl n F G (mnT f L z.1 z.2) x
  | some y => cPt3 f L n F G k x y (rdE f L z.1 z.2)
def cPt1 (f : Nat → Nat) (L n : Nat) (F G : Nat → Int32) (k : Nat) (z : TK) : Bool × PS := match rdC f L z.1 z.2 with
  | none => sFl n F G (mnT f L z.1 z.2) (nI k)
  | some x => cPt2 f L n F G k x (rdE f L z.1 z.2)
def cPt (f : Nat → Nat) (L n : Nat) (F G : Nat → Int32) (e : Nat) (v : Int32) : Bool × PS := match rdN f L (tok f L e).1 (tok f L e).2 0 (n - 1) with
  | none => sFl n F G (tok f L e) v
  | some k => cPt1 f L n F G k (tok f L (tok f L e).2)
def cFl (f : Nat → Nat) (L n : Nat) (F G : Nat → Int32) (e : Nat) (v : Int32) : Bool × PS := match rdN f L (tok f L e).1 (tok f L e).2 0 (n - 1) with
  | none => sFl n F G (tok f L e) v
  | some k => (true, n, (rvs n k F).1, rvP G k, (tok f L (tok f L e).2).1, (tok f L (tok f L e).2).2, nI k)
def cSw2 (f : Nat → Nat) (L n : Nat) (F G : Nat → Int32) (k : Nat) (z : TK) : Bool × PS := match rdN f L z.1 z.2 0 (n - 1) with
  | none => sFl n F G z (nI k)
  | some j => if j = k then sFl n F G z (nI j) else (true, n, (trd n k j F).1, tdP G k j, (tok f L z.2).1, (tok f L z.2).2, nI j)
def cSw (f : Nat → Nat) (L n : Nat) (F G : Nat → Int32) (e : Nat) (v : Int32) : Bool × PS := match rdN f L (tok f L e).1 (tok f L e).2 0 (n - 1) with
  | none => sFl n F G (tok f L e) v
  | some k => cSw2 f L n F G k (tok f L (tok f L e).2)
def cDr (f : Nat → Nat) (L n : Nat) (F G : Nat → Int32) (b e : Nat) (v : Int32) : Bool × PS := if wrd f 4 b e = true then (true, n, (tkt n G F).1, G, (tok f L e).1, (tok f L e).2, v) else sFl n F G (b, e) v
section
variable {d n b e c L lo hi : Nat} {v : Int32} {F G : Nat → Int32} {f : Nat → Nat} {m : Mem} {q : MemJ}
theorem x_T_rev {t : Nat} (hn6 : n ≤ 6) (ht : t < n) : ev (d + 2) 38 0 [.ref 4, .int (nI t), .null, .null, .null] [] (mk shC (pH m n F G b e v c) q) = some (some (.int (rvs n t F).2), mk shC (pH m n (rvs n t F).1 (rvP G t) b e v c) q) :=
  (x_A_reverse oC0_4 pH_4 hn6 ht).trans (by simp only [q451, q462, pH_5, pH_6, pH_mu6, pH_mu5]; rfl)
theorem x_T_trd {t u : Nat} (hn6 : n ≤ 6) (ht : t < n) (hu : u < n) : ev (d + 3) 42 0 [.ref 4, .int (nI t), .int (nI u), .null, .null, .null] [] (mk shC (pH m n F G b e v c) q) = some (some (.int (trd n t u F).2), mk shC (pH m n (trd n t u F).1 (tdP G t u) b e v c) q) :=
  (x_A_trade oC0_4 pH_4 hn6 ht hu).trans (by simp only [q451, q462, pH_5, pH_6, pH_mu6, pH_mu5]; rfl)
theorem x_T_tkt (hn6 : n ≤ 6) : ev (d + 3) 46 0 [.ref 4, .null, .null, .null, .null, .null] [] (mk shC (pH m n F G b e v c) q) = some (some (.int (tkt n G F).2), mk shC (pH m n (tkt n G F).1 G b e v c) q) :=
  (x_A_takeTurns oC0_4 pH_4 hn6).trans (by simp only [q451, q462, pH_5, pH_6, pH_mu5])
theorem x_T_gvp {t : Nat} {x y z : Int32} (ht : t < 6) : ev d 3 0 [.ref 4, .int (nI t), .int x, .int y, .int z] [] (mk shC (pH m n F G b e v c) q) = some (none, mk shC (pH m n F (pt3 G t x y z) b e v c) q) :=
  (x_A_givePoint oC0_4 ht).trans (by simp only [q462, pH_6, pH_mu6])
theorem x_T_siz : ev d 35 0 [.ref 4] [] (mk shC (pH m n F G b e v c) q) = some (some (.int (nI n)), mk shC (pH m n F G b e v c) q) :=
  (x_A_size oC0_4).trans (by simp only [pH_4])
theorem x_T_readFlip (hL : Ltr m f L) (he : e ≤ L) (hn : 1 ≤ n) (hn6 : n ≤ 6) : ev (d + 3) 37 0 [.ref 41, .ref 4] [] (mk shC (pH m n F G b e v c) q) = some (some (.int (bI (cFl f L n F G e v).1)), mk shC (pS m c (cFl f L n F G e v).2) q) := by
  have t1 := tok_isTk (f := f) he
  simp only [s37_0, s37_1, s37_4, s37_5, s37_6, s37_7, s37_10, s37_11, s37_12, s37_15, s37_18, s37_19, s37_20, s37_21, s37_22, s37_25, s37_28, s37_29, s37_30, x_T_nextToken hL he, Option.bind_some, Option.toList_some, Option.toList_none, List.nil_append, List.cons_append, oC0_4, x_T_siz, nI_sub hn, x_T_readNumber hL t1 (show 0 < 1000 by decide) (show n - 1 < 1000 by omega)]
  unfold cFl
  generalize tok f L e = z at t1 ⊢
  cases hr : rdN f L z.1 z.2 0 (n - 1) with
  | none => simp only [s37_0, s37_1, s37_4, s37_5, s37_6, s37_7, s37_10, s37_11, s37_12, s37_15, s37_18, s37_19, s37_20, s37_21, s37_22, s37_25, s37_28, s37_29, s37_30, Option.bind_some, Option.toList_some, Option.toList_none, List.nil_append, List.cons_append, nI00, not_true, if_true, if_false, am_b0, bI_f, pS, sFl]
  | some k =>
    have hk := rdN_le hr
    simp only [s37_0, s37_1, s37_4, s37_5, s37_6, s37_7, s37_10, s37_11, s37_12, s37_15, s37_18, s37_19, s37_20, s37_21, s37_22, s37_25, s37_28, s37_29, s37_30, Option.bind_some, Option.toList_some, Option.toList_none, List.nil_append, List.cons_append, nI10, not_false_eq_true, if_true, if_false, pH_v, oC0_4, x_T_rev hn6 (show k < n by omega), am_b1, bI_t, pS]
theorem x_T_readSwap (hL : Ltr m f L) (he : e ≤ L) (hn : 1 ≤ n) (hn6 : n ≤ 6) : ev (d + 4) 41 0 [.ref 41, .ref 4, .null, .null, .null] [] (mk shC (pH m n F G b e v c) q) = some (some (.int (bI (cSw f L n F G e v).1)), mk shC (pS m c (cSw f L n F G e v).2) q) := by
  have t1 := tok_isTk (f := f) he
  simp only [s41_0, s41_1, s41_4, s41_5, s41_6, s41_7, s41_10, s41_11, s41_12, s41_15, s41_18, s41_19, s41_20, s41_21, s41_24, s41_25, s41_26, s41_29, s41_30, s41_31, s41_34, s41_36, s41_37, s41_38, s41_39, s41_42, s41_43, s41_44, s41_47, s41_50, s41_51, s41_52, s41_53, s41_56, s41_57, s41_60, s41_61, s41_62, s41_65, s41_66, s41_68, s41_71, s41_72, s41_73, s41_74, s41_75, s41_76, s41_79, s41_82, s41_83, s41_84, x_T_nextToken hL he, Option.bind_some, Option.toList_some, Option.toList_none, List.nil_append, List.cons_append, oC0_4, x_T_siz, nI_sub hn, x_T_readNumber hL t1 (show 0 < 1000 by decide) (show n - 1 < 1000 by omega)]
  unfold cSw
  generalize tok f L e = z at t1 ⊢
  cases hr : rdN f L z.1 z.2 0 (n - 1) with
  | none => simp only [s41_0, s41_1, s41_4, s41_5, s41_6, s41_7, s41_10, s41_11, s41_12, s41_15, s41_18, s41_19, s41_20, s41_21, s41_24, s41_25, s41_26, s41_29, s41_30, s41_31, s41_34, s41_36, s41_37, s41_38, s41_39, s41_42, s41_43, s41_44, s41_47, s41_50, s41_51, s41_52, s41_53, s41_56, s41_57, s41_60, s41_61, s41_62, s41_65, s41_66, s41_68, s41_71, s41_72, s41_73, s41_74, s41_75, s41_76, s41_79, s41_82, s41_83, s41_84, Option.bind_some, Option.toList_some, Option.toList_none, List.nil_append, List.cons_append, nI00, not_true, if_true, if_false, am_b0, bI_f, pS, sFl]
  | some k =>
    have hk := rdN_le hr
    have t2 := tok_isTk (f := f) t1.2.1
    dsimp only
    generalize tok f L z.2 = y at t2 ⊢
    simp only [s41_0, s41_1, s41_4, s41_5, s41_6, s41_7, s41_10, s41_11, s41_12, s41_15, s41_18, s41_19, s41_20, s41_21, s41_24, s41_25, s41_26, s41_29, s41_30, s41_31, s41_34, s41_36, s41_37, s41_38, s41_39, s41_42, s41_43, s41_44, s41_47, s41_50, s41_51, s41_52, s41_53, s41_56, s41_57, s41_60, s41_61, s41_62, s41_65, s41_66, s41_68, s41_71, s41_72, s41_73, s41_74, s41_75, s41_76, s41_79, s41_82, s41_83, s41_84, Option.bind_some, Option.toList_some, Option.toList_none, List.nil_append, List.cons_append, nI10, not_false_eq_true, if_true, if_false, pH_v, pH_b, pH_e, oC0_4, x_T_siz, nI_sub hn, x_T_readNumber hL t2 (show 0 < 1000 by decide) (show n - 1 < 1000 by omega)]
    unfold cSw2
    cases hr2 : rdN f L y.1 y.2 0 (n - 1) with
    | none => simp only [s41_0, s41_1, s41_4, s41_5, s41_6, s41_7, s41_10, s41_11, s41_12, s41_15, s41_18, s41_19, s41_20, s41_21, s41_24, s41_25, s41_26, s41_29, s41_30, s41_31, s41_34, s41_36, s41_37, s41_38, s41_39, s41_42, s41_43, s41_44, s41_47, s41_50, s41_51, s41_52, s41_53, s41_56, s41_57, s41_60, s41_61, s41_62, s41_65, s41_66, s41_68, s41_71, s41_72, s41_73, s41_74, s41_75, s41_76, s41_79, s41_82, s41_83, s41_84, Option.bind_some, Option.toList_some, Option.toList_none, List.nil_append, List.cons_append, nI00, not_true, if_true, if_false, am_b0, bI_f, pS, sFl]
    | some j =>
      have hj := rdN_le hr2
      simp only [s41_0, s41_1, s41_4, s41_5, s41_6, s41_7, s41_10, s41_11, s41_12, s41_15, s41_18, s41_19, s41_20, s41_21, s41_24, s41_25, s41_26, s41_29, s41_30, s41_31, s41_34, s41_36, s41_37, s41_38, s41_39, s41_42, s41_43, s41_44, s41_47, s41_50, s41_51, s41_52, s41_53, s41_56, s41_57, s41_60, s41_61, s41_62, s41_65, s41_66, s41_68, s41_71, s41_72, s41_73, s41_74, s41_75, s41_76, s41_79, s41_82, s41_83, s41_84, Option.bind_some, Option.toList_some, Option.toList_none, List.nil_append, List.cons_append, nI10, not_false_eq_true, if_true, if_false, pH_v, oC0_4, nI_eq (show j < 2 ^ 31 by omega) (show k < 2 ^ 31 by omega), pH_mub, pH_mue, am_b0, am_b1, x_T_trd hn6 (show k < n by omega) (show j < n by omega)]
      by_cases h : j = k
      · simp only [h, not_true, if_true, if_false, sFl, bI_f, pS]
      · simp only [h, not_false_eq_true, if_true, if_false, bI_t, pS]
theorem x_T_readDraw (hL : Ltr m f L) (ht : isTk f L b e) (hn6 : n ≤ 6) : ev (d + 6) 45 0 [.ref 41, .ref 4] [] (mk shC (pH m n F G b e v c) q) = some (some (.int (bI (cDr f L n F G b e v).1)), mk shC (pS m c (cDr f L n F G b e v).2) q) := by
  simp only [s45_0, s45_1, s45_3, s45_6, s45_9, s45_10, s45_11, s45_12, s45_15, s45_16, s45_19, s45_20, s45_21, x_T_isWord hL ht (show 4 < 5 by decide), Option.bind_some, Option.toList_some, Option.toList_none, List.nil_append, List.cons_append, bI_z]
  unfold cDr
  cases wrd f 4 b e with
  | false => simp only [Bool.false_eq_true, not_true, if_true, if_false, am_b0, bI_f, pS, sFl, s45_0, s45_1, s45_3, s45_6, s45_9, s45_10, s45_11, s45_12, s45_15, s45_16, s45_19, s45_20, s45_21]
  | true => simp only [Bool.true_eq_false, not_false_eq_true, if_true, if_false, s45_0, s45_1, s45_3, s45_6, s45_9, s45_10, s45_11, s45_12, s45_15, s45_16, s45_19, s45_20, s45_21, x_T_nextToken hL ht.2.1, Option.bind_some, Option.toList_some, Option.toList_none, List.nil_append, List.cons_append, oC0_4, x_T_tkt hn6, am_b1, bI_t, pS]
theorem x_T_readPoint (hL : Ltr m f L) (he : e ≤ L) (hn : 1 ≤ n) (hn6 : n ≤ 6) : ev (d + 4) 34 0 [.ref 41, .ref 4, .null, .null, .null] [] (mk shC (pH m n F G b e v c) q) = some (some (.int (bI (cPt f L n F G e v).1)), mk shC (pS m c (cPt f L n F G e v).2) q) := by
  have t1 := tok_isTk (f := f) he
  simp only [s34_0, s34_1, s34_4, s34_5, s34_6, s34_7, s34_10, s34_11, s34_12, s34_15, s34_18, s34_19, s34_20, s34_21, s34_24, s34_25, s34_26, s34_29, s34_32, s34_33, s34_34, s34_35, s34_38, s34_39, s34_40, s34_43, s34_46, s34_47, s34_48, s34_49, s34_52, s34_54, s34_55, s34_58, s34_61, s34_62, s34_63, s34_64, s34_65, s34_66, s34_68, s34_69, s34_72, s34_75, s34_76, x_T_nextToken hL he, Option.bind_some, Option.toList_some, Option.toList_none, List.nil_append, List.cons_append, oC0_4, x_T_siz, nI_sub hn, x_T_readNumber hL t1 (show 0 < 1000 by decide) (show n - 1 < 1000 by omega)]
  unfold cPt
  generalize tok f L e = z at t1 ⊢
  cases hr : rdN f L z.1 z.2 0 (n - 1) with
  | none => simp only [s34_0, s34_1, s34_4, s34_5, s34_6, s34_7, s34_10, s34_11, s34_12, s34_15, s34_18, s34_19, s34_20, s34_21, s34_24, s34_25, s34_26, s34_29, s34_32, s34_33, s34_34, s34_35, s34_38, s34_39, s34_40, s34_43, s34_46, s34_47, s34_48, s34_49, s34_52, s34_54, s34_55, s34_58, s34_61, s34_62, s34_63, s34_64, s34_65, s34_66, s34_68, s34_69, s34_72, s34_75, s34_76, Option.bind_some, Option.toList_some, Option.toList_none, List.nil_append, List.cons_append, nI00, not_true, if_true, if_false, am_b0, bI_f, pS, sFl]
  | some k =>
    have hk := rdN_le hr
    have t2 := tok_isTk (f := f) t1.2.1
    dsimp only
    generalize tok f L z.2 = y at t2 ⊢
    simp only [s34_0, s34_1, s34_4, s34_5, s34_6, s34_7, s34_10, s34_11, s34_12, s34_15, s34_18, s34_19, s34_20, s34_21, s34_24, s34_25, s34_26, s34_29, s34_32, s34_33, s34_34, s34_35, s34_38, s34_39, s34_40, s34_43, s34_46, s34_47, s34_48, s34_49, s34_52, s34_54, s34_55, s34_58, s34_61, s34_62, s34_63, s34_64, s34_65, s34_66, s34_68, s34_69, s34_72, s34_75, s34_76, Option.bind_some, Option.toList_some, Option.toList_none, List.nil_append, List.cons_append, nI10, not_false_eq_true, if_true, if_false, pH_v, x_T_readCoordinate hL t2]
    unfold cPt1
    cases rdC f L y.1 y.2 with
    | none => simp only [s34_0, s34_1, s34_4, s34_5, s34_6, s34_7, s34_10, s34_11, s34_12, s34_15, s34_18, s34_19, s34_20, s34_21, s34_24, s34_25, s34_26, s34_29, s34_32, s34_33, s34_34, s34_35, s34_38, s34_39, s34_40, s34_43, s34_46, s34_47, s34_48, s34_49, s34_52, s34_54, s34_55, s34_58, s34_61, s34_62, s34_63, s34_64, s34_65, s34_66, s34_68, s34_69, s34_72, s34_75, s34_76, Option.bind_some, Option.toList_some, Option.toList_none, List.nil_append, List.cons_append, nI00, not_true, if_true, if_false, am_b0, bI_f, pS, sFl]
    | some x1 =>
      have t3 := rdE_isTk t2
      dsimp only
      generalize rdE f L y.1 y.2 = y2 at t3 ⊢
      simp only [s34_0, s34_1, s34_4, s34_5, s34_6, s34_7, s34_10, s34_11, s34_12, s34_15, s34_18, s34_19, s34_20, s34_21, s34_24, s34_25, s34_26, s34_29, s34_32, s34_33, s34_34, s34_35, s34_38, s34_39, s34_40, s34_43, s34_46, s34_47, s34_48, s34_49, s34_52, s34_54, s34_55, s34_58, s34_61, s34_62, s34_63, s34_64, s34_65, s34_66, s34_68, s34_69, s34_72, s34_75, s34_76, Option.bind_some, Option.toList_some, Option.toList_none, List.nil_append, List.cons_append, nI10, not_false_eq_true, if_true, if_false, pH_v, x_T_readCoordinate hL t3]
      unfold cPt2
      cases rdC f L y2.1 y2.2 with
      | none => simp only [s34_0, s34_1, s34_4, s34_5, s34_6, s34_7, s34_10, s34_11, s34_12, s34_15, s34_18, s34_19, s34_20, s34_21, s34_24, s34_25, s34_26, s34_29, s34_32, s34_33, s34_34, s34_35, s34_38, s34_39, s34_40, s34_43, s34_46, s34_47, s34_48, s34_49, s34_52, s34_54, s34_55, s34_58, s34_61, s34_62, s34_63, s34_64, s34_65, s34_66, s34_68, s34_69, s34_72, s34_75, s34_76, Option.bind_some, Option.toList_some, Option.toList_none, List.nil_append, List.cons_append, nI00, not_true, if_true, if_false, am_b0, bI_f, pS, sFl]
      | some x2 =>
        have t4 := rdE_isTk t3
        dsimp only
        generalize rdE f L y2.1 y2.2 = y3 at t4 ⊢
        simp only [s34_0, s34_1, s34_4, s34_5, s34_6, s34_7, s34_10, s34_11, s34_12, s34_15, s34_18, s34_19, s34_20, s34_21, s34_24, s34_25, s34_26, s34_29, s34_32, s34_33, s34_34, s34_35, s34_38, s34_39, s34_40, s34_43, s34_46, s34_47, s34_48, s34_49, s34_52, s34_54, s34_55, s34_58, s34_61, s34_62, s34_63, s34_64, s34_65, s34_66, s34_68, s34_69, s34_72, s34_75, s34_76, Option.bind_some, Option.toList_some, Option.toList_none, List.nil_append, List.cons_append, nI10, not_false_eq_true, if_true, if_false, pH_v, x_T_readCoordinate hL t4]
        unfold cPt3
        cases rdC f L y3.1 y3.2 with
        | none => simp only [s34_0, s34_1, s34_4, s34_5, s34_6, s34_7, s34_10, s34_11, s34_12, s34_15, s34_18, s34_19, s34_20, s34_21, s34_24, s34_25, s34_26, s34_29, s34_32, s34_33, s34_34, s34_35, s34_38, s34_39, s34_40, s34_43, s34_46, s34_47, s34_48, s34_49, s34_52, s34_54, s34_55, s34_58, s34_61, s34_62, s34_63, s34_64, s34_65, s34_66, s34_68, s34_69, s34_72, s34_75, s34_76, Option.bind_some, Option.toList_some, Option.toList_none, List.nil_append, List.cons_append, nI00, not_true, if_true, if_false, am_b0, bI_f, pS, sFl]
        | some x3 =>
          simp only [s34_0, s34_1, s34_4, s34_5, s34_6, s34_7, s34_10, s34_11, s34_12, s34_15, s34_18, s34_19, s34_20, s34_21, s34_24, s34_25, s34_26, s34_29, s34_32, s34_33, s34_34, s34_35, s34_38, s34_39, s34_40, s34_43, s34_46, s34_47, s34_48, s34_49, s34_52, s34_54, s34_55, s34_58, s34_61, s34_62, s34_63, s34_64, s34_65, s34_66, s34_68, s34_69, s34_72, s34_75, s34_76, Option.bind_some, Option.toList_some, Option.toList_none, List.nil_append, List.cons_append, nI10, not_false_eq_true, if_true, if_false, pH_v, oC0_4, x_T_gvp (show k < 6 by omega), am_b1, bI_t, pS]
end
