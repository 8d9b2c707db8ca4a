/-! mutations and extensions, from the present arrangement -/
theorem sg6_za {F : Nat → Int32} {a b c : Nat} {v : Int32} (h : zaF F 216) (ha : a < 6) (hb : b < 6) (hc : c < 6) : zaF (sg6 F a b c v) 216 := fun i hi => by
  simp only [sg6, upd]
  rw [if_neg (by omega), if_neg (by omega), if_neg (by omega), if_neg (by omega), if_neg (by omega), if_neg (by omega)]
  exact h i hi
theorem wyO_za {n : Nat} (hn : n < 6) : ∀ {f a b : Nat} {F : Nat → Int32}, zaF F 216 → zaF (wyO n f a b F).2 216
  | 0, _, _, _, h => h
  | f + 1, a, b, F, h => by
    unfold wyO
    split
    · exact h
    · have S : ∀ x s, zaF x.2 216 → zaF (wyS n a b (wyO n f) x s).2 216 := fun x s hx => by
        have hg := sg6_za (v := s) hx (show a < 6 by omega) (show b < 6 by omega) hn
        unfold wyS
        split
        · exact wyO_za hn hg
        · split
          · exact wyO_za hn hg
          · exact hg
      exact S _ _ (S _ _ (S _ _ h))
section
variable {d n : Nat} {m : Mem} {q : MemJ}
theorem x_O_mutations (hn : m 1 0 = nI n) (hn6 : n ≤ 6) (hal : alF (m 2)) (h2 : zaF (m 2) 216) (h3 : zaF (m 3) 18) (h66 : zaF (m 66) 216) (h67 : zaF (m 67) 18) : ∃ m', ev (d + 8) 130 0 [.ref 64, .ref 1, .null, .null, .null, .null, .null] [] (mk shC m q) = some (some (.int (nI (muS n (m 2)).1)), mk shC m' q) ∧ fr [65, 66, 67] m m' ∧ m' 66 = m 2 ∧ m' 67 = m 3 := by
  have cp := x_A_copy' (d := d + 2) (m := m) (q := q) oC0_65 oC0_1
  rw [cpA_eq (k := 65) (j := 1) h2 h3 h66 h67, show (65 + 1 : Nat) = 66 from rfl, show (65 + 2 : Nat) = 67 from rfl, show (1 + 1 : Nat) = 2 from rfl, show (1 + 2 : Nat) = 3 from rfl] at cp
  generalize hm1 : mu (mu (mu m 65 (upd (m 65) 0 (m 1 0))) 66 (m 2)) 67 (m 3) = m1 at cp
  have g0 : m1 65 0 = nI n := by rw [← hm1, mu_ne (by decide), mu_ne (by decide), mu_same]; simp [upd, hn]
  have g6 : m1 66 = m 2 := by rw [← hm1, mu_ne (by decide), mu_same]
  have g7 : m1 67 = m 3 := by rw [← hm1, mu_same]
  have gf : fr [65, 66, 67] m m1 := fun c hc => by
    simp only [List.mem_cons, List.not_mem_nil, or_false, not_or] at hc
    rw [← hm1, mu_ne hc.2.2, mu_ne hc.2.1, mu_ne hc.1]
  have g1 : m1 1 0 = nI n := by rw [gf 1 (by decide)]; exact hn
  have hal1 : alF (m1 66) := by rw [g6]; exact hal
  refine ⟨m1, ?_, gf, g6, g7⟩
  have A := ev_for3 (fun _ => True) (fun a (x : Nat × Nat) (v : Value × Value) => ev (d + 8) 130 15 [.ref 64, .ref 1, .int (nI x.1), .int (nI x.2), .int (nI a), v.1, v.2] [] (mk shC m1 q))
    (fun a b x v => ev (d + 8) 130 30 [.ref 64, .ref 1, .int (nI x.1), .int (nI x.2), .int (nI a), .int (nI b), v.2] [] (mk shC m1 q))
    (fun a b c x _ => ev (d + 8) 130 45 [.ref 64, .ref 1, .int (nI x.1), .int (nI x.2), .int (nI a), .int (nI b), .int (nI c)] [] (mk shC m1 q))
    (fun x => some (some (.int (nI x.1)), mk shC m1 q)) (fun a b c x => (if muB n (m1 66) a b c = true then x.1 ||| 2 ^ (x.2 % 32) else x.1, x.2 + 1)) n
    (fun x v _ => by
      rw [s130_15]
      simp only [s130_0, s130_1, s130_4, s130_5, s130_8, s130_9, s130_10, s130_11, s130_12, s130_13, s130_17, s130_18, s130_21, s130_24, s130_26, s130_27, s130_28, s130_32, s130_33, s130_36, s130_39, s130_41, s130_42, s130_43, s130_47, s130_48, s130_51, s130_54, s130_55, s130_56, s130_58, s130_60, s130_62, s130_65, s130_68, s130_69, s130_70, s130_71, s130_74, s130_75, s130_76, s130_77, s130_80, s130_83, s130_86, s130_89, s130_92, s130_95, s130_98, s130_99, oC0_1, x_A_size oC0_1, g1, Option.bind_some, Option.toList_some, Option.toList_none, List.nil_append, List.cons_append, nI_irr, if_false])
    (fun a x v ha _ => ⟨v, by
      rw [s130_15]
      simp only [s130_0, s130_1, s130_4, s130_5, s130_8, s130_9, s130_10, s130_11, s130_12, s130_13, s130_17, s130_18, s130_21, s130_24, s130_26, s130_27, s130_28, s130_32, s130_33, s130_36, s130_39, s130_41, s130_42, s130_43, s130_47, s130_48, s130_51, s130_54, s130_55, s130_56, s130_58, s130_60, s130_62, s130_65, s130_68, s130_69, s130_70, s130_71, s130_74, s130_75, s130_76, s130_77, s130_80, s130_83, s130_86, s130_89, s130_92, s130_95, s130_98, s130_99, oC0_1, x_A_size oC0_1, g1, Option.bind_some, Option.toList_some, Option.toList_none, List.nil_append, List.cons_append, nI_lt ha (show n < 2 ^ 31 by omega), if_true, nI_add]⟩)
    (fun a x v ha _ => ⟨(.int (nI n), v.2), by
      rw [s130_30]
      simp only [s130_0, s130_1, s130_4, s130_5, s130_8, s130_9, s130_10, s130_11, s130_12, s130_13, s130_17, s130_18, s130_21, s130_24, s130_26, s130_27, s130_28, s130_32, s130_33, s130_36, s130_39, s130_41, s130_42, s130_43, s130_47, s130_48, s130_51, s130_54, s130_55, s130_56, s130_58, s130_60, s130_62, s130_65, s130_68, s130_69, s130_70, s130_71, s130_74, s130_75, s130_76, s130_77, s130_80, s130_83, s130_86, s130_89, s130_92, s130_95, s130_98, s130_99, oC0_1, x_A_size oC0_1, g1, Option.bind_some, Option.toList_some, Option.toList_none, List.nil_append, List.cons_append, nI_irr, if_false, nI_add]⟩)
    (fun a b x v hab hb _ => ⟨v, by
      rw [s130_30]
      simp only [s130_0, s130_1, s130_4, s130_5, s130_8, s130_9, s130_10, s130_11, s130_12, s130_13, s130_17, s130_18, s130_21, s130_24, s130_26, s130_27, s130_28, s130_32, s130_33, s130_36, s130_39, s130_41, s130_42, s130_43, s130_47, s130_48, s130_51, s130_54, s130_55, s130_56, s130_58, s130_60, s130_62, s130_65, s130_68, s130_69, s130_70, s130_71, s130_74, s130_75, s130_76, s130_77, s130_80, s130_83, s130_86, s130_89, s130_92, s130_95, s130_98, s130_99, oC0_1, x_A_size oC0_1, g1, Option.bind_some, Option.toList_some, Option.toList_none, List.nil_append, List.cons_append, nI_lt hb (show n < 2 ^ 31 by omega), if_true, nI_add]⟩)
    (fun a b x v hab hb _ => ⟨(v.1, .int (nI n)), by
      rw [s130_45]
      simp only [s130_0, s130_1, s130_4, s130_5, s130_8, s130_9, s130_10, s130_11, s130_12, s130_13, s130_17, s130_18, s130_21, s130_24, s130_26, s130_27, s130_28, s130_32, s130_33, s130_36, s130_39, s130_41, s130_42, s130_43, s130_47, s130_48, s130_51, s130_54, s130_55, s130_56, s130_58, s130_60, s130_62, s130_65, s130_68, s130_69, s130_70, s130_71, s130_74, s130_75, s130_76, s130_77, s130_80, s130_83, s130_86, s130_89, s130_92, s130_95, s130_98, s130_99, oC0_1, x_A_size oC0_1, g1, Option.bind_some, Option.toList_some, Option.toList_none, List.nil_append, List.cons_append, nI_irr, if_false, nI_add]⟩)
    (fun _ _ _ _ _ _ _ _ => trivial)
    (fun a b c x v hab hbc hc _ => ⟨v, by
      have X := x_O_isMutation (d := d) (q := q) g0 hn6 hal1 hab hbc hc
      rw [s130_45]
      simp only [s130_0, s130_1, s130_4, s130_5, s130_8, s130_9, s130_10, s130_11, s130_12, s130_13, s130_17, s130_18, s130_21, s130_24, s130_26, s130_27, s130_28, s130_32, s130_33, s130_36, s130_39, s130_41, s130_42, s130_43, s130_47, s130_48, s130_51, s130_54, s130_55, s130_56, s130_58, s130_60, s130_62, s130_65, s130_68, s130_69, s130_70, s130_71, s130_74, s130_75, s130_76, s130_77, s130_80, s130_83, s130_86, s130_89, s130_92, s130_95, s130_98, s130_99, oC0_1, x_A_size oC0_1, g1, Option.bind_some, Option.toList_some, Option.toList_none, List.nil_append, List.cons_append, nI_lt hc (show n < 2 ^ 31 by omega), if_true, X, bI_z, nI_shl', nI_or, Nat.one_mul, nI_add]
      cases muB n (m1 66) a b c with
      | true => simp only [Bool.true_eq_false, if_false, if_true, s130_0, s130_1, s130_4, s130_5, s130_8, s130_9, s130_10, s130_11, s130_12, s130_13, s130_17, s130_18, s130_21, s130_24, s130_26, s130_27, s130_28, s130_32, s130_33, s130_36, s130_39, s130_41, s130_42, s130_43, s130_47, s130_48, s130_51, s130_54, s130_55, s130_56, s130_58, s130_60, s130_62, s130_65, s130_68, s130_69, s130_70, s130_71, s130_74, s130_75, s130_76, s130_77, s130_80, s130_83, s130_86, s130_89, s130_92, s130_95, s130_98, s130_99, nI_or, nI_add]
      | false => simp only [Bool.false_eq_true, if_false, if_true, s130_0, s130_1, s130_4, s130_5, s130_8, s130_9, s130_10, s130_11, s130_12, s130_13, s130_17, s130_18, s130_21, s130_24, s130_26, s130_27, s130_28, s130_32, s130_33, s130_36, s130_39, s130_41, s130_42, s130_43, s130_47, s130_48, s130_51, s130_54, s130_55, s130_56, s130_58, s130_60, s130_62, s130_65, s130_68, s130_69, s130_70, s130_71, s130_74, s130_75, s130_76, s130_77, s130_80, s130_83, s130_86, s130_89, s130_92, s130_95, s130_98, s130_99, nI_or, Nat.or_zero, nI_add]⟩) (0, 0) (.null, .null) trivial
  simp only [s130_0, s130_1, s130_4, s130_5, s130_8, s130_9, s130_10, s130_11, s130_12, s130_13, s130_17, s130_18, s130_21, s130_24, s130_26, s130_27, s130_28, s130_32, s130_33, s130_36, s130_39, s130_41, s130_42, s130_43, s130_47, s130_48, s130_51, s130_54, s130_55, s130_56, s130_58, s130_60, s130_62, s130_65, s130_68, s130_69, s130_70, s130_71, s130_74, s130_75, s130_76, s130_77, s130_80, s130_83, s130_86, s130_89, s130_92, s130_95, s130_98, s130_99, oC0_65, oC0_1, cp, Option.bind_some, Option.toList_some, Option.toList_none, List.nil_append, List.cons_append]
  rw [g6] at A
  exact A
def exO4 (n : Nat) (F : Nat → Int32) : Int32 := if 4 < n then nI 0 else (wyO n 64 0 1 F).1
theorem x_O_extensionWays (hn : m 1 0 = nI n) (hn3 : 3 ≤ n) (hn6 : n ≤ 6) (h2 : zaF (m 2) 216) (h3 : zaF (m 3) 18) (h66 : zaF (m 66) 216) (h67 : zaF (m 67) 18) : ∃ m', ev (d + 73) 134 0 [.ref 64, .ref 1, .ref 44] [] (mk shC m q) = some (some (.int (exO4 n (m 2))), mk shC m' q) ∧ fr [44, 45, 46, 65, 66, 67] m m' ∧ zaF (m' 66) 216 ∧ zaF (m' 67) 18 := by
  unfold exO4
  by_cases h4 : 4 < n
  · refine ⟨m, ?_, fr_rfl, h66, h67⟩
    rw [if_pos h4]
    simp only [s134_0, s134_1, s134_4, s134_5, s134_8, s134_9, s134_10, s134_11, s134_14, s134_15, s134_18, s134_19, s134_22, s134_25, s134_26, s134_29, s134_30, s134_31, s134_32, s134_35, oC0_1, x_A_size oC0_1, hn, Option.bind_some, Option.toList_some, Option.toList_none, List.nil_append, List.cons_append, nI_lt h4 (show n < 2 ^ 31 by omega), if_true]
  · have cp := x_A_copy' (d := d + 67) (m := m) (q := q) oC0_65 oC0_1
    rw [cpA_eq (k := 65) (j := 1) h2 h3 h66 h67, show (65 + 1 : Nat) = 66 from rfl, show (65 + 2 : Nat) = 67 from rfl, show (1 + 1 : Nat) = 2 from rfl, show (1 + 2 : Nat) = 3 from rfl] at cp
    generalize hm1 : mu (mu (mu m 65 (upd (m 65) 0 (m 1 0))) 66 (m 2)) 67 (m 3) = m1 at cp
    have g0 : m1 65 0 = nI n := by rw [← hm1, mu_ne (by decide), mu_ne (by decide), mu_same]; simp [upd, hn]
    have g6 : m1 66 = m 2 := by rw [← hm1, mu_ne (by decide), mu_same]
    have g7 : m1 67 = m 3 := by rw [← hm1, mu_same]
    have gf : fr [65, 66, 67] m m1 := fun c hc => by
      simp only [List.mem_cons, List.not_mem_nil, or_false, not_or] at hc
      rw [← hm1, mu_ne hc.2.2, mu_ne hc.2.1, mu_ne hc.1]
    have wd := x_A_widen (d := d + 72) (q := q) oC0_65 g0 (show n < 6 by omega)
    obtain ⟨m2, e2, f2, r2⟩ := x_O_ways (d := d) (q := q) hn3 (show n ≤ 5 by omega) 64 0 1 (mu m1 65 (upd (m1 65) 0 (nI (n + 1)))) (by omega) (Nat.zero_le n) (by omega) (by rw [mu_same]; simp [upd])
    rw [mu_ne (by decide), g6] at e2 f2
    refine ⟨m2, ?_, ?_, ?_, ?_⟩
    · rw [if_neg h4]
      simp only [s134_0, s134_1, s134_4, s134_5, s134_8, s134_9, s134_10, s134_11, s134_14, s134_15, s134_18, s134_19, s134_22, s134_25, s134_26, s134_29, s134_30, s134_31, s134_32, s134_35, oC0_1, oC0_65, x_A_size oC0_1, hn, Option.bind_some, Option.toList_some, Option.toList_none, List.nil_append, List.cons_append, show ¬ nI 4 < nI n by rw [nI_ltI (by decide) (by omega)]; exact h4, if_false, cp, wd, e2]
    · intro c hc
      simp only [List.mem_cons, List.not_mem_nil, or_false, not_or] at hc
      rw [r2 c (by simp; omega), mu_ne hc.2.2.2.1, gf c (by simp; omega)]
    · rw [f2]; exact wyO_za (by omega) h2
    · rw [r2 67 (by decide), mu_ne (by decide), g7]; exact h3
end
