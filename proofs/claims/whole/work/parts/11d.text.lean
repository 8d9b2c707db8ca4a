/-! the text: the clauses one by one -/
abbrev PS : Type := Nat × (Nat → Int32) × (Nat → Int32) × Nat × Nat × Int32
def pS (m : Mem) (c : Nat) (s : PS) : Mem := pH m s.1 s.2.1 s.2.2.1 s.2.2.2.1 s.2.2.2.2.1 s.2.2.2.2.2 c
theorem q451 : 4 + 1 = 5 := rfl
theorem q462 : 4 + 2 = 6 := rfl
theorem tri_lt : ∀ k, k ≤ 6 → k * (k - 1) * (k - 2) / 6 < 1000 := by decide
def cSg2 (f : Nat → Nat) (L n : Nat) (F G : Nat → Int32) (k : Nat) (z : Nat × Nat) : Bool × PS :=
  if sgW f (k * (k - 1) * (k - 2) / 6) z.1 z.2 = true then (true, k, (sgF f k z.1 z.2 F).1, bgn k G, (tok f L z.2).1, (tok f L z.2).2, nI k) else (false, n, F, G, z.1, z.2, nI k)
def cSg (f : Nat → Nat) (L n : Nat) (F G : Nat → Int32) (e : Nat) (v : Int32) : Bool × PS := match rdN f L (tok f L e).1 (tok f L e).2 3 6 with
  | none => (false, n, F, G, (tok f L e).1, (tok f L e).2, v)
  | some k => cSg2 f L n F G k (tok f L (tok f L e).2)
section
variable {d n b e c L lo hi : Nat} {v : Int32} {F G : Nat → Int32} {f : Nat → Nat} {m : Mem} {q : MemJ}
theorem x_T_readSigns (hL : Ltr m f L) (he : e ≤ L) : ev (d + 3) 29 0 [.ref 41, .ref 4, .null, .null, .null, .null, .null] [] (mk shC (pH m n F G b e v c) q) = some (some (.int (bI (cSg f L n F G e v).1)), mk shC (pS m c (cSg f L n F G e v).2) q) := by
  obtain ⟨h1, h2, h3⟩ := id hL
  have t1 := tok_isTk (f := f) he
  simp only [s29_0, s29_1, s29_4, s29_5, s29_6, s29_8, s29_11, s29_14, s29_15, s29_16, s29_17, s29_20, s29_21, s29_22, s29_23, s29_26, s29_29, s29_32, s29_33, s29_34, s29_35, s29_36, s29_39, s29_40, s29_43, s29_44, s29_45, s29_49, s29_50, s29_53, s29_55, s29_56, s29_57, s29_61, s29_62, s29_65, s29_67, s29_68, s29_69, s29_73, s29_74, s29_77, s29_78, s29_79, s29_82, s29_85, s29_86, s29_88, s29_90, s29_92, s29_93, s29_96, s29_97, s29_98, s29_101, s29_104, s29_107, s29_110, s29_113, s29_116, s29_119, s29_122, s29_125, s29_126, s29_129, s29_130, x_T_nextToken hL he, Option.bind_some, Option.toList_some, Option.toList_none, List.nil_append, List.cons_append, x_T_readNumber hL t1 (show 3 < 1000 by decide) (show 6 < 1000 by decide)]
  unfold cSg
  generalize tok f L e = z at t1 ⊢
  cases hr : rdN f L z.1 z.2 3 6 with
  | none => simp only [s29_0, s29_1, s29_4, s29_5, s29_6, s29_8, s29_11, s29_14, s29_15, s29_16, s29_17, s29_20, s29_21, s29_22, s29_23, s29_26, s29_29, s29_32, s29_33, s29_34, s29_35, s29_36, s29_39, s29_40, s29_43, s29_44, s29_45, s29_49, s29_50, s29_53, s29_55, s29_56, s29_57, s29_61, s29_62, s29_65, s29_67, s29_68, s29_69, s29_73, s29_74, s29_77, s29_78, s29_79, s29_82, s29_85, s29_86, s29_88, s29_90, s29_92, s29_93, s29_96, s29_97, s29_98, s29_101, s29_104, s29_107, s29_110, s29_113, s29_116, s29_119, s29_122, s29_125, s29_126, s29_129, s29_130, Option.bind_some, Option.toList_some, Option.toList_none, List.nil_append, List.cons_append, nI00, not_true, if_true, if_false, am_b0, bI_f, pS]
  | some k =>
    obtain ⟨k3, k6⟩ := rdN_le hr
    have t2 := tok_isTk (f := f) t1.2.1
    dsimp only
    generalize tok f L z.2 = y at t2 ⊢
    have hy := t2
    obtain ⟨y1, y2, _, _⟩ := hy
    simp only [s29_0, s29_1, s29_4, s29_5, s29_6, s29_8, s29_11, s29_14, s29_15, s29_16, s29_17, s29_20, s29_21, s29_22, s29_23, s29_26, s29_29, s29_32, s29_33, s29_34, s29_35, s29_36, s29_39, s29_40, s29_43, s29_44, s29_45, s29_49, s29_50, s29_53, s29_55, s29_56, s29_57, s29_61, s29_62, s29_65, s29_67, s29_68, s29_69, s29_73, s29_74, s29_77, s29_78, s29_79, s29_82, s29_85, s29_86, s29_88, s29_90, s29_92, s29_93, s29_96, s29_97, s29_98, s29_101, s29_104, s29_107, s29_110, s29_113, s29_116, s29_119, s29_122, s29_125, s29_126, s29_129, s29_130, Option.bind_some, Option.toList_some, Option.toList_none, List.nil_append, List.cons_append, nI10, not_false_eq_true, if_true, if_false, pH_v, x_A_triplesOf k6, x_T_isSignWord hL t2 (tri_lt k k6), bI_z]
    unfold cSg2
    cases hw : sgW f (k * (k - 1) * (k - 2) / 6) y.1 y.2 with
    | false => simp only [Bool.false_eq_true, if_false, if_true, am_b0, bI_f, pS, s29_0, s29_1, s29_4, s29_5, s29_6, s29_8, s29_11, s29_14, s29_15, s29_16, s29_17, s29_20, s29_21, s29_22, s29_23, s29_26, s29_29, s29_32, s29_33, s29_34, s29_35, s29_36, s29_39, s29_40, s29_43, s29_44, s29_45, s29_49, s29_50, s29_53, s29_55, s29_56, s29_57, s29_61, s29_62, s29_65, s29_67, s29_68, s29_69, s29_73, s29_74, s29_77, s29_78, s29_79, s29_82, s29_85, s29_86, s29_88, s29_90, s29_92, s29_93, s29_96, s29_97, s29_98, s29_101, s29_104, s29_107, s29_110, s29_113, s29_116, s29_119, s29_122, s29_125, s29_126, s29_129, s29_130]
    | true =>
      have A := ev_for3 (fun x => y.1 ≤ x.2 ∧ x.2 ≤ y.2) (fun a (x : (Nat → Int32) × Nat) (w : Value × Value × Int32) => ev (d + 3) 29 47 [.ref 41, .ref 4, .int (nI k), .int (nI x.2), .int (nI a), w.1, w.2.1] [] (mk shC (pH m k x.1 (bgn k G) y.1 y.2 (nI k) c) q))
        (fun a b x w => ev (d + 3) 29 59 [.ref 41, .ref 4, .int (nI k), .int (nI x.2), .int (nI a), .int (nI b), w.2.1] [] (mk shC (pH m k x.1 (bgn k G) y.1 y.2 (nI k) c) q))
        (fun a b j x w => ev (d + 3) 29 71 [.ref 41, .ref 4, .int (nI k), .int (nI x.2), .int (nI a), .int (nI b), .int (if x.2 < y.2 then nI j else w.2.2)] [] (mk shC (pH m k x.1 (bgn k G) y.1 y.2 (nI k) c) q))
        (fun x => some (some (.int (nI 1)), mk shC (pH m k x.1 (bgn k G) (tok f L y.2).1 (tok f L y.2).2 (nI k) c) q)) (fun a b j x => if x.2 < y.2 then (sg6 x.1 a b j (sgT (f x.2)), x.2 + 1) else x) k
        (fun x w _ => by
          rw [s29_47]
          simp only [s29_0, s29_1, s29_4, s29_5, s29_6, s29_8, s29_11, s29_14, s29_15, s29_16, s29_17, s29_20, s29_21, s29_22, s29_23, s29_26, s29_29, s29_32, s29_33, s29_34, s29_35, s29_36, s29_39, s29_40, s29_43, s29_44, s29_45, s29_49, s29_50, s29_53, s29_55, s29_56, s29_57, s29_61, s29_62, s29_65, s29_67, s29_68, s29_69, s29_73, s29_74, s29_77, s29_78, s29_79, s29_82, s29_85, s29_86, s29_88, s29_90, s29_92, s29_93, s29_96, s29_97, s29_98, s29_101, s29_104, s29_107, s29_110, s29_113, s29_116, s29_119, s29_122, s29_125, s29_126, s29_129, s29_130, nI_irr, if_false, x_T_nextToken hL y2, Option.bind_some, Option.toList_some, Option.toList_none, List.nil_append, List.cons_append, am_b1])
        (fun a x w ha _ => ⟨w, by
          rw [s29_47]
          simp only [s29_0, s29_1, s29_4, s29_5, s29_6, s29_8, s29_11, s29_14, s29_15, s29_16, s29_17, s29_20, s29_21, s29_22, s29_23, s29_26, s29_29, s29_32, s29_33, s29_34, s29_35, s29_36, s29_39, s29_40, s29_43, s29_44, s29_45, s29_49, s29_50, s29_53, s29_55, s29_56, s29_57, s29_61, s29_62, s29_65, s29_67, s29_68, s29_69, s29_73, s29_74, s29_77, s29_78, s29_79, s29_82, s29_85, s29_86, s29_88, s29_90, s29_92, s29_93, s29_96, s29_97, s29_98, s29_101, s29_104, s29_107, s29_110, s29_113, s29_116, s29_119, s29_122, s29_125, s29_126, s29_129, s29_130, nI_lt ha (show k < 2 ^ 31 by omega), if_true, nI_add]⟩)
        (fun a x w ha _ => ⟨(.int (nI k), w.2.1, w.2.2), by
          rw [s29_59]
          simp only [s29_0, s29_1, s29_4, s29_5, s29_6, s29_8, s29_11, s29_14, s29_15, s29_16, s29_17, s29_20, s29_21, s29_22, s29_23, s29_26, s29_29, s29_32, s29_33, s29_34, s29_35, s29_36, s29_39, s29_40, s29_43, s29_44, s29_45, s29_49, s29_50, s29_53, s29_55, s29_56, s29_57, s29_61, s29_62, s29_65, s29_67, s29_68, s29_69, s29_73, s29_74, s29_77, s29_78, s29_79, s29_82, s29_85, s29_86, s29_88, s29_90, s29_92, s29_93, s29_96, s29_97, s29_98, s29_101, s29_104, s29_107, s29_110, s29_113, s29_116, s29_119, s29_122, s29_125, s29_126, s29_129, s29_130, nI_irr, if_false, nI_add]⟩)
        (fun a b x w hab hb _ => ⟨(w.1, w.2.1, nI (b + 1)), by
          rw [s29_59]
          simp only [s29_0, s29_1, s29_4, s29_5, s29_6, s29_8, s29_11, s29_14, s29_15, s29_16, s29_17, s29_20, s29_21, s29_22, s29_23, s29_26, s29_29, s29_32, s29_33, s29_34, s29_35, s29_36, s29_39, s29_40, s29_43, s29_44, s29_45, s29_49, s29_50, s29_53, s29_55, s29_56, s29_57, s29_61, s29_62, s29_65, s29_67, s29_68, s29_69, s29_73, s29_74, s29_77, s29_78, s29_79, s29_82, s29_85, s29_86, s29_88, s29_90, s29_92, s29_93, s29_96, s29_97, s29_98, s29_101, s29_104, s29_107, s29_110, s29_113, s29_116, s29_119, s29_122, s29_125, s29_126, s29_129, s29_130, nI_lt hb (show k < 2 ^ 31 by omega), if_true, nI_add, ite_self]⟩)
        (fun a b x w hab hb hx => ⟨(w.1, .int (if x.2 < y.2 then nI k else w.2.2), w.2.2), by
          rw [s29_71]
          by_cases hlt : x.2 < y.2
          · simp only [s29_0, s29_1, s29_4, s29_5, s29_6, s29_8, s29_11, s29_14, s29_15, s29_16, s29_17, s29_20, s29_21, s29_22, s29_23, s29_26, s29_29, s29_32, s29_33, s29_34, s29_35, s29_36, s29_39, s29_40, s29_43, s29_44, s29_45, s29_49, s29_50, s29_53, s29_55, s29_56, s29_57, s29_61, s29_62, s29_65, s29_67, s29_68, s29_69, s29_73, s29_74, s29_77, s29_78, s29_79, s29_82, s29_85, s29_86, s29_88, s29_90, s29_92, s29_93, s29_96, s29_97, s29_98, s29_101, s29_104, s29_107, s29_110, s29_113, s29_116, s29_119, s29_122, s29_125, s29_126, s29_129, s29_130, if_pos hlt, nI_irr, if_false, nI_add]
          · simp only [s29_0, s29_1, s29_4, s29_5, s29_6, s29_8, s29_11, s29_14, s29_15, s29_16, s29_17, s29_20, s29_21, s29_22, s29_23, s29_26, s29_29, s29_32, s29_33, s29_34, s29_35, s29_36, s29_39, s29_40, s29_43, s29_44, s29_45, s29_49, s29_50, s29_53, s29_55, s29_56, s29_57, s29_61, s29_62, s29_65, s29_67, s29_68, s29_69, s29_73, s29_74, s29_77, s29_78, s29_79, s29_82, s29_85, s29_86, s29_88, s29_90, s29_92, s29_93, s29_96, s29_97, s29_98, s29_101, s29_104, s29_107, s29_110, s29_113, s29_116, s29_119, s29_122, s29_125, s29_126, s29_129, s29_130, if_neg hlt, pH_e, show ¬ nI x.2 < nI y.2 by rw [nI_ltI (by omega) (by omega)]; exact hlt, if_false, nI_add, ite_self]⟩)
        (fun a b j x hab hbj hj hx => by
          split
          · dsimp only; omega
          · exact hx)
        (fun a b j x w hab hbj hj hx => ⟨(w.1, w.2.1, if x.2 < y.2 then nI (j + 1) else w.2.2), by
          by_cases hlt : x.2 < y.2
          · have hf := h3 x.2 (by omega)
            simp only [if_pos hlt, ite_self]
            rw [s29_71]
            simp only [s29_0, s29_1, s29_4, s29_5, s29_6, s29_8, s29_11, s29_14, s29_15, s29_16, s29_17, s29_20, s29_21, s29_22, s29_23, s29_26, s29_29, s29_32, s29_33, s29_34, s29_35, s29_36, s29_39, s29_40, s29_43, s29_44, s29_45, s29_49, s29_50, s29_53, s29_55, s29_56, s29_57, s29_61, s29_62, s29_65, s29_67, s29_68, s29_69, s29_73, s29_74, s29_77, s29_78, s29_79, s29_82, s29_85, s29_86, s29_88, s29_90, s29_92, s29_93, s29_96, s29_97, s29_98, s29_101, s29_104, s29_107, s29_110, s29_113, s29_116, s29_119, s29_122, s29_125, s29_126, s29_129, s29_130, nI_lt hj (show k < 2 ^ 31 by omega), if_true, nI_lt hlt (show y.2 < 2 ^ 31 by omega), pH_e, tC42, nC42, show x.2 < 200 by omega, pH_42, hf.1, x_T_signTold (show f x.2 < 1000 by omega), oC0_4, q451, x_A_giveSign oC0_4 (show a < 6 by omega) (show b < 6 by omega) (show j < 6 by omega), Option.bind_some, Option.toList_some, Option.toList_none, List.nil_append, List.cons_append, nI_add, pH_5, pH_mu5]
          · simp only [if_neg hlt]⟩) (F, y.1) (.null, .null, nI 0) ⟨Nat.le_refl _, y1⟩
      simp only [Bool.true_eq_false, if_false, not_false_eq_true, if_true, s29_0, s29_1, s29_4, s29_5, s29_6, s29_8, s29_11, s29_14, s29_15, s29_16, s29_17, s29_20, s29_21, s29_22, s29_23, s29_26, s29_29, s29_32, s29_33, s29_34, s29_35, s29_36, s29_39, s29_40, s29_43, s29_44, s29_45, s29_49, s29_50, s29_53, s29_55, s29_56, s29_57, s29_61, s29_62, s29_65, s29_67, s29_68, s29_69, s29_73, s29_74, s29_77, s29_78, s29_79, s29_82, s29_85, s29_86, s29_88, s29_90, s29_92, s29_93, s29_96, s29_97, s29_98, s29_101, s29_104, s29_107, s29_110, s29_113, s29_116, s29_119, s29_122, s29_125, s29_126, s29_129, s29_130, oC0_4, q462, x_A_begin oC0_4 k6, Option.bind_some, Option.toList_some, Option.toList_none, List.nil_append, List.cons_append, pH_mu4, pH_6, pH_mu6, pH_b, bI_t, pS]
      refine Eq.trans A ?_
      rfl
end
