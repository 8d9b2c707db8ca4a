/-! boxes: laid, composed, seen, found, away -/
def lyR (n : Nat) (F : Nat → Int32) (B : Nat → BR) (b i x k : Int32) : Int32 × (Nat → BR) :=
  if elB 4 x = true then (if canB n F (eN x) = true then (if (elB (vkL n F (eN x)).length k && elB 3 b) = true then (if (B (eN b)).1 = true then (if elB (B (eN b)).2.2.1 i = true then
    (if (!(B (eN b)).2.1 || decide (zrK ((vkL n F (eN x)).getD (eN k) 0) = 0)) = true then (nI (zrK ((vkL n F (eN x)).getD (eN k) 0)), uB B (eN b) ((B (eN b)).1, (B (eN b)).2.1, (B (eN b)).2.2.1, uN (B (eN b)).2.2.2.1 (eN i) ((vkL n F (eN x)).getD (eN k) 0), uN (B (eN b)).2.2.2.2 (eN i) n)) else (-1014, B)) else (-1013, B)) else (-1011, B)) else (-1001, B)) else (-1003, B)) else (-1002, B)
def cmR (B : Nat → BR) (b i j : Int32) : Int32 × (Nat → BR) :=
  if elB 3 b = true then (if (B (eN b)).1 = true then (if (elB (B (eN b)).2.2.1 i && elB (B (eN b)).2.2.1 j) = true then (if (B (eN b)).2.2.2.2 (eN i) = 0 ∨ (B (eN b)).2.2.2.2 (eN j) = 0 then (-1015, B) else if (B (eN b)).2.2.2.2 (eN i) = (B (eN b)).2.2.2.2 (eN j) then
    (nI (zrK (cpK ((B (eN b)).2.2.2.1 (eN i)) ((B (eN b)).2.2.2.1 (eN j)))), uB B (eN b) ((B (eN b)).1, (B (eN b)).2.1, (B (eN b)).2.2.1, uN (B (eN b)).2.2.2.1 (eN i) (cpK ((B (eN b)).2.2.2.1 (eN i)) ((B (eN b)).2.2.2.1 (eN j))), uN (B (eN b)).2.2.2.2 (eN i) ((B (eN b)).2.2.2.2 (eN i)))) else (-1016, B)) else (-1013, B)) else (-1011, B)) else (-1001, B)
section
variable {d n : Nat} {m : Mem} {q : MemJ} {b i x k j e : Int32} {B : Nat → BR}
theorem FI_bC {m m' : Mem} {q : MemJ} {n : Nat} {F : Nat → Int32} (h : FI m q n F) (hf : fr bC m m') : FI m' q n F := by
  obtain ⟨f1, f2, f3, f4, f5, f6, f7⟩ := h
  unfold FI
  rw [hf 43 (by decide), hf 62 (by decide), hf 66 (by decide), hf 67 (by decide)]
  exact ⟨f1, f2, f3, f4, VI_fr f5 (fun c h1 h2 => hf c (by simp [bC]; omega)), f6, f7⟩
theorem x_S_lay (hN : NI m n) (hF : FI m q n (m 2)) (hB : BS m B) : ∃ m', ev (d + 10) 140 0 [.ref 0, .int b, .int i, .int x, .int k, .null, .null] [] (mk shC m q) = some (some (.int (lyR n (m 2) B b i x k).1), mk shC m' q) ∧ BS m' (lyR n (m 2) B b i x k).2 ∧ fr (fC ++ bC) m m' ∧ FI m' q n (m 2) := by
  have n6 := hN.2.2.1
  have fw : ∀ {m' : Mem}, fr fC m m' → fr (fC ++ bC) m m' := fun h => fr_wk h fun c hc => List.mem_append_left _ hc
  unfold lyR
  rcases elB_or 4 x (by decide) with ⟨hx, _⟩ | ⟨κ, hκ, rfl⟩
  · rw [hx]
    refine ⟨m, ?_, hB, fr_rfl, hF⟩
    simp only [s140_0, s140_1, s140_4, s140_7, s140_10, s140_11, s140_12, s140_15, s140_16, s140_19, s140_22, s140_25, s140_26, s140_27, s140_30, s140_31, s140_34, s140_36, s140_38, s140_40, s140_43, s140_46, s140_47, s140_50, s140_53, s140_56, s140_57, s140_58, s140_61, s140_62, s140_63, s140_66, s140_69, s140_72, s140_73, s140_74, s140_77, s140_78, s140_79, s140_80, s140_83, s140_86, s140_89, s140_90, s140_92, s140_94, s140_97, s140_99, s140_100, s140_103, s140_104, s140_105, s140_107, s140_110, s140_113, s140_116, s140_117, s140_118, s140_121, s140_122, s140_123, s140_124, s140_126, s140_127, s140_130, s140_133, s140_136, s140_138, s140_141, x_S_isKind, Option.bind_some, Option.toList_some, Option.toList_none, List.nil_append, List.cons_append, bI_z, hx, if_true, Bool.false_eq_true, if_false]
  rw [elB_nI (by decide) hκ, eN_nI (by omega), if_pos rfl]
  obtain ⟨m1, e1, g1, F1⟩ := x_F_canTellOf (d := d) hN hF hκ
  rw [show (decide (κ < 2) || orO n (m 2)) = canB n (m 2) κ from rfl] at e1
  cases hc : canB n (m 2) κ with
  | false =>
    refine ⟨m1, ?_, BS_fC hB g1, fw g1, F1⟩
    simp only [s140_0, s140_1, s140_4, s140_7, s140_10, s140_11, s140_12, s140_15, s140_16, s140_19, s140_22, s140_25, s140_26, s140_27, s140_30, s140_31, s140_34, s140_36, s140_38, s140_40, s140_43, s140_46, s140_47, s140_50, s140_53, s140_56, s140_57, s140_58, s140_61, s140_62, s140_63, s140_66, s140_69, s140_72, s140_73, s140_74, s140_77, s140_78, s140_79, s140_80, s140_83, s140_86, s140_89, s140_90, s140_92, s140_94, s140_97, s140_99, s140_100, s140_103, s140_104, s140_105, s140_107, s140_110, s140_113, s140_116, s140_117, s140_118, s140_121, s140_122, s140_123, s140_124, s140_126, s140_127, s140_130, s140_133, s140_136, s140_138, s140_141, x_S_isKind, Option.bind_some, Option.toList_some, Option.toList_none, List.nil_append, List.cons_append, bI_z, elB_nI (show 4 < 1000 by decide) hκ, if_true, Bool.true_eq_false, if_false, e1, hc, Bool.false_eq_true]
  | true =>
    rw [if_pos rfl]
    have N1 := NI_fC hN g1
    have s2 : m1 2 = m 2 := g1 2 (by decide)
    obtain ⟨m2, e2, g2, F2, w2, -⟩ := x_F_ofKind (d := d + 3) (k := κ) N1 (s2 ▸ F1) hκ
    have N2 := NI_fC N1 g2
    rw [s2] at F2 w2
    have hl := w2.1
    have hl2 := w2.2.1
    have g12 := fr_tr g1 g2
    have B2 := BS_fC hB g12
    rcases elB_or (vkL n (m 2) κ).length k (by omega) with ⟨hh, _⟩ | ⟨j, hj, rfl⟩
    · rw [hh, Bool.false_and]
      refine ⟨m2, ?_, B2, fw g12, F2⟩
      simp only [s140_0, s140_1, s140_4, s140_7, s140_10, s140_11, s140_12, s140_15, s140_16, s140_19, s140_22, s140_25, s140_26, s140_27, s140_30, s140_31, s140_34, s140_36, s140_38, s140_40, s140_43, s140_46, s140_47, s140_50, s140_53, s140_56, s140_57, s140_58, s140_61, s140_62, s140_63, s140_66, s140_69, s140_72, s140_73, s140_74, s140_77, s140_78, s140_79, s140_80, s140_83, s140_86, s140_89, s140_90, s140_92, s140_94, s140_97, s140_99, s140_100, s140_103, s140_104, s140_105, s140_107, s140_110, s140_113, s140_116, s140_117, s140_118, s140_121, s140_122, s140_123, s140_124, s140_126, s140_127, s140_130, s140_133, s140_136, s140_138, s140_141, x_S_isKind, Option.bind_some, Option.toList_some, Option.toList_none, List.nil_append, List.cons_append, bI_z, elB_nI (show 4 < 1000 by decide) hκ, if_true, Bool.true_eq_false, if_false, e1, hc, e2, oC8_k κ hκ, x_W_has (oC8_k κ hκ) hl, hh, Bool.false_eq_true]
    rw [elB_nI (by omega) hj, Bool.true_and]
    rcases elB_or 3 b (by decide) with ⟨hh, _⟩ | ⟨β, hb, rfl⟩
    · rw [hh]
      refine ⟨m2, ?_, B2, fw g12, F2⟩
      simp only [s140_0, s140_1, s140_4, s140_7, s140_10, s140_11, s140_12, s140_15, s140_16, s140_19, s140_22, s140_25, s140_26, s140_27, s140_30, s140_31, s140_34, s140_36, s140_38, s140_40, s140_43, s140_46, s140_47, s140_50, s140_53, s140_56, s140_57, s140_58, s140_61, s140_62, s140_63, s140_66, s140_69, s140_72, s140_73, s140_74, s140_77, s140_78, s140_79, s140_80, s140_83, s140_86, s140_89, s140_90, s140_92, s140_94, s140_97, s140_99, s140_100, s140_103, s140_104, s140_105, s140_107, s140_110, s140_113, s140_116, s140_117, s140_118, s140_121, s140_122, s140_123, s140_124, s140_126, s140_127, s140_130, s140_133, s140_136, s140_138, s140_141, x_S_isKind, x_S_isBox, Option.bind_some, Option.toList_some, Option.toList_none, List.nil_append, List.cons_append, bI_z, elB_nI (show 4 < 1000 by decide) hκ, if_true, Bool.true_eq_false, if_false, e1, hc, e2, oC8_k κ hκ, x_W_has (oC8_k κ hκ) hl, elB_nI (show (vkL n (m 2) κ).length < 1000 by omega) hj, hh, Bool.false_eq_true]
    rw [elB_nI (by decide) hb, if_pos rfl, eN_nI (show β < 1000 by omega)]
    have r1 : ∀ {D : Nat} {mm : Mem} {a5 : Nat} {v6 : Value}, ev D 140 62 [.ref 0, .int (nI β), .int i, .int (nI κ), .int (nI j), .ref a5, v6] [.int (nI β), .ref 68] (mk shC mm q) = ev D 140 63 [.ref 0, .int (nI β), .int i, .int (nI κ), .int (nI j), .ref a5, v6] [.ref (69 + 3 * β)] (mk shC mm q) := s140_62 (t := 1) shC_68 (by decide) hb (by decide) (bst_at β hb)
    have r2 : ∀ {D : Nat} {mm : Mem} {a5 : Nat} {v6 : Value}, ev D 140 78 [.ref 0, .int (nI β), .int i, .int (nI κ), .int (nI j), .ref a5, v6] [.int (nI β), .ref 68] (mk shC mm q) = ev D 140 79 [.ref 0, .int (nI β), .int i, .int (nI κ), .int (nI j), .ref a5, v6] [.ref (69 + 3 * β)] (mk shC mm q) := s140_78 (t := 1) shC_68 (by decide) hb (by decide) (bst_at β hb)
    have r3 : ∀ {D : Nat} {mm : Mem} {a5 : Nat} {v6 : Int32}, ev D 140 104 [.ref 0, .int (nI β), .int i, .int (nI κ), .int (nI j), .ref a5, .int v6] [.int (nI β), .ref 68] (mk shC mm q) = ev D 140 105 [.ref 0, .int (nI β), .int i, .int (nI κ), .int (nI j), .ref a5, .int v6] [.ref (69 + 3 * β)] (mk shC mm q) := s140_104 (t := 1) shC_68 (by decide) hb (by decide) (bst_at β hb)
    have r4 : ∀ {D : Nat} {mm : Mem} {a5 : Nat} {v6 : Int32}, ev D 140 122 [.ref 0, .int (nI β), .int i, .int (nI κ), .int (nI j), .ref a5, .int v6] [.int (nI β), .ref 68] (mk shC mm q) = ev D 140 123 [.ref 0, .int (nI β), .int i, .int (nI κ), .int (nI j), .ref a5, .int v6] [.ref (69 + 3 * β)] (mk shC mm q) := s140_122 (t := 1) shC_68 (by decide) hb (by decide) (bst_at β hb)
    have ho := oC1_b β hb
    have hr := B2 β hb
    obtain ⟨b1, b2, b3, b4, b5⟩ := id hr
    have mi := x_B_isMissing (d := d + 9) (q := q) ho b1
    cases ht : (B β).1 with
    | false =>
      refine ⟨m2, ?_, B2, fw g12, F2⟩
      simp only [s140_0, s140_1, s140_4, s140_7, s140_10, s140_11, s140_12, s140_15, s140_16, s140_19, s140_22, s140_25, s140_26, s140_27, s140_30, s140_31, s140_34, s140_36, s140_38, s140_40, s140_43, s140_46, s140_47, s140_50, s140_53, s140_56, s140_57, s140_58, s140_61, s140_62, s140_63, s140_66, s140_69, s140_72, s140_73, s140_74, s140_77, s140_78, s140_79, s140_80, s140_83, s140_86, s140_89, s140_90, s140_92, s140_94, s140_97, s140_99, s140_100, s140_103, s140_104, s140_105, s140_107, s140_110, s140_113, s140_116, s140_117, s140_118, s140_121, s140_122, s140_123, s140_124, s140_126, s140_127, s140_130, s140_133, s140_136, s140_138, s140_141, x_S_isKind, x_S_isBox, Option.bind_some, Option.toList_some, Option.toList_none, List.nil_append, List.cons_append, bI_z, elB_nI (show 4 < 1000 by decide) hκ, if_true, Bool.true_eq_false, if_false, e1, hc, e2, oC8_k κ hκ, x_W_has (oC8_k κ hκ) hl, elB_nI (show (vkL n (m 2) κ).length < 1000 by omega) hj, elB_nI (show 3 < 1000 by decide) hb, r1, ho, mi, ht, Bool.not_false, Bool.false_eq_true]
    | true =>
      rw [if_pos rfl]
      rcases elB_or (B β).2.2.1 i (by omega) with ⟨hy, _⟩ | ⟨p, hp, rfl⟩
      · rw [hy]
        refine ⟨m2, ?_, B2, fw g12, F2⟩
        simp only [s140_0, s140_1, s140_4, s140_7, s140_10, s140_11, s140_12, s140_15, s140_16, s140_19, s140_22, s140_25, s140_26, s140_27, s140_30, s140_31, s140_34, s140_36, s140_38, s140_40, s140_43, s140_46, s140_47, s140_50, s140_53, s140_56, s140_57, s140_58, s140_61, s140_62, s140_63, s140_66, s140_69, s140_72, s140_73, s140_74, s140_77, s140_78, s140_79, s140_80, s140_83, s140_86, s140_89, s140_90, s140_92, s140_94, s140_97, s140_99, s140_100, s140_103, s140_104, s140_105, s140_107, s140_110, s140_113, s140_116, s140_117, s140_118, s140_121, s140_122, s140_123, s140_124, s140_126, s140_127, s140_130, s140_133, s140_136, s140_138, s140_141, x_S_isKind, x_S_isBox, Option.bind_some, Option.toList_some, Option.toList_none, List.nil_append, List.cons_append, bI_z, elB_nI (show 4 < 1000 by decide) hκ, if_true, Bool.true_eq_false, if_false, e1, hc, e2, oC8_k κ hκ, x_W_has (oC8_k κ hκ) hl, elB_nI (show (vkL n (m 2) κ).length < 1000 by omega) hj, elB_nI (show 3 < 1000 by decide) hb, r1, r2, ho, mi, ht, Bool.not_true, Bool.false_eq_true, x_B_hasPlace ho b3, hy]
      rw [elB_nI (by omega) hp, if_pos rfl, eN_nI (show p < 1000 by omega), eN_nI (show j < 1000 by omega)]
      have at2 := WR_at w2 hj
      generalize hy : (vkL n (m 2) κ).getD j 0 = y at at2 ⊢
      have mf := x_B_isMadeFor (d := d + 7) (y := y) (q := q) ho b2
      by_cases hz : (!(B β).2.1 || decide (zrK y = 0)) = true
      · rw [if_pos hz]
        obtain ⟨m3, e3, R3, S3⟩ := x_B_lay (d := d + 9) (q := q) (i := p) (y := y) (e := n) ho hr (by omega) at2.2 n6
        rw [ht] at R3
        have f3 := sm3_bC hb S3
        refine ⟨m3, ?_, BS_set B2 hb R3 S3, fr_tr (fw g12) (fr_wk f3 fun c hc => List.mem_append_right _ hc), ?_⟩
        · simp only [s140_0, s140_1, s140_4, s140_7, s140_10, s140_11, s140_12, s140_15, s140_16, s140_19, s140_22, s140_25, s140_26, s140_27, s140_30, s140_31, s140_34, s140_36, s140_38, s140_40, s140_43, s140_46, s140_47, s140_50, s140_53, s140_56, s140_57, s140_58, s140_61, s140_62, s140_63, s140_66, s140_69, s140_72, s140_73, s140_74, s140_77, s140_78, s140_79, s140_80, s140_83, s140_86, s140_89, s140_90, s140_92, s140_94, s140_97, s140_99, s140_100, s140_103, s140_104, s140_105, s140_107, s140_110, s140_113, s140_116, s140_117, s140_118, s140_121, s140_122, s140_123, s140_124, s140_126, s140_127, s140_130, s140_133, s140_136, s140_138, s140_141, x_S_isKind, x_S_isBox, Option.bind_some, Option.toList_some, Option.toList_none, List.nil_append, List.cons_append, bI_z, elB_nI (show 4 < 1000 by decide) hκ, if_true, Bool.true_eq_false, if_false, e1, hc, e2, oC8_k κ hκ, oC0_1, x_W_has (oC8_k κ hκ) hl, elB_nI (show (vkL n (m 2) κ).length < 1000 by omega) hj, elB_nI (show 3 < 1000 by decide) hb, r1, r2, r3, r4, ho, mi, ht, Bool.not_true, Bool.false_eq_true, x_B_hasPlace ho b3, elB_nI (show (B β).2.2.1 < 1000 by omega) hp, x_W_at (oC8_k κ hκ) (show j < 729 by omega), at2.1, mf, hz, x_A_size oC0_1, N2.1, e3, x_K_zeros, show ons 12 (y &&& 1365) = zrK y from rfl]
        · exact FI_bC F2 f3
      · have hz' : (!(B β).2.1 || decide (zrK y = 0)) = false := by simpa using hz
        rw [hz']
        refine ⟨m2, ?_, B2, fw g12, F2⟩
        simp only [s140_0, s140_1, s140_4, s140_7, s140_10, s140_11, s140_12, s140_15, s140_16, s140_19, s140_22, s140_25, s140_26, s140_27, s140_30, s140_31, s140_34, s140_36, s140_38, s140_40, s140_43, s140_46, s140_47, s140_50, s140_53, s140_56, s140_57, s140_58, s140_61, s140_62, s140_63, s140_66, s140_69, s140_72, s140_73, s140_74, s140_77, s140_78, s140_79, s140_80, s140_83, s140_86, s140_89, s140_90, s140_92, s140_94, s140_97, s140_99, s140_100, s140_103, s140_104, s140_105, s140_107, s140_110, s140_113, s140_116, s140_117, s140_118, s140_121, s140_122, s140_123, s140_124, s140_126, s140_127, s140_130, s140_133, s140_136, s140_138, s140_141, x_S_isKind, x_S_isBox, Option.bind_some, Option.toList_some, Option.toList_none, List.nil_append, List.cons_append, bI_z, elB_nI (show 4 < 1000 by decide) hκ, if_true, Bool.true_eq_false, if_false, e1, hc, e2, oC8_k κ hκ, oC0_1, x_W_has (oC8_k κ hκ) hl, elB_nI (show (vkL n (m 2) κ).length < 1000 by omega) hj, elB_nI (show 3 < 1000 by decide) hb, r1, r2, r3, r4, ho, mi, ht, Bool.not_true, Bool.false_eq_true, x_B_hasPlace ho b3, elB_nI (show (B β).2.2.1 < 1000 by omega) hp, x_W_at (oC8_k κ hκ) (show j < 729 by omega), at2.1, mf, hz']
end
