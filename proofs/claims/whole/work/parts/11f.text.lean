/-! the text: reading -/
def cCl (f : Nat → Nat) (L n : Nat) (F G : Nat → Int32) (b e : Nat) (v : Int32) : Bool × PS := if wrd f 0 b e = true then cSg f L n F G e v else if wrd f 1 b e = true then cPt f L n F G e v else if wrd f 2 b e = true then cFl f L n F G e v else if wrd f 3 b e = true then cSw f L n F G e v else cDr f L n F G b e v
def PSok (f : Nat → Nat) (L : Nat) (s : PS) : Prop := 3 ≤ s.1 ∧ s.1 ≤ 6 ∧ isTk f L s.2.2.2.1 s.2.2.2.2.1
section
variable {d n b e c L lo hi : Nat} {v : Int32} {F G : Nat → Int32} {f : Nat → Nat} {m : Mem} {q : MemJ}
theorem sFl_ok {z : TK} (h3 : 3 ≤ n) (h6 : n ≤ 6) (hz : isTk f L z.1 z.2) : PSok f L (sFl n F G z v).2 := ⟨h3, h6, hz⟩
theorem cCl_ok (h3 : 3 ≤ n) (h6 : n ≤ 6) (ht : isTk f L b e) : PSok f L (cCl f L n F G b e v).2 := by
  have t1 := tok_isTk (f := f) ht.2.1
  have t2 := tok_isTk (f := f) t1.2.1
  have t3 := tok_isTk (f := f) t2.2.1
  unfold cCl
  split
  · unfold cSg
    split
    · exact ⟨h3, h6, t1⟩
    · next k hk =>
      have hk := rdN_le hk
      unfold cSg2
      split
      · exact ⟨hk.1, hk.2, t3⟩
      · exact ⟨h3, h6, t2⟩
  · split
    · unfold cPt
      split
      · exact ⟨h3, h6, t1⟩
      · unfold cPt1
        have c2 := rdE_isTk t2
        have c3 := rdE_isTk c2
        split
        · exact ⟨h3, h6, mnT_isTk t2⟩
        · unfold cPt2
          split
          · exact ⟨h3, h6, mnT_isTk c2⟩
          · unfold cPt3
            split
            · exact ⟨h3, h6, mnT_isTk c3⟩
            · exact ⟨h3, h6, rdE_isTk c3⟩
    · split
      · unfold cFl
        split
        · exact ⟨h3, h6, t1⟩
        · exact ⟨h3, h6, t2⟩
      · split
        · unfold cSw
          split
          · exact ⟨h3, h6, t1⟩
          · unfold cSw2
            split
            · exact ⟨h3, h6, t2⟩
            · split
              · exact ⟨h3, h6, t2⟩
              · exact ⟨h3, h6, t3⟩
        · unfold cDr
          split
          · exact ⟨h3, h6, t1⟩
          · exact ⟨h3, h6, ht⟩
theorem x_T_readClause (hL : Ltr m f L) (ht : isTk f L b e) (hn : 3 ≤ n) (hn6 : n ≤ 6) : ev (d + 7) 27 0 [.ref 41, .ref 4] [] (mk shC (pH m n F G b e v c) q) = some (some (.int (bI (cCl f L n F G b e v).1)), mk shC (pS m c (cCl f L n F G b e v).2) q) := by
  have he := ht.2.1
  unfold cCl
  simp only [s27_0, s27_1, s27_3, s27_6, s27_9, s27_10, s27_11, s27_14, s27_15, s27_16, s27_18, s27_21, s27_24, s27_25, s27_26, s27_29, s27_30, s27_31, s27_33, s27_36, s27_39, s27_40, s27_41, s27_44, s27_45, s27_46, s27_48, s27_51, s27_54, s27_55, s27_56, s27_59, s27_60, s27_61, s27_62, s27_65, x_T_isWord hL ht (show 0 < 5 by decide), Option.bind_some, Option.toList_some, Option.toList_none, List.nil_append, List.cons_append, bI_z]
  cases wrd f 0 b e with
  | true => simp only [Bool.true_eq_false, if_true, if_false, s27_0, s27_1, s27_3, s27_6, s27_9, s27_10, s27_11, s27_14, s27_15, s27_16, s27_18, s27_21, s27_24, s27_25, s27_26, s27_29, s27_30, s27_31, s27_33, s27_36, s27_39, s27_40, s27_41, s27_44, s27_45, s27_46, s27_48, s27_51, s27_54, s27_55, s27_56, s27_59, s27_60, s27_61, s27_62, s27_65, x_T_readSigns hL he, Option.bind_some, Option.toList_some, Option.toList_none, List.nil_append, List.cons_append, bI_b]
  | false =>
    simp only [Bool.false_eq_true, if_true, if_false, s27_0, s27_1, s27_3, s27_6, s27_9, s27_10, s27_11, s27_14, s27_15, s27_16, s27_18, s27_21, s27_24, s27_25, s27_26, s27_29, s27_30, s27_31, s27_33, s27_36, s27_39, s27_40, s27_41, s27_44, s27_45, s27_46, s27_48, s27_51, s27_54, s27_55, s27_56, s27_59, s27_60, s27_61, s27_62, s27_65, x_T_isWord hL ht (show 1 < 5 by decide), Option.bind_some, Option.toList_some, Option.toList_none, List.nil_append, List.cons_append, bI_z]
    cases wrd f 1 b e with
    | true => simp only [Bool.true_eq_false, if_true, if_false, s27_0, s27_1, s27_3, s27_6, s27_9, s27_10, s27_11, s27_14, s27_15, s27_16, s27_18, s27_21, s27_24, s27_25, s27_26, s27_29, s27_30, s27_31, s27_33, s27_36, s27_39, s27_40, s27_41, s27_44, s27_45, s27_46, s27_48, s27_51, s27_54, s27_55, s27_56, s27_59, s27_60, s27_61, s27_62, s27_65, x_T_readPoint hL he (show 1 ≤ n by omega) hn6, Option.bind_some, Option.toList_some, Option.toList_none, List.nil_append, List.cons_append, bI_b]
    | false =>
      simp only [Bool.false_eq_true, if_true, if_false, s27_0, s27_1, s27_3, s27_6, s27_9, s27_10, s27_11, s27_14, s27_15, s27_16, s27_18, s27_21, s27_24, s27_25, s27_26, s27_29, s27_30, s27_31, s27_33, s27_36, s27_39, s27_40, s27_41, s27_44, s27_45, s27_46, s27_48, s27_51, s27_54, s27_55, s27_56, s27_59, s27_60, s27_61, s27_62, s27_65, x_T_isWord hL ht (show 2 < 5 by decide), Option.bind_some, Option.toList_some, Option.toList_none, List.nil_append, List.cons_append, bI_z]
      cases wrd f 2 b e with
      | true => simp only [Bool.true_eq_false, if_true, if_false, s27_0, s27_1, s27_3, s27_6, s27_9, s27_10, s27_11, s27_14, s27_15, s27_16, s27_18, s27_21, s27_24, s27_25, s27_26, s27_29, s27_30, s27_31, s27_33, s27_36, s27_39, s27_40, s27_41, s27_44, s27_45, s27_46, s27_48, s27_51, s27_54, s27_55, s27_56, s27_59, s27_60, s27_61, s27_62, s27_65, x_T_readFlip hL he (show 1 ≤ n by omega) hn6, Option.bind_some, Option.toList_some, Option.toList_none, List.nil_append, List.cons_append, bI_b]
      | false =>
        simp only [Bool.false_eq_true, if_true, if_false, s27_0, s27_1, s27_3, s27_6, s27_9, s27_10, s27_11, s27_14, s27_15, s27_16, s27_18, s27_21, s27_24, s27_25, s27_26, s27_29, s27_30, s27_31, s27_33, s27_36, s27_39, s27_40, s27_41, s27_44, s27_45, s27_46, s27_48, s27_51, s27_54, s27_55, s27_56, s27_59, s27_60, s27_61, s27_62, s27_65, x_T_isWord hL ht (show 3 < 5 by decide), Option.bind_some, Option.toList_some, Option.toList_none, List.nil_append, List.cons_append, bI_z]
        cases wrd f 3 b e with
        | true => simp only [Bool.true_eq_false, if_true, if_false, s27_0, s27_1, s27_3, s27_6, s27_9, s27_10, s27_11, s27_14, s27_15, s27_16, s27_18, s27_21, s27_24, s27_25, s27_26, s27_29, s27_30, s27_31, s27_33, s27_36, s27_39, s27_40, s27_41, s27_44, s27_45, s27_46, s27_48, s27_51, s27_54, s27_55, s27_56, s27_59, s27_60, s27_61, s27_62, s27_65, x_T_readSwap hL he (show 1 ≤ n by omega) hn6, Option.bind_some, Option.toList_some, Option.toList_none, List.nil_append, List.cons_append, bI_b]
        | false => simp only [Bool.false_eq_true, if_true, if_false, s27_0, s27_1, s27_3, s27_6, s27_9, s27_10, s27_11, s27_14, s27_15, s27_16, s27_18, s27_21, s27_24, s27_25, s27_26, s27_29, s27_30, s27_31, s27_33, s27_36, s27_39, s27_40, s27_41, s27_44, s27_45, s27_46, s27_48, s27_51, s27_54, s27_55, s27_56, s27_59, s27_60, s27_61, s27_62, s27_65, x_T_readDraw hL ht hn6, Option.bind_some, Option.toList_some, Option.toList_none, List.nil_append, List.cons_append, bI_b]
end
def cCs (f : Nat → Nat) (L : Nat) (s : PS) : Bool × PS := cCl f L s.1 s.2.1 s.2.2.1 s.2.2.2.1 s.2.2.2.2.1 s.2.2.2.2.2
def nxt (f : Nat → Nat) (L : Nat) (s : PS) : PS := (s.1, s.2.1, s.2.2.1, (tok f L s.2.2.2.2.1).1, (tok f L s.2.2.2.2.1).2, s.2.2.2.2.2)
/-- the reading from the c-th clause on -/
def rdL (f : Nat → Nat) (L : Nat) : Nat → Nat → PS → Int32 × Nat × PS
  | 0, c, s => (nI s.2.2.2.1, c, s)
  | k + 1, c, s => if (cCs f L s).1 = false then (nI (cCs f L s).2.2.2.2.1, c, (cCs f L s).2) else if L ≤ (cCs f L s).2.2.2.2.1 then (-1, c + 1, (cCs f L s).2) else if f (cCs f L s).2.2.2.2.1 ≠ 59 ∨ c + 1 = 24 then (nI (cCs f L s).2.2.2.2.1, c + 1, (cCs f L s).2) else rdL f L k (c + 1) (nxt f L (cCs f L s).2)
theorem rdL_ok {f : Nat → Nat} {L : Nat} : ∀ {k c : Nat} {s : PS}, PSok f L s → PSok f L (rdL f L k c s).2.2 ∧ (rdL f L k c s).2.1 ≤ c + k
  | 0, c, s, h => ⟨h, Nat.le_refl _⟩
  | k + 1, c, s, h => by
    have h2 : PSok f L (cCs f L s).2 := cCl_ok h.1 h.2.1 h.2.2
    unfold rdL
    split
    · exact ⟨h2, by dsimp only; omega⟩
    · split
      · exact ⟨h2, by dsimp only; omega⟩
      · split
        · exact ⟨h2, by dsimp only; omega⟩
        · have h3 : PSok f L (nxt f L (cCs f L s).2) := ⟨h2.1, h2.2.1, tok_isTk h2.2.2.2.1⟩
          have := rdL_ok (k := k) (c := c + 1) h3
          exact ⟨this.1, by have := this.2; omega⟩
def rdA (f : Nat → Nat) (L n : Nat) (F G : Nat → Int32) (v : Int32) : Int32 × Nat × PS := rdL f L 24 0 (n, F, G, (tok f L 0).1, (tok f L 0).2, v)
theorem x_T_read {d n b e c L : Nat} {v : Int32} {F G : Nat → Int32} {f : Nat → Nat} {m : Mem} {q : MemJ} (hL : Ltr m f L) (hn : 3 ≤ n) (hn6 : n ≤ 6) : ev (d + 8) 23 0 [.ref 41, .ref 4, .null] [] (mk shC (pH m n F G b e v c) q) = some (some (.int (rdA f L n F G v).1), mk shC (pS m (rdA f L n F G v).2.1 (rdA f L n F G v).2.2) q) := by
  obtain ⟨h1, h2, h3⟩ := id hL
  have A : ∀ k c s, c + k = 24 → PSok f L s → ev (d + 8) 23 16 [.ref 41, .ref 4, .int (nI c)] [] (mk shC (pS m c s) q) = some (some (.int (rdL f L k c s).1), mk shC (pS m (rdL f L k c s).2.1 (rdL f L k c s).2.2) q) := by
    intro k
    induction k with
    | zero =>
      intro c s hc hs
      obtain rfl : c = 24 := by omega
      rw [s23_16]
      unfold pS
      simp only [s23_0, s23_1, s23_2, s23_5, s23_6, s23_7, s23_10, s23_11, s23_14, s23_15, s23_17, s23_19, s23_22, s23_23, s23_24, s23_27, s23_30, s23_31, s23_34, s23_35, s23_36, s23_37, s23_40, s23_41, s23_42, s23_45, s23_46, s23_49, s23_50, s23_53, s23_56, s23_57, s23_58, s23_59, s23_62, s23_63, s23_66, s23_67, s23_69, s23_72, s23_73, s23_76, s23_78, s23_81, s23_82, s23_85, s23_86, s23_87, s23_90, s23_93, s23_96, s23_97, s23_100, nI_irr, if_false, pH_b]
      rfl
    | succ k ih =>
      intro c s hc hs
      have h2' : PSok f L (cCs f L s).2 := cCl_ok hs.1 hs.2.1 hs.2.2
      have hb := h2'.2.2
      obtain ⟨b1, b2, b3, _⟩ := hb
      have X := x_T_readClause (d := d) (n := s.1) (F := s.2.1) (G := s.2.2.1) (v := s.2.2.2.2.2) (c := c) (q := q) hL hs.2.2 hs.1 hs.2.1
      rw [s23_16]
      unfold pS
      unfold pS at X
      unfold rdL
      rw [show cCl f L s.1 s.2.1 s.2.2.1 s.2.2.2.1 s.2.2.2.2.1 s.2.2.2.2.2 = cCs f L s from rfl] at X
      simp only [s23_0, s23_1, s23_2, s23_5, s23_6, s23_7, s23_10, s23_11, s23_14, s23_15, s23_17, s23_19, s23_22, s23_23, s23_24, s23_27, s23_30, s23_31, s23_34, s23_35, s23_36, s23_37, s23_40, s23_41, s23_42, s23_45, s23_46, s23_49, s23_50, s23_53, s23_56, s23_57, s23_58, s23_59, s23_62, s23_63, s23_66, s23_67, s23_69, s23_72, s23_73, s23_76, s23_78, s23_81, s23_82, s23_85, s23_86, s23_87, s23_90, s23_93, s23_96, s23_97, s23_100, nI_lt (show c < 24 by omega) (show 24 < 2 ^ 31 by decide), if_true, X, Option.bind_some, Option.toList_some, Option.toList_none, List.nil_append, List.cons_append, bI_z]
      generalize cCs f L s = r at h2' b1 b2 b3 ⊢
      obtain ⟨ok, n', F', G', b', e', v'⟩ := r
      dsimp only at h2' b1 b2 b3 ⊢
      cases ok with
      | false => simp only [not_true, if_false, if_true, s23_0, s23_1, s23_2, s23_5, s23_6, s23_7, s23_10, s23_11, s23_14, s23_15, s23_17, s23_19, s23_22, s23_23, s23_24, s23_27, s23_30, s23_31, s23_34, s23_35, s23_36, s23_37, s23_40, s23_41, s23_42, s23_45, s23_46, s23_49, s23_50, s23_53, s23_56, s23_57, s23_58, s23_59, s23_62, s23_63, s23_66, s23_67, s23_69, s23_72, s23_73, s23_76, s23_78, s23_81, s23_82, s23_85, s23_86, s23_87, s23_90, s23_93, s23_96, s23_97, s23_100, pH_b]
      | true =>
        simp only [Bool.true_eq_false, not_false_eq_true, if_true, if_false, s23_0, s23_1, s23_2, s23_5, s23_6, s23_7, s23_10, s23_11, s23_14, s23_15, s23_17, s23_19, s23_22, s23_23, s23_24, s23_27, s23_30, s23_31, s23_34, s23_35, s23_36, s23_37, s23_40, s23_41, s23_42, s23_45, s23_46, s23_49, s23_50, s23_53, s23_56, s23_57, s23_58, s23_59, s23_62, s23_63, s23_66, s23_67, s23_69, s23_72, s23_73, s23_76, s23_78, s23_81, s23_82, s23_85, s23_86, s23_87, s23_90, s23_93, s23_96, s23_97, s23_100, pH_b, pH_c, pH_L, h1, nI_add, pH_muc, am_b0]
        by_cases hbL : L ≤ b'
        · simp only [hbL, show ¬ nI b' < nI L by rw [nI_ltI (by omega) (by omega)]; omega, if_false, if_true]
        · have hf := h3 b' (by omega)
          simp only [hbL, nI_lt (show b' < L by omega) (show L < 2 ^ 31 by omega), if_true, if_false, s23_0, s23_1, s23_2, s23_5, s23_6, s23_7, s23_10, s23_11, s23_14, s23_15, s23_17, s23_19, s23_22, s23_23, s23_24, s23_27, s23_30, s23_31, s23_34, s23_35, s23_36, s23_37, s23_40, s23_41, s23_42, s23_45, s23_46, s23_49, s23_50, s23_53, s23_56, s23_57, s23_58, s23_59, s23_62, s23_63, s23_66, s23_67, s23_69, s23_72, s23_73, s23_76, s23_78, s23_81, s23_82, s23_85, s23_86, s23_87, s23_90, s23_93, s23_96, s23_97, s23_100, pH_b, pH_c, tC42, nC42, show b' < 200 by omega, pH_42, hf.1, nI_eq (show f b' < 2 ^ 31 by omega) (show 59 < 2 ^ 31 by decide), nI_eq (show c + 1 < 2 ^ 31 by omega) (show 24 < 2 ^ 31 by decide), x_T_nextToken hL b2, Option.bind_some, Option.toList_some, Option.toList_none, List.nil_append, List.cons_append, nI_add]
          by_cases h59 : f b' = 59
          · by_cases h24 : c + 1 = 24
            · simp only [h59, h24, ne_eq, not_true, not_false_eq_true, or_true, if_true, if_false]
            · simp only [h59, h24, ne_eq, not_true, not_false_eq_true, or_false, or_self, if_true, if_false]
              exact ih (c + 1) (nxt f L (n', F', G', b', e', v')) (by omega) ⟨h2'.1, h2'.2.1, tok_isTk b2⟩
          · simp only [h59, ne_eq, not_false_eq_true, true_or, if_true, if_false]
  simp only [s23_0, s23_1, s23_2, s23_5, s23_6, s23_7, s23_10, s23_11, s23_14, s23_15, s23_17, s23_19, s23_22, s23_23, s23_24, s23_27, s23_30, s23_31, s23_34, s23_35, s23_36, s23_37, s23_40, s23_41, s23_42, s23_45, s23_46, s23_49, s23_50, s23_53, s23_56, s23_57, s23_58, s23_59, s23_62, s23_63, s23_66, s23_67, s23_69, s23_72, s23_73, s23_76, s23_78, s23_81, s23_82, s23_85, s23_86, s23_87, s23_90, s23_93, s23_96, s23_97, s23_100, pH_muc, nI_lit.symm, pH_mue, x_T_nextToken hL (Nat.zero_le L), Option.bind_some, Option.toList_some, Option.toList_none, List.nil_append, List.cons_append]
  exact A 24 0 (n, F, G, (tok f L 0).1, (tok f L 0).2, v) rfl ⟨hn, hn6, tok_isTk (Nat.zero_le L)⟩
/-! the text: the rest -/
theorem x_T_length {d : Nat} {m : Mem} {q : MemJ} : ev d 18 0 [.ref 41] [] (mk shC m q) = some (some (.int (m 41 1)), mk shC m q) := by
  simp only [s18_0, s18_1, s18_4]
theorem x_T_clauses {d : Nat} {m : Mem} {q : MemJ} : ev d 53 0 [.ref 41] [] (mk shC m q) = some (some (.int (m 41 5)), mk shC m q) := by
  simp only [s53_0, s53_1, s53_4]
theorem x_T_clear {d : Nat} {m : Mem} {q : MemJ} : ev d 20 0 [.ref 41] [] (mk shC m q) = some (none, mk shC (mu m 41 (upd (m 41) 1 (nI 0))) q) := by
  simp only [s20_0, s20_1, s20_2, s20_5]
theorem x_T_isFull {d L : Nat} {m : Mem} {q : MemJ} (h : m 41 1 = nI L) (hL : L ≤ 200) : ev d 16 0 [.ref 41] [] (mk shC m q) = some (some (.int (bI (decide (L = 200)))), mk shC m q) := by
  simp only [s16_0, s16_1, s16_4, s16_7, s16_10, s16_11, s16_14, s16_15, h, nI_ltI (show L < 2 ^ 31 by omega) (show 200 < 2 ^ 31 by decide), am_b0, am_b1]
  unfold bI
  by_cases hl : L < 200
  · rw [if_pos hl, if_neg (by simp; omega)]
  · rw [if_neg hl, if_pos (by simp; omega)]
theorem x_T_append {d L : Nat} {x : Int32} {m : Mem} {q : MemJ} (h : m 41 1 = nI L) (hL : L < 200) : ev d 17 0 [.ref 41, .int x] [] (mk shC m q) = some (none, mk shC (mu (mu m 42 (upd (m 42) L x)) 41 (upd (m 41) 1 (nI (L + 1)))) q) := by
  simp only [s17_0, s17_1, s17_4, s17_5, s17_8, s17_9, s17_10, s17_11, s17_12, s17_15, s17_16, s17_17, s17_20, h, tC42, nC42, hL, mu_ne (show (41 : Nat) ≠ 42 by decide), nI_add]
