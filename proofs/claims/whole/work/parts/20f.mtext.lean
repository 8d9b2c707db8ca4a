/-! the text's clauses alike: flip, draw, any clause -/
section
variable {d b e t c L x lo hi k n i : Nat} {f : Nat → Nat} {F G R W N : Nat → Int32} {m : Mem} {q : MemJ} {h : AH} {v w : Int32} {v1 v2 : Value}
/-- a model row for any arrangement -/
theorem AR_some (hF : AI F) (n : Nat) (G : Nat → Int32) : ∃ R, AR n F G R := by
  obtain ⟨R, hR⟩ := hF.2.1
  refine ⟨fun j => if j = 0 then nI n else if 21 ≤ j then G (j - 21) else R j, by simp, fun x y z hx hy hz hd hP => ?_, fun e i he hi => ?_⟩
  · rw [hR x y z hx hy hz hd rfl]
    have := pT_lt hx hy hz hd
    unfold mS
    simp only [show ¬ 1 + pT x y z = 0 by omega, show ¬ 21 ≤ 1 + pT x y z by omega, if_false]
  · unfold mco
    simp only [show ¬ 21 + 3 * e + i = 0 by omega, show 21 ≤ 21 + 3 * e + i by omega, if_true, if_false]
    rw [show 21 + 3 * e + i - 21 = e * 3 + i by omega]
theorem zaF_pt {X Y Z : Int32} (hG : zaF G 18) (he : e < 6) : zaF (pt3 G e X Y Z) 18 := fun i hi => by
  unfold pt3
  simp only [upd]
  rw [if_neg (by omega), if_neg (by omega), if_neg (by omega)]
  exact hG i hi
/-- what a clause keeps -/
theorem cCl_AI (hF : AI F) (hG : zaF G 18) (h3 : 3 ≤ n) (h6 : n ≤ 6) : AI (cCl f L n F G b e v).2.2.1 ∧ zaF (cCl f L n F G b e v).2.2.2.1 18 := by
  unfold cCl
  split
  · unfold cSg
    split
    · exact ⟨hF, hG⟩
    · next k hk =>
      have hk := rdN_le hk
      unfold cSg2
      split
      · next hw =>
        unfold sgW at hw
        simp only [Bool.and_eq_true, decide_eq_true_eq] at hw
        refine ⟨(AR_signs (R := G) (G := G) hk.2 hF (by have := (tri_pos k hk.1 hk.2).1; omega)).2, fun i hi => ?_⟩
        have := bgn_at k G (i / 3) (i % 3) (Nat.mod_lt _ (by decide))
        rw [show i / 3 * 3 + i % 3 = i by omega, if_neg (by omega)] at this
        exact this.trans (hG i hi)
      · exact ⟨hF, hG⟩
  · split
    · unfold cPt
      split
      · exact ⟨hF, hG⟩
      · next k hk =>
        have hk := rdN_le hk
        unfold cPt1
        split
        · exact ⟨hF, hG⟩
        · unfold cPt2
          split
          · exact ⟨hF, hG⟩
          · unfold cPt3
            split
            · exact ⟨hF, hG⟩
            · exact ⟨hF, zaF_pt hG (by omega)⟩
    · split
      · unfold cFl
        split
        · exact ⟨hF, hG⟩
        · next k hk =>
          have hk := rdN_le hk
          obtain ⟨R, hR⟩ := AR_some hF n G
          exact ⟨(AR_flip hR hF h6 (show k < n by omega)).2.1, zaF_pt hG (by omega)⟩
      · split
        · unfold cSw
          split
          · exact ⟨hF, hG⟩
          · next k hk =>
            have hk := rdN_le hk
            unfold cSw2
            split
            · exact ⟨hF, hG⟩
            · next j hj =>
              have hj := rdN_le hj
              split
              · exact ⟨hF, hG⟩
              · next hjk =>
                exact ⟨(trd_T hF h6 (show k < n by omega) (show j < n by omega) (fun h => hjk h.symm)).2.2, zaF_pt (zaF_pt hG (by omega)) (by omega)⟩
        · unfold cDr
          split
          · obtain ⟨R, hR⟩ := AR_some hF n G
            exact ⟨(AR_draw hR hF h6).2.1, hG⟩
          · exact ⟨hF, hG⟩
theorem x_M_readsFlip {D : Bool} (hL : LtM m f L) (he : e ≤ L) (hD : m 0 13 = bI D) (hn : 1 ≤ n) (hn6 : n ≤ 6) (hA : D = true → AR n F G R) (hF : AI F) : ∃ R' N', ev (d + 5) 174 72 [.ref 0, .null] [] (mk shM (mP m R W N (tok f L e).1 (tok f L e).2 n c) q) = some (some (.int (bI (cFl f L n F G e v).1)), mk shM (mP m R' W N' (cFl f L n F G e v).2.2.2.2.1 (cFl f L n F G e v).2.2.2.2.2.1 (cFl f L n F G e v).2.1 c) q) ∧ CR D R (cFl f L n F G e v) R' := by
  have t1 := tok_isTk (f := f) he
  have rd := x_M_reads (d := d + 1) (k := 0) (lo := 0) (hi := n - 1) (R := R) (W := W) (N := N) (t := n) (c := c) (q := q) hL t1 (by decide) (by decide) (by omega)
  unfold cFl
  cases hr : rdN f L (tok f L e).1 (tok f L e).2 0 (n - 1) with
  | none =>
    rw [hr] at rd
    dsimp only at rd ⊢
    refine ⟨R, N, ?_, fun _ h => (by cases h), fun _ => rfl⟩
    simp only [s174_72, s174_73, s174_74, s174_75, s174_76, s174_79, s174_80, s174_81, s174_84, s174_85, s174_86, s174_89, s174_90, s174_93, s174_96, s174_97, s174_98, s174_101, s174_102, s174_103, s174_106, s174_107, s174_108, am_b0, am_b1, mP_t, nI_sub hn, rd, Option.bind_some, Option.toList_some, Option.toList_none, List.nil_append, List.cons_append, nI00, if_true, sFl, bI_f]
  | some k =>
    rw [hr] at rd
    have hk := rdN_le hr
    dsimp only at rd ⊢
    cases D with
    | false =>
      rw [bI_f] at hD
      refine ⟨R, upd N 0 (nI k), ?_, fun h => (by cases h), fun _ => rfl⟩
      simp only [s174_72, s174_73, s174_74, s174_75, s174_76, s174_79, s174_80, s174_81, s174_84, s174_85, s174_86, s174_89, s174_90, s174_93, s174_96, s174_97, s174_98, s174_101, s174_102, s174_103, s174_106, s174_107, s174_108, am_b0, am_b1, mP_t, nI_sub hn, rd, Option.bind_some, Option.toList_some, Option.toList_none, List.nil_append, List.cons_append, nI10, if_false, mP_d, hD, nI00, if_true, bI_t]
    | true =>
      rw [bI_t] at hD
      have A := hA rfl
      have fl := x_M_flips (d := d + 2) (n := n) (e := k) (m := mP m R W (upd N 0 (nI k)) (tok f L (tok f L e).2).1 (tok f L (tok f L e).2).2 n c) (q := q) (by rw [mP_1]; exact A.1) hn6 (by omega)
      rw [mP_1, mP_mu1] at fl
      have af := AR_flip A hF hn6 (show k < n by omega)
      refine ⟨ngM (flM n k R).1 k, upd N 0 (nI k), ?_, fun _ _ => af.1, fun h => (by cases h)⟩
      simp only [s174_72, s174_73, s174_74, s174_75, s174_76, s174_79, s174_80, s174_81, s174_84, s174_85, s174_86, s174_89, s174_90, s174_93, s174_96, s174_97, s174_98, s174_101, s174_102, s174_103, s174_106, s174_107, s174_108, am_b0, am_b1, mP_t, nI_sub hn, rd, Option.bind_some, Option.toList_some, Option.toList_none, List.nil_append, List.cons_append, nI10, if_false, mP_d, hD, tM8, nM8, show 0 < 4 by decide, mP_8, show upd N 0 (nI k) 0 = nI k by simp [upd], fl, bI_t]
theorem x_M_readsClause {D : Bool} (hL : LtM m f L) (ht : isTk f L b e) (hD : m 0 13 = bI D) (hn : 1 ≤ n) (hn6 : n ≤ 6) (hA : D = true → AR n F G R) (hF : AI F) : ∃ R' W' N', ev (d + 5) 174 0 [.ref 0, .null] [] (mk shM (mP m R W N b e n c) q) = some (some (.int (bI (cCl f L n F G b e v).1)), mk shM (mP m R' W' N' (cCl f L n F G b e v).2.2.2.2.1 (cCl f L n F G b e v).2.2.2.2.2.1 (cCl f L n F G b e v).2.1 c) q) ∧ CR D R (cCl f L n F G b e v) R' := by
  have he := ht.2.1
  have w0 := x_M_isWord (d := d + 4) (R := R) (W := W) (N := N) (t := n) (c := c) (q := q) (x0 := 115) (x1 := 105) (x2 := 103) (x3 := 110) (x4 := 115) hL ht (by decide) (by decide) (by decide) (by decide) (by decide)
  have w1 := x_M_isWord (d := d + 4) (R := R) (W := W) (N := N) (t := n) (c := c) (q := q) (x0 := 112) (x1 := 111) (x2 := 105) (x3 := 110) (x4 := 116) hL ht (by decide) (by decide) (by decide) (by decide) (by decide)
  have w2 := x_M_isWord (d := d + 4) (R := R) (W := W) (N := N) (t := n) (c := c) (q := q) (x0 := 102) (x1 := 108) (x2 := 105) (x3 := 112) (x4 := 0) hL ht (by decide) (by decide) (by decide) (by decide) (by decide)
  have w3 := x_M_isWord (d := d + 4) (R := R) (W := W) (N := N) (t := n) (c := c) (q := q) (x0 := 115) (x1 := 119) (x2 := 97) (x3 := 112) (x4 := 0) hL ht (by decide) (by decide) (by decide) (by decide) (by decide)
  have w4 := x_M_isWord (d := d + 4) (R := R) (W := W) (N := N) (t := n) (c := c) (q := q) (x0 := 100) (x1 := 114) (x2 := 97) (x3 := 119) (x4 := 0) hL ht (by decide) (by decide) (by decide) (by decide) (by decide)
  rw [← wrd5 (k := 0) (by rfl) (by decide)] at w0
  rw [← wrd5 (k := 1) (by rfl) (by decide)] at w1
  rw [← wrd4 (k := 2) (by rfl)] at w2
  rw [← wrd4 (k := 3) (by rfl)] at w3
  rw [← wrd4 (k := 4) (by rfl)] at w4
  have nx := x_M_next (d := d + 2) (R := R) (W := W) (N := N) (b := b) (t := n) (c := c) (q := q) hL he
  unfold cCl
  cases h0 : wrd f 0 b e with
  | true =>
    rw [h0, bI_t] at w0
    obtain ⟨R', N', g1, g2⟩ := x_M_readsSigns (d := d) (R := R) (W := W) (N := N) (n := n) (G := G) (c := c) (q := q) (v := v) hL he hD hF
    refine ⟨R', W, N', ?_, g2⟩
    simp only [s174_0, s174_1, s174_3, s174_5, s174_7, s174_9, s174_11, s174_14, s174_17, s174_18, s174_21, s174_22, s174_25, s174_26, s174_27, s174_29, s174_31, s174_33, s174_35, s174_37, s174_40, s174_43, s174_44, s174_47, s174_48, s174_51, s174_52, s174_53, s174_55, s174_57, s174_59, s174_61, s174_62, s174_65, s174_68, s174_69, bI_b, w0, Option.bind_some, Option.toList_some, Option.toList_none, List.nil_append, List.cons_append, nI10, if_false, nx, g1, if_true]
  | false =>
    rw [h0, bI_f] at w0
    simp only [Bool.false_eq_true, if_false]
    cases h1 : wrd f 1 b e with
    | true =>
      rw [h1, bI_t] at w1
      obtain ⟨R', N', g1, g2⟩ := x_M_readsPoint (d := d) (W := W) (N := N) (c := c) (q := q) (v := v) hL he hD hn hn6 hA
      refine ⟨R', W, N', ?_, g2⟩
      simp only [s174_0, s174_1, s174_3, s174_5, s174_7, s174_9, s174_11, s174_14, s174_17, s174_18, s174_21, s174_22, s174_25, s174_26, s174_27, s174_29, s174_31, s174_33, s174_35, s174_37, s174_40, s174_43, s174_44, s174_47, s174_48, s174_51, s174_52, s174_53, s174_55, s174_57, s174_59, s174_61, s174_62, s174_65, s174_68, s174_69, bI_b, w0, w1, Option.bind_some, Option.toList_some, Option.toList_none, List.nil_append, List.cons_append, nI00, nI10, if_false, nx, g1, if_true]
    | false =>
      rw [h1, bI_f] at w1
      simp only [Bool.false_eq_true, if_false]
      cases h2 : wrd f 2 b e with
      | true =>
        rw [h2, bI_t] at w2
        obtain ⟨R', N', g1, g2⟩ := x_M_readsFlip (d := d) (W := W) (N := N) (c := c) (q := q) (v := v) hL he hD hn hn6 hA hF
        refine ⟨R', W, N', ?_, g2⟩
        rw [if_pos rfl, ← g1]
        simp only [s174_0, s174_1, s174_3, s174_5, s174_7, s174_9, s174_11, s174_14, s174_17, s174_18, s174_21, s174_22, s174_25, s174_26, s174_27, s174_29, s174_31, s174_33, s174_35, s174_37, s174_40, s174_43, s174_44, s174_47, s174_48, s174_51, s174_52, s174_53, s174_55, s174_57, s174_59, s174_61, s174_62, s174_65, s174_68, s174_69, bI_b, w0, w1, w2, Option.bind_some, Option.toList_some, Option.toList_none, List.nil_append, List.cons_append, nI00, nI10, if_false, nx, if_true]
      | false =>
        rw [h2, bI_f] at w2
        simp only [Bool.false_eq_true, if_false]
        have pre : ev (d + 5) 174 0 [.ref 0, .null] [] (mk shM (mP m R W N b e n c) q) = ev (d + 5) 174 109 [.ref 0, .null] [] (mk shM (mP m R W N b e n c) q) := by
          simp only [s174_0, s174_1, s174_3, s174_5, s174_7, s174_9, s174_11, s174_14, s174_17, s174_18, s174_21, s174_22, s174_25, s174_26, s174_27, s174_29, s174_31, s174_33, s174_35, s174_37, s174_40, s174_43, s174_44, s174_47, s174_48, s174_51, s174_52, s174_53, s174_55, s174_57, s174_59, s174_61, s174_62, s174_65, s174_68, s174_69, bI_b, w0, w1, w2, Option.bind_some, Option.toList_some, Option.toList_none, List.nil_append, List.cons_append, nI00, if_true]
        cases h3 : wrd f 3 b e with
        | true =>
          rw [h3, bI_t] at w3
          obtain ⟨R', W', N', g1, g2⟩ := x_M_readsSwap (d := d) (W := W) (N := N) (c := c) (q := q) (v := v) hL he hD hn hn6 hA hF
          refine ⟨R', W', N', ?_, g2⟩
          rw [pre]
          simp only [s174_109, s174_110, s174_112, s174_114, s174_116, s174_118, s174_119, s174_122, s174_125, s174_126, s174_129, s174_130, s174_133, s174_134, s174_135, s174_137, s174_139, s174_141, s174_143, s174_144, s174_147, s174_150, s174_151, s174_154, s174_155, s174_158, s174_161, s174_162, s174_165, s174_166, s174_167, s174_168, s174_169, bI_b, am_b0, am_b1, w3, Option.bind_some, Option.toList_some, Option.toList_none, List.nil_append, List.cons_append, nI10, if_false, nx, g1, if_true]
        | false =>
          rw [h3, bI_f] at w3
          simp only [Bool.false_eq_true, if_false]
          rw [pre]
          unfold cDr
          cases h4 : wrd f 4 b e with
          | false =>
            rw [h4, bI_f] at w4
            refine ⟨R, W, N, ?_, fun _ h => (by cases h), fun _ => rfl⟩
            simp only [Bool.false_eq_true, s174_109, s174_110, s174_112, s174_114, s174_116, s174_118, s174_119, s174_122, s174_125, s174_126, s174_129, s174_130, s174_133, s174_134, s174_135, s174_137, s174_139, s174_141, s174_143, s174_144, s174_147, s174_150, s174_151, s174_154, s174_155, s174_158, s174_161, s174_162, s174_165, s174_166, s174_167, s174_168, s174_169, bI_b, am_b0, am_b1, w3, w4, Option.bind_some, Option.toList_some, Option.toList_none, List.nil_append, List.cons_append, nI00, if_true, if_false, sFl, bI_f]
          | true =>
            rw [h4, bI_t] at w4
            rw [if_pos rfl]
            cases D with
            | false =>
              rw [bI_f] at hD
              refine ⟨R, W, N, ?_, fun h => (by cases h), fun _ => rfl⟩
              simp only [s174_109, s174_110, s174_112, s174_114, s174_116, s174_118, s174_119, s174_122, s174_125, s174_126, s174_129, s174_130, s174_133, s174_134, s174_135, s174_137, s174_139, s174_141, s174_143, s174_144, s174_147, s174_150, s174_151, s174_154, s174_155, s174_158, s174_161, s174_162, s174_165, s174_166, s174_167, s174_168, s174_169, bI_b, am_b0, am_b1, w3, w4, Option.bind_some, Option.toList_some, Option.toList_none, List.nil_append, List.cons_append, nI00, nI10, if_true, if_false, nx, mP_d, hD, bI_t]
            | true =>
              rw [bI_t] at hD
              have A := hA rfl
              have dr := x_M_draws (d := d + 2) (n := n) (m := mP m R W N (tok f L e).1 (tok f L e).2 n c) (q := q) (by rw [mP_1]; exact A.1) hn6
              rw [mP_1, mP_mu1] at dr
              refine ⟨(dwM n R).1, W, N, ?_, fun _ _ => (AR_draw A hF hn6).1, fun h => (by cases h)⟩
              simp only [s174_109, s174_110, s174_112, s174_114, s174_116, s174_118, s174_119, s174_122, s174_125, s174_126, s174_129, s174_130, s174_133, s174_134, s174_135, s174_137, s174_139, s174_141, s174_143, s174_144, s174_147, s174_150, s174_151, s174_154, s174_155, s174_158, s174_161, s174_162, s174_165, s174_166, s174_167, s174_168, s174_169, bI_b, am_b0, am_b1, w3, w4, Option.bind_some, Option.toList_some, Option.toList_none, List.nil_append, List.cons_append, nI00, nI10, if_true, if_false, nx, mP_d, hD, dr, bI_t]
end
