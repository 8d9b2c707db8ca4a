/-! what follows from the signs: the rest -/
theorem FI_vi {m m' : Mem} {q : MemJ} {n : Nat} {F : Nat → Int32} (h : FI m q n F) (hv : VI m' n F) (hf : ∀ c, c < 49 ∨ 61 < c → m' c = m c) : FI m' q n F := by
  obtain ⟨f1, f2, f3, f4, f5, f6, f7⟩ := h
  unfold FI
  rw [hf 43 (by omega), hf 62 (by omega), hf 66 (by omega), hf 67 (by omega)]
  exact ⟨f1, f2, f3, f4, hv, f6, f7⟩
section
variable {d n : Nat} {m : Mem} {q : MemJ}
theorem x_F_canTellOf {k : Nat} (hN : NI m n) (hF : FI m q n (m 2)) (hk : k < 4) : ∃ m', ev (d + 9) 94 0 [.ref 43, .int (nI k)] [] (mk shC m q) = some (some (.int (bI (decide (k < 2) || orO n (m 2)))), mk shC m' q) ∧ fr fC m m' ∧ FI m' q n (m 2) := by
  by_cases h0 : k = 0
  · refine ⟨m, ?_, fr_rfl, hF⟩
    subst h0
    simp only [s94_0, s94_1, s94_4, s94_5, s94_6, s94_9, s94_10, s94_13, s94_16, s94_17, s94_20, s94_21, nI00, if_true, am_b1]
    rfl
  · by_cases h1 : k = 1
    · refine ⟨m, ?_, fr_rfl, hF⟩
      subst h1
      simp only [s94_0, s94_1, s94_4, s94_5, s94_6, s94_9, s94_10, s94_13, s94_16, s94_17, s94_20, s94_21, nI10, if_false, if_true, am_b1]
      rfl
    · obtain ⟨m1, e1, g1, h1'⟩ := x_F_isOrderly (d := d) hN hF
      refine ⟨m1, ?_, g1, h1'⟩
      rw [decide_eq_false (show ¬ k < 2 by omega), Bool.false_or]
      simp only [s94_0, s94_1, s94_4, s94_5, s94_6, s94_9, s94_10, s94_13, s94_16, s94_17, s94_20, s94_21, nI_z (show k < 2 ^ 31 by omega), h0, if_false, nI_eq (show k < 2 ^ 31 by omega) (show 1 < 2 ^ 31 by decide), h1, e1, Option.bind_some, Option.toList_some, Option.toList_none, List.nil_append, List.cons_append, bI_z]
      cases orO n (m 2) with
      | true => simp only [Bool.true_eq_false, if_false, s94_0, s94_1, s94_4, s94_5, s94_6, s94_9, s94_10, s94_13, s94_16, s94_17, s94_20, s94_21, am_b1]; rfl
      | false => simp only [if_true, s94_0, s94_1, s94_4, s94_5, s94_6, s94_9, s94_10, s94_13, s94_16, s94_17, s94_20, s94_21, am_b0]; rfl
theorem x_F_ofKind {k : Nat} (hN : NI m n) (hF : FI m q n (m 2)) (hk : k < 4) : ∃ m', ev (d + 6) 95 0 [.ref 43, .int (nI k)] [] (mk shC m q) = some (some (.ref (50 + 3 * k)), mk shC m' q) ∧ fr fC m m' ∧ FI m' q n (m 2) ∧ WR m' (50 + 3 * k) (vkL n (m 2) k) ∧ ∀ c, c < 49 ∨ 61 < c → m' c = m c := by
  obtain ⟨n1, n3, n6, ns, na, nz, nz3⟩ := hN
  have hV : VI m n (m 2) := hF.2.2.2.2.1
  match k, hk with
  | 0, _ =>
    obtain ⟨m1, e1, w1, v1, g1⟩ := x_V_cocircuits (d := d + 2) (q := q) oC0_1 n1 n6 ns hV
    have hc : ∀ c, c < 49 ∨ 61 < c → m1 c = m c := fun c hc => g1 c (by simp; omega)
    refine ⟨m1, ?_, fr_wk g1 (by decide), FI_vi hF v1 hc, w1, hc⟩
    simp only [s95_0, s95_1_0, s95_1_1, s95_1_2, s95_28, s95_29, s95_32, s95_33, s95_36, s95_39, s95_40, s95_41, s95_44, s95_45, s95_48, s95_51, s95_52, s95_53, s95_56, s95_57, s95_60, s95_63, s95_64, s95_65, s95_68, s95_69, s95_72, s95_75, e1, Option.bind_some, Option.toList_some, Option.toList_none, List.nil_append, List.cons_append]
  | 1, _ =>
    obtain ⟨m1, e1, w1, v1, g1⟩ := x_V_circuits (d := d + 2) (q := q) oC0_1 n1 n6 ns hV
    have hc : ∀ c, c < 49 ∨ 61 < c → m1 c = m c := fun c hc => g1 c (by simp; omega)
    refine ⟨m1, ?_, fr_wk g1 (by decide), FI_vi hF v1 hc, w1, hc⟩
    simp only [s95_0, s95_1_0, s95_1_1, s95_1_2, s95_28, s95_29, s95_32, s95_33, s95_36, s95_39, s95_40, s95_41, s95_44, s95_45, s95_48, s95_51, s95_52, s95_53, s95_56, s95_57, s95_60, s95_63, s95_64, s95_65, s95_68, s95_69, s95_72, s95_75, e1, Option.bind_some, Option.toList_some, Option.toList_none, List.nil_append, List.cons_append]
  | 2, _ =>
    obtain ⟨m1, e1, w1, v1, g1⟩ := x_V_covectors (d := d + 1) (q := q) oC0_1 n1 n6 ns hV
    have hc : ∀ c, c < 49 ∨ 61 < c → m1 c = m c := fun c hc => g1 c (by simp; omega)
    refine ⟨m1, ?_, fr_wk g1 (by decide), FI_vi hF v1 hc, w1, hc⟩
    simp only [s95_0, s95_1_0, s95_1_1, s95_1_2, s95_28, s95_29, s95_32, s95_33, s95_36, s95_39, s95_40, s95_41, s95_44, s95_45, s95_48, s95_51, s95_52, s95_53, s95_56, s95_57, s95_60, s95_63, s95_64, s95_65, s95_68, s95_69, s95_72, s95_75, e1, Option.bind_some, Option.toList_some, Option.toList_none, List.nil_append, List.cons_append]
  | 3, _ =>
    obtain ⟨m1, e1, w1, v1, g1⟩ := x_V_topes (d := d) (q := q) oC0_1 n1 n6 ns hV
    have hc : ∀ c, c < 49 ∨ 61 < c → m1 c = m c := fun c hc => g1 c (by simp; omega)
    refine ⟨m1, ?_, fr_wk g1 (by decide), FI_vi hF v1 hc, w1, hc⟩
    simp only [s95_0, s95_1 (y0 := nI 3) (show (nI 3).toInt < 0 ∨ 2 < (nI 3).toInt by decide), s95_64, s95_65, s95_68, s95_69, s95_72, s95_75, e1, Option.bind_some, Option.toList_some, Option.toList_none, List.nil_append, List.cons_append]
theorem x_F_graph (hN : NI m n) (hF : FI m q n (m 2)) : ∃ m' q', ev (d + 7) 117 0 [.ref 43] [] (mk shC m q) = some (some (.ref 62), mk shC m' q') ∧ fr fC m m' ∧ FI m' q' n (m 2) ∧ m' 62 1 = nI (toL n (m 2)) ∧ ∀ i, i < toL n (m 2) → q' i = nJ (nxO (vkL n (m 2) 3) (toL n (m 2)) i) := by
  have f2 := hF.2.1
  rcases f2 with h | ⟨h, h2, h3⟩
  · obtain ⟨m1, e1, g1, F1, w1, c1⟩ := x_F_ofKind (d := d) (k := 3) hN hF (by decide)
    obtain ⟨q2, e2, b2⟩ := x_G_build (d := d + 1) (q := q) w1
    rw [show min (vkL n (m 2) 3).length 64 = toL n (m 2) from rfl] at e2 b2
    obtain ⟨f1, _, f3, f4, f5, f6, f7⟩ := F1
    generalize hm2 : mu m1 62 (upd (m1 62) 1 (nI (toL n (m 2)))) = m2 at e2
    have g2 : ∀ c, c ≠ 62 → m2 c = m1 c := fun c hc => by rw [← hm2, mu_ne hc]
    have l2 : m2 62 1 = nI (toL n (m 2)) := by rw [← hm2, mu_same]; simp [upd]
    refine ⟨mu m2 43 (upd (m2 43) 7 (nI 1)), q2, ?_, ?_, ?_, ?_, b2⟩
    · simp only [s117_0, s117_1, s117_4, s117_7, s117_8, s117_11, s117_12, s117_13, s117_16, s117_19, s117_20, s117_21, s117_24, s117_25, s117_28, h, nI00, if_true, e1, Option.bind_some, Option.toList_some, Option.toList_none, List.nil_append, List.cons_append, e2, am_b1]
    · intro c hc
      have h43 : c ≠ 43 := fun e => hc (by rw [e]; decide)
      have h62 : c ≠ 62 := fun e => hc (by rw [e]; decide)
      rw [mu_ne h43, g2 c h62]
      exact g1 c hc
    · refine ⟨?_, Or.inr ⟨by rw [mu_same]; simp [upd], by rw [mu_ne (by decide)]; exact l2, b2⟩, ?_, ?_, VI_fr f5 (fun c h1 h2 => by rw [mu_ne (by omega), g2 c (by omega)]), ?_, ?_⟩
      · rw [mu_same, g2 43 (by decide)]; simpa [upd] using f1
      · rw [mu_same, g2 43 (by decide)]; simpa [upd] using f3
      · rw [mu_same, g2 43 (by decide)]; simpa [upd] using f4
      · rw [mu_ne (by decide), g2 66 (by decide)]; exact f6
      · rw [mu_ne (by decide), g2 67 (by decide)]; exact f7
    · rw [mu_ne (by decide)]; exact l2
  · refine ⟨m, q, ?_, fr_rfl, hF, h2, h3⟩
    simp only [s117_0, s117_1, s117_4, s117_7, s117_8, s117_11, s117_12, s117_13, s117_16, s117_19, s117_20, s117_21, s117_24, s117_25, s117_28, h, nI10, if_false]
theorem x_F_mutations (hN : NI m n) (hF : FI m q n (m 2)) : ∃ m', ev (d + 9) 129 0 [.ref 43] [] (mk shC m q) = some (some (.int (nI (muS n (m 2)).1)), mk shC m' q) ∧ fr fC m m' ∧ FI m' q n (m 2) := by
  obtain ⟨n1, n3, n6, ns, na, nz, nz3⟩ := hN
  obtain ⟨f1, f2, f3, f4, f5, f6, f7⟩ := id hF
  by_cases h : m 43 8 = -1
  · obtain ⟨m1, e1, g1, g6, g7⟩ := x_O_mutations (d := d) (q := q) n1 n6 na nz nz3 f6 f7
    have g43 : m1 43 = m 43 := g1 43 (by decide)
    refine ⟨mu m1 43 (upd (m 43) 8 (nI (muS n (m 2)).1)), ?_, ?_, ?_⟩
    · simp only [s129_0, s129_1, s129_4, s129_5, s129_8, s129_9, s129_10, s129_13, s129_14, s129_17, s129_20, s129_23, s129_24, s129_27, h, if_true, e1, Option.bind_some, Option.toList_some, Option.toList_none, List.nil_append, List.cons_append, g43, mu_same]
      simp [upd]
    · intro c hc
      have h43 : c ≠ 43 := fun e => hc (by rw [e]; decide)
      rw [mu_ne h43]
      exact g1 c fun h => hc (by revert h; simp [fC]; omega)
    · refine ⟨?_, ?_, Or.inr (by rw [mu_same]; simp [upd]), ?_, VI_fr f5 (fun c h1 h2 => by rw [mu_ne (by omega), g1 c (by simp; omega)]), ?_, ?_⟩
      · rw [mu_same]; simpa [upd] using f1
      · rw [mu_same, mu_ne (by decide), g1 62 (by decide)]; simpa [upd] using f2
      · rw [mu_same]; simpa [upd] using f4
      · rw [mu_ne (by decide), g6]; exact nz
      · rw [mu_ne (by decide), g7]; exact nz3
  · refine ⟨m, ?_, fr_rfl, hF⟩
    rcases f3 with f3 | f3
    · exact absurd f3 h
    · rw [f3] at h
      simp only [s129_0, s129_1, s129_4, s129_5, s129_8, s129_9, s129_10, s129_13, s129_14, s129_17, s129_20, s129_23, s129_24, s129_27, f3, h, if_false]
theorem x_F_extensionWays (hN : NI m n) (hF : FI m q n (m 2)) : ∃ m', ev (d + 74) 133 0 [.ref 43] [] (mk shC m q) = some (some (.int (exO4 n (m 2))), mk shC m' q) ∧ fr fC m m' ∧ FI m' q n (m 2) := by
  obtain ⟨n1, n3, n6, ns, na, nz, nz3⟩ := hN
  obtain ⟨f1, f2, f3, f4, f5, f6, f7⟩ := id hF
  by_cases h : m 43 9 = -1
  · obtain ⟨m1, e1, g1, g6, g7⟩ := x_O_extensionWays (d := d) (q := q) n1 n3 n6 nz nz3 f6 f7
    have g43 : m1 43 = m 43 := g1 43 (by decide)
    refine ⟨mu m1 43 (upd (m 43) 9 (exO4 n (m 2))), ?_, ?_, ?_⟩
    · simp only [s133_0, s133_1, s133_4, s133_5, s133_8, s133_9, s133_10, s133_13, s133_14, s133_17, s133_18, s133_21, s133_24, s133_27, s133_28, s133_31, h, if_true, e1, Option.bind_some, Option.toList_some, Option.toList_none, List.nil_append, List.cons_append, g43, mu_same]
      simp [upd]
    · intro c hc
      have h43 : c ≠ 43 := fun e => hc (by rw [e]; decide)
      rw [mu_ne h43]
      exact g1 c fun h => hc (by revert h; simp [fC]; omega)
    · refine ⟨?_, ?_, ?_, Or.inr (by rw [mu_same]; simp [upd]), VI_fr f5 (fun c h1 h2 => by rw [mu_ne (by omega), g1 c (by simp; omega)]), ?_, ?_⟩
      · rw [mu_same]; simpa [upd] using f1
      · rw [mu_same, mu_ne (by decide), g1 62 (by decide)]; simpa [upd] using f2
      · rw [mu_same]; simpa [upd] using f3
      · rw [mu_ne (by decide)]; exact g6
      · rw [mu_ne (by decide)]; exact g7
  · refine ⟨m, ?_, fr_rfl, hF⟩
    rcases f4 with f4 | f4
    · exact absurd f4 h
    · rw [f4] at h
      simp only [s133_0, s133_1, s133_4, s133_5, s133_8, s133_9, s133_10, s133_13, s133_14, s133_17, s133_18, s133_21, s133_24, s133_27, s133_28, s133_31, f4, h, if_false]
end
