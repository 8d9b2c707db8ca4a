/-! the model's fault and tell -/
section
variable {d b e t c L k n : Nat} {f : Nat → Nat} {F G R W N : Nat → Int32} {m : Mem} {q : MemJ} {v : Int32} {D : Bool}
theorem mP_self (m : Mem) : ∃ b e t c, m = mP m (m 1) (m 9) (m 8) b e t c := by
  obtain ⟨b, hb⟩ := nI_any (m 0 9)
  obtain ⟨e, he⟩ := nI_any (m 0 10)
  obtain ⟨t, ht⟩ := nI_any (m 0 11)
  obtain ⟨c, hc⟩ := nI_any (m 0 12)
  refine ⟨b, e, t, c, ?_⟩
  funext i j
  by_cases h0 : i = 0
  · subst h0
    by_cases j9 : j = 9
    · subst j9; simp [mP, mPr, hb]
    by_cases j10 : j = 10
    · subst j10; simp [mP, mPr, he]
    by_cases j11 : j = 11
    · subst j11; simp [mP, mPr, ht]
    by_cases j12 : j = 12
    · subst j12; simp [mP, mPr, hc]
    simp [mP, mPr, j9, j10, j11, j12]
  by_cases h1 : i = 1
  · subst h1; simp [mP]
  by_cases h8 : i = 8
  · subst h8; simp [mP]
  by_cases h9 : i = 9
  · subst h9; simp [mP]
  simp [mP, h0, h1, h8, h9]
theorem x_M_readsAll (hL : LtM m f L) (hn : m 1 0 = nI n) (h3 : 3 ≤ n) (h6 : n ≤ 6) (hF : AI F) (hG : zaF G 18) (hA : D = true → AR n F G (m 1)) : ∃ R' W' N' C', ev (d + 6) 169 0 [.ref 0, .int (bI D), .null] [] (mk shM m q) = some (some (.int (bI (decide ((rdA f L n F G v).1 = -1)))), mk shM (mP (mD m D) R' W' N' (rdA f L n F G v).2.2.2.2.2.1 (rdA f L n F G v).2.2.2.2.2.2.1 (rdA f L n F G v).2.2.1 C') q) ∧ RR D (m 1) (rdA f L n F G v) R' C' := by
  obtain ⟨b, e, t, c, hm⟩ := mP_self m
  have hLD := mD_L (D := D) hL
  have cn : ∀ {b e t c : Nat}, ev (d + 5) 170 0 [.ref 0] [] (mk shM (mP (mD m D) (m 1) (m 9) (m 8) b e t c) q) = some (some (.int (nI n)), mk shM (mP (mD m D) (m 1) (m 9) (m 8) b e t c) q) := fun {b e t c} => by
    rw [x_M_n, mP_1, hn]
  have nx := x_M_next (d := d + 3) (R := m 1) (W := m 9) (N := m 8) (b := b) (e := 0) (t := n) (c := 1) (q := q) hLD (Nat.zero_le L)
  have tk := tok_isTk (f := f) (Nat.zero_le L)
  obtain ⟨R1, W1, N1, g1, g2⟩ := x_M_readsClause (d := d) (R := m 1) (W := m 9) (N := m 8) (n := n) (F := F) (G := G) (c := 1) (q := q) (v := v) hLD tk mD_d (by omega) h6 hA hF
  have hs : PSok f L (n, F, G, (tok f L 0).1, (tok f L 0).2, v) := ⟨h3, h6, tk⟩
  obtain ⟨R', W', N', C', g3, g4, g5, g6⟩ := x_M_readsLoop (d := d) (q := q) hLD mD_d (w1 := bI D) 23 0 (n, F, G, (tok f L 0).1, (tok f L 0).2, v) R1 W1 N1 rfl hs hF hG ⟨fun h1 h2 => g2.1 h1 h2, fun _ => rfl⟩
  refine ⟨R', W', N', C', ?_, g4, fun h => (g5 h).trans (g2.2 h), g6⟩
  refine Eq.trans ?_ g3
  conv => lhs; rw [hm]
  simp only [s169_0, s169_1, s169_2, s169_5, s169_6, s169_7, s169_10, s169_11, s169_12, s169_15, s169_16, s169_17, s169_20, s169_23, s169_24, s169_27, s169_28, s169_31, bI_b, nI_lit.symm, mP_mD, mP_mue, mP_muc, cn, mP_mut, nx, Option.bind_some, Option.toList_some, Option.toList_none, List.nil_append, List.cons_append, g1]
  rfl
theorem x_M_fault (hL : LtM m f L) (hn : m 1 0 = nI n) (h3 : 3 ≤ n) (h6 : n ≤ 6) (hF : AI F) (hG : zaF G 18) : ∃ W' N' b' e' t' c', ev (d + 7) 168 0 [.ref 0] [] (mk shM m q) = some (some (.int (rdA f L n F G v).1), mk shM (mP (mD m false) (m 1) W' N' b' e' t' c') q) := by
  obtain ⟨R', W', N', C', g1, g2, g3, g4⟩ := x_M_readsAll (d := d) (q := q) (v := v) (D := false) hL hn h3 h6 hF hG (fun h => by cases h)
  rw [g3 rfl, bI_f] at g1
  refine ⟨W', N', (rdA f L n F G v).2.2.2.2.2.1, (rdA f L n F G v).2.2.2.2.2.2.1, (rdA f L n F G v).2.2.1, C', ?_⟩
  by_cases h : (rdA f L n F G v).1 = -1
  · rw [decide_eq_true h, bI_t] at g1
    simp only [s168_0, s168_1, s168_2, s168_5, s168_8, s168_9, s168_12, s168_13, s168_16, g1, Option.bind_some, Option.toList_some, Option.toList_none, List.nil_append, List.cons_append, nI10, if_false, h]
  · rw [decide_eq_false h, bI_f] at g1
    simp only [s168_0, s168_1, s168_2, s168_5, s168_8, s168_9, s168_12, s168_13, s168_16, g1, Option.bind_some, Option.toList_some, Option.toList_none, List.nil_append, List.cons_append, nI00, if_true, mP_b, ← g4 h]
/-- the model's heap behind a text that was done -/
def tlM (m : Mem) : Mem := mu (mu m 0 (upd (upd (m 0) 4 (nI 0)) 1 (nI 0))) 2 (upd (upd (m 2) 0 (nI 0)) 1 (nI 0))
theorem mD_mP {D E : Bool} : mD (mP (mD m D) R W N b e t c) E = mP (mD m E) R W N b e t c := by
  funext i j
  by_cases h : i = 0
  · subst h
    by_cases hj : j = 13 <;> simp [mu, mP, mPr, upd, mD, hj]
  · simp [mu, mP, mD, h]
theorem mP_mP {R2 W2 N2 : Nat → Int32} {b2 e2 t2 c2 : Nat} : mP (mP m R W N b e t c) R2 W2 N2 b2 e2 t2 c2 = mP m R2 W2 N2 b2 e2 t2 c2 := by
  funext i j
  by_cases h : i = 0
  · subst h
    by_cases j9 : j = 9
    · simp [mP, mPr, j9]
    by_cases j10 : j = 10
    · simp [mP, mPr, j10]
    by_cases j11 : j = 11
    · simp [mP, mPr, j11]
    by_cases j12 : j = 12
    · simp [mP, mPr, j12]
    simp [mP, mPr, j9, j10, j11, j12]
  by_cases h1 : i = 1
  · subst h1; simp [mP]
  by_cases h8 : i = 8
  · subst h8; simp [mP]
  by_cases h9 : i = 9
  · subst h9; simp [mP]
  simp [mP, h, h1, h8, h9]
theorem x_M_tell (hL : LtM m f L) (hn : m 1 0 = nI n) (h3 : 3 ≤ n) (h6 : n ≤ 6) (hF : AI F) (hG : zaF G 18) (hA : AR n F G (m 1)) : ∃ R' W' N' b' e' t' c' E, ev (d + 7) 198 0 [.ref 0] [] (mk shM m q) = (if (rdA f L n F G v).1 = -1 then some (some (.int (nI (rdA f L n F G v).2.1)), mk shM (tlM (mP (mD m E) R' W' N' b' e' t' c')) q) else some (some (.int (-1003)), mk shM (mP (mD m E) (m 1) W' N' b' e' t' c') q)) ∧ ((rdA f L n F G v).1 = -1 → AR (rdA f L n F G v).2.2.1 (rdA f L n F G v).2.2.2.1 (rdA f L n F G v).2.2.2.2.1 R') := by
  obtain ⟨R1, W1, N1, C1, g1, g2, g3, g4⟩ := x_M_readsAll (d := d) (q := q) (v := v) (D := false) hL hn h3 h6 hF hG (fun h => by cases h)
  rw [g3 rfl, bI_f] at g1
  by_cases h : (rdA f L n F G v).1 = -1
  · rw [decide_eq_true h, bI_t] at g1
    obtain ⟨b1, e1, t1, g1⟩ : ∃ b1 e1 t1, ev (d + 6) 169 0 [.ref 0, .int (nI 0), .null] [] (mk shM m q) = some (some (.int (nI 1)), mk shM (mP (mD m false) (m 1) W1 N1 b1 e1 t1 C1) q) := ⟨_, _, _, g1⟩
    have hL2 : LtM (mP (mD m false) (m 1) W1 N1 b1 e1 t1 C1) f L := ⟨by rw [mP_L]; exact (mD_L hL).1, hL.2.1, fun i hi => by rw [mP_3]; exact (mD_L hL).2.2 i hi⟩
    obtain ⟨R2, W2, N2, C2, k1, k2, k3, k4⟩ := x_M_readsAll (d := d) (q := q) (v := v) (F := F) (G := G) (D := true) hL2 (by rw [mP_1]; exact hn) h3 h6 hF hG (fun _ => by rw [mP_1]; exact hA)
    rw [decide_eq_true h, bI_t, mD_mP, mP_mP] at k1
    refine ⟨R2, W2, N2, (rdA f L n F G v).2.2.2.2.2.1, (rdA f L n F G v).2.2.2.2.2.2.1, (rdA f L n F G v).2.2.1, C2, true, ?_, fun _ => (k2 h).2 rfl⟩
    rw [if_pos h, ← (k2 h).1]
    have c2 := mP_c (m := mD m true) (R := R2) (W := W2) (N := N2) (b := (rdA f L n F G v).2.2.2.2.2.1) (e := (rdA f L n F G v).2.2.2.2.2.2.1) (t := (rdA f L n F G v).2.2.1) (c := C2)
    generalize mP (mD m true) R2 W2 N2 (rdA f L n F G v).2.2.2.2.2.1 (rdA f L n F G v).2.2.2.2.2.2.1 (rdA f L n F G v).2.2.1 C2 = m2 at k1 c2 ⊢
    simp only [s198_0, s198_1, s198_2, s198_5, s198_8, s198_11, s198_12, s198_13, s198_14, s198_17, s198_18, s198_19, s198_20, s198_23, s198_24, s198_25, s198_28, s198_29, s198_32, s198_33, s198_34, s198_35, s198_36, s198_39, s198_40, s198_41, s198_42, s198_43, s198_46, g1, k1, Option.bind_some, Option.toList_some, Option.toList_none, List.nil_append, List.cons_append, nI10, if_false, tM2, nM2, nar0, show 0 < 2 by decide, show 1 < 2 by decide, mu_same, mu_mu, mu_ne (show (2 : Nat) ≠ 0 by decide), mu_ne (show (0 : Nat) ≠ 2 by decide)]
    rw [show tlM m2 = mu (mu m2 0 (upd (upd (m2 0) 4 (nI 0)) 1 (nI 0))) 2 (upd (upd (m2 2) 0 (nI 0)) 1 (nI 0)) from rfl, show upd (upd (m2 0) 4 (nI 0)) 1 (nI 0) 12 = m2 0 12 by simp [upd], c2]
  · rw [decide_eq_false h, bI_f] at g1
    refine ⟨R1, W1, N1, (rdA f L n F G v).2.2.2.2.2.1, (rdA f L n F G v).2.2.2.2.2.2.1, (rdA f L n F G v).2.2.1, C1, false, ?_, fun h' => absurd h' h⟩
    rw [if_neg h]
    simp only [s198_0, s198_1, s198_2, s198_5, s198_8, s198_11, s198_12, s198_13, s198_14, s198_17, s198_18, s198_19, s198_20, s198_23, s198_24, s198_25, s198_28, s198_29, s198_32, s198_33, s198_34, s198_35, s198_36, s198_39, s198_40, s198_41, s198_42, s198_43, s198_46, g1, Option.bind_some, Option.toList_some, Option.toList_none, List.nil_append, List.cons_append, nI00, if_true, if_false]
end
