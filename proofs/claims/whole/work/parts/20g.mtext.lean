/-! the model's whole reading -/
def mD (m : Mem) (D : Bool) : Mem := mu m 0 (upd (m 0) 13 (bI D))
section
variable {d b e t c L k n : Nat} {f : Nat → Nat} {F G R W N : Nat → Int32} {m : Mem} {q : MemJ} {v : Int32} {D : Bool}
theorem mP_mD : mu (mP m R W N b e t c) 0 (upd (mP m R W N b e t c 0) 13 (bI D)) = mP (mD m D) R W N b e t c := by
  funext i j
  by_cases h : i = 0
  · subst h
    by_cases hj : j = 13 <;> simp [mu, mP, mPr, upd, mD, hj]
  · simp [mu, mP, mD, h]
theorem mD_d : mD m D 0 13 = bI D := by simp [mD, mu, upd]
theorem mD_L (h : LtM m f L) : LtM (mD m D) f L := by
  obtain ⟨h1, h2, h3⟩ := h
  refine ⟨by simp [mD, mu, upd, h1], h2, fun i hi => ?_⟩
  rw [show mD m D 3 = m 3 by simp [mD, mu]]
  exact h3 i hi
/-- what a reading leaves, on both sides -/
def RR (D : Bool) (R : Nat → Int32) (z : Int32 × Nat × PS) (R' : Nat → Int32) (C' : Nat) : Prop := (z.1 = -1 → C' = z.2.1 ∧ (D = true → AR z.2.2.1 z.2.2.2.1 z.2.2.2.2.1 R')) ∧ (D = false → R' = R) ∧ (z.1 ≠ -1 → z.1 = nI z.2.2.2.2.2.1)
theorem nI_ng (h : b < 1000) : nI b ≠ -1 := by
  intro hb
  have := congrArg Int32.toInt hb
  rw [nI_toInt (by omega)] at this
  rw [show (-1 : Int32).toInt = -1 by decide] at this
  omega
theorem x_M_readsLoop (hL : LtM m f L) (hD : m 0 13 = bI D) {w1 : Int32} : ∀ (k c : Nat) (s : PS) (R W N : Nat → Int32), c + (k + 1) = 24 → PSok f L s → AI s.2.1 → zaF s.2.2.1 18 → CR D R (cCs f L s) R → ∃ R' W' N' C', ev (d + 6) 169 32 [.ref 0, .int w1, .int (bI (cCs f L s).1)] [] (mk shM (mP m R W N (cCs f L s).2.2.2.2.1 (cCs f L s).2.2.2.2.2.1 (cCs f L s).2.1 (c + 1)) q) = some (some (.int (bI (decide ((rdL f L (k + 1) c s).1 = -1)))), mk shM (mP m R' W' N' (rdL f L (k + 1) c s).2.2.2.2.2.1 (rdL f L (k + 1) c s).2.2.2.2.2.2.1 (rdL f L (k + 1) c s).2.2.1 C') q) ∧ RR D R (rdL f L (k + 1) c s) R' C' := by
  obtain ⟨l1, l2, l3⟩ := id hL
  intro k
  induction k with
  | zero =>
    intro c s R W N hc hs hF hG hA
    have h2 : PSok f L (cCs f L s).2 := cCl_ok hs.1 hs.2.1 hs.2.2
    obtain ⟨b1, b2, b3, _⟩ := h2.2.2
    rw [s169_32]
    unfold rdL
    generalize cCs f L s = r at h2 b1 b2 b3 hA ⊢
    obtain ⟨ok, n', F', G', b', e', v'⟩ := r
    dsimp only at h2 b1 b2 b3 hA ⊢
    have nm := nI_ng (show b' < 1000 by omega)
    cases ok with
    | false =>
      refine ⟨R, W, N, c + 1, ?_, fun h => absurd h nm, fun _ => rfl, fun _ => rfl⟩
      simp only [if_true, decide_eq_false nm, bI_f, nI00, s169_33, s169_36, s169_37, s169_40, s169_41, s169_44, s169_47, s169_48, s169_51, s169_53, s169_56, s169_57, s169_60, s169_61, s169_64, s169_65, s169_67, s169_70, s169_71, s169_74, s169_75, s169_76, s169_77, s169_80, s169_81, s169_84, s169_85, s169_88, s169_89, s169_90, s169_91, s169_94, s169_95, s169_96, s169_99, s169_102, s169_103, am_b0]
    | true =>
      by_cases hbL : L ≤ b'
      · refine ⟨R, W, N, c + 1, ?_, fun _ => ⟨?_, fun h => ?_⟩, fun _ => rfl, fun h => ?_⟩
        · simp only [Bool.true_eq_false, if_false, if_true, hbL, decide_true, bI_t, nI10, s169_33, s169_36, s169_37, s169_40, s169_41, s169_44, s169_47, s169_48, s169_51, s169_53, s169_56, s169_57, s169_60, s169_61, s169_64, s169_65, s169_67, s169_70, s169_71, s169_74, s169_75, s169_76, s169_77, s169_80, s169_81, s169_84, s169_85, s169_88, s169_89, s169_90, s169_91, s169_94, s169_95, s169_96, s169_99, s169_102, s169_103, am_b1, mP_b, mP_L, l1, show ¬ nI b' < nI L by rw [nI_ltI (by omega) (by omega)]; omega]
        · simp only [Bool.true_eq_false, if_false, if_true, hbL]
        · simp only [Bool.true_eq_false, if_false, if_true, hbL]
          exact hA.1 h rfl
        · simp only [Bool.true_eq_false, if_false, if_true, hbL] at h
          exact absurd rfl h
      · refine ⟨R, W, N, c + 1, ?_, fun h => ?_, fun _ => rfl, fun h => ?_⟩
        · rw [if_neg (show ¬ true = false by decide), if_neg hbL, if_pos (Or.inr (by omega))]
          dsimp only
          simp only [bI_t, nI10, if_false, decide_eq_false nm, bI_f, s169_33, s169_36, s169_37, s169_40, s169_41, s169_44, s169_47, s169_48, s169_51, s169_53, s169_56, s169_57, s169_60, s169_61, s169_64, s169_65, s169_67, s169_70, s169_71, s169_74, s169_75, s169_76, s169_77, s169_80, s169_81, s169_84, s169_85, s169_88, s169_89, s169_90, s169_91, s169_94, s169_95, s169_96, s169_99, s169_102, s169_103, mP_b, mP_L, l1, nI_lt (show b' < L by omega) (show L < 2 ^ 31 by omega), if_true, mP_c, show ¬ nI (c + 1) < nI 24 by rw [nI_ltI (by omega) (by omega)]; omega]
          rw [s169_32]
          simp only [nI00, if_true, s169_33, s169_36, s169_37, s169_40, s169_41, s169_44, s169_47, s169_48, s169_51, s169_53, s169_56, s169_57, s169_60, s169_61, s169_64, s169_65, s169_67, s169_70, s169_71, s169_74, s169_75, s169_76, s169_77, s169_80, s169_81, s169_84, s169_85, s169_88, s169_89, s169_90, s169_91, s169_94, s169_95, s169_96, s169_99, s169_102, s169_103, am_b0]
        · rw [if_neg (show ¬ true = false by decide), if_neg hbL, if_pos (Or.inr (by omega))] at h
          exact absurd h nm
        · rw [if_neg (show ¬ true = false by decide), if_neg hbL, if_pos (Or.inr (by omega))]
  | succ k ih =>
    intro c s R W N hc hs hF hG hA
    have h2 : PSok f L (cCs f L s).2 := cCl_ok hs.1 hs.2.1 hs.2.2
    have ha2 : AI (cCs f L s).2.2.1 ∧ zaF (cCs f L s).2.2.2.1 18 := cCl_AI hF hG hs.1 hs.2.1
    obtain ⟨b1, b2, b3, _⟩ := h2.2.2
    rw [s169_32]
    unfold rdL
    generalize cCs f L s = r at h2 b1 b2 b3 hA ha2 ⊢
    obtain ⟨ok, n', F', G', b', e', v'⟩ := r
    dsimp only at h2 b1 b2 b3 hA ha2 ⊢
    have nm := nI_ng (show b' < 1000 by omega)
    cases ok with
    | false =>
      refine ⟨R, W, N, c + 1, ?_, fun h => absurd h nm, fun _ => rfl, fun _ => rfl⟩
      simp only [if_true, decide_eq_false nm, bI_f, nI00, s169_33, s169_36, s169_37, s169_40, s169_41, s169_44, s169_47, s169_48, s169_51, s169_53, s169_56, s169_57, s169_60, s169_61, s169_64, s169_65, s169_67, s169_70, s169_71, s169_74, s169_75, s169_76, s169_77, s169_80, s169_81, s169_84, s169_85, s169_88, s169_89, s169_90, s169_91, s169_94, s169_95, s169_96, s169_99, s169_102, s169_103, am_b0]
    | true =>
      by_cases hbL : L ≤ b'
      · refine ⟨R, W, N, c + 1, ?_, fun _ => ⟨?_, fun h => ?_⟩, fun _ => rfl, fun h => ?_⟩
        · simp only [Bool.true_eq_false, if_false, if_true, hbL, decide_true, bI_t, nI10, s169_33, s169_36, s169_37, s169_40, s169_41, s169_44, s169_47, s169_48, s169_51, s169_53, s169_56, s169_57, s169_60, s169_61, s169_64, s169_65, s169_67, s169_70, s169_71, s169_74, s169_75, s169_76, s169_77, s169_80, s169_81, s169_84, s169_85, s169_88, s169_89, s169_90, s169_91, s169_94, s169_95, s169_96, s169_99, s169_102, s169_103, am_b1, mP_b, mP_L, l1, show ¬ nI b' < nI L by rw [nI_ltI (by omega) (by omega)]; omega]
        · simp only [Bool.true_eq_false, if_false, if_true, hbL]
        · simp only [Bool.true_eq_false, if_false, if_true, hbL]
          exact hA.1 h rfl
        · simp only [Bool.true_eq_false, if_false, if_true, hbL] at h
          exact absurd rfl h
      · have l3' := l3 b' (by omega)
        by_cases h59 : f b' = 59
        · rw [if_neg (show ¬ true = false by decide), if_neg hbL, if_neg (show ¬ (f b' ≠ 59 ∨ c + 1 = 24) by rintro (h | h); exact h h59; omega)]
          have hs3 : PSok f L (nxt f L (n', F', G', b', e', v')) := ⟨h2.1, h2.2.1, tok_isTk b2⟩
          have nx := x_M_next (d := d + 3) (R := R) (W := W) (N := N) (b := b') (t := n') (c := c + 1) (q := q) hL b2
          obtain ⟨R1, W1, N1, g1, g2⟩ := x_M_readsClause (d := d) (R := R) (W := W) (N := N) (b := (tok f L e').1) (e := (tok f L e').2) (n := n') (F := F') (G := G') (c := c + 1) (q := q) (v := v') hL (tok_isTk b2) hD (by have := h2.1; dsimp only at this; omega) h2.2.1 (fun h => hA.1 h rfl) ha2.1
          rw [show cCl f L n' F' G' (tok f L e').1 (tok f L e').2 v' = cCs f L (nxt f L (n', F', G', b', e', v')) from rfl] at g1 g2
          obtain ⟨R', W', N', C', g3, g4, g5, g6⟩ := ih (c + 1) (nxt f L (n', F', G', b', e', v')) R1 W1 N1 (by omega) hs3 ha2.1 ha2.2 ⟨fun h1 h2 => g2.1 h1 h2, fun _ => rfl⟩
          refine ⟨R', W', N', C', ?_, g4, fun h => (g5 h).trans (g2.2 h), g6⟩
          rw [← g3]
          simp only [bI_t, nI10, if_false, s169_33, s169_36, s169_37, s169_40, s169_41, s169_44, s169_47, s169_48, s169_51, s169_53, s169_56, s169_57, s169_60, s169_61, s169_64, s169_65, s169_67, s169_70, s169_71, s169_74, s169_75, s169_76, s169_77, s169_80, s169_81, s169_84, s169_85, s169_88, s169_89, s169_90, s169_91, s169_94, s169_95, s169_96, s169_99, s169_102, s169_103, mP_b, mP_L, l1, nI_lt (show b' < L by omega) (show L < 2 ^ 31 by omega), if_true, mP_c, nI_lt (show c + 1 < 24 by omega) (show 24 < 2 ^ 31 by decide), tM3, nM3, show b' < 200 by omega, mP_3, l3'.1, h59, nx, g1, Option.bind_some, Option.toList_some, Option.toList_none, List.nil_append, List.cons_append, nI_add, mP_muc]
        · refine ⟨R, W, N, c + 1, ?_, fun h => ?_, fun _ => rfl, fun h => ?_⟩
          · rw [if_neg (show ¬ true = false by decide), if_neg hbL, if_pos (Or.inl h59)]
            dsimp only
            simp only [bI_t, nI10, if_false, decide_eq_false nm, bI_f, s169_33, s169_36, s169_37, s169_40, s169_41, s169_44, s169_47, s169_48, s169_51, s169_53, s169_56, s169_57, s169_60, s169_61, s169_64, s169_65, s169_67, s169_70, s169_71, s169_74, s169_75, s169_76, s169_77, s169_80, s169_81, s169_84, s169_85, s169_88, s169_89, s169_90, s169_91, s169_94, s169_95, s169_96, s169_99, s169_102, s169_103, mP_b, mP_L, l1, nI_lt (show b' < L by omega) (show L < 2 ^ 31 by omega), if_true, mP_c, nI_lt (show c + 1 < 24 by omega) (show 24 < 2 ^ 31 by decide), tM3, nM3, show b' < 200 by omega, mP_3, l3'.1, nI_eq (show f b' < 2 ^ 31 by omega) (show 59 < 2 ^ 31 by decide), h59]
            rw [s169_32]
            simp only [nI00, if_true, s169_33, s169_36, s169_37, s169_40, s169_41, s169_44, s169_47, s169_48, s169_51, s169_53, s169_56, s169_57, s169_60, s169_61, s169_64, s169_65, s169_67, s169_70, s169_71, s169_74, s169_75, s169_76, s169_77, s169_80, s169_81, s169_84, s169_85, s169_88, s169_89, s169_90, s169_91, s169_94, s169_95, s169_96, s169_99, s169_102, s169_103, am_b0]
          · rw [if_neg (show ¬ true = false by decide), if_neg hbL, if_pos (Or.inl h59)] at h
            exact absurd h nm
          · rw [if_neg (show ¬ true = false by decide), if_neg hbL, if_pos (Or.inl h59)]
end
