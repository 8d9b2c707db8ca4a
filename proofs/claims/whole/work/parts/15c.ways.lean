/-! in how many ways one more can be told -/
theorem cpA_eq {m : Mem} {k j : Nat} (h1 : zaF (m (j + 1)) 216) (h2 : zaF (m (j + 2)) 18) (h3 : zaF (m (k + 1)) 216) (h4 : zaF (m (k + 2)) 18) : cpA m k j = mu (mu (mu m k (upd (m k) 0 (m j 0))) (k + 1) (m (j + 1))) (k + 2) (m (j + 2)) := by
  unfold cpA
  rw [cpy_za h1 h3, cpy_za h2 h4]
def wyS (n a b : Nat) (g : Nat → Nat → (Nat → Int32) → Int32 × (Nat → Int32)) (x : Int32 × (Nat → Int32)) (s : Int32) : Int32 × (Nat → Int32) :=
  if b + 1 < n then (x.1 + (g a (b + 1) (sg6 x.2 a b n s)).1, (g a (b + 1) (sg6 x.2 a b n s)).2)
  else if bdF (n + 1) (sg6 x.2 a b n s) a (a + 1) = 0 then (x.1 + (g (a + 1) (a + 2) (sg6 x.2 a b n s)).1, (g (a + 1) (a + 2) (sg6 x.2 a b n s)).2)
  else (x.1, sg6 x.2 a b n s)
def wyO (n : Nat) : Nat → Nat → Nat → (Nat → Int32) → Int32 × (Nat → Int32)
  | 0, _, _, F => (0, F)
  | f + 1, a, b, F => if n ≤ a + 1 ∨ n ≤ b then (bI (orO (n + 1) F), F) else wyS n a b (wyO n f) (wyS n a b (wyO n f) (wyS n a b (wyO n f) (nI 0, F) (-1)) (nI 0)) (nI 1)
section
variable {d n : Nat} {q : MemJ}
theorem x_O_ways (h3 : 3 ≤ n) (h5 : n ≤ 5) : ∀ f a b (m : Mem), 8 * (n - a) + (n - b) < f → a ≤ n → b ≤ n + 1 → m 65 0 = nI (n + 1) → ∃ m', ev (d + 8 + f) 136 0 [.ref 65, .ref 44, .int (nI a), .int (nI b), .null, .null, .null] [] (mk shC m q) = some (some (.int (wyO n f a b (m 66)).1), mk shC m' q) ∧ m' 66 = (wyO n f a b (m 66)).2 ∧ fr [44, 45, 46, 66] m m' := by
  intro f
  induction f with
  | zero => intro a b m h; omega
  | succ f ih =>
    intro a b m hf ha hb hm
    have st : ∀ (v5 v6 : Value), ev (d + 8 + f + 1) 136 0 [.ref 65, .ref 44, .int (nI a), .int (nI b), .null, .null, .null] [] (mk shC m q) = if n ≤ a + 1 ∨ n ≤ b then ev (d + 8 + f + 1) 136 22 [.ref 65, .ref 44, .int (nI a), .int (nI b), .int (nI n), .null, .null] [] (mk shC m q) else ev (d + 8 + f + 1) 136 42 [.ref 65, .ref 44, .int (nI a), .int (nI b), .int (nI n), .int (nI 0), .int (-1)] [] (mk shC m q) := by
      intro _ _
      simp only [s136_0, s136_1, s136_4, s136_5, s136_6, s136_8, s136_9, s136_11, s136_12, s136_13, s136_16, s136_17, s136_19, oC0_65, x_A_size oC0_65, hm, Option.bind_some, Option.toList_some, Option.toList_none, List.nil_append, List.cons_append, nI_sub (show 1 ≤ n + 1 by omega), Nat.add_sub_cancel, nI_sub (show 1 ≤ n by omega), nI_ltI (show a < 2 ^ 31 by omega) (show n - 1 < 2 ^ 31 by omega), nI_ltI (show b < 2 ^ 31 by omega) (show n < 2 ^ 31 by omega), s136_36, s136_37, s136_39, s136_40]
      by_cases h1 : a < n - 1
      · by_cases h2 : b < n
        · rw [if_pos h1, if_pos h2, if_neg (by omega)]
        · rw [if_pos h1, if_neg h2, if_pos (by omega)]
      · rw [if_neg h1, if_pos (by omega)]
    rw [show d + 8 + (f + 1) = d + 8 + f + 1 from rfl, st .null .null]
    unfold wyO
    by_cases hc : n ≤ a + 1 ∨ n ≤ b
    · rw [if_pos hc, if_pos hc]
      obtain ⟨m', e, fm⟩ := x_R_or (d := d + 1 + f) (q := q) (m := m) oC0_65 hm (show n + 1 ≤ 6 by omega)
      rw [show d + 1 + f + 7 = d + 8 + f by omega] at e
      refine ⟨m', ?_, fm 66 (by decide), fr_wk fm (by decide)⟩
      simp only [s136_22, s136_23, s136_24, s136_27, s136_30, s136_31, s136_34, s136_35, e, Option.bind_some, Option.toList_some, Option.toList_none, List.nil_append, List.cons_append, bI_z, am_b0, am_b1]
      cases horo : orO (n + 1) (m (65 + 1)) with
      | true => simp only [Bool.true_eq_false, if_false, s136_22, s136_23, s136_24, s136_27, s136_30, s136_31, s136_34, s136_35, am_b1]; rfl
      | false => simp only [if_true, s136_22, s136_23, s136_24, s136_27, s136_30, s136_31, s136_34, s136_35, am_b0]; rfl
    · rw [if_neg hc, if_neg hc]
      have S : ∀ (s x : Int32) (m1 : Mem), ¬ nI 1 < s → m1 65 0 = nI (n + 1) → fr [44, 45, 46, 66] m m1 → ∃ m2, ev (d + 8 + f + 1) 136 42 [.ref 65, .ref 44, .int (nI a), .int (nI b), .int (nI n), .int x, .int s] [] (mk shC m1 q) = ev (d + 8 + f + 1) 136 42 [.ref 65, .ref 44, .int (nI a), .int (nI b), .int (nI n), .int (wyS n a b (wyO n f) (x, m1 66) s).1, .int (s + nI 1)] [] (mk shC m2 q) ∧ m2 66 = (wyS n a b (wyO n f) (x, m1 66) s).2 ∧ m2 65 0 = nI (n + 1) ∧ fr [44, 45, 46, 66] m m2 := by
        intro s x m1 hs hm1 hf1
        have hG : mu m1 66 (sg6 (m1 66) a b n s) 65 0 = nI (n + 1) := by rw [mu_ne (by decide)]; exact hm1
        have fG : fr [44, 45, 46, 66] m (mu m1 66 (sg6 (m1 66) a b n s)) := fun c hc => by
          have h66 : c ≠ 66 := fun e => hc (by simp [e])
          rw [mu_ne h66]; exact hf1 c hc
        have gs := x_A_giveSign (d := d + 7 + f) (v := s) (m := m1) (q := q) oC0_65 (show a < 6 by omega) (show b < 6 by omega) (show n < 6 by omega)
        rw [show d + 7 + f + 1 = d + 8 + f by omega] at gs
        unfold wyS
        dsimp only
        by_cases h1 : b + 1 < n
        · obtain ⟨m2, e2, g2, f2⟩ := ih a (b + 1) (mu m1 66 (sg6 (m1 66) a b n s)) (by omega) ha (by omega) hG
          rw [mu_same] at e2 g2
          refine ⟨m2, ?_, by rw [if_pos h1]; exact g2, by rw [f2 65 (by decide)]; exact hG, fr_tr fG f2⟩
          rw [if_pos h1, s136_42]
          simp only [s136_44, s136_45, s136_48, s136_49, s136_50, s136_51, s136_53, s136_55, s136_58, s136_59, s136_61, s136_62, s136_63, s136_66, s136_68, s136_69, s136_70, s136_71, s136_72, s136_73, s136_74, s136_77, s136_78, s136_80, s136_83, s136_84, s136_85, s136_86, s136_87, s136_88, s136_91, s136_94, s136_96, s136_97, s136_98, s136_99, s136_100, s136_101, s136_102, s136_103, s136_104, s136_107, s136_108, s136_110, s136_113, hs, if_false, oC0_65, gs, Option.bind_some, Option.toList_some, Option.toList_none, List.nil_append, List.cons_append, nI_sub (show 1 ≤ n by omega), nI_lt (show b < n - 1 by omega) (show n - 1 < 2 ^ 31 by omega), if_true, nI_add, show (65 + 1 : Nat) = 66 from rfl, e2]
        · have bd := x_R_badFives (dd := d + 2 + f) (q := q) (i := a) (j := a + 1) oC0_65 hG (show n + 1 ≤ 6 by omega) (Nat.le_succ a) (by omega)
          rw [show d + 2 + f + 6 = d + 8 + f by omega, show (65 + 1 : Nat) = 66 from rfl, mu_same] at bd
          by_cases h2 : bdF (n + 1) (sg6 (m1 66) a b n s) a (a + 1) = 0
          · obtain ⟨m2, e2, g2, f2⟩ := ih (a + 1) (a + 2) (mu m1 66 (sg6 (m1 66) a b n s)) (by omega) (by omega) (by omega) hG
            rw [mu_same] at e2 g2
            refine ⟨m2, ?_, by rw [if_neg h1, if_pos h2]; exact g2, by rw [f2 65 (by decide)]; exact hG, fr_tr fG f2⟩
            rw [if_neg h1, if_pos h2, s136_42]
            simp only [s136_44, s136_45, s136_48, s136_49, s136_50, s136_51, s136_53, s136_55, s136_58, s136_59, s136_61, s136_62, s136_63, s136_66, s136_68, s136_69, s136_70, s136_71, s136_72, s136_73, s136_74, s136_77, s136_78, s136_80, s136_83, s136_84, s136_85, s136_86, s136_87, s136_88, s136_91, s136_94, s136_96, s136_97, s136_98, s136_99, s136_100, s136_101, s136_102, s136_103, s136_104, s136_107, s136_108, s136_110, s136_113, hs, if_false, oC0_65, gs, Option.bind_some, Option.toList_some, Option.toList_none, List.nil_append, List.cons_append, nI_sub (show 1 ≤ n by omega), show ¬ nI b < nI (n - 1) by rw [nI_ltI (by omega) (by omega)]; omega, nI_add, show (65 + 1 : Nat) = 66 from rfl, bd, h2, if_true, e2]
          · refine ⟨mu m1 66 (sg6 (m1 66) a b n s), ?_, by rw [if_neg h1, if_neg h2, mu_same], hG, fG⟩
            rw [if_neg h1, if_neg h2, s136_42]
            simp only [s136_44, s136_45, s136_48, s136_49, s136_50, s136_51, s136_53, s136_55, s136_58, s136_59, s136_61, s136_62, s136_63, s136_66, s136_68, s136_69, s136_70, s136_71, s136_72, s136_73, s136_74, s136_77, s136_78, s136_80, s136_83, s136_84, s136_85, s136_86, s136_87, s136_88, s136_91, s136_94, s136_96, s136_97, s136_98, s136_99, s136_100, s136_101, s136_102, s136_103, s136_104, s136_107, s136_108, s136_110, s136_113, hs, if_false, oC0_65, gs, Option.bind_some, Option.toList_some, Option.toList_none, List.nil_append, List.cons_append, nI_sub (show 1 ≤ n by omega), show ¬ nI b < nI (n - 1) by rw [nI_ltI (by omega) (by omega)]; omega, nI_add, show (65 + 1 : Nat) = 66 from rfl, bd, h2]
      obtain ⟨m1, e1, g1, k1, f1⟩ := S (-1) (nI 0) m (by decide) hm fr_rfl
      generalize hX1 : wyS n a b (wyO n f) (nI 0, m 66) (-1) = X1 at e1 g1 ⊢
      obtain ⟨m2, e2, g2, k2, f2⟩ := S (nI 0) X1.1 m1 (by decide) k1 f1
      rw [g1, show (X1.1, X1.2) = X1 from rfl] at e2 g2
      generalize hX2 : wyS n a b (wyO n f) X1 (nI 0) = X2 at e2 g2 ⊢
      obtain ⟨m3, e3, g3, k3, f3⟩ := S (nI 1) X2.1 m2 (by decide) k2 f2
      rw [g2, show (X2.1, X2.2) = X2 from rfl] at e3 g3
      refine ⟨m3, ?_, g3, f3⟩
      rw [e1, show (-1 : Int32) + nI 1 = nI 0 by decide, e2, show nI 0 + nI 1 = nI 1 from rfl, e3, s136_42]
      simp only [s136_44, s136_45, s136_48, s136_49, s136_50, s136_51, s136_53, s136_55, s136_58, s136_59, s136_61, s136_62, s136_63, s136_66, s136_68, s136_69, s136_70, s136_71, s136_72, s136_73, s136_74, s136_77, s136_78, s136_80, s136_83, s136_84, s136_85, s136_86, s136_87, s136_88, s136_91, s136_94, s136_96, s136_97, s136_98, s136_99, s136_100, s136_101, s136_102, s136_103, s136_104, s136_107, s136_108, s136_110, s136_113, s136_116, s136_118, show nI 1 < nI 1 + nI 1 by decide, if_true]
end
