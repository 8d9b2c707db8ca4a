/-! what follows from the signs, found once -/
def NI (m : Mem) (n : Nat) : Prop := m 1 0 = nI n ∧ 3 ≤ n ∧ n ≤ 6 ∧ isSF (m 2) ∧ alF (m 2) ∧ zaF (m 2) 216 ∧ zaF (m 3) 18
def toL (n : Nat) (F : Nat → Int32) : Nat := min (vkL n F 3).length 64
def FI (m : Mem) (q : MemJ) (n : Nat) (F : Nat → Int32) : Prop :=
  (m 43 5 = nI 0 ∨ m 43 5 = nI 1 ∧ m 43 6 = bI (orO n F)) ∧ (m 43 7 = nI 0 ∨ m 43 7 = nI 1 ∧ m 62 1 = nI (toL n F) ∧ ∀ i, i < toL n F → q i = nJ (nxO (vkL n F 3) (toL n F) i)) ∧ (m 43 8 = -1 ∨ m 43 8 = nI (muS n F).1) ∧ (m 43 9 = -1 ∨ m 43 9 = exO4 n F) ∧ VI m n F ∧ zaF (m 66) 216 ∧ zaF (m 67) 18
def fC : List Nat := [43, 44, 45, 46, 49, 50, 51, 52, 53, 54, 55, 56, 57, 58, 59, 60, 61, 62, 65, 66, 67]
theorem NI_fr {m m' : Mem} {n : Nat} (h : NI m n) (h1 : m' 1 = m 1) (h2 : m' 2 = m 2) (h3 : m' 3 = m 3) : NI m' n := by
  unfold NI
  rw [h1, h2, h3]
  exact h
theorem NI_fC {m m' : Mem} {n : Nat} (h : NI m n) (hf : fr fC m m') : NI m' n := NI_fr h (hf 1 (by decide)) (hf 2 (by decide)) (hf 3 (by decide))
theorem VI_fr {m m' : Mem} {n : Nat} {F : Nat → Int32} (h : VI m n F) (h0 : ∀ c, 49 ≤ c → c ≤ 61 → m' c = m c) : VI m' n F := by
  intro i hi
  rw [h0 49 (by decide) (by decide)]
  rcases h i hi with h | ⟨h, w⟩
  · exact Or.inl h
  · exact Or.inr ⟨h, WR_fr w (h0 _ (by omega) (by omega)) (h0 _ (by omega) (by omega)) (h0 _ (by omega) (by omega))⟩
section
variable {d n : Nat} {m : Mem} {q : MemJ}
theorem x_F_isOrderly (hN : NI m n) (hF : FI m q n (m 2)) : ∃ m', ev (d + 8) 86 0 [.ref 43] [] (mk shC m q) = some (some (.int (bI (orO n (m 2)))), mk shC m' q) ∧ fr fC m m' ∧ FI m' q n (m 2) := by
  obtain ⟨n1, n3, n6, ns, na, nz, nz3⟩ := hN
  obtain ⟨f1, f2, f3, f4, f5, f6, f7⟩ := id hF
  rcases f1 with h | ⟨h, h'⟩
  · obtain ⟨m1, e1, g1⟩ := x_R_or (d := d) (q := q) oC0_1 n1 n6
    have g43 : m1 43 = m 43 := g1 43 (by decide)
    refine ⟨mu m1 43 (upd (upd (m 43) 6 (bI (orO n (m 2)))) 5 (nI 1)), ?_, ?_, ?_⟩
    · simp only [s86_0, s86_1, s86_4, s86_7, s86_8, s86_9, s86_12, s86_13, s86_16, s86_19, s86_22, s86_23, s86_24, s86_27, s86_28, s86_31, h, nI00, if_true, e1, Option.bind_some, Option.toList_some, Option.toList_none, List.nil_append, List.cons_append, bI_b, g43, mu_same, mu_mu, am_b1]
      simp [upd, bI_b, s86_0, s86_1, s86_4, s86_7, s86_8, s86_9, s86_12, s86_13, s86_16, s86_19, s86_22, s86_23, s86_24, s86_27, s86_28, s86_31, mu_same]
    · intro c hc
      have h43 : c ≠ 43 := fun e => hc (by rw [e]; decide)
      rw [mu_ne h43]
      exact g1 c fun h => hc (by revert h; simp [fC]; omega)
    · refine ⟨Or.inr ⟨by rw [mu_same]; simp [upd], by rw [mu_same]; simp [upd]⟩, ?_, ?_, ?_, VI_fr f5 (fun c h1 h2 => by rw [mu_ne (by omega), g1 c (by simp; omega)]), ?_, ?_⟩
      · rw [mu_same, mu_ne (by decide), g1 62 (by decide)]
        simpa [upd] using f2
      · rw [mu_same]; simpa [upd] using f3
      · rw [mu_same]; simpa [upd] using f4
      · rw [mu_ne (by decide), g1 66 (by decide)]; exact f6
      · rw [mu_ne (by decide), g1 67 (by decide)]; exact f7
  · refine ⟨m, ?_, fr_rfl, hF⟩
    simp only [s86_0, s86_1, s86_4, s86_7, s86_8, s86_9, s86_12, s86_13, s86_16, s86_19, s86_22, s86_23, s86_24, s86_27, s86_28, s86_31, h, nI10, if_false, h', bI_b]
end
