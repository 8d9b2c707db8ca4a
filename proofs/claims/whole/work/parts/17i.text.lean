/-! the text told -/
theorem nI_any (x : Int32) : ∃ b, x = nI b := ⟨x.toBitVec.toNat, Int32.toBitVec_inj.mp (by rw [nI_bv, BitVec.ofNat_toNat, BitVec.setWidth_eq])⟩
theorem lt_of_le {a : Nat} {x : Int32} (ha : a + 1 < 2 ^ 31) (h : nI (a + 1) ≤ x) : nI a < x := Int32.lt_of_lt_of_le (nI_lt (Nat.lt_succ_self a) ha) h
def wrH (m : Mem) (L : Nat) (x : Int32) : Mem := mu (mu m 42 (upd (m 42) L x)) 41 (upd (m 41) 1 (nI (L + 1)))
section
variable {d n L : Nat} {m : Mem} {q : MemJ} {x : Int32}
theorem x_S_write (hL : m 41 1 = nI L) (hL2 : L ≤ 200) : ev (d + 1) 15 0 [.ref 0, .int x] [] (mk shC m q) = if elB 256 x = true then (if L = 200 then some (some (.int (-1004)), mk shC m q) else some (some (.int (nI (L + 1))), mk shC (wrH m L x) q)) else some (some (.int (-1002)), mk shC m q) := by
  rcases elB_or 256 x (by decide) with ⟨hx, h | h⟩ | ⟨k, hk, rfl⟩
  · simp only [s15_0, s15_1, s15_4, s15_5, s15_8, s15_11, s15_14, s15_15, s15_16, s15_19, s15_22, s15_25, s15_28, s15_29, s15_30, s15_33, s15_34, s15_37, s15_38, s15_41, s15_44, h, if_true, hx, Bool.false_eq_true, if_false]
  · simp only [s15_0, s15_1, s15_4, s15_5, s15_8, s15_11, s15_14, s15_15, s15_16, s15_19, s15_22, s15_25, s15_28, s15_29, s15_30, s15_33, s15_34, s15_37, s15_38, s15_41, s15_44, lt_of_le (by decide) h, if_true, hx, Bool.false_eq_true, if_false, ite_self]
  · have e : wrH m L (nI k) 41 1 = nI (L + 1) := by
      unfold wrH
      rw [mu_same]
      simp [upd]
    have ap := fun h => x_T_append (d := d) (x := nI k) (q := q) hL h
    change ∀ h, _ = some (none, mk shC (wrH m L (nI k)) q) at ap
    simp only [s15_0, s15_1, s15_4, s15_5, s15_8, s15_11, s15_14, s15_15, s15_16, s15_19, s15_22, s15_25, s15_28, s15_29, s15_30, s15_33, s15_34, s15_37, s15_38, s15_41, s15_44, nI_pos (show k < 2 ^ 31 by omega), nI_ltI (show 255 < 2 ^ 31 by decide) (show k < 2 ^ 31 by omega), show ¬ 255 < k by omega, if_false, if_true, x_T_isFull hL hL2, Option.bind_some, Option.toList_some, Option.toList_none, List.nil_append, List.cons_append, bI_z, elB_nI (show 256 < 1000 by decide) hk]
    by_cases h2 : L = 200
    · simp only [h2, decide_true, Bool.true_eq_false, if_false, if_true]
    · simp only [h2, decide_false, if_true, if_false, s15_0, s15_1, s15_4, s15_5, s15_8, s15_11, s15_14, s15_15, s15_16, s15_19, s15_22, s15_25, s15_28, s15_29, s15_30, s15_33, s15_34, s15_37, s15_38, s15_41, s15_44, ap (show L < 200 by omega), Option.bind_some, Option.toList_some, Option.toList_none, List.nil_append, List.cons_append, x_T_length, e]
theorem x_S_erase : ev (d + 1) 19 0 [.ref 0, .null] [] (mk shC m q) = some (some (.int (m 41 1)), mk shC (mu m 41 (upd (m 41) 1 (nI 0))) q) := by
  simp only [s19_0, s19_1, s19_4, s19_7, s19_8, s19_9, s19_12, s19_15, s19_16, x_T_length, x_T_clear, Option.bind_some, Option.toList_some, Option.toList_none, List.nil_append, List.cons_append]
theorem cp_pH (hn : m 1 0 = nI n) : ∃ b e c, cpE m 4 1 = pH m n (m 2) (m 3) b e (m 41 4) c := by
  obtain ⟨b, hb⟩ := nI_any (m 41 2)
  obtain ⟨e, he⟩ := nI_any (m 41 3)
  obtain ⟨c, hc⟩ := nI_any (m 41 5)
  refine ⟨b, e, c, ?_⟩
  funext i j
  by_cases h4 : i = 4
  · subst h4; simp [cpE, mu, pH, hn]
  by_cases h5 : i = 5
  · subst h5; simp [cpE, mu, pH]
  by_cases h6 : i = 6
  · subst h6; simp [cpE, mu, pH]
  by_cases h41 : i = 41
  · subst h41
    simp only [cpE, mu, pH, tR]
    by_cases j2 : j = 2
    · subst j2; simp [hb, tR]
    by_cases j3 : j = 3
    · subst j3; simp [he, tR]
    by_cases j4 : j = 4
    · subst j4; simp [tR]
    by_cases j5 : j = 5
    · subst j5; simp [hc, tR]
    simp [j2, j3, j4, j5, tR]
  · simp [cpE, mu, pH, h4, h5, h6, h41]
/-- what the reading makes of it all -/
def rdZ (m : Mem) (n : Nat) (f : Nat → Nat) (L : Nat) : Int32 × Nat × PS := rdA f L n (m 2) (m 3) (m 41 4)
def rdH (m : Mem) (n : Nat) (f : Nat → Nat) (L : Nat) : Mem := pS m (rdZ m n f L).2.1 (rdZ m n f L).2.2
theorem x_S_rd {f : Nat → Nat} (hN : NI m n) (h4 : zA m 4) (hL : Ltr m f L) : ev (d + 8) 22 0 [.ref 4, .ref 1] [] (mk shC m q) = some (none, mk shC (cpE m 4 1) q) ∧ ev (d + 8) 23 0 [.ref 41, .ref 4, .null] [] (mk shC (cpE m 4 1) q) = some (some (.int (rdZ m n f L).1), mk shC (rdH m n f L) q) := by
  obtain ⟨n1, n3, n6, ns, na, nz, nz3⟩ := hN
  refine ⟨x_A_cp (d := d + 3) oC0_4 oC0_1 h4 ⟨nz, nz3⟩, ?_⟩
  obtain ⟨b, e, c, h⟩ := cp_pH n1
  rw [h]
  exact x_T_read hL n3 n6
theorem x_S_fault {f : Nat → Nat} (hN : NI m n) (h4 : zA m 4) (hL : Ltr m f L) : ev (d + 9) 21 0 [.ref 0] [] (mk shC m q) = some (some (.int (rdZ m n f L).1), mk shC (rdH m n f L) q) := by
  have h := x_S_rd (d := d) (q := q) hN h4 hL
  simp only [s21_0, s21_1, s21_4, s21_5, s21_8, s21_11, s21_12, s21_15, s21_16, s21_19, s21_22, oC0_4, h.1, h.2, Option.bind_some, Option.toList_some, Option.toList_none, List.nil_append, List.cons_append]
/-- the heap behind a text that was done -/
def tlH (m : Mem) : Mem := fgH (mu (mu (cpE (mu m 41 (upd (m 41) 1 (nI 0))) 1 4) 7 (upd (m 7) 2 (nI 0))) 34 (upd (upd (m 34) 0 (nI 0)) 1 (nI 0)))
theorem x_S_tell0 (h1 : zA m 1) (h4 : zA m 4) : ev (d + 9) 49 30 [.ref 0, .null] [] (mk shC m q) = some (some (.int (m 41 5)), mk shC (tlH m) q) := by
  generalize hm : cpE (mu m 41 (upd (m 41) 1 (nI 0))) 1 4 = m1
  have hz : ∀ k, k < 10 → zA m k → zA (mu m 41 (upd (m 41) 1 (nI 0))) k := fun k hk h => ⟨by rw [mu_ne (by omega)]; exact h.1, by rw [mu_ne (by omega)]; exact h.2⟩
  have cp := x_A_cp (d := d + 3) (q := q) oC0_1 oC0_4 (hz 1 (by decide) h1) (hz 4 (by decide) h4)
  rw [hm] at cp
  have c7 : m1 7 = m 7 := by rw [← hm, cpE_ne (by omega), mu_ne (by decide)]
  generalize hm2 : mu m1 7 (upd (m1 7) 2 (nI 0)) = m2
  have c34 : m2 34 = m 34 := by rw [← hm2, mu_ne (by decide), ← hm, cpE_ne (by omega), mu_ne (by decide)]
  have st : ∀ i (f : Nat → Int32), i < 2 → ev (d + 9) 49 57 [.ref 0, .int (nI i)] [] (mk shC (mu m2 34 f) q) = ev (d + 9) 49 57 [.ref 0, .int (nI (i + 1))] [] (mk shC (mu m2 34 (upd f i (nI 0))) q) := fun i f hi => by
    rw [s49_57]
    simp only [s49_0, s49_1, s49_4, s49_5, s49_8, s49_11, s49_12, s49_15, s49_16, s49_19, s49_22, s49_23, s49_26, s49_29, s49_30, s49_31, s49_34, s49_37, s49_38, s49_41, s49_42, s49_45, s49_48, s49_49, s49_52, s49_55, s49_56, s49_58, s49_59, s49_62, s49_63, s49_66, s49_67, s49_68, s49_69, s49_72, s49_75, s49_76, s49_79, s49_82, s49_83, s49_86, s49_89, nI_lt hi (show 2 < 2 ^ 31 by decide), if_true, tC34, nC34, hi, nar0, mu_same, mu_mu, nI_add]
  have e5 : tlH m 41 5 = m 41 5 := by
    unfold tlH
    rw [fgH_ne (by decide) (by decide), mu_ne (by decide), mu_ne (by decide), cpE_ne (by omega), mu_same]
    simp [upd]
  have f := x_F_forget (d := d + 7) (m := mu m2 34 (upd (upd (m 34) 0 (nI 0)) 1 (nI 0))) (q := q)
  have ef : fgH (mu m2 34 (upd (upd (m 34) 0 (nI 0)) 1 (nI 0))) = tlH m := by
    rw [← hm2, c7, ← hm]
    rfl
  change _ = some (none, mk shC (fgH (mu m2 34 (upd (upd (m 34) 0 (nI 0)) 1 (nI 0)))) q) at f
  rw [ef] at f
  have en : ev (d + 9) 49 57 [.ref 0, .int (nI 2)] [] (mk shC (mu m2 34 (upd (upd (m 34) 0 (nI 0)) 1 (nI 0))) q) = some (some (.int (m 41 5)), mk shC (tlH m) q) := by
    rw [s49_57]
    simp only [s49_0, s49_1, s49_4, s49_5, s49_8, s49_11, s49_12, s49_15, s49_16, s49_19, s49_22, s49_23, s49_26, s49_29, s49_30, s49_31, s49_34, s49_37, s49_38, s49_41, s49_42, s49_45, s49_48, s49_49, s49_52, s49_55, s49_56, s49_58, s49_59, s49_62, s49_63, s49_66, s49_67, s49_68, s49_69, s49_72, s49_75, s49_76, s49_79, s49_82, s49_83, s49_86, s49_89, nI_irr, if_false, f, Option.bind_some, Option.toList_some, Option.toList_none, List.nil_append, List.cons_append, x_T_clauses, e5]
  have s0 := st 0 (m 34) (by decide)
  rw [← c34, mu_self] at s0
  simp only [s49_0, s49_1, s49_4, s49_5, s49_8, s49_11, s49_12, s49_15, s49_16, s49_19, s49_22, s49_23, s49_26, s49_29, s49_30, s49_31, s49_34, s49_37, s49_38, s49_41, s49_42, s49_45, s49_48, s49_49, s49_52, s49_55, s49_56, s49_58, s49_59, s49_62, s49_63, s49_66, s49_67, s49_68, s49_69, s49_72, s49_75, s49_76, s49_79, s49_82, s49_83, s49_86, s49_89, x_T_clear, oC0_1, cp, x_H_clear, Option.bind_some, Option.toList_some, Option.toList_none, List.nil_append, List.cons_append, hm2]
  exact s0.trans ((st 1 _ (by decide)).trans (by rw [c34]; exact en))
theorem x_S_tell {f : Nat → Nat} (hN : NI m n) (h4 : zA m 4) (hL : Ltr m f L) (h4' : zA (rdH m n f L) 4) : ev (d + 9) 49 0 [.ref 0, .null] [] (mk shC m q) = if (rdZ m n f L).1 = -1 then some (some (.int (rdH m n f L 41 5)), mk shC (tlH (rdH m n f L)) q) else some (some (.int (-1003)), mk shC (rdH m n f L) q) := by
  have h := x_S_rd (d := d) (q := q) hN h4 hL
  have h1 : zA (rdH m n f L) 1 := ⟨by unfold rdH pS; rw [pH_ne (by decide) (by decide) (by decide) (by decide)]; exact hN.2.2.2.2.2.1, by unfold rdH pS; rw [pH_ne (by decide) (by decide) (by decide) (by decide)]; exact hN.2.2.2.2.2.2⟩
  have t := x_S_tell0 (d := d) (q := q) h1 h4'
  simp only [s49_0, s49_1, s49_4, s49_5, s49_8, s49_11, s49_12, s49_15, s49_16, s49_19, s49_22, s49_23, s49_26, s49_29, oC0_4, h.1, h.2, Option.bind_some, Option.toList_some, Option.toList_none, List.nil_append, List.cons_append]
  by_cases h9 : (rdZ m n f L).1 = -1
  · simp only [h9, if_true, t]
  · simp only [h9, if_false, s49_0, s49_1, s49_4, s49_5, s49_8, s49_11, s49_12, s49_15, s49_16, s49_19, s49_22, s49_23, s49_26, s49_29]
end
