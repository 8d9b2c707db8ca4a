/-! what is asked: vectors, topes, mutations, extensions -/
theorem oC8_k : ∀ k, k < 4 → oC8 (50 + 3 * k)
  | 0, _ => oC8_50
  | 1, _ => oC8_53
  | 2, _ => oC8_56
  | 3, _ => oC8_59
def canB (n : Nat) (F : Nat → Int32) (k : Nat) : Bool := decide (k < 2) || orO n F
/-- the number of an element in a key -/
def kyA (n y e : Nat) : Int32 := nI ((y >>> (2 * (n - 1 - e))) &&& 3) - nI 1
def vcA (n : Nat) (F : Nat → Int32) (x i e : Int32) : Int32 :=
  if elB 4 x = true then (if i < -1 then -1002 else if canB n F (eN x) = true then (if i = -1 then nI (vkL n F (eN x)).length else if (elB (vkL n F (eN x)).length i && elB n e) = true then kyA n ((vkL n F (eN x)).getD (eN i) 0) (eN e) else -1001) else -1003) else -1002
def bsA (n : Nat) (F : Nat → Int32) (t : Int32) : Int32 :=
  if orO n F = true then (if elB (vkL n F 3).length t = true then pcJ (nJ (nxO (vkL n F 3) (toL n F) (eN t))) else -1001) else -1003
def btA (n : Nat) (F : Nat → Int32) (t u w : Int32) : Int32 :=
  if elB 3 w = true then (if orO n F = true then (if (elB (vkL n F 3).length t && elB (vkL n F 3).length u) = true then
    (if eN w = 0 then nI (ons 12 (spK ((vkL n F 3).getD (eN t) 0) ((vkL n F 3).getD (eN u) 0))) else if eN w = 1 then bI ((nxO (vkL n F 3) (toL n F) (eN t)).testBit (eN u)) else stpO (nxO (vkL n F 3) (toL n F)) (toL n F) (eN u) 64 0 (2 ^ eN t)) else -1001) else -1003) else -1002
section
variable {d n : Nat} {m : Mem} {q : MemJ} {x i e t u w : Int32}
theorem x_W_has {a l : Nat} (ho : oC8 a) (hl : m a 2 = nI l) : ev d 114 0 [.ref a, .int x] [] (mk shC m q) = some (some (.int (bI (elB l x))), mk shC m q) := by
  unfold elB
  by_cases h : x < 0
  · simp only [s114_0, s114_1, s114_4, s114_5, s114_6, s114_9, s114_12, s114_13, s114_16, s114_17, h, if_true, am_b0, decide_true, Bool.not_true, Bool.false_and, bI_f]
  · by_cases h2 : x < nI l
    · simp only [s114_0, s114_1, s114_4, s114_5, s114_6, s114_9, s114_12, s114_13, s114_16, s114_17, ho, hl, h, h2, if_true, if_false, am_b1, decide_true, decide_false, Bool.not_false, Bool.and_self, bI_t]
    · simp only [s114_0, s114_1, s114_4, s114_5, s114_6, s114_9, s114_12, s114_13, s114_16, s114_17, ho, hl, h, h2, if_false, am_b0, decide_false, Bool.and_false, bI_f]
theorem x_S_vector (hN : NI m n) (hF : FI m q n (m 2)) : ∃ m', ev (d + 10) 92 0 [.ref 0, .int x, .int i, .int e, .null] [] (mk shC m q) = some (some (.int (vcA n (m 2) x i e)), mk shC m' q) ∧ fr fC m m' ∧ FI m' q n (m 2) := by
  have n6 := hN.2.2.1
  unfold vcA
  rcases elB_or 4 x (by decide) with ⟨hx, _⟩ | ⟨k, hk, rfl⟩
  · refine ⟨m, ?_, fr_rfl, hF⟩
    simp only [s92_0, s92_1, s92_4, s92_7, s92_8, s92_9, s92_12, s92_15, s92_16, s92_17, s92_20, s92_21, s92_24, s92_27, s92_30, s92_31, s92_32, s92_35, s92_36, s92_39, s92_41, s92_42, s92_43, s92_46, s92_48, s92_51, s92_52, s92_54, s92_55, s92_58, s92_61, s92_62, s92_65, s92_66, s92_69, s92_72, s92_75, s92_76, s92_78, s92_79, s92_82, s92_83, s92_86, s92_89, s92_90, s92_93, x_S_isKind, Option.bind_some, Option.toList_some, Option.toList_none, List.nil_append, List.cons_append, bI_z, hx, if_true, Bool.false_eq_true, if_false]
  rw [elB_nI (by decide) hk, eN_nI (by omega), if_pos rfl]
  by_cases hi : i < -1
  · refine ⟨m, ?_, fr_rfl, hF⟩
    simp only [s92_0, s92_1, s92_4, s92_7, s92_8, s92_9, s92_12, s92_15, s92_16, s92_17, s92_20, s92_21, s92_24, s92_27, s92_30, s92_31, s92_32, s92_35, s92_36, s92_39, s92_41, s92_42, s92_43, s92_46, s92_48, s92_51, s92_52, s92_54, s92_55, s92_58, s92_61, s92_62, s92_65, s92_66, s92_69, s92_72, s92_75, s92_76, s92_78, s92_79, s92_82, s92_83, s92_86, s92_89, s92_90, s92_93, x_S_isKind, Option.bind_some, Option.toList_some, Option.toList_none, List.nil_append, List.cons_append, bI_z, elB_nI (show 4 < 1000 by decide) hk, hi, if_true, Bool.true_eq_false, if_false]
  rw [if_neg hi]
  obtain ⟨m1, e1, g1, F1⟩ := x_F_canTellOf (d := d) hN hF hk
  rw [show (decide (k < 2) || orO n (m 2)) = canB n (m 2) k from rfl] at e1
  cases hc : canB n (m 2) k with
  | false =>
    refine ⟨m1, ?_, g1, F1⟩
    simp only [s92_0, s92_1, s92_4, s92_7, s92_8, s92_9, s92_12, s92_15, s92_16, s92_17, s92_20, s92_21, s92_24, s92_27, s92_30, s92_31, s92_32, s92_35, s92_36, s92_39, s92_41, s92_42, s92_43, s92_46, s92_48, s92_51, s92_52, s92_54, s92_55, s92_58, s92_61, s92_62, s92_65, s92_66, s92_69, s92_72, s92_75, s92_76, s92_78, s92_79, s92_82, s92_83, s92_86, s92_89, s92_90, s92_93, x_S_isKind, Option.bind_some, Option.toList_some, Option.toList_none, List.nil_append, List.cons_append, bI_z, elB_nI (show 4 < 1000 by decide) hk, hi, if_true, Bool.true_eq_false, if_false, e1, hc, Bool.false_eq_true]
  | true =>
    have N1 := NI_fC hN g1
    have s2 : m1 2 = m 2 := g1 2 (by decide)
    obtain ⟨m2, e2, g2, F2, w2, -⟩ := x_F_ofKind (d := d + 3) (k := k) N1 (s2 ▸ F1) hk
    have N2 := NI_fC N1 g2
    rw [s2] at F2 w2
    refine ⟨m2, ?_, fr_tr g1 g2, F2⟩
    have hl := w2.1
    have hl2 := w2.2.1
    have L := x_W_length (d := d + 9) (m := m2) (q := q) (oC8_k k hk)
    rw [hl] at L
    by_cases h1 : i = -1
    · subst h1
      simp only [s92_0, s92_1, s92_4, s92_7, s92_8, s92_9, s92_12, s92_15, s92_16, s92_17, s92_20, s92_21, s92_24, s92_27, s92_30, s92_31, s92_32, s92_35, s92_36, s92_39, s92_41, s92_42, s92_43, s92_46, s92_48, s92_51, s92_52, s92_54, s92_55, s92_58, s92_61, s92_62, s92_65, s92_66, s92_69, s92_72, s92_75, s92_76, s92_78, s92_79, s92_82, s92_83, s92_86, s92_89, s92_90, s92_93, x_S_isKind, Option.bind_some, Option.toList_some, Option.toList_none, List.nil_append, List.cons_append, bI_z, elB_nI (show 4 < 1000 by decide) hk, hi, if_true, Bool.true_eq_false, if_false, e1, hc, e2, oC8_k k hk, L]
    · rcases elB_or (vkL n (m 2) k).length i (by omega) with ⟨hh, _⟩ | ⟨j, hj, rfl⟩
      · simp only [s92_0, s92_1, s92_4, s92_7, s92_8, s92_9, s92_12, s92_15, s92_16, s92_17, s92_20, s92_21, s92_24, s92_27, s92_30, s92_31, s92_32, s92_35, s92_36, s92_39, s92_41, s92_42, s92_43, s92_46, s92_48, s92_51, s92_52, s92_54, s92_55, s92_58, s92_61, s92_62, s92_65, s92_66, s92_69, s92_72, s92_75, s92_76, s92_78, s92_79, s92_82, s92_83, s92_86, s92_89, s92_90, s92_93, x_S_isKind, Option.bind_some, Option.toList_some, Option.toList_none, List.nil_append, List.cons_append, bI_z, elB_nI (show 4 < 1000 by decide) hk, hi, if_true, Bool.true_eq_false, if_false, e1, hc, e2, h1, oC8_k k hk, x_W_has (oC8_k k hk) hl, hh, Bool.false_and, Bool.false_eq_true]
      · rcases elB_or n e (by omega) with ⟨he, _⟩ | ⟨a, ha, rfl⟩
        · simp only [s92_0, s92_1, s92_4, s92_7, s92_8, s92_9, s92_12, s92_15, s92_16, s92_17, s92_20, s92_21, s92_24, s92_27, s92_30, s92_31, s92_32, s92_35, s92_36, s92_39, s92_41, s92_42, s92_43, s92_46, s92_48, s92_51, s92_52, s92_54, s92_55, s92_58, s92_61, s92_62, s92_65, s92_66, s92_69, s92_72, s92_75, s92_76, s92_78, s92_79, s92_82, s92_83, s92_86, s92_89, s92_90, s92_93, x_S_isKind, Option.bind_some, Option.toList_some, Option.toList_none, List.nil_append, List.cons_append, bI_z, elB_nI (show 4 < 1000 by decide) hk, hi, if_true, Bool.true_eq_false, if_false, e1, hc, e2, h1, oC8_k k hk, oC0_1, x_W_has (oC8_k k hk) hl, elB_nI (show (vkL n (m 2) k).length < 1000 by omega) hj, x_A_has oC0_1 N2.1, he, Bool.and_false, Bool.false_eq_true]
        · have at2 := WR_at w2 hj
          simp only [s92_0, s92_1, s92_4, s92_7, s92_8, s92_9, s92_12, s92_15, s92_16, s92_17, s92_20, s92_21, s92_24, s92_27, s92_30, s92_31, s92_32, s92_35, s92_36, s92_39, s92_41, s92_42, s92_43, s92_46, s92_48, s92_51, s92_52, s92_54, s92_55, s92_58, s92_61, s92_62, s92_65, s92_66, s92_69, s92_72, s92_75, s92_76, s92_78, s92_79, s92_82, s92_83, s92_86, s92_89, s92_90, s92_93, x_S_isKind, Option.bind_some, Option.toList_some, Option.toList_none, List.nil_append, List.cons_append, bI_z, elB_nI (show 4 < 1000 by decide) hk, hi, if_true, Bool.true_eq_false, if_false, e1, hc, e2, h1, oC8_k k hk, oC0_1, x_W_has (oC8_k k hk) hl, elB_nI (show (vkL n (m 2) k).length < 1000 by omega) hj, x_A_has oC0_1 N2.1, elB_nI (show n < 1000 by omega) ha, Bool.and_self, x_W_at (oC8_k k hk) (show j < 729 by omega), at2.1, x_A_size oC0_1, N2.1, x_K_numberAt at2.2 n6 ha, eN_nI (show j < 1000 by omega), eN_nI (show a < 1000 by omega), kyA]
theorem x_S_beside (hN : NI m n) (hF : FI m q n (m 2)) (hT : orO n (m 2) = true → (vkL n (m 2) 3).length ≤ 64) : ∃ m' q', ev (d + 9) 116 0 [.ref 0, .int t] [] (mk shC m q) = some (some (.int (bsA n (m 2) t)), mk shC m' q') ∧ fr fC m m' ∧ FI m' q' n (m 2) := by
  unfold bsA
  obtain ⟨m1, e1, g1, F1⟩ := x_F_isOrderly (d := d) hN hF
  cases ho : orO n (m 2) with
  | false =>
    refine ⟨m1, q, ?_, g1, F1⟩
    simp only [s116_0, s116_1, s116_4, s116_7, s116_10, s116_13, s116_14, s116_15, s116_18, s116_19, s116_22, s116_23, s116_26, s116_29, s116_32, s116_33, s116_34, s116_37, s116_40, s116_41, s116_44, e1, Option.bind_some, Option.toList_some, Option.toList_none, List.nil_append, List.cons_append, bI_z, ho, if_true, Bool.false_eq_true, if_false]
  | true =>
    have hT := hT ho
    have N1 := NI_fC hN g1
    have s2 : m1 2 = m 2 := g1 2 (by decide)
    obtain ⟨m2, e2, g2, F2, w2, -⟩ := x_F_ofKind (d := d + 2) (k := 3) N1 (s2 ▸ F1) (by decide)
    have N2 := NI_fC N1 g2
    rw [s2] at F2 w2
    rw [show 50 + 3 * 3 = 59 from rfl] at e2 w2
    have s2' : m2 2 = m 2 := (g2 2 (by decide)).trans s2
    have hl := w2.1
    rcases elB_or (vkL n (m 2) 3).length t (by omega) with ⟨hh, _⟩ | ⟨j, hj, rfl⟩
    · refine ⟨m2, q, ?_, fr_tr g1 g2, F2⟩
      simp only [s116_0, s116_1, s116_4, s116_7, s116_10, s116_13, s116_14, s116_15, s116_18, s116_19, s116_22, s116_23, s116_26, s116_29, s116_32, s116_33, s116_34, s116_37, s116_40, s116_41, s116_44, e1, Option.bind_some, Option.toList_some, Option.toList_none, List.nil_append, List.cons_append, bI_z, ho, if_true, Bool.true_eq_false, if_false, e2, oC8_59, x_W_has oC8_59 hl, hh, Bool.false_eq_true]
    · obtain ⟨m3, q3, e3, g3, F3, l3, b3⟩ := x_F_graph (d := d + 1) N2 (s2' ▸ F2)
      rw [s2'] at F3 l3 b3
      have hj' : j < toL n (m 2) := by unfold toL; omega
      have nb := x_G_neighbours (d := d + 7) (q := q3) l3 (by unfold toL; omega) hj'
      rw [b3 j hj'] at nb
      refine ⟨m3, q3, ?_, fr_tr g1 (fr_tr g2 g3), F3⟩
      simp only [s116_0, s116_1, s116_4, s116_7, s116_10, s116_13, s116_14, s116_15, s116_18, s116_19, s116_22, s116_23, s116_26, s116_29, s116_32, s116_33, s116_34, s116_37, s116_40, s116_41, s116_44, e1, Option.bind_some, Option.toList_some, Option.toList_none, List.nil_append, List.cons_append, bI_z, ho, if_true, Bool.true_eq_false, if_false, e2, oC8_59, x_W_has oC8_59 hl, elB_nI (show (vkL n (m 2) 3).length < 1000 by omega) hj, e3, nb, eN_nI (show j < 1000 by omega)]
theorem x_S_between (hN : NI m n) (hF : FI m q n (m 2)) (hT : orO n (m 2) = true → (vkL n (m 2) 3).length ≤ 64) : ∃ m' q', ev (d + 9) 124 0 [.ref 0, .int t, .int u, .int w, .null, .null] [] (mk shC m q) = some (some (.int (btA n (m 2) t u w)), mk shC m' q') ∧ fr fC m m' ∧ FI m' q' n (m 2) := by
  unfold btA
  rcases elB_or 3 w (by decide) with ⟨hw, h⟩ | ⟨b, hb, rfl⟩
  · refine ⟨m, q, ?_, fr_rfl, hF⟩
    rcases h with h | h
    · simp only [s124_0, s124_1, s124_4, s124_5, s124_6, s124_9, s124_12, s124_13, s124_14, s124_17, s124_20, s124_23, s124_26, s124_27, s124_28, s124_31, s124_32, s124_35, s124_37, s124_39, s124_40, s124_43, s124_46, s124_48, s124_49, s124_52, s124_55, s124_58, s124_59, s124_60, s124_63, s124_65, s124_66, s124_69, s124_71, s124_72, s124_75, s124_78, s124_81, s124_82, s124_83, s124_86, s124_89, s124_91, s124_92, s124_93, s124_96, s124_98, s124_99, s124_100, s124_103, s124_106, s124_107, s124_110, s124_111, s124_112, s124_114, s124_115, s124_116, s124_119, h, if_true, hw, Bool.false_eq_true, if_false]
    · simp only [s124_0, s124_1, s124_4, s124_5, s124_6, s124_9, s124_12, s124_13, s124_14, s124_17, s124_20, s124_23, s124_26, s124_27, s124_28, s124_31, s124_32, s124_35, s124_37, s124_39, s124_40, s124_43, s124_46, s124_48, s124_49, s124_52, s124_55, s124_58, s124_59, s124_60, s124_63, s124_65, s124_66, s124_69, s124_71, s124_72, s124_75, s124_78, s124_81, s124_82, s124_83, s124_86, s124_89, s124_91, s124_92, s124_93, s124_96, s124_98, s124_99, s124_100, s124_103, s124_106, s124_107, s124_110, s124_111, s124_112, s124_114, s124_115, s124_116, s124_119, lt_of_le (by decide) h, if_true, hw, Bool.false_eq_true, if_false, ite_self]
  rw [elB_nI (by decide) hb, eN_nI (by omega), if_pos rfl]
  have b0 := nI_pos (show b < 2 ^ 31 by omega)
  have b2 : ¬ nI 2 < nI b := by rw [nI_ltI (by decide) (by omega)]; omega
  obtain ⟨m1, e1, g1, F1⟩ := x_F_isOrderly (d := d) hN hF
  cases ho : orO n (m 2) with
  | false =>
    refine ⟨m1, q, ?_, g1, F1⟩
    simp only [s124_0, s124_1, s124_4, s124_5, s124_6, s124_9, s124_12, s124_13, s124_14, s124_17, s124_20, s124_23, s124_26, s124_27, s124_28, s124_31, s124_32, s124_35, s124_37, s124_39, s124_40, s124_43, s124_46, s124_48, s124_49, s124_52, s124_55, s124_58, s124_59, s124_60, s124_63, s124_65, s124_66, s124_69, s124_71, s124_72, s124_75, s124_78, s124_81, s124_82, s124_83, s124_86, s124_89, s124_91, s124_92, s124_93, s124_96, s124_98, s124_99, s124_100, s124_103, s124_106, s124_107, s124_110, s124_111, s124_112, s124_114, s124_115, s124_116, s124_119, b0, b2, e1, Option.bind_some, Option.toList_some, Option.toList_none, List.nil_append, List.cons_append, bI_z, ho, if_true, Bool.false_eq_true, if_false]
  | true =>
    have hT := hT ho
    have N1 := NI_fC hN g1
    have s2 : m1 2 = m 2 := g1 2 (by decide)
    obtain ⟨m2, e2, g2, F2, w2, -⟩ := x_F_ofKind (d := d + 2) (k := 3) N1 (s2 ▸ F1) (by decide)
    have N2 := NI_fC N1 g2
    rw [s2] at F2 w2
    rw [show 50 + 3 * 3 = 59 from rfl] at e2 w2
    have s2' : m2 2 = m 2 := (g2 2 (by decide)).trans s2
    have hl := w2.1
    rcases elB_or (vkL n (m 2) 3).length t (by omega) with ⟨hh, _⟩ | ⟨j, hj, rfl⟩
    · refine ⟨m2, q, ?_, fr_tr g1 g2, F2⟩
      simp only [s124_0, s124_1, s124_4, s124_5, s124_6, s124_9, s124_12, s124_13, s124_14, s124_17, s124_20, s124_23, s124_26, s124_27, s124_28, s124_31, s124_32, s124_35, s124_37, s124_39, s124_40, s124_43, s124_46, s124_48, s124_49, s124_52, s124_55, s124_58, s124_59, s124_60, s124_63, s124_65, s124_66, s124_69, s124_71, s124_72, s124_75, s124_78, s124_81, s124_82, s124_83, s124_86, s124_89, s124_91, s124_92, s124_93, s124_96, s124_98, s124_99, s124_100, s124_103, s124_106, s124_107, s124_110, s124_111, s124_112, s124_114, s124_115, s124_116, s124_119, b0, b2, e1, Option.bind_some, Option.toList_some, Option.toList_none, List.nil_append, List.cons_append, bI_z, ho, if_true, Bool.true_eq_false, if_false, e2, oC8_59, x_W_has oC8_59 hl, hh, Bool.false_and, Bool.false_eq_true]
    rcases elB_or (vkL n (m 2) 3).length u (by omega) with ⟨hh, _⟩ | ⟨k, hk, rfl⟩
    · refine ⟨m2, q, ?_, fr_tr g1 g2, F2⟩
      simp only [s124_0, s124_1, s124_4, s124_5, s124_6, s124_9, s124_12, s124_13, s124_14, s124_17, s124_20, s124_23, s124_26, s124_27, s124_28, s124_31, s124_32, s124_35, s124_37, s124_39, s124_40, s124_43, s124_46, s124_48, s124_49, s124_52, s124_55, s124_58, s124_59, s124_60, s124_63, s124_65, s124_66, s124_69, s124_71, s124_72, s124_75, s124_78, s124_81, s124_82, s124_83, s124_86, s124_89, s124_91, s124_92, s124_93, s124_96, s124_98, s124_99, s124_100, s124_103, s124_106, s124_107, s124_110, s124_111, s124_112, s124_114, s124_115, s124_116, s124_119, b0, b2, e1, Option.bind_some, Option.toList_some, Option.toList_none, List.nil_append, List.cons_append, bI_z, ho, if_true, Bool.true_eq_false, if_false, e2, oC8_59, x_W_has oC8_59 hl, elB_nI (show (vkL n (m 2) 3).length < 1000 by omega) hj, hh, Bool.and_false, Bool.false_eq_true]
    have aj := WR_at w2 hj
    have ak := WR_at w2 hk
    have ej := elB_nI (show (vkL n (m 2) 3).length < 1000 by omega) hj
    have ek := elB_nI (show (vkL n (m 2) 3).length < 1000 by omega) hk
    by_cases z0 : b = 0
    · subst z0
      refine ⟨m2, q, ?_, fr_tr g1 g2, F2⟩
      have hs : spK ((vkL n (m 2) 3).getD j 0) ((vkL n (m 2) 3).getD k 0) < 4096 := spK_lt
      simp only [s124_0, s124_1, s124_4, s124_5, s124_6, s124_9, s124_12, s124_13, s124_14, s124_17, s124_20, s124_23, s124_26, s124_27, s124_28, s124_31, s124_32, s124_35, s124_37, s124_39, s124_40, s124_43, s124_46, s124_48, s124_49, s124_52, s124_55, s124_58, s124_59, s124_60, s124_63, s124_65, s124_66, s124_69, s124_71, s124_72, s124_75, s124_78, s124_81, s124_82, s124_83, s124_86, s124_89, s124_91, s124_92, s124_93, s124_96, s124_98, s124_99, s124_100, s124_103, s124_106, s124_107, s124_110, s124_111, s124_112, s124_114, s124_115, s124_116, s124_119, b0, b2, e1, Option.bind_some, Option.toList_some, Option.toList_none, List.nil_append, List.cons_append, bI_z, ho, if_true, Bool.true_eq_false, if_false, e2, oC8_59, x_W_has oC8_59 hl, ej, ek, Bool.and_self, nI00, x_W_at oC8_59 (show j < 729 by omega), x_W_at oC8_59 (show k < 729 by omega), aj.1, ak.1, x_K_separation aj.2 ak.2, x_I_bitCount, pcI_4096 _ hs, eN_nI (show j < 1000 by omega), eN_nI (show k < 1000 by omega)]
    · obtain ⟨m3, q3, e3, g3, F3, l3, b3⟩ := x_F_graph (d := d + 1) N2 (s2' ▸ F2)
      rw [s2'] at F3 l3 b3
      have L64 : toL n (m 2) ≤ 64 := by unfold toL; omega
      have hj' : j < toL n (m 2) := by unfold toL; omega
      have hk' : k < toL n (m 2) := by unfold toL; omega
      refine ⟨m3, q3, ?_, fr_tr g1 (fr_tr g2 g3), F3⟩
      by_cases z1 : b = 1
      · subst z1
        simp only [s124_0, s124_1, s124_4, s124_5, s124_6, s124_9, s124_12, s124_13, s124_14, s124_17, s124_20, s124_23, s124_26, s124_27, s124_28, s124_31, s124_32, s124_35, s124_37, s124_39, s124_40, s124_43, s124_46, s124_48, s124_49, s124_52, s124_55, s124_58, s124_59, s124_60, s124_63, s124_65, s124_66, s124_69, s124_71, s124_72, s124_75, s124_78, s124_81, s124_82, s124_83, s124_86, s124_89, s124_91, s124_92, s124_93, s124_96, s124_98, s124_99, s124_100, s124_103, s124_106, s124_107, s124_110, s124_111, s124_112, s124_114, s124_115, s124_116, s124_119, b0, b2, e1, Option.bind_some, Option.toList_some, Option.toList_none, List.nil_append, List.cons_append, bI_z, ho, if_true, Bool.true_eq_false, if_false, e2, oC8_59, x_W_has oC8_59 hl, ej, ek, Bool.and_self, nI10, e3, x_G_isNext l3 L64 b3 hj' hk', eN_nI (show j < 1000 by omega), eN_nI (show k < 1000 by omega), show ¬ (1 : Nat) = 0 by decide]
        cases (nxO (vkL n (m 2) 3) (toL n (m 2)) j).testBit k <;> simp only [Bool.true_eq_false, if_true, if_false, s124_0, s124_1, s124_4, s124_5, s124_6, s124_9, s124_12, s124_13, s124_14, s124_17, s124_20, s124_23, s124_26, s124_27, s124_28, s124_31, s124_32, s124_35, s124_37, s124_39, s124_40, s124_43, s124_46, s124_48, s124_49, s124_52, s124_55, s124_58, s124_59, s124_60, s124_63, s124_65, s124_66, s124_69, s124_71, s124_72, s124_75, s124_78, s124_81, s124_82, s124_83, s124_86, s124_89, s124_91, s124_92, s124_93, s124_96, s124_98, s124_99, s124_100, s124_103, s124_106, s124_107, s124_110, s124_111, s124_112, s124_114, s124_115, s124_116, s124_119, bI_t, bI_f]
      · simp only [s124_0, s124_1, s124_4, s124_5, s124_6, s124_9, s124_12, s124_13, s124_14, s124_17, s124_20, s124_23, s124_26, s124_27, s124_28, s124_31, s124_32, s124_35, s124_37, s124_39, s124_40, s124_43, s124_46, s124_48, s124_49, s124_52, s124_55, s124_58, s124_59, s124_60, s124_63, s124_65, s124_66, s124_69, s124_71, s124_72, s124_75, s124_78, s124_81, s124_82, s124_83, s124_86, s124_89, s124_91, s124_92, s124_93, s124_96, s124_98, s124_99, s124_100, s124_103, s124_106, s124_107, s124_110, s124_111, s124_112, s124_114, s124_115, s124_116, s124_119, b0, b2, e1, Option.bind_some, Option.toList_some, Option.toList_none, List.nil_append, List.cons_append, bI_z, ho, if_true, Bool.true_eq_false, if_false, e2, oC8_59, x_W_has oC8_59 hl, ej, ek, Bool.and_self, nI_z (show b < 2 ^ 31 by omega), nI_eq (show b < 2 ^ 31 by omega) (show 1 < 2 ^ 31 by decide), z0, z1, e3, x_G_steps l3 L64 b3 hj' hk', eN_nI (show j < 1000 by omega), eN_nI (show k < 1000 by omega)]
def mtA (n : Nat) (F : Nat → Int32) (t : Int32) : Int32 :=
  if orO n F = true then (if t < -1 then -1001 else if t < nI (n * (n - 1) * (n - 2) / 6) then (if t = -1 then pcI (nI (muS n F).1) else nI (muS n F).1 >>> (t &&& 31) &&& nI 1) else -1001) else -1003
theorem x_S_mutation (hN : NI m n) (hF : FI m q n (m 2)) : ∃ m', ev (d + 10) 128 0 [.ref 0, .int t, .null] [] (mk shC m q) = some (some (.int (mtA n (m 2) t)), mk shC m' q) ∧ fr fC m m' ∧ FI m' q n (m 2) := by
  have n6 := hN.2.2.1
  unfold mtA
  obtain ⟨m1, e1, g1, F1⟩ := x_F_isOrderly (d := d + 1) hN hF
  cases ho : orO n (m 2) with
  | false =>
    refine ⟨m1, ?_, g1, F1⟩
    simp only [s128_0, s128_1, s128_4, s128_7, s128_10, s128_13, s128_14, s128_15, s128_16, s128_19, s128_20, s128_21, s128_24, s128_27, s128_30, s128_33, s128_34, s128_35, s128_38, s128_41, s128_42, s128_43, s128_44, s128_47, s128_48, s128_51, s128_54, s128_55, s128_56, s128_57, s128_58, s128_59, e1, Option.bind_some, Option.toList_some, Option.toList_none, List.nil_append, List.cons_append, bI_z, ho, if_true, Bool.false_eq_true, if_false]
  | true =>
    have N1 := NI_fC hN g1
    have s2 : m1 2 = m 2 := g1 2 (by decide)
    by_cases t1 : t < -1
    · refine ⟨m1, ?_, g1, F1⟩
      simp only [s128_0, s128_1, s128_4, s128_7, s128_10, s128_13, s128_14, s128_15, s128_16, s128_19, s128_20, s128_21, s128_24, s128_27, s128_30, s128_33, s128_34, s128_35, s128_38, s128_41, s128_42, s128_43, s128_44, s128_47, s128_48, s128_51, s128_54, s128_55, s128_56, s128_57, s128_58, s128_59, e1, Option.bind_some, Option.toList_some, Option.toList_none, List.nil_append, List.cons_append, bI_z, ho, if_true, Bool.true_eq_false, if_false, t1]
    by_cases t2 : t < nI (n * (n - 1) * (n - 2) / 6)
    · obtain ⟨m2, e2, g2, F2⟩ := x_F_mutations (d := d) N1 (s2 ▸ F1)
      rw [s2] at e2 F2
      refine ⟨m2, ?_, fr_tr g1 g2, F2⟩
      simp only [s128_0, s128_1, s128_4, s128_7, s128_10, s128_13, s128_14, s128_15, s128_16, s128_19, s128_20, s128_21, s128_24, s128_27, s128_30, s128_33, s128_34, s128_35, s128_38, s128_41, s128_42, s128_43, s128_44, s128_47, s128_48, s128_51, s128_54, s128_55, s128_56, s128_57, s128_58, s128_59, e1, Option.bind_some, Option.toList_some, Option.toList_none, List.nil_append, List.cons_append, bI_z, ho, if_true, Bool.true_eq_false, if_false, t1, oC0_1, x_A_triples oC0_1 N1.1 n6, t2, e2]
      by_cases t3 : t = -1
      · simp only [t3, if_true, s128_0, s128_1, s128_4, s128_7, s128_10, s128_13, s128_14, s128_15, s128_16, s128_19, s128_20, s128_21, s128_24, s128_27, s128_30, s128_33, s128_34, s128_35, s128_38, s128_41, s128_42, s128_43, s128_44, s128_47, s128_48, s128_51, s128_54, s128_55, s128_56, s128_57, s128_58, s128_59, x_I_bitCount, Option.bind_some, Option.toList_some, Option.toList_none, List.nil_append, List.cons_append]
      · simp only [t3, if_false, s128_0, s128_1, s128_4, s128_7, s128_10, s128_13, s128_14, s128_15, s128_16, s128_19, s128_20, s128_21, s128_24, s128_27, s128_30, s128_33, s128_34, s128_35, s128_38, s128_41, s128_42, s128_43, s128_44, s128_47, s128_48, s128_51, s128_54, s128_55, s128_56, s128_57, s128_58, s128_59]
    · refine ⟨m1, ?_, g1, F1⟩
      simp only [s128_0, s128_1, s128_4, s128_7, s128_10, s128_13, s128_14, s128_15, s128_16, s128_19, s128_20, s128_21, s128_24, s128_27, s128_30, s128_33, s128_34, s128_35, s128_38, s128_41, s128_42, s128_43, s128_44, s128_47, s128_48, s128_51, s128_54, s128_55, s128_56, s128_57, s128_58, s128_59, e1, Option.bind_some, Option.toList_some, Option.toList_none, List.nil_append, List.cons_append, bI_z, ho, if_true, Bool.true_eq_false, if_false, t1, oC0_1, x_A_triples oC0_1 N1.1 n6, t2]
def exA (n : Nat) (F : Nat → Int32) : Int32 := if orO n F = true ∧ n ≤ 4 then exO4 n F else -1003
theorem x_S_extensions (hN : NI m n) (hF : FI m q n (m 2)) : ∃ m', ev (d + 75) 132 0 [.ref 0] [] (mk shC m q) = some (some (.int (exA n (m 2))), mk shC m' q) ∧ fr fC m m' ∧ FI m' q n (m 2) := by
  unfold exA
  obtain ⟨m1, e1, g1, F1⟩ := x_F_isOrderly (d := d + 66) hN hF
  have N1 := NI_fC hN g1
  have s2 : m1 2 = m 2 := g1 2 (by decide)
  have n6 := hN.2.2.1
  cases ho : orO n (m 2) with
  | false =>
    refine ⟨m1, ?_, g1, F1⟩
    simp only [s132_0, s132_1, s132_4, s132_7, s132_10, s132_11, s132_14, s132_17, s132_18, s132_21, s132_24, s132_25, s132_26, s132_29, s132_32, e1, Option.bind_some, Option.toList_some, Option.toList_none, List.nil_append, List.cons_append, bI_z, ho, if_true, Bool.false_eq_true, false_and, if_false]
  | true =>
    by_cases h4 : n ≤ 4
    · obtain ⟨m2, e2, g2, F2⟩ := x_F_extensionWays (d := d) N1 (s2 ▸ F1)
      rw [s2] at e2 F2
      refine ⟨m2, ?_, fr_tr g1 g2, F2⟩
      simp only [s132_0, s132_1, s132_4, s132_7, s132_10, s132_11, s132_14, s132_17, s132_18, s132_21, s132_24, s132_25, s132_26, s132_29, s132_32, e1, Option.bind_some, Option.toList_some, Option.toList_none, List.nil_append, List.cons_append, bI_z, ho, if_true, Bool.true_eq_false, true_and, if_false, oC0_1, x_A_size oC0_1, N1.1, show ¬ nI 4 < nI n by rw [nI_ltI (by decide) (by omega)]; omega, e2, h4]
    · refine ⟨m1, ?_, g1, F1⟩
      simp only [s132_0, s132_1, s132_4, s132_7, s132_10, s132_11, s132_14, s132_17, s132_18, s132_21, s132_24, s132_25, s132_26, s132_29, s132_32, e1, Option.bind_some, Option.toList_some, Option.toList_none, List.nil_append, List.cons_append, bI_z, ho, if_true, Bool.true_eq_false, true_and, if_false, oC0_1, x_A_size oC0_1, N1.1, show nI 4 < nI n by rw [nI_ltI (by decide) (by omega)]; omega, h4]
end
