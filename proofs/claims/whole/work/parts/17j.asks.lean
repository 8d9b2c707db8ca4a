/-! what is asked: five, is -/
def ad5 (a b c d e : Nat) : Bool := decide (a ≠ b ∧ a ≠ c ∧ a ≠ d ∧ a ≠ e ∧ b ≠ c ∧ b ≠ d ∧ b ≠ e ∧ c ≠ d ∧ c ≠ e ∧ d ≠ e)
theorem ad5_eq : ∀ a, a < 6 → ∀ b, b < 6 → ∀ c, c < 6 → ∀ d, d < 6 → ∀ e, e < 6 → decide (ons 12 (2 ^ a ||| 2 ^ b ||| 2 ^ c ||| 2 ^ d ||| 2 ^ e) = 5) = ad5 a b c d e := by decide +kernel
theorem FI_fr {m m' : Mem} {q : MemJ} {n : Nat} {F : Nat → Int32} (h : FI m q n F) (hf : fr [44, 45, 46] m m') : FI m' q n F := by
  obtain ⟨f1, f2, f3, f4, f5, f6, f7⟩ := h
  unfold FI
  rw [hf 43 (by decide), hf 62 (by decide), hf 66 (by decide), hf 67 (by decide)]
  exact ⟨f1, f2, f3, f4, VI_fr f5 (fun c h1 h2 => hf c (by simp; omega)), f6, f7⟩
theorem nel_i {n : Nat} {x : Int32} (hn : n + 1 < 2 ^ 31) (h : nel (n + 1) x) : x.toInt < 0 ∨ (n : Int) < x.toInt := by
  rcases h with h | h
  · exact Or.inl (by have := Int32.lt_iff_toInt_lt.mp h; simpa using this)
  · refine Or.inr ?_
    have := Int32.le_iff_toInt_le.mp h
    rw [nI_toInt (by omega)] at this
    omega
/-- whether all signs are their turns -/
def drB (n : Nat) (G F : Nat → Int32) : Bool := (trip n).all fun t => sgn (trn G t.1 t.2.1 t.2.2) == F ((t.1 * 6 + t.2.1) * 6 + t.2.2)
def bsO (n : Nat) (F : Nat → Int32) : Int32 := (trip n).foldl (fun x t => x + if F ((t.1 * 6 + t.2.1) * 6 + t.2.2) = 0 then 0 else 1) 0
def isA (n : Nat) (F G : Nat → Int32) : Nat → Int32
  | 0 => bI (exO n F)
  | 1 => bI (orO n F)
  | 2 => bI (drB n G F)
  | _ => bI (decide (bsO n F = nI (n * (n - 1) * (n - 2) / 6)))
section
variable {d n : Nat} {m : Mem} {q : MemJ} {x y z u v : Int32}
theorem x_S_isKind {h : AH} : ev d 93 0 [.int x] [] h = some (some (.int (bI (elB 4 x))), h) := by
  unfold elB
  by_cases h : x < 0
  · simp only [s93_0, s93_1, s93_4, s93_5, s93_6, s93_9, s93_10, s93_13, s93_14, h, if_true, am_b0, decide_true, Bool.not_true, Bool.false_and, bI_f]
  · by_cases h2 : x < nI 4
    · simp only [s93_0, s93_1, s93_4, s93_5, s93_6, s93_9, s93_10, s93_13, s93_14, h, h2, if_true, if_false, am_b1, decide_true, decide_false, Bool.not_false, Bool.and_self, bI_t]
    · simp only [s93_0, s93_1, s93_4, s93_5, s93_6, s93_9, s93_10, s93_13, s93_14, h, h2, if_false, am_b0, decide_false, Bool.and_false, bI_f]
theorem x_S_isBox {h : AH} : ev d 138 0 [.int x] [] h = some (some (.int (bI (elB 3 x))), h) := by
  unfold elB
  by_cases h : x < 0
  · simp only [s138_0, s138_1, s138_4, s138_5, s138_6, s138_9, s138_10, s138_13, s138_14, h, if_true, am_b0, decide_true, Bool.not_true, Bool.false_and, bI_f]
  · by_cases h2 : x < nI 3
    · simp only [s138_0, s138_1, s138_4, s138_5, s138_6, s138_9, s138_10, s138_13, s138_14, h, h2, if_true, if_false, am_b1, decide_true, decide_false, Bool.not_false, Bool.and_self, bI_t]
    · simp only [s138_0, s138_1, s138_4, s138_5, s138_6, s138_9, s138_10, s138_13, s138_14, h, h2, if_false, am_b0, decide_false, Bool.and_false, bI_f]
theorem x_S_areDistinct {a b c d' e : Nat} {h : AH} (ha : a < 6) (hb : b < 6) (hc : c < 6) (hd : d' < 6) (he : e < 6) : ev (d + 1) 77 0 [.int (nI a), .int (nI b), .int (nI c), .int (nI d'), .int (nI e)] [] h = some (some (.int (bI (ad5 a b c d' e))), h) := by
  have h6 : ∀ {i : Nat}, i < 6 → nI 1 <<< (nI i &&& 31) = nI (2 ^ i) := fun hi => bt_sh _ (by omega)
  have hp : 2 ^ a ||| 2 ^ b ||| 2 ^ c ||| 2 ^ d' ||| 2 ^ e < 64 := bt_orlt _ (bt_orlt _ (msk_lt ha hb hc) _ (bt_lt _ hd)) _ (bt_lt _ he)
  have h12 := pcI_4096 (2 ^ a ||| 2 ^ b ||| 2 ^ c ||| 2 ^ d' ||| 2 ^ e) (by omega)
  have ho : ons 12 (2 ^ a ||| 2 ^ b ||| 2 ^ c ||| 2 ^ d' ||| 2 ^ e) ≤ 12 := ons_le
  have hq := ad5_eq a ha b hb c hc d' hd e he
  simp only [s77_0, s77_1, s77_2, s77_3, s77_4, s77_5, s77_6, s77_7, s77_8, s77_9, s77_10, s77_11, s77_12, s77_13, s77_14, s77_15, s77_16, s77_18, s77_19, s77_20, s77_23, s77_24, s77_27, s77_28, s77_31, s77_32, h6 ha, h6 hb, h6 hc, h6 hd, h6 he, nI_or, x_I_bitCount, h12, Option.bind_some, Option.toList_some, Option.toList_none, List.nil_append, List.cons_append, nI_eq (show ons 12 (2 ^ a ||| 2 ^ b ||| 2 ^ c ||| 2 ^ d' ||| 2 ^ e) < 2 ^ 31 by omega) (show 5 < 2 ^ 31 by decide), am_b0, am_b1]
  by_cases h5 : ons 12 (2 ^ a ||| 2 ^ b ||| 2 ^ c ||| 2 ^ d' ||| 2 ^ e) = 5
  · rw [decide_eq_true h5] at hq
    rw [if_pos h5, ← hq]
    rfl
  · rw [decide_eq_false h5] at hq
    rw [if_neg h5, ← hq]
    rfl
theorem x_S_five (hn : m 1 0 = nI n) (hn6 : n ≤ 6) : ev (d + 6) 76 0 [.ref 0, .int x, .int y, .int z, .int u, .int v, .null] [] (mk shC m q) = some (some (.int (if (elB n x && elB n y && elB n z && elB n u && elB n v && ad5 (eN x) (eN y) (eN z) (eN u) (eN v)) = true then bI (gd5 (m 2) (eN x) (eN y) (eN z) (eN u) (eN v)) else -1001)), mk shC m q) := by
  rcases elB_or n x (by omega) with ⟨hx, _⟩ | ⟨a, ha, rfl⟩
  · simp only [s76_0, s76_1, s76_4, s76_5, s76_8, s76_11, s76_12, s76_15, s76_16, s76_19, s76_22, s76_23, s76_26, s76_27, s76_30, s76_33, s76_34, s76_37, s76_39, s76_42, s76_45, s76_46, s76_49, s76_51, s76_54, s76_57, s76_58, s76_61, s76_62, s76_64, s76_66, s76_69, s76_70, s76_71, s76_72, s76_74, s76_76, s76_79, s76_82, s76_85, s76_86, s76_87, s76_90, s76_91, s76_92, s76_93, s76_95, s76_97, s76_100, s76_103, s76_104, s76_107, s76_108, oC0_1, x_A_has oC0_1 hn, Option.bind_some, Option.toList_some, Option.toList_none, List.nil_append, List.cons_append, bI_z, hx, if_true, nI00, Bool.false_and, Bool.false_eq_true, if_false]
  rcases elB_or n y (by omega) with ⟨hy, _⟩ | ⟨b, hb, rfl⟩
  · simp only [s76_0, s76_1, s76_4, s76_5, s76_8, s76_11, s76_12, s76_15, s76_16, s76_19, s76_22, s76_23, s76_26, s76_27, s76_30, s76_33, s76_34, s76_37, s76_39, s76_42, s76_45, s76_46, s76_49, s76_51, s76_54, s76_57, s76_58, s76_61, s76_62, s76_64, s76_66, s76_69, s76_70, s76_71, s76_72, s76_74, s76_76, s76_79, s76_82, s76_85, s76_86, s76_87, s76_90, s76_91, s76_92, s76_93, s76_95, s76_97, s76_100, s76_103, s76_104, s76_107, s76_108, oC0_1, x_A_has oC0_1 hn, Option.bind_some, Option.toList_some, Option.toList_none, List.nil_append, List.cons_append, bI_z, hy, elB_nI (show n < 1000 by omega) ha, if_true, nI00, Bool.true_eq_false, Bool.and_false, Bool.false_and, Bool.false_eq_true, if_false]
  rcases elB_or n z (by omega) with ⟨hz, _⟩ | ⟨c, hc, rfl⟩
  · simp only [s76_0, s76_1, s76_4, s76_5, s76_8, s76_11, s76_12, s76_15, s76_16, s76_19, s76_22, s76_23, s76_26, s76_27, s76_30, s76_33, s76_34, s76_37, s76_39, s76_42, s76_45, s76_46, s76_49, s76_51, s76_54, s76_57, s76_58, s76_61, s76_62, s76_64, s76_66, s76_69, s76_70, s76_71, s76_72, s76_74, s76_76, s76_79, s76_82, s76_85, s76_86, s76_87, s76_90, s76_91, s76_92, s76_93, s76_95, s76_97, s76_100, s76_103, s76_104, s76_107, s76_108, oC0_1, x_A_has oC0_1 hn, Option.bind_some, Option.toList_some, Option.toList_none, List.nil_append, List.cons_append, bI_z, hz, elB_nI (show n < 1000 by omega) ha, elB_nI (show n < 1000 by omega) hb, if_true, nI00, Bool.true_eq_false, Bool.and_false, Bool.false_and, Bool.false_eq_true, if_false]
  rcases elB_or n u (by omega) with ⟨hu, _⟩ | ⟨e, he, rfl⟩
  · simp only [s76_0, s76_1, s76_4, s76_5, s76_8, s76_11, s76_12, s76_15, s76_16, s76_19, s76_22, s76_23, s76_26, s76_27, s76_30, s76_33, s76_34, s76_37, s76_39, s76_42, s76_45, s76_46, s76_49, s76_51, s76_54, s76_57, s76_58, s76_61, s76_62, s76_64, s76_66, s76_69, s76_70, s76_71, s76_72, s76_74, s76_76, s76_79, s76_82, s76_85, s76_86, s76_87, s76_90, s76_91, s76_92, s76_93, s76_95, s76_97, s76_100, s76_103, s76_104, s76_107, s76_108, oC0_1, x_A_has oC0_1 hn, Option.bind_some, Option.toList_some, Option.toList_none, List.nil_append, List.cons_append, bI_z, hu, elB_nI (show n < 1000 by omega) ha, elB_nI (show n < 1000 by omega) hb, elB_nI (show n < 1000 by omega) hc, if_true, nI00, Bool.true_eq_false, Bool.and_false, Bool.false_and, Bool.false_eq_true, if_false]
  rcases elB_or n v (by omega) with ⟨hv, _⟩ | ⟨f, hf, rfl⟩
  · simp only [s76_0, s76_1, s76_4, s76_5, s76_8, s76_11, s76_12, s76_15, s76_16, s76_19, s76_22, s76_23, s76_26, s76_27, s76_30, s76_33, s76_34, s76_37, s76_39, s76_42, s76_45, s76_46, s76_49, s76_51, s76_54, s76_57, s76_58, s76_61, s76_62, s76_64, s76_66, s76_69, s76_70, s76_71, s76_72, s76_74, s76_76, s76_79, s76_82, s76_85, s76_86, s76_87, s76_90, s76_91, s76_92, s76_93, s76_95, s76_97, s76_100, s76_103, s76_104, s76_107, s76_108, oC0_1, x_A_has oC0_1 hn, Option.bind_some, Option.toList_some, Option.toList_none, List.nil_append, List.cons_append, bI_z, hv, elB_nI (show n < 1000 by omega) ha, elB_nI (show n < 1000 by omega) hb, elB_nI (show n < 1000 by omega) hc, elB_nI (show n < 1000 by omega) he, if_true, nI00, Bool.true_eq_false, Bool.and_false, Bool.false_and, Bool.false_eq_true, if_false]
  have g := x_R_isGood (dd := d) (m := m) (q := q) oC0_1 (show a < 6 by omega) (show b < 6 by omega) (show c < 6 by omega) (show e < 6 by omega) (show f < 6 by omega)
  simp only [s76_0, s76_1, s76_4, s76_5, s76_8, s76_11, s76_12, s76_15, s76_16, s76_19, s76_22, s76_23, s76_26, s76_27, s76_30, s76_33, s76_34, s76_37, s76_39, s76_42, s76_45, s76_46, s76_49, s76_51, s76_54, s76_57, s76_58, s76_61, s76_62, s76_64, s76_66, s76_69, s76_70, s76_71, s76_72, s76_74, s76_76, s76_79, s76_82, s76_85, s76_86, s76_87, s76_90, s76_91, s76_92, s76_93, s76_95, s76_97, s76_100, s76_103, s76_104, s76_107, s76_108, oC0_1, x_A_has oC0_1 hn, Option.bind_some, Option.toList_some, Option.toList_none, List.nil_append, List.cons_append, bI_z, elB_nI (show n < 1000 by omega) ha, elB_nI (show n < 1000 by omega) hb, elB_nI (show n < 1000 by omega) hc, elB_nI (show n < 1000 by omega) he, elB_nI (show n < 1000 by omega) hf, eN_nI (show a < 1000 by omega), eN_nI (show b < 1000 by omega), eN_nI (show c < 1000 by omega), eN_nI (show e < 1000 by omega), eN_nI (show f < 1000 by omega), if_true, nI10, Bool.true_eq_false, Bool.and_self, Bool.true_and, if_false, x_S_areDistinct (show a < 6 by omega) (show b < 6 by omega) (show c < 6 by omega) (show e < 6 by omega) (show f < 6 by omega), g]
  cases ad5 a b c e f with
  | false => simp only [if_true, Bool.false_eq_true, if_false]
  | true =>
    simp only [Bool.true_eq_false, if_true, if_false]
    cases hg : gd5 (m 2) a b c e f with
    | false => simp [hg, s76_0, s76_1, s76_4, s76_5, s76_8, s76_11, s76_12, s76_15, s76_16, s76_19, s76_22, s76_23, s76_26, s76_27, s76_30, s76_33, s76_34, s76_37, s76_39, s76_42, s76_45, s76_46, s76_49, s76_51, s76_54, s76_57, s76_58, s76_61, s76_62, s76_64, s76_66, s76_69, s76_70, s76_71, s76_72, s76_74, s76_76, s76_79, s76_82, s76_85, s76_86, s76_87, s76_90, s76_91, s76_92, s76_93, s76_95, s76_97, s76_100, s76_103, s76_104, s76_107, s76_108, nI00, bI]
    | true => simp [hg, s76_0, s76_1, s76_4, s76_5, s76_8, s76_11, s76_12, s76_15, s76_16, s76_19, s76_22, s76_23, s76_26, s76_27, s76_30, s76_33, s76_34, s76_37, s76_39, s76_42, s76_45, s76_46, s76_49, s76_51, s76_54, s76_57, s76_58, s76_61, s76_62, s76_64, s76_66, s76_69, s76_70, s76_71, s76_72, s76_74, s76_76, s76_79, s76_82, s76_85, s76_86, s76_87, s76_90, s76_91, s76_92, s76_93, s76_95, s76_97, s76_100, s76_103, s76_104, s76_107, s76_108, nI10, bI]
theorem x_S_is (hN : NI m n) (hF : FI m q n (m 2)) : ∃ m', ev (d + 9) 80 0 [.ref 0, .int x] [] (mk shC m q) = some (some (.int (if elB 4 x = true then isA n (m 2) (m 3) (eN x) else -1002)), mk shC m' q) ∧ fr fC m m' ∧ FI m' q n (m 2) := by
  have n1 := hN.1
  have n6 := hN.2.2.1
  rcases elB_or 4 x (by decide) with ⟨hx, h⟩ | ⟨k, hk, rfl⟩
  · refine ⟨m, ?_, fr_rfl, hF⟩
    simp only [s80_0, s80_1 (nel_i (n := 3) (by decide) h), s80_103, s80_106, hx, Bool.false_eq_true, if_false]
  · rw [elB_nI (by decide) hk, eN_nI (by omega), if_pos rfl]
    match k, hk with
    | 0, _ =>
      obtain ⟨m1, e1, g1⟩ := x_F_hasExchange (d := d + 5) (q := q) hN
      refine ⟨m1, ?_, fr_wk g1 (by decide), FI_fr hF g1⟩
      simp only [s80_0, s80_1_0, s80_1_1, s80_1_2, s80_1_3, s80_32, s80_33, s80_36, s80_39, s80_42, s80_43, s80_46, s80_47, s80_48, s80_49, s80_52, s80_55, s80_58, s80_59, s80_62, s80_63, s80_64, s80_65, s80_68, s80_71, s80_74, s80_75, s80_78, s80_79, s80_80, s80_81, s80_84, s80_87, s80_88, s80_91, s80_94, s80_97, s80_98, s80_101, s80_102, s80_103, s80_106, e1, Option.bind_some, Option.toList_some, Option.toList_none, List.nil_append, List.cons_append, bI_z, isA]
      cases exO n (m 2) <;> simp only [Bool.true_eq_false, if_true, if_false, s80_0, s80_1_0, s80_1_1, s80_1_2, s80_1_3, s80_32, s80_33, s80_36, s80_39, s80_42, s80_43, s80_46, s80_47, s80_48, s80_49, s80_52, s80_55, s80_58, s80_59, s80_62, s80_63, s80_64, s80_65, s80_68, s80_71, s80_74, s80_75, s80_78, s80_79, s80_80, s80_81, s80_84, s80_87, s80_88, s80_91, s80_94, s80_97, s80_98, s80_101, s80_102, s80_103, s80_106, bI_t, bI_f]
    | 1, _ =>
      obtain ⟨m1, e1, g1, h1⟩ := x_F_isOrderly (d := d) hN hF
      refine ⟨m1, ?_, g1, h1⟩
      simp only [s80_0, s80_1_0, s80_1_1, s80_1_2, s80_1_3, s80_32, s80_33, s80_36, s80_39, s80_42, s80_43, s80_46, s80_47, s80_48, s80_49, s80_52, s80_55, s80_58, s80_59, s80_62, s80_63, s80_64, s80_65, s80_68, s80_71, s80_74, s80_75, s80_78, s80_79, s80_80, s80_81, s80_84, s80_87, s80_88, s80_91, s80_94, s80_97, s80_98, s80_101, s80_102, s80_103, s80_106, e1, Option.bind_some, Option.toList_some, Option.toList_none, List.nil_append, List.cons_append, bI_z, isA]
      cases orO n (m 2) <;> simp only [Bool.true_eq_false, if_true, if_false, s80_0, s80_1_0, s80_1_1, s80_1_2, s80_1_3, s80_32, s80_33, s80_36, s80_39, s80_42, s80_43, s80_46, s80_47, s80_48, s80_49, s80_52, s80_55, s80_58, s80_59, s80_62, s80_63, s80_64, s80_65, s80_68, s80_71, s80_74, s80_75, s80_78, s80_79, s80_80, s80_81, s80_84, s80_87, s80_88, s80_91, s80_94, s80_97, s80_98, s80_101, s80_102, s80_103, s80_106, bI_t, bI_f]
    | 2, _ =>
      have e1 := x_A_isDrawn (d := d + 5) (q := q) oC0_1 n1 n6
      refine ⟨m, ?_, fr_rfl, hF⟩
      simp only [isA, drB]
      simp only [s80_0, s80_1_0, s80_1_1, s80_1_2, s80_1_3, s80_32, s80_33, s80_36, s80_39, s80_42, s80_43, s80_46, s80_47, s80_48, s80_49, s80_52, s80_55, s80_58, s80_59, s80_62, s80_63, s80_64, s80_65, s80_68, s80_71, s80_74, s80_75, s80_78, s80_79, s80_80, s80_81, s80_84, s80_87, s80_88, s80_91, s80_94, s80_97, s80_98, s80_101, s80_102, s80_103, s80_106, oC0_1, e1, Option.bind_some, Option.toList_some, Option.toList_none, List.nil_append, List.cons_append]
      cases (trip n).all (fun t => sgn (trn (m (1 + 2)) t.1 t.2.1 t.2.2) == m (1 + 1) ((t.1 * 6 + t.2.1) * 6 + t.2.2)) <;> simp only [Bool.false_eq_true, if_true, if_false, s80_0, s80_1_0, s80_1_1, s80_1_2, s80_1_3, s80_32, s80_33, s80_36, s80_39, s80_42, s80_43, s80_46, s80_47, s80_48, s80_49, s80_52, s80_55, s80_58, s80_59, s80_62, s80_63, s80_64, s80_65, s80_68, s80_71, s80_74, s80_75, s80_78, s80_79, s80_80, s80_81, s80_84, s80_87, s80_88, s80_91, s80_94, s80_97, s80_98, s80_101, s80_102, s80_103, s80_106, Option.bind_some, Option.toList_some, Option.toList_none, List.nil_append, List.cons_append, nI00, nI10, bI_t, bI_f]
    | 3, _ =>
      refine ⟨m, ?_, fr_rfl, hF⟩
      simp only [isA]
      simp only [s80_0, s80_1_0, s80_1_1, s80_1_2, s80_1_3, s80_32, s80_33, s80_36, s80_39, s80_42, s80_43, s80_46, s80_47, s80_48, s80_49, s80_52, s80_55, s80_58, s80_59, s80_62, s80_63, s80_64, s80_65, s80_68, s80_71, s80_74, s80_75, s80_78, s80_79, s80_80, s80_81, s80_84, s80_87, s80_88, s80_91, s80_94, s80_97, s80_98, s80_101, s80_102, s80_103, s80_106, oC0_1, x_A_bases oC0_1 n1 n6, x_A_triples oC0_1 n1 n6, Option.bind_some, Option.toList_some, Option.toList_none, List.nil_append, List.cons_append]
      rw [show (trip n).foldl (fun x t => x + if m (1 + 1) ((t.1 * 6 + t.2.1) * 6 + t.2.2) = 0 then 0 else 1) 0 = bsO n (m 2) from rfl]
      by_cases h : bsO n (m 2) = nI (n * (n - 1) * (n - 2) / 6)
      · simp only [h, if_true, s80_0, s80_1_0, s80_1_1, s80_1_2, s80_1_3, s80_32, s80_33, s80_36, s80_39, s80_42, s80_43, s80_46, s80_47, s80_48, s80_49, s80_52, s80_55, s80_58, s80_59, s80_62, s80_63, s80_64, s80_65, s80_68, s80_71, s80_74, s80_75, s80_78, s80_79, s80_80, s80_81, s80_84, s80_87, s80_88, s80_91, s80_94, s80_97, s80_98, s80_101, s80_102, s80_103, s80_106, decide_true, bI_t]
      · simp only [h, if_false, s80_0, s80_1_0, s80_1_1, s80_1_2, s80_1_3, s80_32, s80_33, s80_36, s80_39, s80_42, s80_43, s80_46, s80_47, s80_48, s80_49, s80_52, s80_55, s80_58, s80_59, s80_62, s80_63, s80_64, s80_65, s80_68, s80_71, s80_74, s80_75, s80_78, s80_79, s80_80, s80_81, s80_84, s80_87, s80_88, s80_91, s80_94, s80_97, s80_98, s80_101, s80_102, s80_103, s80_106, decide_false, bI_f]
end
