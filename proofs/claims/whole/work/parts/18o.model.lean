/-! the model: laid, found, beside, between -/
section
variable {d a b c e f g i n k t u : Nat} {m : Mem} {q : MemJ} {h : AH} {v3 v4 v5 v6 v7 : Value} {x y z w : Int32} {B : Nat → BR} {r : BR}
theorem x_M_lay (hn : m 1 0 = nI n) (h1 : 1 ≤ n) (hn6 : n ≤ 6) (hI : isM n (m 1)) (hB : BM m B) : ∃ m', ev (d + 9) 257 0 [.ref 0, .int x, .int y, .int z, .int w, .null, .null, .null] [] (mk shM m q) = some (some (.int (lyM n (m 1) B x y z w).1), mk shM m' q) ∧ BM m' (lyM n (m 1) B x y z w).2 ∧ fr [0, 6, 7, 10, 11, 12] m m' ∧ (m' 0 = m 0 ∨ m' 0 = upd (m 0) 18 (nI (3 ^ n))) := by
  have I := x_M_inE (d := d + 8) (x := z) (h := mk shM m q) (show 4 < 1000 by decide) (Z := 0) (K := 3) (by decide) (by decide)
  have hp := p3_le n hn6
  unfold lyM
  rcases elB_or 4 z (by decide) with ⟨hx, _⟩ | ⟨k, hk, rfl⟩
  · rw [hx]
    refine ⟨m, ?_, hB, fr_rfl, Or.inl rfl⟩
    simp only [s257_0, s257_1, s257_2, s257_3, s257_6, s257_9, s257_12, s257_15, s257_16, s257_17, s257_18, s257_21, s257_24, s257_27, s257_28, s257_29, s257_30, s257_33, s257_35, s257_38, s257_39, s257_42, s257_43, s257_45, s257_48, s257_50, s257_52, s257_53, s257_56, s257_57, s257_60, s257_63, s257_66, s257_67, s257_68, s257_69, s257_70, s257_73, s257_75, s257_77, s257_80, s257_82, s257_83, s257_85, s257_86, s257_89, s257_92, s257_94, s257_95, s257_98, s257_99, s257_100, s257_101, s257_104, s257_106, s257_109, s257_112, s257_113, s257_114, s257_117, s257_119, s257_120, s257_121, s257_122, s257_123, s257_125, s257_126, s257_127, s257_130, s257_132, s257_133, s257_134, s257_135, s257_136, s257_137, s257_140, s257_141, s257_143, I, Option.bind_some, Option.toList_some, Option.toList_none, List.nil_append, List.cons_append, bI_z, hx, if_true, Bool.false_eq_true, if_false]
  have e4 := elB_nI (show 4 < 1000 by decide) hk
  rw [e4, eN_nI (by omega), if_pos rfl]
  have br := x_M_isBarred (d := d) (m := m) (q := q) hn hn6 hk
  cases hb : decide (1 < k) && !orM n (m 1) with
  | true =>
    refine ⟨m, ?_, hB, fr_rfl, Or.inl rfl⟩
    simp only [s257_0, s257_1, s257_2, s257_3, s257_6, s257_9, s257_12, s257_15, s257_16, s257_17, s257_18, s257_21, s257_24, s257_27, s257_28, s257_29, s257_30, s257_33, s257_35, s257_38, s257_39, s257_42, s257_43, s257_45, s257_48, s257_50, s257_52, s257_53, s257_56, s257_57, s257_60, s257_63, s257_66, s257_67, s257_68, s257_69, s257_70, s257_73, s257_75, s257_77, s257_80, s257_82, s257_83, s257_85, s257_86, s257_89, s257_92, s257_94, s257_95, s257_98, s257_99, s257_100, s257_101, s257_104, s257_106, s257_109, s257_112, s257_113, s257_114, s257_117, s257_119, s257_120, s257_121, s257_122, s257_123, s257_125, s257_126, s257_127, s257_130, s257_132, s257_133, s257_134, s257_135, s257_136, s257_137, s257_140, s257_141, s257_143, I, Option.bind_some, Option.toList_some, Option.toList_none, List.nil_append, List.cons_append, bI_z, e4, if_true, Bool.true_eq_false, if_false, br, hb]
  | false =>
    rw [if_neg (by decide)]
    obtain ⟨m2, e2, w2, g2, a2⟩ := x_M_marksKind (d := d + 1) (q := q) hn h1 hn6 hI hk
    have a3 : m2 0 18 = nI (3 ^ n) := by rw [a2]; simp [upd]
    have n2 : m2 1 0 = nI n := by rw [fr_at g2 1 (by decide)]; exact hn
    have B2 : BM m2 B := BM_fr hB (fr_at g2 4 (by decide)) (fr_at g2 5 (by decide)) (fr_at g2 6 (by decide)) (fr_at g2 7 (by decide))
    have g3 : fr [0, 6, 7, 10, 11, 12] m m2 := fr_wk g2 (by decide)
    have ll := mlD_len (N := 3 ^ n) (P := kiP n (m 1) k)
    have ib : ∀ {mm : Mem}, ev (d + 8) 256 0 [.int x] [] (mk shM mm q) = some (some (.int (bI (elB 3 x))), mk shM mm q) := x_M_isBox
    -- the code
    have hcode : ev (d + 9) 257 33 [.ref 0, .int x, .int y, .int (nI k), .int w, .null, .null, .null] [] (mk shM m2 q) = ev (d + 9) 257 50 [.ref 0, .int x, .int y, .int (nI k), .int w, .int (if elB (mlD (3 ^ n) (kiP n (m 1) k)).length w = true then nI ((mlD (3 ^ n) (kiP n (m 1) k)).getD (eN w) 0) else -1), .null, .null] [] (mk shM m2 q) := by
      by_cases w0 : w < 0
      · have : elB (mlD (3 ^ n) (kiP n (m 1) k)).length w = false := by unfold elB; rw [decide_eq_true w0]; rfl
        rw [this]
        simp only [s257_33, s257_35, s257_38, s257_39, s257_42, s257_43, s257_45, s257_48, w0, if_true, Bool.false_eq_true, if_false]
      · obtain ⟨j, hj, rfl⟩ := nI_of w0
        have at' := x_M_markedAt (d := d + 8) (q := q) (k := j) hn6 a3 w2 hj
        simp only [s257_33, s257_35, s257_38, s257_39, s257_42, s257_43, s257_45, s257_48, w0, if_false, at', Option.bind_some, Option.toList_some, Option.toList_none, List.nil_append, List.cons_append]
        by_cases hl : j < (mlD (3 ^ n) (kiP n (m 1) k)).length
        · rw [elB_nI (by omega) hl, if_pos rfl, eN_nI (by omega), show atM (mlD (3 ^ n) (kiP n (m 1) k)) j = nI ((mlD (3 ^ n) (kiP n (m 1) k)).getD j 0) from if_pos hl]
        · have : elB (mlD (3 ^ n) (kiP n (m 1) k)).length (nI j) = false := by
            unfold elB
            rw [decide_eq_false (show ¬ nI j < nI (mlD (3 ^ n) (kiP n (m 1) k)).length by rw [nI_ltI hj (by omega)]; exact hl), Bool.and_false]
          rw [this, if_neg (by decide), show atM (mlD (3 ^ n) (kiP n (m 1) k)) j = -1 from if_neg hl]
    rcases elB_or (mlD (3 ^ n) (kiP n (m 1) k)).length w (by omega) with ⟨hw, _⟩ | ⟨j, hj, rfl⟩
    · rw [hw, if_neg (by decide)] at hcode
      rw [hw, Bool.false_and]
      refine ⟨m2, ?_, B2, g3, Or.inr a2⟩
      simp only [s257_0, s257_1, s257_2, s257_3, s257_6, s257_9, s257_12, s257_15, s257_16, s257_17, s257_18, s257_21, s257_24, s257_27, s257_28, s257_29, s257_30, I, Option.bind_some, Option.toList_some, Option.toList_none, List.nil_append, List.cons_append, bI_z, e4, if_true, Bool.true_eq_false, Bool.false_eq_true, if_false, br, hb, e2, hcode, s257_50, s257_52, s257_53, s257_56, s257_57, s257_60, s257_63, s257_66]
    have ew := elB_nI (show (mlD (3 ^ n) (kiP n (m 1) k)).length < 1000 by omega) hj
    have hc := mlD_lt hj
    rw [ew, if_pos rfl, eN_nI (show j < 1000 by omega)] at hcode
    rw [ew, Bool.true_and, eN_nI (show j < 1000 by omega)]
    obtain ⟨c, hcc⟩ : ∃ c, (mlD (3 ^ n) (kiP n (m 1) k)).getD j 0 = c := ⟨_, rfl⟩
    rw [hcc] at hcode hc ⊢
    have c1 : ¬ nI c = -1 := fun h => by
      have := congrArg Int32.toInt h
      rw [nI_toInt (by omega), show (-1 : Int32).toInt = -1 from by decide] at this
      omega
    rcases elB_or 3 x (by decide) with ⟨hx, _⟩ | ⟨b, hbx, rfl⟩
    · rw [hx]
      refine ⟨m2, ?_, B2, g3, Or.inr a2⟩
      simp only [s257_0, s257_1, s257_2, s257_3, s257_6, s257_9, s257_12, s257_15, s257_16, s257_17, s257_18, s257_21, s257_24, s257_27, s257_28, s257_29, s257_30, I, Option.bind_some, Option.toList_some, Option.toList_none, List.nil_append, List.cons_append, bI_z, e4, if_true, Bool.true_eq_false, Bool.false_eq_true, if_false, br, hb, e2, hcode, s257_50, s257_52, s257_53, s257_56, s257_57, s257_60, s257_63, s257_66, c1, ib, hx]
    have e3 := elB_nI (show 3 < 1000 by decide) hbx
    rw [e3, if_pos rfl, eN_nI (show b < 1000 by omega)]
    have F := x_M_finds (d := d + 7) (q := q) (y := y) hbx (B2 b hbx)
    by_cases h0 : fdA (B b) y = nI 0
    · rw [if_pos h0]
      obtain ⟨ht, p, hpl, rfl⟩ := fdA_0 h0 fun ht => ((hB b hbx).2 ht).2.1
      obtain ⟨b1, b2⟩ := B2 b hbx
      obtain ⟨b3, b4, b5⟩ := b2 ht
      rw [ht, if_pos rfl] at b1
      rw [h0] at F
      rw [eN_nI (show p < 1000 by omega)]
      have zr := fun {mm : Mem} => x_M_zeros (d := d + 6) (h := mk shM mm q) (show c < 729 by omega) hn6
      have z6 := zrN_le (n := n) (c := c)
      have zp : (0 < nI (zrN n c)) = (0 < zrN n c) := by rw [show (0 : Int32) = nI 0 from rfl]; exact propext (nI_ltI (by decide) (by omega))
      by_cases hs : ((B b).2.1 && decide (0 < zrN n c)) = true
      · rw [if_pos hs]
        simp only [Bool.and_eq_true, decide_eq_true_eq] at hs
        rw [hs.1, bI_t] at b1
        refine ⟨m2, ?_, B2, g3, Or.inr a2⟩
        simp only [s257_0, s257_1, s257_2, s257_3, s257_6, s257_9, s257_12, s257_15, s257_16, s257_17, s257_18, s257_21, s257_24, s257_27, s257_28, s257_29, s257_30, I, Option.bind_some, Option.toList_some, Option.toList_none, List.nil_append, List.cons_append, bI_z, e4, if_true, Bool.true_eq_false, Bool.false_eq_true, if_false, br, hb, e2, hcode, s257_50, s257_52, s257_53, s257_56, s257_57, s257_60, s257_63, s257_66, s257_67, s257_68, s257_69, s257_70, s257_73, s257_75, s257_77, s257_80, s257_82, s257_83, s257_85, s257_86, s257_89, s257_92, s257_94, s257_95, s257_98, s257_99, s257_100, s257_101, s257_104, s257_106, s257_109, s257_112, s257_113, s257_114, s257_117, s257_119, s257_120, s257_121, s257_122, s257_123, s257_125, s257_126, s257_127, s257_130, s257_132, s257_133, s257_134, s257_135, s257_136, s257_137, s257_140, s257_141, s257_143, c1, ib, e3, F, nI0lt, x_M_n, n2, zr, tM4, nM4, hbx, b1, zp, hs.2]
      · rw [if_neg hs]
        have b1' : (nI 1 = nI 1) = True := eq_true rfl
        refine ⟨mu (mu m2 6 (upd (m2 6) (6 * b + p) (nI c))) 7 (upd (m2 7) (6 * b + p) (nI n)), ?_, BM_set B2 ⟨?_, fun _ => ⟨?_, b4, fun i hi => ?_⟩⟩ ?_ ?_ ?_ ?_, fun i hi => ?_, ?_⟩
        · cases hu : (B b).2.1 with
          | false =>
            rw [hu, bI_f] at b1
            simp only [s257_0, s257_1, s257_2, s257_3, s257_6, s257_9, s257_12, s257_15, s257_16, s257_17, s257_18, s257_21, s257_24, s257_27, s257_28, s257_29, s257_30, I, Option.bind_some, Option.toList_some, Option.toList_none, List.nil_append, List.cons_append, bI_z, e4, if_true, Bool.true_eq_false, Bool.false_eq_true, if_false, br, hb, e2, hcode, s257_50, s257_52, s257_53, s257_56, s257_57, s257_60, s257_63, s257_66, s257_67, s257_68, s257_69, s257_70, s257_73, s257_75, s257_77, s257_80, s257_82, s257_83, s257_85, s257_86, s257_89, s257_92, s257_94, s257_95, s257_98, s257_99, s257_100, s257_101, s257_104, s257_106, s257_109, s257_112, s257_113, s257_114, s257_117, s257_119, s257_120, s257_121, s257_122, s257_123, s257_125, s257_126, s257_127, s257_130, s257_132, s257_133, s257_134, s257_135, s257_136, s257_137, s257_140, s257_141, s257_143, c1, ib, e3, F, nI0lt, x_M_n, n2, zr, tM4, nM4, hbx, b1, show ¬ nI 0 = nI 1 by decide, pk_mul, nI_add, tM6, nM6, tM7, nM7, show 6 * b + p < 18 by omega, mu_ne (show (7 : Nat) ≠ 6 by decide), mu_ne (show (1 : Nat) ≠ 6 by decide)]
          | true =>
            rw [hu, bI_t] at b1
            rw [hu, Bool.true_and, decide_eq_true_eq] at hs
            simp only [s257_0, s257_1, s257_2, s257_3, s257_6, s257_9, s257_12, s257_15, s257_16, s257_17, s257_18, s257_21, s257_24, s257_27, s257_28, s257_29, s257_30, I, Option.bind_some, Option.toList_some, Option.toList_none, List.nil_append, List.cons_append, bI_z, e4, if_true, Bool.true_eq_false, Bool.false_eq_true, if_false, br, hb, e2, hcode, s257_50, s257_52, s257_53, s257_56, s257_57, s257_60, s257_63, s257_66, s257_67, s257_68, s257_69, s257_70, s257_73, s257_75, s257_77, s257_80, s257_82, s257_83, s257_85, s257_86, s257_89, s257_92, s257_94, s257_95, s257_98, s257_99, s257_100, s257_101, s257_104, s257_106, s257_109, s257_112, s257_113, s257_114, s257_117, s257_119, s257_120, s257_121, s257_122, s257_123, s257_125, s257_126, s257_127, s257_130, s257_132, s257_133, s257_134, s257_135, s257_136, s257_137, s257_140, s257_141, s257_143, c1, ib, e3, F, nI0lt, x_M_n, n2, zr, tM4, nM4, hbx, b1, zp, hs, pk_mul, nI_add, tM6, nM6, tM7, nM7, show 6 * b + p < 18 by omega, mu_ne (show (7 : Nat) ≠ 6 by decide), mu_ne (show (1 : Nat) ≠ 6 by decide)]
        · rw [mu_ne (by decide), mu_ne (by decide)]; exact (B2 b hbx).1
        · rw [mu_ne (by decide), mu_ne (by decide)]; exact b3
        · rw [mu_ne (show (6 : Nat) ≠ 7 by decide), mu_same, mu_same]
          unfold uN
          simp only [upd]
          by_cases hip : i = p
          · subst hip
            exact ⟨by simp only [if_true, show ¬ n = 0 by omega, if_false], fun _ => ⟨by simp only [if_true]; omega, by simp only [if_true]⟩, by simp only [if_true]; exact hn6⟩
          · have hne : ¬ 6 * b + i = 6 * b + p := by omega
            simp only [hne, hip, if_false]
            exact b5 i hi
        · intro i hi; rw [mu_ne (by decide), mu_ne (by decide)]
        · intro i hi; rw [mu_ne (by decide), mu_ne (by decide)]
        · intro c i hc hi
          rw [mu_ne (by decide), mu_same]
          simp only [upd]
          rw [if_neg (by omega)]
        · intro c i hc hi
          rw [mu_same]
          simp only [upd]
          rw [if_neg (by omega)]
        · rw [mu_ne (fun e => hi (by simp [e])), mu_ne (fun e => hi (by simp [e]))]
          exact g3 i hi
        · refine Or.inr ?_
          rw [mu_ne (by decide), mu_ne (by decide)]
          exact a2
    · rw [if_neg h0]
      have hlt := fdA_lt (r := B b) (y := y)
      refine ⟨m2, ?_, B2, g3, Or.inr a2⟩
      simp only [s257_0, s257_1, s257_2, s257_3, s257_6, s257_9, s257_12, s257_15, s257_16, s257_17, s257_18, s257_21, s257_24, s257_27, s257_28, s257_29, s257_30, I, Option.bind_some, Option.toList_some, Option.toList_none, List.nil_append, List.cons_append, bI_z, e4, if_true, Bool.true_eq_false, Bool.false_eq_true, if_false, br, hb, e2, hcode, s257_50, s257_52, s257_53, s257_56, s257_57, s257_60, s257_63, s257_66, s257_67, s257_68, s257_69, s257_70, s257_73, s257_75, s257_77, s257_80, s257_82, s257_83, s257_85, s257_86, s257_89, s257_92, s257_94, s257_95, s257_98, s257_99, s257_100, s257_101, s257_104, s257_106, s257_109, s257_112, s257_113, s257_114, s257_117, s257_119, s257_120, s257_121, s257_122, s257_123, s257_125, s257_126, s257_127, s257_130, s257_132, s257_133, s257_134, s257_135, s257_136, s257_137, s257_140, s257_141, s257_143, c1, ib, e3, F, hlt, h0, not_false_eq_true]
theorem x_M_find (hn : m 1 0 = nI n) (h1 : 1 ≤ n) (hn6 : n ≤ 6) (hI : isM n (m 1)) (hB : BM m B) (hP : ∀ k c, k < 4 → kiP n (m 1) k c = true → c < 3 ^ n) : ∃ m', ev (d + 9) 261 0 [.ref 0, .int x, .int y, .int z, .null, .null, .null, .null] [] (mk shM m q) = some (some (.int (fiM n (m 1) B x y z)), mk shM m' q) ∧ fr [0, 10, 11, 12] m m' ∧ (m' 0 = m 0 ∨ m' 0 = upd (m 0) 18 (nI (3 ^ n))) := by
  have hp := p3_le n hn6
  unfold fiM rfM
  rcases elB_or 3 x (by decide) with ⟨hx, _⟩ | ⟨b, hb, rfl⟩
  · rw [hx]
    refine ⟨m, ?_, fr_rfl, Or.inl rfl⟩
    simp only [s261_0, s261_1, s261_4, s261_7, s261_10, s261_11, s261_12, s261_13, s261_14, s261_17, s261_20, s261_23, s261_26, s261_27, s261_28, s261_29, s261_32, s261_35, s261_38, s261_39, s261_40, s261_41, s261_42, s261_45, s261_47, s261_49, s261_52, s261_54, s261_55, s261_56, s261_59, s261_61, s261_62, s261_63, s261_64, s261_65, s261_66, s261_68, s261_70, s261_73, s261_76, s261_77, s261_78, s261_79, s261_82, s261_83, s261_86, s261_88, s261_89, s261_90, s261_91, s261_92, s261_93, s261_94, s261_97, s261_100, s261_101, s261_104, s261_106, s261_107, s261_110, s261_111, s261_112, s261_113, s261_115, s261_117, s261_118, s261_119, s261_123, s261_124, s261_127, s261_130, s261_132, s261_133, s261_136, s261_138, s261_139, s261_142, s261_143, s261_146, s261_147, s261_148, s261_150, s261_153, s261_156, s261_158, x_M_isBox, Option.bind_some, Option.toList_some, Option.toList_none, List.nil_append, List.cons_append, bI_z, hx, if_true, Bool.false_eq_true, if_false]
  have e3 := elB_nI (show 3 < 1000 by decide) hb
  rw [e3, eN_nI (by omega), if_pos rfl, if_pos rfl]
  have I := x_M_inE (d := d + 8) (x := z) (h := mk shM m q) (show 4 < 1000 by decide) (Z := 0) (K := 3) (by decide) (by decide)
  rcases elB_or 4 z (by decide) with ⟨hz, _⟩ | ⟨k, hk, rfl⟩
  · rw [hz]
    refine ⟨m, ?_, fr_rfl, Or.inl rfl⟩
    simp only [s261_0, s261_1, s261_4, s261_7, s261_10, s261_11, s261_12, s261_13, s261_14, s261_17, s261_20, s261_23, s261_26, s261_27, s261_28, s261_29, s261_32, s261_35, s261_38, s261_39, s261_40, s261_41, s261_42, s261_45, s261_47, s261_49, s261_52, s261_54, s261_55, s261_56, s261_59, s261_61, s261_62, s261_63, s261_64, s261_65, s261_66, s261_68, s261_70, s261_73, s261_76, s261_77, s261_78, s261_79, s261_82, s261_83, s261_86, s261_88, s261_89, s261_90, s261_91, s261_92, s261_93, s261_94, s261_97, s261_100, s261_101, s261_104, s261_106, s261_107, s261_110, s261_111, s261_112, s261_113, s261_115, s261_117, s261_118, s261_119, s261_123, s261_124, s261_127, s261_130, s261_132, s261_133, s261_136, s261_138, s261_139, s261_142, s261_143, s261_146, s261_147, s261_148, s261_150, s261_153, s261_156, s261_158, x_M_isBox, Option.bind_some, Option.toList_some, Option.toList_none, List.nil_append, List.cons_append, bI_z, e3, I, hz, if_true, Bool.true_eq_false, Bool.false_eq_true, if_false]
  have e4 := elB_nI (show 4 < 1000 by decide) hk
  rw [e4, eN_nI (show k < 1000 by omega), if_pos rfl]
  have br := x_M_isBarred (d := d) (m := m) (q := q) hn hn6 hk
  cases hbr : decide (1 < k) && !orM n (m 1) with
  | true =>
    refine ⟨m, ?_, fr_rfl, Or.inl rfl⟩
    simp only [s261_0, s261_1, s261_4, s261_7, s261_10, s261_11, s261_12, s261_13, s261_14, s261_17, s261_20, s261_23, s261_26, s261_27, s261_28, s261_29, s261_32, s261_35, s261_38, s261_39, s261_40, s261_41, s261_42, s261_45, s261_47, s261_49, s261_52, s261_54, s261_55, s261_56, s261_59, s261_61, s261_62, s261_63, s261_64, s261_65, s261_66, s261_68, s261_70, s261_73, s261_76, s261_77, s261_78, s261_79, s261_82, s261_83, s261_86, s261_88, s261_89, s261_90, s261_91, s261_92, s261_93, s261_94, s261_97, s261_100, s261_101, s261_104, s261_106, s261_107, s261_110, s261_111, s261_112, s261_113, s261_115, s261_117, s261_118, s261_119, s261_123, s261_124, s261_127, s261_130, s261_132, s261_133, s261_136, s261_138, s261_139, s261_142, s261_143, s261_146, s261_147, s261_148, s261_150, s261_153, s261_156, s261_158, x_M_isBox, Option.bind_some, Option.toList_some, Option.toList_none, List.nil_append, List.cons_append, bI_z, e3, I, e4, if_true, Bool.true_eq_false, if_false, br, hbr]
  | false =>
    rw [if_neg (by decide)]
    have F := x_M_finds (d := d + 7) (q := q) (y := y) hb (hB b hb)
    by_cases h0 : fdA (B b) y = nI 0
    · rw [if_pos h0]
      obtain ⟨ht, p, hpl, rfl⟩ := fdA_0 h0 fun ht => ((hB b hb).2 ht).2.1
      obtain ⟨a1, a2, a3⟩ := (hB b hb).2 ht
      obtain ⟨c1, c2, c3⟩ := a3 p (by omega)
      rw [h0] at F
      rw [eN_nI (show p < 1000 by omega)]
      by_cases hz : (B b).2.2.2.2 p = 0
      · rw [if_pos hz] at c1
        rw [if_pos hz, if_neg (show ¬ (-1015 : Int32) = 0 by decide)]
        refine ⟨m, ?_, fr_rfl, Or.inl rfl⟩
        simp only [s261_0, s261_1, s261_4, s261_7, s261_10, s261_11, s261_12, s261_13, s261_14, s261_17, s261_20, s261_23, s261_26, s261_27, s261_28, s261_29, s261_32, s261_35, s261_38, s261_39, s261_40, s261_41, s261_42, s261_45, s261_47, s261_49, s261_52, s261_54, s261_55, s261_56, s261_59, s261_61, s261_62, s261_63, s261_64, s261_65, s261_66, s261_68, s261_70, s261_73, s261_76, s261_77, s261_78, s261_79, s261_82, s261_83, s261_86, s261_88, s261_89, s261_90, s261_91, s261_92, s261_93, s261_94, s261_97, s261_100, s261_101, s261_104, s261_106, s261_107, s261_110, s261_111, s261_112, s261_113, s261_115, s261_117, s261_118, s261_119, s261_123, s261_124, s261_127, s261_130, s261_132, s261_133, s261_136, s261_138, s261_139, s261_142, s261_143, s261_146, s261_147, s261_148, s261_150, s261_153, s261_156, s261_158, x_M_isBox, Option.bind_some, Option.toList_some, Option.toList_none, List.nil_append, List.cons_append, bI_z, e3, I, e4, if_true, Bool.true_eq_false, Bool.false_eq_true, if_false, br, hbr, F, nI0lt, pk_mul, nI_add, tM6, nM6, show 6 * b + p < 18 by omega, c1, m1lt]
      · rw [if_neg hz] at c1
        rw [if_neg hz, if_pos rfl]
        obtain ⟨k1, k2⟩ := c2 hz
        obtain ⟨C, hC⟩ : ∃ C, (B b).2.2.2.1 p = C := ⟨_, rfl⟩
        rw [hC] at c1 k1
        rw [hC]
        obtain ⟨m2, e2, w2, g2, b2⟩ := x_M_marksKind (d := d + 1) (q := q) hn h1 hn6 hI hk
        have b3 : m2 0 18 = nI (3 ^ n) := by rw [b2]; simp [upd]
        have n2 : m2 1 0 = nI n := by rw [fr_at g2 1 (by decide)]; exact hn
        have r7 : m2 7 = m 7 := fr_at g2 7 (by decide)
        refine ⟨m2, ?_, g2, Or.inr b2⟩
        have pre : ev (d + 9) 261 0 [.ref 0, .int (nI b), .int (nI p), .int (nI k), .null, .null, .null, .null] [] (mk shM m q) = ev (d + 9) 261 82 [.ref 0, .int (nI b), .int (nI p), .int (nI k), .int (nI 0), .int (nI C), .null, .null] [] (mk shM m2 q) := by
          simp only [s261_0, s261_1, s261_4, s261_7, s261_10, s261_11, s261_12, s261_13, s261_14, s261_17, s261_20, s261_23, s261_26, s261_27, s261_28, s261_29, s261_32, s261_35, s261_38, s261_39, s261_40, s261_41, s261_42, s261_45, s261_47, s261_49, s261_52, s261_54, s261_55, s261_56, s261_59, s261_61, s261_62, s261_63, s261_64, s261_65, s261_66, s261_68, s261_70, s261_73, s261_76, s261_77, s261_78, s261_79, x_M_isBox, Option.bind_some, Option.toList_some, Option.toList_none, List.nil_append, List.cons_append, bI_z, e3, I, e4, if_true, Bool.true_eq_false, Bool.false_eq_true, if_false, br, hbr, F, nI0lt, pk_mul, nI_add, tM6, nM6, show 6 * b + p < 18 by omega, c1, nI_pos (show C < 2 ^ 31 by omega), e2]
        rw [pre]
        by_cases hnn : (B b).2.2.2.2 p = n
        · have mk' := w2 C k1
          cases hq : kiP n (m 1) k C with
          | false =>
            rw [hq] at mk'
            rw [if_neg (fun h => by have := h.2; simp at this)]
            simp only [s261_82, s261_83, s261_86, s261_88, s261_89, s261_90, s261_91, s261_92, s261_93, s261_94, s261_97, s261_100, s261_101, s261_104, s261_106, s261_107, s261_110, s261_111, s261_112, s261_113, s261_115, s261_117, s261_118, s261_119, pk_mul, nI_add, tM7, nM7, show 6 * b + p < 18 by omega, r7, k2, x_M_n, n2, Option.bind_some, Option.toList_some, Option.toList_none, List.nil_append, List.cons_append, nI_eq (show (B b).2.2.2.2 p < 2 ^ 31 by omega) (show n < 2 ^ 31 by omega), hnn, if_true, tM10, nM10, k1, mk', bI_z]
          | true =>
            rw [hq] at mk'
            rw [if_pos ⟨hnn, rfl⟩]
            have hC3 := hP k C hk hq
            obtain ⟨l, hl, eL⟩ := ev_up (fun i (l : Nat) => l = ((rg (C + 1) (C + 1 + i)).filter (kiP n (m 1) k)).length) (fun i l => ev (d + 9) 261 121 [.ref 0, .int (nI b), .int (nI p), .int (nI k), .int (nI 0), .int (nI C), .int (nI l), .int (nI (C + 1 + i))] [] (mk shM m2 q)) (3 ^ n - (C + 1)) 0 (by rw [Nat.add_zero, rg_end]; rfl)
              (fun i l hi hl => by
                have hsn : rg (C + 1) (C + 1 + (i + 1)) = rg (C + 1) (C + 1 + i) ++ [C + 1 + i] := by
                  unfold rg
                  rw [show C + 1 + (i + 1) - (C + 1) = i + 1 by omega, show C + 1 + i - (C + 1) = i by omega, List.range'_concat, Nat.one_mul]
                have mi := w2 (C + 1 + i) (by omega)
                refine ⟨l + if kiP n (m 1) k (C + 1 + i) = true then 1 else 0, ?_, ?_⟩
                · rw [hsn, List.filter_append, List.length_append, ← hl]
                  congr 1
                  cases hki : kiP n (m 1) k (C + 1 + i) <;> simp [List.filter_cons, hki]
                · rw [s261_121, ← Nat.add_assoc]
                  simp only [s261_123, s261_124, s261_127, s261_130, s261_132, s261_133, s261_136, s261_138, s261_139, s261_142, s261_143, s261_146, s261_147, s261_148, s261_150, s261_153, s261_156, s261_158, b3, nI_lt (show C + 1 + i < 3 ^ n by omega) (show 3 ^ n < 2 ^ 31 by omega), if_true, tM10, nM10, show C + 1 + i < 729 by omega, mi, bI_z]
                  cases kiP n (m 1) k (C + 1 + i) <;> simp only [Bool.true_eq_false, Bool.false_eq_true, if_true, if_false, nI_add, s261_123, s261_124, s261_127, s261_130, s261_132, s261_133, s261_136, s261_138, s261_139, s261_142, s261_143, s261_146, s261_147, s261_148, s261_150, s261_153, s261_156, s261_158]) (3 ^ n - (C + 1)) (Nat.le_refl _)
            rw [show C + 1 + (3 ^ n - (C + 1)) = 3 ^ n by omega] at hl eL
            simp only [s261_82, s261_83, s261_86, s261_88, s261_89, s261_90, s261_91, s261_92, s261_93, s261_94, s261_97, s261_100, s261_101, s261_104, s261_106, s261_107, s261_110, s261_111, s261_112, s261_113, s261_115, s261_117, s261_118, s261_119, pk_mul, nI_add, tM7, nM7, show 6 * b + p < 18 by omega, r7, k2, x_M_n, n2, Option.bind_some, Option.toList_some, Option.toList_none, List.nil_append, List.cons_append, nI_eq (show (B b).2.2.2.2 p < 2 ^ 31 by omega) (show n < 2 ^ 31 by omega), hnn, if_true, tM10, nM10, k1, mk', bI_z, Bool.true_eq_false, if_false]
            rw [Nat.add_zero] at eL
            refine eL.trans ?_
            rw [s261_121, hl]
            simp only [s261_123, s261_124, s261_127, s261_130, s261_132, s261_133, s261_136, s261_138, s261_139, s261_142, s261_143, s261_146, s261_147, s261_148, s261_150, s261_153, s261_156, s261_158, b3, nI_irr, if_false]
        · rw [if_neg (fun h => hnn h.1)]
          simp only [s261_82, s261_83, s261_86, s261_88, s261_89, s261_90, s261_91, s261_92, s261_93, s261_94, s261_97, s261_100, s261_101, s261_104, s261_106, s261_107, s261_110, s261_111, s261_112, s261_113, s261_115, s261_117, s261_118, s261_119, pk_mul, nI_add, tM7, nM7, show 6 * b + p < 18 by omega, r7, k2, x_M_n, n2, Option.bind_some, Option.toList_some, Option.toList_none, List.nil_append, List.cons_append, nI_eq (show (B b).2.2.2.2 p < 2 ^ 31 by omega) (show n < 2 ^ 31 by omega), hnn, if_false]
    · rw [if_neg h0]
      have hlt := fdA_lt (r := B b) (y := y)
      have h1' : ¬ fdA (B b) y = 0 := h0
      rw [if_neg h1']
      refine ⟨m, ?_, fr_rfl, Or.inl rfl⟩
      simp only [s261_0, s261_1, s261_4, s261_7, s261_10, s261_11, s261_12, s261_13, s261_14, s261_17, s261_20, s261_23, s261_26, s261_27, s261_28, s261_29, s261_32, s261_35, s261_38, s261_39, s261_40, s261_41, s261_42, s261_45, s261_47, s261_49, s261_52, s261_54, s261_55, s261_56, s261_59, s261_61, s261_62, s261_63, s261_64, s261_65, s261_66, s261_68, s261_70, s261_73, s261_76, s261_77, s261_78, s261_79, s261_82, s261_83, s261_86, s261_88, s261_89, s261_90, s261_91, s261_92, s261_93, s261_94, s261_97, s261_100, s261_101, s261_104, s261_106, s261_107, s261_110, s261_111, s261_112, s261_113, s261_115, s261_117, s261_118, s261_119, s261_123, s261_124, s261_127, s261_130, s261_132, s261_133, s261_136, s261_138, s261_139, s261_142, s261_143, s261_146, s261_147, s261_148, s261_150, s261_153, s261_156, s261_158, x_M_isBox, Option.bind_some, Option.toList_some, Option.toList_none, List.nil_append, List.cons_append, bI_z, e3, I, e4, if_true, Bool.true_eq_false, Bool.false_eq_true, if_false, br, hbr, F, hlt, h0, not_false_eq_true]
def bsS (n : Nat) (R : Nat → Int32) (x : Int32) : Int32 := if orM n R = true then (if elB (mlD (3 ^ n) (kiP n R 3)).length x = true then bsN n (mlD (3 ^ n) (kiP n R 3)) (eN x) else -1001) else -1003
def onM (s : Nat) : Nat := (rg 0 6).foldl (fun x k => x + if s.testBit k = true then 1 else 0) 0
def far0 (t : Nat) : Nat → Int32 := fun k => if k = t then nI 0 else -1
theorem x_M_beside (hn : m 1 0 = nI n) (h1 : 1 ≤ n) (hn6 : n ≤ 6) (hI : isM n (m 1)) (hT : orM n (m 1) = true → (mlD (3 ^ n) (kiP n (m 1) 3)).length ≤ 64) : ∃ m', ev (d + 9) 245 0 [.ref 0, .int x, .null, .null] [] (mk shM m q) = some (some (.int (bsS n (m 1) x)), mk shM m' q) ∧ fr [0, 10, 11, 12, 13] m m' ∧ (m' 0 = m 0 ∨ m' 0 = upd (upd (m 0) 18 (nI (3 ^ n))) 21 (nI (mlD (3 ^ n) (kiP n (m 1) 3)).length)) := by
  have o := x_M_isOrderly (d := d + 1) (m := m) (q := q) hn hn6
  unfold bsS
  cases ho : orM n (m 1) with
  | false =>
    refine ⟨m, ?_, fr_rfl, Or.inl rfl⟩
    simp only [s245_0, s245_1, s245_4, s245_7, s245_10, s245_11, s245_12, s245_15, s245_16, s245_17, s245_18, s245_19, s245_22, s245_23, s245_24, s245_25, s245_28, s245_31, s245_34, s245_35, s245_36, s245_37, s245_38, s245_40, s245_41, s245_44, s245_47, s245_48, s245_49, s245_50, s245_51, s245_54, s245_57, s245_58, s245_61, s245_62, s245_63, s245_64, s245_67, s245_70, s245_71, o, Option.bind_some, Option.toList_some, Option.toList_none, List.nil_append, List.cons_append, bI_z, ho, if_true, Bool.false_eq_true, if_false]
  | true =>
    rw [if_pos rfl]
    obtain ⟨m2, e2, T2, g2, a2⟩ := x_M_findsTopes (d := d) (q := q) hn h1 hn6 hI (hT ho)
    have n2 : m2 1 0 = nI n := by rw [fr_at g2 1 (by decide)]; exact hn
    obtain ⟨L, hL⟩ : ∃ L, mlD (3 ^ n) (kiP n (m 1) 3) = L := ⟨_, rfl⟩
    rw [hL] at T2 a2 ⊢
    obtain ⟨t1, t2, t3⟩ := id T2
    have I := x_M_inE (d := d + 8) (x := x) (h := mk shM m2 q) (k := L.length) (by omega) (Z := 0) (K := (nI L.length - nI 1).toInt64) (by decide) rfl
    refine ⟨m2, ?_, g2, Or.inr a2⟩
    rcases elB_or L.length x (by omega) with ⟨hx, _⟩ | ⟨t, ht, rfl⟩
    · rw [hx]
      simp only [s245_0, s245_1, s245_4, s245_7, s245_10, s245_11, s245_12, s245_15, s245_16, s245_17, s245_18, s245_19, s245_22, s245_23, s245_24, s245_25, s245_28, s245_31, s245_34, s245_35, s245_36, s245_37, s245_38, o, Option.bind_some, Option.toList_some, Option.toList_none, List.nil_append, List.cons_append, bI_z, ho, Bool.true_eq_false, if_false, e2, t1, I, hx, if_true, Bool.false_eq_true]
    · have ex := elB_nI (show L.length < 1000 by omega) ht
      rw [ex, if_pos rfl, eN_nI (show t < 1000 by omega)]
      have Lp := ev_for1 (fun _ => True) (fun u (x : Int32) (_ : Unit) => ev (d + 9) 245 39 [.ref 0, .int (nI t), .int x, .int (nI u)] [] (mk shM m2 q)) (fun x => some (some (.int x), mk shM m2 q)) (fun u x => x + if nxM n L u t = true then nI 1 else nI 0) L.length
        (fun x _ _ => by rw [s245_39]; simp only [s245_40, s245_41, s245_44, s245_47, s245_48, s245_49, s245_50, s245_51, s245_54, s245_57, s245_58, s245_61, s245_62, s245_63, s245_64, s245_67, s245_70, s245_71, t1, nI_irr, if_false])
        (fun _ _ _ _ => trivial)
        (fun u x _ hu _ => ⟨(), by
          have nx := x_M_isNext (d := d + 5) (q := q) n2 hn6 T2 hu ht
          rw [s245_39]
          simp only [s245_40, s245_41, s245_44, s245_47, s245_48, s245_49, s245_50, s245_51, s245_54, s245_57, s245_58, s245_61, s245_62, s245_63, s245_64, s245_67, s245_70, s245_71, t1, nI_lt hu (show L.length < 2 ^ 31 by omega), if_true, nx, Option.bind_some, Option.toList_some, Option.toList_none, List.nil_append, List.cons_append, bI_z]
          cases nxM n L u t <;> simp only [Bool.true_eq_false, Bool.false_eq_true, if_true, if_false, nI_add, s245_40, s245_41, s245_44, s245_47, s245_48, s245_49, s245_50, s245_51, s245_54, s245_57, s245_58, s245_61, s245_62, s245_63, s245_64, s245_67, s245_70, s245_71]⟩) 0 (Nat.zero_le _) (nI 0) () trivial
      simp only [s245_0, s245_1, s245_4, s245_7, s245_10, s245_11, s245_12, s245_15, s245_16, s245_17, s245_18, s245_19, s245_22, s245_23, s245_24, s245_25, s245_28, s245_31, s245_34, s245_35, s245_36, s245_37, s245_38, o, Option.bind_some, Option.toList_some, Option.toList_none, List.nil_append, List.cons_append, bI_z, ho, Bool.true_eq_false, if_false, e2, t1, I, ex]
      exact Lp
theorem x_M_ones {s : Nat} (hs : s < 64) : ev d 250 0 [.int (nI s), .null, .null] [] h = some (some (.int (nI (onM s))), h) := by
  have L := ev_for1 (fun _ => True) (fun k (x : Nat) (_ : Unit) => ev d 250 4 [.int (nI s), .int (nI x), .int (nI k)] [] h) (fun x => some (some (.int (nI x)), h)) (fun k x => x + if s.testBit k = true then 1 else 0) 6
    (fun x _ _ => by rw [s250_4]; simp only [s250_0, s250_1, s250_2, s250_3, s250_5, s250_7, s250_10, s250_11, s250_12, s250_13, s250_14, s250_15, s250_16, s250_17, s250_18, s250_21, s250_24, s250_25, nI_irr, if_false])
    (fun _ _ _ _ => trivial)
    (fun k x _ hk _ => ⟨(), by
      have z := shr_tb s hs k hk
      rw [s250_4]
      simp only [s250_0, s250_1, s250_2, s250_3, s250_5, s250_7, s250_10, s250_11, s250_12, s250_13, s250_14, s250_15, s250_16, s250_17, s250_18, s250_21, s250_24, s250_25, nI_lt hk (show 6 < 2 ^ 31 by decide), if_true, z, nI_add]
      cases s.testBit k <;> simp only [bI_t, bI_f, Bool.false_eq_true, if_true, if_false, nI_add]⟩) 0 (Nat.zero_le _) 0 () trivial
  simp only [s250_0, s250_1, s250_2, s250_3, s250_5, s250_7, s250_10, s250_11, s250_12, s250_13, s250_14, s250_15, s250_16, s250_17, s250_18, s250_21, s250_24, s250_25]
  exact L
/-- the answer of between -/
def btW (n : Nat) (L : List Nat) (x y z : Int32) (F : Nat → Int32) : Int32 := if (elB L.length x && elB L.length y) = true then (if eN z = 0 then nI (onM (apM n L (eN x) (eN y))) else if eN z = 1 then bI (nxM n L (eN y) (eN x)) else stM n L (eN x) (eN y) F) else -1001
theorem x_M_between (hn : m 1 0 = nI n) (h1 : 1 ≤ n) (hn6 : n ≤ 6) (hI : isM n (m 1)) (hT : orM n (m 1) = true → (mlD (3 ^ n) (kiP n (m 1) 3)).length ≤ 64) : ∃ m' F, (∀ k, k < 64 → F k = far0 (eN x) k) ∧ ev (d + 9) 249 0 [.ref 0, .int x, .int y, .int z] [] (mk shM m q) = some (some (.int (if elB 3 z = true then (if orM n (m 1) = true then btW n (mlD (3 ^ n) (kiP n (m 1) 3)) x y z F else -1003) else -1002)), mk shM m' q) ∧ fr [0, 10, 11, 12, 13, 14] m m' ∧ (m' 0 = m 0 ∨ m' 0 = upd (upd (m 0) 18 (nI (3 ^ n))) 21 (nI (mlD (3 ^ n) (kiP n (m 1) 3)).length)) := by
  have o := x_M_isOrderly (d := d + 1) (m := m) (q := q) hn hn6
  have I := x_M_inE (d := d + 8) (x := z) (h := mk shM m q) (show 3 < 1000 by decide) (Z := 0) (K := 2) (by decide) (by decide)
  rcases elB_or 3 z (by decide) with ⟨hz, _⟩ | ⟨b, hb, rfl⟩
  · refine ⟨m, far0 (eN x), fun _ _ => rfl, ?_, fr_rfl, Or.inl rfl⟩
    simp only [s249_0, s249_1, s249_2, s249_3, s249_6, s249_9, s249_12, s249_15, s249_16, s249_17, s249_20, s249_23, s249_26, s249_27, s249_28, s249_31, s249_32, s249_33, s249_34, s249_35, s249_38, s249_39, s249_40, s249_41, s249_44, s249_47, s249_48, s249_49, s249_50, s249_51, s249_54, s249_55, s249_56, s249_57, s249_60, s249_63, s249_66, s249_67, s249_68, s249_71, s249_72, s249_73, s249_74, s249_77, s249_80, s249_83, s249_84, s249_85, s249_88, s249_89, s249_90, s249_91, s249_94, s249_97, s249_98, s249_101, s249_102, s249_105, s249_106, s249_107, s249_108, s249_111, I, Option.bind_some, Option.toList_some, Option.toList_none, List.nil_append, List.cons_append, bI_z, hz, if_true, Bool.false_eq_true, if_false]
  have e3 := elB_nI (show 3 < 1000 by decide) hb
  simp only [e3, if_true]
  cases ho : orM n (m 1) with
  | false =>
    refine ⟨m, far0 (eN x), fun _ _ => rfl, ?_, fr_rfl, Or.inl rfl⟩
    simp only [s249_0, s249_1, s249_2, s249_3, s249_6, s249_9, s249_12, s249_15, s249_16, s249_17, s249_20, s249_23, s249_26, s249_27, s249_28, s249_31, s249_32, s249_33, s249_34, s249_35, s249_38, s249_39, s249_40, s249_41, s249_44, s249_47, s249_48, s249_49, s249_50, s249_51, s249_54, s249_55, s249_56, s249_57, s249_60, s249_63, s249_66, s249_67, s249_68, s249_71, s249_72, s249_73, s249_74, s249_77, s249_80, s249_83, s249_84, s249_85, s249_88, s249_89, s249_90, s249_91, s249_94, s249_97, s249_98, s249_101, s249_102, s249_105, s249_106, s249_107, s249_108, s249_111, I, Option.bind_some, Option.toList_some, Option.toList_none, List.nil_append, List.cons_append, bI_z, e3, Bool.true_eq_false, if_false, o, ho, if_true, Bool.false_eq_true]
  | true =>
    simp only [if_true]
    unfold btW
    rw [eN_nI (show b < 1000 by omega)]
    obtain ⟨m2, e2, T2, g2, a2⟩ := x_M_findsTopes (d := d) (q := q) hn h1 hn6 hI (hT ho)
    have n2 : m2 1 0 = nI n := by rw [fr_at g2 1 (by decide)]; exact hn
    obtain ⟨L, hL⟩ : ∃ L, mlD (3 ^ n) (kiP n (m 1) 3) = L := ⟨_, rfl⟩
    rw [hL] at T2 a2 ⊢
    obtain ⟨t1, t2, t3⟩ := id T2
    have Ix := x_M_inE (d := d + 8) (x := x) (h := mk shM m2 q) (k := L.length) (by omega) (Z := 0) (K := (nI L.length - nI 1).toInt64) (by decide) rfl
    have Iy := x_M_inE (d := d + 8) (x := y) (h := mk shM m2 q) (k := L.length) (by omega) (Z := 0) (K := (nI L.length - nI 1).toInt64) (by decide) rfl
    have g3 : fr [0, 10, 11, 12, 13, 14] m m2 := fr_wk g2 (by decide)
    rcases elB_or L.length x (by omega) with ⟨hx, _⟩ | ⟨t, ht, rfl⟩
    · refine ⟨m2, far0 (eN x), fun _ _ => rfl, ?_, g3, Or.inr a2⟩
      rw [hx, Bool.false_and]
      simp only [s249_0, s249_1, s249_2, s249_3, s249_6, s249_9, s249_12, s249_15, s249_16, s249_17, s249_20, s249_23, s249_26, s249_27, s249_28, s249_31, s249_32, s249_33, s249_34, s249_35, s249_38, s249_39, s249_40, s249_41, s249_44, s249_47, s249_48, s249_49, s249_50, s249_51, s249_54, s249_55, s249_56, s249_57, s249_60, s249_63, s249_66, I, Option.bind_some, Option.toList_some, Option.toList_none, List.nil_append, List.cons_append, bI_z, e3, Bool.true_eq_false, if_false, o, ho, if_true, Bool.false_eq_true, e2, t1, Ix, hx]
    have ex := elB_nI (show L.length < 1000 by omega) ht
    rw [ex, Bool.true_and, eN_nI (show t < 1000 by omega)]
    rcases elB_or L.length y (by omega) with ⟨hy, _⟩ | ⟨u, hu, rfl⟩
    · refine ⟨m2, far0 t, fun _ _ => rfl, ?_, g3, Or.inr a2⟩
      rw [hy]
      simp only [s249_0, s249_1, s249_2, s249_3, s249_6, s249_9, s249_12, s249_15, s249_16, s249_17, s249_20, s249_23, s249_26, s249_27, s249_28, s249_31, s249_32, s249_33, s249_34, s249_35, s249_38, s249_39, s249_40, s249_41, s249_44, s249_47, s249_48, s249_49, s249_50, s249_51, s249_54, s249_55, s249_56, s249_57, s249_60, s249_63, s249_66, I, Option.bind_some, Option.toList_some, Option.toList_none, List.nil_append, List.cons_append, bI_z, e3, Bool.true_eq_false, if_false, o, ho, if_true, Bool.false_eq_true, e2, t1, Ix, ex, Iy, hy]
    have ey := elB_nI (show L.length < 1000 by omega) hu
    simp only [ey, if_true, eN_nI (show u < 1000 by omega)]
    have pre : ev (d + 9) 249 0 [.ref 0, .int (nI t), .int (nI u), .int (nI b)] [] (mk shM m q) = ev (d + 9) 249 67 [.ref 0, .int (nI t), .int (nI u), .int (nI b)] [] (mk shM m2 q) := by
      simp only [s249_0, s249_1, s249_2, s249_3, s249_6, s249_9, s249_12, s249_15, s249_16, s249_17, s249_20, s249_23, s249_26, s249_27, s249_28, s249_31, s249_32, s249_33, s249_34, s249_35, s249_38, s249_39, s249_40, s249_41, s249_44, s249_47, s249_48, s249_49, s249_50, s249_51, s249_54, s249_55, s249_56, s249_57, s249_60, s249_63, s249_66, I, Option.bind_some, Option.toList_some, Option.toList_none, List.nil_append, List.cons_append, bI_z, e3, Bool.true_eq_false, if_false, o, ho, if_true, Bool.false_eq_true, e2, t1, Ix, ex, Iy, ey]
    rw [pre]
    have ap := x_M_apart (d := d + 6) (q := q) n2 hn6 T2 ht hu
    have nx := x_M_isNext (d := d + 5) (q := q) n2 hn6 T2 hu ht
    match b, hb with
    | 0, _ =>
      refine ⟨m2, far0 t, fun _ _ => rfl, ?_, g3, Or.inr a2⟩
      simp only [s249_67, s249_68, s249_71, s249_72, s249_73, s249_74, s249_77, s249_80, s249_83, s249_84, s249_85, s249_88, s249_89, s249_90, s249_91, s249_94, s249_97, s249_98, s249_101, s249_102, s249_105, s249_106, s249_107, s249_108, s249_111, nI00, if_true, ap, Option.bind_some, Option.toList_some, Option.toList_none, List.nil_append, List.cons_append, x_M_ones (apM_lt hn6)]
    | 1, _ =>
      refine ⟨m2, far0 t, fun _ _ => rfl, ?_, g3, Or.inr a2⟩
      simp only [s249_67, s249_68, s249_71, s249_72, s249_73, s249_74, s249_77, s249_80, s249_83, s249_84, s249_85, s249_88, s249_89, s249_90, s249_91, s249_94, s249_97, s249_98, s249_101, s249_102, s249_105, s249_106, s249_107, s249_108, s249_111, nI10, if_true, if_false, nx, Option.bind_some, Option.toList_some, Option.toList_none, List.nil_append, List.cons_append, bI_z, show ¬ (1 : Nat) = 0 by decide]
      cases nxM n L u t <;> simp only [Bool.true_eq_false, if_true, if_false, s249_67, s249_68, s249_71, s249_72, s249_73, s249_74, s249_77, s249_80, s249_83, s249_84, s249_85, s249_88, s249_89, s249_90, s249_91, s249_94, s249_97, s249_98, s249_101, s249_102, s249_105, s249_106, s249_107, s249_108, s249_111, bI_t, bI_f]
    | 2, _ =>
      obtain ⟨F1, F2, hF, st⟩ := x_M_steps (d := d + 4) (q := q) (F0 := far0 t) n2 hn6 T2 ht hu (fun k _ => rfl)
      refine ⟨mu m2 14 F2, F1, hF, ?_, fun c hc => ?_, ?_⟩
      · simp only [s249_67, s249_68, s249_71, s249_72, s249_73, s249_74, s249_77, s249_80, s249_83, s249_84, s249_85, s249_88, s249_89, s249_90, s249_91, s249_94, s249_97, s249_98, s249_101, s249_102, s249_105, s249_106, s249_107, s249_108, s249_111, show ¬ nI 2 = 0 by decide, show ¬ nI 2 = nI 1 by decide, if_false, st, Option.bind_some, Option.toList_some, Option.toList_none, List.nil_append, List.cons_append, show ¬ (2 : Nat) = 0 by decide, show ¬ (2 : Nat) = 1 by decide]
      · rw [mu_ne (fun e => hc (by simp [e]))]
        exact g3 c hc
      · rw [mu_ne (by decide)]
        exact Or.inr a2
end
