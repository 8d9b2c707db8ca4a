/-! the model: boxes -/
/-- a box of the model: there, for full ones, places, codes, elements -/
def BM1 (m : Mem) (b : Nat) (r : BR) : Prop := m 4 b = (if r.1 = true then bI r.2.1 else -1) ∧ (r.1 = true → m 5 b = nI r.2.2.1 ∧ r.2.2.1 ≤ 6 ∧ ∀ i, i < 6 → m 6 (6 * b + i) = (if r.2.2.2.2 i = 0 then -1 else nI (r.2.2.2.1 i)) ∧ (r.2.2.2.2 i ≠ 0 → r.2.2.2.1 i < 729 ∧ m 7 (6 * b + i) = nI (r.2.2.2.2 i)) ∧ r.2.2.2.2 i ≤ 6)
def BM (m : Mem) (B : Nat → BR) : Prop := ∀ b, b < 3 → BM1 m b (B b)
theorem BM_fr {m m' : Mem} {B : Nat → BR} (h : BM m B) (h4 : m' 4 = m 4) (h5 : m' 5 = m 5) (h6 : m' 6 = m 6) (h7 : m' 7 = m 7) : BM m' B := fun b hb => by
  have := h b hb
  unfold BM1 at this ⊢
  rw [h4, h5, h6, h7]
  exact this
theorem BM_set {m m' : Mem} {B : Nat → BR} {b : Nat} {r : BR} (h : BM m B) (hr : BM1 m' b r) (h4 : ∀ i, i ≠ b → m' 4 i = m 4 i) (h5 : ∀ i, i ≠ b → m' 5 i = m 5 i) (h6 : ∀ c i, c ≠ b → i < 6 → m' 6 (6 * c + i) = m 6 (6 * c + i)) (h7 : ∀ c i, c ≠ b → i < 6 → m' 7 (6 * c + i) = m 7 (6 * c + i)) : BM m' (uB B b r) := by
  intro c hc
  unfold uB
  by_cases e : c = b
  · subst e
    rw [if_pos rfl]
    exact hr
  · rw [if_neg e]
    have := h c hc
    unfold BM1 at this ⊢
    refine ⟨by rw [h4 c e]; exact this.1, fun ht => ?_⟩
    obtain ⟨a1, a2, a3⟩ := this.2 ht
    refine ⟨by rw [h5 c e]; exact a1, a2, fun i hi => ?_⟩
    rw [h6 c i e hi, h7 c i e hi]
    exact a3 i hi
/-- what the machine finds at a place -/
def fdA (r : BR) (y : Int32) : Int32 := if r.1 = true then (if elB r.2.2.1 y = true then nI 0 else -1013) else -1011
def rfM (B : Nat → BR) (x y : Int32) : Int32 := if elB 3 x = true then (if fdA (B (eN x)) y = nI 0 then (if (B (eN x)).2.2.2.2 (eN y) = 0 then -1015 else 0) else fdA (B (eN x)) y) else -1001
theorem m1lt : ((-1 : Int32) < 0) = True := eq_true (by decide)
theorem m1013 : ((-1013 : Int32) < 0) = True := eq_true (by decide)
theorem m1011 : ((-1011 : Int32) < 0) = True := eq_true (by decide)
theorem nI0lt : (nI 0 < 0) = False := eq_false (by decide)
theorem bIlt (b : Bool) : (bI b < 0) = False := by cases b <;> exact eq_false (by decide)
def snM (B : Nat → BR) (b i e : Int32) : Int32 := if rfM B b i = 0 then (if elB ((B (eN b)).2.2.2.2 (eN i)) e = true then dg32 ((B (eN b)).2.2.2.2 (eN i)) ((B (eN b)).2.2.2.1 (eN i)) (eN e) else -1002) else rfM B b i
section
variable {d a b c e f g i n k t u : Nat} {m : Mem} {q : MemJ} {h : AH} {v3 v4 v5 v6 v7 : Value} {x y z w : Int32} {B : Nat → BR} {r : BR}
theorem x_M_isBox : ev (d + 1) 256 0 [.int x] [] h = some (some (.int (bI (elB 3 x))), h) := by
  have I := x_M_inE (d := d) (x := x) (h := h) (show 3 < 1000 by decide) (Z := 0) (K := 2) (by decide) (by decide)
  simp only [s256_0, s256_1, s256_2, s256_3, s256_6, s256_9, I, Option.bind_some, Option.toList_some, Option.toList_none, List.nil_append, List.cons_append, bI_b]
theorem x_M_finds (hb : b < 3) (hr : BM1 m b r) : ev (d + 1) 258 0 [.ref 0, .int (nI b), .int y] [] (mk shM m q) = some (some (.int (fdA r y)), mk shM m q) := by
  obtain ⟨h1, h2⟩ := hr
  unfold fdA
  cases ht : r.1 with
  | false =>
    rw [ht, if_neg (by decide)] at h1
    simp only [s258_0, s258_1, s258_4, s258_5, s258_6, s258_9, s258_12, s258_15, s258_16, s258_17, s258_18, s258_19, s258_22, s258_23, s258_24, s258_25, s258_26, s258_27, s258_30, s258_33, s258_36, s258_39, s258_40, tM4, nM4, hb, h1, m1lt, if_true, Bool.false_eq_true, if_false]
  | true =>
    rw [ht, if_pos rfl] at h1
    obtain ⟨a1, a2, a3⟩ := h2 ht
    have I := x_M_inE (d := d) (x := y) (h := mk shM m q) (k := r.2.2.1) (by omega) (Z := 0) (K := (nI r.2.2.1 - nI 1).toInt64) (by decide) rfl
    simp only [s258_0, s258_1, s258_4, s258_5, s258_6, s258_9, s258_12, s258_15, s258_16, s258_17, s258_18, s258_19, s258_22, s258_23, s258_24, s258_25, s258_26, s258_27, s258_30, s258_33, s258_36, s258_39, s258_40, tM4, nM4, tM5, nM5, hb, h1, bIlt, if_false, a1, I, Option.bind_some, Option.toList_some, Option.toList_none, List.nil_append, List.cons_append, bI_z]
    cases elB r.2.2.1 y <;> simp only [Bool.true_eq_false, Bool.false_eq_true, if_true, if_false, s258_0, s258_1, s258_4, s258_5, s258_6, s258_9, s258_12, s258_15, s258_16, s258_17, s258_18, s258_19, s258_22, s258_23, s258_24, s258_25, s258_26, s258_27, s258_30, s258_33, s258_36, s258_39, s258_40]
theorem x_M_box (hB : BM m B) : ∃ m', ev (d + 2) 255 0 [.ref 0, .int x, .int y, .int z, .null] [] (mk shM m q) = some (some (.int (bxR B x y z).1), mk shM m' q) ∧ BM m' (bxR B x y z).2 ∧ fr [4, 5, 6] m m' := by
  unfold bxR
  rcases elB_or 3 x (by decide) with ⟨hx, _⟩ | ⟨b, hb, rfl⟩
  · rw [hx]
    refine ⟨m, ?_, hB, fr_rfl⟩
    simp only [s255_0, s255_1, s255_4, s255_7, s255_10, s255_11, s255_12, s255_13, s255_14, s255_15, s255_18, s255_21, s255_22, s255_24, s255_27, s255_30, s255_31, s255_32, s255_35, s255_38, s255_39, s255_40, s255_43, s255_44, s255_45, s255_46, s255_47, s255_50, s255_51, s255_52, s255_53, s255_54, s255_58, s255_60, s255_63, s255_64, s255_67, s255_69, s255_70, s255_71, s255_73, s255_74, s255_75, s255_76, s255_79, s255_82, s255_83, x_M_isBox, Option.bind_some, Option.toList_some, Option.toList_none, List.nil_append, List.cons_append, bI_z, hx, if_true, Bool.false_eq_true, if_false]
  have e3 := elB_nI (show 3 < 1000 by decide) hb
  rw [e3, eN_nI (by omega), if_pos rfl]
  have I := x_M_inE (d := d + 1) (x := y) (h := mk shM m q) (show 2 < 1000 by decide) (Z := 0) (K := 1) (by decide) (by decide)
  rcases elB_or 2 y (by decide) with ⟨hy, _⟩ | ⟨s, hs, rfl⟩
  · rw [hy]
    refine ⟨m, ?_, hB, fr_rfl⟩
    simp only [s255_0, s255_1, s255_4, s255_7, s255_10, s255_11, s255_12, s255_13, s255_14, s255_15, s255_18, s255_21, s255_22, s255_24, s255_27, s255_30, s255_31, s255_32, s255_35, s255_38, s255_39, s255_40, s255_43, s255_44, s255_45, s255_46, s255_47, s255_50, s255_51, s255_52, s255_53, s255_54, s255_58, s255_60, s255_63, s255_64, s255_67, s255_69, s255_70, s255_71, s255_73, s255_74, s255_75, s255_76, s255_79, s255_82, s255_83, x_M_isBox, Option.bind_some, Option.toList_some, Option.toList_none, List.nil_append, List.cons_append, bI_z, e3, if_true, Bool.true_eq_false, Bool.false_eq_true, Bool.false_and, if_false, I, hy]
  have e2 := elB_nI (show 2 < 1000 by decide) hs
  rw [e2, eN_nI (by omega), Bool.true_and]
  by_cases z6 : nI 6 < z
  · rw [decide_eq_true z6]
    refine ⟨m, ?_, hB, fr_rfl⟩
    simp only [s255_0, s255_1, s255_4, s255_7, s255_10, s255_11, s255_12, s255_13, s255_14, s255_15, s255_18, s255_21, s255_22, s255_24, s255_27, s255_30, s255_31, s255_32, s255_35, s255_38, s255_39, s255_40, s255_43, s255_44, s255_45, s255_46, s255_47, s255_50, s255_51, s255_52, s255_53, s255_54, s255_58, s255_60, s255_63, s255_64, s255_67, s255_69, s255_70, s255_71, s255_73, s255_74, s255_75, s255_76, s255_79, s255_82, s255_83, x_M_isBox, Option.bind_some, Option.toList_some, Option.toList_none, List.nil_append, List.cons_append, bI_z, e3, e2, if_true, Bool.true_eq_false, Bool.false_eq_true, Bool.not_true, if_false, I, z6]
  rw [decide_eq_false z6, Bool.not_false, if_pos rfl]
  by_cases z0 : z < 0
  · rw [if_pos z0]
    refine ⟨m, ?_, hB, fr_rfl⟩
    simp only [s255_0, s255_1, s255_4, s255_7, s255_10, s255_11, s255_12, s255_13, s255_14, s255_15, s255_18, s255_21, s255_22, s255_24, s255_27, s255_30, s255_31, s255_32, s255_35, s255_38, s255_39, s255_40, s255_43, s255_44, s255_45, s255_46, s255_47, s255_50, s255_51, s255_52, s255_53, s255_54, s255_58, s255_60, s255_63, s255_64, s255_67, s255_69, s255_70, s255_71, s255_73, s255_74, s255_75, s255_76, s255_79, s255_82, s255_83, x_M_isBox, Option.bind_some, Option.toList_some, Option.toList_none, List.nil_append, List.cons_append, bI_z, e3, e2, if_true, Bool.true_eq_false, if_false, I, z6, z0]
  rw [if_neg z0]
  obtain ⟨l, hl, rfl⟩ : ∃ l, l < 7 ∧ z = nI l := by
    rcases el_or 7 z (by decide) with (h | h) | h
    · exact absurd h z0
    · exact absurd (lt_of_le (by decide) h) z6
    · exact h
  rw [eN_nI (show l < 1000 by omega)]
  generalize hm1 : mu (mu m 4 (upd (m 4) b (nI s))) 5 (upd (m 5) b (nI l)) = m1
  obtain ⟨⟨C, u1⟩, hC, e1⟩ := ev_up (fun i (w : (Nat → Int32) × Unit) => (∀ k, k < i → w.1 (6 * b + k) = -1) ∧ ∀ c k, c ≠ b → k < 6 → w.1 (6 * c + k) = m 6 (6 * c + k)) (fun i w => ev (d + 2) 255 56 [.ref 0, .int (nI b), .int (nI s), .int (nI l), .int (nI i)] [] (mk shM (mu m1 6 w.1) q)) 6 (m 6, ()) ⟨fun k hk => by omega, fun _ _ _ _ => rfl⟩
    (fun i w hi hw => ⟨(upd w.1 (6 * b + i) (-1), ()), ⟨fun k hk => by
      simp only [upd]
      by_cases hki : k = i
      · rw [if_pos (by omega)]
      · rw [if_neg (by omega)]; exact hw.1 k (by omega), fun c k hc hk => by
      simp only [upd]
      rw [if_neg (by omega)]
      exact hw.2 c k hc hk⟩, by
      rw [s255_56]
      simp only [s255_58, s255_60, s255_63, s255_64, s255_67, s255_69, s255_70, s255_71, s255_73, s255_74, s255_75, s255_76, s255_79, s255_82, s255_83, nI_lt hi (show 6 < 2 ^ 31 by decide), if_true, pk_mul, nI_add, tM6, nM6, show 6 * b + i < 18 by omega, mu_mu, mu_same]⟩) 6 (Nat.le_refl _)
  have hm6 : mu m1 6 (m 6) = m1 := by
    have := mu_self (m := m1) (k := 6)
    rwa [← hm1, mu_ne (show (6 : Nat) ≠ 5 by decide), mu_ne (show (6 : Nat) ≠ 4 by decide), hm1] at this
  rw [hm6] at e1
  have hs' : nI s = bI (decide (s = 1)) := by
    match s, hs with
    | 0, _ => rfl
    | 1, _ => rfl
  refine ⟨mu m1 6 C, ?_, BM_set hB ⟨?_, fun _ => ⟨?_, by dsimp only; omega, fun i hi => ⟨?_, fun h => absurd rfl h, Nat.zero_le _⟩⟩⟩ ?_ ?_ ?_ ?_, ?_⟩
  · simp only [s255_0, s255_1, s255_4, s255_7, s255_10, s255_11, s255_12, s255_13, s255_14, s255_15, s255_18, s255_21, s255_22, s255_24, s255_27, s255_30, s255_31, s255_32, s255_35, s255_38, s255_39, s255_40, s255_43, s255_44, s255_45, s255_46, s255_47, s255_50, s255_51, s255_52, s255_53, s255_54, x_M_isBox, Option.bind_some, Option.toList_some, Option.toList_none, List.nil_append, List.cons_append, bI_z, e3, e2, if_true, Bool.true_eq_false, if_false, I, z6, z0, tM4, nM4, tM5, nM5, hb, mu_ne (show (5 : Nat) ≠ 4 by decide), hm1]
    refine e1.trans ?_
    rw [s255_56]
    simp only [s255_58, s255_60, s255_63, s255_64, s255_67, s255_69, s255_70, s255_71, s255_73, s255_74, s255_75, s255_76, s255_79, s255_82, s255_83, nI_irr, if_false]
  · rw [mu_ne (by decide), ← hm1, mu_ne (by decide), mu_same]
    simp [upd, hs']
  · rw [mu_ne (by decide), ← hm1, mu_same]
    simp [upd]
  · rw [mu_same]
    exact hC.1 i hi
  · intro i hi
    rw [mu_ne (by decide), ← hm1, mu_ne (by decide), mu_same]
    simp [upd, hi]
  · intro i hi
    rw [mu_ne (by decide), ← hm1, mu_same]
    simp [upd, hi]
  · intro c k hc hk
    rw [mu_same]
    exact hC.2 c k hc hk
  · intro c k hc hk
    rw [mu_ne (by decide), ← hm1, mu_ne (by decide), mu_ne (by decide)]
  · intro c hc
    have h4 : c ≠ 4 := fun e => hc (by simp [e])
    have h5 : c ≠ 5 := fun e => hc (by simp [e])
    have h6 : c ≠ 6 := fun e => hc (by simp [e])
    rw [mu_ne h6, ← hm1, mu_ne h5, mu_ne h4]
theorem fdA_0 {r : BR} {y : Int32} (h : fdA r y = nI 0) (hl : r.1 = true → r.2.2.1 ≤ 6) : r.1 = true ∧ ∃ p, p < r.2.2.1 ∧ y = nI p := by
  unfold fdA at h
  cases ht : r.1 with
  | false =>
    rw [ht, if_neg (by decide)] at h
    exact absurd h (by decide)
  | true =>
    rw [ht, if_pos rfl] at h
    have := hl ht
    rcases elB_or r.2.2.1 y (by omega) with ⟨hy, _⟩ | hp
    · rw [hy, if_neg (by decide)] at h
      exact absurd h (by decide)
    · exact ⟨rfl, hp⟩
theorem fdA_lt {r : BR} {y : Int32} : (fdA r y < 0) = ¬ (fdA r y = nI 0) := by
  unfold fdA
  split
  · split
    · simp [nI0lt]
    · exact propext ⟨fun _ => by decide, fun _ => by decide⟩
  · exact propext ⟨fun _ => by decide, fun _ => by decide⟩
theorem x_M_seen (hB : BM m B) : ev (d + 2) 260 0 [.ref 0, .int x, .int y, .int z, .null, .null, .null] [] (mk shM m q) = some (some (.int (snM B x y z)), mk shM m q) := by
  unfold snM rfM
  rcases elB_or 3 x (by decide) with ⟨hx, _⟩ | ⟨b, hb, rfl⟩
  · rw [hx, if_neg (show ¬ (false = true) by decide), if_neg (show ¬ (-1001 : Int32) = 0 by decide)]
    simp only [s260_0, s260_1, s260_4, s260_7, s260_10, s260_11, s260_12, s260_13, s260_14, s260_17, s260_19, s260_21, s260_24, s260_26, s260_27, s260_28, s260_31, s260_33, s260_34, s260_35, s260_36, s260_37, s260_38, s260_40, s260_41, s260_44, s260_46, s260_47, s260_48, s260_49, s260_50, s260_51, s260_53, s260_55, s260_58, s260_61, s260_64, s260_65, s260_66, s260_67, s260_69, s260_70, s260_71, s260_72, s260_75, s260_78, s260_80, s260_82, s260_83, s260_86, s260_89, s260_92, x_M_isBox, Option.bind_some, Option.toList_some, Option.toList_none, List.nil_append, List.cons_append, bI_z, hx, if_true]
  have e3 := elB_nI (show 3 < 1000 by decide) hb
  rw [e3, eN_nI (by omega), if_pos rfl]
  have F := x_M_finds (d := d) (q := q) (y := y) hb (hB b hb)
  by_cases h0 : fdA (B b) y = nI 0
  · rw [if_pos h0]
    obtain ⟨ht, p, hp, rfl⟩ := fdA_0 h0 fun ht => ((hB b hb).2 ht).2.1
    obtain ⟨a1, a2, a3⟩ := (hB b hb).2 ht
    obtain ⟨c1, c2, c3⟩ := a3 p (by omega)
    rw [h0] at F
    rw [eN_nI (show p < 1000 by omega)]
    by_cases hz : (B b).2.2.2.2 p = 0
    · rw [if_pos hz] at c1 ⊢
      rw [if_neg (show ¬ (-1015 : Int32) = 0 by decide)]
      simp only [s260_0, s260_1, s260_4, s260_7, s260_10, s260_11, s260_12, s260_13, s260_14, s260_17, s260_19, s260_21, s260_24, s260_26, s260_27, s260_28, s260_31, s260_33, s260_34, s260_35, s260_36, s260_37, s260_38, s260_40, s260_41, s260_44, s260_46, s260_47, s260_48, s260_49, s260_50, s260_51, s260_53, s260_55, s260_58, s260_61, s260_64, s260_65, s260_66, s260_67, s260_69, s260_70, s260_71, s260_72, s260_75, s260_78, s260_80, s260_82, s260_83, s260_86, s260_89, s260_92, x_M_isBox, Option.bind_some, Option.toList_some, Option.toList_none, List.nil_append, List.cons_append, bI_z, e3, Bool.true_eq_false, if_false, F, nI0lt, pk_mul, nI_add, tM6, nM6, tM7, nM7, show 6 * b + p < 18 by omega, c1, m1lt, if_true]
    · rw [if_neg hz] at c1 ⊢
      rw [if_pos rfl]
      obtain ⟨k1, k2⟩ := c2 hz
      have I := x_M_inE (d := d + 1) (x := z) (h := mk shM m q) (k := (B b).2.2.2.2 p) (by omega) (Z := 0) (K := (nI ((B b).2.2.2.2 p) - nI 1).toInt64) (by decide) rfl
      rcases elB_or ((B b).2.2.2.2 p) z (by omega) with ⟨hh, _⟩ | ⟨a, ha, rfl⟩
      · simp only [s260_0, s260_1, s260_4, s260_7, s260_10, s260_11, s260_12, s260_13, s260_14, s260_17, s260_19, s260_21, s260_24, s260_26, s260_27, s260_28, s260_31, s260_33, s260_34, s260_35, s260_36, s260_37, s260_38, s260_40, s260_41, s260_44, s260_46, s260_47, s260_48, s260_49, s260_50, s260_51, s260_53, s260_55, s260_58, s260_61, s260_64, s260_65, s260_66, s260_67, s260_69, s260_70, s260_71, s260_72, s260_75, s260_78, s260_80, s260_82, s260_83, s260_86, s260_89, s260_92, x_M_isBox, Option.bind_some, Option.toList_some, Option.toList_none, List.nil_append, List.cons_append, bI_z, e3, Bool.true_eq_false, if_false, F, nI0lt, pk_mul, nI_add, tM6, nM6, tM7, nM7, show 6 * b + p < 18 by omega, c1, k2, nI_pos (show (B b).2.2.2.1 p < 2 ^ 31 by omega), I, hh, if_true, Bool.false_eq_true]
      · have ea := elB_nI (show (B b).2.2.2.2 p < 1000 by omega) ha
        have dg := x_M_digit (d := d) (h := mk shM m q) k1 c3 ha
        have dg' : ev (d + 1) 238 0 [.int (nI ((B b).2.2.2.1 p)), .int (nI ((B b).2.2.2.2 p)), .int (nI a)] [] (mk shM m q) = _ := dg
        simp only [s260_0, s260_1, s260_4, s260_7, s260_10, s260_11, s260_12, s260_13, s260_14, s260_17, s260_19, s260_21, s260_24, s260_26, s260_27, s260_28, s260_31, s260_33, s260_34, s260_35, s260_36, s260_37, s260_38, s260_40, s260_41, s260_44, s260_46, s260_47, s260_48, s260_49, s260_50, s260_51, s260_53, s260_55, s260_58, s260_61, s260_64, s260_65, s260_66, s260_67, s260_69, s260_70, s260_71, s260_72, s260_75, s260_78, s260_80, s260_82, s260_83, s260_86, s260_89, s260_92, x_M_isBox, Option.bind_some, Option.toList_some, Option.toList_none, List.nil_append, List.cons_append, bI_z, e3, Bool.true_eq_false, if_false, F, nI0lt, pk_mul, nI_add, tM6, nM6, tM7, nM7, show 6 * b + p < 18 by omega, c1, k2, nI_pos (show (B b).2.2.2.1 p < 2 ^ 31 by omega), I, ea, if_true, dg', eN_nI (show a < 1000 by omega)]
  · rw [if_neg h0]
    have hlt := fdA_lt (r := B b) (y := y)
    have h1 : ¬ fdA (B b) y = 0 := h0
    rw [if_neg h1]
    simp only [s260_0, s260_1, s260_4, s260_7, s260_10, s260_11, s260_12, s260_13, s260_14, s260_17, s260_19, s260_21, s260_24, s260_26, s260_27, s260_28, s260_31, s260_33, s260_34, s260_35, s260_36, s260_37, s260_38, s260_40, s260_41, s260_44, s260_46, s260_47, s260_48, s260_49, s260_50, s260_51, s260_53, s260_55, s260_58, s260_61, s260_64, s260_65, s260_66, s260_67, s260_69, s260_70, s260_71, s260_72, s260_75, s260_78, s260_80, s260_82, s260_83, s260_86, s260_89, s260_92, x_M_isBox, Option.bind_some, Option.toList_some, Option.toList_none, List.nil_append, List.cons_append, bI_z, e3, Bool.true_eq_false, if_false, F, hlt, h0, not_false_eq_true, if_true]
end
