/-! the model's text: words and numbers read -/
def wmB (f : Nat → Nat) (b e x0 x1 x2 x3 x4 : Nat) : Bool := decide (e - b = if x4 = 0 then 4 else 5) && (f b == x0 && (f (b + 1) == x1 && (f (b + 2) == x2 && (f (b + 3) == x3 && (decide (x4 = 0) || f (b + 4) == x4)))))
theorem wrd4 {f : Nat → Nat} {b e x0 x1 x2 x3 k : Nat} (h : wds.getD k [] = [x0, x1, x2, x3]) : wrd f k b e = wmB f b e x0 x1 x2 x3 0 := by
  unfold wrd wmB
  rw [h]
  by_cases he : e - b = 4
  · rw [he]
    simp [rg, List.range']
  · simp [he]
theorem wrd5 {f : Nat → Nat} {b e x0 x1 x2 x3 x4 k : Nat} (h : wds.getD k [] = [x0, x1, x2, x3, x4]) (h4 : x4 ≠ 0) : wrd f k b e = wmB f b e x0 x1 x2 x3 x4 := by
  unfold wrd wmB
  rw [h, if_neg h4, decide_eq_false h4]
  by_cases he : e - b = 5
  · rw [he]
    simp [rg, List.range']
  · simp [he]
section
variable {d b e t c L x lo hi k : Nat} {f : Nat → Nat} {R W N : Nat → Int32} {m : Mem} {q : MemJ} {h : AH}
theorem x_M_isWord {x0 x1 x2 x3 x4 : Nat} (hL : LtM m f L) (ht : isTk f L b e) (h0 : x0 < 1000) (h1 : x1 < 1000) (h2 : x2 < 1000) (h3 : x3 < 1000) (h4 : x4 < 1000) : ev d 175 0 [.ref 0, .int (nI x0), .int (nI x1), .int (nI x2), .int (nI x3), .int (nI x4), .null] [] (mk shM (mP m R W N b e t c) q) = some (some (.int (bI (wmB f b e x0 x1 x2 x3 x4))), mk shM (mP m R W N b e t c) q) := by
  obtain ⟨l1, l2, l3⟩ := hL
  obtain ⟨t1, t2, t3, -⟩ := ht
  have st : ev d 175 0 [.ref 0, .int (nI x0), .int (nI x1), .int (nI x2), .int (nI x3), .int (nI x4), .null] [] (mk shM (mP m R W N b e t c) q) = ev d 175 12 [.ref 0, .int (nI x0), .int (nI x1), .int (nI x2), .int (nI x3), .int (nI x4), .int (nI (if x4 = 0 then 4 else 5))] [] (mk shM (mP m R W N b e t c) q) := by
    by_cases hz : x4 = 0
    · simp only [s175_0, s175_2, s175_5, s175_6, s175_9, s175_10, nI_z (show x4 < 2 ^ 31 by omega), eq_true hz, if_true]
    · simp only [s175_0, s175_2, s175_5, s175_6, s175_9, s175_10, nI_z (show x4 < 2 ^ 31 by omega), eq_false hz, if_false]
  rw [st]
  have hw : (if x4 = 0 then 4 else 5) < 2 ^ 31 := by split <;> decide
  have hd : nI e - nI b = nI (e - b) := nI_sub t1
  unfold wmB
  generalize hwd : (if x4 = 0 then (4 : Nat) else 5) = w at hw ⊢
  by_cases c0 : e - b = w
  · have hbe : b + 4 ≤ e := by split at hwd <;> omega
    have y0 := l3 b (by omega)
    have y1 := l3 (b + 1) (by omega)
    have y2 := l3 (b + 2) (by omega)
    have y3 := l3 (b + 3) (by omega)
    have k0 := nI_eq (show f b < 2 ^ 31 by omega) (show x0 < 2 ^ 31 by omega)
    have k1 := nI_eq (show f (b + 1) < 2 ^ 31 by omega) (show x1 < 2 ^ 31 by omega)
    have k2 := nI_eq (show f (b + 2) < 2 ^ 31 by omega) (show x2 < 2 ^ 31 by omega)
    have k3 := nI_eq (show f (b + 3) < 2 ^ 31 by omega) (show x3 < 2 ^ 31 by omega)
    rw [decide_eq_true c0, Bool.true_and]
    by_cases c1 : f b = x0
    rotate_left
    · rw [beq_false_of_ne c1, Bool.false_and]
      simp only [s175_12, s175_13, s175_16, s175_17, s175_20, s175_21, s175_23, s175_26, s175_27, s175_30, s175_31, s175_34, s175_35, s175_36, s175_39, s175_40, s175_43, s175_44, s175_47, s175_48, s175_49, s175_50, s175_51, s175_54, s175_55, s175_58, s175_59, s175_62, s175_63, s175_64, s175_65, s175_66, s175_69, s175_70, s175_73, s175_74, s175_77, s175_78, s175_79, s175_80, s175_82, s175_85, s175_87, s175_90, s175_91, s175_94, s175_95, s175_98, s175_99, s175_100, s175_101, s175_103, s175_106, s175_107, s175_110, s175_111, mP_b, mP_e, hd, nI_eq (show e - b < 2 ^ 31 by omega) hw, eq_true c0, if_true, tM3, nM3, mP_3, show b < 200 by omega, y0.1, k0, eq_false c1, if_false, am_b0, bI_f]
    rw [beq_iff_eq.mpr c1, Bool.true_and]
    by_cases c2 : f (b + 1) = x1
    rotate_left
    · rw [beq_false_of_ne c2, Bool.false_and]
      simp only [s175_12, s175_13, s175_16, s175_17, s175_20, s175_21, s175_23, s175_26, s175_27, s175_30, s175_31, s175_34, s175_35, s175_36, s175_39, s175_40, s175_43, s175_44, s175_47, s175_48, s175_49, s175_50, s175_51, s175_54, s175_55, s175_58, s175_59, s175_62, s175_63, s175_64, s175_65, s175_66, s175_69, s175_70, s175_73, s175_74, s175_77, s175_78, s175_79, s175_80, s175_82, s175_85, s175_87, s175_90, s175_91, s175_94, s175_95, s175_98, s175_99, s175_100, s175_101, s175_103, s175_106, s175_107, s175_110, s175_111, mP_b, mP_e, hd, nI_eq (show e - b < 2 ^ 31 by omega) hw, eq_true c0, if_true, tM3, nM3, mP_3, show b < 200 by omega, show b + 1 < 200 by omega, y0.1, k0, eq_true c1, nI_add, y1.1, k1, eq_false c2, if_false, am_b0, bI_f]
    rw [beq_iff_eq.mpr c2, Bool.true_and]
    by_cases c3 : f (b + 2) = x2
    rotate_left
    · rw [beq_false_of_ne c3, Bool.false_and]
      simp only [s175_12, s175_13, s175_16, s175_17, s175_20, s175_21, s175_23, s175_26, s175_27, s175_30, s175_31, s175_34, s175_35, s175_36, s175_39, s175_40, s175_43, s175_44, s175_47, s175_48, s175_49, s175_50, s175_51, s175_54, s175_55, s175_58, s175_59, s175_62, s175_63, s175_64, s175_65, s175_66, s175_69, s175_70, s175_73, s175_74, s175_77, s175_78, s175_79, s175_80, s175_82, s175_85, s175_87, s175_90, s175_91, s175_94, s175_95, s175_98, s175_99, s175_100, s175_101, s175_103, s175_106, s175_107, s175_110, s175_111, mP_b, mP_e, hd, nI_eq (show e - b < 2 ^ 31 by omega) hw, eq_true c0, if_true, tM3, nM3, mP_3, show b < 200 by omega, show b + 1 < 200 by omega, show b + 2 < 200 by omega, y0.1, k0, eq_true c1, nI_add, y1.1, k1, eq_true c2, y2.1, k2, eq_false c3, if_false, am_b0, bI_f]
    rw [beq_iff_eq.mpr c3, Bool.true_and]
    by_cases c4 : f (b + 3) = x3
    rotate_left
    · rw [beq_false_of_ne c4, Bool.false_and]
      simp only [s175_12, s175_13, s175_16, s175_17, s175_20, s175_21, s175_23, s175_26, s175_27, s175_30, s175_31, s175_34, s175_35, s175_36, s175_39, s175_40, s175_43, s175_44, s175_47, s175_48, s175_49, s175_50, s175_51, s175_54, s175_55, s175_58, s175_59, s175_62, s175_63, s175_64, s175_65, s175_66, s175_69, s175_70, s175_73, s175_74, s175_77, s175_78, s175_79, s175_80, s175_82, s175_85, s175_87, s175_90, s175_91, s175_94, s175_95, s175_98, s175_99, s175_100, s175_101, s175_103, s175_106, s175_107, s175_110, s175_111, mP_b, mP_e, hd, nI_eq (show e - b < 2 ^ 31 by omega) hw, eq_true c0, if_true, tM3, nM3, mP_3, show b < 200 by omega, show b + 1 < 200 by omega, show b + 2 < 200 by omega, show b + 3 < 200 by omega, y0.1, k0, eq_true c1, nI_add, y1.1, k1, eq_true c2, y2.1, k2, eq_true c3, y3.1, k3, eq_false c4, if_false, am_b0, bI_f]
    rw [beq_iff_eq.mpr c4, Bool.true_and]
    by_cases c5 : x4 = 0
    · rw [decide_eq_true c5, Bool.true_or]
      simp only [s175_12, s175_13, s175_16, s175_17, s175_20, s175_21, s175_23, s175_26, s175_27, s175_30, s175_31, s175_34, s175_35, s175_36, s175_39, s175_40, s175_43, s175_44, s175_47, s175_48, s175_49, s175_50, s175_51, s175_54, s175_55, s175_58, s175_59, s175_62, s175_63, s175_64, s175_65, s175_66, s175_69, s175_70, s175_73, s175_74, s175_77, s175_78, s175_79, s175_80, s175_82, s175_85, s175_87, s175_90, s175_91, s175_94, s175_95, s175_98, s175_99, s175_100, s175_101, s175_103, s175_106, s175_107, s175_110, s175_111, mP_b, mP_e, hd, nI_eq (show e - b < 2 ^ 31 by omega) hw, eq_true c0, if_true, tM3, nM3, mP_3, show b < 200 by omega, show b + 1 < 200 by omega, show b + 2 < 200 by omega, show b + 3 < 200 by omega, y0.1, k0, eq_true c1, nI_add, y1.1, k1, eq_true c2, y2.1, k2, eq_true c3, y3.1, k3, eq_true c4, nI_z (show x4 < 2 ^ 31 by omega), eq_true c5, am_b1, bI_t]
    · have hbe : b + 5 ≤ e := by rw [if_neg c5] at hwd; omega
      have y4 := l3 (b + 4) (by omega)
      have k4 := nI_eq (show f (b + 4) < 2 ^ 31 by omega) (show x4 < 2 ^ 31 by omega)
      rw [decide_eq_false c5, Bool.false_or]
      by_cases c6 : f (b + 4) = x4
      · rw [beq_iff_eq.mpr c6]
        simp only [s175_12, s175_13, s175_16, s175_17, s175_20, s175_21, s175_23, s175_26, s175_27, s175_30, s175_31, s175_34, s175_35, s175_36, s175_39, s175_40, s175_43, s175_44, s175_47, s175_48, s175_49, s175_50, s175_51, s175_54, s175_55, s175_58, s175_59, s175_62, s175_63, s175_64, s175_65, s175_66, s175_69, s175_70, s175_73, s175_74, s175_77, s175_78, s175_79, s175_80, s175_82, s175_85, s175_87, s175_90, s175_91, s175_94, s175_95, s175_98, s175_99, s175_100, s175_101, s175_103, s175_106, s175_107, s175_110, s175_111, mP_b, mP_e, hd, nI_eq (show e - b < 2 ^ 31 by omega) hw, eq_true c0, if_true, tM3, nM3, mP_3, show b < 200 by omega, show b + 1 < 200 by omega, show b + 2 < 200 by omega, show b + 3 < 200 by omega, show b + 4 < 200 by omega, y0.1, k0, eq_true c1, nI_add, y1.1, k1, eq_true c2, y2.1, k2, eq_true c3, y3.1, k3, eq_true c4, nI_z (show x4 < 2 ^ 31 by omega), eq_false c5, if_false, y4.1, k4, eq_true c6, am_b1, bI_t]
      · rw [beq_false_of_ne c6]
        simp only [s175_12, s175_13, s175_16, s175_17, s175_20, s175_21, s175_23, s175_26, s175_27, s175_30, s175_31, s175_34, s175_35, s175_36, s175_39, s175_40, s175_43, s175_44, s175_47, s175_48, s175_49, s175_50, s175_51, s175_54, s175_55, s175_58, s175_59, s175_62, s175_63, s175_64, s175_65, s175_66, s175_69, s175_70, s175_73, s175_74, s175_77, s175_78, s175_79, s175_80, s175_82, s175_85, s175_87, s175_90, s175_91, s175_94, s175_95, s175_98, s175_99, s175_100, s175_101, s175_103, s175_106, s175_107, s175_110, s175_111, mP_b, mP_e, hd, nI_eq (show e - b < 2 ^ 31 by omega) hw, eq_true c0, if_true, tM3, nM3, mP_3, show b < 200 by omega, show b + 1 < 200 by omega, show b + 2 < 200 by omega, show b + 3 < 200 by omega, show b + 4 < 200 by omega, y0.1, k0, eq_true c1, nI_add, y1.1, k1, eq_true c2, y2.1, k2, eq_true c3, y3.1, k3, eq_true c4, nI_z (show x4 < 2 ^ 31 by omega), eq_false c5, if_false, y4.1, k4, eq_false c6, am_b0, bI_f]
  · rw [decide_eq_false c0, Bool.false_and]
    simp only [s175_12, s175_13, s175_16, s175_17, s175_20, s175_21, s175_23, s175_26, s175_27, s175_30, s175_31, s175_34, s175_35, s175_36, s175_39, s175_40, s175_43, s175_44, s175_47, s175_48, s175_49, s175_50, s175_51, s175_54, s175_55, s175_58, s175_59, s175_62, s175_63, s175_64, s175_65, s175_66, s175_69, s175_70, s175_73, s175_74, s175_77, s175_78, s175_79, s175_80, s175_82, s175_85, s175_87, s175_90, s175_91, s175_94, s175_95, s175_98, s175_99, s175_100, s175_101, s175_103, s175_106, s175_107, s175_110, s175_111, mP_b, mP_e, hd, nI_eq (show e - b < 2 ^ 31 by omega) hw, eq_false c0, if_false, am_b0, bI_f]
/-- a number's value, by its digits -/
theorem x_M_valLoop {v : Int32} (hL : LtM m f L) (ht : isTk f L b e) (hb : b < L) (hd : isDg (f b) = true) (h2 : e ≤ b + 2) {S : Nat → Nat → Option (Option Value × AH)} {Z : Nat → Option (Option Value × AH)} (hs : ∀ i v, i < e → b ≤ i → nI (10 * v + f i) - nI 48 = nI (10 * v + (f i - 48)) → S i v = S (i + 1) (10 * v + (f i - 48))) (hz : ∀ v, S e v = Z v) : S b 0 = Z (rdV f b e) := by
  obtain ⟨t1, t2, t3, t4⟩ := ht
  have hbe := t3 hb
  have dg : ∀ i, b ≤ i → i < e → 48 ≤ f i := fun i h1 h2 => (isDg_iff.mp (t4 hd i h1 h2)).1
  have st : ∀ i v, b ≤ i → i < e → nI (10 * v + f i) - nI 48 = nI (10 * v + (f i - 48)) := fun i v h1 h2 => by
    have := dg i h1 h2
    rw [nI_sub (by omega)]
    congr 1
    omega
  unfold rdV
  by_cases he : e = b + 1
  · rw [if_pos he, hs b 0 hbe (Nat.le_refl _) (st b 0 (Nat.le_refl _) hbe), ← he, hz]
    congr 1
    omega
  · have he : e = b + 2 := by omega
    rw [if_neg (by omega), hs b 0 hbe (Nat.le_refl _) (st b 0 (Nat.le_refl _) hbe), hs (b + 1) _ (by omega) (by omega) (st (b + 1) _ (by omega) (by omega)), show b + 1 + 1 = e by omega, hz]
    congr 1
    omega
theorem x_M_valueHere (hL : LtM m f L) (ht : isTk f L b e) (hb : b < L) (hd : isDg (f b) = true) (h2 : e ≤ b + 2) : ev d 192 0 [.ref 0, .null, .null] [] (mk shM (mP m R W N b e t c) q) = some (some (.int (nI (rdV f b e))), mk shM (mP m R W N b e t c) q) := by
  obtain ⟨l1, l2, l3⟩ := id hL
  have te := ht.2.1
  have := x_M_valLoop (v := 0) hL ht hb hd h2 (S := fun i v => ev d 192 7 [.ref 0, .int (nI v), .int (nI i)] [] (mk shM (mP m R W N b e t c) q)) (Z := fun v => some (some (.int (nI v)), mk shM (mP m R W N b e t c) q))
    (fun i v hi hbi hst => by
      have hi3 := l3 i (by omega)
      rw [s192_7]
      simp only [s192_8, s192_9, s192_12, s192_15, s192_17, s192_18, s192_19, s192_20, s192_23, s192_24, s192_25, s192_26, s192_28, s192_29, s192_30, s192_33, s192_36, s192_37, mP_e, nI_lt hi (show e < 2 ^ 31 by omega), if_true, pk_mul, tM3, nM3, mP_3, show i < 200 by omega, hi3.1, nI_add, hst])
    (fun v => by
      rw [s192_7]
      simp only [s192_8, s192_9, s192_12, s192_15, s192_17, s192_18, s192_19, s192_20, s192_23, s192_24, s192_25, s192_26, s192_28, s192_29, s192_30, s192_33, s192_36, s192_37, mP_e, nI_irr, if_false])
  simp only [s192_0, s192_1, s192_2, s192_3, s192_6, mP_b]
  exact this
theorem x_M_reads (hL : LtM m f L) (ht : isTk f L b e) (hk : k < 4) (hlo : lo < 1000) (hhi : hi < 1000) : ev (d + 3) 177 0 [.ref 0, .int (nI k), .int (nI lo), .int (nI hi), .null, .null] [] (mk shM (mP m R W N b e t c) q) = match rdN f L b e lo hi with
    | some v => some (some (.int (nI 1)), mk shM (mP m R W (upd N k (nI v)) (tok f L e).1 (tok f L e).2 t c) q)
    | none => some (some (.int (nI 0)), mk shM (mP m R W N b e t c) q) := by
  obtain ⟨l1, l2, l3⟩ := id hL
  obtain ⟨t1, t2, t3, t4⟩ := id ht
  have e0 := nI_eq (show b < 2 ^ 31 by omega) (show L < 2 ^ 31 by omega)
  by_cases hb : b < L
  rotate_left
  · have hbL : b = L := by omega
    rw [rdN_n (fun h => hb h.1)]
    simp only [s177_0, s177_1, s177_4, s177_5, s177_8, s177_11, s177_12, s177_15, s177_16, s177_19, s177_20, s177_23, s177_26, s177_27, s177_30, s177_31, s177_34, s177_35, s177_36, s177_39, s177_40, s177_41, s177_42, s177_44, s177_45, s177_48, mP_b, mP_L, l1, e0, eq_true hbL, if_true, am_b0]
  have hbL : ¬ b = L := by omega
  have hb3 := l3 b hb
  cases hd : isDg (f b) with
  | false =>
    rw [rdN_n (fun h => by have := h.2.1; rw [hd] at this; cases this)]
    simp only [s177_0, s177_1, s177_4, s177_5, s177_8, s177_11, s177_12, s177_15, s177_16, s177_19, s177_20, s177_23, s177_26, s177_27, s177_30, s177_31, s177_34, s177_35, s177_36, s177_39, s177_40, s177_41, s177_42, s177_44, s177_45, s177_48, mP_b, mP_L, l1, e0, eq_false hbL, if_false, tM3, nM3, mP_3, show b < 200 by omega, hb3.1, x_M_isDigit (show f b < 1000 by omega), hd, Option.bind_some, Option.toList_some, Option.toList_none, List.nil_append, List.cons_append, bI_f, nI00, if_true, am_b0]
  | true =>
    have l3' : (nI 2 < nI (e - b)) = (2 < e - b) := propext (nI_ltI (show 2 < 2 ^ 31 by decide) (show e - b < 2 ^ 31 by omega))
    by_cases h2 : e ≤ b + 2
    rotate_left
    · rw [rdN_n (fun h => h2 h.2.2.1)]
      simp only [s177_0, s177_1, s177_4, s177_5, s177_8, s177_11, s177_12, s177_15, s177_16, s177_19, s177_20, s177_23, s177_26, s177_27, s177_30, s177_31, s177_34, s177_35, s177_36, s177_39, s177_40, s177_41, s177_42, s177_44, s177_45, s177_48, mP_b, mP_e, mP_L, l1, e0, eq_false hbL, if_false, tM3, nM3, mP_3, show b < 200 by omega, hb3.1, x_M_isDigit (show f b < 1000 by omega), hd, Option.bind_some, Option.toList_some, Option.toList_none, List.nil_append, List.cons_append, bI_t, nI10, nI_sub t1, l3', show 2 < e - b by omega, if_true, am_b0]
    have hv := rdV_lt ht hb hd h2
    have I := fun {h : AH} => x_M_in (d := d + 2) (x := nI (rdV f b e)) (lo := nI lo) (hi := nI hi) (h := h)
    have i1 : decide (nI (rdV f b e) < nI lo) = decide (rdV f b e < lo) := by simp only [nI_ltI (show rdV f b e < 2 ^ 31 by omega) (show lo < 2 ^ 31 by omega)]
    have i2 : decide (nI hi < nI (rdV f b e)) = decide (hi < rdV f b e) := by simp only [nI_ltI (show hi < 2 ^ 31 by omega) (show rdV f b e < 2 ^ 31 by omega)]
    have nx := x_M_next (d := d) (R := R) (W := W) (N := upd N k (nI (rdV f b e))) (b := b) (t := t) (c := c) (q := q) hL t2
    have := x_M_valLoop (v := 0) hL ht hb hd h2 (S := fun i v => ev (d + 3) 177 50 [.ref 0, .int (nI k), .int (nI lo), .int (nI hi), .int (nI v), .int (nI i)] [] (mk shM (mP m R W N b e t c) q)) (Z := fun v => ev (d + 3) 177 83 [.ref 0, .int (nI k), .int (nI lo), .int (nI hi), .int (nI v), .int (nI e)] [] (mk shM (mP m R W N b e t c) q))
      (fun i v hi hbi hst => by
        have hi3 := l3 i (by omega)
        rw [s177_50]
        simp only [s177_52, s177_53, s177_56, s177_59, s177_61, s177_63, s177_64, s177_65, s177_68, s177_70, s177_71, s177_72, s177_74, s177_75, s177_77, s177_80, mP_e, nI_lt hi (show e < 2 ^ 31 by omega), if_true, pk_mul, tM3, nM3, mP_3, show i < 200 by omega, hi3.1, nI_add, hst])
      (fun v => by
        rw [s177_50]
        simp only [s177_52, s177_53, s177_56, s177_59, s177_61, s177_63, s177_64, s177_65, s177_68, s177_70, s177_71, s177_72, s177_74, s177_75, s177_77, s177_80, mP_e, nI_irr, if_false])
    have pre : ev (d + 3) 177 0 [.ref 0, .int (nI k), .int (nI lo), .int (nI hi), .null, .null] [] (mk shM (mP m R W N b e t c) q) = ev (d + 3) 177 50 [.ref 0, .int (nI k), .int (nI lo), .int (nI hi), .int (nI 0), .int (nI b)] [] (mk shM (mP m R W N b e t c) q) := by
      simp only [s177_0, s177_1, s177_4, s177_5, s177_8, s177_11, s177_12, s177_15, s177_16, s177_19, s177_20, s177_23, s177_26, s177_27, s177_30, s177_31, s177_34, s177_35, s177_36, s177_39, s177_40, s177_41, s177_42, s177_44, s177_45, s177_48, mP_b, mP_e, mP_L, l1, e0, eq_false hbL, if_false, tM3, nM3, mP_3, show b < 200 by omega, hb3.1, x_M_isDigit (show f b < 1000 by omega), hd, Option.bind_some, Option.toList_some, Option.toList_none, List.nil_append, List.cons_append, bI_t, nI10, nI_sub t1, l3', show ¬ 2 < e - b by omega]
    rw [pre, this]
    by_cases hin : lo ≤ rdV f b e ∧ rdV f b e ≤ hi
    · rw [rdN_t ⟨hb, hd, h2, hin.1, hin.2⟩]
      rw [decide_eq_false (show ¬ rdV f b e < lo by omega)] at i1
      rw [decide_eq_false (show ¬ hi < rdV f b e by omega)] at i2
      simp only [s177_83, s177_85, s177_86, s177_87, s177_88, s177_89, s177_90, s177_93, s177_96, s177_97, s177_98, s177_99, s177_102, s177_103, s177_105, s177_106, s177_107, s177_110, s177_111, I, i1, i2, Bool.not_false, Bool.and_self, Option.bind_some, Option.toList_some, Option.toList_none, List.nil_append, List.cons_append, bI_t, nI10, if_false, tM8, nM8, hk, mP_8, mP_mu8, nx, am_b1]
    · rw [rdN_n (fun h => hin ⟨h.2.2.2.1, h.2.2.2.2⟩)]
      have hor : (!decide (rdV f b e < lo) && !decide (hi < rdV f b e)) = false := by
        by_cases g1 : rdV f b e < lo
        · rw [decide_eq_true g1]; rfl
        · rw [decide_eq_true (show hi < rdV f b e by omega), Bool.not_true, Bool.and_false]
      simp only [s177_83, s177_85, s177_86, s177_87, s177_88, s177_89, s177_90, s177_93, s177_96, s177_97, s177_98, s177_99, s177_102, s177_103, s177_105, s177_106, s177_107, s177_110, s177_111, I, i1, i2, hor, Option.bind_some, Option.toList_some, Option.toList_none, List.nil_append, List.cons_append, bI_f, nI00, if_true, am_b0]
end
