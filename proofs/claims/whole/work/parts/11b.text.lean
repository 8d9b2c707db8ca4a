/-! the text: numbers, words, clauses -/
def bI (b : Bool) : Int32 := if b = true then nI 1 else nI 0
theorem bI_b (b : Bool) : am_bool (bI b) = true := by cases b <;> decide
theorem am_b00 : am_bool 0 = true := by decide
theorem bI_t : bI true = nI 1 := rfl
theorem bI_f : bI false = nI 0 := rfl
/-- what holds of a token -/
def isTk (f : Nat → Nat) (L b e : Nat) : Prop := b ≤ e ∧ e ≤ L ∧ (b < L → b < e) ∧ (isDg (f b) = true → ∀ i, b ≤ i → i < e → isDg (f i) = true)
theorem skw_all {p : Nat → Bool} : ∀ {k i j : Nat}, i ≤ j → j < skw p k i → p j = true
  | 0, i, j, h1, h2 => by unfold skw at h2; omega
  | k + 1, i, j, h1, h2 => by
    unfold skw at h2
    split at h2
    · next hp =>
      rcases Nat.lt_or_ge i j with h | h
      · exact skw_all (k := k) (i := i + 1) h h2
      · obtain rfl : i = j := by omega
        exact hp
    · omega
theorem sm_dg {x : Nat} (h : isSm x = true) : isDg x = false := by
  unfold isSm at h
  unfold isDg
  simp at h ⊢
  omega
theorem tok_isTk {f : Nat → Nat} {L e : Nat} (h : e ≤ L) : isTk f L (tok f L e).1 (tok f L e).2 := by
  obtain ⟨_, h1, h2, h3⟩ := tok_le (f := f) h
  refine ⟨h1, h2, h3, ?_⟩
  unfold tok
  generalize skw (fun i => f i == 32) (L - e) e = b
  dsimp only
  split
  · dsimp only
    intro hd i hi1 hi2
    split at hi2
    · next hs => rw [sm_dg hs] at hd; cases hd
    · rcases Nat.lt_or_ge b i with h | h
      · exact skw_all (p := fun i => isDg (f i)) h hi2
      · obtain rfl : b = i := by omega
        exact hd
  · dsimp only; intro hd i hi1 hi2; omega
/-- a token's number -/
def rdV (f : Nat → Nat) (b e : Nat) : Nat := if e = b + 1 then f b - 48 else (f b - 48) * 10 + (f (b + 1) - 48)
def rdN (f : Nat → Nat) (L b e lo hi : Nat) : Option Nat := if b < L ∧ isDg (f b) = true ∧ e ≤ b + 2 ∧ lo ≤ rdV f b e ∧ rdV f b e ≤ hi then some (rdV f b e) else none
theorem rdN_le {f : Nat → Nat} {L b e lo hi t : Nat} (h : rdN f L b e lo hi = some t) : lo ≤ t ∧ t ≤ hi := by
  unfold rdN at h
  split at h
  · next hc => cases h; exact ⟨hc.2.2.2.1, hc.2.2.2.2⟩
  · cases h
theorem rdN_t {f : Nat → Nat} {L b e lo hi : Nat} (h : b < L ∧ isDg (f b) = true ∧ e ≤ b + 2 ∧ lo ≤ rdV f b e ∧ rdV f b e ≤ hi) : rdN f L b e lo hi = some (rdV f b e) := if_pos h
theorem rdN_n {f : Nat → Nat} {L b e lo hi : Nat} (h : ¬ (b < L ∧ isDg (f b) = true ∧ e ≤ b + 2 ∧ lo ≤ rdV f b e ∧ rdV f b e ≤ hi)) : rdN f L b e lo hi = none := if_neg h
theorem isDg_iff {x : Nat} : isDg x = true ↔ 48 ≤ x ∧ x ≤ 57 := by simp [isDg]
theorem rdV_lt {f : Nat → Nat} {L b e : Nat} (ht : isTk f L b e) (hb : b < L) (hd : isDg (f b) = true) (h2 : e ≤ b + 2) : rdV f b e < 100 := by
  have h0 := isDg_iff.mp hd
  unfold rdV
  split
  · omega
  · have h3 := isDg_iff.mp (ht.2.2.2 hd (b + 1) (by omega) (by have := ht.2.2.1 hb; omega))
    omega
section
variable {d n b e c L lo hi : Nat} {v : Int32} {F G : Nat → Int32} {f : Nat → Nat} {m : Mem} {q : MemJ}
theorem x_T_readNumber (hL : Ltr m f L) (ht : isTk f L b e) (hlo : lo < 1000) (hhi : hi < 1000) : ev (d + 2) 30 0 [.ref 41, .int (nI lo), .int (nI hi), .null, .null, .null] [] (mk shC (pH m n F G b e v c) q) = match rdN f L b e lo hi with
    | some t => some (some (.int (nI 1)), mk shC (pH m n F G (tok f L e).1 (tok f L e).2 (nI t) c) q)
    | none => some (some (.int (nI 0)), mk shC (pH m n F G b e v c) q) := by
  obtain ⟨h1, h2, h3⟩ := id hL
  obtain ⟨t1, t2, t3, t4⟩ := id ht
  simp only [s30_0, s30_1, s30_4, s30_5, s30_8, s30_9, s30_10, s30_11, s30_14, s30_15, s30_18, s30_21, s30_22, s30_25, s30_26, s30_29, s30_30, s30_33, s30_36, s30_37, s30_38, s30_41, s30_42, s30_43, s30_44, s30_46, s30_47, s30_50, s30_54, s30_55, s30_58, s30_61, s30_63, s30_65, s30_66, s30_67, s30_70, s30_72, s30_73, s30_74, s30_76, s30_77, s30_79, s30_82, s30_85, s30_87, s30_88, s30_91, s30_93, s30_94, s30_97, s30_98, s30_99, s30_100, s30_102, s30_105, s30_106, s30_109, s30_110, pH_e, pH_b, pH_L, h1, nI_sub t1]
  rcases Nat.lt_or_ge b L with hb | hb
  · have hb1 := t3 hb
    have hf := h3 b hb
    simp only [nI_lt hb (show L < 2 ^ 31 by omega), if_true, s30_0, s30_1, s30_4, s30_5, s30_8, s30_9, s30_10, s30_11, s30_14, s30_15, s30_18, s30_21, s30_22, s30_25, s30_26, s30_29, s30_30, s30_33, s30_36, s30_37, s30_38, s30_41, s30_42, s30_43, s30_44, s30_46, s30_47, s30_50, s30_54, s30_55, s30_58, s30_61, s30_63, s30_65, s30_66, s30_67, s30_70, s30_72, s30_73, s30_74, s30_76, s30_77, s30_79, s30_82, s30_85, s30_87, s30_88, s30_91, s30_93, s30_94, s30_97, s30_98, s30_99, s30_100, s30_102, s30_105, s30_106, s30_109, s30_110, pH_e, pH_b, pH_L, tC42, nC42, show b < 200 by omega, pH_42, hf.1, x_T_isDigit (show f b < 1000 by omega), Option.bind_some, Option.toList_some, Option.toList_none, List.nil_append, List.cons_append]
    cases hd : isDg (f b) with
    | false =>
      rw [rdN_n (by rw [hd]; intro h; cases h.2.1)]
      simp only [Bool.false_eq_true, if_false, nI_0, if_true, s30_0, s30_1, s30_4, s30_5, s30_8, s30_9, s30_10, s30_11, s30_14, s30_15, s30_18, s30_21, s30_22, s30_25, s30_26, s30_29, s30_30, s30_33, s30_36, s30_37, s30_38, s30_41, s30_42, s30_43, s30_44, s30_46, s30_47, s30_50, s30_54, s30_55, s30_58, s30_61, s30_63, s30_65, s30_66, s30_67, s30_70, s30_72, s30_73, s30_74, s30_76, s30_77, s30_79, s30_82, s30_85, s30_87, s30_88, s30_91, s30_93, s30_94, s30_97, s30_98, s30_99, s30_100, s30_102, s30_105, s30_106, s30_109, s30_110, am_b00]
    | true =>
      have d0 := isDg_iff.mp hd
      simp only [if_true, show ¬ nI 1 = 0 by decide, if_false, s30_0, s30_1, s30_4, s30_5, s30_8, s30_9, s30_10, s30_11, s30_14, s30_15, s30_18, s30_21, s30_22, s30_25, s30_26, s30_29, s30_30, s30_33, s30_36, s30_37, s30_38, s30_41, s30_42, s30_43, s30_44, s30_46, s30_47, s30_50, s30_54, s30_55, s30_58, s30_61, s30_63, s30_65, s30_66, s30_67, s30_70, s30_72, s30_73, s30_74, s30_76, s30_77, s30_79, s30_82, s30_85, s30_87, s30_88, s30_91, s30_93, s30_94, s30_97, s30_98, s30_99, s30_100, s30_102, s30_105, s30_106, s30_109, s30_110]
      rcases Nat.lt_or_ge 2 (e - b) with h | h
      · rw [rdN_n (by omega)]
        simp only [nI_lt h (show e - b < 2 ^ 31 by omega), if_true, s30_0, s30_1, s30_4, s30_5, s30_8, s30_9, s30_10, s30_11, s30_14, s30_15, s30_18, s30_21, s30_22, s30_25, s30_26, s30_29, s30_30, s30_33, s30_36, s30_37, s30_38, s30_41, s30_42, s30_43, s30_44, s30_46, s30_47, s30_50, s30_54, s30_55, s30_58, s30_61, s30_63, s30_65, s30_66, s30_67, s30_70, s30_72, s30_73, s30_74, s30_76, s30_77, s30_79, s30_82, s30_85, s30_87, s30_88, s30_91, s30_93, s30_94, s30_97, s30_98, s30_99, s30_100, s30_102, s30_105, s30_106, s30_109, s30_110, am_b0]
      · have hV := rdV_lt ht hb hd (by omega)
        simp only [show ¬ nI 2 < nI (e - b) by rw [nI_ltI (by decide) (by omega)]; omega, if_false, s30_0, s30_1, s30_4, s30_5, s30_8, s30_9, s30_10, s30_11, s30_14, s30_15, s30_18, s30_21, s30_22, s30_25, s30_26, s30_29, s30_30, s30_33, s30_36, s30_37, s30_38, s30_41, s30_42, s30_43, s30_44, s30_46, s30_47, s30_50, s30_54, s30_55, s30_58, s30_61, s30_63, s30_65, s30_66, s30_67, s30_70, s30_72, s30_73, s30_74, s30_76, s30_77, s30_79, s30_82, s30_85, s30_87, s30_88, s30_91, s30_93, s30_94, s30_97, s30_98, s30_99, s30_100, s30_102, s30_105, s30_106, s30_109, s30_110, pH_b]
        have L1 : ev (d + 2) 30 52 [.ref 41, .int (nI lo), .int (nI hi), .int (nI (e - b)), .int (nI 0), .int (nI b)] [] (mk shC (pH m n F G b e v c) q) = ev (d + 2) 30 85 [.ref 41, .int (nI lo), .int (nI hi), .int (nI (e - b)), .int (nI (rdV f b e)), .int (nI e)] [] (mk shC (pH m n F G b e v c) q) := by
          rw [s30_52]
          simp only [s30_54, s30_55, s30_58, s30_61, s30_63, s30_65, s30_66, s30_67, s30_70, s30_72, s30_73, s30_74, s30_76, s30_77, s30_79, s30_82, pH_e, nI_lt hb1 (show e < 2 ^ 31 by omega), if_true, pk_mul, tC42, nC42, show b < 200 by omega, pH_42, hf.1, nI_add, nI_sub (show 48 ≤ 0 * 10 + f b by omega)]
          rw [s30_52]
          rcases Nat.lt_or_ge (b + 1) e with he | he
          · have hf2 := h3 (b + 1) (by omega)
            have d1 := isDg_iff.mp (t4 hd (b + 1) (by omega) he)
            obtain rfl : e = b + 1 + 1 := by omega
            simp only [s30_54, s30_55, s30_58, s30_61, s30_63, s30_65, s30_66, s30_67, s30_70, s30_72, s30_73, s30_74, s30_76, s30_77, s30_79, s30_82, pH_e, nI_lt he (show b + 1 + 1 < 2 ^ 31 by omega), if_true, pk_mul, tC42, nC42, show b + 1 < 200 by omega, pH_42, hf2.1, nI_add, nI_sub (show 48 ≤ (0 * 10 + f b - 48) * 10 + f (b + 1) by omega)]
            rw [s30_52]
            simp only [s30_54, s30_55, s30_58, s30_61, s30_63, s30_65, s30_66, s30_67, s30_70, s30_72, s30_73, s30_74, s30_76, s30_77, s30_79, s30_82, pH_e, nI_irr, if_false]
            unfold rdV
            rw [if_neg (by omega), show (0 * 10 + f b - 48) * 10 + f (b + 1) - 48 = (f b - 48) * 10 + (f (b + 1) - 48) by omega]
          · obtain rfl : e = b + 1 := by omega
            simp only [s30_54, s30_55, s30_58, s30_61, s30_63, s30_65, s30_66, s30_67, s30_70, s30_72, s30_73, s30_74, s30_76, s30_77, s30_79, s30_82, pH_e, nI_irr, if_false]
            unfold rdV
            rw [if_pos rfl, show 0 * 10 + f b - 48 = f b - 48 by omega]
        rw [L1]
        simp only [s30_0, s30_1, s30_4, s30_5, s30_8, s30_9, s30_10, s30_11, s30_14, s30_15, s30_18, s30_21, s30_22, s30_25, s30_26, s30_29, s30_30, s30_33, s30_36, s30_37, s30_38, s30_41, s30_42, s30_43, s30_44, s30_46, s30_47, s30_50, s30_54, s30_55, s30_58, s30_61, s30_63, s30_65, s30_66, s30_67, s30_70, s30_72, s30_73, s30_74, s30_76, s30_77, s30_79, s30_82, s30_85, s30_87, s30_88, s30_91, s30_93, s30_94, s30_97, s30_98, s30_99, s30_100, s30_102, s30_105, s30_106, s30_109, s30_110, nI_ltI (show rdV f b e < 2 ^ 31 by omega) (show lo < 2 ^ 31 by omega), nI_ltI (show hi < 2 ^ 31 by omega) (show rdV f b e < 2 ^ 31 by omega), am_b0, am_b1, pH_muv, x_T_nextToken hL t2, Option.bind_some, Option.toList_some, Option.toList_none, List.nil_append, List.cons_append]
        by_cases hl : rdV f b e < lo
        · rw [if_pos hl, rdN_n (by omega)]
        · rw [if_neg hl]
          by_cases hh : hi < rdV f b e
          · rw [if_pos hh, rdN_n (by omega)]
          · rw [if_neg hh, rdN_t ⟨hb, hd, by omega, by omega, by omega⟩]
  · rw [rdN_n (by omega)]
    simp only [show ¬ nI b < nI L by rw [nI_ltI (by omega) (by omega)]; omega, if_false, am_b0, s30_0, s30_1, s30_4, s30_5, s30_8, s30_9, s30_10, s30_11, s30_14, s30_15, s30_18, s30_21, s30_22, s30_25, s30_26, s30_29, s30_30, s30_33, s30_36, s30_37, s30_38, s30_41, s30_42, s30_43, s30_44, s30_46, s30_47, s30_50, s30_54, s30_55, s30_58, s30_61, s30_63, s30_65, s30_66, s30_67, s30_70, s30_72, s30_73, s30_74, s30_76, s30_77, s30_79, s30_82, s30_85, s30_87, s30_88, s30_91, s30_93, s30_94, s30_97, s30_98, s30_99, s30_100, s30_102, s30_105, s30_106, s30_109, s30_110]
/-! words -/
def wds : List (List Nat) := [[115, 105, 103, 110, 115], [112, 111, 105, 110, 116], [102, 108, 105, 112], [115, 119, 97, 112], [100, 114, 97, 119]]
def wrd (f : Nat → Nat) (k b e : Nat) : Bool := decide (e - b = (wds.getD k []).length) && (rg 0 (e - b)).all fun i => f (b + i) == (wds.getD k []).getD i 0
theorem wds_l : ∀ k, k < 5 → (sByt.getD k []).length = (wds.getD k []).length ∧ (wds.getD k []).length < 6 := by decide +kernel
theorem wds_g : ∀ k, k < 5 → ∀ i, i < 6 → (sByt.getD k []).getD i 0 = nI ((wds.getD k []).getD i 0) ∧ (wds.getD k []).getD i 0 < 200 := by decide +kernel
theorem x_T_isWord {k : Nat} (hL : Ltr m f L) (ht : isTk f L b e) (hk : k < 5) : ev (d + 5) 28 0 [.ref 41, .ref (am_str + k), .null] [] (mk shC (pH m n F G b e v c) q) = some (some (.int (bI (wrd f k b e))), mk shC (pH m n F G b e v c) q) := by
  obtain ⟨h1, h2, h3⟩ := id hL
  obtain ⟨t1, t2, t3, t4⟩ := id ht
  obtain ⟨w1, w2⟩ := wds_l k hk
  have e0 : am_str + k - am_str = k := by omega
  simp only [s28_0, s28_1, s28_4, s28_5, s28_8, s28_9, s28_10, s28_13, s28_16, s28_17, s28_18, s28_19, s28_22, s28_24, s28_25, s28_28, s28_31, s28_32, s28_35, s28_36, s28_37, s28_38, s28_39, s28_40, s28_43, s28_44, s28_47, s28_50, s28_51, s28_52, s28_55, s28_58, s28_59, pH_e, pH_b, nI_sub t1, show am_str ≤ am_str + k by omega, show am_str + k < am_str + 5 by omega, e0, w1, nI_eq (show e - b < 2 ^ 31 by omega) (show (wds.getD k []).length < 2 ^ 31 by omega), am_b0]
  unfold wrd
  by_cases hw : e - b = (wds.getD k []).length
  · rw [if_pos hw, decide_eq_true hw, Bool.true_and]
    have A := ev_all1 (fun i (_ : Unit) => ev (d + 5) 28 23 [.ref 41, .ref (am_str + k), .int (nI (b + i))] [] (mk shC (pH m n F G b e v c) q)) (some (some (.int (nI 1)), mk shC (pH m n F G b e v c) q)) (some (some (.int (nI 0)), mk shC (pH m n F G b e v c) q)) (fun i => f (b + i) == (wds.getD k []).getD i 0) (e - b)
      (fun _ => by rw [s28_23, show b + (e - b) = e by omega]; simp only [s28_0, s28_1, s28_4, s28_5, s28_8, s28_9, s28_10, s28_13, s28_16, s28_17, s28_18, s28_19, s28_22, s28_24, s28_25, s28_28, s28_31, s28_32, s28_35, s28_36, s28_37, s28_38, s28_39, s28_40, s28_43, s28_44, s28_47, s28_50, s28_51, s28_52, s28_55, s28_58, s28_59, pH_e, nI_irr, if_false, am_b1])
      (fun i _ hi hc => ⟨(), by
        have g := wds_g k hk i (by omega)
        have hf := h3 (b + i) (by omega)
        have hc : f (b + i) = (wds.getD k []).getD i 0 := by simpa using hc
        rw [s28_23]
        simp only [s28_0, s28_1, s28_4, s28_5, s28_8, s28_9, s28_10, s28_13, s28_16, s28_17, s28_18, s28_19, s28_22, s28_24, s28_25, s28_28, s28_31, s28_32, s28_35, s28_36, s28_37, s28_38, s28_39, s28_40, s28_43, s28_44, s28_47, s28_50, s28_51, s28_52, s28_55, s28_58, s28_59, pH_e, nI_lt (show b + i < e by omega) (show e < 2 ^ 31 by omega), if_true, tC42, nC42, show b + i < 200 by omega, pH_42, hf.1, pH_b, nI_sub (show b ≤ b + i by omega), show am_str ≤ am_str + k by omega, show am_str + k < am_str + 5 by omega, e0, w1, show b + i - b = i by omega, show i < (wds.getD k []).length by omega, show i < 1000 by omega, show (wds.getD k []).length < 1000 by omega, g.1, hc, nI_add, Nat.add_assoc]⟩)
      (fun i _ hi hc => by
        have g := wds_g k hk i (by omega)
        have hf := h3 (b + i) (by omega)
        have hc : ¬ f (b + i) = (wds.getD k []).getD i 0 := by simpa using hc
        rw [s28_23]
        simp only [s28_0, s28_1, s28_4, s28_5, s28_8, s28_9, s28_10, s28_13, s28_16, s28_17, s28_18, s28_19, s28_22, s28_24, s28_25, s28_28, s28_31, s28_32, s28_35, s28_36, s28_37, s28_38, s28_39, s28_40, s28_43, s28_44, s28_47, s28_50, s28_51, s28_52, s28_55, s28_58, s28_59, pH_e, nI_lt (show b + i < e by omega) (show e < 2 ^ 31 by omega), if_true, tC42, nC42, show b + i < 200 by omega, pH_42, hf.1, pH_b, nI_sub (show b ≤ b + i by omega), show am_str ≤ am_str + k by omega, show am_str + k < am_str + 5 by omega, e0, w1, show b + i - b = i by omega, show i < (wds.getD k []).length by omega, show i < 1000 by omega, show (wds.getD k []).length < 1000 by omega, g.1, nI_eq (show f (b + i) < 2 ^ 31 by omega) (show (wds.getD k []).getD i 0 < 2 ^ 31 by omega), hc, if_false, am_b0]) 0 (Nat.zero_le _) ()
    refine A.trans ?_
    unfold bI
    split <;> rfl
  · rw [if_neg hw, decide_eq_false hw, Bool.false_and]
    rfl
end
