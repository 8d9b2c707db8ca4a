/-! the text: clauses -/
theorem bI_z (x : Bool) : (bI x = 0) = (x = false) := by cases x <;> simp [bI] <;> decide
theorem nI00 : (nI 0 = 0) = True := eq_true rfl
theorem nI10 : (nI 1 = 0) = False := eq_false (by decide)
def sgT (x : Nat) : Int32 := if x = 117 then nI 1 else if x = 100 then -1 else nI 0
def sgW (f : Nat → Nat) (s b e : Nat) : Bool := decide (e - b = s) && (rg 0 (e - b)).all fun i => f (b + i) == 117 || f (b + i) == 111 || f (b + i) == 100
/-- the draft's signs told by letters -/
def sgF (f : Nat → Nat) (n b e : Nat) (F : Nat → Int32) : (Nat → Int32) × Nat := (trip n).foldl (fun x t => if x.2 < e then (sg6 x.1 t.1 t.2.1 t.2.2 (sgT (f x.2)), x.2 + 1) else x) (F, b)
section
variable {d n b e c L lo hi : Nat} {v : Int32} {F G : Nat → Int32} {f : Nat → Nat} {m : Mem} {q : MemJ}
theorem x_T_signTold {x : Nat} {h : AH} (hx : x < 1000) : ev d 33 0 [.int (nI x)] [] h = some (some (.int (sgT x)), h) := by
  simp only [s33_0, s33_1, s33_3, s33_6, s33_7, s33_8, s33_9, s33_11, s33_14, s33_15, s33_18, s33_19, nI_eq (show x < 2 ^ 31 by omega) (show 117 < 2 ^ 31 by decide), nI_eq (show x < 2 ^ 31 by omega) (show 100 < 2 ^ 31 by decide)]
  unfold sgT
  by_cases h1 : x = 117
  · rw [if_pos h1, if_pos h1]
  · rw [if_neg h1, if_neg h1]
    by_cases h2 : x = 100
    · rw [if_pos h2, if_pos h2]
    · rw [if_neg h2, if_neg h2]
theorem x_T_isSignWord {s : Nat} (hL : Ltr m f L) (ht : isTk f L b e) (hs : s < 1000) : ev d 32 0 [.ref 41, .int (nI s), .null] [] (mk shC (pH m n F G b e v c) q) = some (some (.int (bI (sgW f s b e))), mk shC (pH m n F G b e v c) q) := by
  obtain ⟨h1, h2, h3⟩ := id hL
  obtain ⟨t1, t2, t3, t4⟩ := id ht
  simp only [s32_0, s32_1, s32_4, s32_5, s32_8, s32_9, s32_10, s32_13, s32_14, s32_15, s32_16, s32_19, s32_21, s32_22, s32_25, s32_28, s32_29, s32_32, s32_33, s32_34, s32_36, s32_39, s32_40, s32_43, s32_44, s32_45, s32_47, s32_50, s32_51, s32_54, s32_55, s32_56, s32_58, s32_61, s32_62, s32_63, s32_66, s32_69, s32_70, pH_e, pH_b, nI_sub t1, nI_eq (show e - b < 2 ^ 31 by omega) (show s < 2 ^ 31 by omega), am_b0]
  unfold sgW
  by_cases hw : e - b = s
  · rw [if_pos hw, decide_eq_true hw, Bool.true_and]
    have A := ev_all1 (fun i (_ : Unit) => ev d 32 20 [.ref 41, .int (nI s), .int (nI (b + i))] [] (mk shC (pH m n F G b e v c) q)) (some (some (.int (nI 1)), mk shC (pH m n F G b e v c) q)) (some (some (.int (nI 0)), mk shC (pH m n F G b e v c) q)) (fun i => f (b + i) == 117 || f (b + i) == 111 || f (b + i) == 100) (e - b)
      (fun _ => by rw [s32_20, show b + (e - b) = e by omega]; simp only [s32_0, s32_1, s32_4, s32_5, s32_8, s32_9, s32_10, s32_13, s32_14, s32_15, s32_16, s32_19, s32_21, s32_22, s32_25, s32_28, s32_29, s32_32, s32_33, s32_34, s32_36, s32_39, s32_40, s32_43, s32_44, s32_45, s32_47, s32_50, s32_51, s32_54, s32_55, s32_56, s32_58, s32_61, s32_62, s32_63, s32_66, s32_69, s32_70, pH_e, nI_irr, if_false, am_b1])
      (fun i _ hi hc => ⟨(), by
        have hf := h3 (b + i) (by omega)
        have hc : f (b + i) = 117 ∨ f (b + i) = 111 ∨ f (b + i) = 100 := by simpa [or_assoc] using hc
        rw [s32_20]
        simp only [s32_0, s32_1, s32_4, s32_5, s32_8, s32_9, s32_10, s32_13, s32_14, s32_15, s32_16, s32_19, s32_21, s32_22, s32_25, s32_28, s32_29, s32_32, s32_33, s32_34, s32_36, s32_39, s32_40, s32_43, s32_44, s32_45, s32_47, s32_50, s32_51, s32_54, s32_55, s32_56, s32_58, s32_61, s32_62, s32_63, s32_66, s32_69, s32_70, pH_e, nI_lt (show b + i < e by omega) (show e < 2 ^ 31 by omega), if_true, tC42, nC42, show b + i < 200 by omega, pH_42, hf.1, nI_eq (show f (b + i) < 2 ^ 31 by omega) (show 117 < 2 ^ 31 by decide), nI_eq (show f (b + i) < 2 ^ 31 by omega) (show 111 < 2 ^ 31 by decide), nI_eq (show f (b + i) < 2 ^ 31 by omega) (show 100 < 2 ^ 31 by decide), nI_add, Nat.add_assoc]
        rcases hc with h | h | h <;> simp [h]⟩)
      (fun i _ hi hc => by
        have hf := h3 (b + i) (by omega)
        have hc : ¬ f (b + i) = 117 ∧ ¬ f (b + i) = 111 ∧ ¬ f (b + i) = 100 := by simpa [and_assoc] using hc
        rw [s32_20]
        simp only [s32_0, s32_1, s32_4, s32_5, s32_8, s32_9, s32_10, s32_13, s32_14, s32_15, s32_16, s32_19, s32_21, s32_22, s32_25, s32_28, s32_29, s32_32, s32_33, s32_34, s32_36, s32_39, s32_40, s32_43, s32_44, s32_45, s32_47, s32_50, s32_51, s32_54, s32_55, s32_56, s32_58, s32_61, s32_62, s32_63, s32_66, s32_69, s32_70, pH_e, nI_lt (show b + i < e by omega) (show e < 2 ^ 31 by omega), if_true, tC42, nC42, show b + i < 200 by omega, pH_42, hf.1, nI_eq (show f (b + i) < 2 ^ 31 by omega) (show 117 < 2 ^ 31 by decide), nI_eq (show f (b + i) < 2 ^ 31 by omega) (show 111 < 2 ^ 31 by decide), nI_eq (show f (b + i) < 2 ^ 31 by omega) (show 100 < 2 ^ 31 by decide), hc.1, hc.2.1, hc.2.2, if_false, am_b0]) 0 (Nat.zero_le _) ()
    refine A.trans ?_
    unfold bI
    split <;> rfl
  · rw [if_neg hw, decide_eq_false hw, Bool.false_and]
    rfl
/-- a minus before a number -/
def mnS (f : Nat → Nat) (L b : Nat) : Bool := decide (b < L) && f b == 45
def mnT (f : Nat → Nat) (L b e : Nat) : Nat × Nat := if mnS f L b = true then tok f L e else (b, e)
def rdC (f : Nat → Nat) (L b e : Nat) : Option Int32 := (rdN f L (mnT f L b e).1 (mnT f L b e).2 0 99).map fun t => if mnS f L b = true then -(nI t) else nI t
def rdE (f : Nat → Nat) (L b e : Nat) : Nat × Nat := tok f L (mnT f L b e).2
theorem mnT_isTk (ht : isTk f L b e) : isTk f L (mnT f L b e).1 (mnT f L b e).2 := by
  unfold mnT
  split
  · exact tok_isTk ht.2.1
  · exact ht
theorem rdE_isTk (ht : isTk f L b e) : isTk f L (rdE f L b e).1 (rdE f L b e).2 := tok_isTk (mnT_isTk ht).2.1
theorem x_T_readCoordinate (hL : Ltr m f L) (ht : isTk f L b e) : ev (d + 3) 36 0 [.ref 41, .null] [] (mk shC (pH m n F G b e v c) q) = match rdC f L b e with
    | some w => some (some (.int (nI 1)), mk shC (pH m n F G (rdE f L b e).1 (rdE f L b e).2 w c) q)
    | none => some (some (.int (nI 0)), mk shC (pH m n F G (mnT f L b e).1 (mnT f L b e).2 v c) q) := by
  obtain ⟨h1, h2, h3⟩ := id hL
  obtain ⟨t1, t2, t3, t4⟩ := id ht
  have A : ev (d + 3) 36 0 [.ref 41, .null] [] (mk shC (pH m n F G b e v c) q) = ev (d + 3) 36 39 [.ref 41, .int (bI (mnS f L b))] [] (mk shC (pH m n F G (mnT f L b e).1 (mnT f L b e).2 v c) q) := by
    simp only [s36_0, s36_1, s36_4, s36_5, s36_8, s36_11, s36_12, s36_15, s36_16, s36_19, s36_20, s36_22, s36_25, s36_26, s36_29, s36_30, s36_31, s36_32, s36_35, s36_36, pH_b, pH_L, h1, x_T_nextToken hL t2, Option.bind_some, Option.toList_some, Option.toList_none, List.nil_append, List.cons_append]
    unfold mnT mnS
    rcases Nat.lt_or_ge b L with hb | hb
    · have hf := h3 b hb
      simp only [nI_lt hb (show L < 2 ^ 31 by omega), if_true, s36_0, s36_1, s36_4, s36_5, s36_8, s36_11, s36_12, s36_15, s36_16, s36_19, s36_20, s36_22, s36_25, s36_26, s36_29, s36_30, s36_31, s36_32, s36_35, s36_36, pH_b, pH_L, tC42, nC42, show b < 200 by omega, pH_42, hf.1, nI_eq (show f b < 2 ^ 31 by omega) (show 45 < 2 ^ 31 by decide), x_T_nextToken hL t2, Option.bind_some, Option.toList_some, Option.toList_none, List.nil_append, List.cons_append]
      by_cases hm : f b = 45
      · simp only [hm, hb, if_true, decide_true, beq_self_eq_true, Bool.and_self, bI_t, show ¬ nI 1 = 0 by decide, if_false]
      · rw [if_neg hm, if_pos (show nI 0 = 0 from rfl), show (f b == 45) = false by simpa using hm, Bool.and_false]
        rfl
    · simp only [show ¬ nI b < nI L by rw [nI_ltI (by omega) (by omega)]; omega, if_false, decide_eq_false (show ¬ b < L by omega), Bool.false_and, Bool.false_eq_true, bI_f, s36_0, s36_1, s36_4, s36_5, s36_8, s36_11, s36_12, s36_15, s36_16, s36_19, s36_20, s36_22, s36_25, s36_26, s36_29, s36_30, s36_31, s36_32, s36_35, s36_36, show nI 0 = 0 from rfl, if_true]
  rw [A]
  have ht2 := mnT_isTk ht
  unfold rdC rdE
  generalize mnT f L b e = z at ht2 ⊢
  simp only [s36_0, s36_1, s36_4, s36_5, s36_8, s36_11, s36_12, s36_15, s36_16, s36_19, s36_20, s36_22, s36_25, s36_26, s36_29, s36_30, s36_31, s36_32, s36_35, s36_36, s36_39, s36_40, s36_41, s36_43, s36_46, s36_49, s36_50, s36_51, s36_52, s36_53, s36_56, s36_57, s36_60, s36_61, s36_64, s36_65, s36_68, s36_71, s36_72, x_T_readNumber hL ht2 (show 0 < 1000 by decide) (show 99 < 1000 by decide)]
  cases rdN f L z.1 z.2 0 99 with
  | none => simp only [s36_0, s36_1, s36_4, s36_5, s36_8, s36_11, s36_12, s36_15, s36_16, s36_19, s36_20, s36_22, s36_25, s36_26, s36_29, s36_30, s36_31, s36_32, s36_35, s36_36, s36_39, s36_40, s36_41, s36_43, s36_46, s36_49, s36_50, s36_51, s36_52, s36_53, s36_56, s36_57, s36_60, s36_61, s36_64, s36_65, s36_68, s36_71, s36_72, Option.bind_some, Option.toList_some, Option.toList_none, List.nil_append, List.cons_append, Option.map_none, am_b0, nI00, if_true]
  | some t =>
    simp only [s36_0, s36_1, s36_4, s36_5, s36_8, s36_11, s36_12, s36_15, s36_16, s36_19, s36_20, s36_22, s36_25, s36_26, s36_29, s36_30, s36_31, s36_32, s36_35, s36_36, s36_39, s36_40, s36_41, s36_43, s36_46, s36_49, s36_50, s36_51, s36_52, s36_53, s36_56, s36_57, s36_60, s36_61, s36_64, s36_65, s36_68, s36_71, s36_72, Option.bind_some, Option.toList_some, Option.toList_none, List.nil_append, List.cons_append, Option.map_some, show ¬ nI 1 = 0 by decide, not_false_eq_true, if_true, pH_v, pH_muv, am_b1, bI_z]
    cases mnS f L b <;> simp
end
