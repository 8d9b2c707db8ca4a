/-! the model: kinds marked, told; vector -/
def isM (n : Nat) (R : Nat → Int32) : Prop := isSn n R ∧ (mlU (3 ^ n) (cirP n R fP)).length ≤ 30
theorem dsc_len {n : Nat} : (dsc n).length = n := by
  induction n with
  | zero => rfl
  | succ n ih => simp [dsc, ih]
theorem nI_m {i : Nat} (h : 1 ≤ i) : nI i - nI 1 = nI (i - 1) := nI_sub h
section
variable {d a b c e f g i n k t u x y : Nat} {m : Mem} {q : MemJ} {h : AH} {v3 v4 v5 v6 v7 : Value} {P : Nat → Bool}
theorem x_M_marksKind (hn : m 1 0 = nI n) (h1 : 1 ≤ n) (hn6 : n ≤ 6) (hI : isM n (m 1)) (hk : k < 4) : ∃ m', ev (d + 7) 232 0 [.ref 0, .int (nI k), .null] [] (mk shM m q) = some (none, mk shM m' q) ∧ MK m' (kiP n (m 1) k) ∧ fr [0, 10, 11, 12] m m' ∧ m' 0 = upd (m 0) 18 (nI (3 ^ n)) := by
  have hp := p3_le n hn6
  obtain ⟨hS, hC⟩ := hI
  generalize hm1 : mu m 0 (upd (m 0) 18 (nI (3 ^ n))) = m1
  have k1 : ∀ c, c ≠ 0 → m1 c = m c := fun c hc => by rw [← hm1, mu_ne hc]
  obtain ⟨⟨K, u⟩, hK, e2⟩ := ev_up (fun i (w : (Nat → Int32) × Unit) => ∀ c, c < i → w.1 c = bI false) (fun i w => ev (d + 7) 232 13 [.ref 0, .int (nI k), .int (nI i)] [] (mk shM (mu m1 10 w.1) q)) 729 (m1 10, ()) (fun c hc => by omega)
    (fun i w hi hw => ⟨(upd w.1 i (nI 0), ()), fun c hc => by
      simp only [upd]
      by_cases hci : c = i
      · rw [if_pos hci]; rfl
      · rw [if_neg hci]; exact hw c (by omega), by
      rw [s232_13]
      simp only [s232_14, s232_17, s232_20, s232_21, s232_24, s232_25, s232_26, s232_27, s232_30, s232_33, nI_lt hi (show 729 < 2 ^ 31 by decide), if_true, tM10, nM10, hi, nar0, mu_mu, mu_same, nI_add]⟩) 729 (Nat.le_refl _)
  rw [mu_self] at e2
  generalize hm2 : mu m1 10 K = m2 at e2
  have M2 : MK m2 fP := fun i hi => by rw [← hm2, mu_same]; exact hK i hi
  have k2 : ∀ c, c ≠ 0 → c ≠ 10 → m2 c = m c := fun c h0 h10 => by rw [← hm2, mu_ne h10, k1 c h0]
  have n2 : m2 1 0 = nI n := by rw [k2 1 (by decide) (by decide)]; exact hn
  have r2 : m2 1 = m 1 := k2 1 (by decide) (by decide)
  have a0 : m2 0 = upd (m 0) 18 (nI (3 ^ n)) := by rw [← hm2, mu_ne (by decide), ← hm1, mu_same]
  have a2 : m2 0 18 = nI (3 ^ n) := by rw [a0]; simp [upd]
  have hd : ev (d + 7) 232 0 [.ref 0, .int (nI k), .null] [] (mk shM m q) = ev (d + 7) 232 34 [.ref 0, .int (nI k), .int (nI 729)] [.int (nI k)] (mk shM m2 q) := by
    simp only [s232_0, s232_1, s232_2, s232_5, s232_8, s232_11, s232_12, x_M_n, hn, Option.bind_some, Option.toList_some, Option.toList_none, List.nil_append, List.cons_append, x_M_power hn6, hm1]
    refine e2.trans ?_
    rw [s232_13]
    simp only [s232_14, s232_17, s232_20, s232_21, s232_24, s232_25, s232_26, s232_27, s232_30, s232_33, nI_irr, if_false]
  have fin : ∀ {m' : Mem} {cs : List Nat}, (∀ c ∈ cs, c = 10 ∨ c = 11 ∨ c = 12) → fr cs m2 m' → fr [0, 10, 11, 12] m m' ∧ m' 0 = upd (m 0) 18 (nI (3 ^ n)) := fun {m' cs} hcs g => ⟨fun c hc => by
    have h0 : c ≠ 0 := fun e => hc (by simp [e])
    have h10 : c ≠ 10 := fun e => hc (by simp [e])
    rw [g c (fun h => hc (by have := hcs c h; simp; omega)), k2 c h0 h10], by rw [g 0 (fun h => by have := hcs 0 h; omega), a0]⟩
  unfold kiP
  match k, hk with
  | 0, _ =>
    obtain ⟨m3, e3, w3, g3⟩ := x_M_marksCocircuits (d := d + 2) (q := q) n2 h1 hn6 (by rw [r2]; exact hS) M2
    rw [r2] at w3
    refine ⟨m3, ?_, w3, fin (by simp) g3⟩
    rw [hd]
    simp only [s232_0, s232_1, s232_2, s232_5, s232_8, s232_11, s232_12, s232_14, s232_17, s232_20, s232_21, s232_24, s232_25, s232_26, s232_27, s232_30, s232_33, s232_34_0, s232_34_1, s232_34_2, s232_60, s232_61, s232_64, s232_67, s232_68, s232_71, s232_74, s232_75, s232_78, s232_81, s232_82, s232_85, e3, Option.bind_some, Option.toList_some, Option.toList_none, List.nil_append, List.cons_append]
  | 1, _ =>
    obtain ⟨m3, e3, w3, g3⟩ := x_M_marksCircuits (d := d + 2) (q := q) n2 h1 hn6 (by rw [r2]; exact hS) M2
    rw [r2] at w3
    refine ⟨m3, ?_, w3, fin (by simp) g3⟩
    rw [hd]
    simp only [s232_0, s232_1, s232_2, s232_5, s232_8, s232_11, s232_12, s232_14, s232_17, s232_20, s232_21, s232_24, s232_25, s232_26, s232_27, s232_30, s232_33, s232_34_0, s232_34_1, s232_34_2, s232_60, s232_61, s232_64, s232_67, s232_68, s232_71, s232_74, s232_75, s232_78, s232_81, s232_82, s232_85, e3, Option.bind_some, Option.toList_some, Option.toList_none, List.nil_append, List.cons_append]
  | 2, _ =>
    obtain ⟨m3, e3, w3, g3⟩ := x_M_marksCovectors (d := d + 1) (q := q) n2 h1 hn6 (by rw [r2]; exact hS) M2 a2 (by rw [r2]; exact hC)
    rw [r2] at w3
    refine ⟨m3, ?_, w3, fin (by simp) g3⟩
    rw [hd]
    simp only [s232_0, s232_1, s232_2, s232_5, s232_8, s232_11, s232_12, s232_14, s232_17, s232_20, s232_21, s232_24, s232_25, s232_26, s232_27, s232_30, s232_33, s232_34_0, s232_34_1, s232_34_2, s232_60, s232_61, s232_64, s232_67, s232_68, s232_71, s232_74, s232_75, s232_78, s232_81, s232_82, s232_85, e3, Option.bind_some, Option.toList_some, Option.toList_none, List.nil_append, List.cons_append]
  | 3, _ =>
    obtain ⟨m3, e3, w3, g3⟩ := x_M_marksTopes (d := d) (q := q) n2 h1 hn6 (by rw [r2]; exact hS) M2 a2 (by rw [r2]; exact hC)
    rw [r2] at w3
    refine ⟨m3, ?_, w3, fin (by simp) g3⟩
    rw [hd]
    simp only [s232_34 (y0 := nI 3) (show (nI 3).toInt < 0 ∨ 2 < (nI 3).toInt by decide), s232_81, s232_82, s232_85, e3, Option.bind_some, Option.toList_some, Option.toList_none, List.nil_append, List.cons_append]
theorem x_M_marked (hn6 : n ≤ 6) (hall : m 0 18 = nI (3 ^ n)) (hP : MK m P) : ev d 243 0 [.ref 0, .null, .null] [] (mk shM m q) = some (some (.int (nI (mlU (3 ^ n) P).length)), mk shM m q) := by
  have hp := p3_le n hn6
  obtain ⟨w, hw, e2⟩ := ev_up (fun i (w : Nat) => w = (mlU i P).length) (fun i w => ev d 243 4 [.ref 0, .int (nI w), .int (nI i)] [] (mk shM m q)) (3 ^ n) 0 (by rw [mlU, rg_end]; rfl)
    (fun i w hi hw => by
      have hsn : (mlU (i + 1) P).length = w + if P i = true then 1 else 0 := by
        unfold mlU at hw ⊢
        rw [rg_snoc, List.filter_append, List.length_append, ← hw]
        congr 1
        cases hp : P i <;> simp [List.filter_cons, hp]
      refine ⟨(mlU (i + 1) P).length, rfl, ?_⟩
      rw [hsn, s243_4]
      simp only [s243_0, s243_1, s243_2, s243_3, s243_5, s243_6, s243_9, s243_12, s243_13, s243_14, s243_17, s243_18, s243_19, s243_22, s243_23, s243_26, s243_27, s243_28, s243_29, s243_32, s243_35, s243_36, hall, nI_lt hi (show 3 ^ n < 2 ^ 31 by omega), if_true, tM10, nM10, show i < 729 by omega, hP i (by omega), bI_z]
      cases P i <;> simp only [Bool.true_eq_false, Bool.false_eq_true, if_true, if_false, nI_add, s243_0, s243_1, s243_2, s243_3, s243_5, s243_6, s243_9, s243_12, s243_13, s243_14, s243_17, s243_18, s243_19, s243_22, s243_23, s243_26, s243_27, s243_28, s243_29, s243_32, s243_35, s243_36]) (3 ^ n) (Nat.le_refl _)
  simp only [s243_0, s243_1, s243_2, s243_3, s243_5, s243_6, s243_9, s243_12, s243_13, s243_14, s243_17, s243_18, s243_19, s243_22, s243_23, s243_26, s243_27, s243_28, s243_29, s243_32, s243_35, s243_36]
  refine e2.trans ?_
  rw [s243_4, hw]
  simp only [s243_0, s243_1, s243_2, s243_3, s243_5, s243_6, s243_9, s243_12, s243_13, s243_14, s243_17, s243_18, s243_19, s243_22, s243_23, s243_26, s243_27, s243_28, s243_29, s243_32, s243_35, s243_36, hall, nI_irr, if_false]
/-- the k-th of a row of codes; none -/
def atM (L : List Nat) (k : Nat) : Int32 := if k < L.length then nI (L.getD k 0) else -1
theorem mlD_c (N : Nat) (P : Nat → Bool) : mlD (N + 1) P = if P N = true then N :: mlD N P else mlD N P := by
  unfold mlD
  rw [dsc, List.filter_cons]
theorem x_M_markedAt (hn6 : n ≤ 6) (hall : m 0 18 = nI (3 ^ n)) (hP : MK m P) (hk : k < 2 ^ 31) : ev d 244 0 [.ref 0, .int (nI k), .null, .null] [] (mk shM m q) = some (some (.int (atM (mlD (3 ^ n) P) k)), mk shM m q) := by
  have hp := p3_le n hn6
  have L : ∀ i l, i ≤ 729 → l < 2 ^ 31 → ev d 244 9 [.ref 0, .int (nI k), .int (nI l), .int (nI i - nI 1)] [] (mk shM m q) = some (some (.int (atM (mlD i P) l)), mk shM m q) := by
    intro i
    induction i with
    | zero =>
      intro l _ _
      rw [s244_9]
      simp only [s244_0, s244_1, s244_2, s244_3, s244_6, s244_7, s244_8, s244_10, s244_13, s244_14, s244_17, s244_18, s244_19, s244_22, s244_23, s244_26, s244_27, s244_28, s244_31, s244_34, s244_37, s244_38, show nI 0 - nI 1 < 0 by decide, if_true]
      rfl
    | succ i ih =>
      intro l hi hl
      have i1 : nI (i + 1) - nI 1 = nI i := nI_m1 i
      have i2 : nI i + (-1) = nI i - nI 1 := by rw [Int32.sub_eq_add_neg]; rfl
      rw [i1, s244_9, mlD_c]
      simp only [s244_0, s244_1, s244_2, s244_3, s244_6, s244_7, s244_8, s244_10, s244_13, s244_14, s244_17, s244_18, s244_19, s244_22, s244_23, s244_26, s244_27, s244_28, s244_31, s244_34, s244_37, s244_38, nI_pos (show i < 2 ^ 31 by omega), if_false, tM10, nM10, show i < 729 by omega, hP i (by omega), bI_z]
      cases P i with
      | false =>
        simp only [if_true, Bool.false_eq_true, if_false, i2]
        exact ih l (by omega) hl
      | true =>
        simp only [Bool.true_eq_false, if_true, if_false, nI_z hl]
        by_cases h0 : l = 0
        · rw [if_pos h0, h0]
          simp [atM]
        · rw [if_neg h0]
          have l2 : nI l + (-1) = nI (l - 1) := by
            have := pk_m1 (l - 1)
            rwa [show l - 1 + 1 = l by omega] at this
          simp only [s244_0, s244_1, s244_2, s244_3, s244_6, s244_7, s244_8, s244_10, s244_13, s244_14, s244_17, s244_18, s244_19, s244_22, s244_23, s244_26, s244_27, s244_28, s244_31, s244_34, s244_37, s244_38, l2, i2, ih (l - 1) (by omega) (by omega)]
          unfold atM
          obtain ⟨l', rfl⟩ : ∃ l', l = l' + 1 := ⟨l - 1, by omega⟩
          simp only [Nat.add_sub_cancel, List.length_cons, Nat.add_lt_add_iff_right, List.getD_cons_succ]
  simp only [s244_0, s244_1, s244_2, s244_3, s244_6, s244_7, s244_8, s244_10, s244_13, s244_14, s244_17, s244_18, s244_19, s244_22, s244_23, s244_26, s244_27, s244_28, s244_31, s244_34, s244_37, s244_38, hall]
  exact L (3 ^ n) k (by omega) hk
theorem x_M_isBarred (hn : m 1 0 = nI n) (hn6 : n ≤ 6) (hk : k < 4) : ev (d + 8) 231 0 [.ref 0, .int (nI k)] [] (mk shM m q) = some (some (.int (bI (decide (1 < k) && !orM n (m 1)))), mk shM m q) := by
  have e1 := x_M_isOrderly (d := d) (m := m) (q := q) hn hn6
  have l1 : (nI 1 < nI k) = (1 < k) := propext (nI_ltI (show 1 < 2 ^ 31 by decide) (show k < 2 ^ 31 by omega))
  by_cases h1 : 1 < k
  · simp only [s231_0, s231_1, s231_2, s231_5, s231_6, s231_9, s231_12, s231_13, s231_16, s231_17, l1, eq_true h1, if_true, e1, Option.bind_some, Option.toList_some, Option.toList_none, List.nil_append, List.cons_append, bI_z, decide_true, Bool.true_and]
    cases orM n (m 1) <;> simp only [Bool.true_eq_false, if_true, if_false, Bool.not_false, Bool.not_true, bI_t, bI_f, s231_0, s231_1, s231_2, s231_5, s231_6, s231_9, s231_12, s231_13, s231_16, s231_17, am_b0, am_b1]
  · simp only [s231_0, s231_1, s231_2, s231_5, s231_6, s231_9, s231_12, s231_13, s231_16, s231_17, l1, eq_false h1, if_false, decide_false, Bool.false_and, bI_f, am_b0]
def vcM (n : Nat) (R : Nat → Int32) (x i e : Int32) : Int32 :=
  if elB 4 x = true then (if i < -1 then -1002 else if (decide (1 < eN x) && !orM n R) = true then -1003 else if i = -1 then nI (mlU (3 ^ n) (kiP n R (eN x))).length else if (elB (mlD (3 ^ n) (kiP n R (eN x))).length i && elB n e) = true then dg32 n ((mlD (3 ^ n) (kiP n R (eN x))).getD (eN i) 0) (eN e) else -1001) else -1002
theorem mlD_lt {N : Nat} {P : Nat → Bool} {k : Nat} (h : k < (mlD N P).length) : (mlD N P).getD k 0 < N := by
  rw [List.getD_eq_getElem?_getD, List.getElem?_eq_getElem h, Option.getD_some]
  exact dsc_mem.mp (List.mem_filter.mp (List.getElem_mem h)).1
theorem mlD_len {N : Nat} {P : Nat → Bool} : (mlD N P).length ≤ N := by
  have := List.length_filter_le P (dsc N)
  rw [dsc_len] at this
  exact this
theorem x_M_vector {z i w : Int32} (hn : m 1 0 = nI n) (h1 : 1 ≤ n) (hn6 : n ≤ 6) (hI : isM n (m 1)) : ∃ m', ev (d + 9) 230 0 [.ref 0, .int z, .int i, .int w, .null] [] (mk shM m q) = some (some (.int (vcM n (m 1) z i w)), mk shM m' q) ∧ fr [0, 10, 11, 12] m m' ∧ (m' 0 = m 0 ∨ m' 0 = upd (m 0) 18 (nI (3 ^ n))) := by
  have I := x_M_inE (d := d + 8) (x := z) (h := mk shM m q) (show 4 < 1000 by decide) (Z := 0) (K := 3) (by decide) (by decide)
  have hp := p3_le n hn6
  unfold vcM
  rcases elB_or 4 z (by decide) with ⟨hx, _⟩ | ⟨k, hk, rfl⟩
  · refine ⟨m, ?_, fr_rfl, Or.inl rfl⟩
    simp only [s230_0, s230_1, s230_2, s230_3, s230_6, s230_9, s230_12, s230_13, s230_14, s230_17, s230_20, s230_21, s230_22, s230_23, s230_26, s230_29, s230_32, s230_33, s230_34, s230_35, s230_38, s230_39, s230_40, s230_43, s230_44, s230_47, s230_48, s230_49, s230_50, s230_53, s230_55, s230_57, s230_58, s230_61, s230_62, s230_63, s230_66, s230_69, s230_72, s230_75, s230_77, s230_78, s230_81, s230_82, s230_85, I, Option.bind_some, Option.toList_some, Option.toList_none, List.nil_append, List.cons_append, bI_z, hx, if_true, Bool.false_eq_true, if_false]
  have e4 := elB_nI (show 4 < 1000 by decide) hk
  rw [e4, eN_nI (by omega), if_pos rfl]
  by_cases hi : i < -1
  · refine ⟨m, ?_, fr_rfl, Or.inl rfl⟩
    simp only [s230_0, s230_1, s230_2, s230_3, s230_6, s230_9, s230_12, s230_13, s230_14, s230_17, s230_20, s230_21, s230_22, s230_23, s230_26, s230_29, s230_32, s230_33, s230_34, s230_35, s230_38, s230_39, s230_40, s230_43, s230_44, s230_47, s230_48, s230_49, s230_50, s230_53, s230_55, s230_57, s230_58, s230_61, s230_62, s230_63, s230_66, s230_69, s230_72, s230_75, s230_77, s230_78, s230_81, s230_82, s230_85, I, Option.bind_some, Option.toList_some, Option.toList_none, List.nil_append, List.cons_append, bI_z, e4, hi, if_true, Bool.true_eq_false, if_false]
  rw [if_neg hi]
  have br := x_M_isBarred (d := d) (m := m) (q := q) hn hn6 hk
  cases hb : decide (1 < k) && !orM n (m 1) with
  | true =>
    refine ⟨m, ?_, fr_rfl, Or.inl rfl⟩
    simp only [s230_0, s230_1, s230_2, s230_3, s230_6, s230_9, s230_12, s230_13, s230_14, s230_17, s230_20, s230_21, s230_22, s230_23, s230_26, s230_29, s230_32, s230_33, s230_34, s230_35, s230_38, s230_39, s230_40, s230_43, s230_44, s230_47, s230_48, s230_49, s230_50, s230_53, s230_55, s230_57, s230_58, s230_61, s230_62, s230_63, s230_66, s230_69, s230_72, s230_75, s230_77, s230_78, s230_81, s230_82, s230_85, I, Option.bind_some, Option.toList_some, Option.toList_none, List.nil_append, List.cons_append, bI_z, e4, hi, if_true, Bool.true_eq_false, if_false, br, hb]
  | false =>
    rw [if_neg (by decide)]
    obtain ⟨m2, e2, w2, g2, a2⟩ := x_M_marksKind (d := d + 1) (q := q) hn h1 hn6 hI hk
    have a3 : m2 0 18 = nI (3 ^ n) := by rw [a2]; simp [upd]
    refine ⟨m2, ?_, g2, Or.inr a2⟩
    by_cases h1 : i = -1
    · subst h1
      have mk' := x_M_marked (d := d + 8) (q := q) hn6 a3 w2
      simp only [s230_0, s230_1, s230_2, s230_3, s230_6, s230_9, s230_12, s230_13, s230_14, s230_17, s230_20, s230_21, s230_22, s230_23, s230_26, s230_29, s230_32, s230_33, s230_34, s230_35, s230_38, s230_39, s230_40, s230_43, s230_44, s230_47, s230_48, s230_49, s230_50, s230_53, s230_55, s230_57, s230_58, s230_61, s230_62, s230_63, s230_66, s230_69, s230_72, s230_75, s230_77, s230_78, s230_81, s230_82, s230_85, I, Option.bind_some, Option.toList_some, Option.toList_none, List.nil_append, List.cons_append, bI_z, e4, hi, if_true, Bool.true_eq_false, Bool.false_eq_true, if_false, br, hb, e2, mk']
    · obtain ⟨j, hj, rfl⟩ : ∃ j, j < 2 ^ 31 ∧ i = nI j := by
        obtain ⟨j, hj, e⟩ := nI_of (x := i) (by
          rw [Int32.lt_iff_toInt_lt] at hi ⊢
          have : i.toInt ≠ -1 := fun h => h1 (Int32.toInt_inj.mp (by rw [h]; rfl))
          have h2 : (-1 : Int32).toInt = -1 := by decide
          have h3 : (0 : Int32).toInt = 0 := by decide
          omega)
        exact ⟨j, hj, e⟩
      have at' := x_M_markedAt (d := d + 8) (q := q) (k := j) hn6 a3 w2 hj
      have ll := mlD_len (N := 3 ^ n) (P := kiP n (m 1) k)
      have n2 : m2 1 0 = nI n := by rw [fr_at g2 1 (by decide)]; exact hn
      rcases elB_or (mlD (3 ^ n) (kiP n (m 1) k)).length (nI j) (by omega) with ⟨hh, hq⟩ | ⟨l, hl, hjl⟩
      · have hge : ¬ j < (mlD (3 ^ n) (kiP n (m 1) k)).length := fun hlt => by
          rw [elB_nI (by omega) hlt] at hh
          cases hh
        rw [show atM (mlD (3 ^ n) (kiP n (m 1) k)) j = -1 from if_neg hge] at at'
        simp only [s230_0, s230_1, s230_2, s230_3, s230_6, s230_9, s230_12, s230_13, s230_14, s230_17, s230_20, s230_21, s230_22, s230_23, s230_26, s230_29, s230_32, s230_33, s230_34, s230_35, s230_38, s230_39, s230_40, s230_43, s230_44, s230_47, s230_48, s230_49, s230_50, s230_53, s230_55, s230_57, s230_58, s230_61, s230_62, s230_63, s230_66, s230_69, s230_72, s230_75, s230_77, s230_78, s230_81, s230_82, s230_85, I, Option.bind_some, Option.toList_some, Option.toList_none, List.nil_append, List.cons_append, bI_z, e4, hi, if_true, Bool.true_eq_false, Bool.false_eq_true, if_false, br, hb, e2, h1, at', hh, Bool.false_and]
      · have hlt : j < (mlD (3 ^ n) (kiP n (m 1) k)).length := by
          have : j = l := (nI_eq hj (show l < 2 ^ 31 by omega)).mp hjl
          omega
        have hc := mlD_lt hlt
        rw [show atM (mlD (3 ^ n) (kiP n (m 1) k)) j = nI ((mlD (3 ^ n) (kiP n (m 1) k)).getD j 0) from if_pos hlt] at at'
        generalize hy : (mlD (3 ^ n) (kiP n (m 1) k)).getD j 0 = y at hc at'
        have y1 : ¬ nI y = -1 := fun h => by
          have := congrArg Int32.toInt h
          rw [nI_toInt (by omega), show (-1 : Int32).toInt = -1 from by decide] at this
          omega
        rcases elB_or n w (by omega) with ⟨he, _⟩ | ⟨e, he, rfl⟩
        · simp only [s230_0, s230_1, s230_2, s230_3, s230_6, s230_9, s230_12, s230_13, s230_14, s230_17, s230_20, s230_21, s230_22, s230_23, s230_26, s230_29, s230_32, s230_33, s230_34, s230_35, s230_38, s230_39, s230_40, s230_43, s230_44, s230_47, s230_48, s230_49, s230_50, s230_53, s230_55, s230_57, s230_58, s230_61, s230_62, s230_63, s230_66, s230_69, s230_72, s230_75, s230_77, s230_78, s230_81, s230_82, s230_85, I, Option.bind_some, Option.toList_some, Option.toList_none, List.nil_append, List.cons_append, bI_z, e4, hi, if_true, Bool.true_eq_false, Bool.false_eq_true, if_false, br, hb, e2, h1, at', y1, x_M_isElement n2 hn6, he, Bool.and_false]
        · have ee := elB_nI (show n < 1000 by omega) he
          have dg := x_M_digit (d := d + 7) (h := mk shM m2 q) (show y < 729 by omega) hn6 he
          simp only [s230_0, s230_1, s230_2, s230_3, s230_6, s230_9, s230_12, s230_13, s230_14, s230_17, s230_20, s230_21, s230_22, s230_23, s230_26, s230_29, s230_32, s230_33, s230_34, s230_35, s230_38, s230_39, s230_40, s230_43, s230_44, s230_47, s230_48, s230_49, s230_50, s230_53, s230_55, s230_57, s230_58, s230_61, s230_62, s230_63, s230_66, s230_69, s230_72, s230_75, s230_77, s230_78, s230_81, s230_82, s230_85, I, Option.bind_some, Option.toList_some, Option.toList_none, List.nil_append, List.cons_append, bI_z, e4, hi, if_true, Bool.true_eq_false, Bool.false_eq_true, if_false, br, hb, e2, h1, at', y1, x_M_isElement n2 hn6, ee, elB_nI (show (mlD (3 ^ n) (kiP n (m 1) k)).length < 1000 by omega) hlt, Bool.and_self, x_M_n, n2, dg, eN_nI (show j < 1000 by omega), eN_nI (show e < 1000 by omega), hy]
end
