/-! the model: covectors, topes marked; marked ones told -/
def acS (n x y : Nat) (p : Bool × Bool) (e : Nat) : Bool × Bool := (p.1 || decide (0 < dg32 n x e * dg32 n y e), p.2 || decide (dg32 n x e * dg32 n y e < 0))
def acB (n x y : Nat) : Bool := ((rg 0 n).foldl (acS n x y) (false, false)).1 == ((rg 0 n).foldl (acS n x y) (false, false)).2
/-- the codes marked, rising -/
def mlU (N : Nat) (P : Nat → Bool) : List Nat := (rg 0 N).filter P
/-- the codes marked, from the greatest -/
def mlD (N : Nat) (P : Nat → Bool) : List Nat := (dsc N).filter P
def covP (n : Nat) (P : Nat → Bool) : Nat → Bool := fun c => if c < 3 ^ n then (mlU (3 ^ n) P).all (acB n c) else P c
def fewM (n : Nat) (P : Nat → Bool) : Nat := (rg 0 (3 ^ n)).foldl (fun x c => if P c = true ∧ zrN n c < x then zrN n c else x) 6
def topP (n : Nat) (P : Nat → Bool) : Nat → Bool := fun c => if c < 3 ^ n then P c && decide (zrN n c = fewM n P) else P c
def fP : Nat → Bool := fun _ => false
def kiP (n : Nat) (R : Nat → Int32) (k : Nat) : Nat → Bool := if k = 0 then cocP n R fP else if k = 1 then cirP n R fP else if k = 2 then covP n (cirP n R fP) else topP n (covP n (cirP n R fP))
theorem rg_snoc {k : Nat} : rg 0 (k + 1) = rg 0 k ++ [k] := by simp [rg, List.range'_concat]
theorem zrN_le {n c : Nat} : zrN n c ≤ n := by
  have : ∀ (l : List Nat) (x : Nat), l.foldl (fun x e => if dgN n c e = 1 then x + 1 else x) x ≤ x + l.length := by
    intro l
    induction l with
    | nil => intro x; exact Nat.le_refl _
    | cons a l ih =>
      intro x
      rw [List.foldl_cons, List.length_cons]
      have := ih (if dgN n c a = 1 then x + 1 else x)
      split at this <;> split <;> omega
  have := this (rg 0 n) 0
  rw [rg_len] at this
  unfold zrN
  omega
section
variable {d a b c e f g i n k t u x y : Nat} {m : Mem} {q : MemJ} {h : AH} {v3 v4 v5 v6 v7 : Value} {P : Nat → Bool}
theorem x_M_areAcross (hn : m 1 0 = nI n) (hn6 : n ≤ 6) (hx : x < 729) (hy : y < 729) : ev (d + 2) 241 0 [.ref 0, .int (nI x), .int (nI y), .null, .null, .null, .null] [] (mk shM m q) = some (some (.int (bI (acB n x y))), mk shM m q) := by
  have L := ev_for1 (fun _ => True) (fun e (p : Bool × Bool) (v : Value) => ev (d + 2) 241 8 [.ref 0, .int (nI x), .int (nI y), .int (bI p.1), .int (bI p.2), .int (nI e), v] [] (mk shM m q)) (fun p => some (some (.int (bI (p.1 == p.2))), mk shM m q)) (fun e p => acS n x y p e) n
    (fun p v _ => by
      rw [s241_8]
      obtain ⟨l, u⟩ := p
      cases l <;> cases u <;> simp only [s241_0, s241_1, s241_2, s241_3, s241_5, s241_6, s241_10, s241_11, s241_14, s241_17, s241_18, s241_19, s241_22, s241_24, s241_27, s241_28, s241_29, s241_32, s241_34, s241_37, s241_38, s241_40, s241_41, s241_44, s241_46, s241_49, s241_50, s241_53, s241_54, s241_55, s241_57, s241_60, s241_62, s241_65, s241_66, s241_69, s241_70, s241_72, s241_75, s241_78, s241_79, s241_81, s241_84, s241_85, s241_88, s241_89, x_M_n, hn, Option.bind_some, Option.toList_some, Option.toList_none, List.nil_append, List.cons_append, nI_irr, if_false, bI_t, bI_f, show ¬ nI 1 = nI 0 by decide, show ¬ nI 0 = nI 1 by decide, if_true, am_b0, am_b1] <;> rfl)
    (fun _ _ _ _ => trivial)
    (fun e p v he _ => ⟨.int (dg32 n x e * dg32 n y e), by
      have d1 := x_M_digit (d := d) (h := mk shM m q) hx hn6 he
      have d2 := x_M_digit (d := d) (h := mk shM m q) hy hn6 he
      obtain ⟨l, u⟩ := p
      rw [s241_8]
      simp only [s241_10, s241_11, s241_14, s241_17, s241_18, s241_19, s241_22, s241_24, s241_27, s241_28, s241_29, s241_32, s241_34, s241_37, s241_38, s241_40, x_M_n, hn, Option.bind_some, Option.toList_some, Option.toList_none, List.nil_append, List.cons_append, nI_lt he (show n < 2 ^ 31 by omega), if_true, d1, d2, acS]
      generalize dg32 n x e * dg32 n y e = w
      have s2 : ∀ l' : Bool, ev (d + 2) 241 55 [.ref 0, .int (nI x), .int (nI y), .int (bI l'), .int (bI u), .int (nI e), .int w] [] (mk shM m q) = ev (d + 2) 241 8 [.ref 0, .int (nI x), .int (nI y), .int (bI l'), .int (bI (u || decide (w < 0))), .int (nI (e + 1)), .int w] [] (mk shM m q) := fun l' => by
        cases u with
        | true => simp only [s241_55, s241_57, s241_60, s241_62, s241_65, s241_66, s241_69, s241_70, s241_72, s241_75, s241_78, s241_79, s241_81, s241_84, s241_85, s241_88, s241_89, bI_z, Bool.true_eq_false, if_false, Bool.true_or, bI_t, nI_add, nI10]
        | false =>
          by_cases hw : w < 0
          · simp only [s241_55, s241_57, s241_60, s241_62, s241_65, s241_66, s241_69, s241_70, s241_72, s241_75, s241_78, s241_79, s241_81, s241_84, s241_85, s241_88, s241_89, bI_z, if_true, hw, decide_true, Bool.or_true, bI_t, nI_add, bI_f, nI00]
          · simp only [s241_55, s241_57, s241_60, s241_62, s241_65, s241_66, s241_69, s241_70, s241_72, s241_75, s241_78, s241_79, s241_81, s241_84, s241_85, s241_88, s241_89, bI_z, if_true, hw, if_false, decide_false, Bool.or_self, bI_f, nI_add, nI00]
      have t1 := s2 true
      have t0 := s2 false
      rw [bI_t] at t1
      rw [bI_f] at t0
      cases l with
      | true => simp only [s241_41, s241_44, s241_46, s241_49, s241_50, s241_53, s241_54, bI_z, Bool.true_eq_false, if_false, t1, Bool.true_or, bI_t, nI10]
      | false =>
        by_cases hw : 0 < w
        · simp only [s241_41, s241_44, s241_46, s241_49, s241_50, s241_53, s241_54, bI_z, if_true, hw, t1, decide_true, Bool.or_true, bI_t, bI_f, nI00]
        · simp only [s241_41, s241_44, s241_46, s241_49, s241_50, s241_53, s241_54, bI_z, if_true, hw, if_false, t0, decide_false, Bool.or_self, bI_f, nI00]⟩) 0 (Nat.zero_le _) (false, false) .null trivial
  simp only [s241_0, s241_1, s241_2, s241_3, s241_5, s241_6, s241_10, s241_11, s241_14, s241_17, s241_18, s241_19, s241_22, s241_24, s241_27, s241_28, s241_29, s241_32, s241_34, s241_37, s241_38, s241_40, s241_41, s241_44, s241_46, s241_49, s241_50, s241_53, s241_54, s241_55, s241_57, s241_60, s241_62, s241_65, s241_66, s241_69, s241_70, s241_72, s241_75, s241_78, s241_79, s241_81, s241_84, s241_85, s241_88, s241_89]
  exact L
theorem x_M_marksCovectors (hn : m 1 0 = nI n) (h1 : 1 ≤ n) (hn6 : n ≤ 6) (hS : isSn n (m 1)) (hP : MK m P) (hall : m 0 18 = nI (3 ^ n)) (hC : (mlU (3 ^ n) (cirP n (m 1) P)).length ≤ 30) : ∃ m', ev (d + 5) 240 0 [.ref 0, .null, .null, .null, .null] [] (mk shM m q) = some (none, mk shM m' q) ∧ MK m' (covP n (cirP n (m 1) P)) ∧ fr [10, 11, 12] m m' := by
  have hp := p3_le n hn6
  obtain ⟨m1, e1, M1, g1⟩ := x_M_marksCircuits (d := d) (q := q) hn h1 hn6 hS hP
  generalize hQ : cirP n (m 1) P = Q at M1 hC ⊢
  have n1 : m1 1 0 = nI n := by rw [fr_at g1 1 (by decide)]; exact hn
  have a1 : m1 0 18 = nI (3 ^ n) := by rw [fr_at g1 0 (by decide)]; exact hall
  -- the circuits gathered
  obtain ⟨⟨C, l⟩, ⟨hC1, hC2⟩, e2⟩ := ev_up (fun i (w : (Nat → Int32) × Nat) => w.2 = (mlU i Q).length ∧ ∀ k, k < w.2 → w.1 k = nI ((mlU i Q).getD k 0)) (fun i w => ev (d + 5) 240 8 [.ref 0, .int (nI w.2), .int (nI i), .null, .null] [] (mk shM (mu m1 12 w.1) q)) (3 ^ n) (m1 12, 0) ⟨by rw [mlU, rg_end]; rfl, fun k hk => by omega⟩
    (fun i w hi hw => by
      have hsn : mlU (i + 1) Q = mlU i Q ++ if Q i = true then [i] else [] := by
        unfold mlU
        rw [rg_snoc, List.filter_append]
        congr 1
        simp [List.filter_cons]
      have hle : (mlU (i + 1) Q).length ≤ (mlU (3 ^ n) Q).length := by
        have : ∀ j, i + 1 + j ≤ 3 ^ n → (mlU (i + 1) Q).length ≤ (mlU (i + 1 + j) Q).length := by
          intro j
          induction j with
          | zero => intro _; exact Nat.le_refl _
          | succ j ih =>
            intro hj
            refine Nat.le_trans (ih (by omega)) ?_
            unfold mlU
            rw [show i + 1 + (j + 1) = (i + 1 + j) + 1 by omega, rg_snoc, List.filter_append, List.length_append]
            omega
        have := this (3 ^ n - (i + 1)) (by omega)
        rwa [show i + 1 + (3 ^ n - (i + 1)) = 3 ^ n by omega] at this
      have hq : mu m1 12 w.1 10 i = bI (Q i) := by rw [mu_ne (by decide)]; exact M1 i (by omega)
      cases hqi : Q i with
      | true =>
        rw [hqi] at hsn hq
        have hl : (mlU (i + 1) Q).length = w.2 + 1 := by rw [hsn, hw.1]; simp
        refine ⟨(upd w.1 w.2 (nI i), w.2 + 1), ⟨hl.symm, fun k hk => ?_⟩, ?_⟩
        · have hk : k < w.2 + 1 := hk
          rw [hsn]
          simp only [upd, if_true]
          by_cases hkw : k = w.2
          · rw [if_pos hkw, hkw, hw.1]
            simp [List.getD_eq_getElem?_getD]
          · have hkl : k < (mlU i Q).length := by rw [← hw.1]; omega
            rw [if_neg hkw, hw.2 k (by omega), List.getD_eq_getElem?_getD, List.getD_eq_getElem?_getD, List.getElem?_append_left hkl]
        · rw [s240_8]
          simp only [s240_0, s240_1, s240_4, s240_5, s240_6, s240_7, s240_9, s240_10, s240_13, s240_16, s240_17, s240_20, s240_21, s240_22, s240_25, s240_26, s240_29, s240_30, s240_31, s240_32, s240_35, s240_38, s240_41, s240_42, s240_44, s240_45, s240_48, s240_51, s240_52, s240_53, s240_54, s240_58, s240_59, s240_62, s240_63, s240_66, s240_67, s240_68, s240_69, s240_72, s240_74, s240_75, s240_78, s240_79, s240_82, s240_85, s240_86, s240_89, s240_90, s240_91, s240_92, s240_95, s240_98, mu_ne (show (0 : Nat) ≠ 12 by decide), a1, nI_lt hi (show 3 ^ n < 2 ^ 31 by omega), if_true, tM10, nM10, show i < 729 by omega, hq, bI_z, Bool.true_eq_false, if_false, tM12, nM12, show w.2 < 30 by omega, mu_same, mu_mu, nI_add]
      | false =>
        rw [hqi] at hsn hq
        have hsn : mlU (i + 1) Q = mlU i Q := by rw [hsn]; simp
        refine ⟨w, ⟨by rw [hsn]; exact hw.1, fun k hk => by rw [hsn]; exact hw.2 k hk⟩, ?_⟩
        rw [s240_8]
        simp only [s240_0, s240_1, s240_4, s240_5, s240_6, s240_7, s240_9, s240_10, s240_13, s240_16, s240_17, s240_20, s240_21, s240_22, s240_25, s240_26, s240_29, s240_30, s240_31, s240_32, s240_35, s240_38, s240_41, s240_42, s240_44, s240_45, s240_48, s240_51, s240_52, s240_53, s240_54, s240_58, s240_59, s240_62, s240_63, s240_66, s240_67, s240_68, s240_69, s240_72, s240_74, s240_75, s240_78, s240_79, s240_82, s240_85, s240_86, s240_89, s240_90, s240_91, s240_92, s240_95, s240_98, mu_ne (show (0 : Nat) ≠ 12 by decide), a1, nI_lt hi (show 3 ^ n < 2 ^ 31 by omega), if_true, tM10, nM10, show i < 729 by omega, hq, bI_z, nI_add]) (3 ^ n) (Nat.le_refl _)
  rw [mu_self] at e2
  generalize hm2 : mu m1 12 C = m2 at e2
  have c2 : m2 12 = C := by rw [← hm2, mu_same]
  have k2 : ∀ c, c ≠ 12 → m2 c = m1 c := fun c hc => by rw [← hm2, mu_ne hc]
  have hl : l = (mlU (3 ^ n) Q).length := hC1
  have hCv : ∀ k, k < l → C k = nI ((mlU (3 ^ n) Q).getD k 0) := hC2
  have hmem : ∀ k, k < l → (mlU (3 ^ n) Q).getD k 0 < 3 ^ n := fun k hk => by
    rw [hl] at hk
    rw [List.getD_eq_getElem?_getD, List.getElem?_eq_getElem hk, Option.getD_some]
    have := List.getElem_mem hk
    exact (rg_mem.mp (List.mem_filter.mp this).1).2
  -- each tried
  obtain ⟨⟨K, v3, v4⟩, hK, e3⟩ := ev_up (fun i (w : (Nat → Int32) × Value × Value) => ∀ c, c < 729 → w.1 c = bI (if c < i then (mlU (3 ^ n) Q).all (acB n c) else Q c)) (fun i w => ev (d + 5) 240 43 [.ref 0, .int (nI l), .int (nI i), w.2.1, w.2.2] [] (mk shM (mu m2 10 w.1) q)) (3 ^ n) (m2 10, .null, .null) (fun c hc => by rw [if_neg (by omega), k2 10 (by decide)]; exact M1 c hc)
    (fun i w hi hw => by
      have inner := ev_and1 (fun k (x : Bool) (v : Unit) => ev (d + 5) 240 56 [.ref 0, .int (nI l), .int (nI i), .int (bI x), .int (nI k)] [] (mk shM (mu m2 10 w.1) q)) (fun x (v : Int32) => ev (d + 5) 240 85 [.ref 0, .int (nI l), .int (nI i), .int (bI x), .int v] [] (mk shM (mu m2 10 w.1) q)) (fun k => acB n i ((mlU (3 ^ n) Q).getD k 0)) l
        (fun x v => ⟨nI l, by rw [s240_56]; simp only [s240_58, s240_59, s240_62, s240_63, s240_66, s240_67, s240_68, s240_69, s240_72, s240_74, s240_75, s240_78, s240_79, s240_82, nI_irr, if_false]⟩)
        (fun k v hk => ⟨nI k, by rw [s240_56]; simp only [s240_58, s240_59, s240_62, s240_63, s240_66, s240_67, s240_68, s240_69, s240_72, s240_74, s240_75, s240_78, s240_79, s240_82, nI_lt hk (show l < 2 ^ 31 by omega), if_true, bI_z]⟩)
        (fun k v hk => ⟨(), by
          have ac := x_M_areAcross (d := d + 2) (m := mu m2 10 w.1) (q := q) (x := i) (y := (mlU (3 ^ n) Q).getD k 0) (by rw [mu_ne (show (1 : Nat) ≠ 10 by decide), k2 1 (by decide)]; exact n1) hn6 (by omega) (by have := hmem k hk; omega)
          rw [s240_56]
          simp only [s240_58, s240_59, s240_62, s240_63, s240_66, s240_67, s240_68, s240_69, s240_72, s240_74, s240_75, s240_78, s240_79, s240_82, nI_lt hk (show l < 2 ^ 31 by omega), if_true, bI_z, Bool.true_eq_false, if_false, tM12, nM12, show k < 30 by omega, mu_ne (show (12 : Nat) ≠ 10 by decide), c2, hCv k hk, ac, Option.bind_some, Option.toList_some, Option.toList_none, List.nil_append, List.cons_append, nI_add]⟩) 0 (Nat.zero_le _) ()
      obtain ⟨v', hin⟩ := inner
      have hall2 : (rg 0 l).all (fun k => acB n i ((mlU (3 ^ n) Q).getD k 0)) = (mlU (3 ^ n) Q).all (acB n i) := by
        rw [hl]
        generalize mlU (3 ^ n) Q = L
        apply Bool.eq_iff_iff.mpr
        rw [List.all_eq_true, List.all_eq_true]
        constructor
        · intro h x hx
          obtain ⟨k, hk, rfl⟩ := List.getElem_of_mem hx
          have := h k (rg_mem.mpr ⟨Nat.zero_le _, hk⟩)
          rwa [List.getD_eq_getElem?_getD, List.getElem?_eq_getElem hk, Option.getD_some] at this
        · intro h k hk
          have hk := (rg_mem.mp hk).2
          rw [List.getD_eq_getElem?_getD, List.getElem?_eq_getElem hk, Option.getD_some]
          exact h _ (List.getElem_mem hk)
      rw [hall2, bI_t] at hin
      refine ⟨(upd w.1 i (bI ((mlU (3 ^ n) Q).all (acB n i))), .int (bI ((mlU (3 ^ n) Q).all (acB n i))), .int v'), fun c hc => ?_, ?_⟩
      · simp only [upd]
        by_cases hci : c = i
        · rw [if_pos hci, if_pos (by omega), hci]
        · rw [if_neg hci, hw c hc]
          by_cases hlt : c < i
          · rw [if_pos hlt, if_pos (by omega)]
          · rw [if_neg hlt, if_neg (by omega)]
      · rw [s240_43]
        simp only [s240_44, s240_45, s240_48, s240_51, s240_52, s240_53, s240_54, mu_ne (show (0 : Nat) ≠ 10 by decide), k2 0 (by decide), a1, nI_lt hi (show 3 ^ n < 2 ^ 31 by omega), if_true]
        refine hin.trans ?_
        simp only [s240_85, s240_86, s240_89, s240_90, s240_91, s240_92, s240_95, tM10, nM10, show i < 729 by omega, narb, mu_mu, mu_same, nI_add]) (3 ^ n) (Nat.le_refl _)
  rw [mu_self] at e3
  refine ⟨mu m2 10 K, ?_, fun c hc => ?_, fun c hc => ?_⟩
  · simp only [s240_0, s240_1, s240_4, s240_5, s240_6, s240_7, e1, Option.bind_some, Option.toList_some, Option.toList_none, List.nil_append, List.cons_append]
    refine e2.trans ?_
    rw [s240_8]
    simp only [s240_9, s240_10, s240_13, s240_16, s240_17, s240_20, s240_21, s240_22, s240_25, s240_26, s240_29, s240_30, s240_31, s240_32, s240_35, s240_38, s240_41, s240_42, k2 0 (by decide), a1, nI_irr, if_false]
    refine e3.trans ?_
    rw [s240_43]
    simp only [s240_0, s240_1, s240_4, s240_5, s240_6, s240_7, s240_9, s240_10, s240_13, s240_16, s240_17, s240_20, s240_21, s240_22, s240_25, s240_26, s240_29, s240_30, s240_31, s240_32, s240_35, s240_38, s240_41, s240_42, s240_44, s240_45, s240_48, s240_51, s240_52, s240_53, s240_54, s240_58, s240_59, s240_62, s240_63, s240_66, s240_67, s240_68, s240_69, s240_72, s240_74, s240_75, s240_78, s240_79, s240_82, s240_85, s240_86, s240_89, s240_90, s240_91, s240_92, s240_95, s240_98, mu_ne (show (0 : Nat) ≠ 10 by decide), k2 0 (by decide), a1, nI_irr, if_false]
  · rw [mu_same]
    exact hK c hc
  · have h10 : c ≠ 10 := fun e => hc (by simp [e])
    have h12 : c ≠ 12 := fun e => hc (by simp [e])
    rw [mu_ne h10, k2 c h12]
    exact g1 c (by simp at hc ⊢; omega)
theorem x_M_marksTopes (hn : m 1 0 = nI n) (h1 : 1 ≤ n) (hn6 : n ≤ 6) (hS : isSn n (m 1)) (hP : MK m P) (hall : m 0 18 = nI (3 ^ n)) (hC : (mlU (3 ^ n) (cirP n (m 1) P)).length ≤ 30) : ∃ m', ev (d + 6) 242 0 [.ref 0, .null, .null] [] (mk shM m q) = some (none, mk shM m' q) ∧ MK m' (topP n (covP n (cirP n (m 1) P))) ∧ fr [10, 11, 12] m m' := by
  have hp := p3_le n hn6
  obtain ⟨m1, e1, M1, g1⟩ := x_M_marksCovectors (d := d) (q := q) hn h1 hn6 hS hP hall hC
  generalize hQ : covP n (cirP n (m 1) P) = Q at M1 ⊢
  have n1 : m1 1 0 = nI n := by rw [fr_at g1 1 (by decide)]; exact hn
  have a1 : m1 0 18 = nI (3 ^ n) := by rw [fr_at g1 0 (by decide)]; exact hall
  have zr : ∀ {D c : Nat} {mm : Mem}, c < 3 ^ n → ev (D + 2) 237 0 [.int (nI c), .int (nI n), .null, .null] [] (mk shM mm q) = some (some (.int (nI (zrN n c))), mk shM mm q) := fun hc => x_M_zeros (by omega) hn6
  have L1 := ev_for1 (fun x : Nat => x ≤ 6) (fun i (x : Nat) (_ : Unit) => ev (d + 6) 242 9 [.ref 0, .int (nI x), .int (nI i)] [] (mk shM m1 q)) (fun x => ev (d + 6) 242 59 [.ref 0, .int (nI x), .int (nI 0)] [] (mk shM m1 q)) (fun c x => if Q c = true ∧ zrN n c < x then zrN n c else x) (3 ^ n)
    (fun x _ _ => by rw [s242_9]; simp only [s242_10, s242_11, s242_14, s242_17, s242_18, s242_21, s242_22, s242_23, s242_26, s242_27, s242_28, s242_31, s242_34, s242_35, s242_38, s242_39, s242_40, s242_43, s242_46, s242_49, s242_50, s242_51, s242_54, s242_57, s242_58, a1, nI_irr, if_false])
    (fun c x hc hx => by
      have := zrN_le (n := n) (c := c)
      split <;> omega)
    (fun c x _ hc hx => ⟨(), by
      have z6 := zrN_le (n := n) (c := c)
      rw [s242_9]
      simp only [s242_10, s242_11, s242_14, s242_17, s242_18, s242_21, s242_22, s242_23, s242_26, s242_27, s242_28, s242_31, s242_34, s242_35, s242_38, s242_39, s242_40, s242_43, s242_46, s242_49, s242_50, s242_51, s242_54, s242_57, s242_58, a1, nI_lt hc (show 3 ^ n < 2 ^ 31 by omega), if_true, tM10, nM10, show c < 729 by omega, M1 c (by omega), bI_z, x_M_n, n1, Option.bind_some, Option.toList_some, Option.toList_none, List.nil_append, List.cons_append, zr hc, nI_ltI (show zrN n c < 2 ^ 31 by omega) (show x < 2 ^ 31 by omega)]
      cases hq : Q c with
      | false => simp only [if_true, Bool.false_eq_true, false_and, if_false, nI_add]
      | true =>
        simp only [Bool.true_eq_false, if_false, true_and]
        by_cases hz : zrN n c < x
        · simp only [hz, if_true, nI_add]
        · simp only [hz, if_false, nI_add]⟩) 0 (Nat.zero_le _) 6 () (Nat.le_refl _)
  rw [show (rg 0 (3 ^ n)).foldl (fun x c => if Q c = true ∧ zrN n c < x then zrN n c else x) 6 = fewM n Q from rfl] at L1
  have few6 : fewM n Q ≤ 6 := by
    unfold fewM
    refine fold_inv (P := fun x : Nat => x ≤ 6) (fun c _ x hx => ?_) (Nat.le_refl _)
    have := zrN_le (n := n) (c := c)
    split <;> omega
  obtain ⟨⟨K, u⟩, hK, e3⟩ := ev_up (fun i (w : (Nat → Int32) × Unit) => ∀ c, c < 729 → w.1 c = bI (if c < i then Q c && decide (zrN n c = fewM n Q) else Q c)) (fun i w => ev (d + 6) 242 59 [.ref 0, .int (nI (fewM n Q)), .int (nI i)] [] (mk shM (mu m1 10 w.1) q)) (3 ^ n) (m1 10, ()) (fun c hc => by rw [if_neg (by omega)]; exact M1 c hc)
    (fun i w hi hw => by
      have z6 := zrN_le (n := n) (c := i)
      have hwi : w.1 i = bI (Q i) := by rw [hw i (by omega), if_neg (by omega)]
      refine ⟨(upd w.1 i (bI (Q i && decide (zrN n i = fewM n Q))), ()), fun c hc => ?_, ?_⟩
      · simp only [upd]
        by_cases hci : c = i
        · rw [if_pos hci, if_pos (by omega), hci]
        · rw [if_neg hci, hw c hc]
          by_cases hlt : c < i
          · rw [if_pos hlt, if_pos (by omega)]
          · rw [if_neg hlt, if_neg (by omega)]
      · rw [s242_59]
        simp only [s242_60, s242_61, s242_64, s242_67, s242_68, s242_71, s242_72, s242_73, s242_76, s242_77, s242_78, s242_81, s242_82, s242_83, s242_86, s242_89, s242_90, s242_93, s242_94, s242_97, s242_98, s242_99, s242_102, s242_105, mu_ne (show (0 : Nat) ≠ 10 by decide), a1, nI_lt hi (show 3 ^ n < 2 ^ 31 by omega), if_true, tM10, nM10, show i < 729 by omega, mu_same, hwi, bI_z, x_M_n, mu_ne (show (1 : Nat) ≠ 10 by decide), n1, Option.bind_some, Option.toList_some, Option.toList_none, List.nil_append, List.cons_append, zr hi, nI_eq (show zrN n i < 2 ^ 31 by omega) (show fewM n Q < 2 ^ 31 by omega), nar0, nar1, mu_mu]
        cases hq : Q i with
        | false => simp only [if_true, Bool.false_and, bI_f, nI_add]
        | true =>
          simp only [Bool.true_eq_false, if_false, Bool.true_and]
          by_cases hz : zrN n i = fewM n Q
          · simp only [eq_true hz, if_true, decide_true, bI_t, nI_add]
          · simp only [eq_false hz, if_false, decide_false, bI_f, nI_add]) (3 ^ n) (Nat.le_refl _)
  rw [mu_self] at e3
  refine ⟨mu m1 10 K, ?_, fun c hc => ?_, fun c hc => ?_⟩
  · simp only [s242_0, s242_1, s242_4, s242_6, s242_7, s242_8, e1, Option.bind_some, Option.toList_some, Option.toList_none, List.nil_append, List.cons_append]
    refine L1.trans (e3.trans ?_)
    rw [s242_59]
    simp only [s242_60, s242_61, s242_64, s242_67, s242_68, s242_71, s242_72, s242_73, s242_76, s242_77, s242_78, s242_81, s242_82, s242_83, s242_86, s242_89, s242_90, s242_93, s242_94, s242_97, s242_98, s242_99, s242_102, s242_105, mu_ne (show (0 : Nat) ≠ 10 by decide), a1, nI_irr, if_false]
  · rw [mu_same]
    exact hK c hc
  · have h10 : c ≠ 10 := fun e => hc (by simp [e])
    rw [mu_ne h10]
    exact g1 c hc
end
