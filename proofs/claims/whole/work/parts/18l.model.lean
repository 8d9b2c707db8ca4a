/-! the model: loops, parallels, foretold -/
def loT (n : Nat) (R : Nat → Int32) (e : Nat) : Bool := (prs n).all fun t => !baB R e t.1 t.2
def loM (n : Nat) (R : Nat → Int32) : Nat := (rg 0 n).foldl (fun s e => s ||| if loT n R e = true then 2 ^ e else 0) 0
def paT (n : Nat) (R : Nat → Int32) (a b : Nat) : Bool := (!(loM n R).testBit a && !(loM n R).testBit b) && (rg 0 n).all fun c => !baB R a b c
def pnM (n : Nat) (R : Nat → Int32) : Int32 := (prs n).foldl (fun x t => x + if paT n R t.1 t.2 = true then nI 1 else nI 0) (nI 0)
def muM (n : Nat) (R : Nat → Int32) (a b c : Nat) : Bool := baB R a b c && orM n (sgU R a b c (-(mS R a b c)))
def mtS (n : Nat) (R : Nat → Int32) (t : Int32) (x : Nat × Int32) (a b c : Nat) : Nat × Int32 := (x.1 + 1, x.2 + if (t < 0 ∨ nI x.1 = t) ∧ muM n R a b c = true then nI 1 else nI 0)
def mtM (n : Nat) (R : Nat → Int32) (t : Int32) : Int32 := ((trip n).foldl (fun x τ => mtS n R t x τ.1 τ.2.1 τ.2.2) (0, nI 0)).2
def exS (n : Nat) (y : (Nat → Int32) × Nat) (a b : Nat) : (Nat → Int32) × Nat := (sgU y.1 a b n (nI (y.2 % 3) - nI 1), y.2 / 3)
def exR (n c : Nat) (R : Nat → Int32) : Nat → Int32 := ((prs n).foldl (fun y t => exS n y t.1 t.2) (R, c)).1
def exF (n : Nat) (R : Nat → Int32) : (Nat → Int32) × Int32 := (rg 0 (3 ^ (n * (n - 1) / 2))).foldl (fun x c => (exR n c x.1, x.2 + if orM (n + 1) (exR n c x.1) = true then nI 1 else nI 0)) (upd R 0 (nI (n + 1)), nI 0)
theorem tO_1 {a b c : Nat} (hab : a < b) (hbc : b < c) : tO a b c = nI 1 := by
  unfold tO ng3
  rw [if_neg (show ¬ c < b by omega), if_neg (show ¬ c < a by omega), if_neg (show ¬ b < a by omega), if_neg (show ¬ (a = b ∨ a = c ∨ b = c) by omega)]
theorem mS_s {R : Nat → Int32} {a b c : Nat} (hab : a < b) (hbc : b < c) : mS R a b c = R (1 + pT a b c) := by
  unfold mS
  rw [tO_1 hab hbc, show nI 1 = 1 from rfl, Int32.one_mul]
theorem sgU_s {R : Nat → Int32} {a b c : Nat} {v : Int32} (hab : a < b) (hbc : b < c) : sgU R a b c v = upd R (1 + pT a b c) v := by
  unfold sgU
  rw [tO_1 hab hbc, show nI 1 = 1 from rfl, Int32.mul_one]
theorem sgU_back {R : Nat → Int32} {a b c : Nat} {v : Int32} (hab : a < b) (hbc : b < c) : sgU (sgU R a b c v) a b c (mS R a b c) = R := by
  rw [sgU_s hab hbc, sgU_s hab hbc, upd_upd, mS_s hab hbc]
  funext i
  simp only [upd]
  split
  · next h => rw [h]
  · rfl
section
variable {d a b c e f g i n k t u x y : Nat} {m : Mem} {q : MemJ} {h : AH} {v3 v4 v5 v6 v7 : Value} {P : Nat → Bool}
theorem x_M_loops (hn : m 1 0 = nI n) (hn6 : n ≤ 6) : ev (d + 3) 265 0 [.ref 0, .null, .null, .null, .null, .null] [] (mk shM m q) = some (some (.int (nI (loM n (m 1)))), mk shM m q) := by
  have inner : ∀ (s e : Nat) (_v4 v5 : Value), e < n → ∃ v', ev (d + 3) 265 17 [.ref 0, .int (nI s), .int (nI e), .int (nI 1), .int (nI 0), v5] [] (mk shM m q) = ev (d + 3) 265 4 [.ref 0, .int (nI (s ||| if loT n (m 1) e = true then 2 ^ e else 0)), .int (nI (e + 1)), .int (bI (loT n (m 1) e)), .int (nI n), v'] [] (mk shM m q) := fun s e v4 v5 he => by
    have L := ev_for2e (fun _ => True) (fun a (x : Bool) (v : Value) => ev (d + 3) 265 17 [.ref 0, .int (nI s), .int (nI e), .int (bI x), .int (nI a), v] [] (mk shM m q))
      (fun a b x v => ev (d + 3) 265 32 [.ref 0, .int (nI s), .int (nI e), .int (bI x), .int (nI a), .int (nI b)] [] (mk shM m q))
      (fun x (v : Value) => ev (d + 3) 265 4 [.ref 0, .int (nI (s ||| if x = true then 2 ^ e else 0)), .int (nI (e + 1)), .int (bI x), .int (nI n), v] [] (mk shM m q)) (fun a b x => x && !baB (m 1) e a b) n
      (fun x v _ => ⟨v, by
        rw [s265_17]
        simp only [s265_19, s265_20, s265_23, s265_26, s265_28, s265_29, s265_30, s265_34, s265_35, s265_38, s265_41, s265_42, s265_45, s265_46, s265_47, s265_49, s265_51, s265_54, s265_57, s265_58, s265_61, s265_62, s265_63, s265_66, s265_69, s265_72, s265_75, s265_76, s265_77, s265_80, s265_81, s265_82, s265_83, s265_86, s265_87, s265_88, s265_89, s265_92, s265_95, s265_96, x_M_n, hn, Option.bind_some, Option.toList_some, Option.toList_none, List.nil_append, List.cons_append, nI_irr, if_false, bI_z]
        cases x <;> simp only [Bool.true_eq_false, Bool.false_eq_true, if_true, if_false, s265_75, s265_76, s265_77, s265_80, s265_81, s265_82, s265_83, s265_86, s265_87, s265_88, s265_89, s265_92, s265_95, s265_96, bt_sh e (by omega), nI_or, nI_add]⟩)
      (fun a x v ha _ => ⟨v, by rw [s265_17]; simp only [s265_19, s265_20, s265_23, s265_26, s265_28, s265_29, s265_30, s265_34, s265_35, s265_38, s265_41, s265_42, s265_45, s265_46, s265_47, s265_49, s265_51, s265_54, s265_57, s265_58, s265_61, s265_62, s265_63, s265_66, s265_69, s265_72, x_M_n, hn, Option.bind_some, Option.toList_some, Option.toList_none, List.nil_append, List.cons_append, nI_lt ha (show n < 2 ^ 31 by omega), if_true, nI_add]⟩)
      (fun a x v ha _ => ⟨.int (nI n), by rw [s265_32]; simp only [s265_19, s265_20, s265_23, s265_26, s265_28, s265_29, s265_30, s265_34, s265_35, s265_38, s265_41, s265_42, s265_45, s265_46, s265_47, s265_49, s265_51, s265_54, s265_57, s265_58, s265_61, s265_62, s265_63, s265_66, s265_69, s265_72, x_M_n, hn, Option.bind_some, Option.toList_some, Option.toList_none, List.nil_append, List.cons_append, nI_irr, if_false, nI_add]⟩)
      (fun _ _ _ _ _ _ => trivial)
      (fun a b x v hab hb _ => ⟨v, by
        have ib := x_M_isBase (d := d) (m := m) (q := q) (show e < 6 by omega) (show a < 6 by omega) (show b < 6 by omega)
        rw [s265_32]
        simp only [s265_34, s265_35, s265_38, s265_41, s265_42, s265_45, s265_46, s265_47, s265_49, s265_51, s265_54, s265_57, s265_58, s265_61, s265_62, s265_63, s265_66, s265_69, s265_72, x_M_n, hn, Option.bind_some, Option.toList_some, Option.toList_none, List.nil_append, List.cons_append, nI_lt hb (show n < 2 ^ 31 by omega), if_true, bI_z]
        cases x with
        | false => simp only [if_true, Bool.false_and, bI_f, nI_add]
        | true =>
          simp only [Bool.true_eq_false, if_false, s265_34, s265_35, s265_38, s265_41, s265_42, s265_45, s265_46, s265_47, s265_49, s265_51, s265_54, s265_57, s265_58, s265_61, s265_62, s265_63, s265_66, s265_69, s265_72, ib, Option.bind_some, Option.toList_some, Option.toList_none, List.nil_append, List.cons_append, bI_z, Bool.true_and]
          cases baB (m 1) e a b <;> simp only [Bool.true_eq_false, if_true, if_false, Bool.not_true, Bool.not_false, bI_t, bI_f, nI_add, s265_34, s265_35, s265_38, s265_41, s265_42, s265_45, s265_46, s265_47, s265_49, s265_51, s265_54, s265_57, s265_58, s265_61, s265_62, s265_63, s265_66, s265_69, s265_72]⟩) true v5 trivial
    rw [fold_and, Bool.true_and, bI_t] at L
    exact L
  have L := ev_for1 (fun _ => True) (fun e (s : Nat) (v : Value × Value × Value) => ev (d + 3) 265 4 [.ref 0, .int (nI s), .int (nI e), v.1, v.2.1, v.2.2] [] (mk shM m q)) (fun s => some (some (.int (nI s)), mk shM m q)) (fun e s => s ||| if loT n (m 1) e = true then 2 ^ e else 0) n
    (fun s v _ => by rw [s265_4]; simp only [s265_0, s265_1, s265_2, s265_3, s265_5, s265_6, s265_9, s265_12, s265_13, s265_14, s265_15, s265_19, s265_20, s265_23, s265_26, s265_28, s265_29, s265_30, s265_34, s265_35, s265_38, s265_41, s265_42, s265_45, s265_46, s265_47, s265_49, s265_51, s265_54, s265_57, s265_58, s265_61, s265_62, s265_63, s265_66, s265_69, s265_72, s265_75, s265_76, s265_77, s265_80, s265_81, s265_82, s265_83, s265_86, s265_87, s265_88, s265_89, s265_92, s265_95, s265_96, x_M_n, hn, Option.bind_some, Option.toList_some, Option.toList_none, List.nil_append, List.cons_append, nI_irr, if_false])
    (fun _ _ _ _ => trivial)
    (fun e s v he _ => by
      obtain ⟨v', hv'⟩ := inner s e v.2.1 v.2.2 he
      refine ⟨(.int (bI (loT n (m 1) e)), .int (nI n), v'), ?_⟩
      rw [← hv', s265_4]
      simp only [s265_5, s265_6, s265_9, s265_12, s265_13, s265_14, s265_15, x_M_n, hn, Option.bind_some, Option.toList_some, Option.toList_none, List.nil_append, List.cons_append, nI_lt he (show n < 2 ^ 31 by omega), if_true]) 0 (Nat.zero_le _) 0 (.null, .null, .null) trivial
  simp only [s265_0, s265_1, s265_2, s265_3, s265_5, s265_6, s265_9, s265_12, s265_13, s265_14, s265_15, s265_19, s265_20, s265_23, s265_26, s265_28, s265_29, s265_30, s265_34, s265_35, s265_38, s265_41, s265_42, s265_45, s265_46, s265_47, s265_49, s265_51, s265_54, s265_57, s265_58, s265_61, s265_62, s265_63, s265_66, s265_69, s265_72, s265_75, s265_76, s265_77, s265_80, s265_81, s265_82, s265_83, s265_86, s265_87, s265_88, s265_89, s265_92, s265_95, s265_96]
  exact L
theorem shr_tb : ∀ s, s < 64 → ∀ a, a < 6 → nI s >>> (nI a &&& 31) &&& nI 1 = bI (s.testBit a) := by decide +kernel
theorem loM_lt {R : Nat → Int32} (hn : n ≤ 6) : loM n R < 64 := by
  unfold loM
  refine fold_inv (P := fun s : Nat => s < 64) (fun e he s hs => or_lt64 hs ?_) (by decide)
  split
  · exact bt_lt e (by have := rg_mem.mp he; omega)
  · decide
theorem x_M_parallels (hn : m 1 0 = nI n) (hn6 : n ≤ 6) : ev (d + 4) 266 0 [.ref 0, .null, .null, .null, .null, .null, .null] [] (mk shM m q) = some (some (.int (pnM n (m 1))), mk shM m q) := by
  have lo := x_M_loops (d := d) (q := q) hn hn6
  have hl := loM_lt (R := m 1) hn6
  generalize hs : loM n (m 1) = s at lo hl
  have L := ev_for2 (fun _ => True) (fun a (x : Int32) (v : Value × Value × Value) => ev (d + 4) 266 9 [.ref 0, .int (nI s), .int x, .int (nI a), v.1, v.2.1, v.2.2] [] (mk shM m q))
    (fun a b x v => ev (d + 4) 266 22 [.ref 0, .int (nI s), .int x, .int (nI a), .int (nI b), v.2.1, v.2.2] [] (mk shM m q))
    (fun x => some (some (.int x), mk shM m q)) (fun a b x => x + if paT n (m 1) a b = true then nI 1 else nI 0) n
    (fun x v _ => by rw [s266_9]; simp only [s266_0, s266_1, s266_4, s266_5, s266_6, s266_7, s266_8, s266_10, s266_11, s266_14, s266_17, s266_18, s266_19, s266_20, s266_24, s266_25, s266_28, s266_31, s266_32, s266_33, s266_34, s266_35, s266_36, s266_39, s266_40, s266_42, s266_43, s266_44, s266_45, s266_48, s266_49, s266_52, s266_53, s266_55, s266_56, s266_60, s266_61, s266_64, s266_67, s266_69, s266_72, s266_73, s266_74, s266_76, s266_78, s266_81, s266_84, s266_85, s266_88, s266_89, s266_91, s266_94, s266_97, s266_98, s266_100, s266_103, s266_104, s266_107, s266_108, s266_109, s266_110, s266_113, s266_116, s266_119, s266_122, s266_123, x_M_n, hn, Option.bind_some, Option.toList_some, Option.toList_none, List.nil_append, List.cons_append, nI_irr, if_false])
    (fun a x v ha _ => ⟨v, by rw [s266_9]; simp only [s266_0, s266_1, s266_4, s266_5, s266_6, s266_7, s266_8, s266_10, s266_11, s266_14, s266_17, s266_18, s266_19, s266_20, s266_24, s266_25, s266_28, s266_31, s266_32, s266_33, s266_34, s266_35, s266_36, s266_39, s266_40, s266_42, s266_43, s266_44, s266_45, s266_48, s266_49, s266_52, s266_53, s266_55, s266_56, s266_60, s266_61, s266_64, s266_67, s266_69, s266_72, s266_73, s266_74, s266_76, s266_78, s266_81, s266_84, s266_85, s266_88, s266_89, s266_91, s266_94, s266_97, s266_98, s266_100, s266_103, s266_104, s266_107, s266_108, s266_109, s266_110, s266_113, s266_116, s266_119, s266_122, s266_123, x_M_n, hn, Option.bind_some, Option.toList_some, Option.toList_none, List.nil_append, List.cons_append, nI_lt ha (show n < 2 ^ 31 by omega), if_true, nI_add]⟩)
    (fun a x v ha _ => ⟨(.int (nI n), v.2.1, v.2.2), by rw [s266_22]; simp only [s266_0, s266_1, s266_4, s266_5, s266_6, s266_7, s266_8, s266_10, s266_11, s266_14, s266_17, s266_18, s266_19, s266_20, s266_24, s266_25, s266_28, s266_31, s266_32, s266_33, s266_34, s266_35, s266_36, s266_39, s266_40, s266_42, s266_43, s266_44, s266_45, s266_48, s266_49, s266_52, s266_53, s266_55, s266_56, s266_60, s266_61, s266_64, s266_67, s266_69, s266_72, s266_73, s266_74, s266_76, s266_78, s266_81, s266_84, s266_85, s266_88, s266_89, s266_91, s266_94, s266_97, s266_98, s266_100, s266_103, s266_104, s266_107, s266_108, s266_109, s266_110, s266_113, s266_116, s266_119, s266_122, s266_123, x_M_n, hn, Option.bind_some, Option.toList_some, Option.toList_none, List.nil_append, List.cons_append, nI_irr, if_false, nI_add]⟩)
    (fun _ _ _ _ _ _ => trivial)
    (fun a b x v hab hb _ => by
      have z0 := shr_tb s hl a (by omega)
      have z1 := shr_tb s hl b (by omega)
      have inner : ∀ z : Bool, ev (d + 4) 266 58 [.ref 0, .int (nI s), .int x, .int (nI a), .int (nI b), .int (bI z), .int (nI 0)] [] (mk shM m q) = ev (d + 4) 266 22 [.ref 0, .int (nI s), .int (x + if (z && (rg 0 n).all fun c => !baB (m 1) a b c) = true then nI 1 else nI 0), .int (nI a), .int (nI (b + 1)), .int (bI (z && (rg 0 n).all fun c => !baB (m 1) a b c)), .int (nI n)] [] (mk shM m q) := fun z => by
        have L := ev_for1 (fun _ => True) (fun c (z : Bool) (_ : Unit) => ev (d + 4) 266 58 [.ref 0, .int (nI s), .int x, .int (nI a), .int (nI b), .int (bI z), .int (nI c)] [] (mk shM m q)) (fun z => ev (d + 4) 266 22 [.ref 0, .int (nI s), .int (x + if z = true then nI 1 else nI 0), .int (nI a), .int (nI (b + 1)), .int (bI z), .int (nI n)] [] (mk shM m q)) (fun c z => z && !baB (m 1) a b c) n
          (fun z _ _ => by
            rw [s266_58]
            simp only [s266_60, s266_61, s266_64, s266_67, s266_69, s266_72, s266_73, s266_74, s266_76, s266_78, s266_81, s266_84, s266_85, s266_88, s266_89, s266_91, s266_94, s266_97, s266_98, s266_100, s266_103, s266_104, s266_107, s266_108, s266_109, s266_110, s266_113, s266_116, x_M_n, hn, Option.bind_some, Option.toList_some, Option.toList_none, List.nil_append, List.cons_append, nI_irr, if_false, bI_z]
            cases z <;> simp only [Bool.true_eq_false, Bool.false_eq_true, if_true, if_false, s266_97, s266_98, s266_100, s266_103, s266_104, s266_107, s266_108, s266_109, s266_110, s266_113, s266_116, nI_add])
          (fun _ _ _ _ => trivial)
          (fun c z _ hc _ => ⟨(), by
            have ib := x_M_isBase (d := d + 1) (m := m) (q := q) (show a < 6 by omega) (show b < 6 by omega) (show c < 6 by omega)
            rw [s266_58]
            simp only [s266_60, s266_61, s266_64, s266_67, s266_69, s266_72, s266_73, s266_74, s266_76, s266_78, s266_81, s266_84, s266_85, s266_88, s266_89, s266_91, s266_94, x_M_n, hn, Option.bind_some, Option.toList_some, Option.toList_none, List.nil_append, List.cons_append, nI_lt hc (show n < 2 ^ 31 by omega), if_true, bI_z]
            cases z with
            | false => simp only [if_true, Bool.false_and, bI_f, nI_add]
            | true =>
              simp only [Bool.true_eq_false, if_false, s266_60, s266_61, s266_64, s266_67, s266_69, s266_72, s266_73, s266_74, s266_76, s266_78, s266_81, s266_84, s266_85, s266_88, s266_89, s266_91, s266_94, ib, Option.bind_some, Option.toList_some, Option.toList_none, List.nil_append, List.cons_append, bI_z, Bool.true_and]
              cases baB (m 1) a b c <;> simp only [Bool.true_eq_false, if_true, if_false, Bool.not_true, Bool.not_false, bI_t, bI_f, nI_add, s266_60, s266_61, s266_64, s266_67, s266_69, s266_72, s266_73, s266_74, s266_76, s266_78, s266_81, s266_84, s266_85, s266_88, s266_89, s266_91, s266_94]⟩) 0 (Nat.zero_le _) z () trivial
        rw [fold_and] at L
        exact L
      refine ⟨(v.1, .int (bI (paT n (m 1) a b)), .int (nI n)), ?_⟩
      have hz := inner (!s.testBit a && !s.testBit b)
      rw [show ((!s.testBit a && !s.testBit b) && (rg 0 n).all fun c => !baB (m 1) a b c) = paT n (m 1) a b by unfold paT; rw [hs]] at hz
      refine Eq.trans ?_ hz
      rw [s266_22]
      simp only [s266_24, s266_25, s266_28, s266_31, s266_32, s266_33, s266_34, s266_35, s266_36, s266_39, s266_40, s266_42, s266_43, s266_44, s266_45, s266_48, s266_49, s266_52, s266_53, s266_55, s266_56, x_M_n, hn, Option.bind_some, Option.toList_some, Option.toList_none, List.nil_append, List.cons_append, nI_lt hb (show n < 2 ^ 31 by omega), if_true, z0, z1, bI_z]
      cases s.testBit a <;> cases s.testBit b <;> simp only [Bool.true_eq_false, if_true, if_false, Bool.not_true, Bool.not_false, Bool.and_self, Bool.and_false, Bool.false_and, bI_t, bI_f, s266_24, s266_25, s266_28, s266_31, s266_32, s266_33, s266_34, s266_35, s266_36, s266_39, s266_40, s266_42, s266_43, s266_44, s266_45, s266_48, s266_49, s266_52, s266_53, s266_55, s266_56]) (nI 0) (.null, .null, .null) trivial
  simp only [s266_0, s266_1, s266_4, s266_5, s266_6, s266_7, s266_8, s266_10, s266_11, s266_14, s266_17, s266_18, s266_19, s266_20, s266_24, s266_25, s266_28, s266_31, s266_32, s266_33, s266_34, s266_35, s266_36, s266_39, s266_40, s266_42, s266_43, s266_44, s266_45, s266_48, s266_49, s266_52, s266_53, s266_55, s266_56, s266_60, s266_61, s266_64, s266_67, s266_69, s266_72, s266_73, s266_74, s266_76, s266_78, s266_81, s266_84, s266_85, s266_88, s266_89, s266_91, s266_94, s266_97, s266_98, s266_100, s266_103, s266_104, s266_107, s266_108, s266_109, s266_110, s266_113, s266_116, s266_119, s266_122, s266_123, lo, Option.bind_some, Option.toList_some, Option.toList_none, List.nil_append, List.cons_append]
  exact L
theorem x_M_isMutation (hn : m 1 0 = nI n) (hn6 : n ≤ 6) (hab : a < b) (hbc : b < c) (hc : c < 6) : ev (d + 8) 253 0 [.ref 0, .int (nI a), .int (nI b), .int (nI c), .null, .null] [] (mk shM m q) = some (some (.int (bI (muM n (m 1) a b c))), mk shM m q) := by
  have ib := x_M_isBase (d := d + 5) (m := m) (q := q) (show a < 6 by omega) (show b < 6 by omega) hc
  unfold muM
  cases hB : baB (m 1) a b c with
  | false =>
    rw [hB] at ib
    simp only [s253_0, s253_1, s253_2, s253_3, s253_4, s253_7, s253_10, s253_11, s253_12, s253_13, s253_14, s253_15, s253_16, s253_19, s253_21, s253_22, s253_23, s253_24, s253_25, s253_27, s253_28, s253_31, s253_32, s253_35, s253_37, s253_38, s253_39, s253_40, s253_41, s253_43, s253_46, s253_48, ib, Option.bind_some, Option.toList_some, Option.toList_none, List.nil_append, List.cons_append, bI_z, if_true, Bool.false_and, bI_f, am_b0, nI00]
  | true =>
    rw [hB] at ib
    have s := x_M_signOf (d := d + 6) (m := m) (q := q) (show a < 6 by omega) (show b < 6 by omega) hc
    have t1 := x_M_signs (d := d + 6) (v := -(mS (m 1) a b c)) (m := m) (q := q) (show a < 6 by omega) (show b < 6 by omega) hc (by omega)
    have o := x_M_isOrderly (d := d) (m := mu m 1 (sgU (m 1) a b c (-(mS (m 1) a b c)))) (q := q) (n := n) (by rw [mu_same, sgU_0]; exact hn) hn6
    rw [mu_same] at o
    have t2 := x_M_signs (d := d + 6) (v := mS (m 1) a b c) (m := mu m 1 (sgU (m 1) a b c (-(mS (m 1) a b c)))) (q := q) (show a < 6 by omega) (show b < 6 by omega) hc (by omega)
    rw [mu_same, mu_mu, sgU_back hab hbc, mu_self] at t2
    simp only [s253_0, s253_1, s253_2, s253_3, s253_4, s253_7, s253_10, s253_11, s253_12, s253_13, s253_14, s253_15, s253_16, s253_19, s253_21, s253_22, s253_23, s253_24, s253_25, s253_27, s253_28, s253_31, s253_32, s253_35, s253_37, s253_38, s253_39, s253_40, s253_41, s253_43, s253_46, s253_48, ib, Option.bind_some, Option.toList_some, Option.toList_none, List.nil_append, List.cons_append, bI_z, Bool.true_eq_false, if_false, s, t1, o, t2, bI_b, Bool.true_and]
theorem x_M_mutation {z : Int32} (hn : m 1 0 = nI n) (hn6 : n ≤ 6) : ev (d + 9) 252 0 [.ref 0, .int z, .null, .null, .null, .null, .null, .null] [] (mk shM m q) = some (some (.int (if orM n (m 1) = true then (if (!decide (z < -1) && !decide (nI (n * (n - 1) * (n - 2) / 6) - nI 1 < z)) = true then mtM n (m 1) z else -1001) else -1003)), mk shM m q) := by
  have o := x_M_isOrderly (d := d + 1) (m := m) (q := q) hn hn6
  have I := x_M_in (d := d + 8) (x := z) (lo := -1) (hi := nI (n * (n - 1) * (n - 2) / 6) - nI 1) (h := mk shM m q)
  rw [show (-1 : Int32).toInt64 = -1 by decide] at I
  have L := ev_for3 (fun _ => True) (fun a (x : Nat × Int32) (v : Value × Value × Value) => ev (d + 9) 252 43 [.ref 0, .int z, .int (nI x.1), .int x.2, .int (nI a), v.1, v.2.1, v.2.2] [] (mk shM m q))
    (fun a b x v => ev (d + 9) 252 58 [.ref 0, .int z, .int (nI x.1), .int x.2, .int (nI a), .int (nI b), v.2.1, v.2.2] [] (mk shM m q))
    (fun a b c x v => ev (d + 9) 252 73 [.ref 0, .int z, .int (nI x.1), .int x.2, .int (nI a), .int (nI b), .int (nI c), v.2.2] [] (mk shM m q))
    (fun x => some (some (.int x.2), mk shM m q)) (fun a b c x => mtS n (m 1) z x a b c) n
    (fun x v _ => by rw [s252_43]; simp only [s252_0, s252_1, s252_4, s252_7, s252_10, s252_11, s252_12, s252_13, s252_16, s252_17, s252_20, s252_23, s252_24, s252_25, s252_26, s252_29, s252_32, s252_35, s252_36, s252_37, s252_38, s252_39, s252_40, s252_41, s252_45, s252_46, s252_49, s252_52, s252_54, s252_55, s252_56, s252_60, s252_61, s252_64, s252_67, s252_69, s252_70, s252_71, s252_75, s252_76, s252_79, s252_82, s252_83, s252_86, s252_87, s252_88, s252_91, s252_92, s252_94, s252_96, s252_98, s252_101, s252_104, s252_105, s252_108, s252_109, s252_111, s252_112, s252_114, s252_117, s252_118, s252_121, s252_122, s252_123, s252_124, s252_127, s252_130, s252_133, s252_136, s252_139, s252_142, s252_145, s252_146, x_M_n, hn, Option.bind_some, Option.toList_some, Option.toList_none, List.nil_append, List.cons_append, nI_irr, if_false])
    (fun a x v ha _ => ⟨v, by rw [s252_43]; simp only [s252_0, s252_1, s252_4, s252_7, s252_10, s252_11, s252_12, s252_13, s252_16, s252_17, s252_20, s252_23, s252_24, s252_25, s252_26, s252_29, s252_32, s252_35, s252_36, s252_37, s252_38, s252_39, s252_40, s252_41, s252_45, s252_46, s252_49, s252_52, s252_54, s252_55, s252_56, s252_60, s252_61, s252_64, s252_67, s252_69, s252_70, s252_71, s252_75, s252_76, s252_79, s252_82, s252_83, s252_86, s252_87, s252_88, s252_91, s252_92, s252_94, s252_96, s252_98, s252_101, s252_104, s252_105, s252_108, s252_109, s252_111, s252_112, s252_114, s252_117, s252_118, s252_121, s252_122, s252_123, s252_124, s252_127, s252_130, s252_133, s252_136, s252_139, s252_142, s252_145, s252_146, x_M_n, hn, Option.bind_some, Option.toList_some, Option.toList_none, List.nil_append, List.cons_append, nI_lt ha (show n < 2 ^ 31 by omega), if_true, nI_add]⟩)
    (fun a x v ha _ => ⟨(.int (nI n), v.2), by rw [s252_58]; simp only [s252_0, s252_1, s252_4, s252_7, s252_10, s252_11, s252_12, s252_13, s252_16, s252_17, s252_20, s252_23, s252_24, s252_25, s252_26, s252_29, s252_32, s252_35, s252_36, s252_37, s252_38, s252_39, s252_40, s252_41, s252_45, s252_46, s252_49, s252_52, s252_54, s252_55, s252_56, s252_60, s252_61, s252_64, s252_67, s252_69, s252_70, s252_71, s252_75, s252_76, s252_79, s252_82, s252_83, s252_86, s252_87, s252_88, s252_91, s252_92, s252_94, s252_96, s252_98, s252_101, s252_104, s252_105, s252_108, s252_109, s252_111, s252_112, s252_114, s252_117, s252_118, s252_121, s252_122, s252_123, s252_124, s252_127, s252_130, s252_133, s252_136, s252_139, s252_142, s252_145, s252_146, x_M_n, hn, Option.bind_some, Option.toList_some, Option.toList_none, List.nil_append, List.cons_append, nI_irr, if_false, nI_add]⟩)
    (fun a b x v hab hb _ => ⟨v, by rw [s252_58]; simp only [s252_0, s252_1, s252_4, s252_7, s252_10, s252_11, s252_12, s252_13, s252_16, s252_17, s252_20, s252_23, s252_24, s252_25, s252_26, s252_29, s252_32, s252_35, s252_36, s252_37, s252_38, s252_39, s252_40, s252_41, s252_45, s252_46, s252_49, s252_52, s252_54, s252_55, s252_56, s252_60, s252_61, s252_64, s252_67, s252_69, s252_70, s252_71, s252_75, s252_76, s252_79, s252_82, s252_83, s252_86, s252_87, s252_88, s252_91, s252_92, s252_94, s252_96, s252_98, s252_101, s252_104, s252_105, s252_108, s252_109, s252_111, s252_112, s252_114, s252_117, s252_118, s252_121, s252_122, s252_123, s252_124, s252_127, s252_130, s252_133, s252_136, s252_139, s252_142, s252_145, s252_146, x_M_n, hn, Option.bind_some, Option.toList_some, Option.toList_none, List.nil_append, List.cons_append, nI_lt hb (show n < 2 ^ 31 by omega), if_true, nI_add]⟩)
    (fun a b x v hab hb _ => ⟨(v.1, .int (nI n), v.2.2), by rw [s252_73]; simp only [s252_0, s252_1, s252_4, s252_7, s252_10, s252_11, s252_12, s252_13, s252_16, s252_17, s252_20, s252_23, s252_24, s252_25, s252_26, s252_29, s252_32, s252_35, s252_36, s252_37, s252_38, s252_39, s252_40, s252_41, s252_45, s252_46, s252_49, s252_52, s252_54, s252_55, s252_56, s252_60, s252_61, s252_64, s252_67, s252_69, s252_70, s252_71, s252_75, s252_76, s252_79, s252_82, s252_83, s252_86, s252_87, s252_88, s252_91, s252_92, s252_94, s252_96, s252_98, s252_101, s252_104, s252_105, s252_108, s252_109, s252_111, s252_112, s252_114, s252_117, s252_118, s252_121, s252_122, s252_123, s252_124, s252_127, s252_130, s252_133, s252_136, s252_139, s252_142, s252_145, s252_146, x_M_n, hn, Option.bind_some, Option.toList_some, Option.toList_none, List.nil_append, List.cons_append, nI_irr, if_false, nI_add]⟩)
    (fun _ _ _ _ _ _ _ _ => trivial)
    (fun a b c x v hab hbc hc _ => by
      have im := x_M_isMutation (d := d) (m := m) (q := q) hn hn6 hab hbc (show c < 6 by omega)
      -- behind the asking
      have P : ∀ w : Bool, ev (d + 9) 252 109 [.ref 0, .int z, .int (nI x.1), .int x.2, .int (nI a), .int (nI b), .int (nI c), v.2.2] [.int (bI w)] (mk shM m q) = ev (d + 9) 252 73 [.ref 0, .int z, .int (nI (x.1 + 1)), .int (x.2 + if w = true then nI 1 else nI 0), .int (nI a), .int (nI b), .int (nI (c + 1)), .int (bI w)] [] (mk shM m q) := fun w => by
        cases w <;> simp only [s252_109, s252_111, s252_112, s252_114, s252_117, s252_118, s252_121, s252_122, s252_123, s252_124, s252_127, s252_130, bI_z, Bool.true_eq_false, Bool.false_eq_true, if_true, if_false, nI_add, bI_t, bI_f, nI00, nI10]
      have P1 := P true
      have P0 := P false
      rw [bI_t] at P1
      rw [bI_f] at P0
      have Q : ev (d + 9) 252 91 [.ref 0, .int z, .int (nI x.1), .int x.2, .int (nI a), .int (nI b), .int (nI c), v.2.2] [] (mk shM m q) = ev (d + 9) 252 73 [.ref 0, .int z, .int (nI (x.1 + 1)), .int (x.2 + if muM n (m 1) a b c = true then nI 1 else nI 0), .int (nI a), .int (nI b), .int (nI (c + 1)), .int (bI (muM n (m 1) a b c))] [] (mk shM m q) := by
        simp only [s252_91, s252_92, s252_94, s252_96, s252_98, s252_101, s252_104, s252_105, s252_108, im, Option.bind_some, Option.toList_some, Option.toList_none, List.nil_append, List.cons_append, bI_z]
        cases muM n (m 1) a b c <;> simp only [Bool.true_eq_false, if_true, if_false, s252_91, s252_92, s252_94, s252_96, s252_98, s252_101, s252_104, s252_105, s252_108, P1, P0, bI_t, bI_f]
      unfold mtS
      by_cases h0 : z < 0
      · refine ⟨(v.1, v.2.1, .int (bI (muM n (m 1) a b c))), ?_⟩
        rw [s252_73]
        simp only [s252_75, s252_76, s252_79, s252_82, s252_83, s252_86, s252_87, s252_88, x_M_n, hn, Option.bind_some, Option.toList_some, Option.toList_none, List.nil_append, List.cons_append, nI_lt hc (show n < 2 ^ 31 by omega), if_true, h0, Q, true_or, true_and]
      · by_cases h1 : nI x.1 = z
        · refine ⟨(v.1, v.2.1, .int (bI (muM n (m 1) a b c))), ?_⟩
          rw [s252_73]
          simp only [s252_75, s252_76, s252_79, s252_82, s252_83, s252_86, s252_87, s252_88, x_M_n, hn, Option.bind_some, Option.toList_some, Option.toList_none, List.nil_append, List.cons_append, nI_lt hc (show n < 2 ^ 31 by omega), if_true, if_false, h0, eq_true h1, Q, or_true, true_and]
        · refine ⟨(v.1, v.2.1, .int (nI 0)), ?_⟩
          rw [s252_73]
          simp only [s252_75, s252_76, s252_79, s252_82, s252_83, s252_86, s252_87, s252_88, s252_108, x_M_n, hn, Option.bind_some, Option.toList_some, Option.toList_none, List.nil_append, List.cons_append, nI_lt hc (show n < 2 ^ 31 by omega), if_true, if_false, h0, eq_false h1, P0, or_self, false_and, Bool.false_eq_true]) (0, nI 0) (.null, .null, .null) trivial
  rw [show ((trip n).foldl (fun x τ => mtS n (m 1) z x τ.1 τ.2.1 τ.2.2) (0, nI 0)).2 = mtM n (m 1) z from rfl] at L
  cases ho : orM n (m 1) with
  | false => simp only [s252_0, s252_1, s252_4, s252_7, s252_10, s252_11, s252_12, s252_13, s252_16, s252_17, s252_20, s252_23, s252_24, s252_25, s252_26, s252_29, s252_32, s252_35, s252_36, s252_37, s252_38, s252_39, s252_40, s252_41, s252_45, s252_46, s252_49, s252_52, s252_54, s252_55, s252_56, s252_60, s252_61, s252_64, s252_67, s252_69, s252_70, s252_71, s252_75, s252_76, s252_79, s252_82, s252_83, s252_86, s252_87, s252_88, s252_91, s252_92, s252_94, s252_96, s252_98, s252_101, s252_104, s252_105, s252_108, s252_109, s252_111, s252_112, s252_114, s252_117, s252_118, s252_121, s252_122, s252_123, s252_124, s252_127, s252_130, s252_133, s252_136, s252_139, s252_142, s252_145, s252_146, o, Option.bind_some, Option.toList_some, Option.toList_none, List.nil_append, List.cons_append, bI_z, ho, if_true, Bool.false_eq_true, if_false]
  | true =>
    simp only [s252_0, s252_1, s252_4, s252_7, s252_10, s252_11, s252_12, s252_13, s252_16, s252_17, s252_20, s252_23, s252_24, s252_25, s252_26, s252_29, s252_32, s252_35, s252_36, s252_37, s252_38, s252_39, o, Option.bind_some, Option.toList_some, Option.toList_none, List.nil_append, List.cons_append, bI_z, ho, Bool.true_eq_false, if_true, if_false, x_M_n, hn, x_M_triples hn6, I]
    cases (!decide (z < -1) && !decide (nI (n * (n - 1) * (n - 2) / 6) - nI 1 < z)) with
    | false => simp only [if_true, Bool.false_eq_true, if_false, s252_0, s252_1, s252_4, s252_7, s252_10, s252_11, s252_12, s252_13, s252_16, s252_17, s252_20, s252_23, s252_24, s252_25, s252_26, s252_29, s252_32, s252_35, s252_36, s252_37, s252_38, s252_39, s252_40, s252_41]
    | true =>
      simp only [Bool.true_eq_false, if_true, if_false, s252_0, s252_1, s252_4, s252_7, s252_10, s252_11, s252_12, s252_13, s252_16, s252_17, s252_20, s252_23, s252_24, s252_25, s252_26, s252_29, s252_32, s252_35, s252_36, s252_37, s252_38, s252_39, s252_40, s252_41]
      exact L
theorem exS_0 {n : Nat} {y : (Nat → Int32) × Nat} {a b : Nat} : (exS n y a b).1 0 = y.1 0 := sgU_0
theorem exR_0 {n c : Nat} {R : Nat → Int32} : exR n c R 0 = R 0 := by
  unfold exR
  exact fold_inv (P := fun y : (Nat → Int32) × Nat => y.1 0 = R 0) (fun t _ y hy => exS_0.trans hy) rfl
theorem p3p : ∀ n, n ≤ 4 → n * (n - 1) / 2 ≤ 6 := by decide
theorem x_M_extL {R : Nat → Int32} (hR : R 0 = nI (n + 1)) (h4 : n ≤ 4) (hk : k = n * (n - 1) / 2) : ∃ v5 v6 v7, ev (d + 8) 254 76 [.ref 0, .int (nI n), .int (nI 0), .int (nI k), .int (nI 0), .null, .null, .null] [] (mk shM (mu m 1 R) q) = ev (d + 8) 254 164 [.ref 0, .int (nI n), .int ((rg 0 (3 ^ k)).foldl (fun x c => (exR n c x.1, x.2 + if orM (n + 1) (exR n c x.1) = true then nI 1 else nI 0)) (R, nI 0)).2, .int (nI k), .int (nI (3 ^ k)), v5, v6, v7] [] (mk shM (mu m 1 ((rg 0 (3 ^ k)).foldl (fun x c => (exR n c x.1, x.2 + if orM (n + 1) (exR n c x.1) = true then nI 1 else nI 0)) (R, nI 0)).1) q) := by
  have k6 : k ≤ 6 := by rw [hk]; exact p3p n h4
  have hp := p3_le k k6
  have pw : ∀ {D : Nat} {mm : Mem}, ev D 233 0 [.int (nI k), .null, .null] [] (mk shM mm q) = some (some (.int (nI (3 ^ k))), mk shM mm q) := x_M_power k6
  obtain ⟨v', h⟩ := ev_for1e (fun x => x.1 0 = nI (n + 1)) (fun c (x : (Nat → Int32) × Int32) (v : Value × Value × Value) => ev (d + 8) 254 76 [.ref 0, .int (nI n), .int x.2, .int (nI k), .int (nI c), v.1, v.2.1, v.2.2] [] (mk shM (mu m 1 x.1) q))
    (fun x (v : Value × Value × Value) => ev (d + 8) 254 164 [.ref 0, .int (nI n), .int x.2, .int (nI k), .int (nI (3 ^ k)), v.1, v.2.1, v.2.2] [] (mk shM (mu m 1 x.1) q)) (fun c x => (exR n c x.1, x.2 + if orM (n + 1) (exR n c x.1) = true then nI 1 else nI 0)) (3 ^ k)
    (fun x v _ => ⟨v, by rw [s254_76]; simp only [s254_78, s254_79, s254_82, s254_85, s254_87, s254_89, s254_90, pw, Option.bind_some, Option.toList_some, Option.toList_none, List.nil_append, List.cons_append, nI_irr, if_false]⟩)
    (fun c x _ hx => exR_0.trans hx)
    (fun c x v hc hx => by
      obtain ⟨v1, L⟩ := ev_for2e (fun y => y.1 0 = nI (n + 1) ∧ y.2 < 729) (fun a (y : (Nat → Int32) × Nat) (v : Value) => ev (d + 8) 254 92 [.ref 0, .int (nI n), .int x.2, .int (nI k), .int (nI c), .int (nI y.2), .int (nI a), v] [] (mk shM (mu m 1 y.1) q))
        (fun a b y v => ev (d + 8) 254 104 [.ref 0, .int (nI n), .int x.2, .int (nI k), .int (nI c), .int (nI y.2), .int (nI a), .int (nI b)] [] (mk shM (mu m 1 y.1) q))
        (fun y (v : Value) => ev (d + 8) 254 76 [.ref 0, .int (nI n), .int (x.2 + if orM (n + 1) y.1 = true then nI 1 else nI 0), .int (nI k), .int (nI (c + 1)), .int (nI y.2), .int (nI n), v] [] (mk shM (mu m 1 y.1) q)) (fun a b y => exS n y a b) n
        (fun y v hy => ⟨v, by
          have o := x_M_isOrderly (d := d) (m := mu m 1 y.1) (q := q) (n := n + 1) (by rw [mu_same]; exact hy.1) (by omega)
          rw [mu_same] at o
          rw [s254_92]
          simp only [s254_94, s254_95, s254_98, s254_100, s254_101, s254_102, s254_106, s254_107, s254_110, s254_111, s254_113, s254_115, s254_116, s254_118, s254_119, s254_120, s254_121, s254_122, s254_125, s254_127, s254_128, s254_129, s254_131, s254_134, s254_137, s254_140, s254_143, s254_144, s254_145, s254_148, s254_151, s254_152, s254_155, s254_156, s254_157, s254_158, s254_161, nI_irr, if_false, o, Option.bind_some, Option.toList_some, Option.toList_none, List.nil_append, List.cons_append, bI_z]
          cases orM (n + 1) y.1 <;> simp only [Bool.true_eq_false, Bool.false_eq_true, if_true, if_false, s254_143, s254_144, s254_145, s254_148, s254_151, s254_152, s254_155, s254_156, s254_157, s254_158, s254_161, nI_add]⟩)
        (fun a y v ha _ => ⟨v, by rw [s254_92]; simp only [s254_94, s254_95, s254_98, s254_100, s254_101, s254_102, nI_lt ha (show n < 2 ^ 31 by omega), if_true, nI_add]⟩)
        (fun a y v ha _ => ⟨.int (nI n), by rw [s254_104]; simp only [s254_106, s254_107, s254_110, s254_111, s254_113, s254_115, s254_116, s254_118, s254_119, s254_120, s254_121, s254_122, s254_125, s254_127, s254_128, s254_129, s254_131, s254_134, s254_137, s254_140, nI_irr, if_false, nI_add]⟩)
        (fun a b y _ _ hy => by
          have : y.2 / 3 ≤ y.2 := Nat.div_le_self _ _
          exact ⟨exS_0.trans hy.1, Nat.lt_of_le_of_lt this hy.2⟩)
        (fun a b y v hab hb hy0 => ⟨v, by
          have hy := hy0.2
          have st := x_M_signs (d := d + 6) (v := nI (y.2 % 3) - nI 1) (m := mu m 1 y.1) (q := q) (show a < 6 by omega) (show b < 6 by omega) (show n < 6 by omega) (by omega)
          rw [mu_same, mu_mu] at st
          have e3 : nI y.2 / nI 3 = nI (y.2 / 3) := nI_div (show y.2 < 2 ^ 31 by omega) (show 3 < 2 ^ 31 by decide)
          have e4 : nI y.2 - nI (y.2 / 3) * nI 3 = nI (y.2 % 3) := by
            rw [← e3]
            exact pk_rem (show y.2 < 2 ^ 31 by omega) (show 0 < 3 by decide) (show 3 < 2 ^ 31 by decide)
          rw [s254_104]
          simp only [s254_106, s254_107, s254_110, s254_111, s254_113, s254_115, s254_116, s254_118, s254_119, s254_120, s254_121, s254_122, s254_125, s254_127, s254_128, s254_129, s254_131, s254_134, s254_137, s254_140, nI_lt hb (show n < 2 ^ 31 by omega), if_true, show ¬ nI 3 = 0 by decide, not_false_eq_true, e3, e4, st, Option.bind_some, Option.toList_some, Option.toList_none, List.nil_append, List.cons_append, nI_add]
          rfl⟩) (x.1, c) v.2.2 ⟨hx, show c < 729 by omega⟩
      refine ⟨(.int (nI ((prs n).foldl (fun y t => exS n y t.1 t.2) (x.1, c)).2), .int (nI n), v1), ?_⟩
      refine Eq.trans ?_ L
      rw [s254_76]
      simp only [s254_78, s254_79, s254_82, s254_85, s254_87, s254_89, s254_90, pw, Option.bind_some, Option.toList_some, Option.toList_none, List.nil_append, List.cons_append, nI_lt hc (show 3 ^ k < 2 ^ 31 by omega), if_true]) 0 (Nat.zero_le _) (R, nI 0) (.null, .null, .null) hR
  exact ⟨v'.1, v'.2.1, v'.2.2, h⟩
theorem exF_hi {n : Nat} {R R0 : Nat → Int32} {l : List Nat} {x : (Nat → Int32) × Int32} (h5 : n < 6) (hx : ∀ i, 39 ≤ i → x.1 i = R0 i) : ∀ i, 39 ≤ i → (l.foldl (fun x c => (exR n c x.1, x.2 + if orM (n + 1) (exR n c x.1) = true then nI 1 else nI 0)) x).1 i = R0 i := by
  refine fold_inv (P := fun x : (Nat → Int32) × Int32 => ∀ i, 39 ≤ i → x.1 i = R0 i) (fun c _ x hx => ?_) hx
  intro i hi
  have : ∀ i, 39 ≤ i → exR n c x.1 i = x.1 i := by
    unfold exR
    refine fold_inv (P := fun y : (Nat → Int32) × Nat => ∀ i, 39 ≤ i → y.1 i = x.1 i) (fun t ht y hy i hi => ?_) (fun _ _ => rfl)
    have := prs_mem.mp ht
    have p := pT_lt (show t.1 < 6 by omega) (show t.2 < 6 by omega) (show n < 6 by omega) (by omega)
    show upd y.1 (1 + pT t.1 t.2 n) _ i = _
    simp only [upd]
    rw [if_neg (by omega)]
    exact hy i hi
  dsimp only
  rw [this i hi]
  exact hx i hi
def exA4 (n : Nat) (R : Nat → Int32) : Int32 := if orM n R = true ∧ n ≤ 4 then (exF n R).2 else -1003
theorem x_M_extensions (hn : m 1 0 = nI n) (h1 : 1 ≤ n) (hn6 : n ≤ 6) : ∃ W, ev (d + 8) 254 0 [.ref 0, .null, .null, .null, .null, .null, .null, .null] [] (mk shM m q) = some (some (.int (exA4 n (m 1))), mk shM (mu m 9 W) q) := by
  have o := x_M_isOrderly (d := d) (m := m) (q := q) hn hn6
  unfold exA4
  cases ho : orM n (m 1) with
  | false =>
    refine ⟨m 9, ?_⟩
    rw [mu_self]
    simp only [s254_0, s254_1, s254_4, s254_7, s254_8, s254_11, s254_12, s254_15, s254_18, s254_19, s254_20, s254_23, s254_24, s254_25, s254_26, s254_27, s254_28, s254_29, s254_30, s254_31, s254_32, s254_33, s254_34, s254_35, s254_39, s254_41, s254_44, s254_45, s254_48, s254_50, s254_51, s254_54, s254_56, s254_57, s254_58, s254_61, s254_64, s254_65, s254_68, s254_69, s254_70, s254_71, s254_72, s254_73, s254_74, s254_78, s254_79, s254_82, s254_85, s254_87, s254_89, s254_90, s254_94, s254_95, s254_98, s254_100, s254_101, s254_102, s254_106, s254_107, s254_110, s254_111, s254_113, s254_115, s254_116, s254_118, s254_119, s254_120, s254_121, s254_122, s254_125, s254_127, s254_128, s254_129, s254_131, s254_134, s254_137, s254_140, s254_143, s254_144, s254_145, s254_148, s254_151, s254_152, s254_155, s254_156, s254_157, s254_158, s254_161, s254_164, s254_165, s254_169, s254_171, s254_174, s254_175, s254_178, s254_180, s254_181, s254_184, s254_186, s254_187, s254_188, s254_191, s254_194, s254_195, o, Option.bind_some, Option.toList_some, Option.toList_none, List.nil_append, List.cons_append, bI_z, ho, if_true, Bool.false_eq_true, false_and, if_false]
  | true =>
    by_cases h4 : n ≤ 4
    · have l4 : ¬ nI 4 < nI n := by rw [nI_ltI (by decide) (by omega)]; omega
      have hk6 := p3p n h4
      have hpr : nI n * nI (n - 1) / nI 2 = nI (n * (n - 1) / 2) := by
        rw [pk_mul, nI_div (by
          have : n * (n - 1) ≤ 4 * 4 := Nat.mul_le_mul h4 (by omega)
          omega) (by decide)]
      have st : ∀ W : Nat → Int32, ev (d + 8) 254 37 [.ref 0, .int (nI n), .int (nI 0), .int (nI (n * (n - 1) / 2)), .int (nI 39), .null, .null, .null] [] (mk shM (mu m 9 W) q) = ev (d + 8) 254 76 [.ref 0, .int (nI n), .int (nI 0), .int (nI (n * (n - 1) / 2)), .int (nI 0), .null, .null, .null] [] (mk shM (mu (mu m 9 W) 1 (upd (m 1) 0 (nI (n + 1)))) q) := fun W => by
        rw [s254_37]
        simp only [s254_39, s254_41, s254_44, s254_45, s254_48, s254_50, s254_51, s254_54, s254_56, s254_57, s254_58, s254_61, s254_64, s254_65, s254_68, s254_69, s254_70, s254_71, s254_72, s254_73, s254_74, nI_irr, if_false, tM1, nM1, show 0 < 429 by decide, nI_add, mu_ne (show (1 : Nat) ≠ 9 by decide)]
      obtain ⟨⟨W, u1⟩, hW, e1⟩ := ev_up (fun i (w : (Nat → Int32) × Unit) => ∀ k, k < i → w.1 k = m 1 k) (fun i w => ev (d + 8) 254 37 [.ref 0, .int (nI n), .int (nI 0), .int (nI (n * (n - 1) / 2)), .int (nI i), .null, .null, .null] [] (mk shM (mu m 9 w.1) q)) 39 (m 9, ()) (fun k hk => by omega)
        (fun i w hi hw => ⟨(upd w.1 i (m 1 i), ()), fun k hk => by
          simp only [upd]
          by_cases hki : k = i
          · rw [if_pos hki, hki]
          · rw [if_neg hki]; exact hw k (by omega), by
          rw [s254_37]
          simp only [s254_39, s254_41, s254_44, s254_45, s254_48, s254_50, s254_51, s254_54, s254_56, s254_57, s254_58, s254_61, nI_lt hi (show 39 < 2 ^ 31 by decide), if_true, tM9, nM9, tM1, nM1, hi, show i < 429 by omega, mu_mu, mu_same, mu_ne (show (1 : Nat) ≠ 9 by decide), nI_add]⟩) 39 (Nat.le_refl _)
      rw [mu_self] at e1
      have hW : ∀ k, k < 39 → W k = m 1 k := hW
      obtain ⟨v5, v6, v7, e2⟩ := x_M_extL (d := d) (m := mu m 9 W) (q := q) (n := n) (R := upd (m 1) 0 (nI (n + 1))) (by simp [upd]) h4 rfl
      rw [show (rg 0 (3 ^ (n * (n - 1) / 2))).foldl (fun x c => (exR n c x.1, x.2 + if orM (n + 1) (exR n c x.1) = true then nI 1 else nI 0)) (upd (m 1) 0 (nI (n + 1)), nI 0) = exF n (m 1) from rfl] at e2
      have hi39 : ∀ i, 39 ≤ i → (exF n (m 1)).1 i = m 1 i := exF_hi (R := m 1) (by omega) fun i hi => by
        simp only [upd]
        rw [if_neg (by omega)]
      generalize (exF n (m 1)).1 = R2 at e2 hi39
      obtain ⟨⟨R3, u3⟩, hR3, e3⟩ := ev_up (fun i (w : (Nat → Int32) × Unit) => (∀ k, k < i → w.1 k = m 1 k) ∧ ∀ k, 39 ≤ k → w.1 k = m 1 k) (fun i w => ev (d + 8) 254 167 [.ref 0, .int (nI n), .int (exF n (m 1)).2, .int (nI (n * (n - 1) / 2)), .int (nI i), v5, v6, v7] [] (mk shM (mu (mu m 9 W) 1 w.1) q)) 39 (R2, ()) ⟨fun k hk => by omega, hi39⟩
        (fun i w hi hw => ⟨(upd w.1 i (m 1 i), ()), ⟨fun k hk => by
          simp only [upd]
          by_cases hki : k = i
          · rw [if_pos hki, hki]
          · rw [if_neg hki]; exact hw.1 k (by omega), fun k hk => by
          simp only [upd]
          rw [if_neg (by omega)]
          exact hw.2 k hk⟩, by
          rw [s254_167]
          simp only [s254_169, s254_171, s254_174, s254_175, s254_178, s254_180, s254_181, s254_184, s254_186, s254_187, s254_188, s254_191, s254_194, s254_195, nI_lt hi (show 39 < 2 ^ 31 by decide), if_true, tM9, nM9, tM1, nM1, hi, show i < 429 by omega, mu_mu, mu_same, mu_ne (show (9 : Nat) ≠ 1 by decide), hW i hi, nI_add]⟩) 39 (Nat.le_refl _)
      have hR : R3 = m 1 := by
        funext i
        rcases Nat.lt_or_ge i 39 with h | h
        · exact hR3.1 i h
        · exact hR3.2 i h
      have hm9 : mu (mu m 9 W) 1 R3 = mu m 9 W := by
        rw [hR]
        have := mu_self (m := mu m 9 W) (k := 1)
        rwa [mu_ne (show (1 : Nat) ≠ 9 by decide)] at this
      refine ⟨W, ?_⟩
      simp only [s254_0, s254_1, s254_4, s254_7, s254_8, s254_11, s254_12, s254_15, s254_18, s254_19, s254_20, s254_23, s254_24, s254_25, s254_26, s254_27, s254_28, s254_29, s254_30, s254_31, s254_32, s254_33, s254_34, s254_35, o, Option.bind_some, Option.toList_some, Option.toList_none, List.nil_append, List.cons_append, bI_z, ho, Bool.true_eq_false, if_true, if_false, x_M_n, hn, l4, nI_sub h1, hpr, show ¬ nI 2 = 0 by decide, not_false_eq_true, true_and, h4]
      refine e1.trans ((st W).trans (e2.trans ?_))
      simp only [s254_164, s254_165]
      refine e3.trans ?_
      rw [s254_167]
      simp only [s254_169, s254_171, s254_174, s254_175, s254_178, s254_180, s254_181, s254_184, s254_186, s254_187, s254_188, s254_191, s254_194, s254_195, nI_irr, if_false, hm9]
    · have l4 : nI 4 < nI n := by rw [nI_ltI (by decide) (by omega)]; omega
      refine ⟨m 9, ?_⟩
      rw [mu_self]
      simp only [s254_0, s254_1, s254_4, s254_7, s254_8, s254_11, s254_12, s254_15, s254_18, s254_19, s254_20, s254_23, s254_24, s254_25, s254_26, s254_27, s254_28, s254_29, s254_30, s254_31, s254_32, s254_33, s254_34, s254_35, s254_39, s254_41, s254_44, s254_45, s254_48, s254_50, s254_51, s254_54, s254_56, s254_57, s254_58, s254_61, s254_64, s254_65, s254_68, s254_69, s254_70, s254_71, s254_72, s254_73, s254_74, s254_78, s254_79, s254_82, s254_85, s254_87, s254_89, s254_90, s254_94, s254_95, s254_98, s254_100, s254_101, s254_102, s254_106, s254_107, s254_110, s254_111, s254_113, s254_115, s254_116, s254_118, s254_119, s254_120, s254_121, s254_122, s254_125, s254_127, s254_128, s254_129, s254_131, s254_134, s254_137, s254_140, s254_143, s254_144, s254_145, s254_148, s254_151, s254_152, s254_155, s254_156, s254_157, s254_158, s254_161, s254_164, s254_165, s254_169, s254_171, s254_174, s254_175, s254_178, s254_180, s254_181, s254_184, s254_186, s254_187, s254_188, s254_191, s254_194, s254_195, o, Option.bind_some, Option.toList_some, Option.toList_none, List.nil_append, List.cons_append, bI_z, ho, Bool.true_eq_false, if_true, if_false, x_M_n, hn, l4, true_and, h4]
end
