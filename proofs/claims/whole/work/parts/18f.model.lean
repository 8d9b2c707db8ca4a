/-! the model: fives, orderly, drawn, is -/
def gdM (x y z : Int32) : Bool := (decide (0 < x) || (decide (0 < y) || decide (0 < z))) == (decide (x < 0) || (decide (y < 0) || decide (z < 0)))
def gM5 (R : Nat → Int32) (a b c d e : Nat) : Bool := gdM (mS R a b c * mS R a d e) (-(mS R a b d) * mS R a c e) (mS R a b e * mS R a c d)
def bsR (one other : Nat) : Nat → Nat → Nat → Option Nat
  | 0, _, _ => none
  | u + 1, left, e => if 0 < left ∨ e = one ∨ e = other then bsR one other u (if e = one ∨ e = other then left else left - 1) (e + 1) else some e
def bsd (one other k : Nat) : Nat := (bsR one other 10 k 0).getD 0
theorem bsd_b : ∀ a, a < 6 → ∀ o, o < 6 → ∀ k, k < 4 → (decide (bsR a o 10 k 0 = some (bsd a o k)) && (decide (bsd a o k < 7) && (decide (a = o) || decide (bsd a o k < 6)))) = true := by decide +kernel
def bfT (R : Nat → Int32) (a : Nat) (x : Int32) (o : Nat) : Int32 := if o ≠ a then x + (if gM5 R a (bsd a o 0) (bsd a o 1) (bsd a o 2) (bsd a o 3) = true then nI 0 else nI 1) else x
def bfI (n : Nat) (R : Nat → Int32) (x : Int32) (a : Nat) : Int32 := (rg (if n = 5 then 5 else 0) (if n = 5 then 6 else n)).foldl (bfT R a) x
def bfM (n : Nat) (R : Nat → Int32) : Int32 := if 4 < n then (rg 0 n).foldl (bfI n R) (nI 0) else nI 0
def orM (n : Nat) (R : Nat → Int32) : Bool := exM n R && decide (bfM n R = 0)
def dwB (n : Nat) (R : Nat → Int32) : Bool := (trip n).all fun t => decide (mS R t.1 t.2.1 t.2.2 = sgM (mtn R t.1 t.2.1 t.2.2))
theorem fold_and {α : Type} {p : α → Bool} : ∀ {l : List α} {x : Bool}, l.foldl (fun x t => x && p t) x = (x && l.all p)
  | [], x => by simp
  | a :: l, x => by rw [List.foldl_cons, fold_and, List.all_cons, Bool.and_assoc]
def tw5 (x y z u v : Int32) : Bool := !(decide (x = y) || (decide (x = z) || (decide (x = u) || (decide (x = v) || (decide (y = z) || (decide (y = u) || (decide (y = v) || (decide (z = u) || (decide (z = v) || decide (u = v))))))))))
section
variable {d a b c e f g i n k t u : Nat} {m : Mem} {q : MemJ} {h : AH} {v3 v4 v5 v6 v7 : Value}
theorem x_M_isGood (ha : a < 6) (hb : b < 6) (hc : c < 6) (hd : t < 6) (he : e < 6) : ev (d + 2) 218 0 [.ref 0, .int (nI a), .int (nI b), .int (nI c), .int (nI t), .int (nI e), .null, .null, .null, .null, .null] [] (mk shM m q) = some (some (.int (bI (gM5 (m 1) a b c t e))), mk shM m q) := by
  have o2 : ∀ {x y z : Int32} {w : Bool} {v10 : Value}, ev (d + 2) 218 80 [.ref 0, .int (nI a), .int (nI b), .int (nI c), .int (nI t), .int (nI e), .int x, .int y, .int z, .int (bI w), v10] [] (mk shM m q) = some (some (.int (bI (w == (decide (x < 0) || (decide (y < 0) || decide (z < 0)))))), mk shM m q) := fun {x y z w v10} => by
    have fin : ∀ w' : Bool, ev (d + 2) 218 102 [.ref 0, .int (nI a), .int (nI b), .int (nI c), .int (nI t), .int (nI e), .int x, .int y, .int z, .int (bI w), .int (bI w')] [] (mk shM m q) = some (some (.int (bI (w == w'))), mk shM m q) := fun w' => by
      cases w <;> cases w' <;> simp only [s218_102, s218_104, s218_106, s218_109, s218_110, s218_113, s218_114, bI_t, bI_f, show ¬ nI 1 = nI 0 by decide, show ¬ nI 0 = nI 1 by decide, if_true, if_false, am_b0, am_b1] <;> rfl
    have f1 := fin true
    have f0 := fin false
    rw [bI_t] at f1
    rw [bI_f] at f0
    by_cases h1 : x < 0
    · simp only [s218_80, s218_82, s218_85, s218_87, s218_90, s218_92, s218_95, s218_96, s218_99, s218_100, h1, if_true, f1, decide_true, Bool.true_or]
    · by_cases h2 : y < 0
      · simp only [s218_80, s218_82, s218_85, s218_87, s218_90, s218_92, s218_95, s218_96, s218_99, s218_100, h1, h2, if_true, if_false, f1, decide_true, decide_false, Bool.true_or, Bool.false_or]
      · by_cases h3 : z < 0
        · simp only [s218_80, s218_82, s218_85, s218_87, s218_90, s218_92, s218_95, s218_96, s218_99, s218_100, h1, h2, h3, if_true, if_false, f1, decide_true, decide_false, Bool.false_or]
        · simp only [s218_80, s218_82, s218_85, s218_87, s218_90, s218_92, s218_95, s218_96, s218_99, s218_100, h1, h2, h3, if_false, f0, decide_false, Bool.or_self]
  have o1 : ∀ {x y z : Int32} {v9 v10 : Value}, ev (d + 2) 218 58 [.ref 0, .int (nI a), .int (nI b), .int (nI c), .int (nI t), .int (nI e), .int x, .int y, .int z, v9, v10] [] (mk shM m q) = some (some (.int (bI (gdM x y z))), mk shM m q) := fun {x y z v9 v10} => by
    have p1 := o2 (x := x) (y := y) (z := z) (w := true) (v10 := v10)
    have p0 := o2 (x := x) (y := y) (z := z) (w := false) (v10 := v10)
    rw [bI_t] at p1
    rw [bI_f] at p0
    unfold gdM
    by_cases h1 : 0 < x
    · simp only [s218_58, s218_60, s218_63, s218_65, s218_68, s218_70, s218_73, s218_74, s218_77, s218_78, h1, if_true, p1, decide_true, Bool.true_or]
    · by_cases h2 : 0 < y
      · simp only [s218_58, s218_60, s218_63, s218_65, s218_68, s218_70, s218_73, s218_74, s218_77, s218_78, h1, h2, if_true, if_false, p1, decide_true, decide_false, Bool.true_or, Bool.false_or]
      · by_cases h3 : 0 < z
        · simp only [s218_58, s218_60, s218_63, s218_65, s218_68, s218_70, s218_73, s218_74, s218_77, s218_78, h1, h2, h3, if_true, if_false, p1, decide_true, decide_false, Bool.false_or]
        · simp only [s218_58, s218_60, s218_63, s218_65, s218_68, s218_70, s218_73, s218_74, s218_77, s218_78, h1, h2, h3, if_false, p0, decide_false, Bool.or_self]
  simp only [s218_0, s218_1, s218_2, s218_3, s218_4, s218_7, s218_8, s218_9, s218_11, s218_13, s218_16, s218_17, s218_19, s218_20, s218_21, s218_22, s218_24, s218_27, s218_28, s218_29, s218_30, s218_31, s218_33, s218_36, s218_37, s218_39, s218_40, s218_41, s218_42, s218_44, s218_47, s218_48, s218_49, s218_50, s218_52, s218_55, s218_56, x_M_signOf ha hb hc, x_M_signOf ha hd he, x_M_signOf ha hb hd, x_M_signOf ha hc he, x_M_signOf ha hb he, x_M_signOf ha hc hd, Option.bind_some, Option.toList_some, Option.toList_none, List.nil_append, List.cons_append, o1]
  rfl
theorem x_M_besidesR {one other k : Nat} (h1 : one < 100) (h2 : other < 100) : ∀ (u left e r : Nat), left < 100 → e + u < 100 → bsR one other u left e = some r → ev d 228 5 [.int (nI one), .int (nI other), .int (nI k), .int (nI left), .int (nI e)] [] h = some (some (.int (nI r)), h) := by
  intro u
  induction u with
  | zero => intro left e r _ _ hr; cases hr
  | succ u ih =>
    intro left e r hl he hr
    have e1 := nI_eq (show e < 2 ^ 31 by omega) (show one < 2 ^ 31 by omega)
    have e2 := nI_eq (show e < 2 ^ 31 by omega) (show other < 2 ^ 31 by omega)
    have e0 : (0 < nI left) = (0 < left) := by rw [show (0 : Int32) = nI 0 from rfl, nI_ltI (by decide) (by omega)]
    unfold bsR at hr
    rw [s228_5]
    by_cases c1 : e = one
    · rw [if_pos (Or.inr (Or.inl c1)), if_pos (Or.inl c1)] at hr
      have := ih left (e + 1) r hl (by omega) hr
      by_cases c0 : 0 < left
      · simp only [s228_0, s228_1, s228_2, s228_3, s228_6, s228_9, s228_11, s228_12, s228_15, s228_17, s228_18, s228_21, s228_22, s228_24, s228_25, s228_28, s228_30, s228_31, s228_34, s228_35, s228_38, s228_39, s228_40, s228_41, s228_44, s228_47, s228_49, e0, eq_true c0, if_true, e1, eq_true c1, nI_sub (Nat.zero_le left), Nat.sub_zero, nI_add, this]
      · simp only [s228_0, s228_1, s228_2, s228_3, s228_6, s228_9, s228_11, s228_12, s228_15, s228_17, s228_18, s228_21, s228_22, s228_24, s228_25, s228_28, s228_30, s228_31, s228_34, s228_35, s228_38, s228_39, s228_40, s228_41, s228_44, s228_47, s228_49, e0, eq_false c0, if_true, if_false, e1, eq_true c1, nI_sub (Nat.zero_le left), Nat.sub_zero, nI_add, this]
    · by_cases c2 : e = other
      · rw [if_pos (Or.inr (Or.inr c2)), if_pos (Or.inr c2)] at hr
        have := ih left (e + 1) r hl (by omega) hr
        by_cases c0 : 0 < left
        · simp only [s228_0, s228_1, s228_2, s228_3, s228_6, s228_9, s228_11, s228_12, s228_15, s228_17, s228_18, s228_21, s228_22, s228_24, s228_25, s228_28, s228_30, s228_31, s228_34, s228_35, s228_38, s228_39, s228_40, s228_41, s228_44, s228_47, s228_49, e0, eq_true c0, if_true, if_false, e1, eq_false c1, e2, eq_true c2, nI_sub (Nat.zero_le left), Nat.sub_zero, nI_add, this]
        · simp only [s228_0, s228_1, s228_2, s228_3, s228_6, s228_9, s228_11, s228_12, s228_15, s228_17, s228_18, s228_21, s228_22, s228_24, s228_25, s228_28, s228_30, s228_31, s228_34, s228_35, s228_38, s228_39, s228_40, s228_41, s228_44, s228_47, s228_49, e0, eq_false c0, if_true, if_false, e1, eq_false c1, e2, eq_true c2, nI_sub (Nat.zero_le left), Nat.sub_zero, nI_add, this]
      · by_cases c0 : 0 < left
        · rw [if_pos (Or.inl c0), if_neg (by rintro (h | h); exact c1 h; exact c2 h)] at hr
          have := ih (left - 1) (e + 1) r (by omega) (by omega) hr
          simp only [s228_0, s228_1, s228_2, s228_3, s228_6, s228_9, s228_11, s228_12, s228_15, s228_17, s228_18, s228_21, s228_22, s228_24, s228_25, s228_28, s228_30, s228_31, s228_34, s228_35, s228_38, s228_39, s228_40, s228_41, s228_44, s228_47, s228_49, e0, eq_true c0, if_true, if_false, e1, eq_false c1, e2, eq_false c2, nI_sub (show 1 ≤ left by omega), nI_add, this]
        · rw [if_neg (by rintro (h | h | h); exact c0 h; exact c1 h; exact c2 h)] at hr
          cases hr
          simp only [s228_0, s228_1, s228_2, s228_3, s228_6, s228_9, s228_11, s228_12, s228_15, s228_17, s228_18, s228_21, s228_22, s228_24, s228_25, s228_28, s228_30, s228_31, s228_34, s228_35, s228_38, s228_39, s228_40, s228_41, s228_44, s228_47, s228_49, e0, eq_false c0, if_false, e1, eq_false c1, e2, eq_false c2]
theorem x_M_besides (ha : a < 6) (hb : b < 6) (hk : k < 4) : ev d 228 0 [.int (nI a), .int (nI b), .int (nI k), .null, .null] [] h = some (some (.int (nI (bsd a b k))), h) := by
  have hb' := bsd_b a ha b hb k hk
  simp only [Bool.and_eq_true, Bool.or_eq_true, decide_eq_true_eq] at hb'
  have := x_M_besidesR (d := d) (h := h) (one := a) (other := b) (k := k) (by omega) (by omega) 10 k 0 (bsd a b k) (by omega) (by omega) hb'.1
  simp only [s228_0, s228_1, s228_2, s228_3, s228_6, s228_9, s228_11, s228_12, s228_15, s228_17, s228_18, s228_21, s228_22, s228_24, s228_25, s228_28, s228_30, s228_31, s228_34, s228_35, s228_38, s228_39, s228_40, s228_41, s228_44, s228_47, s228_49]
  exact this
theorem x_M_badFives (hn : m 1 0 = nI n) (hn6 : n ≤ 6) : ev (d + 3) 227 0 [.ref 0, .null, .null, .null] [] (mk shM m q) = some (some (.int (bfM n (m 1))), mk shM m q) := by
  have l4 : (nI 4 < nI n) = (4 < n) := propext (nI_ltI (show 4 < 2 ^ 31 by decide) (show n < 2 ^ 31 by omega))
  unfold bfM
  by_cases h4 : 4 < n
  · rw [if_pos h4]
    have hi : ∀ {a : Nat} {x : Int32}, a < n → ev (d + 3) 227 34 [.ref 0, .int x, .int (nI a), .int (nI (if n = 5 then 5 else 0))] [] (mk shM m q) = ev (d + 3) 227 4 [.ref 0, .int (bfI n (m 1) x a), .int (nI (a + 1)), .int (nI (if n = 5 then 6 else n))] [] (mk shM m q) := fun {a x} ha => by
      have e5 := nI_eq (show n < 2 ^ 31 by omega) (show 5 < 2 ^ 31 by decide)
      refine ev_for1 (fun _ => True) (fun o (x : Int32) (_ : Unit) => ev (d + 3) 227 34 [.ref 0, .int x, .int (nI a), .int (nI o)] [] (mk shM m q)) (fun x => ev (d + 3) 227 4 [.ref 0, .int x, .int (nI (a + 1)), .int (nI (if n = 5 then 6 else n))] [] (mk shM m q)) (fun o x => bfT (m 1) a x o) (if n = 5 then 6 else n)
        (fun x _ _ => ?_) (fun _ _ _ _ => trivial) (fun o x _ ho _ => ⟨(), ?_⟩) (if n = 5 then 5 else 0) (by split <;> omega) x () trivial
      · rw [s227_34]
        by_cases h5 : n = 5
        · simp only [s227_0, s227_1, s227_2, s227_3, s227_5, s227_6, s227_9, s227_12, s227_13, s227_16, s227_17, s227_20, s227_21, s227_24, s227_25, s227_28, s227_29, s227_32, s227_33, s227_35, s227_36, s227_39, s227_40, s227_43, s227_45, s227_48, s227_49, s227_52, s227_55, s227_56, s227_57, s227_60, s227_61, s227_62, s227_63, s227_64, s227_65, s227_66, s227_69, s227_70, s227_71, s227_72, s227_75, s227_76, s227_77, s227_78, s227_81, s227_82, s227_83, s227_84, s227_87, s227_90, s227_93, s227_94, s227_97, s227_98, s227_99, s227_100, s227_103, s227_106, s227_109, s227_112, s227_113, x_M_n, hn, Option.bind_some, Option.toList_some, Option.toList_none, List.nil_append, List.cons_append, e5, eq_true h5, if_true, nI_irr, if_false, nI_add]
        · simp only [s227_0, s227_1, s227_2, s227_3, s227_5, s227_6, s227_9, s227_12, s227_13, s227_16, s227_17, s227_20, s227_21, s227_24, s227_25, s227_28, s227_29, s227_32, s227_33, s227_35, s227_36, s227_39, s227_40, s227_43, s227_45, s227_48, s227_49, s227_52, s227_55, s227_56, s227_57, s227_60, s227_61, s227_62, s227_63, s227_64, s227_65, s227_66, s227_69, s227_70, s227_71, s227_72, s227_75, s227_76, s227_77, s227_78, s227_81, s227_82, s227_83, s227_84, s227_87, s227_90, s227_93, s227_94, s227_97, s227_98, s227_99, s227_100, s227_103, s227_106, s227_109, s227_112, s227_113, x_M_n, hn, Option.bind_some, Option.toList_some, Option.toList_none, List.nil_append, List.cons_append, e5, eq_false h5, nI_irr, if_false, nI_add]
      · have ho6 : o < 6 := by split at ho <;> omega
        have lo : (nI o < nI (if n = 5 then 6 else n)) = True := eq_true (nI_lt ho (by split <;> omega))
        have hb0 := bsd_b a (by omega) o ho6 0 (by decide)
        have hb1 := bsd_b a (by omega) o ho6 1 (by decide)
        have hb2 := bsd_b a (by omega) o ho6 2 (by decide)
        have hb3 := bsd_b a (by omega) o ho6 3 (by decide)
        simp only [Bool.and_eq_true, Bool.or_eq_true, decide_eq_true_eq] at hb0 hb1 hb2 hb3
        rw [s227_34]
        have hd : ∀ {y : Int32}, ev (d + 3) 227 52 [.ref 0, .int x, .int (nI a), .int (nI o)] [.int (nI (if n = 5 then 6 else n)), .int (nI o)] (mk shM m q) = ev (d + 3) 227 34 [.ref 0, .int (bfT (m 1) a x o), .int (nI a), .int (nI (o + 1))] [] (mk shM m q) := fun {_} => by
          unfold bfT
          by_cases c : o = a
          · simp only [s227_52, s227_55, s227_56, s227_57, s227_60, s227_61, s227_62, s227_63, s227_64, s227_65, s227_66, s227_69, s227_70, s227_71, s227_72, s227_75, s227_76, s227_77, s227_78, s227_81, s227_82, s227_83, s227_84, s227_87, s227_90, s227_93, s227_94, s227_97, s227_98, s227_99, s227_100, s227_103, s227_106, s227_109, lo, if_true, nI_eq (show o < 2 ^ 31 by omega) (show a < 2 ^ 31 by omega), eq_true c, ne_eq, not_true, if_false, nI_add]
          · have hao : ¬ a = o := fun h => c h.symm
            have G := x_M_isGood (d := d) (m := m) (q := q) (show a < 6 by omega) (hb0.2.2.resolve_left hao) (hb1.2.2.resolve_left hao) (hb2.2.2.resolve_left hao) (hb3.2.2.resolve_left hao)
            simp only [s227_52, s227_55, s227_56, s227_57, s227_60, s227_61, s227_62, s227_63, s227_64, s227_65, s227_66, s227_69, s227_70, s227_71, s227_72, s227_75, s227_76, s227_77, s227_78, s227_81, s227_82, s227_83, s227_84, s227_87, s227_90, s227_93, s227_94, s227_97, s227_98, s227_99, s227_100, s227_103, s227_106, s227_109, lo, if_true, nI_eq (show o < 2 ^ 31 by omega) (show a < 2 ^ 31 by omega), eq_false c, ne_eq, not_false_eq_true, if_false, x_M_besides (show a < 6 by omega) ho6 (show 0 < 4 by decide), x_M_besides (show a < 6 by omega) ho6 (show 1 < 4 by decide), x_M_besides (show a < 6 by omega) ho6 (show 2 < 4 by decide), x_M_besides (show a < 6 by omega) ho6 (show 3 < 4 by decide), G, Option.bind_some, Option.toList_some, Option.toList_none, List.nil_append, List.cons_append, bI_z]
            cases gM5 (m 1) a (bsd a o 0) (bsd a o 1) (bsd a o 2) (bsd a o 3) <;> simp only [Bool.true_eq_false, Bool.false_eq_true, if_true, if_false, s227_52, s227_55, s227_56, s227_57, s227_60, s227_61, s227_62, s227_63, s227_64, s227_65, s227_66, s227_69, s227_70, s227_71, s227_72, s227_75, s227_76, s227_77, s227_78, s227_81, s227_82, s227_83, s227_84, s227_87, s227_90, s227_93, s227_94, s227_97, s227_98, s227_99, s227_100, s227_103, s227_106, s227_109, nI_add]
        by_cases h5 : n = 5
        · simp only [s227_35, s227_36, s227_39, s227_40, s227_43, s227_45, s227_48, s227_49, x_M_n, hn, Option.bind_some, Option.toList_some, Option.toList_none, List.nil_append, List.cons_append, e5, eq_true h5, if_true]
          rw [if_pos h5] at hd
          exact hd (y := 0)
        · simp only [s227_35, s227_36, s227_39, s227_40, s227_43, s227_45, s227_48, s227_49, x_M_n, hn, Option.bind_some, Option.toList_some, Option.toList_none, List.nil_append, List.cons_append, e5, eq_false h5, if_false]
          rw [if_neg h5] at hd
          exact hd (y := 0)
    have e5 := nI_eq (show n < 2 ^ 31 by omega) (show 5 < 2 ^ 31 by decide)
    have L := ev_for1 (fun _ => True) (fun a (x : Int32) (v : Value) => ev (d + 3) 227 4 [.ref 0, .int x, .int (nI a), v] [] (mk shM m q)) (fun x => some (some (.int x), mk shM m q)) (fun a x => bfI n (m 1) x a) n
      (fun x v _ => by rw [s227_4]; simp only [s227_0, s227_1, s227_2, s227_3, s227_5, s227_6, s227_9, s227_12, s227_13, s227_16, s227_17, s227_20, s227_21, s227_24, s227_25, s227_28, s227_29, s227_32, s227_33, s227_35, s227_36, s227_39, s227_40, s227_43, s227_45, s227_48, s227_49, s227_52, s227_55, s227_56, s227_57, s227_60, s227_61, s227_62, s227_63, s227_64, s227_65, s227_66, s227_69, s227_70, s227_71, s227_72, s227_75, s227_76, s227_77, s227_78, s227_81, s227_82, s227_83, s227_84, s227_87, s227_90, s227_93, s227_94, s227_97, s227_98, s227_99, s227_100, s227_103, s227_106, s227_109, s227_112, s227_113, x_M_n, hn, Option.bind_some, Option.toList_some, Option.toList_none, List.nil_append, List.cons_append, nI_irr, if_false])
      (fun _ _ _ _ => trivial)
      (fun a x v ha _ => ⟨.int (nI (if n = 5 then 6 else n)), by
        have hi' := hi (x := x) ha
        rw [s227_4]
        by_cases h5 : n = 5
        · rw [if_pos h5, if_pos h5] at hi'
          rw [if_pos h5]
          simp only [s227_5, s227_6, s227_9, s227_12, s227_13, s227_16, s227_17, s227_20, s227_21, s227_24, s227_25, s227_28, s227_29, s227_32, s227_33, x_M_n, hn, Option.bind_some, Option.toList_some, Option.toList_none, List.nil_append, List.cons_append, nI_lt ha (show n < 2 ^ 31 by omega), if_true, l4, eq_true h4, e5, eq_true h5]
          exact hi'
        · rw [if_neg h5, if_neg h5] at hi'
          rw [if_neg h5]
          simp only [s227_5, s227_6, s227_9, s227_12, s227_13, s227_16, s227_17, s227_20, s227_21, s227_24, s227_25, s227_28, s227_29, s227_32, s227_33, x_M_n, hn, Option.bind_some, Option.toList_some, Option.toList_none, List.nil_append, List.cons_append, nI_lt ha (show n < 2 ^ 31 by omega), if_true, l4, eq_true h4, e5, eq_false h5, if_false]
          exact hi'⟩) 0 (Nat.zero_le _) (nI 0) .null trivial
    simp only [s227_0, s227_1, s227_2, s227_3]
    exact L
  · rw [if_neg h4]
    simp only [s227_0, s227_1, s227_2, s227_3]
    rw [s227_4]
    by_cases h0 : 0 < n
    · simp only [s227_0, s227_1, s227_2, s227_3, s227_5, s227_6, s227_9, s227_12, s227_13, s227_16, s227_17, s227_20, s227_21, s227_24, s227_25, s227_28, s227_29, s227_32, s227_33, s227_35, s227_36, s227_39, s227_40, s227_43, s227_45, s227_48, s227_49, s227_52, s227_55, s227_56, s227_57, s227_60, s227_61, s227_62, s227_63, s227_64, s227_65, s227_66, s227_69, s227_70, s227_71, s227_72, s227_75, s227_76, s227_77, s227_78, s227_81, s227_82, s227_83, s227_84, s227_87, s227_90, s227_93, s227_94, s227_97, s227_98, s227_99, s227_100, s227_103, s227_106, s227_109, s227_112, s227_113, x_M_n, hn, Option.bind_some, Option.toList_some, Option.toList_none, List.nil_append, List.cons_append, nI_lt h0 (show n < 2 ^ 31 by omega), if_true, l4, eq_false h4, if_false]
    · simp only [s227_0, s227_1, s227_2, s227_3, s227_5, s227_6, s227_9, s227_12, s227_13, s227_16, s227_17, s227_20, s227_21, s227_24, s227_25, s227_28, s227_29, s227_32, s227_33, s227_35, s227_36, s227_39, s227_40, s227_43, s227_45, s227_48, s227_49, s227_52, s227_55, s227_56, s227_57, s227_60, s227_61, s227_62, s227_63, s227_64, s227_65, s227_66, s227_69, s227_70, s227_71, s227_72, s227_75, s227_76, s227_77, s227_78, s227_81, s227_82, s227_83, s227_84, s227_87, s227_90, s227_93, s227_94, s227_97, s227_98, s227_99, s227_100, s227_103, s227_106, s227_109, s227_112, s227_113, x_M_n, hn, Option.bind_some, Option.toList_some, Option.toList_none, List.nil_append, List.cons_append, show ¬ nI 0 < nI n by rw [nI_ltI (by decide) (by omega)]; exact h0, if_false]
theorem x_M_isOrderly (hn : m 1 0 = nI n) (hn6 : n ≤ 6) : ev (d + 7) 226 0 [.ref 0] [] (mk shM m q) = some (some (.int (bI (orM n (m 1)))), mk shM m q) := by
  have e1 := x_M_isExchange (d := d) (m := m) (q := q) hn hn6
  have e2 := x_M_badFives (d := d + 3) (m := m) (q := q) hn hn6
  unfold orM
  cases hx : exM n (m 1) with
  | false => simp only [s226_0, s226_1, s226_4, s226_7, s226_8, s226_11, s226_14, s226_15, s226_18, s226_19, e1, Option.bind_some, Option.toList_some, Option.toList_none, List.nil_append, List.cons_append, bI_z, hx, if_true, Bool.false_and, bI_f, am_b0, nI00]
  | true =>
    by_cases hb : bfM n (m 1) = 0
    · simp only [s226_0, s226_1, s226_4, s226_7, s226_8, s226_11, s226_14, s226_15, s226_18, s226_19, e1, Option.bind_some, Option.toList_some, Option.toList_none, List.nil_append, List.cons_append, bI_z, hx, Bool.true_eq_false, if_false, e2, hb, if_true, decide_true, Bool.and_self, bI_t, am_b1, nI10]
    · simp only [s226_0, s226_1, s226_4, s226_7, s226_8, s226_11, s226_14, s226_15, s226_18, s226_19, e1, Option.bind_some, Option.toList_some, Option.toList_none, List.nil_append, List.cons_append, bI_z, hx, Bool.true_eq_false, if_false, e2, hb, decide_false, Bool.and_false, bI_f, bI_t, am_b0, nI10]
theorem x_M_isDrawn (hn : m 1 0 = nI n) (hn6 : n ≤ 6) : ev (d + 2) 229 0 [.ref 0, .null, .null, .null, .null] [] (mk shM m q) = some (some (.int (bI (dwB n (m 1)))), mk shM m q) := by
  have L := ev_for3 (fun _ => True) (fun a (x : Bool) (v : Value × Value) => ev (d + 2) 229 4 [.ref 0, .int (bI x), .int (nI a), v.1, v.2] [] (mk shM m q))
    (fun a b x v => ev (d + 2) 229 16 [.ref 0, .int (bI x), .int (nI a), .int (nI b), v.2] [] (mk shM m q))
    (fun a b c x v => ev (d + 2) 229 29 [.ref 0, .int (bI x), .int (nI a), .int (nI b), .int (nI c)] [] (mk shM m q))
    (fun x => some (some (.int (bI x)), mk shM m q)) (fun a b c x => x && decide (mS (m 1) a b c = sgM (mtn (m 1) a b c))) n
    (fun x v _ => by rw [s229_4]; simp only [s229_0, s229_1, s229_2, s229_3, s229_5, s229_6, s229_9, s229_12, s229_13, s229_14, s229_15, s229_17, s229_18, s229_21, s229_24, s229_25, s229_26, s229_27, s229_31, s229_32, s229_35, s229_38, s229_39, s229_42, s229_43, s229_44, s229_45, s229_47, s229_50, s229_51, s229_52, s229_53, s229_55, s229_58, s229_61, s229_62, s229_65, s229_66, s229_67, s229_70, s229_73, s229_76, s229_79, s229_82, s229_85, s229_86, x_M_n, hn, Option.bind_some, Option.toList_some, Option.toList_none, List.nil_append, List.cons_append, nI_irr, if_false, bI_b])
    (fun a x v ha _ => ⟨v, by rw [s229_4]; simp only [s229_0, s229_1, s229_2, s229_3, s229_5, s229_6, s229_9, s229_12, s229_13, s229_14, s229_15, s229_17, s229_18, s229_21, s229_24, s229_25, s229_26, s229_27, s229_31, s229_32, s229_35, s229_38, s229_39, s229_42, s229_43, s229_44, s229_45, s229_47, s229_50, s229_51, s229_52, s229_53, s229_55, s229_58, s229_61, s229_62, s229_65, s229_66, s229_67, s229_70, s229_73, s229_76, s229_79, s229_82, s229_85, s229_86, x_M_n, hn, Option.bind_some, Option.toList_some, Option.toList_none, List.nil_append, List.cons_append, nI_lt ha (show n < 2 ^ 31 by omega), if_true, nI_add]⟩)
    (fun a x v ha _ => ⟨(.int (nI n), v.2), by rw [s229_16]; simp only [s229_0, s229_1, s229_2, s229_3, s229_5, s229_6, s229_9, s229_12, s229_13, s229_14, s229_15, s229_17, s229_18, s229_21, s229_24, s229_25, s229_26, s229_27, s229_31, s229_32, s229_35, s229_38, s229_39, s229_42, s229_43, s229_44, s229_45, s229_47, s229_50, s229_51, s229_52, s229_53, s229_55, s229_58, s229_61, s229_62, s229_65, s229_66, s229_67, s229_70, s229_73, s229_76, s229_79, s229_82, s229_85, s229_86, x_M_n, hn, Option.bind_some, Option.toList_some, Option.toList_none, List.nil_append, List.cons_append, nI_irr, if_false, nI_add]⟩)
    (fun a b x v hab hb _ => ⟨v, by rw [s229_16]; simp only [s229_0, s229_1, s229_2, s229_3, s229_5, s229_6, s229_9, s229_12, s229_13, s229_14, s229_15, s229_17, s229_18, s229_21, s229_24, s229_25, s229_26, s229_27, s229_31, s229_32, s229_35, s229_38, s229_39, s229_42, s229_43, s229_44, s229_45, s229_47, s229_50, s229_51, s229_52, s229_53, s229_55, s229_58, s229_61, s229_62, s229_65, s229_66, s229_67, s229_70, s229_73, s229_76, s229_79, s229_82, s229_85, s229_86, x_M_n, hn, Option.bind_some, Option.toList_some, Option.toList_none, List.nil_append, List.cons_append, nI_lt hb (show n < 2 ^ 31 by omega), if_true, nI_add]⟩)
    (fun a b x v hab hb _ => ⟨(v.1, .int (nI n)), by rw [s229_29]; simp only [s229_0, s229_1, s229_2, s229_3, s229_5, s229_6, s229_9, s229_12, s229_13, s229_14, s229_15, s229_17, s229_18, s229_21, s229_24, s229_25, s229_26, s229_27, s229_31, s229_32, s229_35, s229_38, s229_39, s229_42, s229_43, s229_44, s229_45, s229_47, s229_50, s229_51, s229_52, s229_53, s229_55, s229_58, s229_61, s229_62, s229_65, s229_66, s229_67, s229_70, s229_73, s229_76, s229_79, s229_82, s229_85, s229_86, x_M_n, hn, Option.bind_some, Option.toList_some, Option.toList_none, List.nil_append, List.cons_append, nI_irr, if_false, nI_add]⟩)
    (fun _ _ _ _ _ _ _ _ => trivial)
    (fun a b c x v hab hbc hc _ => ⟨v, by
      have sg := x_M_signOf (d := d) (m := m) (q := q) (show a < 6 by omega) (show b < 6 by omega) (show c < 6 by omega)
      have tn := x_M_turnOf (d := d) (m := m) (q := q) (show a < 6 by omega) (show b < 6 by omega) (show c < 6 by omega)
      rw [s229_29]
      cases x with
      | false => simp only [s229_0, s229_1, s229_2, s229_3, s229_5, s229_6, s229_9, s229_12, s229_13, s229_14, s229_15, s229_17, s229_18, s229_21, s229_24, s229_25, s229_26, s229_27, s229_31, s229_32, s229_35, s229_38, s229_39, s229_42, s229_43, s229_44, s229_45, s229_47, s229_50, s229_51, s229_52, s229_53, s229_55, s229_58, s229_61, s229_62, s229_65, s229_66, s229_67, s229_70, s229_73, s229_76, s229_79, s229_82, s229_85, s229_86, x_M_n, hn, Option.bind_some, Option.toList_some, Option.toList_none, List.nil_append, List.cons_append, nI_lt hc (show n < 2 ^ 31 by omega), if_true, bI_z, Bool.false_and, nI_add, bI_f, nI00]
      | true =>
        by_cases z : mS (m 1) a b c = sgM (mtn (m 1) a b c)
        · simp only [s229_0, s229_1, s229_2, s229_3, s229_5, s229_6, s229_9, s229_12, s229_13, s229_14, s229_15, s229_17, s229_18, s229_21, s229_24, s229_25, s229_26, s229_27, s229_31, s229_32, s229_35, s229_38, s229_39, s229_42, s229_43, s229_44, s229_45, s229_47, s229_50, s229_51, s229_52, s229_53, s229_55, s229_58, s229_61, s229_62, s229_65, s229_66, s229_67, s229_70, s229_73, s229_76, s229_79, s229_82, s229_85, s229_86, x_M_n, hn, Option.bind_some, Option.toList_some, Option.toList_none, List.nil_append, List.cons_append, nI_lt hc (show n < 2 ^ 31 by omega), if_true, bI_z, Bool.true_eq_false, if_false, sg, tn, eq_true z, decide_true, Bool.and_self, nI_add, bI_t, nI10]
        · simp only [s229_0, s229_1, s229_2, s229_3, s229_5, s229_6, s229_9, s229_12, s229_13, s229_14, s229_15, s229_17, s229_18, s229_21, s229_24, s229_25, s229_26, s229_27, s229_31, s229_32, s229_35, s229_38, s229_39, s229_42, s229_43, s229_44, s229_45, s229_47, s229_50, s229_51, s229_52, s229_53, s229_55, s229_58, s229_61, s229_62, s229_65, s229_66, s229_67, s229_70, s229_73, s229_76, s229_79, s229_82, s229_85, s229_86, x_M_n, hn, Option.bind_some, Option.toList_some, Option.toList_none, List.nil_append, List.cons_append, nI_lt hc (show n < 2 ^ 31 by omega), if_true, bI_z, Bool.true_eq_false, if_false, sg, tn, eq_false z, decide_false, Bool.and_false, nI_add, bI_t, bI_f, nI10]⟩) true (.null, .null) trivial
  rw [fold_and, Bool.true_and, bI_t] at L
  simp only [s229_0, s229_1, s229_2, s229_3, s229_5, s229_6, s229_9, s229_12, s229_13, s229_14, s229_15, s229_17, s229_18, s229_21, s229_24, s229_25, s229_26, s229_27, s229_31, s229_32, s229_35, s229_38, s229_39, s229_42, s229_43, s229_44, s229_45, s229_47, s229_50, s229_51, s229_52, s229_53, s229_55, s229_58, s229_61, s229_62, s229_65, s229_66, s229_67, s229_70, s229_73, s229_76, s229_79, s229_82, s229_85, s229_86]
  exact L
theorem x_M_triples (hn6 : n ≤ 6) : ev d 178 0 [.int (nI n)] [] h = some (some (.int (nI (n * (n - 1) * (n - 2) / 6))), h) := by
  simp only [s178_0, s178_1, s178_2, s178_3, s178_4, s178_5, s178_6, s178_7, s178_8, s178_9, s178_11, s178_12, show ¬ nI 6 = 0 by decide, not_false_eq_true]
  match n, hn6 with
  | 0, _ => rfl
  | 1, _ => rfl
  | 2, _ => rfl
  | 3, _ => rfl
  | 4, _ => rfl
  | 5, _ => rfl
  | 6, _ => rfl
def ismA (n : Nat) (R : Nat → Int32) : Nat → Int32
  | 0 => bI (exM n R)
  | 1 => bI (orM n R)
  | 2 => bI (dwB n R)
  | _ => bI (decide (bsM n R = nI (n * (n - 1) * (n - 2) / 6)))
theorem x_M_is {x : Int32} (hn : m 1 0 = nI n) (hn6 : n ≤ 6) : ev (d + 8) 219 0 [.ref 0, .int x] [] (mk shM m q) = some (some (.int (if elB 4 x = true then ismA n (m 1) (eN x) else -1002)), mk shM m q) := by
  rcases elB_or 4 x (by decide) with ⟨hx, h⟩ | ⟨k, hk, rfl⟩
  · simp only [s219_0, s219_1 (nel_i (n := 3) (by decide) h), s219_91, s219_94, hx, Bool.false_eq_true, if_false]
  · rw [elB_nI (by decide) hk, eN_nI (by omega), if_pos rfl]
    match k, hk with
    | 0, _ =>
      have e1 := x_M_isExchange (d := d + 1) (m := m) (q := q) hn hn6
      simp only [s219_0, s219_1_0, s219_1_1, s219_1_2, s219_1_3, s219_32, s219_33, s219_36, s219_39, s219_40, s219_43, s219_44, s219_45, s219_46, s219_49, s219_52, s219_53, s219_56, s219_57, s219_58, s219_59, s219_62, s219_65, s219_66, s219_69, s219_70, s219_71, s219_72, s219_75, s219_76, s219_79, s219_82, s219_85, s219_86, s219_89, s219_90, s219_91, s219_94, e1, Option.bind_some, Option.toList_some, Option.toList_none, List.nil_append, List.cons_append, bI_z, ismA]
      cases exM n (m 1) <;> simp only [Bool.true_eq_false, if_true, if_false, s219_0, s219_1_0, s219_1_1, s219_1_2, s219_1_3, s219_32, s219_33, s219_36, s219_39, s219_40, s219_43, s219_44, s219_45, s219_46, s219_49, s219_52, s219_53, s219_56, s219_57, s219_58, s219_59, s219_62, s219_65, s219_66, s219_69, s219_70, s219_71, s219_72, s219_75, s219_76, s219_79, s219_82, s219_85, s219_86, s219_89, s219_90, s219_91, s219_94, bI_t, bI_f]
    | 1, _ =>
      have e1 := x_M_isOrderly (d := d) (m := m) (q := q) hn hn6
      simp only [s219_0, s219_1_0, s219_1_1, s219_1_2, s219_1_3, s219_32, s219_33, s219_36, s219_39, s219_40, s219_43, s219_44, s219_45, s219_46, s219_49, s219_52, s219_53, s219_56, s219_57, s219_58, s219_59, s219_62, s219_65, s219_66, s219_69, s219_70, s219_71, s219_72, s219_75, s219_76, s219_79, s219_82, s219_85, s219_86, s219_89, s219_90, s219_91, s219_94, e1, Option.bind_some, Option.toList_some, Option.toList_none, List.nil_append, List.cons_append, bI_z, ismA]
      cases orM n (m 1) <;> simp only [Bool.true_eq_false, if_true, if_false, s219_0, s219_1_0, s219_1_1, s219_1_2, s219_1_3, s219_32, s219_33, s219_36, s219_39, s219_40, s219_43, s219_44, s219_45, s219_46, s219_49, s219_52, s219_53, s219_56, s219_57, s219_58, s219_59, s219_62, s219_65, s219_66, s219_69, s219_70, s219_71, s219_72, s219_75, s219_76, s219_79, s219_82, s219_85, s219_86, s219_89, s219_90, s219_91, s219_94, bI_t, bI_f]
    | 2, _ =>
      have e1 := x_M_isDrawn (d := d + 5) (m := m) (q := q) hn hn6
      simp only [s219_0, s219_1_0, s219_1_1, s219_1_2, s219_1_3, s219_32, s219_33, s219_36, s219_39, s219_40, s219_43, s219_44, s219_45, s219_46, s219_49, s219_52, s219_53, s219_56, s219_57, s219_58, s219_59, s219_62, s219_65, s219_66, s219_69, s219_70, s219_71, s219_72, s219_75, s219_76, s219_79, s219_82, s219_85, s219_86, s219_89, s219_90, s219_91, s219_94, e1, Option.bind_some, Option.toList_some, Option.toList_none, List.nil_append, List.cons_append, bI_z, ismA]
      cases dwB n (m 1) <;> simp only [Bool.true_eq_false, if_true, if_false, s219_0, s219_1_0, s219_1_1, s219_1_2, s219_1_3, s219_32, s219_33, s219_36, s219_39, s219_40, s219_43, s219_44, s219_45, s219_46, s219_49, s219_52, s219_53, s219_56, s219_57, s219_58, s219_59, s219_62, s219_65, s219_66, s219_69, s219_70, s219_71, s219_72, s219_75, s219_76, s219_79, s219_82, s219_85, s219_86, s219_89, s219_90, s219_91, s219_94, bI_t, bI_f]
    | 3, _ =>
      have e1 := x_M_bases (d := d + 4) (m := m) (q := q) hn hn6
      simp only [s219_0, s219_1_0, s219_1_1, s219_1_2, s219_1_3, s219_32, s219_33, s219_36, s219_39, s219_40, s219_43, s219_44, s219_45, s219_46, s219_49, s219_52, s219_53, s219_56, s219_57, s219_58, s219_59, s219_62, s219_65, s219_66, s219_69, s219_70, s219_71, s219_72, s219_75, s219_76, s219_79, s219_82, s219_85, s219_86, s219_89, s219_90, s219_91, s219_94, e1, Option.bind_some, Option.toList_some, Option.toList_none, List.nil_append, List.cons_append, x_M_n, hn, x_M_triples hn6, ismA]
      by_cases z : bsM n (m 1) = nI (n * (n - 1) * (n - 2) / 6)
      · simp only [z, if_true, s219_0, s219_1_0, s219_1_1, s219_1_2, s219_1_3, s219_32, s219_33, s219_36, s219_39, s219_40, s219_43, s219_44, s219_45, s219_46, s219_49, s219_52, s219_53, s219_56, s219_57, s219_58, s219_59, s219_62, s219_65, s219_66, s219_69, s219_70, s219_71, s219_72, s219_75, s219_76, s219_79, s219_82, s219_85, s219_86, s219_89, s219_90, s219_91, s219_94, decide_true, bI_t]
      · simp only [z, if_false, s219_0, s219_1_0, s219_1_1, s219_1_2, s219_1_3, s219_32, s219_33, s219_36, s219_39, s219_40, s219_43, s219_44, s219_45, s219_46, s219_49, s219_52, s219_53, s219_56, s219_57, s219_58, s219_59, s219_62, s219_65, s219_66, s219_69, s219_70, s219_71, s219_72, s219_75, s219_76, s219_79, s219_82, s219_85, s219_86, s219_89, s219_90, s219_91, s219_94, decide_false, bI_f]
theorem x_M_five {x y z w v : Int32} (hn : m 1 0 = nI n) (hn6 : n ≤ 6) : ev (d + 3) 217 0 [.ref 0, .int x, .int y, .int z, .int w, .int v, .null, .null] [] (mk shM m q) = some (some (.int (if (elB n x && elB n y && elB n z && elB n w && elB n v && tw5 x y z w v) = true then bI (gM5 (m 1) (eN x) (eN y) (eN z) (eN w) (eN v)) else -1001)), mk shM m q) := by
  have st1 : ev (d + 3) 217 0 [.ref 0, .int x, .int y, .int z, .int w, .int v, .null, .null] [] (mk shM m q) = ev (d + 3) 217 35 [.ref 0, .int x, .int y, .int z, .int w, .int v, .int (bI (elB n x && elB n y && elB n z && elB n w && elB n v)), .null] [] (mk shM m q) := by
    simp only [s217_0, s217_1, s217_2, s217_3, s217_4, s217_7, s217_10, s217_11, s217_13, s217_16, s217_19, s217_20, s217_22, s217_25, s217_28, s217_29, s217_32, s217_33, x_M_areThree hn hn6, Option.bind_some, Option.toList_some, Option.toList_none, List.nil_append, List.cons_append, bI_z]
    cases elB n x && elB n y && elB n z with
    | false => simp only [if_true, s217_0, s217_1, s217_2, s217_3, s217_4, s217_7, s217_10, s217_11, s217_13, s217_16, s217_19, s217_20, s217_22, s217_25, s217_28, s217_29, s217_32, s217_33, Bool.false_and, bI_f]
    | true =>
      simp only [Bool.true_eq_false, if_false, s217_0, s217_1, s217_2, s217_3, s217_4, s217_7, s217_10, s217_11, s217_13, s217_16, s217_19, s217_20, s217_22, s217_25, s217_28, s217_29, s217_32, s217_33, x_M_isElement hn hn6, Option.bind_some, Option.toList_some, Option.toList_none, List.nil_append, List.cons_append, bI_z]
      cases elB n w with
      | false => simp only [if_true, s217_0, s217_1, s217_2, s217_3, s217_4, s217_7, s217_10, s217_11, s217_13, s217_16, s217_19, s217_20, s217_22, s217_25, s217_28, s217_29, s217_32, s217_33, Bool.false_and, Bool.and_false, bI_f]
      | true =>
        simp only [Bool.true_eq_false, if_false, s217_0, s217_1, s217_2, s217_3, s217_4, s217_7, s217_10, s217_11, s217_13, s217_16, s217_19, s217_20, s217_22, s217_25, s217_28, s217_29, s217_32, s217_33, x_M_isElement hn hn6, Option.bind_some, Option.toList_some, Option.toList_none, List.nil_append, List.cons_append, bI_z]
        cases elB n v with
        | false => simp only [if_true, s217_0, s217_1, s217_2, s217_3, s217_4, s217_7, s217_10, s217_11, s217_13, s217_16, s217_19, s217_20, s217_22, s217_25, s217_28, s217_29, s217_32, s217_33, Bool.and_false, bI_f]
        | true => simp only [Bool.true_eq_false, if_false, s217_0, s217_1, s217_2, s217_3, s217_4, s217_7, s217_10, s217_11, s217_13, s217_16, s217_19, s217_20, s217_22, s217_25, s217_28, s217_29, s217_32, s217_33, Bool.and_self, bI_t]
  rw [st1]
  generalize hr : (elB n x && elB n y && elB n z && elB n w && elB n v) = r
  have st2 : ev (d + 3) 217 35 [.ref 0, .int x, .int y, .int z, .int w, .int v, .int (bI r), .null] [] (mk shM m q) = ev (d + 3) 217 100 [.ref 0, .int x, .int y, .int z, .int w, .int v, .int (bI r), .int (bI (!tw5 x y z w v))] [] (mk shM m q) := by
    unfold tw5
    rw [Bool.not_not]
    simp only [s217_35, s217_36, s217_37, s217_40, s217_41, s217_42, s217_45, s217_46, s217_48, s217_51, s217_52, s217_54, s217_57, s217_58, s217_59, s217_62, s217_63, s217_65, s217_68, s217_69, s217_71, s217_74, s217_75, s217_77, s217_80, s217_81, s217_83, s217_86, s217_88, s217_90, s217_93, s217_94, s217_97, s217_98]
    by_cases h1 : x = y
    · rw [if_pos h1, decide_eq_true h1]; simp only [Bool.true_or, bI_t]
    rw [if_neg h1, decide_eq_false h1, Bool.false_or]
    by_cases h2 : x = z
    · rw [if_pos h2, decide_eq_true h2]; simp only [Bool.true_or, bI_t]
    rw [if_neg h2, decide_eq_false h2, Bool.false_or]
    by_cases h3 : x = w
    · rw [if_pos h3, decide_eq_true h3]; simp only [Bool.true_or, bI_t]
    rw [if_neg h3, decide_eq_false h3, Bool.false_or]
    by_cases h4 : x = v
    · rw [if_pos h4, decide_eq_true h4]; simp only [Bool.true_or, bI_t]
    rw [if_neg h4, decide_eq_false h4, Bool.false_or]
    by_cases h5 : y = z
    · rw [if_pos h5, decide_eq_true h5]; simp only [Bool.true_or, bI_t]
    rw [if_neg h5, decide_eq_false h5, Bool.false_or]
    by_cases h6 : y = w
    · rw [if_pos h6, decide_eq_true h6]; simp only [Bool.true_or, bI_t]
    rw [if_neg h6, decide_eq_false h6, Bool.false_or]
    by_cases h7 : y = v
    · rw [if_pos h7, decide_eq_true h7]; simp only [Bool.true_or, bI_t]
    rw [if_neg h7, decide_eq_false h7, Bool.false_or]
    by_cases h8 : z = w
    · rw [if_pos h8, decide_eq_true h8]; simp only [Bool.true_or, bI_t]
    rw [if_neg h8, decide_eq_false h8, Bool.false_or]
    by_cases h9 : z = v
    · rw [if_pos h9, decide_eq_true h9]; simp only [Bool.true_or, bI_t]
    rw [if_neg h9, decide_eq_false h9, Bool.false_or]
    by_cases h10 : w = v
    · rw [if_pos h10, decide_eq_true h10, bI_t]
    rw [if_neg h10, decide_eq_false h10, bI_f]
  rw [st2]
  cases r with
  | false => simp only [s217_100, s217_102, s217_105, s217_107, s217_110, s217_113, s217_114, s217_115, s217_116, s217_117, s217_118, s217_120, s217_122, s217_125, s217_128, s217_129, s217_132, s217_133, bI_z, if_true, Bool.false_and, Bool.false_eq_true, if_false]
  | true =>
    simp only [Bool.and_eq_true] at hr
    have ex := elB_t (by omega) hr.1.1.1.1
    have ey := elB_t (by omega) hr.1.1.1.2
    have ez := elB_t (by omega) hr.1.1.2
    have ew := elB_t (by omega) hr.1.2
    have ev' := elB_t (by omega) hr.2
    have G := x_M_isGood (d := d + 0) (m := m) (q := q) (show eN x < 6 by omega) (show eN y < 6 by omega) (show eN z < 6 by omega) (show eN w < 6 by omega) (show eN v < 6 by omega)
    rw [← ex.2, ← ey.2, ← ez.2, ← ew.2, ← ev'.2] at G
    cases ht : tw5 x y z w v with
    | false => simp only [s217_100, s217_102, s217_105, s217_107, s217_110, s217_113, s217_114, s217_115, s217_116, s217_117, s217_118, s217_120, s217_122, s217_125, s217_128, s217_129, s217_132, s217_133, bI_z, Bool.true_eq_false, Bool.not_false, if_true, Bool.and_false, Bool.false_eq_true, if_false]
    | true =>
      simp only [s217_100, s217_102, s217_105, s217_107, s217_110, s217_113, s217_114, s217_115, s217_116, s217_117, s217_118, s217_120, s217_122, s217_125, s217_128, s217_129, s217_132, s217_133, bI_z, Bool.true_eq_false, Bool.not_true, if_true, Bool.and_self, if_false, G, Option.bind_some, Option.toList_some, Option.toList_none, List.nil_append, List.cons_append]
      cases gM5 (m 1) (eN x) (eN y) (eN z) (eN w) (eN v) <;> simp only [Bool.true_eq_false, if_true, if_false, s217_100, s217_102, s217_105, s217_107, s217_110, s217_113, s217_114, s217_115, s217_116, s217_117, s217_118, s217_120, s217_122, s217_125, s217_128, s217_129, s217_132, s217_133, bI_t, bI_f]
end
