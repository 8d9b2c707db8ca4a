/-! the rules -/
def mx (x y : Int32) : Int32 := if x < y then y else x
def mn (x y : Int32) : Int32 := if y < x then y else x
/-- a five is good, as the class reckons it -/
def gdC (x y z : Int32) : Bool := (mx x (mx y z) == 0 && mn x (mn y z) == 0) || (decide (0 < mx x (mx y z)) && decide (mn x (mn y z) < 0))
abbrev i6 (a b c : Nat) : Nat := (a * 6 + b) * 6 + c
def gd5 (f : Nat → Int32) (a b c d e : Nat) : Bool := gdC (f (i6 a b c) * f (i6 a d e)) (-f (i6 a b d) * f (i6 a c e)) (f (i6 a b e) * f (i6 a c d))
set_option maxHeartbeats 1000000 in
theorem x_R_isGood {dd k a b c d e : Nat} {m : Mem} {q : MemJ} (ho : oC0 k) (ha : a < 6) (hb : b < 6) (hc : c < 6) (hd : d < 6) (he : e < 6) : ev (dd + 5) 79 0 [.ref k, .int (nI a), .int (nI b), .int (nI c), .int (nI d), .int (nI e), .null, .null, .null, .null, .null] [] (mk shC m q) = some (some (.int (if gd5 (m (k + 1)) a b c d e = true then nI 1 else nI 0)), mk shC m q) := by
  simp only [s79_0, s79_1, s79_2, s79_3, s79_4, s79_7, s79_8, s79_9, s79_11, s79_13, s79_16, s79_17, s79_19, s79_20, s79_21, s79_22, s79_24, s79_27, s79_28, s79_29, s79_30, s79_31, s79_33, s79_36, s79_37, s79_39, s79_40, s79_41, s79_42, s79_44, s79_47, s79_48, s79_49, s79_50, s79_52, s79_55, s79_56, s79_58, s79_60, s79_62, s79_64, s79_67, s79_70, s79_72, s79_74, s79_76, s79_78, s79_81, s79_84, s79_86, s79_88, s79_91, s79_93, s79_96, s79_98, s79_101, s79_103, s79_106, s79_107, s79_110, s79_111, ho, x_A_signOf ho (show (a * 6 + b) * 6 + c < 216 by omega), x_A_signOf ho (show (a * 6 + d) * 6 + e < 216 by omega), x_A_signOf ho (show (a * 6 + b) * 6 + d < 216 by omega), x_A_signOf ho (show (a * 6 + c) * 6 + e < 216 by omega), x_A_signOf ho (show (a * 6 + b) * 6 + e < 216 by omega), x_A_signOf ho (show (a * 6 + c) * 6 + d < 216 by omega), Option.bind_some, Option.toList_some, Option.toList_none, List.nil_append, List.cons_append, am_b0, am_b1]
  generalize hx : m (k + 1) ((a * 6 + b) * 6 + c) * m (k + 1) ((a * 6 + d) * 6 + e) = x
  generalize hy : -m (k + 1) ((a * 6 + b) * 6 + d) * m (k + 1) ((a * 6 + c) * 6 + e) = y
  generalize hz : m (k + 1) ((a * 6 + b) * 6 + e) * m (k + 1) ((a * 6 + c) * 6 + d) = z
  have e1 : gd5 (m (k + 1)) a b c d e = gdC x y z := by rw [← hx, ← hy, ← hz]; rfl
  rw [e1]
  have ex : ∀ x y : Int32, (if x < y then y else x) = mx x y := fun _ _ => rfl
  have en : ∀ x y : Int32, (if y < x then y else x) = mn x y := fun _ _ => rfl
  simp only [ex, en]
  unfold gdC
  generalize mx x (mx y z) = u
  generalize mn x (mn y z) = w
  by_cases h1 : u = 0
  · subst h1
    by_cases h2 : w = 0
    · simp [h2]
    · simp [h2]
  · by_cases h3 : 0 < u
    · by_cases h4 : w < 0
      · simp [h1, h3, h4]
      · simp [h1, h3, h4]
    · simp [h1, h3]
/-- the fives of one element with four others, that are not good -/
def bdI (n : Nat) (f : Nat → Int32) (a : Nat) (x : Int32) : Int32 := (quad n).foldl (fun x t => x + if (a ≠ t.1 ∧ a ≠ t.2.1 ∧ a ≠ t.2.2.1 ∧ a ≠ t.2.2.2) ∧ gd5 f a t.1 t.2.1 t.2.2.1 t.2.2.2 = false then nI 1 else nI 0) x
def bdF (n : Nat) (f : Nat → Int32) (i j : Nat) : Int32 := (rg i j).foldl (fun x a => bdI n f a x) (nI 0)
set_option maxHeartbeats 2000000 in
theorem x_R_badFives {dd k n i j : Nat} {m : Mem} {q : MemJ} (ho : oC0 k) (hn : m k 0 = nI n) (hn6 : n ≤ 6) (hi : i ≤ j) (hj : j ≤ n) : ev (dd + 6) 88 0 [.ref k, .int (nI i), .int (nI j), .null, .null, .null, .null, .null, .null, .null] [] (mk shC m q) = some (some (.int (bdF n (m (k + 1)) i j)), mk shC m q) := by
  have L := ev_for1 (fun _ => True) (fun a (x : Int32) (v : Value × Value × Value × Value × Value) => ev (dd + 6) 88 5 [.ref k, .int (nI i), .int (nI j), .int x, .int (nI a), v.1, v.2.1, v.2.2.1, v.2.2.2.1, v.2.2.2.2] [] (mk shC m q))
    (fun x => some (some (.int x), mk shC m q)) (fun a x => bdI n (m (k + 1)) a x) j
    (fun x v _ => by rw [s88_5]; simp only [s88_0, s88_1, s88_2, s88_3, s88_7, s88_8, s88_11, s88_12, s88_16, s88_17, s88_20, s88_23, s88_25, s88_26, s88_27, s88_31, s88_32, s88_35, s88_38, s88_40, s88_41, s88_42, s88_46, s88_47, s88_50, s88_53, s88_55, s88_56, s88_57, s88_61, s88_62, s88_65, s88_68, s88_70, s88_72, s88_75, s88_77, s88_79, s88_82, s88_84, s88_86, s88_89, s88_91, s88_93, s88_96, s88_97, s88_100, s88_101, s88_103, s88_104, s88_106, s88_109, s88_110, s88_112, s88_114, s88_116, s88_118, s88_120, s88_123, s88_126, s88_127, s88_130, s88_131, s88_132, s88_133, s88_136, s88_139, s88_142, s88_145, s88_148, s88_151, s88_154, s88_157, s88_160, s88_163, s88_164, nI_irr, if_false])
    (fun _ _ _ _ => trivial)
    (fun a x v ha _ => by
      have ha6 : a < 6 := by omega
      obtain ⟨v', h⟩ := ev_for4e (fun _ => True) (fun b (x : Int32) (v : Value × Value × Value × Value) => ev (dd + 6) 88 14 [.ref k, .int (nI i), .int (nI j), .int x, .int (nI a), .int (nI b), v.1, v.2.1, v.2.2.1, v.2.2.2] [] (mk shC m q))
        (fun b c x v => ev (dd + 6) 88 29 [.ref k, .int (nI i), .int (nI j), .int x, .int (nI a), .int (nI b), .int (nI c), v.2.1, v.2.2.1, v.2.2.2] [] (mk shC m q))
        (fun b c d x v => ev (dd + 6) 88 44 [.ref k, .int (nI i), .int (nI j), .int x, .int (nI a), .int (nI b), .int (nI c), .int (nI d), v.2.2.1, v.2.2.2] [] (mk shC m q))
        (fun b c d e x v => ev (dd + 6) 88 59 [.ref k, .int (nI i), .int (nI j), .int x, .int (nI a), .int (nI b), .int (nI c), .int (nI d), .int (nI e), v.2.2.2] [] (mk shC m q))
        (fun x (v : Value × Value × Value × Value × Value) => ev (dd + 6) 88 5 [.ref k, .int (nI i), .int (nI j), .int x, .int (nI (a + 1)), v.1, v.2.1, v.2.2.1, v.2.2.2.1, v.2.2.2.2] [] (mk shC m q))
        (fun b c d e x => x + if (a ≠ b ∧ a ≠ c ∧ a ≠ d ∧ a ≠ e) ∧ gd5 (m (k + 1)) a b c d e = false then nI 1 else nI 0) n
        (fun x v _ => ⟨(.int (nI n), v), by rw [s88_14]; simp only [s88_0, s88_1, s88_2, s88_3, s88_7, s88_8, s88_11, s88_12, s88_16, s88_17, s88_20, s88_23, s88_25, s88_26, s88_27, s88_31, s88_32, s88_35, s88_38, s88_40, s88_41, s88_42, s88_46, s88_47, s88_50, s88_53, s88_55, s88_56, s88_57, s88_61, s88_62, s88_65, s88_68, s88_70, s88_72, s88_75, s88_77, s88_79, s88_82, s88_84, s88_86, s88_89, s88_91, s88_93, s88_96, s88_97, s88_100, s88_101, s88_103, s88_104, s88_106, s88_109, s88_110, s88_112, s88_114, s88_116, s88_118, s88_120, s88_123, s88_126, s88_127, s88_130, s88_131, s88_132, s88_133, s88_136, s88_139, s88_142, s88_145, s88_148, s88_151, s88_154, s88_157, s88_160, s88_163, s88_164, ho, x_A_size ho, hn, Option.bind_some, Option.toList_some, Option.toList_none, List.nil_append, List.cons_append, nI_irr, if_false, nI_add]⟩)
        (fun b x v hb _ => ⟨v, by rw [s88_14]; simp only [s88_0, s88_1, s88_2, s88_3, s88_7, s88_8, s88_11, s88_12, s88_16, s88_17, s88_20, s88_23, s88_25, s88_26, s88_27, s88_31, s88_32, s88_35, s88_38, s88_40, s88_41, s88_42, s88_46, s88_47, s88_50, s88_53, s88_55, s88_56, s88_57, s88_61, s88_62, s88_65, s88_68, s88_70, s88_72, s88_75, s88_77, s88_79, s88_82, s88_84, s88_86, s88_89, s88_91, s88_93, s88_96, s88_97, s88_100, s88_101, s88_103, s88_104, s88_106, s88_109, s88_110, s88_112, s88_114, s88_116, s88_118, s88_120, s88_123, s88_126, s88_127, s88_130, s88_131, s88_132, s88_133, s88_136, s88_139, s88_142, s88_145, s88_148, s88_151, s88_154, s88_157, s88_160, s88_163, s88_164, ho, x_A_size ho, hn, Option.bind_some, Option.toList_some, Option.toList_none, List.nil_append, List.cons_append, nI_lt hb (show n < 2 ^ 31 by omega), if_true, nI_add]⟩)
        (fun b x v hb _ => ⟨(.int (nI n), v.2), by rw [s88_29]; simp only [s88_0, s88_1, s88_2, s88_3, s88_7, s88_8, s88_11, s88_12, s88_16, s88_17, s88_20, s88_23, s88_25, s88_26, s88_27, s88_31, s88_32, s88_35, s88_38, s88_40, s88_41, s88_42, s88_46, s88_47, s88_50, s88_53, s88_55, s88_56, s88_57, s88_61, s88_62, s88_65, s88_68, s88_70, s88_72, s88_75, s88_77, s88_79, s88_82, s88_84, s88_86, s88_89, s88_91, s88_93, s88_96, s88_97, s88_100, s88_101, s88_103, s88_104, s88_106, s88_109, s88_110, s88_112, s88_114, s88_116, s88_118, s88_120, s88_123, s88_126, s88_127, s88_130, s88_131, s88_132, s88_133, s88_136, s88_139, s88_142, s88_145, s88_148, s88_151, s88_154, s88_157, s88_160, s88_163, s88_164, ho, x_A_size ho, hn, Option.bind_some, Option.toList_some, Option.toList_none, List.nil_append, List.cons_append, nI_irr, if_false, nI_add]⟩)
        (fun b c x v hab hb _ => ⟨v, by rw [s88_29]; simp only [s88_0, s88_1, s88_2, s88_3, s88_7, s88_8, s88_11, s88_12, s88_16, s88_17, s88_20, s88_23, s88_25, s88_26, s88_27, s88_31, s88_32, s88_35, s88_38, s88_40, s88_41, s88_42, s88_46, s88_47, s88_50, s88_53, s88_55, s88_56, s88_57, s88_61, s88_62, s88_65, s88_68, s88_70, s88_72, s88_75, s88_77, s88_79, s88_82, s88_84, s88_86, s88_89, s88_91, s88_93, s88_96, s88_97, s88_100, s88_101, s88_103, s88_104, s88_106, s88_109, s88_110, s88_112, s88_114, s88_116, s88_118, s88_120, s88_123, s88_126, s88_127, s88_130, s88_131, s88_132, s88_133, s88_136, s88_139, s88_142, s88_145, s88_148, s88_151, s88_154, s88_157, s88_160, s88_163, s88_164, ho, x_A_size ho, hn, Option.bind_some, Option.toList_some, Option.toList_none, List.nil_append, List.cons_append, nI_lt hb (show n < 2 ^ 31 by omega), if_true, nI_add]⟩)
        (fun b c x v hab hb _ => ⟨(v.1, .int (nI n), v.2.2), by rw [s88_44]; simp only [s88_0, s88_1, s88_2, s88_3, s88_7, s88_8, s88_11, s88_12, s88_16, s88_17, s88_20, s88_23, s88_25, s88_26, s88_27, s88_31, s88_32, s88_35, s88_38, s88_40, s88_41, s88_42, s88_46, s88_47, s88_50, s88_53, s88_55, s88_56, s88_57, s88_61, s88_62, s88_65, s88_68, s88_70, s88_72, s88_75, s88_77, s88_79, s88_82, s88_84, s88_86, s88_89, s88_91, s88_93, s88_96, s88_97, s88_100, s88_101, s88_103, s88_104, s88_106, s88_109, s88_110, s88_112, s88_114, s88_116, s88_118, s88_120, s88_123, s88_126, s88_127, s88_130, s88_131, s88_132, s88_133, s88_136, s88_139, s88_142, s88_145, s88_148, s88_151, s88_154, s88_157, s88_160, s88_163, s88_164, ho, x_A_size ho, hn, Option.bind_some, Option.toList_some, Option.toList_none, List.nil_append, List.cons_append, nI_irr, if_false, nI_add]⟩)
        (fun b c d x v hab hbc hb _ => ⟨v, by rw [s88_44]; simp only [s88_0, s88_1, s88_2, s88_3, s88_7, s88_8, s88_11, s88_12, s88_16, s88_17, s88_20, s88_23, s88_25, s88_26, s88_27, s88_31, s88_32, s88_35, s88_38, s88_40, s88_41, s88_42, s88_46, s88_47, s88_50, s88_53, s88_55, s88_56, s88_57, s88_61, s88_62, s88_65, s88_68, s88_70, s88_72, s88_75, s88_77, s88_79, s88_82, s88_84, s88_86, s88_89, s88_91, s88_93, s88_96, s88_97, s88_100, s88_101, s88_103, s88_104, s88_106, s88_109, s88_110, s88_112, s88_114, s88_116, s88_118, s88_120, s88_123, s88_126, s88_127, s88_130, s88_131, s88_132, s88_133, s88_136, s88_139, s88_142, s88_145, s88_148, s88_151, s88_154, s88_157, s88_160, s88_163, s88_164, ho, x_A_size ho, hn, Option.bind_some, Option.toList_some, Option.toList_none, List.nil_append, List.cons_append, nI_lt hb (show n < 2 ^ 31 by omega), if_true, nI_add]⟩)
        (fun b c d x v hab hbc hb _ => ⟨(v.1, v.2.1, .int (nI n), v.2.2.2), by rw [s88_59]; simp only [s88_0, s88_1, s88_2, s88_3, s88_7, s88_8, s88_11, s88_12, s88_16, s88_17, s88_20, s88_23, s88_25, s88_26, s88_27, s88_31, s88_32, s88_35, s88_38, s88_40, s88_41, s88_42, s88_46, s88_47, s88_50, s88_53, s88_55, s88_56, s88_57, s88_61, s88_62, s88_65, s88_68, s88_70, s88_72, s88_75, s88_77, s88_79, s88_82, s88_84, s88_86, s88_89, s88_91, s88_93, s88_96, s88_97, s88_100, s88_101, s88_103, s88_104, s88_106, s88_109, s88_110, s88_112, s88_114, s88_116, s88_118, s88_120, s88_123, s88_126, s88_127, s88_130, s88_131, s88_132, s88_133, s88_136, s88_139, s88_142, s88_145, s88_148, s88_151, s88_154, s88_157, s88_160, s88_163, s88_164, ho, x_A_size ho, hn, Option.bind_some, Option.toList_some, Option.toList_none, List.nil_append, List.cons_append, nI_irr, if_false, nI_add]⟩)
        (fun _ _ _ _ _ _ _ _ _ _ => trivial)
        (fun b c d e x v hab hbc hcd he _ => ⟨(v.1, v.2.1, v.2.2.1, .int (if a ≠ b ∧ a ≠ c ∧ a ≠ d ∧ a ≠ e then nI 1 else nI 0)), by
          rw [s88_59]
          simp only [s88_0, s88_1, s88_2, s88_3, s88_7, s88_8, s88_11, s88_12, s88_16, s88_17, s88_20, s88_23, s88_25, s88_26, s88_27, s88_31, s88_32, s88_35, s88_38, s88_40, s88_41, s88_42, s88_46, s88_47, s88_50, s88_53, s88_55, s88_56, s88_57, s88_61, s88_62, s88_65, s88_68, s88_70, s88_72, s88_75, s88_77, s88_79, s88_82, s88_84, s88_86, s88_89, s88_91, s88_93, s88_96, s88_97, s88_100, s88_101, s88_103, s88_104, s88_106, s88_109, s88_110, s88_112, s88_114, s88_116, s88_118, s88_120, s88_123, s88_126, s88_127, s88_130, s88_131, s88_132, s88_133, s88_136, s88_139, s88_142, s88_145, s88_148, s88_151, s88_154, s88_157, s88_160, s88_163, s88_164, ho, x_A_size ho, hn, Option.bind_some, Option.toList_some, Option.toList_none, List.nil_append, List.cons_append, nI_lt he (show n < 2 ^ 31 by omega), if_true, nI_add, nI_eq (show a < 2 ^ 31 by omega) (show b < 2 ^ 31 by omega), nI_eq (show a < 2 ^ 31 by omega) (show c < 2 ^ 31 by omega), nI_eq (show a < 2 ^ 31 by omega) (show d < 2 ^ 31 by omega), nI_eq (show a < 2 ^ 31 by omega) (show e < 2 ^ 31 by omega), x_R_isGood ho ha6 (show b < 6 by omega) (show c < 6 by omega) (show d < 6 by omega) (show e < 6 by omega)]
          have n1 : ¬ nI 1 = 0 := by decide
          have n0 : nI 0 = 0 := rfl
          by_cases c1 : a = b
          · simp [c1, n0]
          · by_cases c2 : a = c
            · simp [c1, c2, n0]
            · by_cases c3 : a = d
              · simp [c1, c2, c3, n0]
              · by_cases c4 : a = e
                · simp [c1, c2, c3, c4, n0]
                · cases hg : gd5 (m (k + 1)) a b c d e with
                  | true => simp [c1, c2, c3, c4, n0, n1]
                  | false => simp [c1, c2, c3, c4, n0, n1]⟩) x v.2 trivial
      refine ⟨v', ?_⟩
      rw [s88_5]
      simp only [s88_0, s88_1, s88_2, s88_3, s88_7, s88_8, s88_11, s88_12, s88_16, s88_17, s88_20, s88_23, s88_25, s88_26, s88_27, s88_31, s88_32, s88_35, s88_38, s88_40, s88_41, s88_42, s88_46, s88_47, s88_50, s88_53, s88_55, s88_56, s88_57, s88_61, s88_62, s88_65, s88_68, s88_70, s88_72, s88_75, s88_77, s88_79, s88_82, s88_84, s88_86, s88_89, s88_91, s88_93, s88_96, s88_97, s88_100, s88_101, s88_103, s88_104, s88_106, s88_109, s88_110, s88_112, s88_114, s88_116, s88_118, s88_120, s88_123, s88_126, s88_127, s88_130, s88_131, s88_132, s88_133, s88_136, s88_139, s88_142, s88_145, s88_148, s88_151, s88_154, s88_157, s88_160, s88_163, s88_164, nI_lt ha (show j < 2 ^ 31 by omega), if_true]
      exact h) i hi (nI 0) (.null, .null, .null, .null, .null) trivial
  simp only [s88_0, s88_1, s88_2, s88_3, s88_7, s88_8, s88_11, s88_12, s88_16, s88_17, s88_20, s88_23, s88_25, s88_26, s88_27, s88_31, s88_32, s88_35, s88_38, s88_40, s88_41, s88_42, s88_46, s88_47, s88_50, s88_53, s88_55, s88_56, s88_57, s88_61, s88_62, s88_65, s88_68, s88_70, s88_72, s88_75, s88_77, s88_79, s88_82, s88_84, s88_86, s88_89, s88_91, s88_93, s88_96, s88_97, s88_100, s88_101, s88_103, s88_104, s88_106, s88_109, s88_110, s88_112, s88_114, s88_116, s88_118, s88_120, s88_123, s88_126, s88_127, s88_130, s88_131, s88_132, s88_133, s88_136, s88_139, s88_142, s88_145, s88_148, s88_151, s88_154, s88_157, s88_160, s88_163, s88_164]
  exact L
