/-! the arrangement: the rest of its methods, by rows -/
theorem am_b1 : am_bool (nI 1) = true := by decide
theorem am_b0 : am_bool (nI 0) = true := by decide
/-- not one of n -/
def nel (n : Nat) (x : Int32) : Prop := x < 0 ∨ nI n ≤ x
theorem el_or (n : Nat) (x : Int32) (hn : n < 2 ^ 31) : nel n x ∨ ∃ e, e < n ∧ x = nI e := by
  rcases pk_ix x hn with h | h | ⟨e, h⟩
  · exact Or.inl (Or.inl h)
  · exact Or.inl (Or.inr h)
  · exact Or.inr ⟨e, h⟩
theorem x_A_has_t {d k n e : Nat} {m : Mem} {q : MemJ} (ho : oC0 k) (hn : m k 0 = nI n) (hn6 : n ≤ 6) (he : e < n) : ev d 55 0 [.ref k, .int (nI e)] [] (mk shC m q) = some (some (.int (nI 1)), mk shC m q) := by
  simp only [s55_0, s55_1, s55_4, s55_5, s55_6, s55_9, s55_12, s55_13, s55_16, s55_17, ho, hn, nI_pos (show e < 2 ^ 31 by omega), nI_lt he (show n < 2 ^ 31 by omega), if_true, if_false, am_b1, am_b0]
theorem x_A_has_f {d k n : Nat} {x : Int32} {m : Mem} {q : MemJ} (ho : oC0 k) (hn : m k 0 = nI n) (hx : nel n x) : ev d 55 0 [.ref k, .int x] [] (mk shC m q) = some (some (.int (nI 0)), mk shC m q) := by
  rcases hx with h | h
  · simp only [s55_0, s55_1, s55_4, s55_5, s55_6, s55_9, s55_12, s55_13, s55_16, s55_17, h, if_true, am_b0]
  · have h2 : ¬ x < nI n := Int32.not_lt.mpr h
    simp only [s55_0, s55_1, s55_4, s55_5, s55_6, s55_9, s55_12, s55_13, s55_16, s55_17, ho, hn, h2, if_false, am_b0]
    split <;> rfl
theorem mu_at {m : Mem} {k j : Nat} {f : Nat → Int32} (i : Nat) (h : j ≠ k) : mu m k f j i = m j i := by rw [mu_ne h]
/-- minor and turn, by the row of points -/
def mnr (g : Nat → Int32) (a b i j : Nat) : Int32 := g (a * 3 + i) * g (b * 3 + j) - g (a * 3 + j) * g (b * 3 + i)
def trn (g : Nat → Int32) (a b c : Nat) : Int32 := g (a * 3) * mnr g b c 1 2 - g (a * 3 + 1) * mnr g b c 0 2 + g (a * 3 + 2) * mnr g b c 0 1
def sgn (x : Int32) : Int32 := if x = 0 then 0 else if 0 < x then 1 else -1
theorem x_A_minor {d k a b i j : Nat} {m : Mem} {q : MemJ} (ho : oC0 k) (ha : a < 6) (hb : b < 6) (hi : i < 3) (hj : j < 3) : ev (d + 1) 48 0 [.ref k, .int (nI a), .int (nI b), .int (nI i), .int (nI j)] [] (mk shC m q) = some (some (.int (mnr (m (k + 2)) a b i j)), mk shC m q) := by
  simp only [s48_0, s48_1, s48_2, s48_3, s48_6, s48_7, s48_8, s48_10, s48_13, s48_14, s48_15, s48_16, s48_18, s48_21, s48_22, s48_23, s48_24, s48_27, s48_28, s48_29, ho, x_A_numberOf ho (show a * 3 + i < 18 by omega), x_A_numberOf ho (show b * 3 + j < 18 by omega), x_A_numberOf ho (show a * 3 + j < 18 by omega), x_A_numberOf ho (show b * 3 + i < 18 by omega), Option.bind_some, Option.toList_some, Option.toList_none, List.nil_append, List.cons_append, mnr]
theorem x_A_turnOf {d k a b c : Nat} {m : Mem} {q : MemJ} (ho : oC0 k) (ha : a < 6) (hb : b < 6) (hc : c < 6) : ev (d + 2) 47 0 [.ref k, .int (nI a), .int (nI b), .int (nI c), .null] [] (mk shC m q) = some (some (.int (sgn (trn (m (k + 2)) a b c))), mk shC m q) := by
  simp only [s47_0, s47_1, s47_2, s47_3, s47_6, s47_7, s47_8, s47_9, s47_10, s47_11, s47_14, s47_15, s47_16, s47_17, s47_18, s47_21, s47_22, s47_23, s47_24, s47_25, s47_26, s47_29, s47_30, s47_31, s47_32, s47_33, s47_34, s47_37, s47_38, s47_39, s47_40, s47_41, s47_42, s47_45, s47_46, s47_47, s47_49, s47_51, s47_54, s47_55, s47_56, s47_58, s47_61, s47_62, s47_65, s47_66, ho, x_A_numberOf ho (show a * 3 + 0 < 18 by omega), x_A_numberOf ho (show a * 3 + 1 < 18 by omega), x_A_numberOf ho (show a * 3 + 2 < 18 by omega), x_A_minor ho hb hc (show 1 < 3 by omega) (show 2 < 3 by omega), x_A_minor ho hb hc (show 0 < 3 by omega) (show 2 < 3 by omega), x_A_minor ho hb hc (show 0 < 3 by omega) (show 1 < 3 by omega), Option.bind_some, Option.toList_some, Option.toList_none, List.nil_append, List.cons_append]
  have e : m (k + 2) (a * 3 + 0) * mnr (m (k + 2)) b c 1 2 - m (k + 2) (a * 3 + 1) * mnr (m (k + 2)) b c 0 2 + m (k + 2) (a * 3 + 2) * mnr (m (k + 2)) b c 0 1 = trn (m (k + 2)) a b c := rfl
  rw [e]
  unfold sgn
  split
  · rfl
  · split <;> rfl
theorem x_A_isAt {d k e : Nat} {x y z : Int32} {m : Mem} {q : MemJ} (ho : oC0 k) (he : e < 6) : ev (d + 1) 63 0 [.ref k, .int (nI e), .int x, .int y, .int z] [] (mk shC m q) = some (some (.int (if m (k + 2) (e * 3) = x ∧ m (k + 2) (e * 3 + 1) = y ∧ m (k + 2) (e * 3 + 2) = z then nI 1 else nI 0)), mk shC m q) := by
  simp only [s63_0, s63_1, s63_2, s63_3, s63_6, s63_7, s63_10, s63_11, s63_12, s63_13, s63_16, s63_17, s63_20, s63_21, s63_22, s63_23, s63_26, s63_28, s63_31, s63_32, s63_35, s63_36, ho, x_A_numberOf ho (show e * 3 + 0 < 18 by omega), x_A_numberOf ho (show e * 3 + 1 < 18 by omega), x_A_numberOf ho (show e * 3 + 2 < 18 by omega), Option.bind_some, Option.toList_some, Option.toList_none, List.nil_append, List.cons_append, Nat.add_zero, am_b1, am_b0]
  by_cases h1 : m (k + 2) (e * 3) = x
  · by_cases h2 : m (k + 2) (e * 3 + 1) = y
    · by_cases h3 : m (k + 2) (e * 3 + 2) = z
      · simp [h1, h2, h3]
      · simp [h1, h2, h3]
    · simp [h1, h2]
  · simp [h1]
theorem x_A_triplesOf {d n : Nat} {h : AH} (hn : n ≤ 6) : ev d 31 0 [.int (nI n)] [] h = some (some (.int (nI (n * (n - 1) * (n - 2) / 6))), h) := by
  simp only [s31_0, s31_1, s31_2, s31_3, s31_4, s31_5, s31_6, s31_7, s31_8, s31_9, s31_11, s31_12, show ¬ nI 6 = 0 by decide, not_false_eq_true]
  match n, hn with
  | 0, _ => rfl
  | 1, _ => rfl
  | 2, _ => rfl
  | 3, _ => rfl
  | 4, _ => rfl
  | 5, _ => rfl
  | 6, _ => rfl
theorem x_A_triples {d k n : Nat} {m : Mem} {q : MemJ} (ho : oC0 k) (hn : m k 0 = nI n) (hn6 : n ≤ 6) : ev (d + 1) 91 0 [.ref k] [] (mk shC m q) = some (some (.int (nI (n * (n - 1) * (n - 2) / 6))), mk shC m q) := by
  simp only [s91_0, s91_1, s91_4, s91_7, ho, hn, x_A_triplesOf hn6, Option.bind_some, Option.toList_some, Option.toList_none, List.nil_append, List.cons_append]
theorem x_A_widen {d k n : Nat} {m : Mem} {q : MemJ} (ho : oC0 k) (hn : m k 0 = nI n) (hn6 : n < 6) : ev d 135 0 [.ref k] [] (mk shC m q) = some (none, mk shC (mu m k (upd (m k) 0 (nI (n + 1)))) q) := by
  simp only [s135_0, s135_1, s135_4, s135_6, s135_9, s135_10, s135_11, s135_14, s135_15, s135_16, s135_19, ho, hn, nI_lt hn6 (show 6 < 2 ^ 31 by omega), if_true, nI_add]
theorem x_A_copy {d k j : Nat} {m : Mem} {q : MemJ} (ho : oC0 k) (hj : oC0 j) : ev (d + 5) 22 0 [.ref k, .ref j] [] (mk shC m q) = some (none, mk shC (mu (mu (mu m k (upd (m k) 0 (m j 0))) (k + 1) (va_cpy (mu m k (upd (m k) 0 (m j 0)) (j + 1)) (mu m k (upd (m k) 0 (m j 0)) (k + 1)) 0 0 216)) (k + 2) (va_cpy (mu (mu m k (upd (m k) 0 (m j 0))) (k + 1) (va_cpy (mu m k (upd (m k) 0 (m j 0)) (j + 1)) (mu m k (upd (m k) 0 (m j 0)) (k + 1)) 0 0 216) (j + 2)) (mu (mu m k (upd (m k) 0 (m j 0))) (k + 1) (va_cpy (mu m k (upd (m k) 0 (m j 0)) (j + 1)) (mu m k (upd (m k) 0 (m j 0)) (k + 1)) 0 0 216) (k + 2)) 0 0 18)) q) := by
  simp only [s22_0, s22_1, s22_2, s22_5, s22_8, s22_9, s22_12, s22_13, s22_14, s22_17, s22_18, s22_19, s22_22, s22_23, s22_26, s22_27, s22_30, s22_31, s22_32, s22_35, s22_36, s22_37, s22_40, s22_41, s22_44, ho, hj, oC0_t1 ho, oC0_n1 ho, oC0_t2 ho, oC0_n2 ho, oC0_t1 hj, oC0_n1 hj, oC0_t2 hj, oC0_n2 hj, Nat.zero_add, Nat.le_refl]
theorem x_A_tradePoints {d k e f : Nat} {m : Mem} {q : MemJ} (ho : oC0 k) (he : e < 6) (hf : f < 6) : ev (d + 1) 43 0 [.ref k, .int (nI e), .int (nI f), .null, .null, .null] [] (mk shC m q) = some (none, mk shC (mu m (k + 2) (pt3 (pt3 (m (k + 2)) e (m (k + 2) (f * 3)) (m (k + 2) (f * 3 + 1)) (m (k + 2) (f * 3 + 2))) f (m (k + 2) (e * 3)) (m (k + 2) (e * 3 + 1)) (m (k + 2) (e * 3 + 2)))) q) := by
  simp only [s43_0, s43_1, s43_2, s43_3, s43_6, s43_7, s43_8, s43_9, s43_10, s43_13, s43_15, s43_16, s43_17, s43_18, s43_21, s43_23, s43_24, s43_25, s43_26, s43_27, s43_28, s43_31, s43_32, s43_33, s43_34, s43_37, s43_38, s43_39, s43_40, s43_43, s43_46, s43_47, s43_48, s43_49, s43_51, s43_53, s43_56, ho, x_A_numberOf ho (show e * 3 + 0 < 18 by omega), x_A_numberOf ho (show e * 3 + 1 < 18 by omega), x_A_numberOf ho (show e * 3 + 2 < 18 by omega), x_A_numberOf ho (show f * 3 + 0 < 18 by omega), x_A_numberOf ho (show f * 3 + 1 < 18 by omega), x_A_numberOf ho (show f * 3 + 2 < 18 by omega), x_A_givePoint ho he, x_A_givePoint ho hf, Option.bind_some, Option.toList_some, Option.toList_none, List.nil_append, List.cons_append, Nat.add_zero, mu_mu, mu_same]
theorem x_A_tradeSigns {d k e f a b : Nat} {m : Mem} {q : MemJ} (ho : oC0 k) (he : e < 6) (hf : f < 6) (ha : a < 6) (hb : b < 6) : ev (d + 2) 44 0 [.ref k, .int (nI e), .int (nI f), .int (nI a), .int (nI b), .null, .null] [] (mk shC m q) = some (some (.int (if m (k + 1) ((e * 6 + a) * 6 + b) = m (k + 1) ((f * 6 + a) * 6 + b) then nI 0 else nI 2)), mk shC (mu m (k + 1) (sg6 (sg6 (m (k + 1)) e a b (m (k + 1) ((f * 6 + a) * 6 + b))) f a b (m (k + 1) ((e * 6 + a) * 6 + b)))) q) := by
  simp only [s44_0, s44_1, s44_2, s44_3, s44_5, s44_8, s44_10, s44_11, s44_12, s44_13, s44_15, s44_18, s44_20, s44_21, s44_22, s44_23, s44_25, s44_27, s44_30, s44_31, s44_32, s44_33, s44_35, s44_37, s44_40, s44_42, s44_44, s44_47, s44_48, s44_51, s44_52, ho, x_A_signOf ho (show (e * 6 + a) * 6 + b < 216 by omega), x_A_signOf ho (show (f * 6 + a) * 6 + b < 216 by omega), x_A_giveSign ho he ha hb, x_A_giveSign ho hf ha hb, Option.bind_some, Option.toList_some, Option.toList_none, List.nil_append, List.cons_append, mu_mu, mu_same]
  split <;> rfl
/-- reverse: the row of signs, how many became others -/
def rvs (n e : Nat) (f : Nat → Int32) : (Nat → Int32) × Int32 := (prs n).foldl (fun x t => if t.1 ≠ e ∧ t.2 ≠ e ∧ x.1 ((e * 6 + t.1) * 6 + t.2) ≠ 0 then (sg6 x.1 e t.1 t.2 (-(x.1 ((e * 6 + t.1) * 6 + t.2))), x.2 + 1) else x) (f, 0)
theorem x_A_reverse {d k n e : Nat} {m : Mem} {q : MemJ} (ho : oC0 k) (hn : m k 0 = nI n) (hn6 : n ≤ 6) (he : e < n) : ev (d + 2) 38 0 [.ref k, .int (nI e), .null, .null, .null] [] (mk shC m q) = some (some (.int (rvs n e (m (k + 1))).2), mk shC (mu (mu m (k + 2) (pt3 (m (k + 2)) e (-(m (k + 2) (e * 3))) (-(m (k + 2) (e * 3 + 1))) (-(m (k + 2) (e * 3 + 2))))) (k + 1) (rvs n e (m (k + 1))).1) q) := by
  have he6 : e < 6 := by omega
  generalize hg : mu m (k + 2) (pt3 (m (k + 2)) e (-(m (k + 2) (e * 3))) (-(m (k + 2) (e * 3 + 1))) (-(m (k + 2) (e * 3 + 2)))) = m0
  have h0 : ∀ f, mu m0 (k + 1) f k 0 = nI n := fun f => by rw [mu_at _ (by omega), ← hg, mu_at _ (by omega), hn]
  have h1 : m0 (k + 1) = m (k + 1) := by rw [← hg, mu_ne (by omega)]
  have L := ev_for2 (fun _ => True) (fun a (x : (Nat → Int32) × Int32) (v : Value × Value) => ev (d + 2) 38 30 [.ref k, .int (nI e), .int x.2, .int (nI a), v.1] [] (mk shC (mu m0 (k + 1) x.1) q))
    (fun a b x v => ev (d + 2) 38 43 [.ref k, .int (nI e), .int x.2, .int (nI a), .int (nI b)] [] (mk shC (mu m0 (k + 1) x.1) q))
    (fun x => some (some (.int x.2), mk shC (mu m0 (k + 1) x.1) q)) (fun a b x => if a ≠ e ∧ b ≠ e ∧ x.1 ((e * 6 + a) * 6 + b) ≠ 0 then (sg6 x.1 e a b (-(x.1 ((e * 6 + a) * 6 + b))), x.2 + 1) else x) n
    (fun x v _ => by rw [s38_30]; simp only [s38_0, s38_1, s38_2, s38_3, s38_4, s38_5, s38_8, s38_9, s38_10, s38_11, s38_12, s38_15, s38_16, s38_17, s38_18, s38_19, s38_22, s38_23, s38_26, s38_27, s38_28, s38_29, s38_31, s38_32, s38_35, s38_38, s38_39, s38_40, s38_41, s38_45, s38_46, s38_49, s38_52, s38_53, s38_54, s38_57, s38_59, s38_60, s38_63, s38_64, s38_65, s38_66, s38_68, s38_71, s38_74, s38_75, s38_76, s38_77, s38_79, s38_80, s38_81, s38_82, s38_84, s38_87, s38_88, s38_91, s38_94, s38_97, s38_100, s38_103, s38_106, s38_107, ho, h0, nI_irr, if_false])
    (fun a x v ha _ => ⟨v, by rw [s38_30]; simp only [s38_0, s38_1, s38_2, s38_3, s38_4, s38_5, s38_8, s38_9, s38_10, s38_11, s38_12, s38_15, s38_16, s38_17, s38_18, s38_19, s38_22, s38_23, s38_26, s38_27, s38_28, s38_29, s38_31, s38_32, s38_35, s38_38, s38_39, s38_40, s38_41, s38_45, s38_46, s38_49, s38_52, s38_53, s38_54, s38_57, s38_59, s38_60, s38_63, s38_64, s38_65, s38_66, s38_68, s38_71, s38_74, s38_75, s38_76, s38_77, s38_79, s38_80, s38_81, s38_82, s38_84, s38_87, s38_88, s38_91, s38_94, s38_97, s38_100, s38_103, s38_106, s38_107, ho, h0, nI_lt ha (show n < 2 ^ 31 by omega), if_true, nI_add]⟩)
    (fun a x v ha _ => ⟨(.int (nI n), v.2), by rw [s38_43]; simp only [s38_0, s38_1, s38_2, s38_3, s38_4, s38_5, s38_8, s38_9, s38_10, s38_11, s38_12, s38_15, s38_16, s38_17, s38_18, s38_19, s38_22, s38_23, s38_26, s38_27, s38_28, s38_29, s38_31, s38_32, s38_35, s38_38, s38_39, s38_40, s38_41, s38_45, s38_46, s38_49, s38_52, s38_53, s38_54, s38_57, s38_59, s38_60, s38_63, s38_64, s38_65, s38_66, s38_68, s38_71, s38_74, s38_75, s38_76, s38_77, s38_79, s38_80, s38_81, s38_82, s38_84, s38_87, s38_88, s38_91, s38_94, s38_97, s38_100, s38_103, s38_106, s38_107, ho, h0, nI_irr, if_false, nI_add]⟩)
    (fun _ _ _ _ _ _ => trivial)
    (fun a b x v hab hb _ => ⟨v, by
      have hi : (e * 6 + a) * 6 + b < 216 := by omega
      have ha6 : a < 6 := by omega
      have hb6 : b < 6 := by omega
      rw [s38_43]
      simp only [s38_0, s38_1, s38_2, s38_3, s38_4, s38_5, s38_8, s38_9, s38_10, s38_11, s38_12, s38_15, s38_16, s38_17, s38_18, s38_19, s38_22, s38_23, s38_26, s38_27, s38_28, s38_29, s38_31, s38_32, s38_35, s38_38, s38_39, s38_40, s38_41, s38_45, s38_46, s38_49, s38_52, s38_53, s38_54, s38_57, s38_59, s38_60, s38_63, s38_64, s38_65, s38_66, s38_68, s38_71, s38_74, s38_75, s38_76, s38_77, s38_79, s38_80, s38_81, s38_82, s38_84, s38_87, s38_88, s38_91, s38_94, s38_97, s38_100, s38_103, s38_106, s38_107, ho, h0, nI_lt hb (show n < 2 ^ 31 by omega), if_true, nI_add, nI_eq (show a < 2 ^ 31 by omega) (show e < 2 ^ 31 by omega), nI_eq (show b < 2 ^ 31 by omega) (show e < 2 ^ 31 by omega), x_A_signOf ho hi, x_A_giveSign ho he6 ha6 hb6, Option.bind_some, Option.toList_some, Option.toList_none, List.nil_append, List.cons_append, mu_mu, mu_same]
      by_cases c1 : a = e
      · simp [c1]
      · by_cases c2 : b = e
        · simp [c1, c2]
        · by_cases c3 : x.1 ((e * 6 + a) * 6 + b) = 0
          · simp [c1, c2, c3]
          · simp [c1, c2, c3, nI_one]⟩) (m (k + 1), 0) (.null, .null) trivial
  simp only [s38_0, s38_1, s38_2, s38_3, s38_4, s38_5, s38_8, s38_9, s38_10, s38_11, s38_12, s38_15, s38_16, s38_17, s38_18, s38_19, s38_22, s38_23, s38_26, s38_27, s38_28, s38_29, s38_31, s38_32, s38_35, s38_38, s38_39, s38_40, s38_41, s38_45, s38_46, s38_49, s38_52, s38_53, s38_54, s38_57, s38_59, s38_60, s38_63, s38_64, s38_65, s38_66, s38_68, s38_71, s38_74, s38_75, s38_76, s38_77, s38_79, s38_80, s38_81, s38_82, s38_84, s38_87, s38_88, s38_91, s38_94, s38_97, s38_100, s38_103, s38_106, s38_107, ho, x_A_numberOf ho (show e * 3 + 0 < 18 by omega), x_A_numberOf ho (show e * 3 + 1 < 18 by omega), x_A_numberOf ho (show e * 3 + 2 < 18 by omega), x_A_givePoint ho he6, Option.bind_some, Option.toList_some, Option.toList_none, List.nil_append, List.cons_append, Nat.add_zero, hg]
  have e9 : mu m0 (k + 1) (m (k + 1)) = m0 := by rw [← h1, mu_self]
  simp only [e9] at L
  exact L
