/-! the arrangement: its longer loops -/
theorem oC0_apart : ∀ k j, oC0 k → oC0 j → k ≠ j + 1 ∧ k ≠ j + 2 ∧ k + 1 ≠ j + 2 ∧ (k ≠ j → k + 1 ≠ j + 1 ∧ k + 2 ≠ j + 2) ∧ k < 78 := by
  intro k j hk hj
  have h1 := oC0_t1 hk
  have h2 := oC0_t2 hk
  have h3 := oC0_n1 hk
  have h4 := oC0_n2 hk
  have g1 := oC0_t1 hj
  have g2 := oC0_t2 hj
  have g3 := oC0_n1 hj
  have g4 := oC0_n2 hj
  have t0 : ∀ k, oC0 k → sh_tg shC k = 0 := fun k hk => by unfold sh_tg; rw [hk]
  have a0 := t0 k hk
  have b0 := t0 j hj
  refine ⟨fun e => ?_, fun e => ?_, fun e => ?_, fun h => ⟨by omega, by omega⟩, (List.getElem?_eq_some_iff.mp hk).1⟩
  · subst e; rw [a0] at g1; cases g1
  · subst e; rw [a0] at g2; cases g2
  · rw [e, g4] at h3; cases h3
def cpA (m : Mem) (k j : Nat) : Mem := mu (mu (mu m k (upd (m k) 0 (m j 0))) (k + 1) (va_cpy (m (j + 1)) (m (k + 1)) 0 0 216)) (k + 2) (va_cpy (m (j + 2)) (m (k + 2)) 0 0 18)
theorem x_A_copy' {d k j : Nat} {m : Mem} {q : MemJ} (ho : oC0 k) (hj : oC0 j) : ev (d + 5) 22 0 [.ref k, .ref j] [] (mk shC m q) = some (none, mk shC (cpA m k j) q) := by
  rw [x_A_copy ho hj]
  obtain ⟨n1, n2, n3, -⟩ := oC0_apart k j ho hj
  obtain ⟨p1, p2, p3, -⟩ := oC0_apart j k hj ho
  have e1 : mu m k (upd (m k) 0 (m j 0)) (j + 1) = m (j + 1) := mu_ne (fun e => n1 e.symm)
  have e2 : mu m k (upd (m k) 0 (m j 0)) (k + 1) = m (k + 1) := mu_ne (by omega)
  rw [e1, e2]
  have e3 : ∀ f, mu (mu m k (upd (m k) 0 (m j 0))) (k + 1) f (j + 2) = m (j + 2) := fun f => by rw [mu_ne (fun e => n3 e.symm), mu_ne (fun e => n2 e.symm)]
  have e4 : ∀ f, mu (mu m k (upd (m k) 0 (m j 0))) (k + 1) f (k + 2) = m (k + 2) := fun f => by rw [mu_ne (by omega), mu_ne (by omega)]
  rw [e3, e4]
  rfl
/-- trade: the row of signs, how many became others -/
def trdI (e f a : Nat) (x : (Nat → Int32) × Int32) (b : Nat) : (Nat → Int32) × Int32 := if b ≠ e ∧ b ≠ f then (sg6 (sg6 x.1 e a b (x.1 ((f * 6 + a) * 6 + b))) f a b (x.1 ((e * 6 + a) * 6 + b)), x.2 + if x.1 ((e * 6 + a) * 6 + b) = x.1 ((f * 6 + a) * 6 + b) then 0 else 2) else x
def trdO (n e f : Nat) (x : (Nat → Int32) × Int32) (a : Nat) : (Nat → Int32) × Int32 := if a = e ∨ a = f then x else (rg (a + 1) n).foldl (trdI e f a) (if x.1 ((e * 6 + f) * 6 + a) ≠ 0 then (sg6 x.1 e f a (-(x.1 ((e * 6 + f) * 6 + a))), x.2 + 1) else x)
def trd (n e f : Nat) (g : Nat → Int32) : (Nat → Int32) × Int32 := (rg 0 n).foldl (trdO n e f) (g, 0)
theorem x_A_trade {d k n e f : Nat} {m : Mem} {q : MemJ} (ho : oC0 k) (hn : m k 0 = nI n) (hn6 : n ≤ 6) (he : e < n) (hf : f < n) : ev (d + 3) 42 0 [.ref k, .int (nI e), .int (nI f), .null, .null, .null] [] (mk shC m q) = some (some (.int (trd n e f (m (k + 1))).2), mk shC (mu (mu m (k + 2) (pt3 (pt3 (m (k + 2)) e (m (k + 2) (f * 3)) (m (k + 2) (f * 3 + 1)) (m (k + 2) (f * 3 + 2))) f (m (k + 2) (e * 3)) (m (k + 2) (e * 3 + 1)) (m (k + 2) (e * 3 + 2)))) (k + 1) (trd n e f (m (k + 1))).1) q) := by
  have he6 : e < 6 := by omega
  have hf6 : f < 6 := by omega
  generalize hg : mu m (k + 2) (pt3 (pt3 (m (k + 2)) e (m (k + 2) (f * 3)) (m (k + 2) (f * 3 + 1)) (m (k + 2) (f * 3 + 2))) f (m (k + 2) (e * 3)) (m (k + 2) (e * 3 + 1)) (m (k + 2) (e * 3 + 2))) = m0
  have h0 : ∀ f, mu m0 (k + 1) f k 0 = nI n := fun f => by rw [mu_at _ (by omega), ← hg, mu_at _ (by omega), hn]
  have h1 : m0 (k + 1) = m (k + 1) := by rw [← hg, mu_ne (by omega)]
  have L := ev_for1 (fun _ => True) (fun a (x : (Nat → Int32) × Int32) (v : Value) => ev (d + 3) 42 11 [.ref k, .int (nI e), .int (nI f), .int x.2, .int (nI a), v] [] (mk shC (mu m0 (k + 1) x.1) q))
    (fun x => some (some (.int x.2), mk shC (mu m0 (k + 1) x.1) q)) (fun a x => trdO n e f x a) n
    (fun x v _ => by rw [s42_11]; simp only [s42_0, s42_1, s42_2, s42_3, s42_6, s42_7, s42_8, s42_9, s42_13, s42_14, s42_17, s42_20, s42_22, s42_23, s42_26, s42_28, s42_29, s42_32, s42_35, s42_36, s42_37, s42_38, s42_40, s42_43, s42_46, s42_47, s42_48, s42_49, s42_51, s42_52, s42_53, s42_54, s42_56, s42_59, s42_60, s42_63, s42_66, s42_68, s42_69, s42_70, s42_74, s42_75, s42_78, s42_81, s42_83, s42_84, s42_87, s42_89, s42_90, s42_93, s42_94, s42_95, s42_96, s42_97, s42_99, s42_101, s42_104, s42_105, s42_106, s42_109, s42_112, s42_115, s42_118, s42_119, ho, h0, nI_irr, if_false])
    (fun _ _ _ _ => trivial)
    (fun a x v ha _ => by
      rw [s42_11]
      have ha6 : a < 6 := by omega
      have hi : (e * 6 + f) * 6 + a < 216 := by omega
      simp only [s42_0, s42_1, s42_2, s42_3, s42_6, s42_7, s42_8, s42_9, s42_13, s42_14, s42_17, s42_20, s42_22, s42_23, s42_26, s42_28, s42_29, s42_32, s42_35, s42_36, s42_37, s42_38, s42_40, s42_43, s42_46, s42_47, s42_48, s42_49, s42_51, s42_52, s42_53, s42_54, s42_56, s42_59, s42_60, s42_63, s42_66, s42_68, s42_69, s42_70, s42_74, s42_75, s42_78, s42_81, s42_83, s42_84, s42_87, s42_89, s42_90, s42_93, s42_94, s42_95, s42_96, s42_97, s42_99, s42_101, s42_104, s42_105, s42_106, s42_109, s42_112, s42_115, s42_118, s42_119, ho, h0, nI_lt ha (show n < 2 ^ 31 by omega), if_true, nI_add, nI_eq (show a < 2 ^ 31 by omega) (show e < 2 ^ 31 by omega), nI_eq (show a < 2 ^ 31 by omega) (show f < 2 ^ 31 by omega), x_A_signOf ho hi, x_A_giveSign ho he6 hf6 ha6, Option.bind_some, Option.toList_some, Option.toList_none, List.nil_append, List.cons_append, mu_mu, mu_same]
      by_cases c1 : a = e
      · exact ⟨v, by simp [c1, trdO]⟩
      · by_cases c2 : a = f
        · exact ⟨v, by simp [c1, c2, trdO]⟩
        · refine ⟨.int (nI n), ?_⟩
          have L2 := ev_for1 (fun _ => True) (fun b (x : (Nat → Int32) × Int32) (_ : Unit) => ev (d + 3) 42 72 [.ref k, .int (nI e), .int (nI f), .int x.2, .int (nI a), .int (nI b)] [] (mk shC (mu m0 (k + 1) x.1) q))
            (fun x => ev (d + 3) 42 11 [.ref k, .int (nI e), .int (nI f), .int x.2, .int (nI (a + 1)), .int (nI n)] [] (mk shC (mu m0 (k + 1) x.1) q)) (fun b x => trdI e f a x b) n
            (fun x v _ => by rw [s42_72]; simp only [s42_0, s42_1, s42_2, s42_3, s42_6, s42_7, s42_8, s42_9, s42_13, s42_14, s42_17, s42_20, s42_22, s42_23, s42_26, s42_28, s42_29, s42_32, s42_35, s42_36, s42_37, s42_38, s42_40, s42_43, s42_46, s42_47, s42_48, s42_49, s42_51, s42_52, s42_53, s42_54, s42_56, s42_59, s42_60, s42_63, s42_66, s42_68, s42_69, s42_70, s42_74, s42_75, s42_78, s42_81, s42_83, s42_84, s42_87, s42_89, s42_90, s42_93, s42_94, s42_95, s42_96, s42_97, s42_99, s42_101, s42_104, s42_105, s42_106, s42_109, s42_112, s42_115, s42_118, s42_119, ho, h0, nI_irr, if_false, nI_add])
            (fun _ _ _ _ => trivial)
            (fun b x v hb _ => ⟨(), by
              have hb6 : b < 6 := by omega
              rw [s42_72]
              simp only [s42_0, s42_1, s42_2, s42_3, s42_6, s42_7, s42_8, s42_9, s42_13, s42_14, s42_17, s42_20, s42_22, s42_23, s42_26, s42_28, s42_29, s42_32, s42_35, s42_36, s42_37, s42_38, s42_40, s42_43, s42_46, s42_47, s42_48, s42_49, s42_51, s42_52, s42_53, s42_54, s42_56, s42_59, s42_60, s42_63, s42_66, s42_68, s42_69, s42_70, s42_74, s42_75, s42_78, s42_81, s42_83, s42_84, s42_87, s42_89, s42_90, s42_93, s42_94, s42_95, s42_96, s42_97, s42_99, s42_101, s42_104, s42_105, s42_106, s42_109, s42_112, s42_115, s42_118, s42_119, ho, h0, nI_lt hb (show n < 2 ^ 31 by omega), if_true, nI_add, nI_eq (show b < 2 ^ 31 by omega) (show e < 2 ^ 31 by omega), nI_eq (show b < 2 ^ 31 by omega) (show f < 2 ^ 31 by omega), x_A_tradeSigns ho he6 hf6 ha6 hb6, Option.bind_some, Option.toList_some, Option.toList_none, List.nil_append, List.cons_append, mu_mu, mu_same]
              by_cases d1 : b = e
              · simp [d1, trdI]
              · by_cases d2 : b = f
                · simp [d1, d2, trdI]
                · simp only [d1, d2, if_false, trdI, nI_0, ne_eq, not_false_eq_true, and_self, if_true]
                  rfl⟩) (a + 1) (by omega)
          simp only [c1, c2, if_false, trdO, or_self]
          by_cases c3 : x.1 ((e * 6 + f) * 6 + a) = 0
          · simp only [c3, if_true, ne_eq, not_true_eq_false, if_false]
            exact L2 x () trivial
          · simp only [c3, if_false, ne_eq, not_false_eq_true, if_true]
            exact L2 (sg6 x.1 e f a (-(x.1 ((e * 6 + f) * 6 + a))), x.2 + 1) () trivial) 0 (Nat.zero_le _) (m (k + 1), 0) .null trivial
  simp only [s42_0, s42_1, s42_2, s42_3, s42_6, s42_7, s42_8, s42_9, s42_13, s42_14, s42_17, s42_20, s42_22, s42_23, s42_26, s42_28, s42_29, s42_32, s42_35, s42_36, s42_37, s42_38, s42_40, s42_43, s42_46, s42_47, s42_48, s42_49, s42_51, s42_52, s42_53, s42_54, s42_56, s42_59, s42_60, s42_63, s42_66, s42_68, s42_69, s42_70, s42_74, s42_75, s42_78, s42_81, s42_83, s42_84, s42_87, s42_89, s42_90, s42_93, s42_94, s42_95, s42_96, s42_97, s42_99, s42_101, s42_104, s42_105, s42_106, s42_109, s42_112, s42_115, s42_118, s42_119, ho, x_A_tradePoints ho he6 hf6, Option.bind_some, Option.toList_some, Option.toList_none, List.nil_append, List.cons_append, hg]
  have e9 : mu m0 (k + 1) (m (k + 1)) = m0 := by rw [← h1, mu_self]
  simp only [e9] at L
  exact L
/-- append: the row of signs -/
def apn (n : Nat) (g f : Nat → Int32) : Nat → Int32 := (prs n).foldl (fun f t => sg6 f t.1 t.2 n (sgn (trn g t.1 t.2 n))) f
theorem x_A_append {d k n : Nat} {x y z : Int32} {m : Mem} {q : MemJ} (ho : oC0 k) (hn : m k 0 = nI n) (hn6 : n < 6) : ev (d + 3) 67 0 [.ref k, .int x, .int y, .int z, .null, .null, .null] [] (mk shC m q) = some (none, mk shC (mu (mu (mu m k (upd (m k) 0 (nI (n + 1)))) (k + 2) (pt3 (m (k + 2)) n x y z)) (k + 1) (apn n (pt3 (m (k + 2)) n x y z) (m (k + 1)))) q) := by
  generalize hg : mu (mu m k (upd (m k) 0 (nI (n + 1)))) (k + 2) (pt3 (m (k + 2)) n x y z) = m0
  have h1 : m0 (k + 1) = m (k + 1) := by rw [← hg, mu_ne (by omega), mu_ne (by omega)]
  have h2 : ∀ f, mu m0 (k + 1) f (k + 2) = pt3 (m (k + 2)) n x y z := fun f => by rw [mu_ne (by omega), ← hg, mu_same]
  have h3 : mu m k (upd (m k) 0 (nI (n + 1))) (k + 2) = m (k + 2) := mu_ne (by omega)
  have L := ev_for2 (fun _ => True) (fun a (f : Nat → Int32) (v : Value) => ev (d + 3) 67 28 [.ref k, .int x, .int y, .int z, .int (nI n), .int (nI a), v] [] (mk shC (mu m0 (k + 1) f) q))
    (fun a b f v => ev (d + 3) 67 41 [.ref k, .int x, .int y, .int z, .int (nI n), .int (nI a), .int (nI b)] [] (mk shC (mu m0 (k + 1) f) q))
    (fun f => some (none, mk shC (mu m0 (k + 1) f) q)) (fun a b f => sg6 f a b n (sgn (trn (pt3 (m (k + 2)) n x y z) a b n))) n
    (fun f v _ => by rw [s67_28]; simp only [s67_0, s67_1, s67_4, s67_6, s67_7, s67_8, s67_11, s67_12, s67_13, s67_16, s67_17, s67_19, s67_20, s67_21, s67_22, s67_25, s67_26, s67_30, s67_32, s67_35, s67_37, s67_38, s67_39, s67_43, s67_45, s67_48, s67_49, s67_51, s67_53, s67_55, s67_56, s67_58, s67_60, s67_62, s67_65, s67_68, s67_71, s67_74, s67_77, s67_80, nI_irr, if_false])
    (fun a f v ha _ => ⟨v, by rw [s67_28]; simp only [s67_0, s67_1, s67_4, s67_6, s67_7, s67_8, s67_11, s67_12, s67_13, s67_16, s67_17, s67_19, s67_20, s67_21, s67_22, s67_25, s67_26, s67_30, s67_32, s67_35, s67_37, s67_38, s67_39, s67_43, s67_45, s67_48, s67_49, s67_51, s67_53, s67_55, s67_56, s67_58, s67_60, s67_62, s67_65, s67_68, s67_71, s67_74, s67_77, s67_80, nI_lt ha (show n < 2 ^ 31 by omega), if_true, nI_add]⟩)
    (fun a f v ha _ => ⟨.int (nI n), by rw [s67_41]; simp only [s67_0, s67_1, s67_4, s67_6, s67_7, s67_8, s67_11, s67_12, s67_13, s67_16, s67_17, s67_19, s67_20, s67_21, s67_22, s67_25, s67_26, s67_30, s67_32, s67_35, s67_37, s67_38, s67_39, s67_43, s67_45, s67_48, s67_49, s67_51, s67_53, s67_55, s67_56, s67_58, s67_60, s67_62, s67_65, s67_68, s67_71, s67_74, s67_77, s67_80, nI_irr, if_false, nI_add]⟩)
    (fun _ _ _ _ _ _ => trivial)
    (fun a b f v hab hb _ => ⟨v, by
      have ha6 : a < 6 := by omega
      have hb6 : b < 6 := by omega
      rw [s67_41]
      simp only [s67_0, s67_1, s67_4, s67_6, s67_7, s67_8, s67_11, s67_12, s67_13, s67_16, s67_17, s67_19, s67_20, s67_21, s67_22, s67_25, s67_26, s67_30, s67_32, s67_35, s67_37, s67_38, s67_39, s67_43, s67_45, s67_48, s67_49, s67_51, s67_53, s67_55, s67_56, s67_58, s67_60, s67_62, s67_65, s67_68, s67_71, s67_74, s67_77, s67_80, ho, nI_lt hb (show n < 2 ^ 31 by omega), if_true, nI_add, x_A_turnOf ho ha6 hb6 hn6, x_A_giveSign ho ha6 hb6 hn6, Option.bind_some, Option.toList_some, Option.toList_none, List.nil_append, List.cons_append, mu_mu, mu_same, h2]⟩) (m (k + 1)) .null trivial
  simp only [s67_0, s67_1, s67_4, s67_6, s67_7, s67_8, s67_11, s67_12, s67_13, s67_16, s67_17, s67_19, s67_20, s67_21, s67_22, s67_25, s67_26, s67_30, s67_32, s67_35, s67_37, s67_38, s67_39, s67_43, s67_45, s67_48, s67_49, s67_51, s67_53, s67_55, s67_56, s67_58, s67_60, s67_62, s67_65, s67_68, s67_71, s67_74, s67_77, s67_80, ho, hn, nI_add, x_A_givePoint ho hn6, Option.bind_some, Option.toList_some, Option.toList_none, List.nil_append, List.cons_append, h3, hg]
  have e9 : mu m0 (k + 1) (m (k + 1)) = m0 := by rw [← h1, mu_self]
  simp only [e9] at L
  exact L
/-- takeTurns -/
def tkt (n : Nat) (g f : Nat → Int32) : (Nat → Int32) × Int32 := (trip n).foldl (fun x t => (sg6 x.1 t.1 t.2.1 t.2.2 (sgn (trn g t.1 t.2.1 t.2.2)), x.2 + if sgn (trn g t.1 t.2.1 t.2.2) = x.1 ((t.1 * 6 + t.2.1) * 6 + t.2.2) then 0 else 1)) (f, 0)
theorem x_A_takeTurns {d k n : Nat} {m : Mem} {q : MemJ} (ho : oC0 k) (hn : m k 0 = nI n) (hn6 : n ≤ 6) : ev (d + 3) 46 0 [.ref k, .null, .null, .null, .null, .null] [] (mk shC m q) = some (some (.int (tkt n (m (k + 2)) (m (k + 1))).2), mk shC (mu m (k + 1) (tkt n (m (k + 2)) (m (k + 1))).1) q) := by
  have h0 : ∀ f, mu m (k + 1) f k 0 = nI n := fun f => by rw [mu_at _ (by omega), hn]
  have h2 : ∀ f, mu m (k + 1) f (k + 2) = m (k + 2) := fun f => mu_ne (by omega)
  have L := ev_for3 (fun _ => True) (fun a (x : (Nat → Int32) × Int32) (v : Value × Value × Value) => ev (d + 3) 46 4 [.ref k, .int x.2, .int (nI a), v.1, v.2.1, v.2.2] [] (mk shC (mu m (k + 1) x.1) q))
    (fun a b x v => ev (d + 3) 46 16 [.ref k, .int x.2, .int (nI a), .int (nI b), v.2.1, v.2.2] [] (mk shC (mu m (k + 1) x.1) q))
    (fun a b c x v => ev (d + 3) 46 29 [.ref k, .int x.2, .int (nI a), .int (nI b), .int (nI c), v.2.2] [] (mk shC (mu m (k + 1) x.1) q))
    (fun x => some (some (.int x.2), mk shC (mu m (k + 1) x.1) q)) (fun a b c x => (sg6 x.1 a b c (sgn (trn (m (k + 2)) a b c)), x.2 + if sgn (trn (m (k + 2)) a b c) = x.1 ((a * 6 + b) * 6 + c) then 0 else 1)) n
    (fun x v _ => by rw [s46_4]; simp only [s46_0, s46_1, s46_2, s46_3, s46_5, s46_6, s46_9, s46_12, s46_13, s46_14, s46_15, s46_17, s46_18, s46_21, s46_24, s46_25, s46_26, s46_27, s46_31, s46_32, s46_35, s46_38, s46_39, s46_40, s46_41, s46_43, s46_46, s46_48, s46_49, s46_51, s46_52, s46_53, s46_54, s46_56, s46_59, s46_62, s46_63, s46_66, s46_67, s46_68, s46_69, s46_70, s46_71, s46_72, s46_74, s46_76, s46_79, s46_82, s46_85, s46_88, s46_91, s46_94, s46_97, s46_98, ho, h0, nI_irr, if_false])
    (fun a x v ha _ => ⟨v, by rw [s46_4]; simp only [s46_0, s46_1, s46_2, s46_3, s46_5, s46_6, s46_9, s46_12, s46_13, s46_14, s46_15, s46_17, s46_18, s46_21, s46_24, s46_25, s46_26, s46_27, s46_31, s46_32, s46_35, s46_38, s46_39, s46_40, s46_41, s46_43, s46_46, s46_48, s46_49, s46_51, s46_52, s46_53, s46_54, s46_56, s46_59, s46_62, s46_63, s46_66, s46_67, s46_68, s46_69, s46_70, s46_71, s46_72, s46_74, s46_76, s46_79, s46_82, s46_85, s46_88, s46_91, s46_94, s46_97, s46_98, ho, h0, nI_lt ha (show n < 2 ^ 31 by omega), if_true, nI_add]⟩)
    (fun a x v ha _ => ⟨(.int (nI n), v.2), by rw [s46_16]; simp only [s46_0, s46_1, s46_2, s46_3, s46_5, s46_6, s46_9, s46_12, s46_13, s46_14, s46_15, s46_17, s46_18, s46_21, s46_24, s46_25, s46_26, s46_27, s46_31, s46_32, s46_35, s46_38, s46_39, s46_40, s46_41, s46_43, s46_46, s46_48, s46_49, s46_51, s46_52, s46_53, s46_54, s46_56, s46_59, s46_62, s46_63, s46_66, s46_67, s46_68, s46_69, s46_70, s46_71, s46_72, s46_74, s46_76, s46_79, s46_82, s46_85, s46_88, s46_91, s46_94, s46_97, s46_98, ho, h0, nI_irr, if_false, nI_add]⟩)
    (fun a b x v hab hb _ => ⟨v, by rw [s46_16]; simp only [s46_0, s46_1, s46_2, s46_3, s46_5, s46_6, s46_9, s46_12, s46_13, s46_14, s46_15, s46_17, s46_18, s46_21, s46_24, s46_25, s46_26, s46_27, s46_31, s46_32, s46_35, s46_38, s46_39, s46_40, s46_41, s46_43, s46_46, s46_48, s46_49, s46_51, s46_52, s46_53, s46_54, s46_56, s46_59, s46_62, s46_63, s46_66, s46_67, s46_68, s46_69, s46_70, s46_71, s46_72, s46_74, s46_76, s46_79, s46_82, s46_85, s46_88, s46_91, s46_94, s46_97, s46_98, ho, h0, nI_lt hb (show n < 2 ^ 31 by omega), if_true, nI_add]⟩)
    (fun a b x v hab hb _ => ⟨(v.1, .int (nI n), v.2.2), by rw [s46_29]; simp only [s46_0, s46_1, s46_2, s46_3, s46_5, s46_6, s46_9, s46_12, s46_13, s46_14, s46_15, s46_17, s46_18, s46_21, s46_24, s46_25, s46_26, s46_27, s46_31, s46_32, s46_35, s46_38, s46_39, s46_40, s46_41, s46_43, s46_46, s46_48, s46_49, s46_51, s46_52, s46_53, s46_54, s46_56, s46_59, s46_62, s46_63, s46_66, s46_67, s46_68, s46_69, s46_70, s46_71, s46_72, s46_74, s46_76, s46_79, s46_82, s46_85, s46_88, s46_91, s46_94, s46_97, s46_98, ho, h0, nI_irr, if_false, nI_add]⟩)
    (fun _ _ _ _ _ _ _ _ => trivial)
    (fun a b c x v hab hbc hc _ => ⟨(v.1, v.2.1, .int (sgn (trn (m (k + 2)) a b c))), by
      have ha6 : a < 6 := by omega
      have hb6 : b < 6 := by omega
      have hc6 : c < 6 := by omega
      have hi : (a * 6 + b) * 6 + c < 216 := by omega
      rw [s46_29]
      simp only [s46_0, s46_1, s46_2, s46_3, s46_5, s46_6, s46_9, s46_12, s46_13, s46_14, s46_15, s46_17, s46_18, s46_21, s46_24, s46_25, s46_26, s46_27, s46_31, s46_32, s46_35, s46_38, s46_39, s46_40, s46_41, s46_43, s46_46, s46_48, s46_49, s46_51, s46_52, s46_53, s46_54, s46_56, s46_59, s46_62, s46_63, s46_66, s46_67, s46_68, s46_69, s46_70, s46_71, s46_72, s46_74, s46_76, s46_79, s46_82, s46_85, s46_88, s46_91, s46_94, s46_97, s46_98, ho, h0, h2, nI_lt hc (show n < 2 ^ 31 by omega), if_true, nI_add, x_A_turnOf ho ha6 hb6 hc6, x_A_signOf ho hi, x_A_giveSign ho ha6 hb6 hc6, Option.bind_some, Option.toList_some, Option.toList_none, List.nil_append, List.cons_append, mu_mu, mu_same]
      split <;> simp only [nI_0, nI_one, if_true, if_false, *]⟩) (m (k + 1), 0) (.null, .null, .null) trivial
  simp only [s46_0, s46_1, s46_2, s46_3, s46_5, s46_6, s46_9, s46_12, s46_13, s46_14, s46_15, s46_17, s46_18, s46_21, s46_24, s46_25, s46_26, s46_27, s46_31, s46_32, s46_35, s46_38, s46_39, s46_40, s46_41, s46_43, s46_46, s46_48, s46_49, s46_51, s46_52, s46_53, s46_54, s46_56, s46_59, s46_62, s46_63, s46_66, s46_67, s46_68, s46_69, s46_70, s46_71, s46_72, s46_74, s46_76, s46_79, s46_82, s46_85, s46_88, s46_91, s46_94, s46_97, s46_98]
  simp only [mu_self] at L
  exact L
theorem x_A_isDrawn {d k n : Nat} {m : Mem} {q : MemJ} (ho : oC0 k) (hn : m k 0 = nI n) (hn6 : n ≤ 6) : ev (d + 3) 89 0 [.ref k, .null, .null, .null] [] (mk shC m q) = if (trip n).all (fun t => sgn (trn (m (k + 2)) t.1 t.2.1 t.2.2) == m (k + 1) ((t.1 * 6 + t.2.1) * 6 + t.2.2)) = true then some (some (.int (nI 1)), mk shC m q) else some (some (.int (nI 0)), mk shC m q) := by
  have L := ev_all3 (fun a (v : Value × Value) => ev (d + 3) 89 2 [.ref k, .int (nI a), v.1, v.2] [] (mk shC m q))
    (fun a b v => ev (d + 3) 89 14 [.ref k, .int (nI a), .int (nI b), v.2] [] (mk shC m q))
    (fun a b c v => ev (d + 3) 89 26 [.ref k, .int (nI a), .int (nI b), .int (nI c)] [] (mk shC m q))
    (some (some (.int (nI 1)), mk shC m q)) (some (some (.int (nI 0)), mk shC m q)) (fun a b c => sgn (trn (m (k + 2)) a b c) == m (k + 1) ((a * 6 + b) * 6 + c)) n
    (fun v => by rw [s89_2]; simp only [s89_0, s89_1, s89_3, s89_4, s89_7, s89_10, s89_11, s89_12, s89_13, s89_15, s89_16, s89_19, s89_22, s89_23, s89_24, s89_25, s89_27, s89_28, s89_31, s89_34, s89_35, s89_36, s89_37, s89_38, s89_41, s89_42, s89_43, s89_44, s89_45, s89_48, s89_51, s89_52, s89_53, s89_56, s89_59, s89_62, s89_65, s89_68, s89_71, s89_72, ho, hn, nI_irr, if_false, am_b1])
    (fun a v ha => ⟨v, by rw [s89_2]; simp only [s89_0, s89_1, s89_3, s89_4, s89_7, s89_10, s89_11, s89_12, s89_13, s89_15, s89_16, s89_19, s89_22, s89_23, s89_24, s89_25, s89_27, s89_28, s89_31, s89_34, s89_35, s89_36, s89_37, s89_38, s89_41, s89_42, s89_43, s89_44, s89_45, s89_48, s89_51, s89_52, s89_53, s89_56, s89_59, s89_62, s89_65, s89_68, s89_71, s89_72, ho, hn, nI_lt ha (show n < 2 ^ 31 by omega), if_true, nI_add]⟩)
    (fun a v ha => ⟨(.int (nI n), v.2), by rw [s89_14]; simp only [s89_0, s89_1, s89_3, s89_4, s89_7, s89_10, s89_11, s89_12, s89_13, s89_15, s89_16, s89_19, s89_22, s89_23, s89_24, s89_25, s89_27, s89_28, s89_31, s89_34, s89_35, s89_36, s89_37, s89_38, s89_41, s89_42, s89_43, s89_44, s89_45, s89_48, s89_51, s89_52, s89_53, s89_56, s89_59, s89_62, s89_65, s89_68, s89_71, s89_72, ho, hn, nI_irr, if_false, nI_add]⟩)
    (fun a b v hab hb => ⟨v, by rw [s89_14]; simp only [s89_0, s89_1, s89_3, s89_4, s89_7, s89_10, s89_11, s89_12, s89_13, s89_15, s89_16, s89_19, s89_22, s89_23, s89_24, s89_25, s89_27, s89_28, s89_31, s89_34, s89_35, s89_36, s89_37, s89_38, s89_41, s89_42, s89_43, s89_44, s89_45, s89_48, s89_51, s89_52, s89_53, s89_56, s89_59, s89_62, s89_65, s89_68, s89_71, s89_72, ho, hn, nI_lt hb (show n < 2 ^ 31 by omega), if_true, nI_add]⟩)
    (fun a b v hab hb => ⟨(v.1, .int (nI n)), by rw [s89_26]; simp only [s89_0, s89_1, s89_3, s89_4, s89_7, s89_10, s89_11, s89_12, s89_13, s89_15, s89_16, s89_19, s89_22, s89_23, s89_24, s89_25, s89_27, s89_28, s89_31, s89_34, s89_35, s89_36, s89_37, s89_38, s89_41, s89_42, s89_43, s89_44, s89_45, s89_48, s89_51, s89_52, s89_53, s89_56, s89_59, s89_62, s89_65, s89_68, s89_71, s89_72, ho, hn, nI_irr, if_false, nI_add]⟩)
    (fun a b c v hab hbc hc hg => ⟨v, by
      have hi : (a * 6 + b) * 6 + c < 216 := by omega
      rw [beq_iff_eq] at hg
      rw [s89_26]
      simp only [s89_0, s89_1, s89_3, s89_4, s89_7, s89_10, s89_11, s89_12, s89_13, s89_15, s89_16, s89_19, s89_22, s89_23, s89_24, s89_25, s89_27, s89_28, s89_31, s89_34, s89_35, s89_36, s89_37, s89_38, s89_41, s89_42, s89_43, s89_44, s89_45, s89_48, s89_51, s89_52, s89_53, s89_56, s89_59, s89_62, s89_65, s89_68, s89_71, s89_72, ho, hn, nI_lt hc (show n < 2 ^ 31 by omega), if_true, nI_add, x_A_turnOf ho (show a < 6 by omega) (show b < 6 by omega) (show c < 6 by omega), x_A_signOf ho hi, Option.bind_some, Option.toList_some, Option.toList_none, List.nil_append, List.cons_append, hg]⟩)
    (fun a b c v hab hbc hc hg => by
      have hi : (a * 6 + b) * 6 + c < 216 := by omega
      have hg : ¬ sgn (trn (m (k + 2)) a b c) = m (k + 1) ((a * 6 + b) * 6 + c) := by simpa using hg
      rw [s89_26]
      simp only [s89_0, s89_1, s89_3, s89_4, s89_7, s89_10, s89_11, s89_12, s89_13, s89_15, s89_16, s89_19, s89_22, s89_23, s89_24, s89_25, s89_27, s89_28, s89_31, s89_34, s89_35, s89_36, s89_37, s89_38, s89_41, s89_42, s89_43, s89_44, s89_45, s89_48, s89_51, s89_52, s89_53, s89_56, s89_59, s89_62, s89_65, s89_68, s89_71, s89_72, ho, hn, nI_lt hc (show n < 2 ^ 31 by omega), if_true, nI_add, x_A_turnOf ho (show a < 6 by omega) (show b < 6 by omega) (show c < 6 by omega), x_A_signOf ho hi, Option.bind_some, Option.toList_some, Option.toList_none, List.nil_append, List.cons_append, hg, if_false, am_b0]) (.null, .null)
  simp only [s89_0, s89_1, s89_3, s89_4, s89_7, s89_10, s89_11, s89_12, s89_13, s89_15, s89_16, s89_19, s89_22, s89_23, s89_24, s89_25, s89_27, s89_28, s89_31, s89_34, s89_35, s89_36, s89_37, s89_38, s89_41, s89_42, s89_43, s89_44, s89_45, s89_48, s89_51, s89_52, s89_53, s89_56, s89_59, s89_62, s89_65, s89_68, s89_71, s89_72]
  exact L
/-- remove -/
def shf (e a : Nat) : Nat := if a < e then a else a + 1
def rmP (n e : Nat) (g : Nat → Int32) : Nat → Int32 := (rg 0 n).foldl (fun g a => pt3 g a (g (shf e a * 3)) (g (shf e a * 3 + 1)) (g (shf e a * 3 + 2))) g
def rmS (n e : Nat) (f : Nat → Int32) : Nat → Int32 := (trip n).foldl (fun f t => sg6 f t.1 t.2.1 t.2.2 (f ((shf e t.1 * 6 + shf e t.2.1) * 6 + shf e t.2.2))) f
theorem nI_shf {e a : Nat} (ha : a < 2 ^ 30) (he : e < 2 ^ 30) : (if nI a < nI e then nI a else nI (a + 1)) = nI (shf e a) := by
  unfold shf
  by_cases h : a < e
  · rw [if_pos h, if_pos (nI_lt h (by omega))]
  · rw [if_neg h, if_neg (nI_nlt (by omega) (by omega))]
theorem x_A_removeS {d k n e : Nat} {m : Mem} {q : MemJ} (ho : oC0 k) (hn : m k 0 = nI n) (hn6 : n < 6) (he : e ≤ n) (v : Value × Value) : ev (d + 2) 69 64 [.ref k, .int (nI e), .int (nI 0), v.1, v.2] [] (mk shC m q) = some (none, mk shC (mu m (k + 1) (rmS n e (m (k + 1)))) q) := by
  have sh0 : ∀ a, a < n → shf e a < 6 := fun a ha => by unfold shf; split <;> omega
  have j0 : ∀ f, mu m (k + 1) f k 0 = nI n := fun f => by rw [mu_at _ (by omega)]; exact hn
  have L3 := ev_for3 (fun _ => True) (fun a (f : Nat → Int32) (v : Value × Value) => ev (d + 2) 69 64 [.ref k, .int (nI e), .int (nI a), v.1, v.2] [] (mk shC (mu m (k + 1) f) q))
    (fun a b f v => ev (d + 2) 69 76 [.ref k, .int (nI e), .int (nI a), .int (nI b), v.2] [] (mk shC (mu m (k + 1) f) q))
    (fun a b c f v => ev (d + 2) 69 89 [.ref k, .int (nI e), .int (nI a), .int (nI b), .int (nI c)] [] (mk shC (mu m (k + 1) f) q))
    (fun f => some (none, mk shC (mu m (k + 1) f) q)) (fun a b c f => sg6 f a b c (f ((shf e a * 6 + shf e b) * 6 + shf e c))) n
    (fun f v _ => by rw [s69_64]; simp only [s69_0, s69_1, s69_2, s69_5, s69_6, s69_7, s69_10, s69_11, s69_13, s69_14, s69_17, s69_20, s69_21, s69_22, s69_25, s69_26, s69_29, s69_30, s69_31, s69_32, s69_33, s69_34, s69_35, s69_36, s69_37, s69_38, s69_41, s69_42, s69_43, s69_44, s69_47, s69_48, s69_49, s69_50, s69_53, s69_56, s69_59, s69_62, s69_63, s69_65, s69_66, s69_69, s69_72, s69_73, s69_74, s69_75, s69_77, s69_78, s69_81, s69_84, s69_85, s69_86, s69_87, s69_91, s69_92, s69_95, s69_98, s69_99, s69_100, s69_101, s69_103, s69_104, s69_105, s69_106, s69_109, s69_110, s69_113, s69_114, s69_115, s69_116, s69_117, s69_118, s69_121, s69_122, s69_125, s69_126, s69_127, s69_128, s69_130, s69_131, s69_134, s69_136, s69_139, s69_141, s69_142, s69_143, s69_146, s69_149, s69_152, s69_155, s69_158, s69_161, s69_164, s69_167, ho, j0, nI_irr, if_false])
    (fun a f v ha _ => ⟨v, by rw [s69_64]; simp only [s69_0, s69_1, s69_2, s69_5, s69_6, s69_7, s69_10, s69_11, s69_13, s69_14, s69_17, s69_20, s69_21, s69_22, s69_25, s69_26, s69_29, s69_30, s69_31, s69_32, s69_33, s69_34, s69_35, s69_36, s69_37, s69_38, s69_41, s69_42, s69_43, s69_44, s69_47, s69_48, s69_49, s69_50, s69_53, s69_56, s69_59, s69_62, s69_63, s69_65, s69_66, s69_69, s69_72, s69_73, s69_74, s69_75, s69_77, s69_78, s69_81, s69_84, s69_85, s69_86, s69_87, s69_91, s69_92, s69_95, s69_98, s69_99, s69_100, s69_101, s69_103, s69_104, s69_105, s69_106, s69_109, s69_110, s69_113, s69_114, s69_115, s69_116, s69_117, s69_118, s69_121, s69_122, s69_125, s69_126, s69_127, s69_128, s69_130, s69_131, s69_134, s69_136, s69_139, s69_141, s69_142, s69_143, s69_146, s69_149, s69_152, s69_155, s69_158, s69_161, s69_164, s69_167, ho, j0, nI_lt ha (show n < 2 ^ 31 by omega), if_true, nI_add]⟩)
    (fun a f v ha _ => ⟨(.int (nI n), v.2), by rw [s69_76]; simp only [s69_0, s69_1, s69_2, s69_5, s69_6, s69_7, s69_10, s69_11, s69_13, s69_14, s69_17, s69_20, s69_21, s69_22, s69_25, s69_26, s69_29, s69_30, s69_31, s69_32, s69_33, s69_34, s69_35, s69_36, s69_37, s69_38, s69_41, s69_42, s69_43, s69_44, s69_47, s69_48, s69_49, s69_50, s69_53, s69_56, s69_59, s69_62, s69_63, s69_65, s69_66, s69_69, s69_72, s69_73, s69_74, s69_75, s69_77, s69_78, s69_81, s69_84, s69_85, s69_86, s69_87, s69_91, s69_92, s69_95, s69_98, s69_99, s69_100, s69_101, s69_103, s69_104, s69_105, s69_106, s69_109, s69_110, s69_113, s69_114, s69_115, s69_116, s69_117, s69_118, s69_121, s69_122, s69_125, s69_126, s69_127, s69_128, s69_130, s69_131, s69_134, s69_136, s69_139, s69_141, s69_142, s69_143, s69_146, s69_149, s69_152, s69_155, s69_158, s69_161, s69_164, s69_167, ho, j0, nI_irr, if_false, nI_add]⟩)
    (fun a b f v hab hb _ => ⟨v, by rw [s69_76]; simp only [s69_0, s69_1, s69_2, s69_5, s69_6, s69_7, s69_10, s69_11, s69_13, s69_14, s69_17, s69_20, s69_21, s69_22, s69_25, s69_26, s69_29, s69_30, s69_31, s69_32, s69_33, s69_34, s69_35, s69_36, s69_37, s69_38, s69_41, s69_42, s69_43, s69_44, s69_47, s69_48, s69_49, s69_50, s69_53, s69_56, s69_59, s69_62, s69_63, s69_65, s69_66, s69_69, s69_72, s69_73, s69_74, s69_75, s69_77, s69_78, s69_81, s69_84, s69_85, s69_86, s69_87, s69_91, s69_92, s69_95, s69_98, s69_99, s69_100, s69_101, s69_103, s69_104, s69_105, s69_106, s69_109, s69_110, s69_113, s69_114, s69_115, s69_116, s69_117, s69_118, s69_121, s69_122, s69_125, s69_126, s69_127, s69_128, s69_130, s69_131, s69_134, s69_136, s69_139, s69_141, s69_142, s69_143, s69_146, s69_149, s69_152, s69_155, s69_158, s69_161, s69_164, s69_167, ho, j0, nI_lt hb (show n < 2 ^ 31 by omega), if_true, nI_add]⟩)
    (fun a b f v hab hb _ => ⟨(v.1, .int (nI n)), by rw [s69_89]; simp only [s69_0, s69_1, s69_2, s69_5, s69_6, s69_7, s69_10, s69_11, s69_13, s69_14, s69_17, s69_20, s69_21, s69_22, s69_25, s69_26, s69_29, s69_30, s69_31, s69_32, s69_33, s69_34, s69_35, s69_36, s69_37, s69_38, s69_41, s69_42, s69_43, s69_44, s69_47, s69_48, s69_49, s69_50, s69_53, s69_56, s69_59, s69_62, s69_63, s69_65, s69_66, s69_69, s69_72, s69_73, s69_74, s69_75, s69_77, s69_78, s69_81, s69_84, s69_85, s69_86, s69_87, s69_91, s69_92, s69_95, s69_98, s69_99, s69_100, s69_101, s69_103, s69_104, s69_105, s69_106, s69_109, s69_110, s69_113, s69_114, s69_115, s69_116, s69_117, s69_118, s69_121, s69_122, s69_125, s69_126, s69_127, s69_128, s69_130, s69_131, s69_134, s69_136, s69_139, s69_141, s69_142, s69_143, s69_146, s69_149, s69_152, s69_155, s69_158, s69_161, s69_164, s69_167, ho, j0, nI_irr, if_false, nI_add]⟩)
    (fun _ _ _ _ _ _ _ _ => trivial)
    (fun a b c f v hab hbc hc _ => ⟨v, by
      have hi : (shf e a * 6 + shf e b) * 6 + shf e c < 216 := by
        have := sh0 a (by omega)
        have := sh0 b (by omega)
        have := sh0 c (by omega)
        omega
      rw [s69_89]
      simp only [s69_0, s69_1, s69_2, s69_5, s69_6, s69_7, s69_10, s69_11, s69_13, s69_14, s69_17, s69_20, s69_21, s69_22, s69_25, s69_26, s69_29, s69_30, s69_31, s69_32, s69_33, s69_34, s69_35, s69_36, s69_37, s69_38, s69_41, s69_42, s69_43, s69_44, s69_47, s69_48, s69_49, s69_50, s69_53, s69_56, s69_59, s69_62, s69_63, s69_65, s69_66, s69_69, s69_72, s69_73, s69_74, s69_75, s69_77, s69_78, s69_81, s69_84, s69_85, s69_86, s69_87, s69_91, s69_92, s69_95, s69_98, s69_99, s69_100, s69_101, s69_103, s69_104, s69_105, s69_106, s69_109, s69_110, s69_113, s69_114, s69_115, s69_116, s69_117, s69_118, s69_121, s69_122, s69_125, s69_126, s69_127, s69_128, s69_130, s69_131, s69_134, s69_136, s69_139, s69_141, s69_142, s69_143, s69_146, s69_149, s69_152, s69_155, s69_158, s69_161, s69_164, s69_167, ho, j0, nI_lt hc (show n < 2 ^ 31 by omega), if_true, nI_add, nI_ltI (show a < 2 ^ 31 by omega) (show e < 2 ^ 31 by omega), nI_ltI (show b < 2 ^ 31 by omega) (show e < 2 ^ 31 by omega), nI_ltI (show c < 2 ^ 31 by omega) (show e < 2 ^ 31 by omega)]
      unfold shf at hi ⊢
      by_cases c1 : a < e <;> by_cases c2 : b < e <;> by_cases c3 : c < e <;> simp only [c1, c2, c3, if_true, if_false] at hi ⊢ <;> simp only [s69_0, s69_1, s69_2, s69_5, s69_6, s69_7, s69_10, s69_11, s69_13, s69_14, s69_17, s69_20, s69_21, s69_22, s69_25, s69_26, s69_29, s69_30, s69_31, s69_32, s69_33, s69_34, s69_35, s69_36, s69_37, s69_38, s69_41, s69_42, s69_43, s69_44, s69_47, s69_48, s69_49, s69_50, s69_53, s69_56, s69_59, s69_62, s69_63, s69_65, s69_66, s69_69, s69_72, s69_73, s69_74, s69_75, s69_77, s69_78, s69_81, s69_84, s69_85, s69_86, s69_87, s69_91, s69_92, s69_95, s69_98, s69_99, s69_100, s69_101, s69_103, s69_104, s69_105, s69_106, s69_109, s69_110, s69_113, s69_114, s69_115, s69_116, s69_117, s69_118, s69_121, s69_122, s69_125, s69_126, s69_127, s69_128, s69_130, s69_131, s69_134, s69_136, s69_139, s69_141, s69_142, s69_143, s69_146, s69_149, s69_152, s69_155, s69_158, s69_161, s69_164, s69_167, ho, nI_add, x_A_signOf ho hi, x_A_giveSign ho (show a < 6 by omega) (show b < 6 by omega) (show c < 6 by omega), Option.bind_some, Option.toList_some, Option.toList_none, List.nil_append, List.cons_append, mu_mu, mu_same]⟩) (m (k + 1)) v trivial
  simp only [mu_self] at L3
  exact L3
theorem x_A_remove {d k n e : Nat} {m : Mem} {q : MemJ} (ho : oC0 k) (hn : m k 0 = nI (n + 1)) (hn6 : n < 6) (he : e ≤ n) : ev (d + 2) 69 0 [.ref k, .int (nI e), .null, .null, .null] [] (mk shC m q) = some (none, mk shC (mu (mu (mu m k (upd (m k) 0 (nI n))) (k + 2) (rmP n e (m (k + 2)))) (k + 1) (rmS n e (m (k + 1)))) q) := by
  have sh0 : ∀ a, a < n → shf e a < 6 := fun a ha => by unfold shf; split <;> omega
  generalize hm1 : mu m k (upd (m k) 0 (nI n)) = m1
  have k0 : ∀ f, mu m1 (k + 2) f k 0 = nI n := fun f => by rw [mu_at _ (by omega), ← hm1, mu_same]; simp [upd]
  have k2 : m1 (k + 2) = m (k + 2) := by rw [← hm1, mu_ne (by omega)]
  have k1 : ∀ f, mu m1 (k + 2) f (k + 1) = m (k + 1) := fun f => by rw [mu_ne (by omega), ← hm1, mu_ne (by omega)]
  have L1 := ev_for1 (fun _ => True) (fun a (g : Nat → Int32) (v : Value) => ev (d + 2) 69 12 [.ref k, .int (nI e), .int (nI a), v, .null] [] (mk shC (mu m1 (k + 2) g) q))
    (fun g => some (none, mk shC (mu (mu m1 (k + 2) g) (k + 1) (rmS n e (m (k + 1)))) q)) (fun a g => pt3 g a (g (shf e a * 3)) (g (shf e a * 3 + 1)) (g (shf e a * 3 + 2))) n
    (fun g v _ => by
      rw [s69_12]
      simp only [s69_0, s69_1, s69_2, s69_5, s69_6, s69_7, s69_10, s69_11, s69_13, s69_14, s69_17, s69_20, s69_21, s69_22, s69_25, s69_26, s69_29, s69_30, s69_31, s69_32, s69_33, s69_34, s69_35, s69_36, s69_37, s69_38, s69_41, s69_42, s69_43, s69_44, s69_47, s69_48, s69_49, s69_50, s69_53, s69_56, s69_59, s69_62, s69_63, s69_65, s69_66, s69_69, s69_72, s69_73, s69_74, s69_75, s69_77, s69_78, s69_81, s69_84, s69_85, s69_86, s69_87, s69_91, s69_92, s69_95, s69_98, s69_99, s69_100, s69_101, s69_103, s69_104, s69_105, s69_106, s69_109, s69_110, s69_113, s69_114, s69_115, s69_116, s69_117, s69_118, s69_121, s69_122, s69_125, s69_126, s69_127, s69_128, s69_130, s69_131, s69_134, s69_136, s69_139, s69_141, s69_142, s69_143, s69_146, s69_149, s69_152, s69_155, s69_158, s69_161, s69_164, s69_167, ho, k0, nI_irr, if_false]
      have := x_A_removeS (d := d) (q := q) (n := n) (e := e) (m := mu m1 (k + 2) g) ho (k0 g) hn6 he (v, .null)
      rw [k1] at this
      exact this)
    (fun _ _ _ _ => trivial)
    (fun a g v ha _ => ⟨.int (nI (shf e a)), by
      have s6 := sh0 a ha
      rw [s69_12]
      simp only [s69_0, s69_1, s69_2, s69_5, s69_6, s69_7, s69_10, s69_11, s69_13, s69_14, s69_17, s69_20, s69_21, s69_22, s69_25, s69_26, s69_29, s69_30, s69_31, s69_32, s69_33, s69_34, s69_35, s69_36, s69_37, s69_38, s69_41, s69_42, s69_43, s69_44, s69_47, s69_48, s69_49, s69_50, s69_53, s69_56, s69_59, s69_62, s69_63, s69_65, s69_66, s69_69, s69_72, s69_73, s69_74, s69_75, s69_77, s69_78, s69_81, s69_84, s69_85, s69_86, s69_87, s69_91, s69_92, s69_95, s69_98, s69_99, s69_100, s69_101, s69_103, s69_104, s69_105, s69_106, s69_109, s69_110, s69_113, s69_114, s69_115, s69_116, s69_117, s69_118, s69_121, s69_122, s69_125, s69_126, s69_127, s69_128, s69_130, s69_131, s69_134, s69_136, s69_139, s69_141, s69_142, s69_143, s69_146, s69_149, s69_152, s69_155, s69_158, s69_161, s69_164, s69_167, ho, k0, nI_lt ha (show n < 2 ^ 31 by omega), if_true, nI_add, nI_ltI (show a < 2 ^ 31 by omega) (show e < 2 ^ 31 by omega)]
      have i0 : shf e a * 3 + 0 < 18 := by omega
      have i1 : shf e a * 3 + 1 < 18 := by omega
      have i2 : shf e a * 3 + 2 < 18 := by omega
      unfold shf at i0 i1 i2 ⊢
      by_cases c1 : a < e <;> simp only [c1, if_true, if_false] at i0 i1 i2 ⊢ <;> simp only [s69_0, s69_1, s69_2, s69_5, s69_6, s69_7, s69_10, s69_11, s69_13, s69_14, s69_17, s69_20, s69_21, s69_22, s69_25, s69_26, s69_29, s69_30, s69_31, s69_32, s69_33, s69_34, s69_35, s69_36, s69_37, s69_38, s69_41, s69_42, s69_43, s69_44, s69_47, s69_48, s69_49, s69_50, s69_53, s69_56, s69_59, s69_62, s69_63, s69_65, s69_66, s69_69, s69_72, s69_73, s69_74, s69_75, s69_77, s69_78, s69_81, s69_84, s69_85, s69_86, s69_87, s69_91, s69_92, s69_95, s69_98, s69_99, s69_100, s69_101, s69_103, s69_104, s69_105, s69_106, s69_109, s69_110, s69_113, s69_114, s69_115, s69_116, s69_117, s69_118, s69_121, s69_122, s69_125, s69_126, s69_127, s69_128, s69_130, s69_131, s69_134, s69_136, s69_139, s69_141, s69_142, s69_143, s69_146, s69_149, s69_152, s69_155, s69_158, s69_161, s69_164, s69_167, ho, nI_add, x_A_numberOf ho i0, x_A_numberOf ho i1, x_A_numberOf ho i2, x_A_givePoint ho (show a < 6 by omega), Option.bind_some, Option.toList_some, Option.toList_none, List.nil_append, List.cons_append, mu_mu, mu_same, Nat.add_zero]⟩) 0 (Nat.zero_le _) (m (k + 2)) .null trivial
  simp only [s69_0, s69_1, s69_2, s69_5, s69_6, s69_7, s69_10, s69_11, s69_13, s69_14, s69_17, s69_20, s69_21, s69_22, s69_25, s69_26, s69_29, s69_30, s69_31, s69_32, s69_33, s69_34, s69_35, s69_36, s69_37, s69_38, s69_41, s69_42, s69_43, s69_44, s69_47, s69_48, s69_49, s69_50, s69_53, s69_56, s69_59, s69_62, s69_63, s69_65, s69_66, s69_69, s69_72, s69_73, s69_74, s69_75, s69_77, s69_78, s69_81, s69_84, s69_85, s69_86, s69_87, s69_91, s69_92, s69_95, s69_98, s69_99, s69_100, s69_101, s69_103, s69_104, s69_105, s69_106, s69_109, s69_110, s69_113, s69_114, s69_115, s69_116, s69_117, s69_118, s69_121, s69_122, s69_125, s69_126, s69_127, s69_128, s69_130, s69_131, s69_134, s69_136, s69_139, s69_141, s69_142, s69_143, s69_146, s69_149, s69_152, s69_155, s69_158, s69_161, s69_164, s69_167, ho, hn, nI_m1, hm1]
  rw [← k2, mu_self] at L1
  rw [L1, k2]
  rfl
/-- begin: the row of points -/
def bgn (n : Nat) (g : Nat → Int32) : Nat → Int32 := (rg 0 n).foldl (fun g e => pt3 g e (nI 1) (nI e) (nI (e * e))) g
theorem x_A_begin {d k n : Nat} {m : Mem} {q : MemJ} (ho : oC0 k) (hn6 : n ≤ 6) : ev (d + 1) 2 0 [.ref k, .int (nI n), .null] [] (mk shC m q) = some (none, mk shC (mu (mu m k (upd (m k) 0 (nI n))) (k + 2) (bgn n (m (k + 2)))) q) := by
  generalize hm1 : mu m k (upd (m k) 0 (nI n)) = m1
  have k0 : ∀ f, mu m1 (k + 2) f k 0 = nI n := fun f => by rw [mu_at _ (by omega), ← hm1, mu_same]; simp [upd]
  have k2 : m1 (k + 2) = m (k + 2) := by rw [← hm1, mu_ne (by omega)]
  have L1 := ev_for1 (fun _ => True) (fun e (g : Nat → Int32) (v : Unit) => ev (d + 1) 2 7 [.ref k, .int (nI n), .int (nI e)] [] (mk shC (mu m1 (k + 2) g) q))
    (fun g => some (none, mk shC (mu m1 (k + 2) g) q)) (fun e g => pt3 g e (nI 1) (nI e) (nI (e * e))) n
    (fun g v _ => by
      rw [s2_7]
      simp only [s2_0, s2_1, s2_2, s2_5, s2_6, s2_8, s2_9, s2_12, s2_15, s2_16, s2_17, s2_18, s2_19, s2_20, s2_21, s2_22, s2_25, s2_28, s2_31, ho, k0, nI_irr, if_false])
    (fun _ _ _ _ => trivial)
    (fun e g v he _ => ⟨(), by
      rw [s2_7]
      simp only [s2_0, s2_1, s2_2, s2_5, s2_6, s2_8, s2_9, s2_12, s2_15, s2_16, s2_17, s2_18, s2_19, s2_20, s2_21, s2_22, s2_25, s2_28, s2_31, ho, k0, nI_lt he (show n < 2 ^ 31 by omega), if_true, nI_add, pk_mul, x_A_givePoint ho (show e < 6 by omega), Option.bind_some, Option.toList_some, Option.toList_none, List.nil_append, List.cons_append, mu_mu, mu_same]⟩) 0 (Nat.zero_le _) (m (k + 2)) () trivial
  simp only [s2_0, s2_1, s2_2, s2_5, s2_6, s2_8, s2_9, s2_12, s2_15, s2_16, s2_17, s2_18, s2_19, s2_20, s2_21, s2_22, s2_25, s2_28, s2_31, ho, hm1]
  rw [← k2, mu_self] at L1
  rw [L1, k2]
  rfl
