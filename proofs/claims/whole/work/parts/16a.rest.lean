/-! the history, the boxes, forgetting -/
theorem oC0_h : ∀ x, x < 8 → oC0 (9 + 3 * x)
  | 0, _ => oC0_9
  | 1, _ => oC0_12
  | 2, _ => oC0_15
  | 3, _ => oC0_18
  | 4, _ => oC0_21
  | 5, _ => oC0_24
  | 6, _ => oC0_27
  | 7, _ => oC0_30
theorem hst_at : ∀ x, x < 8 → ([some 9, some 12, some 15, some 18, some 21, some 24, some 27, some 30] : List (Option Nat))[x]? = some (some (9 + 3 * x)) := by decide
def zA (m : Mem) (k : Nat) : Prop := zaF (m (k + 1)) 216 ∧ zaF (m (k + 2)) 18
def cpE (m : Mem) (k j : Nat) : Mem := mu (mu (mu m k (upd (m k) 0 (m j 0))) (k + 1) (m (j + 1))) (k + 2) (m (j + 2))
section
variable {d n k j x s : Nat} {m : Mem} {q : MemJ}
theorem x_A_cp (ho : oC0 k) (hj : oC0 j) (h1 : zA m k) (h2 : zA m j) : ev (d + 5) 22 0 [.ref k, .ref j] [] (mk shC m q) = some (none, mk shC (cpE m k j) q) :=
  (x_A_copy' ho hj).trans (by rw [cpA_eq h2.1 h2.2 h1.1 h1.2]; rfl)
theorem x_H_clear : ev d 50 0 [.ref 7] [] (mk shC m q) = some (none, mk shC (mu m 7 (upd (m 7) 2 (nI 0))) q) := by
  simp only [s50_0, s50_1, s50_2, s50_5]
theorem x_H_size : ev d 72 0 [.ref 7] [] (mk shC m q) = some (some (.int (m 7 2)), mk shC m q) := by
  simp only [s72_0, s72_1, s72_4]
theorem x_H_remember (hx : m 7 1 = nI x) (hx8 : x < 8) (hs : m 7 2 = nI s) (hs8 : s ≤ 8) (h1 : zA m (9 + 3 * x)) (h2 : zA m 1) : ev (d + 6) 60 0 [.ref 7, .ref 1] [] (mk shC m q) = some (none, mk shC (mu (cpE m (9 + 3 * x) 1) 7 (upd (upd (m 7) 1 (nI (if x + 1 < 8 then x + 1 else 0))) 2 (nI (if s < 8 then s + 1 else 8)))) q) := by
  have r : ∀ {D : Nat} {mm : Mem}, ev D 60 8 [.ref 7, .ref 1] [.int (nI x), .ref 8] (mk shC mm q) = ev D 60 9 [.ref 7, .ref 1] [.ref (9 + 3 * x)] (mk shC mm q) := s60_8 (t := 0) shC_8 (by decide) hx8 (by decide) (hst_at x hx8)
  have c7 : cpE m (9 + 3 * x) 1 7 = m 7 := by unfold cpE; rw [mu_ne (by omega), mu_ne (by omega), mu_ne (by omega)]
  simp only [s60_0, s60_1, s60_4, s60_5, s60_8, s60_9, s60_10, s60_13, s60_14, s60_15, s60_18, s60_19, s60_20, s60_22, s60_25, s60_26, s60_29, s60_30, s60_31, s60_34, s60_35, s60_38, s60_39, s60_40, s60_43, s60_45, s60_48, s60_49, s60_52, s60_53, s60_54, s60_57, s60_59, s60_62, hx, r, oC0_h x hx8, x_A_cp (oC0_h x hx8) oC0_1 h1 h2, Option.bind_some, Option.toList_some, Option.toList_none, List.nil_append, List.cons_append, c7, nI_add, nI_ltI (show x + 1 < 2 ^ 31 by omega) (show 8 < 2 ^ 31 by decide)]
  by_cases hq : x + 1 < 8
  · simp only [hq, if_true, s60_0, s60_1, s60_4, s60_5, s60_8, s60_9, s60_10, s60_13, s60_14, s60_15, s60_18, s60_19, s60_20, s60_22, s60_25, s60_26, s60_29, s60_30, s60_31, s60_34, s60_35, s60_38, s60_39, s60_40, s60_43, s60_45, s60_48, s60_49, s60_52, s60_53, s60_54, s60_57, s60_59, s60_62, c7, hx, hs, nI_add, mu_same, mu_mu, show upd (m 7) 1 (nI (x + 1)) 2 = nI s by simp [upd, hs], nI_ltI (show s < 2 ^ 31 by omega) (show 8 < 2 ^ 31 by decide)]
    by_cases hw : s < 8
    · simp only [hw, if_true, s60_0, s60_1, s60_4, s60_5, s60_8, s60_9, s60_10, s60_13, s60_14, s60_15, s60_18, s60_19, s60_20, s60_22, s60_25, s60_26, s60_29, s60_30, s60_31, s60_34, s60_35, s60_38, s60_39, s60_40, s60_43, s60_45, s60_48, s60_49, s60_52, s60_53, s60_54, s60_57, s60_59, s60_62, mu_same, mu_mu, show upd (m 7) 1 (nI (x + 1)) 2 = nI s by simp [upd, hs], nI_add]
    · simp only [hw, if_false, s60_0, s60_1, s60_4, s60_5, s60_8, s60_9, s60_10, s60_13, s60_14, s60_15, s60_18, s60_19, s60_20, s60_22, s60_25, s60_26, s60_29, s60_30, s60_31, s60_34, s60_35, s60_38, s60_39, s60_40, s60_43, s60_45, s60_48, s60_49, s60_52, s60_53, s60_54, s60_57, s60_59, s60_62, mu_same, mu_mu]
  · simp only [hq, if_false, s60_0, s60_1, s60_4, s60_5, s60_8, s60_9, s60_10, s60_13, s60_14, s60_15, s60_18, s60_19, s60_20, s60_22, s60_25, s60_26, s60_29, s60_30, s60_31, s60_34, s60_35, s60_38, s60_39, s60_40, s60_43, s60_45, s60_48, s60_49, s60_52, s60_53, s60_54, s60_57, s60_59, s60_62, c7, hx, hs, nI_add, mu_same, mu_mu, show upd (m 7) 1 (nI 0) 2 = nI s by simp [upd, hs], nI_ltI (show s < 2 ^ 31 by omega) (show 8 < 2 ^ 31 by decide)]
    by_cases hw : s < 8
    · simp only [hw, if_true, s60_0, s60_1, s60_4, s60_5, s60_8, s60_9, s60_10, s60_13, s60_14, s60_15, s60_18, s60_19, s60_20, s60_22, s60_25, s60_26, s60_29, s60_30, s60_31, s60_34, s60_35, s60_38, s60_39, s60_40, s60_43, s60_45, s60_48, s60_49, s60_52, s60_53, s60_54, s60_57, s60_59, s60_62, mu_same, mu_mu, show upd (m 7) 1 (nI 0) 2 = nI s by simp [upd, hs], nI_add]
    · simp only [hw, if_false, s60_0, s60_1, s60_4, s60_5, s60_8, s60_9, s60_10, s60_13, s60_14, s60_15, s60_18, s60_19, s60_20, s60_22, s60_25, s60_26, s60_29, s60_30, s60_31, s60_34, s60_35, s60_38, s60_39, s60_40, s60_43, s60_45, s60_48, s60_49, s60_52, s60_53, s60_54, s60_57, s60_59, s60_62, mu_same, mu_mu]
theorem x_V_forget : ev d 52 0 [.ref 47, .null] [] (mk shC m q) = some (none, mk shC (mu m 49 (upd (upd (upd (upd (m 49) 0 (nI 0)) 1 (nI 0)) 2 (nI 0)) 3 (nI 0))) q) := by
  have st : ∀ i (f : Nat → Int32), i < 4 → ev d 52 2 [.ref 47, .int (nI i)] [] (mk shC (mu m 49 f) q) = ev d 52 2 [.ref 47, .int (nI (i + 1))] [] (mk shC (mu m 49 (upd f i (nI 0))) q) := fun i f hi => by
    rw [s52_2]
    simp only [s52_0, s52_1, s52_3, s52_4, s52_7, s52_8, s52_11, s52_12, s52_13, s52_14, s52_17, s52_20, nI_lt hi (show 4 < 2 ^ 31 by decide), if_true, tC49, nC49, hi, nar0, mu_same, mu_mu, nI_add]
  have en : ∀ f, ev d 52 2 [.ref 47, .int (nI 4)] [] (mk shC (mu m 49 f) q) = some (none, mk shC (mu m 49 f) q) := fun f => by
    rw [s52_2]
    simp only [s52_0, s52_1, s52_3, s52_4, s52_7, s52_8, s52_11, s52_12, s52_13, s52_14, s52_17, s52_20, nI_irr, if_false]
  have := (st 0 (m 49) (by decide)).trans ((st 1 _ (by decide)).trans ((st 2 _ (by decide)).trans ((st 3 _ (by decide)).trans (en _))))
  rw [mu_self] at this
  simp only [s52_0, s52_1, s52_3, s52_4, s52_7, s52_8, s52_11, s52_12, s52_13, s52_14, s52_17, s52_20]
  exact this
theorem x_F_forget : ev (d + 1) 51 0 [.ref 43] [] (mk shC m q) = some (none, mk shC (mu (mu m 43 (upd (upd (upd (upd (m 43) 5 (nI 0)) 7 (nI 0)) 8 (-1)) 9 (-1))) 49 (upd (upd (upd (upd (m 49) 0 (nI 0)) 1 (nI 0)) 2 (nI 0)) 3 (nI 0))) q) := by
  simp only [s51_0, s51_1, s51_2, s51_5, s51_6, s51_7, s51_10, s51_11, s51_12, s51_15, s51_16, s51_17, s51_20, s51_21, s51_24, s51_27, am_b0, mu_same, mu_mu, x_V_forget, Option.bind_some, Option.toList_some, Option.toList_none, List.nil_append, List.cons_append, mu_ne (show (49 : Nat) ≠ 43 by decide)]
theorem x_F_hasExchange (hN : NI m n) : ∃ m', ev (d + 3) 81 0 [.ref 43] [] (mk shC m q) = some (some (.int (bI (exO n (m 2)))), mk shC m' q) ∧ fr [44, 45, 46] m m' := by
  obtain ⟨m1, e1, g1⟩ := x_R_hx (d := d) (q := q) oC0_1 hN.1 hN.2.2.1
  refine ⟨m1, ?_, g1⟩
  simp only [s81_0, s81_1, s81_4, s81_5, s81_8, s81_11, e1, Option.bind_some, Option.toList_some, Option.toList_none, List.nil_append, List.cons_append, bI_b]
/-! boxes -/
theorem x_B_isMissing {b : Bool} (ho : oC1 k) (h : m k 0 = bI b) : ev d 141 0 [.ref k] [] (mk shC m q) = some (some (.int (bI (!b))), mk shC m q) := by
  simp only [s141_0, s141_1, s141_4, s141_7, s141_8, s141_11, s141_12, ho, h, bI_z]
  cases b with
  | true => simp only [Bool.true_eq_false, if_false, s141_0, s141_1, s141_4, s141_7, s141_8, s141_11, s141_12, am_b0]; rfl
  | false => simp only [if_true, s141_0, s141_1, s141_4, s141_7, s141_8, s141_11, s141_12, am_b1]; rfl
theorem x_B_hasPlace_t {i l : Nat} (ho : oC1 k) (hl : m k 2 = nI l) (hl2 : l < 2 ^ 31) (hi : i < l) : ev d 142 0 [.ref k, .int (nI i)] [] (mk shC m q) = some (some (.int (nI 1)), mk shC m q) := by
  simp only [s142_0, s142_1, s142_4, s142_5, s142_6, s142_9, s142_12, s142_13, s142_16, s142_17, ho, hl, show ¬ nI i < 0 by rw [show (0 : Int32) = nI 0 from rfl, nI_ltI (by omega) (by decide)]; omega, nI_lt hi hl2, if_true, if_false, am_b1]
theorem x_B_hasPlace_f {l : Nat} {x : Int32} (ho : oC1 k) (hl : m k 2 = nI l) (hx : nel l x) : ev d 142 0 [.ref k, .int x] [] (mk shC m q) = some (some (.int (nI 0)), mk shC m q) := by
  rcases hx with h | h
  · simp only [s142_0, s142_1, s142_4, s142_5, s142_6, s142_9, s142_12, s142_13, s142_16, s142_17, h, if_true, am_b0]
  · have h2 : ¬ x < nI l := Int32.not_lt.mpr h
    simp only [s142_0, s142_1, s142_4, s142_5, s142_6, s142_9, s142_12, s142_13, s142_16, s142_17, ho, hl, h2, if_false, am_b0, ite_self]
theorem x_B_isMadeFor {b : Bool} {y : Nat} (ho : oC1 k) (h : m k 1 = bI b) : ev (d + 2) 143 0 [.ref k, .int (nI y)] [] (mk shC m q) = some (some (.int (bI (!b || decide (zrK y = 0)))), mk shC m q) := by
  simp only [s143_0, s143_1, s143_4, s143_7, s143_8, s143_11, s143_14, s143_15, s143_18, s143_19, ho, h, bI_z]
  cases b with
  | false => simp only [if_true, s143_0, s143_1, s143_4, s143_7, s143_8, s143_11, s143_14, s143_15, s143_18, s143_19, am_b1]; rfl
  | true =>
    have hz := zrK_le (k := y)
    simp only [Bool.true_eq_false, if_false, s143_0, s143_1, s143_4, s143_7, s143_8, s143_11, s143_14, s143_15, s143_18, s143_19, x_K_zeros, Option.bind_some, Option.toList_some, Option.toList_none, List.nil_append, List.cons_append, show ons 12 (y &&& 1365) = zrK y from rfl, nI_z (show zrK y < 2 ^ 31 by omega)]
    by_cases h0 : zrK y = 0
    · simp only [h0, if_true, s143_0, s143_1, s143_4, s143_7, s143_8, s143_11, s143_14, s143_15, s143_18, s143_19, am_b1]; rfl
    · simp only [h0, if_false, s143_0, s143_1, s143_4, s143_7, s143_8, s143_11, s143_14, s143_15, s143_18, s143_19, am_b0]; rfl
theorem x_B_put {i : Nat} {x y : Int32} (ho : oC1 k) (hi : i < 6) : ev d 144 0 [.ref k, .int (nI i), .int x, .int y] [] (mk shC m q) = some (none, mk shC (mu (mu m (k + 1) (upd (m (k + 1)) i x)) (k + 2) (upd (m (k + 2)) i y)) q) := by
  simp only [s144_0, s144_1, s144_4, s144_5, s144_6, s144_7, s144_8, s144_11, s144_12, s144_13, s144_14, ho, oC1_t1 ho, oC1_n1 ho, oC1_t2 ho, oC1_n2 ho, hi, mu_ne (show k + 2 ≠ k + 1 by omega)]
theorem x_B_keyAt {i : Nat} (ho : oC1 k) (hi : i < 6) : ev d 148 0 [.ref k, .int (nI i)] [] (mk shC m q) = some (some (.int (m (k + 1) i)), mk shC m q) := by
  simp only [s148_0, s148_1, s148_4, s148_5, s148_6, ho, oC1_t1 ho, oC1_n1 ho, hi]
theorem x_B_elementsAt {i : Nat} (ho : oC1 k) (hi : i < 6) : ev d 147 0 [.ref k, .int (nI i)] [] (mk shC m q) = some (some (.int (m (k + 2) i)), mk shC m q) := by
  simp only [s147_0, s147_1, s147_4, s147_5, s147_6, ho, oC1_t2 ho, oC1_n2 ho, hi]
theorem x_B_isEmptyAt {i : Nat} (ho : oC1 k) (hi : i < 6) : ev d 146 0 [.ref k, .int (nI i)] [] (mk shC m q) = some (some (.int (bI (decide (m (k + 2) i = 0)))), mk shC m q) := by
  simp only [s146_0, s146_1, s146_4, s146_5, s146_6, s146_9, s146_10, s146_13, s146_14, ho, oC1_t2 ho, oC1_n2 ho, hi]
  by_cases h : m (k + 2) i = 0
  · simp only [h, if_true, s146_0, s146_1, s146_4, s146_5, s146_6, s146_9, s146_10, s146_13, s146_14, am_b1, decide_true]; rfl
  · simp only [h, if_false, s146_0, s146_1, s146_4, s146_5, s146_6, s146_9, s146_10, s146_13, s146_14, am_b0, decide_false]; rfl
theorem x_B_vanish (ho : oC1 k) : ev d 155 0 [.ref k] [] (mk shC m q) = some (none, mk shC (mu m k (upd (upd (m k) 0 (nI 0)) 2 (nI 0))) q) := by
  simp only [s155_0, s155_1, s155_2, s155_5, s155_6, s155_7, s155_10, ho, am_b0, mu_same, mu_mu]
end
