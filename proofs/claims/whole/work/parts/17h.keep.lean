/-! kept and gone back to -/
theorem eN_nI {k : Nat} (h : k < 1000) : eN (nI k) = k := nI_c (by omega)
theorem elB_nI {n k : Nat} (hn : n < 1000) (h : k < n) : elB n (nI k) = true := by
  unfold elB
  rw [decide_eq_false (nI_pos (by omega)), decide_eq_true (nI_lt h (by omega))]
  rfl
theorem elB_or (n : Nat) (x : Int32) (hn : n < 1000) : (elB n x = false ∧ nel n x) ∨ ∃ k, k < n ∧ x = nI k := by
  rcases el_or n x (by omega) with h | h
  · refine Or.inl ⟨?_, h⟩
    unfold elB
    rcases h with h | h
    · rw [decide_eq_true h]; rfl
    · rw [decide_eq_false (Int32.not_lt.mpr h), Bool.and_false]
  · exact Or.inr h
theorem if_el {α : Type} {n : Nat} {x : Int32} {A B : α} : (if x < 0 then A else if x < nI n then B else A) = if elB n x = true then B else A := by
  unfold elB
  by_cases h : x < 0
  · simp [h]
  · by_cases h2 : x < nI n <;> simp [h, h2]
theorem oC0_k : ∀ x, x < 2 → oC0 (35 + 3 * x)
  | 0, _ => oC0_35
  | 1, _ => oC0_38
theorem kst_at : ∀ x, x < 2 → ([some 35, some 38] : List (Option Nat))[x]? = some (some (35 + 3 * x)) := by decide
def kpH (m : Mem) (k : Nat) : Mem := mu (cpE m (35 + 3 * k) 1) 34 (upd (m 34) k (nI 1))
def bkH (m : Mem) (k : Nat) : Mem := fgH (mu (cpE m 1 (35 + 3 * k)) 7 (upd (m 7) 2 (nI 0)))
theorem cpE_ne {m : Mem} {k j c : Nat} (h : c < k ∨ k + 2 < c) : cpE m k j c = m c := by
  unfold cpE
  rw [mu_ne (by omega), mu_ne (by omega), mu_ne (by omega)]
theorem cpE_0 {m : Mem} {k j : Nat} : cpE m k j k 0 = m j 0 := by
  unfold cpE
  rw [mu_ne (by omega), mu_ne (by omega), mu_same]
  simp [upd]
section
variable {d n : Nat} {m : Mem} {q : MemJ} {x : Int32}
theorem x_S_keep (hn : m 1 0 = nI n) (h1 : ∀ k, k < 2 → zA m (35 + 3 * k)) (h2 : zA m 1) : ev (d + 6) 74 0 [.ref 0, .int x] [] (mk shC m q) = if elB 2 x = true then some (some (.int (nI n)), mk shC (kpH m (eN x)) q) else some (some (.int (-1002)), mk shC m q) := by
  rcases elB_or 2 x (by decide) with ⟨hx, h | h⟩ | ⟨k, hk, rfl⟩
  · simp only [s74_0, s74_1, s74_4, s74_5, s74_6, s74_9, s74_12, s74_13, s74_14, s74_17, s74_18, s74_19, s74_20, s74_23, s74_26, s74_27, s74_30, s74_31, s74_32, s74_33, s74_34, s74_37, s74_40, h, if_true, hx, Bool.false_eq_true, if_false]
  · simp only [s74_0, s74_1, s74_4, s74_5, s74_6, s74_9, s74_12, s74_13, s74_14, s74_17, s74_18, s74_19, s74_20, s74_23, s74_26, s74_27, s74_30, s74_31, s74_32, s74_33, s74_34, s74_37, s74_40, show ¬ x < nI 2 from Int32.not_lt.mpr h, if_true, hx, Bool.false_eq_true, if_false, ite_self]
  · have r : ∀ {D : Nat} {mm : Mem}, ev D 74 18 [.ref 0, .int (nI k)] [.int (nI k), .ref 33] (mk shC mm q) = ev D 74 19 [.ref 0, .int (nI k)] [.ref (35 + 3 * k)] (mk shC mm q) := s74_18 (t := 0) shC_33 (by decide) hk (by decide) (kst_at k hk)
    have c34 : cpE m (35 + 3 * k) 1 34 = m 34 := cpE_ne (by omega)
    have c1 : mu (cpE m (35 + 3 * k) 1) 34 (upd (m 34) k (nI 1)) 1 0 = nI n := by rw [mu_ne (by decide), cpE_ne (by omega)]; exact hn
    simp only [s74_0, s74_1, s74_4, s74_5, s74_6, s74_9, s74_12, s74_13, s74_14, s74_17, s74_18, s74_19, s74_20, s74_23, s74_26, s74_27, s74_30, s74_31, s74_32, s74_33, s74_34, s74_37, s74_40, nI_pos (show k < 2 ^ 31 by omega), nI_lt hk (show 2 < 2 ^ 31 by decide), if_true, if_false, r, oC0_k k hk, oC0_1, x_A_cp (oC0_k k hk) oC0_1 (h1 k hk) h2, Option.bind_some, Option.toList_some, Option.toList_none, List.nil_append, List.cons_append, tC34, nC34, hk, c34, nar1, x_A_size oC0_1, c1, elB_nI (show 2 < 1000 by decide) hk, eN_nI (show k < 1000 by omega)]
    rfl
theorem x_S_back {kt : Nat → Bool} {N : Nat → Nat} (hk2 : ∀ k, k < 2 → m 34 k = bI (kt k)) (hN : ∀ k, k < 2 → m (35 + 3 * k) 0 = nI (N k)) (h1 : ∀ k, k < 2 → zA m (35 + 3 * k)) (h2 : zA m 1) : ev (d + 6) 75 0 [.ref 0, .int x] [] (mk shC m q) = if elB 2 x = true then (if kt (eN x) = true then some (some (.int (nI (N (eN x)))), mk shC (bkH m (eN x)) q) else some (some (.int (-1003)), mk shC m q)) else some (some (.int (-1002)), mk shC m q) := by
  rcases elB_or 2 x (by decide) with ⟨hx, h | h⟩ | ⟨k, hk, rfl⟩
  · simp only [s75_0, s75_1, s75_4, s75_5, s75_6, s75_9, s75_12, s75_13, s75_14, s75_17, s75_18, s75_19, s75_22, s75_25, s75_26, s75_27, s75_30, s75_31, s75_34, s75_35, s75_36, s75_39, s75_40, s75_43, s75_46, s75_47, s75_50, s75_53, s75_54, s75_57, s75_60, h, if_true, hx, Bool.false_eq_true, if_false]
  · simp only [s75_0, s75_1, s75_4, s75_5, s75_6, s75_9, s75_12, s75_13, s75_14, s75_17, s75_18, s75_19, s75_22, s75_25, s75_26, s75_27, s75_30, s75_31, s75_34, s75_35, s75_36, s75_39, s75_40, s75_43, s75_46, s75_47, s75_50, s75_53, s75_54, s75_57, s75_60, show ¬ x < nI 2 from Int32.not_lt.mpr h, if_true, hx, Bool.false_eq_true, if_false, ite_self]
  · have r : ∀ {D : Nat} {mm : Mem}, ev D 75 35 [.ref 0, .int (nI k)] [.int (nI k), .ref 33, .ref 1] (mk shC mm q) = ev D 75 36 [.ref 0, .int (nI k)] [.ref (35 + 3 * k), .ref 1] (mk shC mm q) := s75_35 (t := 0) shC_33 (by decide) hk (by decide) (kst_at k hk)
    simp only [s75_0, s75_1, s75_4, s75_5, s75_6, s75_9, s75_12, s75_13, s75_14, s75_17, s75_18, s75_19, s75_22, s75_25, s75_26, s75_27, s75_30, s75_31, s75_34, s75_35, s75_36, s75_39, s75_40, s75_43, s75_46, s75_47, s75_50, s75_53, s75_54, s75_57, s75_60, nI_pos (show k < 2 ^ 31 by omega), nI_lt hk (show 2 < 2 ^ 31 by decide), if_true, if_false, tC34, nC34, hk, hk2 k hk, bI_z, elB_nI (show 2 < 1000 by decide) hk, eN_nI (show k < 1000 by omega)]
    cases hb : kt k with
    | false => simp only [if_true, Bool.false_eq_true, if_false, s75_0, s75_1, s75_4, s75_5, s75_6, s75_9, s75_12, s75_13, s75_14, s75_17, s75_18, s75_19, s75_22, s75_25, s75_26, s75_27, s75_30, s75_31, s75_34, s75_35, s75_36, s75_39, s75_40, s75_43, s75_46, s75_47, s75_50, s75_53, s75_54, s75_57, s75_60]
    | true =>
      have c7 : cpE m 1 (35 + 3 * k) 7 = m 7 := cpE_ne (by omega)
      have f := x_F_forget (d := d + 4) (m := mu (cpE m 1 (35 + 3 * k)) 7 (upd (m 7) 2 (nI 0))) (q := q)
      change _ = some (none, mk shC (bkH m k) q) at f
      have c1 : bkH m k 1 0 = nI (N k) := by
        unfold bkH
        rw [fgH_ne (by decide) (by decide), mu_ne (by decide), cpE_0]
        exact hN k hk
      simp only [Bool.true_eq_false, if_false, if_true, s75_0, s75_1, s75_4, s75_5, s75_6, s75_9, s75_12, s75_13, s75_14, s75_17, s75_18, s75_19, s75_22, s75_25, s75_26, s75_27, s75_30, s75_31, s75_34, s75_35, s75_36, s75_39, s75_40, s75_43, s75_46, s75_47, s75_50, s75_53, s75_54, s75_57, s75_60, r, oC0_k k hk, oC0_1, x_A_cp oC0_1 (oC0_k k hk) h2 (h1 k hk), Option.bind_some, Option.toList_some, Option.toList_none, List.nil_append, List.cons_append, x_H_clear, c7, f, x_A_size oC0_1, c1]
end
