/-! the graph of topes -/
def gV (V : List Nat) (i : Nat) : Nat := V.getD i 0
def sbB (V : List Nat) (L i j : Nat) : Bool := !(rg 0 L).all fun t => decide (t = i ∨ t = j) || !decide (spK (gV V t) (gV V j) &&& (spK (gV V i) (gV V j) ^^^ 4294967295) = 0)
def nxO (V : List Nat) (L i : Nat) : Nat := (rg 0 L).foldl (fun s j => if i ≠ j ∧ sbB V L i j = false then s ||| 2 ^ j else s) 0
theorem spK_lt {x y : Nat} : spK x y < 4096 := by
  unfold spK
  exact Nat.lt_of_le_of_lt Nat.and_le_right (by decide)
section
variable {d L i j : Nat} {m : Mem} {q : MemJ} {V : List Nat}
theorem x_G_isSomeBetween (hw : WR m 59 V) (hL : m 62 1 = nI L) (hLV : L ≤ V.length) (hi : i < L) (hj : j < L) : ev (d + 1) 119 0 [.ref 62, .ref 59, .int (nI i), .int (nI j), .null, .null, .null] [] (mk shC m q) = some (some (.int (bI (sbB V L i j))), mk shC m q) := by
  have hV := hw.2.1
  have a1 := WR_at hw (show i < V.length by omega)
  have a2 := WR_at hw (show j < V.length by omega)
  have A := ev_all1 (fun t (v : Value) => ev (d + 1) 119 18 [.ref 62, .ref 59, .int (nI i), .int (nI j), .int (nI (spK (gV V i) (gV V j))), .int (nI t), v] [] (mk shC m q)) (some (some (.int (nI 0)), mk shC m q)) (some (some (.int (nI 1)), mk shC m q)) (fun t => decide (t = i ∨ t = j) || !decide (spK (gV V t) (gV V j) &&& (spK (gV V i) (gV V j) ^^^ 4294967295) = 0)) L
    (fun v => by rw [s119_18]; simp only [s119_0, s119_1, s119_2, s119_5, s119_6, s119_7, s119_10, s119_13, s119_15, s119_16, s119_20, s119_21, s119_24, s119_27, s119_28, s119_30, s119_33, s119_34, s119_35, s119_38, s119_41, s119_43, s119_45, s119_46, s119_49, s119_51, s119_52, s119_55, s119_57, s119_59, s119_60, s119_61, s119_62, s119_65, s119_66, s119_67, s119_70, s119_73, s119_74, hL, nI_irr, if_false, am_b0])
    (fun t v ht hc => ⟨.int (nI (spK (gV V t) (gV V j))), by
      have a3 := WR_at hw (show t < V.length by omega)
      have hlt : spK (gV V t) (gV V j) &&& (spK (gV V i) (gV V j) ^^^ 4294967295) < 2 ^ 32 := Nat.lt_of_le_of_lt Nat.and_le_left (Nat.lt_trans spK_lt (by decide))
      rw [s119_18]
      simp only [s119_0, s119_1, s119_2, s119_5, s119_6, s119_7, s119_10, s119_13, s119_15, s119_16, s119_20, s119_21, s119_24, s119_27, s119_28, s119_30, s119_33, s119_34, s119_35, s119_38, s119_41, s119_43, s119_45, s119_46, s119_49, s119_51, s119_52, s119_55, s119_57, s119_59, s119_60, s119_61, s119_62, s119_65, s119_66, s119_67, s119_70, s119_73, s119_74, hL, nI_lt ht (show L < 2 ^ 31 by omega), if_true, oC8_59, x_W_at oC8_59 (show t < 729 by omega), x_W_at oC8_59 (show j < 729 by omega), a2.1, a3.1, x_K_separation a3.2 a2.2, Option.bind_some, Option.toList_some, Option.toList_none, List.nil_append, List.cons_append, nI_eq (show t < 2 ^ 31 by omega) (show i < 2 ^ 31 by omega), nI_eq (show t < 2 ^ 31 by omega) (show j < 2 ^ 31 by omega), nI_neg1, nI_xor, nI_and]
      by_cases h1 : t = i
      · rw [if_pos h1, nI_add]; rfl
      · rw [if_neg h1]
        by_cases h2 : t = j
        · rw [if_pos h2, nI_add]; rfl
        · rw [if_neg h2]
          have hc : ¬ spK (gV V t) (gV V j) &&& (spK (gV V i) (gV V j) ^^^ 4294967295) = 0 := by simpa [h1, h2] using hc
          rw [show spK (V.getD t 0) (V.getD j 0) = spK (gV V t) (gV V j) from rfl, if_neg (fun e => hc ((nI_z32 hlt).mp e)), nI_add]⟩)
    (fun t v ht hc => by
      have a3 := WR_at hw (show t < V.length by omega)
      have hlt : spK (gV V t) (gV V j) &&& (spK (gV V i) (gV V j) ^^^ 4294967295) < 2 ^ 32 := Nat.lt_of_le_of_lt Nat.and_le_left (Nat.lt_trans spK_lt (by decide))
      simp only [Bool.or_eq_false_iff, decide_eq_false_iff_not, not_or, Bool.not_eq_false', decide_eq_true_eq] at hc
      rw [s119_18]
      simp only [s119_0, s119_1, s119_2, s119_5, s119_6, s119_7, s119_10, s119_13, s119_15, s119_16, s119_20, s119_21, s119_24, s119_27, s119_28, s119_30, s119_33, s119_34, s119_35, s119_38, s119_41, s119_43, s119_45, s119_46, s119_49, s119_51, s119_52, s119_55, s119_57, s119_59, s119_60, s119_61, s119_62, s119_65, s119_66, s119_67, s119_70, s119_73, s119_74, hL, nI_lt ht (show L < 2 ^ 31 by omega), if_true, oC8_59, x_W_at oC8_59 (show t < 729 by omega), x_W_at oC8_59 (show j < 729 by omega), a2.1, a3.1, x_K_separation a3.2 a2.2, Option.bind_some, Option.toList_some, Option.toList_none, List.nil_append, List.cons_append, nI_eq (show t < 2 ^ 31 by omega) (show i < 2 ^ 31 by omega), nI_eq (show t < 2 ^ 31 by omega) (show j < 2 ^ 31 by omega), nI_neg1, nI_xor, nI_and]
      rw [if_neg hc.1.1, if_neg hc.1.2, show spK (V.getD t 0) (V.getD j 0) = spK (gV V t) (gV V j) from rfl, if_pos ((nI_z32 hlt).mpr hc.2)]
      simp only [s119_0, s119_1, s119_2, s119_5, s119_6, s119_7, s119_10, s119_13, s119_15, s119_16, s119_20, s119_21, s119_24, s119_27, s119_28, s119_30, s119_33, s119_34, s119_35, s119_38, s119_41, s119_43, s119_45, s119_46, s119_49, s119_51, s119_52, s119_55, s119_57, s119_59, s119_60, s119_61, s119_62, s119_65, s119_66, s119_67, s119_70, s119_73, s119_74, am_b1]) 0 (Nat.zero_le _) .null
  simp only [s119_0, s119_1, s119_2, s119_5, s119_6, s119_7, s119_10, s119_13, s119_15, s119_16, s119_20, s119_21, s119_24, s119_27, s119_28, s119_30, s119_33, s119_34, s119_35, s119_38, s119_41, s119_43, s119_45, s119_46, s119_49, s119_51, s119_52, s119_55, s119_57, s119_59, s119_60, s119_61, s119_62, s119_65, s119_66, s119_67, s119_70, s119_73, s119_74, oC8_59, x_W_at oC8_59 (show i < 729 by omega), x_W_at oC8_59 (show j < 729 by omega), a1.1, a2.1, x_K_separation a1.2 a2.2, Option.bind_some, Option.toList_some, Option.toList_none, List.nil_append, List.cons_append]
  refine A.trans ?_
  unfold sbB bI
  cases (rg 0 L).all fun t => decide (t = i ∨ t = j) || !decide (spK (gV V t) (gV V j) &&& (spK (gV V i) (gV V j) ^^^ 4294967295) = 0) <;> rfl
theorem updL_same {q : MemJ} {i : Nat} {x y : Int64} : vp_updL (vp_updL q i x) i y = vp_updL q i y := by
  funext k
  simp only [vp_updL]
  split <;> rfl
theorem updL_at {q : MemJ} {i : Nat} {x : Int64} : vp_updL q i x i = x := by simp [vp_updL]
theorem updL_ne {q : MemJ} {i k : Nat} {x : Int64} (h : k ≠ i) : vp_updL q i x k = q k := by simp [vp_updL, h]
theorem x_G_build (hw : WR m 59 V) : ∃ q', ev (d + 5) 118 0 [.ref 62, .ref 59, .null, .null] [] (mk shC m q) = some (none, mk shC (mu m 62 (upd (m 62) 1 (nI (min V.length 64)))) q') ∧ ∀ i, i < min V.length 64 → q' i = nJ (nxO V (min V.length 64) i) := by
  have hV := hw.2.1
  have hlen := hw.1
  generalize hL : min V.length 64 = L
  have hL1 : L ≤ 64 := by omega
  have hL2 : L ≤ V.length := by omega
  generalize hm1 : mu m 62 (upd (m 62) 1 (nI L)) = m1
  have l1 : m1 62 1 = nI L := by rw [← hm1, mu_same]; simp [upd]
  have w1 : WR m1 59 V := by rw [← hm1]; exact WR_fr hw (mu_ne (by decide)) (mu_ne (by decide)) (mu_ne (by decide))
  have In : ∀ i q (v : Value), i < L → ev (d + 5) 118 32 [.ref 62, .ref 59, .int (nI i), .int (nI 0)] [] (mk shC m1 (vp_updL q i (nJ 0))) = ev (d + 5) 118 15 [.ref 62, .ref 59, .int (nI (i + 1)), .int (nI L)] [] (mk shC m1 (vp_updL q i (nJ (nxO V L i)))) := fun i q v hi =>
    ev_for1 (fun _ => True) (fun j (s : Nat) (_ : Unit) => ev (d + 5) 118 32 [.ref 62, .ref 59, .int (nI i), .int (nI j)] [] (mk shC m1 (vp_updL q i (nJ s)))) (fun s => ev (d + 5) 118 15 [.ref 62, .ref 59, .int (nI (i + 1)), .int (nI L)] [] (mk shC m1 (vp_updL q i (nJ s)))) (fun j s => if i ≠ j ∧ sbB V L i j = false then s ||| 2 ^ j else s) L
      (fun s _ _ => by rw [s118_32]; simp only [s118_0, s118_1, s118_2, s118_5, s118_7, s118_10, s118_13, s118_14, s118_16, s118_17, s118_20, s118_23, s118_24, s118_27, s118_28, s118_29, s118_30, s118_31, s118_33, s118_34, s118_37, s118_40, s118_41, s118_42, s118_45, s118_46, s118_47, s118_48, s118_49, s118_52, s118_55, s118_56, s118_59, s118_60, s118_61, s118_62, s118_63, s118_64, s118_65, s118_66, s118_67, s118_70, s118_73, s118_76, s118_79, l1, nI_irr, if_false, nI_add])
      (fun _ _ _ _ => trivial)
      (fun j s _ hj _ => ⟨(), by
        rw [s118_32]
        simp only [s118_0, s118_1, s118_2, s118_5, s118_7, s118_10, s118_13, s118_14, s118_16, s118_17, s118_20, s118_23, s118_24, s118_27, s118_28, s118_29, s118_30, s118_31, s118_33, s118_34, s118_37, s118_40, s118_41, s118_42, s118_45, s118_46, s118_47, s118_48, s118_49, s118_52, s118_55, s118_56, s118_59, s118_60, s118_61, s118_62, s118_63, s118_64, s118_65, s118_66, s118_67, s118_70, s118_73, s118_76, s118_79, l1, nI_lt hj (show L < 2 ^ 31 by omega), if_true, nI_eq (show i < 2 ^ 31 by omega) (show j < 2 ^ 31 by omega), x_G_isSomeBetween w1 l1 hL2 hi hj, Option.bind_some, Option.toList_some, Option.toList_none, List.nil_append, List.cons_append, bI_z]
        by_cases hij : i = j
        · simp only [hij, if_true, ne_eq, not_true, false_and, if_false, nI_add, s118_0, s118_1, s118_2, s118_5, s118_7, s118_10, s118_13, s118_14, s118_16, s118_17, s118_20, s118_23, s118_24, s118_27, s118_28, s118_29, s118_30, s118_31, s118_33, s118_34, s118_37, s118_40, s118_41, s118_42, s118_45, s118_46, s118_47, s118_48, s118_49, s118_52, s118_55, s118_56, s118_59, s118_60, s118_61, s118_62, s118_63, s118_64, s118_65, s118_66, s118_67, s118_70, s118_73, s118_76, s118_79]
        · cases hs : sbB V L i j with
          | true => simp only [hij, if_false, Bool.true_eq_false, ne_eq, not_false_eq_true, and_false, nI_add, s118_0, s118_1, s118_2, s118_5, s118_7, s118_10, s118_13, s118_14, s118_16, s118_17, s118_20, s118_23, s118_24, s118_27, s118_28, s118_29, s118_30, s118_31, s118_33, s118_34, s118_37, s118_40, s118_41, s118_42, s118_45, s118_46, s118_47, s118_48, s118_49, s118_52, s118_55, s118_56, s118_59, s118_60, s118_61, s118_62, s118_63, s118_64, s118_65, s118_66, s118_67, s118_70, s118_73, s118_76, s118_79]
          | false => simp only [hij, if_false, if_true, ne_eq, not_false_eq_true, and_self, s118_0, s118_1, s118_2, s118_5, s118_7, s118_10, s118_13, s118_14, s118_16, s118_17, s118_20, s118_23, s118_24, s118_27, s118_28, s118_29, s118_30, s118_31, s118_33, s118_34, s118_37, s118_40, s118_41, s118_42, s118_45, s118_46, s118_47, s118_48, s118_49, s118_52, s118_55, s118_56, s118_59, s118_60, s118_61, s118_62, s118_63, s118_64, s118_65, s118_66, s118_67, s118_70, s118_73, s118_76, s118_79, tC63, nC63, show i < 64 by omega, updL_at, updL_same, jsh1 j (by omega), nJ_or, nI_add]⟩) 0 (Nat.zero_le _) 0 () trivial
  have Out := ev_for1 (fun _ => True) (fun i (q : MemJ) (v : Value) => ev (d + 5) 118 15 [.ref 62, .ref 59, .int (nI i), v] [] (mk shC m1 q)) (fun q => some (none, mk shC m1 q)) (fun i q => vp_updL q i (nJ (nxO V L i))) L
    (fun q v _ => by rw [s118_15]; simp only [s118_0, s118_1, s118_2, s118_5, s118_7, s118_10, s118_13, s118_14, s118_16, s118_17, s118_20, s118_23, s118_24, s118_27, s118_28, s118_29, s118_30, s118_31, s118_33, s118_34, s118_37, s118_40, s118_41, s118_42, s118_45, s118_46, s118_47, s118_48, s118_49, s118_52, s118_55, s118_56, s118_59, s118_60, s118_61, s118_62, s118_63, s118_64, s118_65, s118_66, s118_67, s118_70, s118_73, s118_76, s118_79, l1, nI_irr, if_false])
    (fun _ _ _ _ => trivial)
    (fun i q v hi _ => ⟨.int (nI L), by
      rw [s118_15]
      simp only [s118_0, s118_1, s118_2, s118_5, s118_7, s118_10, s118_13, s118_14, s118_16, s118_17, s118_20, s118_23, s118_24, s118_27, s118_28, s118_29, s118_30, s118_31, s118_33, s118_34, s118_37, s118_40, s118_41, s118_42, s118_45, s118_46, s118_47, s118_48, s118_49, s118_52, s118_55, s118_56, s118_59, s118_60, s118_61, s118_62, s118_63, s118_64, s118_65, s118_66, s118_67, s118_70, s118_73, s118_76, s118_79, l1, nI_lt hi (show L < 2 ^ 31 by omega), if_true, tC63, nC63, show i < 64 by omega, nJ_0]
      exact In i q v hi⟩) 0 (Nat.zero_le _) q .null trivial
  refine ⟨(rg 0 L).foldl (fun q i => vp_updL q i (nJ (nxO V L i))) q, ?_, ?_⟩
  · have hmin : min 64 V.length = L := by omega
    simp only [s118_0, s118_1, s118_2, s118_5, s118_7, s118_10, s118_13, s118_14, s118_16, s118_17, s118_20, s118_23, s118_24, s118_27, s118_28, s118_29, s118_30, s118_31, s118_33, s118_34, s118_37, s118_40, s118_41, s118_42, s118_45, s118_46, s118_47, s118_48, s118_49, s118_52, s118_55, s118_56, s118_59, s118_60, s118_61, s118_62, s118_63, s118_64, s118_65, s118_66, s118_67, s118_70, s118_73, s118_76, s118_79, oC8_59, x_W_length oC8_59, hlen, Option.bind_some, Option.toList_some, Option.toList_none, List.nil_append, List.cons_append, nI_min (show V.length < 2 ^ 31 by omega) (show 64 < 2 ^ 31 by decide), nI_min (show 64 < 2 ^ 31 by decide) (show V.length < 2 ^ 31 by omega), hL, hmin, hm1]
    exact Out
  · have : ∀ k j (q : MemJ), j + k = L → (∀ i, i < j → q i = nJ (nxO V L i)) → ∀ i, i < L → ((rg j L).foldl (fun q i => vp_updL q i (nJ (nxO V L i))) q) i = nJ (nxO V L i) := by
      intro k
      induction k with
      | zero =>
        intro j q hj hq
        obtain rfl : j = L := by omega
        rw [rg_end]
        exact hq
      | succ k ih =>
        intro j q hj hq
        rw [rg_cons (show j < L by omega)]
        apply ih (j + 1) _ (by omega)
        intro i hi
        dsimp only
        by_cases hij : i = j
        · rw [hij, updL_at]
        · rw [updL_ne hij]; exact hq i (by omega)
    exact this L 0 q (by omega) (fun i hi => absurd hi (Nat.not_lt_zero i))
end
