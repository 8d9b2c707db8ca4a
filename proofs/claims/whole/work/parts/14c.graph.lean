/-! what the graph tells -/
def pcJ (x : Int64) : Int32 :=
  let a := x - ((x.toUInt64 >>> ((nI 1).toInt64.toUInt64 &&& Int64.toUInt64 63)).toInt64 &&& 6148914691236517205)
  let b := (a &&& 3689348814741910323) + ((a.toUInt64 >>> ((nI 2).toInt64.toUInt64 &&& Int64.toUInt64 63)).toInt64 &&& 3689348814741910323)
  let c := (b + (b.toUInt64 >>> ((nI 4).toInt64.toUInt64 &&& Int64.toUInt64 63)).toInt64) &&& 1085102592571150095
  let e := c + (c.toUInt64 >>> ((nI 8).toInt64.toUInt64 &&& Int64.toUInt64 63)).toInt64
  let g := e + (e.toUInt64 >>> ((nI 16).toInt64.toUInt64 &&& Int64.toUInt64 63)).toInt64
  let i := g + (g.toUInt64 >>> ((nI 32).toInt64.toUInt64 &&& Int64.toUInt64 63)).toInt64
  i.toInt32 &&& nI 127
theorem x_L_bitCount {d : Nat} {x : Int64} {h : AH} : ev d 123 0 [.long x, .null] [] h = some (some (.int (pcJ x)), h) := by
  simp only [s123_0, s123_1, s123_2, s123_3, s123_4, s123_7, s123_8, s123_9, s123_10, s123_11, s123_14, s123_15, s123_16, s123_17, s123_18, s123_21, s123_22, s123_23, s123_24, s123_25, s123_26, s123_27, s123_28, s123_29, s123_32, s123_33, s123_34, s123_35, s123_36, s123_38, s123_39, s123_40, s123_41, s123_42, s123_43, s123_45, s123_46, s123_47, s123_48, s123_49, s123_50, s123_52, s123_53, s123_54, s123_55, s123_56, s123_57, s123_59, s123_60]
  rfl
/-- next to any of them -/
def ntA (X : Nat → Nat) (L r : Nat) : Nat := (rg 0 L).foldl (fun s i => if r.testBit i = true then s ||| X i else s) 0
def stpO (X : Nat → Nat) (L t : Nat) : Nat → Nat → Nat → Int32
  | 0, _, _ => -1
  | f + 1, s, r => if r.testBit t = true then nI s else stpO X L t f (s + 1) (r ||| ntA X L r)
section
variable {d L i j : Nat} {m : Mem} {q : MemJ} {X : Nat → Nat}
theorem x_G_has_t {k : Nat} (hl : m 62 1 = nI L) (hl2 : L < 2 ^ 31) (hk : k < L) : ev d 122 0 [.ref 62, .int (nI k)] [] (mk shC m q) = some (some (.int (nI 1)), mk shC m q) := by
  simp only [s122_0, s122_1, s122_4, s122_5, s122_6, s122_9, s122_12, s122_13, s122_16, s122_17, hl, show ¬ nI k < 0 by rw [show (0 : Int32) = nI 0 from rfl, nI_ltI (by omega) (by decide)]; omega, nI_lt hk hl2, if_true, if_false, am_b1]
theorem x_G_has_f {x : Int32} (hl : m 62 1 = nI L) (hx : nel L x) : ev d 122 0 [.ref 62, .int x] [] (mk shC m q) = some (some (.int (nI 0)), mk shC m q) := by
  rcases hx with h | h
  · simp only [s122_0, s122_1, s122_4, s122_5, s122_6, s122_9, s122_12, s122_13, s122_16, s122_17, h, if_true, am_b0]
  · have h2 : ¬ x < nI L := Int32.not_lt.mpr h
    simp only [s122_0, s122_1, s122_4, s122_5, s122_6, s122_9, s122_12, s122_13, s122_16, s122_17, hl, h2, if_false, am_b0, ite_self]
theorem x_G_neighbours (hl : m 62 1 = nI L) (hL : L ≤ 64) (hi : i < L) : ev (d + 1) 121 0 [.ref 62, .int (nI i)] [] (mk shC m q) = some (some (.int (pcJ (q i))), mk shC m q) := by
  simp only [s121_0, s121_1, s121_2, s121_5, s121_8, s121_9, s121_12, s121_13, s121_14, s121_17, s121_20, s121_21, x_G_has_t hl (show L < 2 ^ 31 by omega) hi, Option.bind_some, Option.toList_some, Option.toList_none, List.nil_append, List.cons_append, nI10, if_false, tC63, nC63, show i < 64 by omega, x_L_bitCount]
theorem x_G_neighbours_f {x : Int32} (hl : m 62 1 = nI L) (hx : nel L x) : ev (d + 1) 121 0 [.ref 62, .int x] [] (mk shC m q) = some (some (.int (nI 0)), mk shC m q) := by
  simp only [s121_0, s121_1, s121_2, s121_5, s121_8, s121_9, s121_12, s121_13, s121_14, s121_17, s121_20, s121_21, x_G_has_f hl hx, Option.bind_some, Option.toList_some, Option.toList_none, List.nil_append, List.cons_append, nI00, if_true]
theorem x_G_isNext (hl : m 62 1 = nI L) (hL : L ≤ 64) (hX : ∀ i, i < L → q i = nJ (X i)) (hi : i < L) (hj : j < L) : ev (d + 1) 125 0 [.ref 62, .int (nI i), .int (nI j)] [] (mk shC m q) = some (some (.int (bI ((X i).testBit j))), mk shC m q) := by
  simp only [s125_0, s125_1, s125_2, s125_5, s125_8, s125_9, s125_10, s125_13, s125_16, s125_17, s125_20, s125_21, s125_22, s125_23, s125_24, s125_25, s125_26, s125_27, s125_28, s125_31, s125_32, s125_35, s125_36, x_G_has_t hl (show L < 2 ^ 31 by omega) hi, x_G_has_t hl (show L < 2 ^ 31 by omega) hj, Option.bind_some, Option.toList_some, Option.toList_none, List.nil_append, List.cons_append, nI10, if_false, tC63, nC63, show i < 64 by omega, hX i hi, jbit (show j < 64 by omega)]
  cases h : (X i).testBit j with
  | true => simp only [if_true, jcmp1, if_false, am_b1, bI_t, s125_0, s125_1, s125_2, s125_5, s125_8, s125_9, s125_10, s125_13, s125_16, s125_17, s125_20, s125_21, s125_22, s125_23, s125_24, s125_25, s125_26, s125_27, s125_28, s125_31, s125_32, s125_35, s125_36]
  | false => simp only [Bool.false_eq_true, if_false, jcmp0, if_true, am_b0, bI_f, s125_0, s125_1, s125_2, s125_5, s125_8, s125_9, s125_10, s125_13, s125_16, s125_17, s125_20, s125_21, s125_22, s125_23, s125_24, s125_25, s125_26, s125_27, s125_28, s125_31, s125_32, s125_35, s125_36]
theorem x_G_isNext_f {x y : Int32} (hl : m 62 1 = nI L) (hL : L ≤ 64) (hx : nel L x ∨ nel L y) (hxx : nel L x ∨ ∃ i, i < L ∧ x = nI i) : ev (d + 1) 125 0 [.ref 62, .int x, .int y] [] (mk shC m q) = some (some (.int (nI 0)), mk shC m q) := by
  rcases hxx with h | ⟨i, hi, rfl⟩
  · simp only [s125_0, s125_1, s125_2, s125_5, s125_8, s125_9, s125_10, s125_13, s125_16, s125_17, s125_20, s125_21, s125_22, s125_23, s125_24, s125_25, s125_26, s125_27, s125_28, s125_31, s125_32, s125_35, s125_36, x_G_has_f hl h, Option.bind_some, Option.toList_some, Option.toList_none, List.nil_append, List.cons_append, nI00, if_true, am_b0]
  · rcases hx with h | h
    · simp only [s125_0, s125_1, s125_2, s125_5, s125_8, s125_9, s125_10, s125_13, s125_16, s125_17, s125_20, s125_21, s125_22, s125_23, s125_24, s125_25, s125_26, s125_27, s125_28, s125_31, s125_32, s125_35, s125_36, x_G_has_f hl h, Option.bind_some, Option.toList_some, Option.toList_none, List.nil_append, List.cons_append, nI00, if_true, am_b0]
    · simp only [s125_0, s125_1, s125_2, s125_5, s125_8, s125_9, s125_10, s125_13, s125_16, s125_17, s125_20, s125_21, s125_22, s125_23, s125_24, s125_25, s125_26, s125_27, s125_28, s125_31, s125_32, s125_35, s125_36, x_G_has_t hl (show L < 2 ^ 31 by omega) hi, x_G_has_f hl h, Option.bind_some, Option.toList_some, Option.toList_none, List.nil_append, List.cons_append, nI00, nI10, if_false, if_true, am_b0]
theorem x_G_nextToAny {r : Nat} (hl : m 62 1 = nI L) (hL : L ≤ 64) (hX : ∀ i, i < L → q i = nJ (X i)) : ev d 127 0 [.ref 62, .long (nJ r), .null, .null, .null, .null] [] (mk shC m q) = some (some (.long (nJ (ntA X L r))), mk shC m q) := by
  have A := ev_for1 (fun _ => True) (fun i (s : Nat) (_ : Unit) => ev d 127 5 [.ref 62, .long (nJ r), .null, .long (nJ s), .null, .int (nI i)] [] (mk shC m q)) (fun s => some (some (.long (nJ s)), mk shC m q)) (fun i s => if r.testBit i = true then s ||| X i else s) L
    (fun s _ _ => by rw [s127_5]; simp only [s127_0, s127_1, s127_2, s127_3, s127_7, s127_8, s127_11, s127_14, s127_15, s127_17, s127_18, s127_19, s127_20, s127_21, s127_22, s127_25, s127_26, s127_27, s127_30, s127_32, s127_33, s127_34, s127_35, s127_38, s127_41, s127_42, hl, nI_irr, if_false])
    (fun _ _ _ _ => trivial)
    (fun i s _ hi _ => ⟨(), by
      rw [s127_5]
      simp only [s127_0, s127_1, s127_2, s127_3, s127_7, s127_8, s127_11, s127_14, s127_15, s127_17, s127_18, s127_19, s127_20, s127_21, s127_22, s127_25, s127_26, s127_27, s127_30, s127_32, s127_33, s127_34, s127_35, s127_38, s127_41, s127_42, hl, nI_lt hi (show L < 2 ^ 31 by omega), if_true, jbit (show i < 64 by omega)]
      cases h : r.testBit i with
      | true => simp only [if_true, jcmp1, if_false, s127_0, s127_1, s127_2, s127_3, s127_7, s127_8, s127_11, s127_14, s127_15, s127_17, s127_18, s127_19, s127_20, s127_21, s127_22, s127_25, s127_26, s127_27, s127_30, s127_32, s127_33, s127_34, s127_35, s127_38, s127_41, s127_42, tC63, nC63, show i < 64 by omega, hX i hi, nJ_or, nI_add]
      | false => simp only [Bool.false_eq_true, if_false, jcmp0, if_true, s127_0, s127_1, s127_2, s127_3, s127_7, s127_8, s127_11, s127_14, s127_15, s127_17, s127_18, s127_19, s127_20, s127_21, s127_22, s127_25, s127_26, s127_27, s127_30, s127_32, s127_33, s127_34, s127_35, s127_38, s127_41, s127_42, nI_add]⟩) 0 (Nat.zero_le _) 0 () trivial
  simp only [s127_0, s127_1, s127_2, s127_3, s127_7, s127_8, s127_11, s127_14, s127_15, s127_17, s127_18, s127_19, s127_20, s127_21, s127_22, s127_25, s127_26, s127_27, s127_30, s127_32, s127_33, s127_34, s127_35, s127_38, s127_41, s127_42, nJ_0]
  exact A
theorem x_G_steps (hl : m 62 1 = nI L) (hL : L ≤ 64) (hX : ∀ i, i < L → q i = nJ (X i)) (hi : i < L) (hj : j < L) : ev (d + 1) 126 0 [.ref 62, .int (nI i), .int (nI j), .null, .null, .null] [] (mk shC m q) = some (some (.int (stpO X L j 64 0 (2 ^ i))), mk shC m q) := by
  have A : ∀ f s r, s + f = 64 → ev (d + 1) 126 25 [.ref 62, .int (nI i), .int (nI j), .long (nJ r), .null, .int (nI s)] [] (mk shC m q) = some (some (.int (stpO X L j f s r)), mk shC m q) := by
    intro f
    induction f with
    | zero =>
      intro s r hs
      obtain rfl : s = 64 := by omega
      rw [s126_25]
      simp only [s126_0, s126_1, s126_2, s126_5, s126_8, s126_9, s126_10, s126_13, s126_16, s126_17, s126_18, s126_19, s126_20, s126_21, s126_22, s126_23, s126_27, s126_29, s126_32, s126_33, s126_34, s126_35, s126_36, s126_37, s126_38, s126_39, s126_42, s126_44, s126_45, s126_46, s126_47, s126_48, s126_51, s126_52, s126_53, s126_56, s126_59, s126_60, nI_irr, if_false]
      rfl
    | succ f ih =>
      intro s r hs
      rw [s126_25]
      unfold stpO
      simp only [s126_0, s126_1, s126_2, s126_5, s126_8, s126_9, s126_10, s126_13, s126_16, s126_17, s126_18, s126_19, s126_20, s126_21, s126_22, s126_23, s126_27, s126_29, s126_32, s126_33, s126_34, s126_35, s126_36, s126_37, s126_38, s126_39, s126_42, s126_44, s126_45, s126_46, s126_47, s126_48, s126_51, s126_52, s126_53, s126_56, s126_59, s126_60, nI_lt (show s < 64 by omega) (show 64 < 2 ^ 31 by decide), if_true, jbit (show j < 64 by omega)]
      cases h : r.testBit j with
      | true => simp only [if_true, jcmp1, if_false, s126_0, s126_1, s126_2, s126_5, s126_8, s126_9, s126_10, s126_13, s126_16, s126_17, s126_18, s126_19, s126_20, s126_21, s126_22, s126_23, s126_27, s126_29, s126_32, s126_33, s126_34, s126_35, s126_36, s126_37, s126_38, s126_39, s126_42, s126_44, s126_45, s126_46, s126_47, s126_48, s126_51, s126_52, s126_53, s126_56, s126_59, s126_60]
      | false =>
        simp only [Bool.false_eq_true, if_false, jcmp0, if_true, s126_0, s126_1, s126_2, s126_5, s126_8, s126_9, s126_10, s126_13, s126_16, s126_17, s126_18, s126_19, s126_20, s126_21, s126_22, s126_23, s126_27, s126_29, s126_32, s126_33, s126_34, s126_35, s126_36, s126_37, s126_38, s126_39, s126_42, s126_44, s126_45, s126_46, s126_47, s126_48, s126_51, s126_52, s126_53, s126_56, s126_59, s126_60, x_G_nextToAny hl hL hX, Option.bind_some, Option.toList_some, Option.toList_none, List.nil_append, List.cons_append, nJ_or, nI_add]
        exact ih (s + 1) _ (by omega)
  simp only [s126_0, s126_1, s126_2, s126_5, s126_8, s126_9, s126_10, s126_13, s126_16, s126_17, s126_18, s126_19, s126_20, s126_21, s126_22, s126_23, s126_27, s126_29, s126_32, s126_33, s126_34, s126_35, s126_36, s126_37, s126_38, s126_39, s126_42, s126_44, s126_45, s126_46, s126_47, s126_48, s126_51, s126_52, s126_53, s126_56, s126_59, s126_60, x_G_has_t hl (show L < 2 ^ 31 by omega) hi, x_G_has_t hl (show L < 2 ^ 31 by omega) hj, Option.bind_some, Option.toList_some, Option.toList_none, List.nil_append, List.cons_append, nI10, if_false, not_false_eq_true, if_true, jsh1 i (by omega)]
  exact A 64 0 (2 ^ i) rfl
end
/-- a vector's place -/
theorem x_W_indexOf {d a k : Nat} {m : Mem} {q : MemJ} {l : List Nat} (ho : oC8 a) (hw : WR m a l) (hk : k < 4096) : ev d 152 0 [.ref a, .int (nI k), .null] [] (mk shC m q) = some (some (.int (if k ∈ l then nI (l.idxOf k) else -1)), mk shC m q) := by
  have hl := hw.1
  have hl2 := hw.2.1
  have A : ∀ (r p : List Nat), p ++ r = l → (¬ k ∈ p) → ev d 152 2 [.ref a, .int (nI k), .int (nI p.length)] [] (mk shC m q) = some (some (.int (if k ∈ l then nI (l.idxOf k) else -1)), mk shC m q) := by
    intro r
    induction r with
    | nil =>
      intro p hp hn
      rw [List.append_nil] at hp
      subst hp
      rw [s152_2]
      simp only [s152_0, s152_1, s152_3, s152_4, s152_7, s152_10, s152_11, s152_14, s152_15, s152_16, s152_17, s152_20, s152_21, s152_22, s152_25, s152_28, s152_29, ho, hl, nI_irr, if_false, hn]
    | cons x r ih =>
      intro p hp hn
      have hpl : p.length < l.length := by rw [← hp]; simp
      have a1 := WR_at hw hpl
      have hx : l.getD p.length 0 = x := by rw [← hp, List.getD_eq_getElem?_getD]; simp
      rw [hx] at a1
      rw [s152_2]
      simp only [s152_0, s152_1, s152_3, s152_4, s152_7, s152_10, s152_11, s152_14, s152_15, s152_16, s152_17, s152_20, s152_21, s152_22, s152_25, s152_28, s152_29, ho, hl, nI_lt hpl (show l.length < 2 ^ 31 by omega), if_true, oC8_t1 ho, oC8_n1 ho, show p.length < 729 by omega, a1.1, nI_eq (show x < 2 ^ 31 by omega) (show k < 2 ^ 31 by omega)]
      by_cases hxk : x = k
      · have hkl : k ∈ l := by rw [← hp, ← hxk]; simp
        have hix : l.idxOf k = p.length := by
          rw [← hp, List.idxOf_append, if_neg hn, hxk, List.idxOf_cons_self, Nat.zero_add]
        simp only [hxk, if_true, hkl, hix]
      · simp only [hxk, if_false, nI_add]
        have := ih (p ++ [x]) (by rw [← hp]; simp) (by
          rw [List.mem_append]
          rintro (h | h)
          · exact hn h
          · exact hxk (List.mem_singleton.mp h).symm)
        rw [List.length_append, List.length_singleton] at this
        exact this
  simp only [s152_0, s152_1, s152_3, s152_4, s152_7, s152_10, s152_11, s152_14, s152_15, s152_16, s152_17, s152_20, s152_21, s152_22, s152_25, s152_28, s152_29]
  exact A l [] rfl (by simp)
