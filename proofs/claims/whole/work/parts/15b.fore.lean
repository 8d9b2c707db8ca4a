/-! what would be otherwise: mutations -/
theorem sg6_sg6 {f : Nat → Int32} {a b c : Nat} {u v : Int32} : sg6 (sg6 f a b c u) a b c v = sg6 f a b c v := by
  funext i
  simp only [sg6, upd]
  split
  · rfl
  · split
    · rfl
    · split
      · rfl
      · split
        · rfl
        · split
          · rfl
          · split <;> rfl
/-- an arrangement's rows, as they always are -/
def alF (F : Nat → Int32) : Prop := ∀ a b c, a < b → b < c → c < 6 → sg6 F a b c (F (i6 a b c)) = F
def zaF (F : Nat → Int32) (l : Nat) : Prop := ∀ i, l ≤ i → F i = 0
theorem cpy_za {F G : Nat → Int32} {l : Nat} (hF : zaF F l) (hG : zaF G l) : va_cpy F G 0 0 l = F := by
  funext i
  simp only [va_cpy]
  by_cases h : i < l
  · simp [h]
  · simp [h, hF i (by omega), hG i (by omega)]
def muB (n : Nat) (F : Nat → Int32) (a b c : Nat) : Bool := decide (F (i6 a b c) ≠ 0) && decide (bdF n (sg6 F a b c (-(F (i6 a b c)))) 0 n = 0)
def muS (n : Nat) (F : Nat → Int32) : Nat × Nat := (trip n).foldl (fun x t => (if muB n F t.1 t.2.1 t.2.2 = true then x.1 ||| 2 ^ (x.2 % 32) else x.1, x.2 + 1)) (0, 0)
theorem nI_shl' {a s : Nat} : nI a <<< (nI s &&& 31) = nI (a * 2 ^ (s % 32)) := by
  rw [← nI_shl (show s % 32 < 32 by omega)]
  congr 1
  have h31 : (31 : Int32) = nI 31 := rfl
  rw [h31, nI_and, nI_and, show (31 : Nat) = 2 ^ 5 - 1 from rfl, Nat.and_two_pow_sub_one_eq_mod, Nat.and_two_pow_sub_one_eq_mod, Nat.mod_mod]
section
variable {d k n a b c : Nat} {m : Mem} {q : MemJ}
theorem x_O_isMutation (hn : m 65 0 = nI n) (hn6 : n ≤ 6) (hal : alF (m 66)) (hab : a < b) (hbc : b < c) (hc : c < n) : ev (d + 7) 131 0 [.ref 64, .int (nI a), .int (nI b), .int (nI c), .null, .null] [] (mk shC m q) = some (some (.int (bI (muB n (m 66) a b c))), mk shC m q) := by
  have e6 : i6 a b c = (a * 6 + b) * 6 + c := rfl
  have hx := hal a b c hab hbc (by omega)
  simp only [s131_0, s131_1, s131_4, s131_5, s131_6, s131_7, s131_10, s131_12, s131_14, s131_17, s131_18, s131_19, s131_20, s131_23, s131_24, s131_25, s131_26, s131_28, s131_29, s131_32, s131_33, s131_36, s131_37, s131_38, s131_41, s131_44, s131_47, s131_50, s131_51, s131_54, s131_55, s131_57, s131_58, s131_61, s131_62, s131_63, s131_64, s131_66, s131_69, s131_71, oC0_65, x_A_signOf oC0_65 (show (a * 6 + b) * 6 + c < 216 by omega), Option.bind_some, Option.toList_some, Option.toList_none, List.nil_append, List.cons_append, am_b0]
  unfold muB
  rw [e6]
  rw [e6] at hx
  by_cases h0 : m (65 + 1) ((a * 6 + b) * 6 + c) = 0
  · rw [if_pos h0]
    have h0' : m 66 ((a * 6 + b) * 6 + c) = 0 := h0
    simp [h0', bI]
  · rw [if_neg h0]
    have h0' : ¬ m 66 ((a * 6 + b) * 6 + c) = 0 := h0
    have hn1 : mu m (65 + 1) (sg6 (m (65 + 1)) a b c (-m (65 + 1) ((a * 6 + b) * 6 + c))) 65 0 = nI n := by rw [mu_ne (by decide)]; exact hn
    simp only [s131_0, s131_1, s131_4, s131_5, s131_6, s131_7, s131_10, s131_12, s131_14, s131_17, s131_18, s131_19, s131_20, s131_23, s131_24, s131_25, s131_26, s131_28, s131_29, s131_32, s131_33, s131_36, s131_37, s131_38, s131_41, s131_44, s131_47, s131_50, s131_51, s131_54, s131_55, s131_57, s131_58, s131_61, s131_62, s131_63, s131_64, s131_66, s131_69, s131_71, oC0_65, x_A_giveSign oC0_65 (show a < 6 by omega) (show b < 6 by omega) (show c < 6 by omega), Option.bind_some, Option.toList_some, Option.toList_none, List.nil_append, List.cons_append, x_A_size oC0_65, hn1, x_R_badFives oC0_65 hn1 hn6 (Nat.zero_le n) (Nat.le_refl n), mu_same, mu_mu, sg6_sg6]
    by_cases hb : bdF n (sg6 (m (65 + 1)) a b c (-m (65 + 1) ((a * 6 + b) * 6 + c))) 0 n = 0
    · simp only [hb, if_true, am_b1]
      have hb' : bdF n (sg6 (m 66) a b c (-m 66 ((a * 6 + b) * 6 + c))) 0 n = 0 := hb
      simp only [h0', hb', ne_eq, not_false_eq_true, decide_true, Bool.and_self, bI_t]
      rw [show m (65 + 1) = m 66 from rfl, hx, show (65 + 1 : Nat) = 66 from rfl, mu_self]
      simp only [s131_0, s131_1, s131_4, s131_5, s131_6, s131_7, s131_10, s131_12, s131_14, s131_17, s131_18, s131_19, s131_20, s131_23, s131_24, s131_25, s131_26, s131_28, s131_29, s131_32, s131_33, s131_36, s131_37, s131_38, s131_41, s131_44, s131_47, s131_50, s131_51, s131_54, s131_55, s131_57, s131_58, s131_61, s131_62, s131_63, s131_64, s131_66, s131_69, s131_71, am_b1]
    · simp only [hb, if_false, am_b0]
      have hb' : ¬ bdF n (sg6 (m 66) a b c (-m 66 ((a * 6 + b) * 6 + c))) 0 n = 0 := hb
      simp only [h0', hb', ne_eq, not_false_eq_true, decide_true, decide_false, Bool.and_false, bI_f]
      rw [show m (65 + 1) = m 66 from rfl, hx, show (65 + 1 : Nat) = 66 from rfl, mu_self]
      simp only [s131_0, s131_1, s131_4, s131_5, s131_6, s131_7, s131_10, s131_12, s131_14, s131_17, s131_18, s131_19, s131_20, s131_23, s131_24, s131_25, s131_26, s131_28, s131_29, s131_32, s131_33, s131_36, s131_37, s131_38, s131_41, s131_44, s131_47, s131_50, s131_51, s131_54, s131_55, s131_57, s131_58, s131_61, s131_62, s131_63, s131_64, s131_66, s131_69, s131_71, am_b0]
end
