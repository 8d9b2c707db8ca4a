/-! the rules: bases as bits -/
theorem oC0_rng {k : Nat} (h : oC0 k) : k ≤ 38 ∨ k = 65 := by
  have hl : k < shC.length := (List.getElem?_eq_some_iff.mp h).1
  have h3 : ∀ k, k < shC.length → shC[k]? = some (0, 0, [none, some (k + 1), some (k + 2)]) → k ≤ 38 ∨ k = 65 := by decide +kernel
  exact h3 k hl h
theorem bt_and : ∀ a, a < 64 → ∀ b, b < 64 → nI a &&& nI b = nI (a &&& b) := by decide +kernel
theorem bt_or : ∀ a, a < 64 → ∀ b, b < 64 → nI a ||| nI b = nI (a ||| b) := by decide +kernel
theorem bt_andn : ∀ a, a < 64 → ∀ b, b < 64 → nI a &&& (nI b ^^^ (-1)) = nI (a &&& (63 ^^^ b)) := by decide +kernel
theorem bt_sh : ∀ i, i < 7 → nI 1 <<< (nI i &&& 31) = nI (2 ^ i) := by decide +kernel
theorem bt_sh1 : ∀ i, i < 7 → nI (2 ^ i) <<< (nI 1 &&& 31) = nI (2 ^ (i + 1)) := by decide +kernel
theorem bt_lt : ∀ i, i < 6 → 2 ^ i < 64 := by decide +kernel
theorem bt_andlt : ∀ a, a < 64 → ∀ b, b < 64 → a &&& b < 64 := by decide +kernel
theorem bt_orlt : ∀ a, a < 64 → ∀ b, b < 64 → a ||| b < 64 := by decide +kernel
theorem bt_xlt : ∀ a, a < 64 → 63 ^^^ a < 64 := by decide +kernel
theorem nI_z {a : Nat} (h : a < 2 ^ 31) : (nI a = 0) = (a = 0) := by
  have := nI_eq h (show 0 < 2 ^ 31 by decide)
  rw [nI_0] at this
  exact propext this
/-- a base's place can be filled -/
def mdC (β : Nat → Int32) (rest choice : Nat) : Bool := !((rg 0 6).all fun i => !(decide (2 ^ i &&& choice ≠ 0) && decide (β (rest ||| 2 ^ i) ≠ 0)))
theorem x_R_isMended {d rest choice : Nat} {m : Mem} {q : MemJ} (h1 : rest < 64) (h2 : choice < 64) : ev d 85 0 [.ref 44, .int (nI rest), .int (nI choice), .null] [] (mk shC m q) = some (some (.int (if mdC (m 45) rest choice = true then nI 1 else nI 0)), mk shC m q) := by
  have L := ev_all1 (fun i (_ : Unit) => ev d 85 2 [.ref 44, .int (nI rest), .int (nI choice), .int (nI (2 ^ i))] [] (mk shC m q)) (some (some (.int (nI 0)), mk shC m q)) (some (some (.int (nI 1)), mk shC m q)) (fun i => !(decide (2 ^ i &&& choice ≠ 0) && decide (m 45 (rest ||| 2 ^ i) ≠ 0))) 6
    (fun _ => by rw [s85_2]; simp only [s85_0, s85_1, s85_3, s85_5, s85_8, s85_9, s85_10, s85_11, s85_14, s85_15, s85_18, s85_19, s85_20, s85_21, s85_22, s85_25, s85_26, s85_27, s85_28, s85_29, s85_30, s85_31, s85_34, s85_35, show ¬ nI (2 ^ 6) < nI 64 by decide, if_false, am_b0])
    (fun i _ hi hc => ⟨(), by
      have hlt := bt_lt i hi
      rw [s85_2]
      simp only [s85_0, s85_1, s85_3, s85_5, s85_8, s85_9, s85_10, s85_11, s85_14, s85_15, s85_18, s85_19, s85_20, s85_21, s85_22, s85_25, s85_26, s85_27, s85_28, s85_29, s85_30, s85_31, s85_34, s85_35, nI_lt hlt (show 64 < 2 ^ 31 by decide), if_true, bt_and _ hlt _ h2, bt_or _ h1 _ hlt, tC45, nC45, bt_orlt _ h1 _ hlt, nI_z (Nat.lt_trans (bt_andlt _ hlt _ h2) (show 64 < 2 ^ 31 by decide)), bt_sh1 i (by omega)]
      by_cases c1 : 2 ^ i &&& choice = 0
      · simp [c1]
      · have c2 : m 45 (rest ||| 2 ^ i) = 0 := by simpa [c1] using hc
        simp [c1, c2]⟩)
    (fun i _ hi hc => by
      have hlt := bt_lt i hi
      rw [s85_2]
      simp only [s85_0, s85_1, s85_3, s85_5, s85_8, s85_9, s85_10, s85_11, s85_14, s85_15, s85_18, s85_19, s85_20, s85_21, s85_22, s85_25, s85_26, s85_27, s85_28, s85_29, s85_30, s85_31, s85_34, s85_35, nI_lt hlt (show 64 < 2 ^ 31 by decide), if_true, bt_and _ hlt _ h2, bt_or _ h1 _ hlt, tC45, nC45, bt_orlt _ h1 _ hlt, nI_z (Nat.lt_trans (bt_andlt _ hlt _ h2) (show 64 < 2 ^ 31 by decide)), bt_sh1 i (by omega), am_b1]
      have c1 : ¬ 2 ^ i &&& choice = 0 := fun e => by simp [e] at hc
      have c2 : ¬ m 45 (rest ||| 2 ^ i) = 0 := fun e => by simp [e] at hc
      simp [c1, c2]) 0 (by omega) ()
  simp only [s85_0, s85_1, s85_3, s85_5, s85_8, s85_9, s85_10, s85_11, s85_14, s85_15, s85_18, s85_19, s85_20, s85_21, s85_22, s85_25, s85_26, s85_27, s85_28, s85_29, s85_30, s85_31, s85_34, s85_35]
  refine L.trans ?_
  unfold mdC
  cases h : (rg 0 6).all fun i => !(decide (2 ^ i &&& choice ≠ 0) && decide (m 45 (rest ||| 2 ^ i) ≠ 0)) <;> simp
def cxC (β : Nat → Int32) (base other : Nat) : Bool := (rg 0 6).all fun i => !(decide (2 ^ i &&& base &&& (63 ^^^ other) ≠ 0) && !(mdC β (base &&& (63 ^^^ 2 ^ i)) (other &&& (63 ^^^ base))))
theorem x_R_canExchange {d base other : Nat} {m : Mem} {q : MemJ} (h1 : base < 64) (h2 : other < 64) : ev (d + 1) 84 0 [.ref 44, .int (nI base), .int (nI other), .null] [] (mk shC m q) = some (some (.int (if cxC (m 45) base other = true then nI 1 else nI 0)), mk shC m q) := by
  have L := ev_all1 (fun i (_ : Unit) => ev (d + 1) 84 2 [.ref 44, .int (nI base), .int (nI other), .int (nI (2 ^ i))] [] (mk shC m q)) (some (some (.int (nI 1)), mk shC m q)) (some (some (.int (nI 0)), mk shC m q)) (fun i => !(decide (2 ^ i &&& base &&& (63 ^^^ other) ≠ 0) && !(mdC (m 45) (base &&& (63 ^^^ 2 ^ i)) (other &&& (63 ^^^ base))))) 6
    (fun _ => by rw [s84_2]; simp only [s84_0, s84_1, s84_3, s84_5, s84_8, s84_9, s84_10, s84_11, s84_12, s84_13, s84_14, s84_15, s84_18, s84_19, s84_20, s84_21, s84_22, s84_23, s84_24, s84_25, s84_26, s84_27, s84_28, s84_29, s84_32, s84_35, s84_36, s84_37, s84_38, s84_39, s84_40, s84_41, s84_44, s84_45, show ¬ nI (2 ^ 6) < nI 64 by decide, if_false, am_b1])
    (fun i _ hi hc => ⟨(), by
      have hlt := bt_lt i hi
      have l1 := bt_andlt _ hlt _ h1
      have l2 := bt_andlt _ l1 _ (bt_xlt _ h2)
      have l3 := bt_andlt _ h1 _ (bt_xlt _ hlt)
      have l4 := bt_andlt _ h2 _ (bt_xlt _ h1)
      rw [s84_2]
      simp only [s84_0, s84_1, s84_3, s84_5, s84_8, s84_9, s84_10, s84_11, s84_12, s84_13, s84_14, s84_15, s84_18, s84_19, s84_20, s84_21, s84_22, s84_23, s84_24, s84_25, s84_26, s84_27, s84_28, s84_29, s84_32, s84_35, s84_36, s84_37, s84_38, s84_39, s84_40, s84_41, s84_44, s84_45, nI_lt hlt (show 64 < 2 ^ 31 by decide), if_true, bt_and _ hlt _ h1, bt_andn _ l1 _ h2, bt_andn _ h1 _ hlt, bt_andn _ h2 _ h1, nI_z (Nat.lt_trans l2 (show 64 < 2 ^ 31 by decide)), bt_sh1 i (by omega), x_R_isMended l3 l4, Option.bind_some, Option.toList_some, Option.toList_none, List.nil_append, List.cons_append]
      by_cases c1 : 2 ^ i &&& base &&& (63 ^^^ other) = 0
      · simp [c1]
      · have c2 : mdC (m 45) (base &&& (63 ^^^ 2 ^ i)) (other &&& (63 ^^^ base)) = true := by simpa [c1] using hc
        simp [c1, c2, show ¬ nI 1 = 0 by decide]⟩)
    (fun i _ hi hc => by
      have hlt := bt_lt i hi
      have l1 := bt_andlt _ hlt _ h1
      have l2 := bt_andlt _ l1 _ (bt_xlt _ h2)
      have l3 := bt_andlt _ h1 _ (bt_xlt _ hlt)
      have l4 := bt_andlt _ h2 _ (bt_xlt _ h1)
      rw [s84_2]
      simp only [s84_0, s84_1, s84_3, s84_5, s84_8, s84_9, s84_10, s84_11, s84_12, s84_13, s84_14, s84_15, s84_18, s84_19, s84_20, s84_21, s84_22, s84_23, s84_24, s84_25, s84_26, s84_27, s84_28, s84_29, s84_32, s84_35, s84_36, s84_37, s84_38, s84_39, s84_40, s84_41, s84_44, s84_45, nI_lt hlt (show 64 < 2 ^ 31 by decide), if_true, bt_and _ hlt _ h1, bt_andn _ l1 _ h2, bt_andn _ h1 _ hlt, bt_andn _ h2 _ h1, nI_z (Nat.lt_trans l2 (show 64 < 2 ^ 31 by decide)), bt_sh1 i (by omega), x_R_isMended l3 l4, Option.bind_some, Option.toList_some, Option.toList_none, List.nil_append, List.cons_append, am_b0]
      have c1 : ¬ 2 ^ i &&& base &&& (63 ^^^ other) = 0 := fun e => by simp [e] at hc
      have c2 : mdC (m 45) (base &&& (63 ^^^ 2 ^ i)) (other &&& (63 ^^^ base)) = false := by simpa [c1] using hc
      simp [c1, c2, nI_0]) 0 (by omega) ()
  simp only [s84_0, s84_1, s84_3, s84_5, s84_8, s84_9, s84_10, s84_11, s84_12, s84_13, s84_14, s84_15, s84_18, s84_19, s84_20, s84_21, s84_22, s84_23, s84_24, s84_25, s84_26, s84_27, s84_28, s84_29, s84_32, s84_35, s84_36, s84_37, s84_38, s84_39, s84_40, s84_41, s84_44, s84_45]
  refine L.trans ?_
  unfold cxC
  cases h : (rg 0 6).all fun i => !(decide (2 ^ i &&& base &&& (63 ^^^ other) ≠ 0) && !(mdC (m 45) (base &&& (63 ^^^ 2 ^ i)) (other &&& (63 ^^^ base)))) <;> simp
/-- the cells of the rules -/
def gH (m : Mem) (β bs : Nat → Int32) (len : Nat) : Mem := fun i => if i = 44 then upd (m 44) 2 (nI len) else if i = 45 then β else if i = 46 then bs else m i
theorem gH_44 {m : Mem} {β bs : Nat → Int32} {len : Nat} : gH m β bs len 44 2 = nI len := by simp [gH, upd]
theorem gH_45 {m : Mem} {β bs : Nat → Int32} {len : Nat} : gH m β bs len 45 = β := by simp [gH]
theorem gH_46 {m : Mem} {β bs : Nat → Int32} {len : Nat} : gH m β bs len 46 = bs := by simp [gH]
theorem gH_ne {m : Mem} {β bs : Nat → Int32} {len k : Nat} (h1 : k ≠ 44) (h2 : k ≠ 45) (h3 : k ≠ 46) : gH m β bs len k = m k := by simp [gH, h1, h2, h3]
theorem gH_mu44 {m : Mem} {β bs : Nat → Int32} {len l2 : Nat} : mu (gH m β bs len) 44 (upd (gH m β bs len 44) 2 (nI l2)) = gH m β bs l2 := by
  funext i j
  by_cases h : i = 44
  · subst h
    by_cases hj : j = 2 <;> simp [mu, gH, upd, hj]
  · simp [mu, gH, h]
theorem gH_mu45 {m : Mem} {β bs β2 : Nat → Int32} {len : Nat} : mu (gH m β bs len) 45 β2 = gH m β2 bs len := by
  funext i
  by_cases h : i = 45
  · subst h; simp [mu, gH]
  · simp [mu, gH, h]
theorem gH_mu46 {m : Mem} {β bs b2 : Nat → Int32} {len : Nat} : mu (gH m β bs len) 46 b2 = gH m β b2 len := by
  funext i
  by_cases h : i = 46
  · subst h; simp [mu, gH]
  · simp [mu, gH, h]
def msk (a b c : Nat) : Nat := 2 ^ a ||| 2 ^ b ||| 2 ^ c
theorem msk_lt {a b c : Nat} (ha : a < 6) (hb : b < 6) (hc : c < 6) : msk a b c < 64 := bt_orlt _ (bt_orlt _ (bt_lt a ha) _ (bt_lt b hb)) _ (bt_lt c hc)
theorem msk_nI {a b c : Nat} (ha : a < 6) (hb : b < 6) (hc : c < 6) : nI 1 <<< (nI a &&& 31) ||| nI 1 <<< (nI b &&& 31) ||| nI 1 <<< (nI c &&& 31) = nI (msk a b c) := by
  rw [bt_sh a (by omega), bt_sh b (by omega), bt_sh c (by omega), bt_or _ (bt_lt a ha) _ (bt_lt b hb), bt_or _ (bt_orlt _ (bt_lt a ha) _ (bt_lt b hb)) _ (bt_lt c hc)]
  rfl
theorem nar1 : vp_nar .boolean (nI 1) = nI 1 := by decide
theorem nar0 : vp_nar .boolean (nI 0) = nI 0 := by decide
abbrev GX : Type := (Nat → Int32) × (Nat → Int32) × Nat
def gthF (f : Nat → Int32) (x : GX) (a b c : Nat) : GX := if f (i6 a b c) ≠ 0 ∧ x.2.2 < 20 then (upd x.1 (msk a b c) (nI 1), upd x.2.1 x.2.2 (nI (msk a b c)), x.2.2 + 1) else x
def gth0 (β : Nat → Int32) : Nat → Int32 := (rg 0 64).foldl (fun β s => upd β s (nI 0)) β
def gth (n : Nat) (f β bs : Nat → Int32) : GX := (trip n).foldl (fun x t => gthF f x t.1 t.2.1 t.2.2) (gth0 β, bs, 0)
theorem x_R_gather {d k n : Nat} {m : Mem} {q : MemJ} (ho : oC0 k) (hn : m k 0 = nI n) (hn6 : n ≤ 6) : ev (d + 1) 83 0 [.ref 44, .ref k, .null, .null, .null] [] (mk shC m q) = some (none, mk shC (gH m (gth n (m (k + 1)) (m 45) (m 46)).1 (gth n (m (k + 1)) (m 45) (m 46)).2.1 (gth n (m (k + 1)) (m 45) (m 46)).2.2) q) := by
  have hr := oC0_rng ho
  have k0 : ∀ β bs len, gH m β bs len k = m k := fun β bs len => gH_ne (by omega) (by omega) (by omega)
  have k1 : ∀ β bs len, gH m β bs len (k + 1) = m (k + 1) := fun β bs len => gH_ne (by omega) (by omega) (by omega)
  have L := ev_for3 (fun (x : GX) => x.2.2 ≤ 20) (fun a (x : GX) (v : Value × Value) => ev (d + 1) 83 28 [.ref 44, .ref k, .int (nI a), v.1, v.2] [] (mk shC (gH m x.1 x.2.1 x.2.2) q))
    (fun a b x v => ev (d + 1) 83 40 [.ref 44, .ref k, .int (nI a), .int (nI b), v.2] [] (mk shC (gH m x.1 x.2.1 x.2.2) q))
    (fun a b c x v => ev (d + 1) 83 53 [.ref 44, .ref k, .int (nI a), .int (nI b), .int (nI c)] [] (mk shC (gH m x.1 x.2.1 x.2.2) q))
    (fun x => some (none, mk shC (gH m x.1 x.2.1 x.2.2) q)) (fun a b c x => gthF (m (k + 1)) x a b c) n
    (fun x v _ => by rw [s83_28]; simp only [s83_0, s83_1, s83_2, s83_5, s83_6, s83_8, s83_10, s83_13, s83_14, s83_17, s83_18, s83_19, s83_20, s83_23, s83_26, s83_27, s83_29, s83_30, s83_33, s83_36, s83_37, s83_38, s83_39, s83_41, s83_42, s83_45, s83_48, s83_49, s83_50, s83_51, s83_55, s83_56, s83_59, s83_62, s83_63, s83_64, s83_65, s83_67, s83_70, s83_73, s83_74, s83_77, s83_79, s83_82, s83_83, s83_86, s83_87, s83_90, s83_91, s83_92, s83_93, s83_94, s83_95, s83_96, s83_97, s83_98, s83_100, s83_101, s83_102, s83_103, s83_104, s83_107, s83_108, s83_111, s83_112, s83_115, s83_116, s83_117, s83_118, s83_119, s83_120, s83_123, s83_124, s83_125, s83_128, s83_131, s83_134, s83_137, s83_140, s83_143, s83_146, ho, x_A_size ho, k0, hn, Option.bind_some, Option.toList_some, Option.toList_none, List.nil_append, List.cons_append, nI_irr, if_false])
    (fun a x v ha _ => ⟨v, by rw [s83_28]; simp only [s83_0, s83_1, s83_2, s83_5, s83_6, s83_8, s83_10, s83_13, s83_14, s83_17, s83_18, s83_19, s83_20, s83_23, s83_26, s83_27, s83_29, s83_30, s83_33, s83_36, s83_37, s83_38, s83_39, s83_41, s83_42, s83_45, s83_48, s83_49, s83_50, s83_51, s83_55, s83_56, s83_59, s83_62, s83_63, s83_64, s83_65, s83_67, s83_70, s83_73, s83_74, s83_77, s83_79, s83_82, s83_83, s83_86, s83_87, s83_90, s83_91, s83_92, s83_93, s83_94, s83_95, s83_96, s83_97, s83_98, s83_100, s83_101, s83_102, s83_103, s83_104, s83_107, s83_108, s83_111, s83_112, s83_115, s83_116, s83_117, s83_118, s83_119, s83_120, s83_123, s83_124, s83_125, s83_128, s83_131, s83_134, s83_137, s83_140, s83_143, s83_146, ho, x_A_size ho, k0, hn, Option.bind_some, Option.toList_some, Option.toList_none, List.nil_append, List.cons_append, nI_lt ha (show n < 2 ^ 31 by omega), if_true, nI_add]⟩)
    (fun a x v ha _ => ⟨(.int (nI n), v.2), by rw [s83_40]; simp only [s83_0, s83_1, s83_2, s83_5, s83_6, s83_8, s83_10, s83_13, s83_14, s83_17, s83_18, s83_19, s83_20, s83_23, s83_26, s83_27, s83_29, s83_30, s83_33, s83_36, s83_37, s83_38, s83_39, s83_41, s83_42, s83_45, s83_48, s83_49, s83_50, s83_51, s83_55, s83_56, s83_59, s83_62, s83_63, s83_64, s83_65, s83_67, s83_70, s83_73, s83_74, s83_77, s83_79, s83_82, s83_83, s83_86, s83_87, s83_90, s83_91, s83_92, s83_93, s83_94, s83_95, s83_96, s83_97, s83_98, s83_100, s83_101, s83_102, s83_103, s83_104, s83_107, s83_108, s83_111, s83_112, s83_115, s83_116, s83_117, s83_118, s83_119, s83_120, s83_123, s83_124, s83_125, s83_128, s83_131, s83_134, s83_137, s83_140, s83_143, s83_146, ho, x_A_size ho, k0, hn, Option.bind_some, Option.toList_some, Option.toList_none, List.nil_append, List.cons_append, nI_irr, if_false, nI_add]⟩)
    (fun a b x v hab hb _ => ⟨v, by rw [s83_40]; simp only [s83_0, s83_1, s83_2, s83_5, s83_6, s83_8, s83_10, s83_13, s83_14, s83_17, s83_18, s83_19, s83_20, s83_23, s83_26, s83_27, s83_29, s83_30, s83_33, s83_36, s83_37, s83_38, s83_39, s83_41, s83_42, s83_45, s83_48, s83_49, s83_50, s83_51, s83_55, s83_56, s83_59, s83_62, s83_63, s83_64, s83_65, s83_67, s83_70, s83_73, s83_74, s83_77, s83_79, s83_82, s83_83, s83_86, s83_87, s83_90, s83_91, s83_92, s83_93, s83_94, s83_95, s83_96, s83_97, s83_98, s83_100, s83_101, s83_102, s83_103, s83_104, s83_107, s83_108, s83_111, s83_112, s83_115, s83_116, s83_117, s83_118, s83_119, s83_120, s83_123, s83_124, s83_125, s83_128, s83_131, s83_134, s83_137, s83_140, s83_143, s83_146, ho, x_A_size ho, k0, hn, Option.bind_some, Option.toList_some, Option.toList_none, List.nil_append, List.cons_append, nI_lt hb (show n < 2 ^ 31 by omega), if_true, nI_add]⟩)
    (fun a b x v hab hb _ => ⟨(v.1, .int (nI n)), by rw [s83_53]; simp only [s83_0, s83_1, s83_2, s83_5, s83_6, s83_8, s83_10, s83_13, s83_14, s83_17, s83_18, s83_19, s83_20, s83_23, s83_26, s83_27, s83_29, s83_30, s83_33, s83_36, s83_37, s83_38, s83_39, s83_41, s83_42, s83_45, s83_48, s83_49, s83_50, s83_51, s83_55, s83_56, s83_59, s83_62, s83_63, s83_64, s83_65, s83_67, s83_70, s83_73, s83_74, s83_77, s83_79, s83_82, s83_83, s83_86, s83_87, s83_90, s83_91, s83_92, s83_93, s83_94, s83_95, s83_96, s83_97, s83_98, s83_100, s83_101, s83_102, s83_103, s83_104, s83_107, s83_108, s83_111, s83_112, s83_115, s83_116, s83_117, s83_118, s83_119, s83_120, s83_123, s83_124, s83_125, s83_128, s83_131, s83_134, s83_137, s83_140, s83_143, s83_146, ho, x_A_size ho, k0, hn, Option.bind_some, Option.toList_some, Option.toList_none, List.nil_append, List.cons_append, nI_irr, if_false, nI_add]⟩)
    (fun a b c x _ _ _ hx => by
      unfold gthF
      split
      · dsimp only; omega
      · exact hx)
    (fun a b c x v hab hbc hc hx => ⟨v, by
      have ha6 : a < 6 := by omega
      have hb6 : b < 6 := by omega
      have hc6 : c < 6 := by omega
      have hi : (a * 6 + b) * 6 + c < 216 := by omega
      rw [s83_53]
      simp only [s83_0, s83_1, s83_2, s83_5, s83_6, s83_8, s83_10, s83_13, s83_14, s83_17, s83_18, s83_19, s83_20, s83_23, s83_26, s83_27, s83_29, s83_30, s83_33, s83_36, s83_37, s83_38, s83_39, s83_41, s83_42, s83_45, s83_48, s83_49, s83_50, s83_51, s83_55, s83_56, s83_59, s83_62, s83_63, s83_64, s83_65, s83_67, s83_70, s83_73, s83_74, s83_77, s83_79, s83_82, s83_83, s83_86, s83_87, s83_90, s83_91, s83_92, s83_93, s83_94, s83_95, s83_96, s83_97, s83_98, s83_100, s83_101, s83_102, s83_103, s83_104, s83_107, s83_108, s83_111, s83_112, s83_115, s83_116, s83_117, s83_118, s83_119, s83_120, s83_123, s83_124, s83_125, s83_128, s83_131, s83_134, s83_137, s83_140, s83_143, s83_146, ho, x_A_size ho, k0, hn, Option.bind_some, Option.toList_some, Option.toList_none, List.nil_append, List.cons_append, nI_lt hc (show n < 2 ^ 31 by omega), if_true, nI_add, x_A_signOf ho hi, k1, gH_44, nI_ltI (show x.2.2 < 2 ^ 31 by omega) (show 20 < 2 ^ 31 by decide), msk_nI ha6 hb6 hc6]
      unfold gthF
      by_cases c1 : m (k + 1) ((a * 6 + b) * 6 + c) = 0
      · simp [c1, i6]
      · by_cases c2 : x.2.2 < 20
        · simp only [c1, c2, if_false, if_true, i6, ne_eq, not_false_eq_true, and_self, s83_0, s83_1, s83_2, s83_5, s83_6, s83_8, s83_10, s83_13, s83_14, s83_17, s83_18, s83_19, s83_20, s83_23, s83_26, s83_27, s83_29, s83_30, s83_33, s83_36, s83_37, s83_38, s83_39, s83_41, s83_42, s83_45, s83_48, s83_49, s83_50, s83_51, s83_55, s83_56, s83_59, s83_62, s83_63, s83_64, s83_65, s83_67, s83_70, s83_73, s83_74, s83_77, s83_79, s83_82, s83_83, s83_86, s83_87, s83_90, s83_91, s83_92, s83_93, s83_94, s83_95, s83_96, s83_97, s83_98, s83_100, s83_101, s83_102, s83_103, s83_104, s83_107, s83_108, s83_111, s83_112, s83_115, s83_116, s83_117, s83_118, s83_119, s83_120, s83_123, s83_124, s83_125, s83_128, s83_131, s83_134, s83_137, s83_140, s83_143, s83_146, tC46, nC46, tC45, nC45, gH_44, gH_46, gH_45, gH_mu46, gH_mu45, gH_mu44, upd, msk_lt ha6 hb6 hc6, nar1, nI_add]
        · simp [c1, c2, i6]⟩) (gth0 (m 45), m 46, 0) (.null, .null) (Nat.zero_le _)
  have e0 : mu m 44 (upd (m 44) 2 (nI 0)) = gH m (m 45) (m 46) 0 := by
    funext i
    by_cases h : i = 44
    · subst h; simp [mu, gH]
    · by_cases h2 : i = 45
      · subst h2; simp [mu, gH]
      · by_cases h3 : i = 46
        · subst h3; simp [mu, gH]
        · simp [mu, gH, h, h2, h3]
  have L0 := ev_for1 (fun _ => True) (fun s (β : Nat → Int32) (_ : Unit) => ev (d + 1) 83 7 [.ref 44, .ref k, .int (nI s), .null, .null] [] (mk shC (gH m β (m 46) 0) q)) (fun β => ev (d + 1) 83 28 [.ref 44, .ref k, .int (nI 0), .null, .null] [] (mk shC (gH m β (m 46) 0) q)) (fun s β => upd β s (nI 0)) 64
    (fun β v _ => by rw [s83_7]; simp only [s83_0, s83_1, s83_2, s83_5, s83_6, s83_8, s83_10, s83_13, s83_14, s83_17, s83_18, s83_19, s83_20, s83_23, s83_26, s83_27, s83_29, s83_30, s83_33, s83_36, s83_37, s83_38, s83_39, s83_41, s83_42, s83_45, s83_48, s83_49, s83_50, s83_51, s83_55, s83_56, s83_59, s83_62, s83_63, s83_64, s83_65, s83_67, s83_70, s83_73, s83_74, s83_77, s83_79, s83_82, s83_83, s83_86, s83_87, s83_90, s83_91, s83_92, s83_93, s83_94, s83_95, s83_96, s83_97, s83_98, s83_100, s83_101, s83_102, s83_103, s83_104, s83_107, s83_108, s83_111, s83_112, s83_115, s83_116, s83_117, s83_118, s83_119, s83_120, s83_123, s83_124, s83_125, s83_128, s83_131, s83_134, s83_137, s83_140, s83_143, s83_146, show ¬ nI 64 < nI 64 from nI_irr 64, if_false])
    (fun _ _ _ _ => trivial)
    (fun s β v hs _ => ⟨(), by rw [s83_7]; simp only [s83_0, s83_1, s83_2, s83_5, s83_6, s83_8, s83_10, s83_13, s83_14, s83_17, s83_18, s83_19, s83_20, s83_23, s83_26, s83_27, s83_29, s83_30, s83_33, s83_36, s83_37, s83_38, s83_39, s83_41, s83_42, s83_45, s83_48, s83_49, s83_50, s83_51, s83_55, s83_56, s83_59, s83_62, s83_63, s83_64, s83_65, s83_67, s83_70, s83_73, s83_74, s83_77, s83_79, s83_82, s83_83, s83_86, s83_87, s83_90, s83_91, s83_92, s83_93, s83_94, s83_95, s83_96, s83_97, s83_98, s83_100, s83_101, s83_102, s83_103, s83_104, s83_107, s83_108, s83_111, s83_112, s83_115, s83_116, s83_117, s83_118, s83_119, s83_120, s83_123, s83_124, s83_125, s83_128, s83_131, s83_134, s83_137, s83_140, s83_143, s83_146, nI_lt hs (show 64 < 2 ^ 31 by decide), if_true, tC45, nC45, hs, gH_45, gH_mu45, nar0, nI_add]⟩) 0 (by omega) (m 45) () trivial
  simp only [s83_0, s83_1, s83_2, s83_5, s83_6, s83_8, s83_10, s83_13, s83_14, s83_17, s83_18, s83_19, s83_20, s83_23, s83_26, s83_27, s83_29, s83_30, s83_33, s83_36, s83_37, s83_38, s83_39, s83_41, s83_42, s83_45, s83_48, s83_49, s83_50, s83_51, s83_55, s83_56, s83_59, s83_62, s83_63, s83_64, s83_65, s83_67, s83_70, s83_73, s83_74, s83_77, s83_79, s83_82, s83_83, s83_86, s83_87, s83_90, s83_91, s83_92, s83_93, s83_94, s83_95, s83_96, s83_97, s83_98, s83_100, s83_101, s83_102, s83_103, s83_104, s83_107, s83_108, s83_111, s83_112, s83_115, s83_116, s83_117, s83_118, s83_119, s83_120, s83_123, s83_124, s83_125, s83_128, s83_131, s83_134, s83_137, s83_140, s83_143, s83_146, e0]
  exact L0.trans L
