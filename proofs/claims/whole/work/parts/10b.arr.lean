/-! the arrangement's cells: reads and writes -/
theorem x_A_signOf {d k a b c : Nat} {m : Mem} {q : MemJ} (ho : oC0 k) (h : (a * 6 + b) * 6 + c < 216) : ev d 40 0 [.ref k, .int (nI a), .int (nI b), .int (nI c)] [] (mk shC m q) = some (some (.int (m (k + 1) ((a * 6 + b) * 6 + c))), mk shC m q) := by
  simp only [s40_0, s40_1, s40_4, s40_5, s40_7, s40_8, s40_9, s40_10, s40_12, s40_13, s40_14, s40_15, s40_16, nI_add, pk_mul, ho, oC0_t1 ho, oC0_n1 ho, h]
theorem x_A_numberOf {d k e i : Nat} {m : Mem} {q : MemJ} (ho : oC0 k) (h : e * 3 + i < 18) : ev d 39 0 [.ref k, .int (nI e), .int (nI i)] [] (mk shC m q) = some (some (.int (m (k + 2) (e * 3 + i))), mk shC m q) := by
  simp only [s39_0, s39_1, s39_4, s39_5, s39_6, s39_7, s39_8, s39_9, s39_10, nI_add, pk_mul, ho, oC0_t2 ho, oC0_n2 ho, h]
theorem x_A_size {d k : Nat} {m : Mem} {q : MemJ} (ho : oC0 k) : ev d 35 0 [.ref k] [] (mk shC m q) = some (some (.int (m k 0)), mk shC m q) := by
  simp only [s35_0, s35_1, s35_4, ho]
theorem x_A_giveInOrder {d k a b c : Nat} {v : Int32} {m : Mem} {q : MemJ} (ho : oC0 k) (h : (a * 6 + b) * 6 + c < 216) : ev d 5 0 [.ref k, .int (nI a), .int (nI b), .int (nI c), .int v] [] (mk shC m q) = some (none, mk shC (mu m (k + 1) (upd (m (k + 1)) ((a * 6 + b) * 6 + c) v)) q) := by
  simp only [s5_0, s5_1, s5_4, s5_5, s5_7, s5_8, s5_9, s5_10, s5_12, s5_13, s5_14, s5_15, s5_17, s5_18, nI_add, pk_mul, ho, oC0_t1 ho, oC0_n1 ho, h]
/-- the row of signs behind giveSign -/
def sg6 (f : Nat → Int32) (a b c : Nat) (v : Int32) : Nat → Int32 :=
  upd (upd (upd (upd (upd (upd f ((a * 6 + b) * 6 + c) v) ((b * 6 + c) * 6 + a) v) ((c * 6 + a) * 6 + b) v) ((a * 6 + c) * 6 + b) (-v)) ((c * 6 + b) * 6 + a) (-v)) ((b * 6 + a) * 6 + c) (-v)
theorem x_A_giveSign {d k a b c : Nat} {v : Int32} {m : Mem} {q : MemJ} (ho : oC0 k) (ha : a < 6) (hb : b < 6) (hc : c < 6) : ev (d + 1) 4 0 [.ref k, .int (nI a), .int (nI b), .int (nI c), .int v] [] (mk shC m q) = some (none, mk shC (mu m (k + 1) (sg6 (m (k + 1)) a b c v)) q) := by
  have h1 : (a * 6 + b) * 6 + c < 216 := by omega
  have h2 : (b * 6 + c) * 6 + a < 216 := by omega
  have h3 : (c * 6 + a) * 6 + b < 216 := by omega
  have h4 : (a * 6 + c) * 6 + b < 216 := by omega
  have h5 : (c * 6 + b) * 6 + a < 216 := by omega
  have h6 : (b * 6 + a) * 6 + c < 216 := by omega
  simp only [s4_0, s4_1, s4_2, s4_3, s4_4, s4_6, s4_9, s4_10, s4_11, s4_12, s4_13, s4_15, s4_18, s4_19, s4_20, s4_21, s4_22, s4_24, s4_27, s4_28, s4_29, s4_30, s4_31, s4_33, s4_34, s4_37, s4_38, s4_39, s4_40, s4_41, s4_43, s4_44, s4_47, s4_48, s4_49, s4_50, s4_51, s4_53, s4_54, s4_57, ho, x_A_giveInOrder ho h1, x_A_giveInOrder ho h2, x_A_giveInOrder ho h3, x_A_giveInOrder ho h4, x_A_giveInOrder ho h5, x_A_giveInOrder ho h6, Option.bind_some, Option.toList_some, Option.toList_none, List.nil_append, List.cons_append, mu_mu, mu_same, sg6]
/-- the row of points behind givePoint -/
def pt3 (f : Nat → Int32) (e : Nat) (x y z : Int32) : Nat → Int32 := upd (upd (upd f (e * 3) x) (e * 3 + 1) y) (e * 3 + 2) z
theorem x_A_givePoint {d k e : Nat} {x y z : Int32} {m : Mem} {q : MemJ} (ho : oC0 k) (h : e < 6) : ev d 3 0 [.ref k, .int (nI e), .int x, .int y, .int z] [] (mk shC m q) = some (none, mk shC (mu m (k + 2) (pt3 (m (k + 2)) e x y z)) q) := by
  have h0 : e * 3 < 18 := by omega
  have h1 : e * 3 + 1 < 18 := by omega
  have h2 : e * 3 + 2 < 18 := by omega
  simp only [s3_0, s3_1, s3_4, s3_5, s3_6, s3_7, s3_8, s3_9, s3_10, s3_13, s3_14, s3_15, s3_16, s3_17, s3_18, s3_19, s3_20, s3_21, s3_24, s3_25, s3_26, s3_27, s3_28, s3_29, s3_31, s3_32, nI_add, pk_mul, ho, oC0_t2 ho, oC0_n2 ho, h0, h1, h2, mu_mu, mu_same, pt3]
theorem x_A_bases {d k n : Nat} {m : Mem} {q : MemJ} (ho : oC0 k) (hn : m k 0 = nI n) (hn6 : n ≤ 6) : ev (d + 1) 90 0 [.ref k, .null, .null, .null, .null] [] (mk shC m q) = some (some (.int ((trip n).foldl (fun x t => x + if m (k + 1) ((t.1 * 6 + t.2.1) * 6 + t.2.2) = 0 then 0 else 1) 0)), mk shC m q) := by
  have L := ev_for3 (fun _ => True) (fun a x (v : Value × Value) => ev (d + 1) 90 4 [.ref k, .int x, .int (nI a), v.1, v.2] [] (mk shC m q))
    (fun a b x v => ev (d + 1) 90 16 [.ref k, .int x, .int (nI a), .int (nI b), v.2] [] (mk shC m q))
    (fun a b c x v => ev (d + 1) 90 29 [.ref k, .int x, .int (nI a), .int (nI b), .int (nI c)] [] (mk shC m q))
    (fun x => some (some (.int x), mk shC m q)) (fun a b c x => x + if m (k + 1) ((a * 6 + b) * 6 + c) = 0 then 0 else 1) n
    (fun x v _ => by rw [s90_4]; simp only [s90_0, s90_1, s90_2, s90_3, s90_5, s90_6, s90_9, s90_12, s90_13, s90_14, s90_15, s90_17, s90_18, s90_21, s90_24, s90_25, s90_26, s90_27, s90_31, s90_32, s90_35, s90_38, s90_39, s90_40, s90_41, s90_42, s90_44, s90_47, s90_50, s90_51, s90_54, s90_55, s90_56, s90_57, s90_60, s90_63, s90_66, s90_69, s90_72, s90_75, s90_76, ho, hn, nI_irr, if_false])
    (fun a x v ha _ => ⟨v, by rw [s90_4]; simp only [s90_0, s90_1, s90_2, s90_3, s90_5, s90_6, s90_9, s90_12, s90_13, s90_14, s90_15, s90_17, s90_18, s90_21, s90_24, s90_25, s90_26, s90_27, s90_31, s90_32, s90_35, s90_38, s90_39, s90_40, s90_41, s90_42, s90_44, s90_47, s90_50, s90_51, s90_54, s90_55, s90_56, s90_57, s90_60, s90_63, s90_66, s90_69, s90_72, s90_75, s90_76, ho, hn, nI_lt ha (show n < 2 ^ 31 by omega), if_true, nI_add]⟩)
    (fun a x v ha _ => ⟨(.int (nI n), v.2), by rw [s90_16]; simp only [s90_0, s90_1, s90_2, s90_3, s90_5, s90_6, s90_9, s90_12, s90_13, s90_14, s90_15, s90_17, s90_18, s90_21, s90_24, s90_25, s90_26, s90_27, s90_31, s90_32, s90_35, s90_38, s90_39, s90_40, s90_41, s90_42, s90_44, s90_47, s90_50, s90_51, s90_54, s90_55, s90_56, s90_57, s90_60, s90_63, s90_66, s90_69, s90_72, s90_75, s90_76, ho, hn, nI_irr, if_false, nI_add]⟩)
    (fun a b x v hab hb _ => ⟨v, by rw [s90_16]; simp only [s90_0, s90_1, s90_2, s90_3, s90_5, s90_6, s90_9, s90_12, s90_13, s90_14, s90_15, s90_17, s90_18, s90_21, s90_24, s90_25, s90_26, s90_27, s90_31, s90_32, s90_35, s90_38, s90_39, s90_40, s90_41, s90_42, s90_44, s90_47, s90_50, s90_51, s90_54, s90_55, s90_56, s90_57, s90_60, s90_63, s90_66, s90_69, s90_72, s90_75, s90_76, ho, hn, nI_lt hb (show n < 2 ^ 31 by omega), if_true, nI_add]⟩)
    (fun a b x v hab hb _ => ⟨(v.1, .int (nI n)), by rw [s90_29]; simp only [s90_0, s90_1, s90_2, s90_3, s90_5, s90_6, s90_9, s90_12, s90_13, s90_14, s90_15, s90_17, s90_18, s90_21, s90_24, s90_25, s90_26, s90_27, s90_31, s90_32, s90_35, s90_38, s90_39, s90_40, s90_41, s90_42, s90_44, s90_47, s90_50, s90_51, s90_54, s90_55, s90_56, s90_57, s90_60, s90_63, s90_66, s90_69, s90_72, s90_75, s90_76, ho, hn, nI_irr, if_false, nI_add]⟩)
    (fun _ _ _ _ _ _ _ _ => trivial)
    (fun a b c x v hab hbc hc _ => ⟨v, by
      have hi : (a * 6 + b) * 6 + c < 216 := by omega
      rw [s90_29]
      simp only [s90_0, s90_1, s90_2, s90_3, s90_5, s90_6, s90_9, s90_12, s90_13, s90_14, s90_15, s90_17, s90_18, s90_21, s90_24, s90_25, s90_26, s90_27, s90_31, s90_32, s90_35, s90_38, s90_39, s90_40, s90_41, s90_42, s90_44, s90_47, s90_50, s90_51, s90_54, s90_55, s90_56, s90_57, s90_60, s90_63, s90_66, s90_69, s90_72, s90_75, s90_76, ho, hn, nI_lt hc (show n < 2 ^ 31 by omega), if_true, nI_add, x_A_signOf ho hi, Option.bind_some, Option.toList_some, Option.toList_none, List.nil_append, List.cons_append]
      split <;> simp only [nI_add, nI_0, nI_one, if_true, if_false, *]⟩) 0 (.null, .null) trivial
  simp only [s90_0, s90_1, s90_2, s90_3, s90_5, s90_6, s90_9, s90_12, s90_13, s90_14, s90_15, s90_17, s90_18, s90_21, s90_24, s90_25, s90_26, s90_27, s90_31, s90_32, s90_35, s90_38, s90_39, s90_40, s90_41, s90_42, s90_44, s90_47, s90_50, s90_51, s90_54, s90_55, s90_56, s90_57, s90_60, s90_63, s90_66, s90_69, s90_72, s90_75, s90_76]
  exact L
