/-! exchange, loops, parallels -/
def bN (bs : Nat → Int32) (i : Nat) : Nat := (bs i).toNatClampNeg
def GOK (x : GX) : Prop := x.2.2 ≤ 20 ∧ ∀ i, i < x.2.2 → x.2.1 i = nI (bN x.2.1 i) ∧ bN x.2.1 i < 64
theorem gth_ok {n : Nat} (hn6 : n ≤ 6) (f β bs : Nat → Int32) : GOK (gth n f β bs) := by
  refine fold_inv (P := GOK) (fun t ht x hx => ?_) ⟨Nat.zero_le _, fun i hi => absurd hi (Nat.not_lt_zero _)⟩
  obtain ⟨h1, h2, h3⟩ := trip_mem.mp ht
  unfold gthF
  split
  · next hc =>
    refine ⟨by dsimp only; omega, fun i hi => ?_⟩
    dsimp only at hi ⊢
    have hm := msk_lt (show t.1 < 6 by omega) (show t.2.1 < 6 by omega) (show t.2.2 < 6 by omega)
    by_cases he : i = x.2.2
    · subst he
      simp only [bN, upd, if_true, nI_c (show msk t.1 t.2.1 t.2.2 < 1000 by omega)]
      exact ⟨trivial, hm⟩
    · simp only [bN, upd, if_neg he]
      exact hx.2 i (by omega)
  · exact hx
def hxC (x : GX) : Bool := (rg 0 x.2.2).all fun i => (rg 0 x.2.2).all fun j => cxC x.1 (bN x.2.1 i) (bN x.2.1 j)
theorem x_R_haveExchange {d k n : Nat} {m : Mem} {q : MemJ} (ho : oC0 k) (hn : m k 0 = nI n) (hn6 : n ≤ 6) {x : GX} (hx : gth n (m (k + 1)) (m 45) (m 46) = x) : ev (d + 2) 82 0 [.ref 44, .ref k, .null, .null] [] (mk shC m q) = some (some (.int (if (hxC x && decide (0 < x.2.2)) = true then nI 1 else nI 0)), mk shC (gH m x.1 x.2.1 x.2.2) q) := by
  have hk := gth_ok hn6 (m (k + 1)) (m 45) (m 46)
  rw [hx] at hk
  obtain ⟨h20, hb⟩ := hk
  have L2 := fun i (hi : i < x.2.2) => ev_all1 (fun j (_ : Unit) => ev (d + 2) 82 17 [.ref 44, .ref k, .int (nI i), .int (nI j)] [] (mk shC (gH m x.1 x.2.1 x.2.2) q)) (ev (d + 2) 82 7 [.ref 44, .ref k, .int (nI (i + 1)), .int (nI x.2.2)] [] (mk shC (gH m x.1 x.2.1 x.2.2) q)) (some (some (.int (nI 0)), mk shC (gH m x.1 x.2.1 x.2.2) q)) (fun j => cxC x.1 (bN x.2.1 i) (bN x.2.1 j)) x.2.2
    (fun _ => by rw [s82_17]; simp only [s82_0, s82_1, s82_2, s82_5, s82_6, s82_8, s82_9, s82_12, s82_15, s82_16, s82_18, s82_19, s82_22, s82_25, s82_26, s82_27, s82_30, s82_31, s82_32, s82_33, s82_36, s82_37, s82_38, s82_41, s82_44, s82_45, s82_46, s82_49, s82_52, s82_55, s82_58, s82_59, s82_62, s82_65, s82_66, s82_69, s82_70, gH_44, nI_irr, if_false, nI_add])
    (fun j _ hj hg => ⟨(), by
      rw [s82_17]
      simp only [s82_0, s82_1, s82_2, s82_5, s82_6, s82_8, s82_9, s82_12, s82_15, s82_16, s82_18, s82_19, s82_22, s82_25, s82_26, s82_27, s82_30, s82_31, s82_32, s82_33, s82_36, s82_37, s82_38, s82_41, s82_44, s82_45, s82_46, s82_49, s82_52, s82_55, s82_58, s82_59, s82_62, s82_65, s82_66, s82_69, s82_70, gH_44, nI_lt hj (show x.2.2 < 2 ^ 31 by omega), if_true, tC46, nC46, show i < 20 by omega, show j < 20 by omega, gH_46, (hb i hi).1, (hb j hj).1, x_R_canExchange (hb i hi).2 (hb j hj).2, gH_45, hg, Option.bind_some, Option.toList_some, Option.toList_none, List.nil_append, List.cons_append, nI_add, show ¬ nI 1 = 0 by decide, if_false]⟩)
    (fun j _ hj hg => by
      rw [s82_17]
      simp only [s82_0, s82_1, s82_2, s82_5, s82_6, s82_8, s82_9, s82_12, s82_15, s82_16, s82_18, s82_19, s82_22, s82_25, s82_26, s82_27, s82_30, s82_31, s82_32, s82_33, s82_36, s82_37, s82_38, s82_41, s82_44, s82_45, s82_46, s82_49, s82_52, s82_55, s82_58, s82_59, s82_62, s82_65, s82_66, s82_69, s82_70, gH_44, nI_lt hj (show x.2.2 < 2 ^ 31 by omega), if_true, tC46, nC46, show i < 20 by omega, show j < 20 by omega, gH_46, (hb i hi).1, (hb j hj).1, x_R_canExchange (hb i hi).2 (hb j hj).2, gH_45, hg, Option.bind_some, Option.toList_some, Option.toList_none, List.nil_append, List.cons_append, Bool.false_eq_true, if_false, show nI 0 = 0 from rfl, show am_bool 0 = true by decide]) 0 (Nat.zero_le _) ()
  have L := ev_all1 (fun i (v : Value) => ev (d + 2) 82 7 [.ref 44, .ref k, .int (nI i), v] [] (mk shC (gH m x.1 x.2.1 x.2.2) q)) (some (some (.int (if 0 < x.2.2 then nI 1 else nI 0)), mk shC (gH m x.1 x.2.1 x.2.2) q)) (some (some (.int (nI 0)), mk shC (gH m x.1 x.2.1 x.2.2) q)) (fun i => (rg 0 x.2.2).all fun j => cxC x.1 (bN x.2.1 i) (bN x.2.1 j)) x.2.2
    (fun v => by
      rw [s82_7]
      have e1 : (0 < nI x.2.2) = (0 < x.2.2) := by
        have := nI_ltI (show 0 < 2 ^ 31 by decide) (show x.2.2 < 2 ^ 31 by omega)
        rw [nI_0] at this
        exact propext this
      simp only [s82_0, s82_1, s82_2, s82_5, s82_6, s82_8, s82_9, s82_12, s82_15, s82_16, s82_18, s82_19, s82_22, s82_25, s82_26, s82_27, s82_30, s82_31, s82_32, s82_33, s82_36, s82_37, s82_38, s82_41, s82_44, s82_45, s82_46, s82_49, s82_52, s82_55, s82_58, s82_59, s82_62, s82_65, s82_66, s82_69, s82_70, gH_44, nI_irr, if_false, e1, am_b1, am_b0]
      by_cases h0 : 0 < x.2.2 <;> simp only [h0, if_true, if_false])
    (fun i v hi hc => ⟨.int (nI x.2.2), by
      rw [s82_7]
      simp only [s82_0, s82_1, s82_2, s82_5, s82_6, s82_8, s82_9, s82_12, s82_15, s82_16, s82_18, s82_19, s82_22, s82_25, s82_26, s82_27, s82_30, s82_31, s82_32, s82_33, s82_36, s82_37, s82_38, s82_41, s82_44, s82_45, s82_46, s82_49, s82_52, s82_55, s82_58, s82_59, s82_62, s82_65, s82_66, s82_69, s82_70, gH_44, nI_lt hi (show x.2.2 < 2 ^ 31 by omega), if_true]
      rw [L2 i hi, if_pos hc]⟩)
    (fun i v hi hc => by
      rw [s82_7]
      simp only [s82_0, s82_1, s82_2, s82_5, s82_6, s82_8, s82_9, s82_12, s82_15, s82_16, s82_18, s82_19, s82_22, s82_25, s82_26, s82_27, s82_30, s82_31, s82_32, s82_33, s82_36, s82_37, s82_38, s82_41, s82_44, s82_45, s82_46, s82_49, s82_52, s82_55, s82_58, s82_59, s82_62, s82_65, s82_66, s82_69, s82_70, gH_44, nI_lt hi (show x.2.2 < 2 ^ 31 by omega), if_true]
      rw [L2 i hi, if_neg (by rw [hc]; decide)]) 0 (Nat.zero_le _) .null
  simp only [s82_0, s82_1, s82_2, s82_5, s82_6, s82_8, s82_9, s82_12, s82_15, s82_16, s82_18, s82_19, s82_22, s82_25, s82_26, s82_27, s82_30, s82_31, s82_32, s82_33, s82_36, s82_37, s82_38, s82_41, s82_44, s82_45, s82_46, s82_49, s82_52, s82_55, s82_58, s82_59, s82_62, s82_65, s82_66, s82_69, s82_70, x_R_gather ho hn hn6, hx, Option.bind_some, Option.toList_some, Option.toList_none, List.nil_append, List.cons_append]
  rw [L]
  unfold hxC
  cases h : (rg 0 x.2.2).all fun i => (rg 0 x.2.2).all fun j => cxC x.1 (bN x.2.1 i) (bN x.2.1 j)
  · simp
  · simp
theorem x_R_areOrderly {d k n : Nat} {m : Mem} {q : MemJ} (ho : oC0 k) (hn : m k 0 = nI n) (hn6 : n ≤ 6) {x : GX} (hx : gth n (m (k + 1)) (m 45) (m 46) = x) : ev (d + 7) 87 0 [.ref 44, .ref k] [] (mk shC m q) = some (some (.int (if bdF n (m (k + 1)) 0 n = 0 ∧ (hxC x && decide (0 < x.2.2)) = true then nI 1 else nI 0)), mk shC (if bdF n (m (k + 1)) 0 n = 0 then gH m x.1 x.2.1 x.2.2 else m) q) := by
  simp only [s87_0, s87_1, s87_2, s87_3, s87_6, s87_9, s87_12, s87_13, s87_14, s87_17, s87_20, s87_21, s87_24, s87_25, ho, x_A_size ho, hn, x_R_badFives ho hn hn6 (Nat.zero_le n) (Nat.le_refl n), x_R_haveExchange ho hn hn6 hx, Option.bind_some, Option.toList_some, Option.toList_none, List.nil_append, List.cons_append, am_b0, am_b1]
  by_cases h1 : bdF n (m (k + 1)) 0 n = 0
  · by_cases h2 : (hxC x && decide (0 < x.2.2)) = true
    · simp only [h1, h2, if_true, and_self, show ¬ nI 1 = 0 by decide, if_false]
    · simp only [h1, h2, if_true, and_false, nI_0, if_false, Bool.false_eq_true]
  · simp only [h1, if_false, false_and]
