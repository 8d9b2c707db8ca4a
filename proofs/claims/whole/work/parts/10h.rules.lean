/-! loops and parallels -/
theorem bt_pw : ∀ n, n ≤ 6 → nI 1 <<< (nI n &&& 31) - nI 1 = nI (2 ^ n - 1) ∧ 2 ^ n - 1 < 64 := by decide +kernel
def covC (x : GX) : Nat := (rg 0 x.2.2).foldl (fun c i => c ||| bN x.2.1 i) 0
def lopC (n : Nat) (x : GX) : Nat := (2 ^ n - 1) &&& (63 ^^^ covC x)
theorem covC_lt {x : GX} (hx : GOK x) : covC x < 64 := fold_inv (P := fun c => c < 64) (fun i hi c hc => bt_orlt _ hc _ (hx.2 i (rg_mem.mp hi).2).2) (by decide)
theorem lopC_lt {n : Nat} {x : GX} (hn6 : n ≤ 6) (hx : GOK x) : lopC n x < 64 := bt_andlt _ (bt_pw n hn6).2 _ (bt_xlt _ (covC_lt hx))
theorem x_R_loops {d k n : Nat} {m : Mem} {q : MemJ} (ho : oC0 k) (hn : m k 0 = nI n) (hn6 : n ≤ 6) {x : GX} (hx : gth n (m (k + 1)) (m 45) (m 46) = x) : ev (d + 2) 158 0 [.ref 44, .ref k, .null, .null] [] (mk shC m q) = some (some (.int (nI (lopC n x))), mk shC (gH m x.1 x.2.1 x.2.2) q) := by
  have hk := gth_ok hn6 (m (k + 1)) (m 45) (m 46)
  rw [hx] at hk
  have hr := oC0_rng ho
  have k0 : ∀ β bs len, gH m β bs len k = m k := fun β bs len => gH_ne (by omega) (by omega) (by omega)
  have hcov := covC_lt hk
  have hlop := lopC_lt hn6 hk
  obtain ⟨h20, hb⟩ := id hk
  have L := ev_for1 (fun c => c < 64) (fun i (c : Nat) (_ : Unit) => ev (d + 2) 158 9 [.ref 44, .ref k, .int (nI c), .int (nI i)] [] (mk shC (gH m x.1 x.2.1 x.2.2) q)) (fun c => some (some (.int (nI ((2 ^ n - 1) &&& (63 ^^^ c)))), mk shC (gH m x.1 x.2.1 x.2.2) q)) (fun i c => c ||| bN x.2.1 i) x.2.2
    (fun c _ hc => by
      rw [s158_9]
      simp only [s158_0, s158_1, s158_2, s158_5, s158_6, s158_7, s158_8, s158_10, s158_11, s158_14, s158_17, s158_18, s158_19, s158_22, s158_23, s158_24, s158_25, s158_26, s158_29, s158_32, s158_33, s158_34, s158_37, s158_38, s158_39, s158_40, s158_41, s158_42, s158_43, s158_44, gH_44, nI_irr, if_false, ho, x_A_size ho, k0, hn, Option.bind_some, Option.toList_some, Option.toList_none, List.nil_append, List.cons_append, (bt_pw n hn6).1, bt_andn _ (bt_pw n hn6).2 _ hc])
    (fun i c hi hc => bt_orlt _ hc _ (hb i hi).2)
    (fun i c _ hi hc => ⟨(), by
      rw [s158_9]
      simp only [s158_0, s158_1, s158_2, s158_5, s158_6, s158_7, s158_8, s158_10, s158_11, s158_14, s158_17, s158_18, s158_19, s158_22, s158_23, s158_24, s158_25, s158_26, s158_29, s158_32, s158_33, s158_34, s158_37, s158_38, s158_39, s158_40, s158_41, s158_42, s158_43, s158_44, gH_44, nI_lt hi (show x.2.2 < 2 ^ 31 by omega), if_true, tC46, nC46, show i < 20 by omega, gH_46, (hb i hi).1, bt_or _ hc _ (hb i hi).2, nI_add]⟩) 0 (Nat.zero_le _) 0 () (by decide)
  simp only [s158_0, s158_1, s158_2, s158_5, s158_6, s158_7, s158_8, s158_10, s158_11, s158_14, s158_17, s158_18, s158_19, s158_22, s158_23, s158_24, s158_25, s158_26, s158_29, s158_32, s158_33, s158_34, s158_37, s158_38, s158_39, s158_40, s158_41, s158_42, s158_43, s158_44, x_R_gather ho hn hn6, hx, Option.bind_some, Option.toList_some, Option.toList_none, List.nil_append, List.cons_append]
  exact L
def inbC (x : GX) (s : Nat) : Bool := !((rg 0 x.2.2).all fun i => !(decide (bN x.2.1 i &&& s = s)))
theorem x_R_isInBase {d s : Nat} {m : Mem} {q : MemJ} {x : GX} (hx : GOK x) (hs : s < 64) : ev d 161 0 [.ref 44, .int (nI s), .null] [] (mk shC (gH m x.1 x.2.1 x.2.2) q) = some (some (.int (if inbC x s = true then nI 1 else nI 0)), mk shC (gH m x.1 x.2.1 x.2.2) q) := by
  obtain ⟨h20, hb⟩ := hx
  have L := ev_all1 (fun i (_ : Unit) => ev d 161 2 [.ref 44, .int (nI s), .int (nI i)] [] (mk shC (gH m x.1 x.2.1 x.2.2) q)) (some (some (.int (nI 0)), mk shC (gH m x.1 x.2.1 x.2.2) q)) (some (some (.int (nI 1)), mk shC (gH m x.1 x.2.1 x.2.2) q)) (fun i => !(decide (bN x.2.1 i &&& s = s))) x.2.2
    (fun _ => by rw [s161_2]; simp only [s161_0, s161_1, s161_3, s161_4, s161_7, s161_10, s161_11, s161_14, s161_15, s161_16, s161_17, s161_18, s161_19, s161_22, s161_23, s161_24, s161_27, s161_30, s161_31, gH_44, nI_irr, if_false, am_b0])
    (fun i _ hi hc => ⟨(), by
      have hl := bt_andlt _ (hb i hi).2 _ hs
      have hc : ¬ bN x.2.1 i &&& s = s := by simpa using hc
      rw [s161_2]
      simp only [s161_0, s161_1, s161_3, s161_4, s161_7, s161_10, s161_11, s161_14, s161_15, s161_16, s161_17, s161_18, s161_19, s161_22, s161_23, s161_24, s161_27, s161_30, s161_31, gH_44, nI_lt hi (show x.2.2 < 2 ^ 31 by omega), if_true, tC46, nC46, show i < 20 by omega, gH_46, (hb i hi).1, bt_and _ (hb i hi).2 _ hs, nI_eq (show bN x.2.1 i &&& s < 2 ^ 31 by omega) (show s < 2 ^ 31 by omega), hc, if_false, nI_add]⟩)
    (fun i _ hi hc => by
      have hl := bt_andlt _ (hb i hi).2 _ hs
      have hc : bN x.2.1 i &&& s = s := by simpa using hc
      rw [s161_2]
      simp only [s161_0, s161_1, s161_3, s161_4, s161_7, s161_10, s161_11, s161_14, s161_15, s161_16, s161_17, s161_18, s161_19, s161_22, s161_23, s161_24, s161_27, s161_30, s161_31, gH_44, nI_lt hi (show x.2.2 < 2 ^ 31 by omega), if_true, tC46, nC46, show i < 20 by omega, gH_46, (hb i hi).1, bt_and _ (hb i hi).2 _ hs, hc, am_b1]) 0 (Nat.zero_le _) ()
  simp only [s161_0, s161_1, s161_3, s161_4, s161_7, s161_10, s161_11, s161_14, s161_15, s161_16, s161_17, s161_18, s161_19, s161_22, s161_23, s161_24, s161_27, s161_30, s161_31]
  refine L.trans ?_
  unfold inbC
  cases h : (rg 0 x.2.2).all fun i => !(decide (bN x.2.1 i &&& s = s)) <;> simp
def parC (n : Nat) (x : GX) : Int32 := (prs n).foldl (fun z t => if (2 ^ t.1 ||| 2 ^ t.2) &&& lopC n x = 0 ∧ inbC x (2 ^ t.1 ||| 2 ^ t.2) = false then z + nI 1 else z) (nI 0)
theorem x_R_parallels {d k n : Nat} {m : Mem} {q : MemJ} (ho : oC0 k) (hn : m k 0 = nI n) (hn6 : n ≤ 6) {x : GX} (hx : gth n (m (k + 1)) (m 45) (m 46) = x) : ev (d + 3) 160 0 [.ref 44, .ref k, .null, .null, .null, .null, .null] [] (mk shC m q) = some (some (.int (parC n x)), mk shC (gH m x.1 x.2.1 x.2.2) q) := by
  have hk := gth_ok hn6 (m (k + 1)) (m 45) (m 46)
  rw [hx] at hk
  have hr := oC0_rng ho
  have k0 : ∀ β bs len, gH m β bs len k = m k := fun β bs len => gH_ne (by omega) (by omega) (by omega)
  have hlop := lopC_lt hn6 hk
  have L := ev_for2 (fun _ => True) (fun a (z : Int32) (v : Value × Value) => ev (d + 3) 160 11 [.ref 44, .ref k, .int (nI (lopC n x)), .int z, .int (nI a), v.1, v.2] [] (mk shC (gH m x.1 x.2.1 x.2.2) q))
    (fun a b z v => ev (d + 3) 160 26 [.ref 44, .ref k, .int (nI (lopC n x)), .int z, .int (nI a), .int (nI b), v.2] [] (mk shC (gH m x.1 x.2.1 x.2.2) q))
    (fun z => some (some (.int z), mk shC (gH m x.1 x.2.1 x.2.2) q)) (fun a b z => if (2 ^ a ||| 2 ^ b) &&& lopC n x = 0 ∧ inbC x (2 ^ a ||| 2 ^ b) = false then z + nI 1 else z) n
    (fun z v _ => by rw [s160_11]; simp only [s160_0, s160_1, s160_2, s160_5, s160_6, s160_7, s160_8, s160_9, s160_13, s160_14, s160_17, s160_20, s160_22, s160_23, s160_24, s160_28, s160_29, s160_32, s160_35, s160_36, s160_38, s160_39, s160_40, s160_42, s160_43, s160_44, s160_46, s160_48, s160_49, s160_50, s160_53, s160_54, s160_56, s160_59, s160_62, s160_65, s160_68, s160_71, s160_74, s160_77, s160_78, ho, x_A_size ho, k0, hn, Option.bind_some, Option.toList_some, Option.toList_none, List.nil_append, List.cons_append, nI_irr, if_false])
    (fun a z v ha _ => ⟨v, by rw [s160_11]; simp only [s160_0, s160_1, s160_2, s160_5, s160_6, s160_7, s160_8, s160_9, s160_13, s160_14, s160_17, s160_20, s160_22, s160_23, s160_24, s160_28, s160_29, s160_32, s160_35, s160_36, s160_38, s160_39, s160_40, s160_42, s160_43, s160_44, s160_46, s160_48, s160_49, s160_50, s160_53, s160_54, s160_56, s160_59, s160_62, s160_65, s160_68, s160_71, s160_74, s160_77, s160_78, ho, x_A_size ho, k0, hn, Option.bind_some, Option.toList_some, Option.toList_none, List.nil_append, List.cons_append, nI_lt ha (show n < 2 ^ 31 by omega), if_true, nI_add]⟩)
    (fun a z v ha _ => ⟨(.int (nI n), v.2), by rw [s160_26]; simp only [s160_0, s160_1, s160_2, s160_5, s160_6, s160_7, s160_8, s160_9, s160_13, s160_14, s160_17, s160_20, s160_22, s160_23, s160_24, s160_28, s160_29, s160_32, s160_35, s160_36, s160_38, s160_39, s160_40, s160_42, s160_43, s160_44, s160_46, s160_48, s160_49, s160_50, s160_53, s160_54, s160_56, s160_59, s160_62, s160_65, s160_68, s160_71, s160_74, s160_77, s160_78, ho, x_A_size ho, k0, hn, Option.bind_some, Option.toList_some, Option.toList_none, List.nil_append, List.cons_append, nI_irr, if_false, nI_add]⟩)
    (fun _ _ _ _ _ _ => trivial)
    (fun a b z v hab hb _ => ⟨(v.1, .int (nI (2 ^ a ||| 2 ^ b))), by
      have la := bt_lt a (by omega)
      have lb := bt_lt b (by omega)
      have lab := bt_orlt _ la _ lb
      have lal := bt_andlt _ lab _ hlop
      rw [s160_26]
      simp only [s160_0, s160_1, s160_2, s160_5, s160_6, s160_7, s160_8, s160_9, s160_13, s160_14, s160_17, s160_20, s160_22, s160_23, s160_24, s160_28, s160_29, s160_32, s160_35, s160_36, s160_38, s160_39, s160_40, s160_42, s160_43, s160_44, s160_46, s160_48, s160_49, s160_50, s160_53, s160_54, s160_56, s160_59, s160_62, s160_65, s160_68, s160_71, s160_74, s160_77, s160_78, ho, x_A_size ho, k0, hn, Option.bind_some, Option.toList_some, Option.toList_none, List.nil_append, List.cons_append, nI_lt hb (show n < 2 ^ 31 by omega), if_true, nI_add, bt_sh a (by omega), bt_sh b (by omega), bt_or _ la _ lb, bt_and _ lab _ hlop, nI_z (Nat.lt_trans lal (show 64 < 2 ^ 31 by decide)), x_R_isInBase hk lab]
      by_cases c1 : (2 ^ a ||| 2 ^ b) &&& lopC n x = 0
      · cases c2 : inbC x (2 ^ a ||| 2 ^ b) with
        | true => simp [c1, show ¬ nI 1 = 0 by decide]
        | false => simp [c1, nI_0]
      · simp [c1]⟩) (nI 0) (.null, .null) trivial
  simp only [s160_0, s160_1, s160_2, s160_5, s160_6, s160_7, s160_8, s160_9, s160_13, s160_14, s160_17, s160_20, s160_22, s160_23, s160_24, s160_28, s160_29, s160_32, s160_35, s160_36, s160_38, s160_39, s160_40, s160_42, s160_43, s160_44, s160_46, s160_48, s160_49, s160_50, s160_53, s160_54, s160_56, s160_59, s160_62, s160_65, s160_68, s160_71, s160_74, s160_77, s160_78, x_R_loops ho hn hn6 hx, Option.bind_some, Option.toList_some, Option.toList_none, List.nil_append, List.cons_append]
  exact L
