/-! cocircuits and circuits -/
def fr (cs : List Nat) (m m' : Mem) : Prop := ∀ c, ¬ c ∈ cs → m' c = m c
theorem fr_rfl {cs : List Nat} {m : Mem} : fr cs m m := fun _ _ => rfl
theorem fr_tr {cs : List Nat} {m m' m'' : Mem} (h : fr cs m m') (h2 : fr cs m' m'') : fr cs m m'' := fun c hc => (h2 c hc).trans (h c hc)
theorem fr_wk {cs ds : List Nat} {m m' : Mem} (h : fr cs m m') (hs : ∀ c ∈ cs, c ∈ ds) : fr ds m m' := fun c hc => h c fun h => hc (hs c h)
theorem sm3_fr {a : Nat} {m m' : Mem} (h : sm3 a m m') : fr [a, a + 1, a + 2] m m' := fun c hc => h c (fun e => hc (by simp [e])) (fun e => hc (by simp [e])) (fun e => hc (by simp [e]))
def isSF (F : Nat → Int32) : Prop := ∀ i, i < 216 → isSg (F i)
def cocV (n : Nat) (F : Nat → Int32) (a b : Nat) : List Nat := (rg 0 n).map fun e => sd (F ((a * 6 + b) * 6 + e))
def cirS (F : Nat → Int32) (a b c d e : Nat) : Int32 := if e = a then F ((b * 6 + c) * 6 + d) else if e = b then -(F ((a * 6 + c) * 6 + d)) else if e = c then F ((a * 6 + b) * 6 + d) else if e = d then -(F ((a * 6 + b) * 6 + c)) else nI 0
def cirV (n : Nat) (F : Nat → Int32) (a b c d : Nat) : List Nat := (rg 0 n).map fun e => sd (cirS F a b c d e)
/-- a vector of n signs, by digits -/
def isV (n : Nat) (l : List Nat) : Prop := l.length = n ∧ ∀ e ∈ l, e < 3
def opV (l : List Nat) : List Nat := l.map (2 - ·)
def zeV (n : Nat) : List Nat := List.replicate n 1
theorem rg_len {a n : Nat} : (rg a n).length = n - a := by simp [rg]
theorem opV_isV {n : Nat} {l : List Nat} (h : isV n l) : isV n (opV l) := by
  refine ⟨by simp [opV, h.1], fun e he => ?_⟩
  obtain ⟨x, hx, rfl⟩ := List.mem_map.mp he
  omega
theorem zeV_isV {n : Nat} : isV n (zeV n) := ⟨by simp [zeV], fun e he => by rw [(List.mem_replicate.mp he).2]; decide⟩
theorem kO_V {n : Nat} {l : List Nat} (h : isV n l) (hn : n ≤ 6) : kO l < 4096 := kO_lt (fun e he => Nat.lt_of_lt_of_le (h.2 e he) (by decide)) (by rw [h.1]; exact hn)
theorem kO_opV {n : Nat} {l : List Nat} (h : isV n l) : kO l + kO (opV l) = 2 * kO (zeV n) := by
  have := kO_op h.2
  rwa [h.1] at this
section
variable {d k n a b c e : Nat} {m : Mem} {q : MemJ}
theorem cocV_isV {F : Nat → Int32} (hF : isSF F) (ha : a < 6) (hb : b < 6) (hn6 : n ≤ 6) : isV n (cocV n F a b) := by
  refine ⟨by simp [cocV, rg_len], fun e he => ?_⟩
  obtain ⟨x, hx, rfl⟩ := List.mem_map.mp he
  have := rg_mem.mp hx
  exact (sd_ok (hF _ (by omega))).2
theorem cirS_sg {F : Nat → Int32} {d : Nat} (hF : isSF F) (ha : a < 6) (hb : b < 6) (hc : c < 6) (hd : d < 6) : isSg (cirS F a b c d e) := by
  unfold cirS
  split
  · exact hF _ (by omega)
  · split
    · exact isSg_neg (hF _ (by omega))
    · split
      · exact hF _ (by omega)
      · split
        · exact isSg_neg (hF _ (by omega))
        · exact Or.inr (Or.inl rfl)
theorem cirV_isV {F : Nat → Int32} {d : Nat} (hF : isSF F) (ha : a < 6) (hb : b < 6) (hc : c < 6) (hd : d < 6) : isV n (cirV n F a b c d) := by
  refine ⟨by simp [cirV, rg_len], fun e he => ?_⟩
  obtain ⟨x, hx, rfl⟩ := List.mem_map.mp he
  exact (sd_ok (cirS_sg hF ha hb hc hd)).2
theorem x_V_cocircuit (ho : oC0 k) (hn : m k 0 = nI n) (hn6 : n ≤ 6) (hF : isSF (m (k + 1))) (ha : a < 6) (hb : b < 6) : ev (d + 1) 100 0 [.ref k, .int (nI a), .int (nI b), .null, .null] [] (mk shC m q) = some (some (.int (nI (kO (cocV n (m (k + 1)) a b)))), mk shC m q) := by
  have L := ev_for1 (fun _ => True) (fun e (x : Nat) (_ : Unit) => ev (d + 1) 100 5 [.ref k, .int (nI a), .int (nI b), .int (nI x), .int (nI e)] [] (mk shC m q)) (fun x => some (some (.int (nI x)), mk shC m q)) (fun e x => 4 * x + sd (m (k + 1) ((a * 6 + b) * 6 + e))) n
    (fun x _ _ => by rw [s100_5]; simp only [s100_0, s100_1, s100_2, s100_3, s100_7, s100_8, s100_11, s100_14, s100_15, s100_16, s100_17, s100_18, s100_20, s100_23, s100_26, s100_27, s100_30, s100_33, s100_34, ho, x_A_size ho, hn, Option.bind_some, Option.toList_some, Option.toList_none, List.nil_append, List.cons_append, nI_irr, if_false])
    (fun _ _ _ _ => trivial)
    (fun e x _ he _ => ⟨(), by
      have hs := sd_ok (hF ((a * 6 + b) * 6 + e) (by omega))
      rw [s100_5]
      simp only [s100_0, s100_1, s100_2, s100_3, s100_7, s100_8, s100_11, s100_14, s100_15, s100_16, s100_17, s100_18, s100_20, s100_23, s100_26, s100_27, s100_30, s100_33, s100_34, ho, x_A_size ho, hn, Option.bind_some, Option.toList_some, Option.toList_none, List.nil_append, List.cons_append, nI_lt he (show n < 2 ^ 31 by omega), if_true, x_A_signOf ho (show (a * 6 + b) * 6 + e < 216 by omega), x_K_withNumber hs.1 (show sd (m (k + 1) ((a * 6 + b) * 6 + e)) < 4 by omega), nI_add]⟩) 0 (Nat.zero_le _) 0 () trivial
  simp only [s100_0, s100_1, s100_2, s100_3, s100_7, s100_8, s100_11, s100_14, s100_15, s100_16, s100_17, s100_18, s100_20, s100_23, s100_26, s100_27, s100_30, s100_33, s100_34]
  rw [L, cocV, kO, List.foldl_map]
theorem x_V_circuit {D : Nat} (ho : oC0 k) (hn : m k 0 = nI n) (hn6 : n ≤ 6) (hF : isSF (m (k + 1))) (ha : a < 6) (hb : b < 6) (hc : c < 6) (hd : d < 6) : ev (D + 1) 107 0 [.ref k, .int (nI a), .int (nI b), .int (nI c), .int (nI d), .null, .null, .null] [] (mk shC m q) = some (some (.int (nI (kO (cirV n (m (k + 1)) a b c d)))), mk shC m q) := by
  have L := ev_for1 (fun _ => True) (fun e (x : Nat) (w : Value) => ev (D + 1) 107 6 [.ref k, .int (nI a), .int (nI b), .int (nI c), .int (nI d), .int (nI x), .int (nI e), w] [] (mk shC m q)) (fun x => some (some (.int (nI x)), mk shC m q)) (fun e x => 4 * x + sd (cirS (m (k + 1)) a b c d e)) n
    (fun x _ _ => by rw [s107_6]; simp only [s107_0, s107_1, s107_3, s107_4, s107_8, s107_9, s107_12, s107_15, s107_16, s107_18, s107_20, s107_21, s107_24, s107_25, s107_26, s107_27, s107_29, s107_32, s107_34, s107_37, s107_39, s107_40, s107_43, s107_44, s107_45, s107_46, s107_48, s107_51, s107_52, s107_54, s107_57, s107_59, s107_60, s107_63, s107_64, s107_65, s107_66, s107_68, s107_71, s107_73, s107_76, s107_78, s107_80, s107_83, s107_84, s107_85, s107_86, s107_87, s107_90, s107_91, s107_93, s107_95, s107_97, s107_100, s107_102, s107_105, s107_108, s107_110, ho, x_A_size ho, hn, Option.bind_some, Option.toList_some, Option.toList_none, List.nil_append, List.cons_append, nI_irr, if_false])
    (fun _ _ _ _ => trivial)
    (fun e x _ he _ => ⟨.int (cirS (m (k + 1)) a b c d e), by
      have hs := sd_ok (cirS_sg (e := e) hF ha hb hc hd)
      have A : ∀ s : Int32, cirS (m (k + 1)) a b c d e = s → ev (D + 1) 107 93 [.ref k, .int (nI a), .int (nI b), .int (nI c), .int (nI d), .int (nI x), .int (nI e), .int s] [] (mk shC m q) = ev (D + 1) 107 6 [.ref k, .int (nI a), .int (nI b), .int (nI c), .int (nI d), .int (nI (4 * x + sd (cirS (m (k + 1)) a b c d e))), .int (nI (e + 1)), .int (cirS (m (k + 1)) a b c d e)] [] (mk shC m q) := by
        rintro s rfl
        simp only [s107_0, s107_1, s107_3, s107_4, s107_8, s107_9, s107_12, s107_15, s107_16, s107_18, s107_20, s107_21, s107_24, s107_25, s107_26, s107_27, s107_29, s107_32, s107_34, s107_37, s107_39, s107_40, s107_43, s107_44, s107_45, s107_46, s107_48, s107_51, s107_52, s107_54, s107_57, s107_59, s107_60, s107_63, s107_64, s107_65, s107_66, s107_68, s107_71, s107_73, s107_76, s107_78, s107_80, s107_83, s107_84, s107_85, s107_86, s107_87, s107_90, s107_91, s107_93, s107_95, s107_97, s107_100, s107_102, s107_105, s107_108, s107_110, x_K_withNumber hs.1 (show sd (cirS (m (k + 1)) a b c d e) < 4 by omega), Option.bind_some, Option.toList_some, Option.toList_none, List.nil_append, List.cons_append, nI_add]
      rw [s107_6]
      simp only [s107_8, s107_9, s107_12, s107_15, s107_16, s107_18, s107_20, s107_21, s107_24, s107_25, s107_26, s107_27, s107_29, s107_32, s107_34, s107_37, s107_39, s107_40, s107_43, s107_44, s107_45, s107_46, s107_48, s107_51, s107_52, s107_54, s107_57, s107_59, s107_60, s107_63, s107_64, s107_65, s107_66, s107_68, s107_71, s107_73, s107_76, s107_78, s107_80, s107_83, s107_84, s107_85, s107_86, s107_87, s107_90, s107_91, ho, x_A_size ho, hn, Option.bind_some, Option.toList_some, Option.toList_none, List.nil_append, List.cons_append, nI_lt he (show n < 2 ^ 31 by omega), if_true, x_A_signOf ho (show (b * 6 + c) * 6 + d < 216 by omega), x_A_signOf ho (show (a * 6 + c) * 6 + d < 216 by omega), x_A_signOf ho (show (a * 6 + b) * 6 + d < 216 by omega), x_A_signOf ho (show (a * 6 + b) * 6 + c < 216 by omega), nI_eq (show e < 2 ^ 31 by omega) (show a < 2 ^ 31 by omega), nI_eq (show e < 2 ^ 31 by omega) (show b < 2 ^ 31 by omega), nI_eq (show e < 2 ^ 31 by omega) (show c < 2 ^ 31 by omega), nI_eq (show e < 2 ^ 31 by omega) (show d < 2 ^ 31 by omega)]
      by_cases h1 : e = a
      · rw [if_pos h1]; exact A _ (by unfold cirS; rw [if_pos h1])
      · rw [if_neg h1]
        by_cases h2 : e = b
        · rw [if_pos h2]; exact A _ (by unfold cirS; rw [if_neg h1, if_pos h2])
        · rw [if_neg h2]
          by_cases h3 : e = c
          · rw [if_pos h3]; exact A _ (by unfold cirS; rw [if_neg h1, if_neg h2, if_pos h3])
          · rw [if_neg h3]
            by_cases h4 : e = d
            · rw [if_pos h4]; exact A _ (by unfold cirS; rw [if_neg h1, if_neg h2, if_neg h3, if_pos h4])
            · rw [if_neg h4]; exact A _ (by unfold cirS; rw [if_neg h1, if_neg h2, if_neg h3, if_neg h4])⟩) 0 (Nat.zero_le _) 0 .null trivial
  simp only [s107_0, s107_1, s107_3, s107_4, s107_8, s107_9, s107_12, s107_15, s107_16, s107_18, s107_20, s107_21, s107_24, s107_25, s107_26, s107_27, s107_29, s107_32, s107_34, s107_37, s107_39, s107_40, s107_43, s107_44, s107_45, s107_46, s107_48, s107_51, s107_52, s107_54, s107_57, s107_59, s107_60, s107_63, s107_64, s107_65, s107_66, s107_68, s107_71, s107_73, s107_76, s107_78, s107_80, s107_83, s107_84, s107_85, s107_86, s107_87, s107_90, s107_91, s107_93, s107_95, s107_97, s107_100, s107_102, s107_105, s107_108, s107_110]
  rw [L, cirV, kO, List.foldl_map]
/-- both ways round -/
def insB (n : Nat) (l : List Nat) (v : List Nat) : List Nat := if kO v = kO (zeV n) then l else insK (insK l (kO v)) (kO (opV v))
theorem x_V_insertBoth {l v : List Nat} (ho : oC8 a) (hw : WR m a l) (hn6 : n ≤ 6) (hv : isV n v) : ∃ m', ev (d + 1) 102 0 [.ref a, .int (nI (kO v)), .int (nI (kO (zeV n)))] [] (mk shC m q) = some (none, mk shC m' q) ∧ WR m' a (insB n l v) ∧ sm3 a m m' := by
  have k1 := kO_V hv hn6
  have k2 := kO_V (opV_isV hv) hn6
  have k3 := kO_opV hv
  have k4 := kO_V (zeV_isV (n := n)) hn6
  obtain ⟨m1, e1, w1, s1⟩ := x_W_insert (d := d) (q := q) ho hw k1
  obtain ⟨m2, e2, w2, s2⟩ := x_W_insert (d := d) (q := q) ho w1 k2
  unfold insB
  by_cases h : kO v = kO (zeV n)
  · refine ⟨m, ?_, by rw [if_pos h]; exact hw, sm3_rfl⟩
    simp only [s102_0, s102_1, s102_2, s102_5, s102_6, s102_7, s102_10, s102_11, s102_12, s102_13, s102_16, s102_19, nI_eq (show kO v < 2 ^ 31 by omega) (show kO (zeV n) < 2 ^ 31 by omega), h, if_true]
  · refine ⟨m2, ?_, by rw [if_neg h]; exact w2, sm3_tr s1 s2⟩
    simp only [s102_0, s102_1, s102_2, s102_5, s102_6, s102_7, s102_10, s102_11, s102_12, s102_13, s102_16, s102_19, nI_eq (show kO v < 2 ^ 31 by omega) (show kO (zeV n) < 2 ^ 31 by omega), h, if_false, ho, e1, Option.bind_some, Option.toList_some, Option.toList_none, List.nil_append, List.cons_append, x_K_opposite (show kO v ≤ 2 * kO (zeV n) by omega), show 2 * kO (zeV n) - kO v = kO (opV v) by omega, e2]
end
