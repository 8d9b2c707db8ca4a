/-! the model: rows copied, noted -/
theorem upd_upd {f : Nat → Int32} {k : Nat} {x y : Int32} : upd (upd f k x) k y = upd f k y := by
  funext i
  simp only [upd]
  split <;> rfl
def paM (R : Nat → Int32) : Nat → Int32 := (rg 0 6).foldl (fun R e => ptM R e (nI 1) (nI e) (nI (e * e))) R
def cyM (R : Nat → Int32) (f t : Nat) : Nat → Int32 := (rg 0 39).foldl (fun R k => upd R (t + k) (R (f + k))) R
def shR (R : Nat → Int32) : Nat → Int32 := (rg 0 273).foldl (fun R k => upd R (39 + k) (R (78 + k))) R
def ntU (u : Nat) : Nat := if u = 8 then 7 else u
def ntR (R : Nat → Int32) (u : Nat) : Nat → Int32 := cyM (if u = 8 then shR R else R) 0 (39 + 39 * ntU u)
/-- the heap behind a deed: the rows as they are now, one more to be undone -/
def deH (m : Mem) (u : Nat) (R : Nat → Int32) : Mem := mu (mu m 1 R) 0 (upd (m 0) 1 (nI (ntU u + 1)))
theorem deH_mu {m : Mem} {u : Nat} {R R' : Nat → Int32} : mu (deH m u R) 1 R' = deH m u R' := by
  unfold deH
  rw [mu_comm (show (0 : Nat) ≠ 1 by decide), mu_mu]
theorem deH_1 {m : Mem} {u : Nat} {R : Nat → Int32} : deH m u R 1 = R := by
  unfold deH
  rw [mu_ne (by decide), mu_same]
theorem deH_ne {m : Mem} {u c : Nat} {R : Nat → Int32} (h0 : c ≠ 0) (h1 : c ≠ 1) : deH m u R c = m c := by
  unfold deH
  rw [mu_ne h0, mu_ne h1]
/-- a block copied from one place to another one, apart -/
theorem cy_at {N f t : Nat} {R : Nat → Int32} (hd : f + N ≤ t ∨ t + N ≤ f) : ∀ k, k ≤ N → ∀ i, ((rg 0 k).foldl (fun R k => upd R (t + k) (R (f + k))) R) i = if t ≤ i ∧ i < t + k then R (f + (i - t)) else R i := by
  intro k
  induction k with
  | zero =>
    intro _ i
    rw [rg_end, if_neg (by omega)]
    rfl
  | succ k ih =>
    intro hk i
    have e : rg 0 (k + 1) = rg 0 k ++ [k] := by simp [rg, List.range'_concat]
    rw [e, List.foldl_append]
    simp only [List.foldl_cons, List.foldl_nil, upd]
    have ih' := ih (by omega)
    by_cases h : i = t + k
    · rw [if_pos h, ih', if_neg (by omega), if_pos (by omega)]
      congr 1
      omega
    · rw [if_neg h, ih']
      by_cases h2 : t ≤ i ∧ i < t + k
      · rw [if_pos h2, if_pos (by omega)]
      · rw [if_neg h2, if_neg (by omega)]
theorem cyM_at {f t : Nat} {R : Nat → Int32} (hd : f + 39 ≤ t ∨ t + 39 ≤ f) (i : Nat) : cyM R f t i = if t ≤ i ∧ i < t + 39 then R (f + (i - t)) else R i := cy_at hd 39 (Nat.le_refl _) i
theorem shR_at' {R : Nat → Int32} : ∀ k, k ≤ 273 → ∀ i, ((rg 0 k).foldl (fun R k => upd R (39 + k) (R (78 + k))) R) i = if 39 ≤ i ∧ i < 39 + k then R (i + 39) else R i := by
  intro k
  induction k with
  | zero =>
    intro _ i
    rw [rg_end, if_neg (by omega)]
    rfl
  | succ k ih =>
    intro hk i
    have e : rg 0 (k + 1) = rg 0 k ++ [k] := by simp [rg, List.range'_concat]
    rw [e, List.foldl_append]
    simp only [List.foldl_cons, List.foldl_nil, upd]
    have ih' := ih (by omega)
    by_cases h : i = 39 + k
    · rw [if_pos h, ih', if_neg (by omega), if_pos (by omega)]
      congr 1
      omega
    · rw [if_neg h, ih']
      by_cases h2 : 39 ≤ i ∧ i < 39 + k
      · rw [if_pos h2, if_pos (by omega)]
      · rw [if_neg h2, if_neg (by omega)]
theorem shR_at {R : Nat → Int32} (i : Nat) : shR R i = if 39 ≤ i ∧ i < 312 then R (i + 39) else R i := shR_at' 273 (Nat.le_refl _) i
/-- the row of now stands behind notes -/
theorem ntR_0 {R : Nat → Int32} {u i : Nat} (hi : i < 39) : ntR R u i = R i := by
  unfold ntR
  rw [cyM_at (by omega), if_neg (by omega)]
  split
  · rw [shR_at, if_neg (by omega)]
  · rfl
section
variable {d a b c e f i n k t u : Nat} {m : Mem} {q : MemJ} {x y z w v : Int32} {h : AH}
theorem x_M_pointsAnew : ev (d + 1) 164 0 [.ref 0, .null] [] (mk shM m q) = some (none, mk shM (mu m 1 (paM (m 1))) q) := by
  have L := ev_for1 (fun _ => True) (fun e (R : Nat → Int32) (_ : Unit) => ev (d + 1) 164 2 [.ref 0, .int (nI e)] [] (mk shM (mu m 1 R) q)) (fun R => some (none, mk shM (mu m 1 R) q)) (fun e R => ptM R e (nI 1) (nI e) (nI (e * e))) 6
    (fun R _ _ => by rw [s164_2]; simp only [s164_0, s164_1, s164_3, s164_5, s164_8, s164_9, s164_12, s164_14, s164_15, s164_16, s164_17, s164_18, s164_19, s164_20, s164_21, s164_24, s164_26, s164_27, s164_28, s164_29, s164_30, s164_31, s164_32, s164_33, s164_34, s164_35, s164_38, s164_40, s164_41, s164_42, s164_43, s164_44, s164_45, s164_46, s164_47, s164_48, s164_49, s164_50, s164_53, s164_56, nI_irr, if_false])
    (fun _ _ _ _ => trivial)
    (fun e R _ he _ => ⟨(), by
      rw [s164_2]
      simp only [s164_0, s164_1, s164_3, s164_5, s164_8, s164_9, s164_12, s164_14, s164_15, s164_16, s164_17, s164_18, s164_19, s164_20, s164_21, s164_24, s164_26, s164_27, s164_28, s164_29, s164_30, s164_31, s164_32, s164_33, s164_34, s164_35, s164_38, s164_40, s164_41, s164_42, s164_43, s164_44, s164_45, s164_46, s164_47, s164_48, s164_49, s164_50, s164_53, s164_56, nI_lt he (show 6 < 2 ^ 31 by decide), if_true, nI_add, pk_mul, tM1, nM1, show 21 + 3 * e < 429 by omega, show 21 + 3 * e + 1 < 429 by omega, show 21 + 3 * e + 2 < 429 by omega, mu_mu, mu_same, ptM]⟩) 0 (Nat.zero_le _) (m 1) () trivial
  rw [mu_self] at L
  simp only [s164_0, s164_1, s164_3, s164_5, s164_8, s164_9, s164_12, s164_14, s164_15, s164_16, s164_17, s164_18, s164_19, s164_20, s164_21, s164_24, s164_26, s164_27, s164_28, s164_29, s164_30, s164_31, s164_32, s164_33, s164_34, s164_35, s164_38, s164_40, s164_41, s164_42, s164_43, s164_44, s164_45, s164_46, s164_47, s164_48, s164_49, s164_50, s164_53, s164_56]
  exact L
theorem x_M_copyRow (hf : f + 39 ≤ 429) (ht : t + 39 ≤ 429) : ev d 206 0 [.ref 0, .int (nI f), .int (nI t), .null] [] (mk shM m q) = some (none, mk shM (mu m 1 (cyM (m 1) f t)) q) := by
  have L := ev_for1 (fun _ => True) (fun k (R : Nat → Int32) (_ : Unit) => ev d 206 2 [.ref 0, .int (nI f), .int (nI t), .int (nI k)] [] (mk shM (mu m 1 R) q)) (fun R => some (none, mk shM (mu m 1 R) q)) (fun k R => upd R (t + k) (R (f + k))) 39
    (fun R _ _ => by rw [s206_2]; simp only [s206_0, s206_1, s206_3, s206_5, s206_8, s206_9, s206_12, s206_13, s206_14, s206_15, s206_16, s206_19, s206_20, s206_21, s206_22, s206_23, s206_24, s206_27, s206_30, nI_irr, if_false])
    (fun _ _ _ _ => trivial)
    (fun k R _ hk _ => ⟨(), by
      rw [s206_2]
      simp only [s206_0, s206_1, s206_3, s206_5, s206_8, s206_9, s206_12, s206_13, s206_14, s206_15, s206_16, s206_19, s206_20, s206_21, s206_22, s206_23, s206_24, s206_27, s206_30, nI_lt hk (show 39 < 2 ^ 31 by decide), if_true, nI_add, tM1, nM1, show t + k < 429 by omega, show f + k < 429 by omega, mu_mu, mu_same]⟩) 0 (Nat.zero_le _) (m 1) () trivial
  rw [mu_self] at L
  simp only [s206_0, s206_1, s206_3, s206_5, s206_8, s206_9, s206_12, s206_13, s206_14, s206_15, s206_16, s206_19, s206_20, s206_21, s206_22, s206_23, s206_24, s206_27, s206_30]
  exact L
theorem x_M_notes (hu : m 0 1 = nI u) (hu8 : u ≤ 8) : ev (d + 1) 205 0 [.ref 0, .null] [] (mk shM m q) = some (none, mk shM (deH m u (ntR (m 1) u)) q) := by
  have B : ∀ (R : Nat → Int32) (w : Int32), ev (d + 1) 205 42 [.ref 0, .int w] [] (mk shM (mu m 1 R) q) = some (none, mk shM (deH m u (cyM R 0 (39 + 39 * ntU u))) q) := fun R w => by
    have u0 : mu m 1 R 0 1 = nI u := by rw [mu_ne (by decide)]; exact hu
    have c := x_M_copyRow (d := d) (f := 0) (t := 39 + 39 * ntU u) (m := mu (mu m 1 R) 0 (upd (mu m 1 R 0) 1 (nI (ntU u)))) (q := q) (by decide) (by unfold ntU; split <;> omega)
    have c1 : mu (mu m 1 R) 0 (upd (mu m 1 R 0) 1 (nI (ntU u))) 1 = R := by rw [mu_ne (by decide), mu_same]
    rw [c1] at c
    have g : ∀ R', mu (mu (mu m 1 R) 0 (upd (mu m 1 R 0) 1 (nI (ntU u)))) 1 R' = mu (mu m 1 R') 0 (upd (m 0) 1 (nI (ntU u))) := fun R' => by
      rw [mu_comm (show (0 : Nat) ≠ 1 by decide), mu_mu, mu_ne (show (0 : Nat) ≠ 1 by decide)]
    rw [g] at c
    have g2 : ∀ R' : Nat → Int32, mu (mu m 1 R') 0 (upd (m 0) 1 (nI (ntU u))) 0 = upd (m 0) 1 (nI (ntU u)) := fun R' => mu_same
    have g3 : upd (m 0) 1 (nI (ntU u)) 1 = nI (ntU u) := by simp [upd]
    by_cases h8 : u = 8
    · have t7 : ntU u = 7 := if_pos h8
      rw [t7] at c g2 g3 ⊢
      simp only [s205_42, s205_43, s205_44, s205_47, s205_48, s205_51, s205_53, s205_56, s205_57, s205_60, s205_61, s205_62, s205_65, s205_66, s205_67, s205_69, s205_71, s205_72, s205_75, s205_76, s205_77, s205_80, s205_81, s205_82, s205_85, s205_86, s205_87, s205_90, u0, h8, if_true, nI_sub (show 1 ≤ 8 by decide), mu_same, upd_upd]
      simp only [s205_42, s205_43, s205_44, s205_47, s205_48, s205_51, s205_53, s205_56, s205_57, s205_60, s205_61, s205_62, s205_65, s205_66, s205_67, s205_69, s205_71, s205_72, s205_75, s205_76, s205_77, s205_80, s205_81, s205_82, s205_85, s205_86, s205_87, s205_90, c, g2, g3, pk_mul, nI_add, Option.bind_some, Option.toList_some, Option.toList_none, List.nil_append, List.cons_append, mu_mu, upd_upd, show (upd (mu m 1 R 0) 1 (nI (8 - 1))) 1 = nI 7 by simp [upd], show (8 - 1 : Nat) = 7 from rfl]
      unfold deH
      rfl
    · have t7 : ntU u = u := if_neg h8
      rw [t7] at c g2 g3 ⊢
      simp only [s205_42, s205_43, s205_44, s205_47, s205_48, s205_51, s205_53, s205_56, s205_57, s205_60, s205_61, s205_62, s205_65, s205_66, s205_67, s205_69, s205_71, s205_72, s205_75, s205_76, s205_77, s205_80, s205_81, s205_82, s205_85, s205_86, s205_87, s205_90, u0, nI_eq (show u < 2 ^ 31 by omega) (show 8 < 2 ^ 31 by decide), h8, if_false, nI_sub (show 0 ≤ u by omega), Nat.sub_zero, mu_same]
      simp only [s205_42, s205_43, s205_44, s205_47, s205_48, s205_51, s205_53, s205_56, s205_57, s205_60, s205_61, s205_62, s205_65, s205_66, s205_67, s205_69, s205_71, s205_72, s205_75, s205_76, s205_77, s205_80, s205_81, s205_82, s205_85, s205_86, s205_87, s205_90, c, g2, g3, pk_mul, nI_add, Option.bind_some, Option.toList_some, Option.toList_none, List.nil_append, List.cons_append, mu_mu, upd_upd, show (upd (mu m 1 R 0) 1 (nI u)) 1 = nI u by simp [upd]]
      unfold deH
      rw [t7]
  unfold ntR
  by_cases h8 : u = 8
  · rw [if_pos h8]
    have L := ev_for1 (fun _ => True) (fun k (R : Nat → Int32) (_ : Unit) => ev (d + 1) 205 2 [.ref 0, .int (nI k)] [] (mk shM (mu m 1 R) q)) (fun R => some (none, mk shM (deH m u (cyM R 0 (39 + 39 * ntU u))) q)) (fun k R => upd R (39 + k) (R (78 + k))) 273
      (fun R _ _ => by rw [s205_2]; simp only [nI_irr, if_false, B, s205_3, s205_6, s205_9, s205_10, s205_13, s205_15, s205_18, s205_19, s205_22, s205_24, s205_25, s205_26, s205_27, s205_30, s205_32, s205_33, s205_34, s205_35, s205_36, s205_39])
      (fun _ _ _ _ => trivial)
      (fun k R _ hk _ => ⟨(), by
        rw [s205_2]
        simp only [s205_3, s205_6, s205_9, s205_10, s205_13, s205_15, s205_18, s205_19, s205_22, s205_24, s205_25, s205_26, s205_27, s205_30, s205_32, s205_33, s205_34, s205_35, s205_36, s205_39, nI_lt hk (show 273 < 2 ^ 31 by decide), if_true, nI_add, tM1, nM1, show 39 + k < 429 by omega, show 78 + k < 429 by omega, mu_mu, mu_same, mu_ne (show (0 : Nat) ≠ 1 by decide), hu, h8]⟩) 0 (Nat.zero_le _) (m 1) () trivial
    rw [mu_self] at L
    simp only [s205_0, s205_1]
    exact L
  · rw [if_neg h8]
    have := B (m 1) (nI 0)
    rw [mu_self] at this
    simp only [s205_0, s205_1]
    rw [s205_2]
    simp only [s205_3, s205_6, s205_9, s205_10, s205_13, s205_15, s205_18, s205_19, s205_22, s205_24, s205_25, s205_26, s205_27, s205_30, s205_32, s205_33, s205_34, s205_35, s205_36, s205_39, nI_ltI (show 0 < 2 ^ 31 by decide) (show 273 < 2 ^ 31 by decide), show (0 : Nat) < 273 by decide, if_true, hu, nI_eq (show u < 2 ^ 31 by omega) (show 8 < 2 ^ 31 by decide), h8, if_false, this]
theorem x_M_write {L : Nat} (hL : m 0 4 = nI L) (hL2 : L ≤ 200) : ev (d + 1) 165 0 [.ref 0, .int x] [] (mk shM m q) = if elB 256 x = true then (if L = 200 then some (some (.int (-1004)), mk shM m q) else some (some (.int (nI (L + 1))), mk shM (mu (mu m 3 (upd (m 3) L x)) 0 (upd (m 0) 4 (nI (L + 1)))) q)) else some (some (.int (-1002)), mk shM m q) := by
  have t := x_M_inE (d := d) (x := x) (h := mk shM m q) (show 256 < 1000 by decide) (Z := 0) (K := 255) (by decide) (by decide)
  simp only [s165_0, s165_1, s165_2, s165_3, s165_6, s165_9, s165_12, s165_15, s165_16, s165_17, s165_20, s165_23, s165_26, s165_29, s165_30, s165_31, s165_34, s165_35, s165_38, s165_39, s165_40, s165_41, s165_42, s165_45, s165_46, s165_47, s165_50, s165_51, s165_54, t, Option.bind_some, Option.toList_some, Option.toList_none, List.nil_append, List.cons_append, bI_z]
  cases elB 256 x with
  | false => simp only [if_true, Bool.false_eq_true, if_false]
  | true =>
    simp only [Bool.true_eq_false, if_true, if_false, s165_0, s165_1, s165_2, s165_3, s165_6, s165_9, s165_12, s165_15, s165_16, s165_17, s165_20, s165_23, s165_26, s165_29, s165_30, s165_31, s165_34, s165_35, s165_38, s165_39, s165_40, s165_41, s165_42, s165_45, s165_46, s165_47, s165_50, s165_51, s165_54, hL, nI_eq (show L < 2 ^ 31 by omega) (show 200 < 2 ^ 31 by decide)]
    by_cases h2 : L = 200
    · simp only [h2, if_true]
    · simp only [h2, if_false, s165_0, s165_1, s165_2, s165_3, s165_6, s165_9, s165_12, s165_15, s165_16, s165_17, s165_20, s165_23, s165_26, s165_29, s165_30, s165_31, s165_34, s165_35, s165_38, s165_39, s165_40, s165_41, s165_42, s165_45, s165_46, s165_47, s165_50, s165_51, s165_54, hL, tM3, nM3, show L < 200 by omega, mu_ne (show (0 : Nat) ≠ 3 by decide), nI_add, mu_same, show upd (m 0) 4 (nI (L + 1)) 4 = nI (L + 1) by simp [upd]]
theorem x_M_erase : ev d 167 0 [.ref 0, .null] [] (mk shM m q) = some (some (.int (m 0 4)), mk shM (mu m 0 (upd (m 0) 4 (nI 0))) q) := by
  simp only [s167_0, s167_1, s167_4, s167_5, s167_6, s167_7, s167_10, s167_11]
theorem x_M_sign (hn : m 1 0 = nI n) (hn6 : n ≤ 6) : ev (d + 3) 199 0 [.ref 0, .int x, .int y, .int z] [] (mk shM m q) = some (some (.int (if (elB n x && elB n y && elB n z) = true then mS (m 1) (eN x) (eN y) (eN z) else -1001)), mk shM m q) := by
  simp only [s199_0, s199_1, s199_2, s199_3, s199_4, s199_7, s199_10, s199_11, s199_12, s199_13, s199_14, s199_17, s199_20, s199_23, x_M_areThree hn hn6, Option.bind_some, Option.toList_some, Option.toList_none, List.nil_append, List.cons_append, bI_z]
  cases hh : elB n x && elB n y && elB n z with
  | false => simp only [if_true, Bool.false_eq_true, if_false, s199_0, s199_1, s199_2, s199_3, s199_4, s199_7, s199_10, s199_11, s199_12, s199_13, s199_14, s199_17, s199_20, s199_23]
  | true =>
    simp only [Bool.and_eq_true] at hh
    have ex := elB_t (by omega) hh.1.1
    have ey := elB_t (by omega) hh.1.2
    have ez := elB_t (by omega) hh.2
    have A := x_M_signOf (d := d + 1) (m := m) (q := q) (show eN x < 6 by omega) (show eN y < 6 by omega) (show eN z < 6 by omega)
    rw [← ex.2, ← ey.2, ← ez.2] at A
    simp only [Bool.true_eq_false, if_true, if_false, s199_0, s199_1, s199_2, s199_3, s199_4, s199_7, s199_10, s199_11, s199_12, s199_13, s199_14, s199_17, s199_20, s199_23, A, Option.bind_some, Option.toList_some, Option.toList_none, List.nil_append, List.cons_append]
theorem x_M_turn (hn : m 1 0 = nI n) (hn6 : n ≤ 6) : ev (d + 3) 202 0 [.ref 0, .int x, .int y, .int z] [] (mk shM m q) = some (some (.int (if (elB n x && elB n y && elB n z) = true then sgM (mtn (m 1) (eN x) (eN y) (eN z)) else -1001)), mk shM m q) := by
  simp only [s202_0, s202_1, s202_2, s202_3, s202_4, s202_7, s202_10, s202_11, s202_12, s202_13, s202_14, s202_17, s202_20, s202_23, x_M_areThree hn hn6, Option.bind_some, Option.toList_some, Option.toList_none, List.nil_append, List.cons_append, bI_z]
  cases hh : elB n x && elB n y && elB n z with
  | false => simp only [if_true, Bool.false_eq_true, if_false, s202_0, s202_1, s202_2, s202_3, s202_4, s202_7, s202_10, s202_11, s202_12, s202_13, s202_14, s202_17, s202_20, s202_23]
  | true =>
    simp only [Bool.and_eq_true] at hh
    have ex := elB_t (by omega) hh.1.1
    have ey := elB_t (by omega) hh.1.2
    have ez := elB_t (by omega) hh.2
    have A := x_M_turnOf (d := d + 1) (m := m) (q := q) (show eN x < 6 by omega) (show eN y < 6 by omega) (show eN z < 6 by omega)
    rw [← ex.2, ← ey.2, ← ez.2] at A
    simp only [Bool.true_eq_false, if_true, if_false, s202_0, s202_1, s202_2, s202_3, s202_4, s202_7, s202_10, s202_11, s202_12, s202_13, s202_14, s202_17, s202_20, s202_23, A, Option.bind_some, Option.toList_some, Option.toList_none, List.nil_append, List.cons_append]
theorem x_M_point (hn : m 1 0 = nI n) (hn6 : n ≤ 6) : ev (d + 2) 203 0 [.ref 0, .int x, .int y] [] (mk shM m q) = some (some (.int (if elB n x = true then (if elB 3 y = true then mco (m 1) (eN x) (eN y) else -1002) else -1001)), mk shM m q) := by
  have t := x_M_inE (d := d + 1) (x := y) (h := mk shM m q) (show 3 < 1000 by decide) (Z := 0) (K := 2) (by decide) (by decide)
  simp only [s203_0, s203_1, s203_2, s203_5, s203_8, s203_11, s203_12, s203_13, s203_14, s203_15, s203_18, s203_21, s203_24, s203_25, s203_26, s203_27, s203_30, s203_33, s203_36, x_M_isElement hn hn6, Option.bind_some, Option.toList_some, Option.toList_none, List.nil_append, List.cons_append, bI_z]
  cases hx : elB n x with
  | false => simp only [if_true, Bool.false_eq_true, if_false]
  | true =>
    have ex := elB_t (by omega) hx
    simp only [Bool.true_eq_false, if_true, if_false, s203_0, s203_1, s203_2, s203_5, s203_8, s203_11, s203_12, s203_13, s203_14, s203_15, s203_18, s203_21, s203_24, s203_25, s203_26, s203_27, s203_30, s203_33, s203_36, t, Option.bind_some, Option.toList_some, Option.toList_none, List.nil_append, List.cons_append, bI_z]
    cases hy : elB 3 y with
    | false => simp only [if_true, Bool.false_eq_true, if_false, s203_0, s203_1, s203_2, s203_5, s203_8, s203_11, s203_12, s203_13, s203_14, s203_15, s203_18, s203_21, s203_24, s203_25, s203_26, s203_27, s203_30, s203_33, s203_36]
    | true =>
      have ey := elB_t (by omega) hy
      have A := x_M_coordinate (d := d + 1) (m := m) (q := q) (show eN x < 6 by omega) (show eN y < 3 by omega)
      rw [← ex.2, ← ey.2] at A
      simp only [Bool.true_eq_false, if_true, if_false, s203_0, s203_1, s203_2, s203_5, s203_8, s203_11, s203_12, s203_13, s203_14, s203_15, s203_18, s203_21, s203_24, s203_25, s203_26, s203_27, s203_30, s203_33, s203_36, A, Option.bind_some, Option.toList_some, Option.toList_none, List.nil_append, List.cons_append]
theorem x_M_isCoordinate : ev (d + 1) 208 0 [.int x] [] h = some (some (.int (bI (!faB x))), h) := by
  have t := x_M_in (d := d) (x := x) (lo := -99) (hi := 99) (h := h)
  rw [show (-99 : Int32).toInt64 = -99 by decide, show (99 : Int32).toInt64 = 99 by decide] at t
  simp only [s208_0, s208_1, s208_2, s208_5, s208_8, s208_11, t, Option.bind_some, Option.toList_some, Option.toList_none, List.nil_append, List.cons_append, bI_b]
  unfold faB
  rw [show (99 : Int32) = nI 99 from rfl, Bool.not_or]
end
