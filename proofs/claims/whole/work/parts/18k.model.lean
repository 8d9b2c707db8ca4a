/-! the model: topes, next to one another, steps -/
theorem ev_and1x {J K ρ : Type} (S : Nat → Bool → J → ρ) (Z : Bool → K → ρ) (g : Nat → Bool) (n : Nat) (x1 : ∀ x v, ∃ v', S n x v = Z x v') (o1 : ∀ k v, k < n → ∃ v', S k false v = Z false v') (e1 : ∀ k v, k < n → ∃ v', S k true v = S (k + 1) (g k) v') (x : Bool) (v : J) : ∃ v', S 0 x v = Z (x && (rg 0 n).all g) v' := by
  cases x with
  | true =>
    rw [Bool.true_and]
    exact ev_and1 S Z g n x1 o1 e1 0 (Nat.zero_le _) v
  | false =>
    rw [Bool.false_and]
    rcases Nat.eq_zero_or_pos n with rfl | h
    · exact x1 false v
    · exact o1 0 v h
def TP (m : Mem) (T : List Nat) : Prop := m 0 21 = nI T.length ∧ T.length ≤ 64 ∧ ∀ k, k < T.length → m 13 k = nI (T.getD k 0) ∧ T.getD k 0 < 729
theorem TP_fr {m m' : Mem} {T : List Nat} (h : TP m T) (h0 : m' 0 = m 0) (h1 : m' 13 = m 13) : TP m' T := by
  unfold TP
  rw [h0, h1]
  exact h
def apM (n : Nat) (T : List Nat) (t u : Nat) : Nat := (rg 0 n).foldl (fun s e => if dgN n (T.getD t 0) e = dgN n (T.getD u 0) e then s else s ||| 2 ^ e) 0
theorem or_lt64 {a b : Nat} (ha : a < 64) (hb : b < 64) : a ||| b < 64 := Nat.or_lt_two_pow (show a < 2 ^ 6 from ha) (show b < 2 ^ 6 from hb)
theorem apM_lt {n : Nat} (hn : n ≤ 6) {T : List Nat} {t u : Nat} : apM n T t u < 64 := by
  unfold apM
  refine fold_inv (P := fun s : Nat => s < 64) (fun e he s hs => ?_) (by decide)
  split
  · exact hs
  · exact or_lt64 hs (bt_lt e (by have := rg_mem.mp he; omega))
def nxM (n : Nat) (T : List Nat) (t u : Nat) : Bool := decide (t ≠ u) && (rg 0 T.length).all fun w => decide (w = t) || (decide (w = u) || decide (apM n T w u &&& (apM n T t u ^^^ 4294967295) ≠ 0))
def stB (n : Nat) (T : List Nat) (s a : Nat) (F : Nat → Int32) : Nat → Int32 := if F a = nI s then (rg 0 T.length).foldl (fun F b => upd F b (if F b = -1 ∧ nxM n T b a = true then nI (s + 1) else F b)) F else F
def stA (n : Nat) (T : List Nat) (s : Nat) (F : Nat → Int32) : Nat → Int32 := (rg 0 T.length).foldl (fun F a => stB n T s a F) F
def stW (n : Nat) (T : List Nat) (u : Nat) : Nat → Nat → (Nat → Int32) → Nat → Int32
  | 0, _, F => F
  | k + 1, s, F => if F u = -1 then stW n T u k (s + 1) (stA n T s F) else F
/-- how many steps from one to another -/
def stM (n : Nat) (T : List Nat) (t u : Nat) (F : Nat → Int32) : Int32 := stW n T u T.length 0 F u
def bsN (n : Nat) (T : List Nat) (t : Nat) : Int32 := (rg 0 T.length).foldl (fun x u => x + if nxM n T u t = true then nI 1 else nI 0) (nI 0)
theorem dg_eq {n c c' e e' : Nat} : (dg32 n c e = dg32 n c' e') = (dgN n c e = dgN n c' e') := by
  have : ∀ a, a < 3 → ∀ b, b < 3 → (nI a - nI 1 = nI b - nI 1 ↔ a = b) := by decide
  exact propext (this _ dgN_lt _ dgN_lt)
section
variable {d a b c e f g i n k t u x y : Nat} {m : Mem} {q : MemJ} {h : AH} {v3 v4 v5 v6 v7 : Value} {P : Nat → Bool} {T : List Nat}
theorem x_M_findsTopes (hn : m 1 0 = nI n) (h1 : 1 ≤ n) (hn6 : n ≤ 6) (hI : isM n (m 1)) (hT : (mlD (3 ^ n) (kiP n (m 1) 3)).length ≤ 64) : ∃ m', ev (d + 8) 246 0 [.ref 0, .null] [] (mk shM m q) = some (none, mk shM m' q) ∧ TP m' (mlD (3 ^ n) (kiP n (m 1) 3)) ∧ fr [0, 10, 11, 12, 13] m m' ∧ m' 0 = upd (upd (m 0) 18 (nI (3 ^ n))) 21 (nI (mlD (3 ^ n) (kiP n (m 1) 3)).length) := by
  have hp := p3_le n hn6
  obtain ⟨m1, e1, w1, g1, a1⟩ := x_M_marksKind (d := d) (q := q) (k := 3) hn h1 hn6 hI (by decide)
  have a18 : m1 0 18 = nI (3 ^ n) := by rw [a1]; simp [upd]
  generalize hQ : kiP n (m 1) 3 = Q at w1 hT ⊢
  have L : ∀ i, i ≤ 3 ^ n → ∀ (C : Nat → Int32) (l : Nat), l + (mlD i Q).length ≤ 64 → ∃ C', ev (d + 8) 246 17 [.ref 0, .int (nI i - nI 1)] [] (mk shM (mu (mu m1 0 (upd (m1 0) 21 (nI l))) 13 C) q) = some (none, mk shM (mu (mu m1 0 (upd (m1 0) 21 (nI (l + (mlD i Q).length)))) 13 C') q) ∧ (∀ k, k < l → C' k = C k) ∧ ∀ k, k < (mlD i Q).length → C' (l + k) = nI ((mlD i Q).getD k 0) := by
    intro i
    induction i with
    | zero =>
      intro _ C l _
      refine ⟨C, ?_, fun _ _ => rfl, fun k hk => by simp [mlD, dsc] at hk⟩
      rw [s246_17]
      simp only [s246_0, s246_1, s246_2, s246_5, s246_6, s246_7, s246_10, s246_11, s246_14, s246_15, s246_16, s246_18, s246_21, s246_22, s246_25, s246_26, s246_27, s246_30, s246_31, s246_34, s246_35, s246_38, s246_39, s246_40, s246_41, s246_42, s246_45, s246_46, s246_47, s246_50, s246_53, s246_56, show nI 0 - nI 1 < 0 by decide, if_true]
      rfl
    | succ i ih =>
      intro hi C l hl
      have i1 : nI (i + 1) - nI 1 = nI i := nI_m1 i
      have i2 : nI i + (-1) = nI i - nI 1 := by rw [Int32.sub_eq_add_neg]; rfl
      rw [mlD_c] at hl ⊢
      have wi := w1 i (by omega)
      cases hq : Q i with
      | false =>
        rw [hq] at wi
        simp only [hq, Bool.false_eq_true, if_false] at hl ⊢
        obtain ⟨C', e, h1, h2⟩ := ih (by omega) C l hl
        refine ⟨C', ?_, h1, h2⟩
        rw [i1, s246_17]
        simp only [s246_0, s246_1, s246_2, s246_5, s246_6, s246_7, s246_10, s246_11, s246_14, s246_15, s246_16, s246_18, s246_21, s246_22, s246_25, s246_26, s246_27, s246_30, s246_31, s246_34, s246_35, s246_38, s246_39, s246_40, s246_41, s246_42, s246_45, s246_46, s246_47, s246_50, s246_53, s246_56, nI_pos (show i < 2 ^ 31 by omega), if_false, tM10, nM10, show i < 729 by omega, mu_ne (show (10 : Nat) ≠ 13 by decide), mu_ne (show (10 : Nat) ≠ 0 by decide), wi, bI_z, if_true, i2]
        exact e
      | true =>
        rw [hq] at wi
        simp only [hq, if_true, List.length_cons] at hl ⊢
        obtain ⟨C', e, h1, h2⟩ := ih (by omega) (upd C l (nI i)) (l + 1) (by omega)
        refine ⟨C', ?_, fun k hk => ?_, fun k hk => ?_⟩
        · rw [i1, s246_17]
          have hc : ∀ X : Nat → Int32, mu (mu (mu m1 0 (upd (m1 0) 21 (nI l))) 13 X) 0 (upd (upd (m1 0) 21 (nI l)) 21 (nI (l + 1))) = mu (mu m1 0 (upd (m1 0) 21 (nI (l + 1)))) 13 X := fun X => by
            rw [mu_comm (show (13 : Nat) ≠ 0 by decide), mu_mu, upd_upd]
          simp only [s246_0, s246_1, s246_2, s246_5, s246_6, s246_7, s246_10, s246_11, s246_14, s246_15, s246_16, s246_18, s246_21, s246_22, s246_25, s246_26, s246_27, s246_30, s246_31, s246_34, s246_35, s246_38, s246_39, s246_40, s246_41, s246_42, s246_45, s246_46, s246_47, s246_50, s246_53, s246_56, nI_pos (show i < 2 ^ 31 by omega), if_false, tM10, nM10, tM13, nM13, show i < 729 by omega, mu_ne (show (10 : Nat) ≠ 13 by decide), mu_ne (show (10 : Nat) ≠ 0 by decide), mu_ne (show (0 : Nat) ≠ 13 by decide), mu_same, wi, bI_z, Bool.true_eq_false, i2, show upd (m1 0) 21 (nI l) 21 = nI l by simp [upd], show l < 64 by omega, mu_mu, nI_add, hc]
          rw [e, show l + 1 + (mlD i Q).length = l + ((mlD i Q).length + 1) by omega]
        · rw [h1 k (by omega)]
          simp only [upd]
          rw [if_neg (by omega)]
        · cases k with
          | zero =>
            rw [Nat.add_zero, h1 l (by omega)]
            simp [upd]
          | succ k =>
            have := h2 k (by omega)
            rw [show l + 1 + k = l + (k + 1) by omega] at this
            rw [this, List.getD_cons_succ]
  obtain ⟨C', e2, -, h2⟩ := L (3 ^ n) (Nat.le_refl _) (m1 13) 0 (by omega)
  rw [Nat.zero_add] at e2
  have m13 : mu (mu m1 0 (upd (m1 0) 21 (nI 0))) 13 (m1 13) = mu m1 0 (upd (m1 0) 21 (nI 0)) := by
    have := mu_self (m := mu m1 0 (upd (m1 0) 21 (nI 0))) (k := 13)
    rwa [mu_ne (show (13 : Nat) ≠ 0 by decide)] at this
  rw [m13] at e2
  refine ⟨mu (mu m1 0 (upd (m1 0) 21 (nI (mlD (3 ^ n) Q).length))) 13 C', ?_, ⟨?_, hT, fun k hk => ⟨?_, ?_⟩⟩, fun c hc => ?_, ?_⟩
  · simp only [s246_0, s246_1, s246_2, s246_5, s246_6, s246_7, s246_10, s246_11, s246_14, s246_15, s246_16, s246_18, s246_21, s246_22, s246_25, s246_26, s246_27, s246_30, s246_31, s246_34, s246_35, s246_38, s246_39, s246_40, s246_41, s246_42, s246_45, s246_46, s246_47, s246_50, s246_53, s246_56, e1, Option.bind_some, Option.toList_some, Option.toList_none, List.nil_append, List.cons_append, mu_same, show upd (m1 0) 21 (nI 0) 18 = nI (3 ^ n) by simp [upd, a18], e2]
  · rw [mu_ne (by decide), mu_same]; simp [upd]
  · rw [mu_same]
    have := h2 k hk
    rwa [Nat.zero_add] at this
  · have := mlD_lt hk; omega
  · rw [mu_ne (fun e => hc (by simp [e])), mu_ne (fun e => hc (by simp [e]))]
    exact g1 c (by simp at hc ⊢; omega)
  · rw [mu_ne (by decide), mu_same, a1]
theorem x_M_apart (hn : m 1 0 = nI n) (hn6 : n ≤ 6) (hT : TP m T) (ht : t < T.length) (hu : u < T.length) : ev (d + 2) 248 0 [.ref 0, .int (nI t), .int (nI u), .null, .null] [] (mk shM m q) = some (some (.int (nI (apM n T t u))), mk shM m q) := by
  obtain ⟨h1, h2, h3⟩ := hT
  have L := ev_for1 (fun _ => True) (fun e (s : Nat) (_ : Unit) => ev (d + 2) 248 5 [.ref 0, .int (nI t), .int (nI u), .int (nI s), .int (nI e)] [] (mk shM m q)) (fun s => some (some (.int (nI s)), mk shM m q)) (fun e s => if dgN n (T.getD t 0) e = dgN n (T.getD u 0) e then s else s ||| 2 ^ e) n
    (fun s _ _ => by rw [s248_5]; simp only [s248_0, s248_1, s248_2, s248_3, s248_7, s248_8, s248_11, s248_14, s248_15, s248_16, s248_19, s248_20, s248_21, s248_22, s248_25, s248_27, s248_30, s248_31, s248_34, s248_35, s248_36, s248_37, s248_40, s248_42, s248_45, s248_48, s248_49, s248_51, s248_52, s248_55, s248_56, s248_57, s248_58, s248_61, s248_64, s248_65, x_M_n, hn, Option.bind_some, Option.toList_some, Option.toList_none, List.nil_append, List.cons_append, nI_irr, if_false])
    (fun _ _ _ _ => trivial)
    (fun e s _ he _ => ⟨(), by
      have d1 := x_M_digit (d := d) (h := mk shM m q) (h3 t ht).2 hn6 he
      have d2 := x_M_digit (d := d) (h := mk shM m q) (h3 u hu).2 hn6 he
      rw [s248_5]
      simp only [s248_0, s248_1, s248_2, s248_3, s248_7, s248_8, s248_11, s248_14, s248_15, s248_16, s248_19, s248_20, s248_21, s248_22, s248_25, s248_27, s248_30, s248_31, s248_34, s248_35, s248_36, s248_37, s248_40, s248_42, s248_45, s248_48, s248_49, s248_51, s248_52, s248_55, s248_56, s248_57, s248_58, s248_61, s248_64, s248_65, x_M_n, hn, Option.bind_some, Option.toList_some, Option.toList_none, List.nil_append, List.cons_append, nI_lt he (show n < 2 ^ 31 by omega), if_true, tM13, nM13, show t < 64 by omega, show u < 64 by omega, (h3 t ht).1, (h3 u hu).1, d1, d2, dg_eq]
      by_cases z : dgN n (T.getD t 0) e = dgN n (T.getD u 0) e
      · simp only [eq_true z, if_true, s248_0, s248_1, s248_2, s248_3, s248_7, s248_8, s248_11, s248_14, s248_15, s248_16, s248_19, s248_20, s248_21, s248_22, s248_25, s248_27, s248_30, s248_31, s248_34, s248_35, s248_36, s248_37, s248_40, s248_42, s248_45, s248_48, s248_49, s248_51, s248_52, s248_55, s248_56, s248_57, s248_58, s248_61, s248_64, s248_65, nI_or, Nat.or_zero, nI_add]
      · simp only [eq_false z, if_false, s248_0, s248_1, s248_2, s248_3, s248_7, s248_8, s248_11, s248_14, s248_15, s248_16, s248_19, s248_20, s248_21, s248_22, s248_25, s248_27, s248_30, s248_31, s248_34, s248_35, s248_36, s248_37, s248_40, s248_42, s248_45, s248_48, s248_49, s248_51, s248_52, s248_55, s248_56, s248_57, s248_58, s248_61, s248_64, s248_65, bt_sh e (by omega), nI_or, nI_add]⟩) 0 (Nat.zero_le _) 0 () trivial
  simp only [s248_0, s248_1, s248_2, s248_3, s248_7, s248_8, s248_11, s248_14, s248_15, s248_16, s248_19, s248_20, s248_21, s248_22, s248_25, s248_27, s248_30, s248_31, s248_34, s248_35, s248_36, s248_37, s248_40, s248_42, s248_45, s248_48, s248_49, s248_51, s248_52, s248_55, s248_56, s248_57, s248_58, s248_61, s248_64, s248_65]
  exact L
theorem x_M_isNext (hn : m 1 0 = nI n) (hn6 : n ≤ 6) (hT : TP m T) (ht : t < T.length) (hu : u < T.length) : ev (d + 3) 247 0 [.ref 0, .int (nI t), .int (nI u), .null, .null] [] (mk shM m q) = some (some (.int (bI (nxM n T t u))), mk shM m q) := by
  have h1 := hT.1
  have h2 := hT.2.1
  have L := fun x0 => ev_and1x (fun k (x : Bool) (v : Unit) => ev (d + 3) 247 14 [.ref 0, .int (nI t), .int (nI u), .int (bI x), .int (nI k)] [] (mk shM m q)) (fun x (v : Unit) => some (some (.int (bI x)), mk shM m q)) (fun w => decide (w = t) || (decide (w = u) || decide (apM n T w u &&& (apM n T t u ^^^ 4294967295) ≠ 0))) T.length
    (fun x v => ⟨(), by rw [s247_14]; simp only [s247_0, s247_1, s247_2, s247_5, s247_6, s247_9, s247_10, s247_11, s247_12, s247_16, s247_17, s247_20, s247_23, s247_24, s247_27, s247_29, s247_30, s247_33, s247_35, s247_36, s247_39, s247_40, s247_42, s247_43, s247_46, s247_47, s247_48, s247_49, s247_52, s247_53, s247_54, s247_55, s247_58, s247_59, s247_62, s247_63, s247_64, s247_67, s247_70, s247_71, h1, nI_irr, if_false, bI_b]⟩)
    (fun k v hk => ⟨(), by rw [s247_14]; simp only [s247_0, s247_1, s247_2, s247_5, s247_6, s247_9, s247_10, s247_11, s247_12, s247_16, s247_17, s247_20, s247_23, s247_24, s247_27, s247_29, s247_30, s247_33, s247_35, s247_36, s247_39, s247_40, s247_42, s247_43, s247_46, s247_47, s247_48, s247_49, s247_52, s247_53, s247_54, s247_55, s247_58, s247_59, s247_62, s247_63, s247_64, s247_67, s247_70, s247_71, h1, nI_lt hk (show T.length < 2 ^ 31 by omega), if_true, bI_z, bI_b]⟩)
    (fun k v hk => ⟨(), by
      have a1 := x_M_apart (d := d) (q := q) hn hn6 hT hk hu
      have a2 := x_M_apart (d := d) (q := q) hn hn6 hT ht hu
      have e1 := nI_eq (show k < 2 ^ 31 by omega) (show t < 2 ^ 31 by omega)
      have e2 := nI_eq (show k < 2 ^ 31 by omega) (show u < 2 ^ 31 by omega)
      have lt : apM n T k u &&& (apM n T t u ^^^ 4294967295) < 2 ^ 32 := Nat.lt_of_le_of_lt Nat.and_le_left (by have := apM_lt hn6 (T := T) (t := k) (u := u); omega)
      rw [s247_14]
      by_cases c1 : k = t
      · simp only [s247_0, s247_1, s247_2, s247_5, s247_6, s247_9, s247_10, s247_11, s247_12, s247_16, s247_17, s247_20, s247_23, s247_24, s247_27, s247_29, s247_30, s247_33, s247_35, s247_36, s247_39, s247_40, s247_42, s247_43, s247_46, s247_47, s247_48, s247_49, s247_52, s247_53, s247_54, s247_55, s247_58, s247_59, s247_62, s247_63, s247_64, s247_67, s247_70, s247_71, h1, nI_lt hk (show T.length < 2 ^ 31 by omega), if_true, bI_z, Bool.true_eq_false, if_false, e1, eq_true c1, decide_true, Bool.true_or, bI_t, nI_add, nI10]
      · by_cases c2 : k = u
        · simp only [s247_0, s247_1, s247_2, s247_5, s247_6, s247_9, s247_10, s247_11, s247_12, s247_16, s247_17, s247_20, s247_23, s247_24, s247_27, s247_29, s247_30, s247_33, s247_35, s247_36, s247_39, s247_40, s247_42, s247_43, s247_46, s247_47, s247_48, s247_49, s247_52, s247_53, s247_54, s247_55, s247_58, s247_59, s247_62, s247_63, s247_64, s247_67, s247_70, s247_71, h1, nI_lt hk (show T.length < 2 ^ 31 by omega), if_true, bI_z, Bool.true_eq_false, if_false, e1, eq_false c1, e2, eq_true c2, decide_true, decide_false, Bool.true_or, Bool.or_true, bI_t, nI_add, nI10]
        · simp only [s247_0, s247_1, s247_2, s247_5, s247_6, s247_9, s247_10, s247_11, s247_12, s247_16, s247_17, s247_20, s247_23, s247_24, s247_27, s247_29, s247_30, s247_33, s247_35, s247_36, s247_39, s247_40, s247_42, s247_43, s247_46, s247_47, s247_48, s247_49, s247_52, s247_53, s247_54, s247_55, s247_58, s247_59, s247_62, s247_63, s247_64, s247_67, s247_70, s247_71, h1, nI_lt hk (show T.length < 2 ^ 31 by omega), if_true, bI_z, Bool.true_eq_false, if_false, e1, eq_false c1, e2, eq_false c2, a1, a2, Option.bind_some, Option.toList_some, Option.toList_none, List.nil_append, List.cons_append, nI_neg1, nI_xor, nI_and, nI_z32 lt, decide_false, Bool.false_or]
          by_cases z : apM n T k u &&& (apM n T t u ^^^ 4294967295) = 0
          · simp only [z, if_true, ne_eq, not_true, decide_false, bI_f, s247_0, s247_1, s247_2, s247_5, s247_6, s247_9, s247_10, s247_11, s247_12, s247_16, s247_17, s247_20, s247_23, s247_24, s247_27, s247_29, s247_30, s247_33, s247_35, s247_36, s247_39, s247_40, s247_42, s247_43, s247_46, s247_47, s247_48, s247_49, s247_52, s247_53, s247_54, s247_55, s247_58, s247_59, s247_62, s247_63, s247_64, s247_67, s247_70, s247_71, nI_add]
          · simp only [z, if_false, ne_eq, not_false_eq_true, decide_true, bI_t, s247_0, s247_1, s247_2, s247_5, s247_6, s247_9, s247_10, s247_11, s247_12, s247_16, s247_17, s247_20, s247_23, s247_24, s247_27, s247_29, s247_30, s247_33, s247_35, s247_36, s247_39, s247_40, s247_42, s247_43, s247_46, s247_47, s247_48, s247_49, s247_52, s247_53, s247_54, s247_55, s247_58, s247_59, s247_62, s247_63, s247_64, s247_67, s247_70, s247_71, nI_add]⟩) x0 ()
  have e0 := nI_eq (show t < 2 ^ 31 by omega) (show u < 2 ^ 31 by omega)
  unfold nxM
  by_cases htu : t = u
  · obtain ⟨_, hL⟩ := L false
    rw [bI_f] at hL
    simp only [s247_0, s247_1, s247_2, s247_5, s247_6, s247_9, s247_10, s247_11, s247_12, s247_16, s247_17, s247_20, s247_23, s247_24, s247_27, s247_29, s247_30, s247_33, s247_35, s247_36, s247_39, s247_40, s247_42, s247_43, s247_46, s247_47, s247_48, s247_49, s247_52, s247_53, s247_54, s247_55, s247_58, s247_59, s247_62, s247_63, s247_64, s247_67, s247_70, s247_71, e0, eq_true htu, if_true, ne_eq, not_true, decide_false]
    exact hL
  · obtain ⟨_, hL⟩ := L true
    rw [bI_t] at hL
    simp only [s247_0, s247_1, s247_2, s247_5, s247_6, s247_9, s247_10, s247_11, s247_12, s247_16, s247_17, s247_20, s247_23, s247_24, s247_27, s247_29, s247_30, s247_33, s247_35, s247_36, s247_39, s247_40, s247_42, s247_43, s247_46, s247_47, s247_48, s247_49, s247_52, s247_53, s247_54, s247_55, s247_58, s247_59, s247_62, s247_63, s247_64, s247_67, s247_70, s247_71, e0, eq_false htu, if_false, ne_eq, not_false_eq_true, decide_true]
    exact hL
theorem x_M_steps {F0 : Nat → Int32} (hn : m 1 0 = nI n) (hn6 : n ≤ 6) (hT : TP m T) (ht : t < T.length) (hu : u < T.length) (hF0 : ∀ k, k < 64 → F0 k = if k = t then nI 0 else -1) : ∃ F1 F2, (∀ k, k < 64 → F1 k = F0 k) ∧ ev (d + 4) 251 0 [.ref 0, .int (nI t), .int (nI u), .null, .null, .null] [] (mk shM m q) = some (some (.int (stM n T t u F1)), mk shM (mu m 14 F2) q) := by
  obtain ⟨h1, h2, h3⟩ := id hT
  -- the first: far from it
  obtain ⟨⟨F1, u1⟩, hF1, e1⟩ := ev_up (fun i (w : (Nat → Int32) × Unit) => ∀ k, k < i → w.1 k = if k = t then nI 0 else -1) (fun i w => ev (d + 4) 251 2 [.ref 0, .int (nI t), .int (nI u), .int (nI i), .null, .null] [] (mk shM (mu m 14 w.1) q)) 64 (m 14, ()) (fun k hk => by omega)
    (fun i w hi hw => ⟨(upd w.1 i (if i = t then nI 0 else -1), ()), fun k hk => by
      simp only [upd]
      by_cases hki : k = i
      · rw [if_pos hki, hki]
      · rw [if_neg hki]; exact hw k (by omega), by
      rw [s251_2]
      by_cases hit : i = t
      · simp only [s251_3, s251_5, s251_8, s251_9, s251_12, s251_13, s251_14, s251_15, s251_18, s251_19, s251_22, s251_23, s251_24, s251_27, s251_30, s251_31, nI_lt hi (show 64 < 2 ^ 31 by decide), if_true, tM14, nM14, hi, nI_eq (show i < 2 ^ 31 by omega) (show t < 2 ^ 31 by omega), eq_true hit, mu_mu, mu_same, nI_add]
      · simp only [s251_3, s251_5, s251_8, s251_9, s251_12, s251_13, s251_14, s251_15, s251_18, s251_19, s251_22, s251_23, s251_24, s251_27, s251_30, s251_31, nI_lt hi (show 64 < 2 ^ 31 by decide), if_true, tM14, nM14, hi, nI_eq (show i < 2 ^ 31 by omega) (show t < 2 ^ 31 by omega), eq_false hit, if_false, mu_mu, mu_same, nI_add]⟩) 64 (Nat.le_refl _)
  rw [mu_self] at e1
  have len : ∀ F : Nat → Int32, mu m 14 F 0 21 = nI T.length := fun F => by rw [mu_ne (by decide)]; exact h1
  have nx : ∀ {F : Nat → Int32} {x y : Nat}, x < T.length → y < T.length → ev (d + 3) 247 0 [.ref 0, .int (nI x), .int (nI y), .null, .null] [] (mk shM (mu m 14 F) q) = some (some (.int (bI (nxM n T x y))), mk shM (mu m 14 F) q) := fun hx hy => x_M_isNext (by rw [mu_ne (by decide)]; exact hn) hn6 (TP_fr hT (mu_ne (by decide)) (mu_ne (by decide))) hx hy
  -- one step from one
  have B : ∀ (s a : Nat) (F : Nat → Int32) (v5 : Value), s < 64 → a < T.length → ∃ v', ev (d + 4) 251 53 [.ref 0, .int (nI t), .int (nI u), .int (nI s), .int (nI a), v5] [] (mk shM (mu m 14 F) q) = ev (d + 4) 251 53 [.ref 0, .int (nI t), .int (nI u), .int (nI s), .int (nI (a + 1)), v'] [] (mk shM (mu m 14 (stB n T s a F)) q) := fun s a F v5 hs ha => by
    unfold stB
    have hT0 : 0 < T.length := by omega
    by_cases hF : F a = nI s
    · rw [if_pos hF]
      have L := ev_for1 (fun F : Nat → Int32 => F a = nI s) (fun b (F : Nat → Int32) (_ : Unit) => ev (d + 4) 251 65 [.ref 0, .int (nI t), .int (nI u), .int (nI s), .int (nI a), .int (nI b)] [] (mk shM (mu m 14 F) q)) (fun F => ev (d + 4) 251 53 [.ref 0, .int (nI t), .int (nI u), .int (nI s), .int (nI (a + 1)), .int (nI T.length)] [] (mk shM (mu m 14 F) q)) (fun b F => upd F b (if F b = -1 ∧ nxM n T b a = true then nI (s + 1) else F b)) T.length
        (fun F _ _ => by rw [s251_65]; simp only [s251_67, s251_68, s251_71, s251_74, s251_75, s251_78, s251_80, s251_81, s251_82, s251_85, s251_86, s251_89, s251_91, s251_92, s251_95, s251_97, s251_98, s251_99, s251_102, s251_103, s251_105, s251_107, s251_110, s251_113, s251_114, s251_115, s251_116, s251_119, s251_120, s251_123, s251_125, s251_126, s251_127, s251_130, s251_133, s251_136, s251_139, len, nI_irr, if_false, nI_add])
        (fun b F hb hx => by
          simp only [upd]
          by_cases hab : a = b
          · rw [if_pos hab, ← hab, if_neg (fun h => by
              rw [hx] at h
              have := congrArg Int32.toInt h.1
              rw [nI_toInt (by omega), show (-1 : Int32).toInt = -1 from by decide] at this
              omega)]
            exact hx
          · rw [if_neg hab]
            exact hx)
        (fun b F _ hb hx => ⟨(), by
          rw [s251_65]
          simp only [s251_67, s251_68, s251_71, s251_74, s251_75, s251_78, s251_80, s251_81, s251_82, s251_85, s251_86, s251_89, s251_91, s251_92, s251_95, s251_97, s251_98, s251_99, s251_102, s251_103, s251_105, s251_107, s251_110, s251_113, s251_114, s251_115, s251_116, s251_119, s251_120, s251_123, s251_125, s251_126, s251_127, s251_130, s251_133, s251_136, s251_139, len, nI_lt hb (show T.length < 2 ^ 31 by omega), if_true, tM14, nM14, show a < 64 by omega, show b < 64 by omega, mu_same, hx]
          by_cases hb1 : F b = -1
          · simp only [hb1, if_true, true_and, s251_103, s251_105, s251_107, s251_110, s251_113, s251_114, s251_115, s251_116, s251_119, s251_120, s251_123, s251_125, s251_126, s251_127, s251_130, s251_133, s251_136, s251_139, nx hb ha, Option.bind_some, Option.toList_some, Option.toList_none, List.nil_append, List.cons_append, bI_z]
            cases nxM n T b a with
            | true => simp only [Bool.true_eq_false, if_false, if_true, s251_103, s251_105, s251_107, s251_110, s251_113, s251_114, s251_115, s251_116, s251_119, s251_120, s251_123, s251_125, s251_126, s251_127, s251_130, s251_133, s251_136, s251_139, nI_add, tM14, nM14, show b < 64 by omega, mu_same, mu_mu]
            | false => simp only [Bool.false_eq_true, if_false, if_true, s251_103, s251_105, s251_107, s251_110, s251_113, s251_114, s251_115, s251_116, s251_119, s251_120, s251_123, s251_125, s251_126, s251_127, s251_130, s251_133, s251_136, s251_139, nI_add, tM14, nM14, show b < 64 by omega, mu_same, mu_mu, hb1]
          · simp only [hb1, if_false, false_and, s251_103, s251_105, s251_107, s251_110, s251_113, s251_114, s251_115, s251_116, s251_119, s251_120, s251_123, s251_125, s251_126, s251_127, s251_130, s251_133, s251_136, s251_139, nI_add, tM14, nM14, show b < 64 by omega, mu_same, mu_mu]⟩) 0 (Nat.zero_le _) F () hF
      refine ⟨.int (nI T.length), ?_⟩
      rw [← L, s251_53]
      simp only [s251_55, s251_56, s251_59, s251_62, s251_63, len, nI_lt ha (show T.length < 2 ^ 31 by omega), if_true]
    · rw [if_neg hF]
      refine ⟨.int (nI 0), ?_⟩
      rw [s251_53]
      simp only [s251_55, s251_56, s251_59, s251_62, s251_63, len, nI_lt ha (show T.length < 2 ^ 31 by omega), if_true]
      rw [s251_65]
      simp only [s251_67, s251_68, s251_71, s251_74, s251_75, s251_78, s251_80, s251_81, s251_82, s251_85, s251_86, s251_89, s251_91, s251_92, s251_95, s251_97, s251_98, s251_99, s251_102, s251_103, s251_105, s251_107, s251_110, s251_113, s251_114, s251_115, s251_116, s251_119, s251_120, s251_123, s251_125, s251_126, s251_127, s251_130, s251_133, s251_136, s251_139, len, nI_lt hT0 (show T.length < 2 ^ 31 by omega), if_true, tM14, nM14, show a < 64 by omega, mu_same, hF, if_false, nI_add]
  -- one step from all
  have A : ∀ (s : Nat) (F : Nat → Int32) (v5 : Value), s < 64 → ∃ v', ev (d + 4) 251 53 [.ref 0, .int (nI t), .int (nI u), .int (nI s), .int (nI 0), v5] [] (mk shM (mu m 14 F) q) = ev (d + 4) 251 32 [.ref 0, .int (nI t), .int (nI u), .int (nI (s + 1)), .int (nI T.length), v'] [] (mk shM (mu m 14 (stA n T s F)) q) := fun s F v5 hs =>
    ev_for1e (fun _ => True) (fun a (F : Nat → Int32) (v : Value) => ev (d + 4) 251 53 [.ref 0, .int (nI t), .int (nI u), .int (nI s), .int (nI a), v] [] (mk shM (mu m 14 F) q)) (fun F v => ev (d + 4) 251 32 [.ref 0, .int (nI t), .int (nI u), .int (nI (s + 1)), .int (nI T.length), v] [] (mk shM (mu m 14 F) q)) (fun a F => stB n T s a F) T.length
      (fun F v _ => ⟨v, by rw [s251_53]; simp only [s251_55, s251_56, s251_59, s251_62, s251_63, s251_67, s251_68, s251_71, s251_74, s251_75, s251_78, s251_80, s251_81, s251_82, s251_85, s251_86, s251_89, s251_91, s251_92, s251_95, s251_97, s251_98, s251_99, s251_102, s251_103, s251_105, s251_107, s251_110, s251_113, s251_114, s251_115, s251_116, s251_119, s251_120, s251_123, s251_125, s251_126, s251_127, s251_130, s251_133, s251_136, s251_139, s251_142, s251_145, len, nI_irr, if_false, nI_add]⟩)
      (fun _ _ _ _ => trivial)
      (fun a F v ha _ => B s a F v hs ha) 0 (Nat.zero_le _) F v5 trivial
  have W : ∀ k s (F : Nat → Int32) (v4 v5 : Value), s + k = T.length → ∃ F2, ev (d + 4) 251 32 [.ref 0, .int (nI t), .int (nI u), .int (nI s), v4, v5] [] (mk shM (mu m 14 F) q) = some (some (.int (stW n T u k s F u)), mk shM (mu m 14 F2) q) := by
    intro k
    induction k with
    | zero =>
      intro s F v4 v5 hs
      obtain rfl : s = T.length := by omega
      refine ⟨F, ?_⟩
      rw [s251_32]
      simp only [s251_33, s251_34, s251_37, s251_40, s251_41, s251_44, s251_45, s251_46, s251_47, s251_50, s251_51, s251_55, s251_56, s251_59, s251_62, s251_63, s251_67, s251_68, s251_71, s251_74, s251_75, s251_78, s251_80, s251_81, s251_82, s251_85, s251_86, s251_89, s251_91, s251_92, s251_95, s251_97, s251_98, s251_99, s251_102, s251_103, s251_105, s251_107, s251_110, s251_113, s251_114, s251_115, s251_116, s251_119, s251_120, s251_123, s251_125, s251_126, s251_127, s251_130, s251_133, s251_136, s251_139, s251_142, s251_145, s251_146, s251_149, s251_150, s251_151, len, nI_irr, if_false, tM14, nM14, show u < 64 by omega, mu_same, stW]
    | succ k ih =>
      intro s F v4 v5 hs
      have hsl : s < T.length := by omega
      unfold stW
      by_cases hF : F u = -1
      · rw [if_pos hF]
        obtain ⟨v', hA⟩ := A s F v5 (by omega)
        obtain ⟨F2, hW⟩ := ih (s + 1) (stA n T s F) (.int (nI T.length)) v' (by omega)
        refine ⟨F2, ?_⟩
        rw [s251_32]
        simp only [s251_33, s251_34, s251_37, s251_40, s251_41, s251_44, s251_45, s251_46, s251_47, s251_50, s251_51, len, nI_lt hsl (show T.length < 2 ^ 31 by omega), if_true, tM14, nM14, show u < 64 by omega, mu_same, hF]
        exact hA.trans hW
      · rw [if_neg hF]
        refine ⟨F, ?_⟩
        rw [s251_32]
        simp only [s251_33, s251_34, s251_37, s251_40, s251_41, s251_44, s251_45, s251_46, s251_47, s251_50, s251_51, s251_145, s251_146, s251_149, s251_150, s251_151, len, nI_lt hsl (show T.length < 2 ^ 31 by omega), if_true, tM14, nM14, show u < 64 by omega, mu_same, hF, if_false]
  obtain ⟨F2, hW⟩ := W T.length 0 F1 .null .null (Nat.zero_add _)
  refine ⟨F1, F2, fun k hk => by rw [hF0 k hk]; exact hF1 k hk, ?_⟩
  simp only [s251_0, s251_1]
  refine e1.trans ?_
  rw [s251_2]
  simp only [s251_3, s251_5, s251_8, s251_9, s251_12, s251_13, s251_14, s251_15, s251_18, s251_19, s251_22, s251_23, s251_24, s251_27, s251_30, s251_31, nI_irr, if_false]
  exact hW
end
