/-! the model: vectors marked -/
/-- a loop upwards: what holds at each head -/
theorem ev_up {J ρ : Type} (Rel : Nat → J → Prop) (S : Nat → J → ρ) (N : Nat) (v0 : J) (h0 : Rel 0 v0) (hst : ∀ i v, i < N → Rel i v → ∃ v', Rel (i + 1) v' ∧ S i v = S (i + 1) v') : ∀ i, i ≤ N → ∃ v, Rel i v ∧ S 0 v0 = S i v := by
  intro i
  induction i with
  | zero => exact fun _ => ⟨v0, h0, rfl⟩
  | succ i ih =>
    intro hi
    obtain ⟨v, r, e⟩ := ih (by omega)
    obtain ⟨v', r', e'⟩ := hst i v (by omega) r
    exact ⟨v', r', e.trans e'⟩
/-- a loop that ends early once its state is false -/
theorem ev_and1 {J K ρ : Type} (S : Nat → Bool → J → ρ) (Z : Bool → K → ρ) (g : Nat → Bool) (n : Nat) (x1 : ∀ x v, ∃ v', S n x v = Z x v') (o1 : ∀ k v, k < n → ∃ v', S k false v = Z false v') (e1 : ∀ k v, k < n → ∃ v', S k true v = S (k + 1) (g k) v') : ∀ i, i ≤ n → ∀ v, ∃ v', S i true v = Z ((rg i n).all g) v' := by
  have of : ∀ k v, k ≤ n → ∃ v', S k false v = Z false v' := fun k v hk => by
    rcases Nat.lt_or_ge k n with h | h
    · exact o1 k v h
    · obtain rfl : k = n := by omega
      exact x1 false v
  intro i hi
  obtain ⟨k, hk⟩ : ∃ k, n = i + k := ⟨n - i, by omega⟩
  induction k generalizing i with
  | zero =>
    intro v
    obtain rfl : i = n := by omega
    rw [rg_end]
    exact x1 true v
  | succ k ih =>
    intro v
    rw [rg_cons (show i < n by omega), List.all_cons]
    obtain ⟨v1, h1⟩ := e1 i v (by omega)
    cases hg : g i with
    | true =>
      rw [hg] at h1
      obtain ⟨v2, h2⟩ := ih (i + 1) (by omega) (by omega) v1
      exact ⟨v2, by rw [h1, h2, Bool.true_and]⟩
    | false =>
      rw [hg] at h1
      obtain ⟨v2, h2⟩ := of (i + 1) v1 (by omega)
      exact ⟨v2, by rw [h1, h2, Bool.false_and]⟩
theorem cdF_lt' {D : Nat → Nat} : ∀ n, (∀ e, e < n → D e < 3) → cdF n D < 3 ^ n := by
  intro n
  induction n with
  | zero => intro _; exact Nat.lt_succ_self 0
  | succ n ih =>
    intro h
    unfold cdF at ih ⊢
    have e : rg 0 (n + 1) = rg 0 n ++ [n] := by simp [rg, List.range'_concat]
    rw [e, List.foldl_append]
    simp only [List.foldl_cons, List.foldl_nil]
    have h1 := ih fun e he => h e (by omega)
    have h2 := h n (by omega)
    rw [Nat.pow_succ]
    omega
def MK (m : Mem) (P : Nat → Bool) : Prop := ∀ i, i < 729 → m 10 i = bI (P i)
theorem MK_fr {m m' : Mem} {P : Nat → Bool} (h : MK m P) (h0 : m' 10 = m 10) : MK m' P := by
  unfold MK
  rw [h0]
  exact h
def setB (P : Nat → Bool) (c : Nat) (b : Bool) : Nat → Bool := fun i => if i = c then b else P i
theorem MK_upd {m : Mem} {P : Nat → Bool} {c : Nat} {b : Bool} (h : MK m P) : MK (mu m 10 (upd (m 10) c (bI b))) (setB P c b) := by
  intro i hi
  rw [mu_same]
  unfold setB
  simp only [upd]
  by_cases e : i = c
  · rw [if_pos e, if_pos e]
  · rw [if_neg e, if_neg e]
    exact h i hi
theorem narb (b : Bool) : vp_nar .boolean (bI b) = bI b := by cases b <;> decide
/-- a vector and its opposite are marked -/
def mbP (n c : Nat) (P : Nat → Bool) : Nat → Bool := if zrN n c < n then setB (setB P c true) (3 ^ n - 1 - c) true else P
def isSR (R : Nat → Int32) : Prop := ∀ a b c, a < 6 → b < 6 → c < 6 → isSg (mS R a b c)
def isSn (n : Nat) (R : Nat → Int32) : Prop := ∀ a b c, a < n → b < n → c < n → isSg (mS R a b c)
def cirM (R : Nat → Int32) (a b c d e : Nat) : Int32 := if e = d then -(mS R a b c) else if e = c then mS R a b d else if e = b then -(mS R a c d) else if e = a then mS R b c d else 0
theorem cirM_sg {R : Nat → Int32} {n a b c d e : Nat} (h : isSn n R) (ha : a < n) (hb : b < n) (hc : c < n) (hd : d < n) : isSg (cirM R a b c d e) := by
  unfold cirM
  split
  · exact isSg_neg (h _ _ _ ha hb hc)
  · split
    · exact h _ _ _ ha hb hd
    · split
      · exact isSg_neg (h _ _ _ ha hc hd)
      · split
        · exact h _ _ _ hb hc hd
        · exact Or.inr (Or.inl rfl)
def cocP (n : Nat) (R : Nat → Int32) (P : Nat → Bool) : Nat → Bool := (prs n).foldl (fun P t => mbP n (cdF n fun e => sd (mS R t.1 t.2 e)) P) P
def cirP (n : Nat) (R : Nat → Int32) (P : Nat → Bool) : Nat → Bool := (quad n).foldl (fun P t => mbP n (cdF n fun e => sd (cirM R t.1 t.2.1 t.2.2.1 t.2.2.2 e)) P) P
section
variable {d a b c e f g i n k t u : Nat} {m : Mem} {q : MemJ} {h : AH} {v3 v4 v5 v6 v7 : Value} {P : Nat → Bool}
theorem x_M_marksBoth {D : Nat → Nat} (hn : m 1 0 = nI n) (h1 : 1 ≤ n) (hn6 : n ≤ 6) (hD : ∀ e, e < n → m 11 e + nI 1 = nI (D e) ∧ D e < 3) (hP : MK m P) : ∃ m', ev (d + 3) 235 0 [.ref 0, .null] [] (mk shM m q) = some (none, mk shM m' q) ∧ MK m' (mbP n (cdF n D) P) ∧ fr [10] m m' := by
  have hc := cdF_lt' n fun e he => (hD e he).2
  have hp := p3_le n hn6
  have co := x_M_codeOf (d := d + 1) (m := m) (q := q) hn hn6 fun e he => (hD e he).1
  generalize cdF n D = c at hc co
  have zr : zrN n c < 100 := by
    have : ∀ (l : List Nat) (x : Nat), l.foldl (fun x e => if dgN n c e = 1 then x + 1 else x) x ≤ x + l.length := by
      intro l
      induction l with
      | nil => intro x; exact Nat.le_refl _
      | cons a l ih =>
        intro x
        rw [List.foldl_cons, List.length_cons]
        have := ih (if dgN n c a = 1 then x + 1 else x)
        split at this <;> split <;> omega
    have := this (rg 0 n) 0
    rw [rg_len] at this
    unfold zrN
    omega
  unfold mbP
  by_cases z : zrN n c < n
  · rw [if_pos z]
    have M1 := MK_upd (c := c) (b := true) hP
    have M2 := MK_upd (c := 3 ^ n - 1 - c) (b := true) M1
    rw [mu_same, mu_mu, bI_t] at M2
    refine ⟨_, ?_, M2, fun i hi => mu_ne (fun e => hi (by simp [e]))⟩
    simp only [s235_0, s235_1, s235_4, s235_5, s235_6, s235_7, s235_10, s235_13, s235_14, s235_17, s235_20, s235_21, s235_24, s235_25, s235_26, s235_27, s235_28, s235_31, s235_32, s235_35, s235_38, s235_39, s235_40, s235_41, s235_42, s235_43, s235_44, co, Option.bind_some, Option.toList_some, Option.toList_none, List.nil_append, List.cons_append, x_M_n, hn, x_M_zeros (show c < 729 by omega) hn6, nI_ltI (show zrN n c < 2 ^ 31 by omega) (show n < 2 ^ 31 by omega), z, if_true, tM10, nM10, show c < 729 by omega, nar1, mu_ne (show (1 : Nat) ≠ 10 by decide), x_M_power hn6, nI_sub (show 1 ≤ 3 ^ n by omega), nI_sub (show c ≤ 3 ^ n - 1 by omega), show 3 ^ n - 1 - c < 729 by omega, mu_mu, mu_same]
  · rw [if_neg z]
    refine ⟨m, ?_, hP, fr_rfl⟩
    simp only [s235_0, s235_1, s235_4, s235_5, s235_6, s235_7, s235_10, s235_13, s235_14, s235_17, s235_20, s235_21, s235_24, s235_25, s235_26, s235_27, s235_28, s235_31, s235_32, s235_35, s235_38, s235_39, s235_40, s235_41, s235_42, s235_43, s235_44, co, Option.bind_some, Option.toList_some, Option.toList_none, List.nil_append, List.cons_append, x_M_n, hn, x_M_zeros (show c < 729 by omega) hn6, nI_ltI (show zrN n c < 2 ^ 31 by omega) (show n < 2 ^ 31 by omega), z, if_false]
theorem fr_at {cs : List Nat} {m m' : Mem} (h : fr cs m m') (c : Nat) (hc : ¬ c ∈ cs) : m' c = m c := h c hc
theorem x_M_marksCocircuits (hn : m 1 0 = nI n) (h1 : 1 ≤ n) (hn6 : n ≤ 6) (hS : isSn n (m 1)) (hP : MK m P) : ∃ m', ev (d + 4) 234 0 [.ref 0, .null, .null, .null] [] (mk shM m q) = some (none, mk shM m' q) ∧ MK m' (cocP n (m 1) P) ∧ fr [10, 11] m m' := by
  obtain ⟨⟨m2, v2⟩, ⟨w2, g2⟩, e2⟩ := ev_rel2 (fun P (v : Mem × Value × Value) => MK v.1 P ∧ fr [10, 11] m v.1) (fun a v => ev (d + 4) 234 2 [.ref 0, .int (nI a), v.2.1, v.2.2] [] (mk shM v.1 q))
    (fun a b v => ev (d + 4) 234 14 [.ref 0, .int (nI a), .int (nI b), v.2.2] [] (mk shM v.1 q))
    (fun v => some (none, mk shM v.1 q)) (fun a b P => mbP n (cdF n fun e => sd (mS (m 1) a b e)) P) n
    (fun P v h => ⟨v, h, by
      rw [s234_2]
      simp only [s234_0, s234_1, s234_3, s234_4, s234_7, s234_10, s234_11, s234_12, s234_13, s234_15, s234_16, s234_19, s234_22, s234_23, s234_25, s234_26, s234_29, s234_32, s234_33, s234_36, s234_37, s234_38, s234_39, s234_40, s234_41, s234_44, s234_45, s234_48, s234_51, s234_52, s234_55, s234_58, s234_61, s234_64, s234_67, x_M_n, fr_at h.2 1 (by decide), hn, Option.bind_some, Option.toList_some, Option.toList_none, List.nil_append, List.cons_append, nI_irr, if_false]⟩)
    (fun a P v ha h => ⟨v, h, by
      rw [s234_2]
      simp only [s234_0, s234_1, s234_3, s234_4, s234_7, s234_10, s234_11, s234_12, s234_13, s234_15, s234_16, s234_19, s234_22, s234_23, s234_25, s234_26, s234_29, s234_32, s234_33, s234_36, s234_37, s234_38, s234_39, s234_40, s234_41, s234_44, s234_45, s234_48, s234_51, s234_52, s234_55, s234_58, s234_61, s234_64, s234_67, x_M_n, fr_at h.2 1 (by decide), hn, Option.bind_some, Option.toList_some, Option.toList_none, List.nil_append, List.cons_append, nI_lt ha (show n < 2 ^ 31 by omega), if_true, nI_add]⟩)
    (fun a P v ha h => ⟨(v.1, .int (nI n), v.2.2), h, by
      rw [s234_14]
      simp only [s234_0, s234_1, s234_3, s234_4, s234_7, s234_10, s234_11, s234_12, s234_13, s234_15, s234_16, s234_19, s234_22, s234_23, s234_25, s234_26, s234_29, s234_32, s234_33, s234_36, s234_37, s234_38, s234_39, s234_40, s234_41, s234_44, s234_45, s234_48, s234_51, s234_52, s234_55, s234_58, s234_61, s234_64, s234_67, x_M_n, fr_at h.2 1 (by decide), hn, Option.bind_some, Option.toList_some, Option.toList_none, List.nil_append, List.cons_append, nI_irr, if_false, nI_add]⟩)
    (fun a b P v hab hb h => by
      obtain ⟨⟨V, v3⟩, ⟨hV, r3⟩, e3⟩ := ev_up (fun i (w : (Nat → Int32) × Value) => (∀ e, e < i → w.1 e = mS (m 1) a b e) ∧ True) (fun i w => ev (d + 4) 234 24 [.ref 0, .int (nI a), .int (nI b), .int (nI i)] [] (mk shM (mu v.1 11 w.1) q)) n (v.1 11, .null) ⟨fun e he => by omega, trivial⟩
        (fun i w hi hw => ⟨(upd w.1 i (mS (m 1) a b i), .null), ⟨fun e he => by
          simp only [upd]
          by_cases h : e = i
          · rw [if_pos h, h]
          · rw [if_neg h]
            exact hw.1 e (by omega), trivial⟩, by
          have sg := x_M_signOf (d := d + 2) (m := mu v.1 11 w.1) (q := q) (show a < 6 by omega) (show b < 6 by omega) (show i < 6 by omega)
          rw [mu_ne (show (1 : Nat) ≠ 11 by decide), fr_at h.2 1 (by decide)] at sg
          rw [s234_24]
          simp only [s234_0, s234_1, s234_3, s234_4, s234_7, s234_10, s234_11, s234_12, s234_13, s234_15, s234_16, s234_19, s234_22, s234_23, s234_25, s234_26, s234_29, s234_32, s234_33, s234_36, s234_37, s234_38, s234_39, s234_40, s234_41, s234_44, s234_45, s234_48, s234_51, s234_52, s234_55, s234_58, s234_61, s234_64, s234_67, x_M_n, mu_ne (show (1 : Nat) ≠ 11 by decide), fr_at h.2 1 (by decide), hn, Option.bind_some, Option.toList_some, Option.toList_none, List.nil_append, List.cons_append, nI_lt hi (show n < 2 ^ 31 by omega), if_true, sg, tM11, nM11, show i < 6 by omega, mu_same, mu_mu, nI_add]⟩) n (Nat.le_refl _)
      rw [mu_self] at e3
      have hV' : ∀ e, e < n → mu v.1 11 V 11 e + nI 1 = nI (sd (mS (m 1) a b e)) ∧ sd (mS (m 1) a b e) < 3 := fun e he => by
        have hVe : V e = mS (m 1) a b e := hV e he
        rw [mu_same, hVe]
        exact sd_ok (hS a b e (by omega) (by omega) (by omega))
      obtain ⟨m4, e4, w4, g4⟩ := x_M_marksBoth (d := d) (m := mu v.1 11 V) (q := q) (by rw [mu_ne (show (1 : Nat) ≠ 11 by decide), fr_at h.2 1 (by decide)]; exact hn) h1 hn6 hV' (MK_fr h.1 (mu_ne (by decide)))
      have g5 : fr [10, 11] m m4 := fun c hc => by
        have c1 : c ≠ 10 := fun e => hc (by simp [e])
        have c2 : c ≠ 11 := fun e => hc (by simp [e])
        rw [g4 c (by simp [c1]), mu_ne c2]
        exact h.2 c hc
      refine ⟨(m4, v.2.1, .int (nI n)), ⟨w4, g5⟩, ?_⟩
      rw [s234_14]
      simp only [s234_0, s234_1, s234_3, s234_4, s234_7, s234_10, s234_11, s234_12, s234_13, s234_15, s234_16, s234_19, s234_22, s234_23, s234_25, s234_26, s234_29, s234_32, s234_33, s234_36, s234_37, s234_38, s234_39, s234_40, s234_41, s234_44, s234_45, s234_48, s234_51, s234_52, s234_55, s234_58, s234_61, s234_64, s234_67, x_M_n, fr_at h.2 1 (by decide), hn, Option.bind_some, Option.toList_some, Option.toList_none, List.nil_append, List.cons_append, nI_lt hb (show n < 2 ^ 31 by omega), if_true]
      refine e3.trans ?_
      rw [s234_24]
      simp only [s234_0, s234_1, s234_3, s234_4, s234_7, s234_10, s234_11, s234_12, s234_13, s234_15, s234_16, s234_19, s234_22, s234_23, s234_25, s234_26, s234_29, s234_32, s234_33, s234_36, s234_37, s234_38, s234_39, s234_40, s234_41, s234_44, s234_45, s234_48, s234_51, s234_52, s234_55, s234_58, s234_61, s234_64, s234_67, x_M_n, mu_ne (show (1 : Nat) ≠ 11 by decide), fr_at h.2 1 (by decide), hn, Option.bind_some, Option.toList_some, Option.toList_none, List.nil_append, List.cons_append, nI_irr, if_false, e4, nI_add]) P (m, .null, .null) ⟨hP, fr_rfl⟩
  refine ⟨m2, ?_, w2, g2⟩
  simp only [s234_0, s234_1, s234_3, s234_4, s234_7, s234_10, s234_11, s234_12, s234_13, s234_15, s234_16, s234_19, s234_22, s234_23, s234_25, s234_26, s234_29, s234_32, s234_33, s234_36, s234_37, s234_38, s234_39, s234_40, s234_41, s234_44, s234_45, s234_48, s234_51, s234_52, s234_55, s234_58, s234_61, s234_64, s234_67]
  exact e2
set_option maxHeartbeats 1000000 in
theorem x_M_marksCircuits (hn : m 1 0 = nI n) (h1 : 1 ≤ n) (hn6 : n ≤ 6) (hS : isSn n (m 1)) (hP : MK m P) : ∃ m', ev (d + 4) 239 0 [.ref 0, .null, .null, .null, .null, .null] [] (mk shM m q) = some (none, mk shM m' q) ∧ MK m' (cirP n (m 1) P) ∧ fr [10, 11] m m' := by
  obtain ⟨⟨m2, v2⟩, ⟨w2, g2⟩, e2⟩ := ev_rel4 (fun P (v : Mem × Value × Value × Value × Value) => MK v.1 P ∧ fr [10, 11] m v.1) (fun a v => ev (d + 4) 239 2 [.ref 0, .int (nI a), v.2.1, v.2.2.1, v.2.2.2.1, v.2.2.2.2] [] (mk shM v.1 q))
    (fun a b v => ev (d + 4) 239 14 [.ref 0, .int (nI a), .int (nI b), v.2.2.1, v.2.2.2.1, v.2.2.2.2] [] (mk shM v.1 q))
    (fun a b c v => ev (d + 4) 239 26 [.ref 0, .int (nI a), .int (nI b), .int (nI c), v.2.2.2.1, v.2.2.2.2] [] (mk shM v.1 q))
    (fun a b c t v => ev (d + 4) 239 39 [.ref 0, .int (nI a), .int (nI b), .int (nI c), .int (nI t), v.2.2.2.2] [] (mk shM v.1 q))
    (fun v => some (none, mk shM v.1 q)) (fun a b c t P => mbP n (cdF n fun e => sd (cirM (m 1) a b c t e)) P) n
    (fun P v h => ⟨v, h, by
      rw [s239_2]
      simp only [s239_0, s239_1, s239_3, s239_4, s239_7, s239_10, s239_11, s239_12, s239_13, s239_15, s239_16, s239_19, s239_22, s239_23, s239_24, s239_25, s239_27, s239_28, s239_31, s239_34, s239_35, s239_36, s239_37, s239_41, s239_42, s239_45, s239_48, s239_49, s239_53, s239_54, s239_57, s239_60, s239_61, s239_64, s239_66, s239_67, s239_68, s239_71, s239_74, s239_75, s239_78, s239_79, s239_80, s239_81, s239_82, s239_84, s239_87, s239_88, s239_89, s239_92, s239_93, s239_94, s239_95, s239_96, s239_98, s239_101, s239_102, s239_103, s239_104, s239_107, s239_108, s239_109, s239_110, s239_111, s239_113, s239_116, s239_117, s239_118, s239_121, s239_123, s239_124, s239_125, s239_126, s239_127, s239_130, s239_131, s239_132, s239_133, s239_136, s239_139, s239_142, s239_145, s239_148, s239_151, s239_154, s239_157, s239_160, x_M_n, fr_at h.2 1 (by decide), hn, Option.bind_some, Option.toList_some, Option.toList_none, List.nil_append, List.cons_append, nI_irr, if_false]⟩)
    (fun a P v ha h => ⟨v, h, by
      rw [s239_2]
      simp only [s239_0, s239_1, s239_3, s239_4, s239_7, s239_10, s239_11, s239_12, s239_13, s239_15, s239_16, s239_19, s239_22, s239_23, s239_24, s239_25, s239_27, s239_28, s239_31, s239_34, s239_35, s239_36, s239_37, s239_41, s239_42, s239_45, s239_48, s239_49, s239_53, s239_54, s239_57, s239_60, s239_61, s239_64, s239_66, s239_67, s239_68, s239_71, s239_74, s239_75, s239_78, s239_79, s239_80, s239_81, s239_82, s239_84, s239_87, s239_88, s239_89, s239_92, s239_93, s239_94, s239_95, s239_96, s239_98, s239_101, s239_102, s239_103, s239_104, s239_107, s239_108, s239_109, s239_110, s239_111, s239_113, s239_116, s239_117, s239_118, s239_121, s239_123, s239_124, s239_125, s239_126, s239_127, s239_130, s239_131, s239_132, s239_133, s239_136, s239_139, s239_142, s239_145, s239_148, s239_151, s239_154, s239_157, s239_160, x_M_n, fr_at h.2 1 (by decide), hn, Option.bind_some, Option.toList_some, Option.toList_none, List.nil_append, List.cons_append, nI_lt ha (show n < 2 ^ 31 by omega), if_true, nI_add]⟩)
    (fun a P v ha h => ⟨(v.1, .int (nI n), v.2.2), h, by
      rw [s239_14]
      simp only [s239_0, s239_1, s239_3, s239_4, s239_7, s239_10, s239_11, s239_12, s239_13, s239_15, s239_16, s239_19, s239_22, s239_23, s239_24, s239_25, s239_27, s239_28, s239_31, s239_34, s239_35, s239_36, s239_37, s239_41, s239_42, s239_45, s239_48, s239_49, s239_53, s239_54, s239_57, s239_60, s239_61, s239_64, s239_66, s239_67, s239_68, s239_71, s239_74, s239_75, s239_78, s239_79, s239_80, s239_81, s239_82, s239_84, s239_87, s239_88, s239_89, s239_92, s239_93, s239_94, s239_95, s239_96, s239_98, s239_101, s239_102, s239_103, s239_104, s239_107, s239_108, s239_109, s239_110, s239_111, s239_113, s239_116, s239_117, s239_118, s239_121, s239_123, s239_124, s239_125, s239_126, s239_127, s239_130, s239_131, s239_132, s239_133, s239_136, s239_139, s239_142, s239_145, s239_148, s239_151, s239_154, s239_157, s239_160, x_M_n, fr_at h.2 1 (by decide), hn, Option.bind_some, Option.toList_some, Option.toList_none, List.nil_append, List.cons_append, nI_irr, if_false, nI_add]⟩)
    (fun a b P v hab hb h => ⟨v, h, by
      rw [s239_14]
      simp only [s239_0, s239_1, s239_3, s239_4, s239_7, s239_10, s239_11, s239_12, s239_13, s239_15, s239_16, s239_19, s239_22, s239_23, s239_24, s239_25, s239_27, s239_28, s239_31, s239_34, s239_35, s239_36, s239_37, s239_41, s239_42, s239_45, s239_48, s239_49, s239_53, s239_54, s239_57, s239_60, s239_61, s239_64, s239_66, s239_67, s239_68, s239_71, s239_74, s239_75, s239_78, s239_79, s239_80, s239_81, s239_82, s239_84, s239_87, s239_88, s239_89, s239_92, s239_93, s239_94, s239_95, s239_96, s239_98, s239_101, s239_102, s239_103, s239_104, s239_107, s239_108, s239_109, s239_110, s239_111, s239_113, s239_116, s239_117, s239_118, s239_121, s239_123, s239_124, s239_125, s239_126, s239_127, s239_130, s239_131, s239_132, s239_133, s239_136, s239_139, s239_142, s239_145, s239_148, s239_151, s239_154, s239_157, s239_160, x_M_n, fr_at h.2 1 (by decide), hn, Option.bind_some, Option.toList_some, Option.toList_none, List.nil_append, List.cons_append, nI_lt hb (show n < 2 ^ 31 by omega), if_true, nI_add]⟩)
    (fun a b P v hab hb h => ⟨(v.1, v.2.1, .int (nI n), v.2.2.2), h, by
      rw [s239_26]
      simp only [s239_0, s239_1, s239_3, s239_4, s239_7, s239_10, s239_11, s239_12, s239_13, s239_15, s239_16, s239_19, s239_22, s239_23, s239_24, s239_25, s239_27, s239_28, s239_31, s239_34, s239_35, s239_36, s239_37, s239_41, s239_42, s239_45, s239_48, s239_49, s239_53, s239_54, s239_57, s239_60, s239_61, s239_64, s239_66, s239_67, s239_68, s239_71, s239_74, s239_75, s239_78, s239_79, s239_80, s239_81, s239_82, s239_84, s239_87, s239_88, s239_89, s239_92, s239_93, s239_94, s239_95, s239_96, s239_98, s239_101, s239_102, s239_103, s239_104, s239_107, s239_108, s239_109, s239_110, s239_111, s239_113, s239_116, s239_117, s239_118, s239_121, s239_123, s239_124, s239_125, s239_126, s239_127, s239_130, s239_131, s239_132, s239_133, s239_136, s239_139, s239_142, s239_145, s239_148, s239_151, s239_154, s239_157, s239_160, x_M_n, fr_at h.2 1 (by decide), hn, Option.bind_some, Option.toList_some, Option.toList_none, List.nil_append, List.cons_append, nI_irr, if_false, nI_add]⟩)
    (fun a b c P v hab hbc hc h => ⟨v, h, by
      rw [s239_26]
      simp only [s239_0, s239_1, s239_3, s239_4, s239_7, s239_10, s239_11, s239_12, s239_13, s239_15, s239_16, s239_19, s239_22, s239_23, s239_24, s239_25, s239_27, s239_28, s239_31, s239_34, s239_35, s239_36, s239_37, s239_41, s239_42, s239_45, s239_48, s239_49, s239_53, s239_54, s239_57, s239_60, s239_61, s239_64, s239_66, s239_67, s239_68, s239_71, s239_74, s239_75, s239_78, s239_79, s239_80, s239_81, s239_82, s239_84, s239_87, s239_88, s239_89, s239_92, s239_93, s239_94, s239_95, s239_96, s239_98, s239_101, s239_102, s239_103, s239_104, s239_107, s239_108, s239_109, s239_110, s239_111, s239_113, s239_116, s239_117, s239_118, s239_121, s239_123, s239_124, s239_125, s239_126, s239_127, s239_130, s239_131, s239_132, s239_133, s239_136, s239_139, s239_142, s239_145, s239_148, s239_151, s239_154, s239_157, s239_160, x_M_n, fr_at h.2 1 (by decide), hn, Option.bind_some, Option.toList_some, Option.toList_none, List.nil_append, List.cons_append, nI_lt hc (show n < 2 ^ 31 by omega), if_true, nI_add]⟩)
    (fun a b c P v hab hbc hc h => ⟨(v.1, v.2.1, v.2.2.1, .int (nI n), v.2.2.2.2), h, by
      rw [s239_39]
      simp only [s239_0, s239_1, s239_3, s239_4, s239_7, s239_10, s239_11, s239_12, s239_13, s239_15, s239_16, s239_19, s239_22, s239_23, s239_24, s239_25, s239_27, s239_28, s239_31, s239_34, s239_35, s239_36, s239_37, s239_41, s239_42, s239_45, s239_48, s239_49, s239_53, s239_54, s239_57, s239_60, s239_61, s239_64, s239_66, s239_67, s239_68, s239_71, s239_74, s239_75, s239_78, s239_79, s239_80, s239_81, s239_82, s239_84, s239_87, s239_88, s239_89, s239_92, s239_93, s239_94, s239_95, s239_96, s239_98, s239_101, s239_102, s239_103, s239_104, s239_107, s239_108, s239_109, s239_110, s239_111, s239_113, s239_116, s239_117, s239_118, s239_121, s239_123, s239_124, s239_125, s239_126, s239_127, s239_130, s239_131, s239_132, s239_133, s239_136, s239_139, s239_142, s239_145, s239_148, s239_151, s239_154, s239_157, s239_160, x_M_n, fr_at h.2 1 (by decide), hn, Option.bind_some, Option.toList_some, Option.toList_none, List.nil_append, List.cons_append, nI_irr, if_false, nI_add]⟩)
    (fun a b c t P v hab hbc hct ht h => by
      obtain ⟨⟨V, v3⟩, ⟨hV, r3⟩, e3⟩ := ev_up (fun i (w : (Nat → Int32) × Value) => (∀ e, e < i → w.1 e = 0) ∧ True) (fun i w => ev (d + 4) 239 51 [.ref 0, .int (nI a), .int (nI b), .int (nI c), .int (nI t), .int (nI i)] [] (mk shM (mu v.1 11 w.1) q)) n (v.1 11, .null) ⟨fun e he => by omega, trivial⟩
        (fun i w hi hw => ⟨(upd w.1 i (nI 0), .null), ⟨fun e he => by
          simp only [upd]
          by_cases h : e = i
          · rw [if_pos h]; rfl
          · rw [if_neg h]
            exact hw.1 e (by omega), trivial⟩, by
          rw [s239_51]
          simp only [s239_0, s239_1, s239_3, s239_4, s239_7, s239_10, s239_11, s239_12, s239_13, s239_15, s239_16, s239_19, s239_22, s239_23, s239_24, s239_25, s239_27, s239_28, s239_31, s239_34, s239_35, s239_36, s239_37, s239_41, s239_42, s239_45, s239_48, s239_49, s239_53, s239_54, s239_57, s239_60, s239_61, s239_64, s239_66, s239_67, s239_68, s239_71, s239_74, s239_75, s239_78, s239_79, s239_80, s239_81, s239_82, s239_84, s239_87, s239_88, s239_89, s239_92, s239_93, s239_94, s239_95, s239_96, s239_98, s239_101, s239_102, s239_103, s239_104, s239_107, s239_108, s239_109, s239_110, s239_111, s239_113, s239_116, s239_117, s239_118, s239_121, s239_123, s239_124, s239_125, s239_126, s239_127, s239_130, s239_131, s239_132, s239_133, s239_136, s239_139, s239_142, s239_145, s239_148, s239_151, s239_154, s239_157, s239_160, x_M_n, mu_ne (show (1 : Nat) ≠ 11 by decide), fr_at h.2 1 (by decide), hn, Option.bind_some, Option.toList_some, Option.toList_none, List.nil_append, List.cons_append, nI_lt hi (show n < 2 ^ 31 by omega), if_true, tM11, nM11, show i < 6 by omega, mu_same, mu_mu, nI_add]⟩) n (Nat.le_refl _)
      rw [mu_self] at e3
      have sg : ∀ {x y z : Nat} {V' : Nat → Int32}, x < 6 → y < 6 → z < 6 → ev (d + 3) 188 0 [.ref 0, .int (nI x), .int (nI y), .int (nI z), .null, .null, .null] [] (mk shM (mu v.1 11 V') q) = some (some (.int (mS (m 1) x y z)), mk shM (mu v.1 11 V') q) := fun {x y z V'} hx hy hz => by
        have := x_M_signOf (d := d + 2) (m := mu v.1 11 V') (q := q) hx hy hz
        rw [mu_ne (show (1 : Nat) ≠ 11 by decide), fr_at h.2 1 (by decide)] at this
        exact this
      generalize hW : upd (upd (upd (upd V a (mS (m 1) b c t)) b (-(mS (m 1) a c t))) c (mS (m 1) a b t)) t (-(mS (m 1) a b c)) = W
      have hV' : ∀ e, e < n → mu v.1 11 W 11 e + nI 1 = nI (sd (cirM (m 1) a b c t e)) ∧ sd (cirM (m 1) a b c t e) < 3 := fun e he => by
        have : W e = cirM (m 1) a b c t e := by
          rw [← hW]
          simp only [upd, cirM]
          by_cases h1 : e = t
          · rw [if_pos h1, if_pos h1]
          rw [if_neg h1, if_neg h1]
          by_cases h2 : e = c
          · rw [if_pos h2, if_pos h2]
          rw [if_neg h2, if_neg h2]
          by_cases h3 : e = b
          · rw [if_pos h3, if_pos h3]
          rw [if_neg h3, if_neg h3]
          by_cases h4 : e = a
          · rw [if_pos h4, if_pos h4]
          rw [if_neg h4, if_neg h4]
          exact hV e he
        rw [mu_same, this]
        exact sd_ok (cirM_sg hS (by omega) (by omega) (by omega) (by omega))
      obtain ⟨m4, e4, w4, g4⟩ := x_M_marksBoth (d := d) (m := mu v.1 11 W) (q := q) (by rw [mu_ne (show (1 : Nat) ≠ 11 by decide), fr_at h.2 1 (by decide)]; exact hn) h1 hn6 hV' (MK_fr h.1 (mu_ne (by decide)))
      have g5 : fr [10, 11] m m4 := fun c hc => by
        have c1 : c ≠ 10 := fun e => hc (by simp [e])
        have c2 : c ≠ 11 := fun e => hc (by simp [e])
        rw [g4 c (by simp [c1]), mu_ne c2]
        exact h.2 c hc
      refine ⟨(m4, v.2.1, v.2.2.1, v.2.2.2.1, .int (nI n)), ⟨w4, g5⟩, ?_⟩
      rw [s239_39]
      simp only [s239_0, s239_1, s239_3, s239_4, s239_7, s239_10, s239_11, s239_12, s239_13, s239_15, s239_16, s239_19, s239_22, s239_23, s239_24, s239_25, s239_27, s239_28, s239_31, s239_34, s239_35, s239_36, s239_37, s239_41, s239_42, s239_45, s239_48, s239_49, s239_53, s239_54, s239_57, s239_60, s239_61, s239_64, s239_66, s239_67, s239_68, s239_71, s239_74, s239_75, s239_78, s239_79, s239_80, s239_81, s239_82, s239_84, s239_87, s239_88, s239_89, s239_92, s239_93, s239_94, s239_95, s239_96, s239_98, s239_101, s239_102, s239_103, s239_104, s239_107, s239_108, s239_109, s239_110, s239_111, s239_113, s239_116, s239_117, s239_118, s239_121, s239_123, s239_124, s239_125, s239_126, s239_127, s239_130, s239_131, s239_132, s239_133, s239_136, s239_139, s239_142, s239_145, s239_148, s239_151, s239_154, s239_157, s239_160, x_M_n, fr_at h.2 1 (by decide), hn, Option.bind_some, Option.toList_some, Option.toList_none, List.nil_append, List.cons_append, nI_lt ht (show n < 2 ^ 31 by omega), if_true]
      refine e3.trans ?_
      rw [s239_51]
      simp only [s239_0, s239_1, s239_3, s239_4, s239_7, s239_10, s239_11, s239_12, s239_13, s239_15, s239_16, s239_19, s239_22, s239_23, s239_24, s239_25, s239_27, s239_28, s239_31, s239_34, s239_35, s239_36, s239_37, s239_41, s239_42, s239_45, s239_48, s239_49, s239_53, s239_54, s239_57, s239_60, s239_61, s239_64, s239_66, s239_67, s239_68, s239_71, s239_74, s239_75, s239_78, s239_79, s239_80, s239_81, s239_82, s239_84, s239_87, s239_88, s239_89, s239_92, s239_93, s239_94, s239_95, s239_96, s239_98, s239_101, s239_102, s239_103, s239_104, s239_107, s239_108, s239_109, s239_110, s239_111, s239_113, s239_116, s239_117, s239_118, s239_121, s239_123, s239_124, s239_125, s239_126, s239_127, s239_130, s239_131, s239_132, s239_133, s239_136, s239_139, s239_142, s239_145, s239_148, s239_151, s239_154, s239_157, s239_160, x_M_n, mu_ne (show (1 : Nat) ≠ 11 by decide), fr_at h.2 1 (by decide), hn, Option.bind_some, Option.toList_some, Option.toList_none, List.nil_append, List.cons_append, nI_irr, if_false, sg (show b < 6 by omega) (show c < 6 by omega) (show t < 6 by omega), sg (show a < 6 by omega) (show c < 6 by omega) (show t < 6 by omega), sg (show a < 6 by omega) (show b < 6 by omega) (show t < 6 by omega), sg (show a < 6 by omega) (show b < 6 by omega) (show c < 6 by omega), tM11, nM11, show a < 6 by omega, show b < 6 by omega, show c < 6 by omega, show t < 6 by omega, mu_mu, mu_same, hW, e4, nI_add]) P (m, .null, .null, .null, .null) ⟨hP, fr_rfl⟩
  refine ⟨m2, ?_, w2, g2⟩
  simp only [s239_0, s239_1, s239_3, s239_4, s239_7, s239_10, s239_11, s239_12, s239_13, s239_15, s239_16, s239_19, s239_22, s239_23, s239_24, s239_25, s239_27, s239_28, s239_31, s239_34, s239_35, s239_36, s239_37, s239_41, s239_42, s239_45, s239_48, s239_49, s239_53, s239_54, s239_57, s239_60, s239_61, s239_64, s239_66, s239_67, s239_68, s239_71, s239_74, s239_75, s239_78, s239_79, s239_80, s239_81, s239_82, s239_84, s239_87, s239_88, s239_89, s239_92, s239_93, s239_94, s239_95, s239_96, s239_98, s239_101, s239_102, s239_103, s239_104, s239_107, s239_108, s239_109, s239_110, s239_111, s239_113, s239_116, s239_117, s239_118, s239_121, s239_123, s239_124, s239_125, s239_126, s239_127, s239_130, s239_131, s239_132, s239_133, s239_136, s239_139, s239_142, s239_145, s239_148, s239_151, s239_154, s239_157, s239_160]
  exact e2
end
