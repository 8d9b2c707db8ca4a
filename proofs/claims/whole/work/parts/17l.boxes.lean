/-! boxes -/
abbrev BR : Type := Bool × Bool × Nat × (Nat → Nat) × (Nat → Nat)
def BR1 (m : Mem) (k : Nat) (r : BR) : Prop := m k 0 = bI r.1 ∧ m k 1 = bI r.2.1 ∧ m k 2 = nI r.2.2.1 ∧ r.2.2.1 ≤ 6 ∧ ∀ i, i < 6 → m (k + 1) i = nI (r.2.2.2.1 i) ∧ r.2.2.2.1 i < 4096 ∧ m (k + 2) i = nI (r.2.2.2.2 i) ∧ r.2.2.2.2 i ≤ 6
def BS (m : Mem) (B : Nat → BR) : Prop := ∀ b, b < 3 → BR1 m (69 + 3 * b) (B b)
def uB (B : Nat → BR) (b : Nat) (r : BR) : Nat → BR := fun i => if i = b then r else B i
def uN (f : Nat → Nat) (k x : Nat) : Nat → Nat := fun i => if i = k then x else f i
def bC : List Nat := [69, 70, 71, 72, 73, 74, 75, 76, 77]
theorem BR1_fr {m m' : Mem} {k : Nat} {r : BR} (h : BR1 m k r) (h0 : m' k = m k) (h1 : m' (k + 1) = m (k + 1)) (h2 : m' (k + 2) = m (k + 2)) : BR1 m' k r := by
  unfold BR1
  rw [h0, h1, h2]
  exact h
theorem BS_fr {m m' : Mem} {B : Nat → BR} (h : BS m B) (hf : ∀ c, 69 ≤ c → c ≤ 77 → m' c = m c) : BS m' B := fun b hb => BR1_fr (h b hb) (hf _ (by omega) (by omega)) (hf _ (by omega) (by omega)) (hf _ (by omega) (by omega))
theorem BS_fC {m m' : Mem} {B : Nat → BR} (h : BS m B) (hf : fr fC m m') : BS m' B := BS_fr h fun c h1 h2 => hf c (by simp [fC]; omega)
theorem BS_set {m m' : Mem} {B : Nat → BR} {b : Nat} {r : BR} (h : BS m B) (hb : b < 3) (hr : BR1 m' (69 + 3 * b) r) (hs : sm3 (69 + 3 * b) m m') : BS m' (uB B b r) := by
  intro i hi
  unfold uB
  by_cases e : i = b
  · subst e
    rw [if_pos rfl]
    exact hr
  · rw [if_neg e]
    exact BR1_fr (h i hi) (hs _ (by omega) (by omega) (by omega)) (hs _ (by omega) (by omega) (by omega)) (hs _ (by omega) (by omega) (by omega))
theorem sm3_bC {m m' : Mem} {b : Nat} (hb : b < 3) (hs : sm3 (69 + 3 * b) m m') : fr bC m m' := fun c hc => hs c (fun e => hc (by simp [bC]; omega)) (fun e => hc (by simp [bC]; omega)) (fun e => hc (by simp [bC]; omega))
theorem oC1_b : ∀ b, b < 3 → oC1 (69 + 3 * b)
  | 0, _ => oC1_69
  | 1, _ => oC1_72
  | 2, _ => oC1_75
theorem bst_at : ∀ x, x < 3 → ([some 69, some 72, some 75] : List (Option Nat))[x]? = some (some (69 + 3 * x)) := by decide
section
variable {d n k : Nat} {m : Mem} {q : MemJ} {x y z : Int32} {B : Nat → BR} {r : BR}
theorem x_B_hasPlace {l : Nat} (ho : oC1 k) (hl : m k 2 = nI l) : ev d 142 0 [.ref k, .int x] [] (mk shC m q) = some (some (.int (bI (elB l x))), mk shC m q) := by
  unfold elB
  by_cases h : x < 0
  · simp only [s142_0, s142_1, s142_4, s142_5, s142_6, s142_9, s142_12, s142_13, s142_16, s142_17, h, if_true, am_b0, decide_true, Bool.not_true, Bool.false_and, bI_f]
  · by_cases h2 : x < nI l
    · simp only [s142_0, s142_1, s142_4, s142_5, s142_6, s142_9, s142_12, s142_13, s142_16, s142_17, ho, hl, h, h2, if_true, if_false, am_b1, decide_true, decide_false, Bool.not_false, Bool.and_self, bI_t]
    · simp only [s142_0, s142_1, s142_4, s142_5, s142_6, s142_9, s142_12, s142_13, s142_16, s142_17, ho, hl, h, h2, if_false, am_b0, decide_false, Bool.and_false, bI_f]
theorem x_B_empty {i : Nat} (ho : oC1 k) (hr : BR1 m k r) (hi : i < 6) : ev d 146 0 [.ref k, .int (nI i)] [] (mk shC m q) = some (some (.int (bI (decide (r.2.2.2.2 i = 0)))), mk shC m q) := by
  obtain ⟨-, -, -, -, h⟩ := hr
  obtain ⟨-, -, h3, h4⟩ := h i hi
  rw [x_B_isEmptyAt ho hi, h3]
  by_cases e : r.2.2.2.2 i = 0
  · rw [decide_eq_true e, decide_eq_true (by rw [nI_z (by omega)]; exact e)]
  · rw [decide_eq_false e, decide_eq_false (by rw [nI_z (by omega)]; exact e)]
/-- why the vector at a place can't be had -/
def rfA (B : Nat → BR) (x y : Int32) : Int32 := if elB 3 x = true then (if (B (eN x)).1 = true then (if elB (B (eN x)).2.2.1 y = true then (if (B (eN x)).2.2.2.2 (eN y) = 0 then -1015 else 0) else -1013) else -1011) else -1001
theorem x_S_refusalAt (hB : BS m B) : ev (d + 1) 150 0 [.ref 0, .int x, .int y] [] (mk shC m q) = some (some (.int (rfA B x y)), mk shC m q) := by
  unfold rfA
  rcases elB_or 3 x (by decide) with ⟨hx, _⟩ | ⟨b, hb, rfl⟩
  · simp only [s150_0, s150_1, s150_4, s150_7, s150_10, s150_11, s150_12, s150_15, s150_16, s150_17, s150_20, s150_23, s150_26, s150_27, s150_28, s150_31, s150_32, s150_33, s150_34, s150_37, s150_40, s150_43, s150_44, s150_45, s150_48, s150_49, s150_50, s150_51, s150_54, s150_57, s150_60, s150_63, s150_64, x_S_isBox, Option.bind_some, Option.toList_some, Option.toList_none, List.nil_append, List.cons_append, bI_z, hx, if_true, Bool.false_eq_true, if_false]
  rw [elB_nI (by decide) hb, eN_nI (by omega), if_pos rfl]
  have r1 : ∀ {D : Nat} {mm : Mem}, ev D 150 16 [.ref 0, .int (nI b), .int y] [.int (nI b), .ref 68] (mk shC mm q) = ev D 150 17 [.ref 0, .int (nI b), .int y] [.ref (69 + 3 * b)] (mk shC mm q) := s150_16 (t := 1) shC_68 (by decide) hb (by decide) (bst_at b hb)
  have r2 : ∀ {D : Nat} {mm : Mem}, ev D 150 32 [.ref 0, .int (nI b), .int y] [.int (nI b), .ref 68] (mk shC mm q) = ev D 150 33 [.ref 0, .int (nI b), .int y] [.ref (69 + 3 * b)] (mk shC mm q) := s150_32 (t := 1) shC_68 (by decide) hb (by decide) (bst_at b hb)
  have r3 : ∀ {D : Nat} {mm : Mem}, ev D 150 49 [.ref 0, .int (nI b), .int y] [.int (nI b), .ref 68] (mk shC mm q) = ev D 150 50 [.ref 0, .int (nI b), .int y] [.ref (69 + 3 * b)] (mk shC mm q) := s150_49 (t := 1) shC_68 (by decide) hb (by decide) (bst_at b hb)
  have hr := hB b hb
  have ho := oC1_b b hb
  obtain ⟨b1, b2, b3, b4, b5⟩ := id hr
  have mi := x_B_isMissing (d := d) (q := q) ho b1
  cases ht : (B b).1 with
  | false => simp only [s150_0, s150_1, s150_4, s150_7, s150_10, s150_11, s150_12, s150_15, s150_16, s150_17, s150_20, s150_23, s150_26, s150_27, s150_28, s150_31, s150_32, s150_33, s150_34, s150_37, s150_40, s150_43, s150_44, s150_45, s150_48, s150_49, s150_50, s150_51, s150_54, s150_57, s150_60, s150_63, s150_64, x_S_isBox, Option.bind_some, Option.toList_some, Option.toList_none, List.nil_append, List.cons_append, bI_z, elB_nI (show 3 < 1000 by decide) hb, if_true, Bool.true_eq_false, Bool.false_eq_true, if_false, r1, ho, mi, ht, Bool.not_false]
  | true =>
    rcases elB_or (B b).2.2.1 y (by omega) with ⟨hy, _⟩ | ⟨i, hi, rfl⟩
    · simp only [s150_0, s150_1, s150_4, s150_7, s150_10, s150_11, s150_12, s150_15, s150_16, s150_17, s150_20, s150_23, s150_26, s150_27, s150_28, s150_31, s150_32, s150_33, s150_34, s150_37, s150_40, s150_43, s150_44, s150_45, s150_48, s150_49, s150_50, s150_51, s150_54, s150_57, s150_60, s150_63, s150_64, x_S_isBox, Option.bind_some, Option.toList_some, Option.toList_none, List.nil_append, List.cons_append, bI_z, elB_nI (show 3 < 1000 by decide) hb, if_true, Bool.true_eq_false, Bool.false_eq_true, if_false, r1, r2, ho, mi, ht, Bool.not_true, x_B_hasPlace ho b3, hy]
    · have em := x_B_empty (d := d) (q := q) ho hr (show i < 6 by omega)
      simp only [s150_0, s150_1, s150_4, s150_7, s150_10, s150_11, s150_12, s150_15, s150_16, s150_17, s150_20, s150_23, s150_26, s150_27, s150_28, s150_31, s150_32, s150_33, s150_34, s150_37, s150_40, s150_43, s150_44, s150_45, s150_48, s150_49, s150_50, s150_51, s150_54, s150_57, s150_60, s150_63, s150_64, x_S_isBox, Option.bind_some, Option.toList_some, Option.toList_none, List.nil_append, List.cons_append, bI_z, elB_nI (show 3 < 1000 by decide) hb, if_true, Bool.true_eq_false, Bool.false_eq_true, if_false, r1, r2, r3, ho, mi, ht, Bool.not_true, x_B_hasPlace ho b3, elB_nI (show (B b).2.2.1 < 1000 by omega) hi, em, eN_nI (show i < 1000 by omega)]
      by_cases h0 : (B b).2.2.2.2 i = 0
      · simp only [h0, decide_true, Bool.true_eq_false, if_false, if_true, s150_0, s150_1, s150_4, s150_7, s150_10, s150_11, s150_12, s150_15, s150_16, s150_17, s150_20, s150_23, s150_26, s150_27, s150_28, s150_31, s150_32, s150_33, s150_34, s150_37, s150_40, s150_43, s150_44, s150_45, s150_48, s150_49, s150_50, s150_51, s150_54, s150_57, s150_60, s150_63, s150_64]
      · simp only [h0, decide_false, if_false, if_true, s150_0, s150_1, s150_4, s150_7, s150_10, s150_11, s150_12, s150_15, s150_16, s150_17, s150_20, s150_23, s150_26, s150_27, s150_28, s150_31, s150_32, s150_33, s150_34, s150_37, s150_40, s150_43, s150_44, s150_45, s150_48, s150_49, s150_50, s150_51, s150_54, s150_57, s150_60, s150_63, s150_64]
        rfl
/-- a new box -/
def bxR (B : Nat → BR) (x y z : Int32) : Int32 × (Nat → BR) :=
  if elB 3 x = true then (if (elB 2 y && !decide (nI 6 < z)) = true then (if z < 0 then (-1012, B) else (z, uB B (eN x) (true, decide (eN y = 1), eN z, (B (eN x)).2.2.2.1, fun _ => 0))) else (-1002, B)) else (-1001, B)
theorem x_S_box (hB : BS m B) : ∃ m', ev (d + 2) 137 0 [.ref 0, .int x, .int y, .int z] [] (mk shC m q) = some (some (.int (bxR B x y z).1), mk shC m' q) ∧ BS m' (bxR B x y z).2 ∧ fr bC m m' := by
  unfold bxR
  rcases elB_or 3 x (by decide) with ⟨hx, _⟩ | ⟨b, hb, rfl⟩
  · rw [hx]
    refine ⟨m, ?_, hB, fr_rfl⟩
    simp only [s137_0, s137_1, s137_4, s137_7, s137_10, s137_11, s137_12, s137_15, s137_16, s137_17, s137_20, s137_21, s137_23, s137_26, s137_29, s137_30, s137_31, s137_34, s137_37, s137_38, s137_39, s137_42, s137_43, s137_44, s137_45, s137_46, s137_49, s137_50, s137_53, s137_54, s137_55, s137_58, s137_59, x_S_isBox, Option.bind_some, Option.toList_some, Option.toList_none, List.nil_append, List.cons_append, bI_z, hx, if_true, Bool.false_eq_true, if_false]
  rw [elB_nI (by decide) hb, eN_nI (by omega), if_pos rfl]
  rcases elB_or 2 y (by decide) with ⟨hy, h⟩ | ⟨s, hs, rfl⟩
  · rw [hy]
    refine ⟨m, ?_, hB, fr_rfl⟩
    rcases h with h | h
    · simp only [s137_0, s137_1, s137_4, s137_7, s137_10, s137_11, s137_12, s137_15, s137_16, s137_17, s137_20, s137_21, s137_23, s137_26, s137_29, s137_30, s137_31, s137_34, s137_37, s137_38, s137_39, s137_42, s137_43, s137_44, s137_45, s137_46, s137_49, s137_50, s137_53, s137_54, s137_55, s137_58, s137_59, x_S_isBox, Option.bind_some, Option.toList_some, Option.toList_none, List.nil_append, List.cons_append, bI_z, elB_nI (show 3 < 1000 by decide) hb, if_true, Bool.true_eq_false, Bool.false_eq_true, Bool.false_and, if_false, h]
    · simp only [s137_0, s137_1, s137_4, s137_7, s137_10, s137_11, s137_12, s137_15, s137_16, s137_17, s137_20, s137_21, s137_23, s137_26, s137_29, s137_30, s137_31, s137_34, s137_37, s137_38, s137_39, s137_42, s137_43, s137_44, s137_45, s137_46, s137_49, s137_50, s137_53, s137_54, s137_55, s137_58, s137_59, x_S_isBox, Option.bind_some, Option.toList_some, Option.toList_none, List.nil_append, List.cons_append, bI_z, elB_nI (show 3 < 1000 by decide) hb, if_true, Bool.true_eq_false, Bool.false_eq_true, Bool.false_and, if_false, lt_of_le (show 1 + 1 < 2 ^ 31 by decide) h, ite_self]
  rw [elB_nI (by decide) hs, eN_nI (by omega), Bool.true_and]
  have y0 := nI_pos (show s < 2 ^ 31 by omega)
  have y1 : ¬ nI 1 < nI s := by rw [nI_ltI (by decide) (by omega)]; omega
  by_cases z6 : nI 6 < z
  · rw [decide_eq_true z6]
    refine ⟨m, ?_, hB, fr_rfl⟩
    simp only [s137_0, s137_1, s137_4, s137_7, s137_10, s137_11, s137_12, s137_15, s137_16, s137_17, s137_20, s137_21, s137_23, s137_26, s137_29, s137_30, s137_31, s137_34, s137_37, s137_38, s137_39, s137_42, s137_43, s137_44, s137_45, s137_46, s137_49, s137_50, s137_53, s137_54, s137_55, s137_58, s137_59, x_S_isBox, Option.bind_some, Option.toList_some, Option.toList_none, List.nil_append, List.cons_append, bI_z, elB_nI (show 3 < 1000 by decide) hb, if_true, Bool.true_eq_false, Bool.false_eq_true, Bool.not_true, if_false, y0, y1, z6]
  rw [decide_eq_false z6, Bool.not_false, if_pos rfl]
  by_cases z0 : z < 0
  · rw [if_pos z0]
    refine ⟨m, ?_, hB, fr_rfl⟩
    simp only [s137_0, s137_1, s137_4, s137_7, s137_10, s137_11, s137_12, s137_15, s137_16, s137_17, s137_20, s137_21, s137_23, s137_26, s137_29, s137_30, s137_31, s137_34, s137_37, s137_38, s137_39, s137_42, s137_43, s137_44, s137_45, s137_46, s137_49, s137_50, s137_53, s137_54, s137_55, s137_58, s137_59, x_S_isBox, Option.bind_some, Option.toList_some, Option.toList_none, List.nil_append, List.cons_append, bI_z, elB_nI (show 3 < 1000 by decide) hb, if_true, Bool.true_eq_false, if_false, y0, y1, z6, z0]
  rw [if_neg z0]
  obtain ⟨l, hl, rfl⟩ : ∃ l, l < 7 ∧ z = nI l := by
    rcases el_or 7 z (by decide) with (h | h) | h
    · exact absurd h z0
    · exact absurd (lt_of_le (by decide) h) z6
    · exact h
  have ho := oC1_b b hb
  have hr := hB b hb
  obtain ⟨f, hf, e⟩ := x_B_make (d := d) (b := decide (s = 1)) (l := l) (m := m) (q := q) ho
  have r1 : ∀ {D : Nat} {mm : Mem}, ev D 137 43 [.ref 0, .int (nI b), .int (nI s), .int (nI l)] [.int (nI b), .ref 68] (mk shC mm q) = ev D 137 44 [.ref 0, .int (nI b), .int (nI s), .int (nI l)] [.ref (69 + 3 * b)] (mk shC mm q) := s137_43 (t := 1) shC_68 (by decide) hb (by decide) (bst_at b hb)
  have es : (if s = 1 then bI true else bI false) = bI (decide (s = 1)) := by by_cases h : s = 1 <;> simp [h]
  rw [eN_nI (show l < 1000 by omega)]
  refine ⟨mu (mu m (69 + 3 * b) (upd (upd (upd (m (69 + 3 * b)) 0 (nI 1)) 1 (bI (decide (s = 1)))) 2 (nI l))) (69 + 3 * b + 2) f, ?_, BS_set hB hb ?_ ?_, sm3_bC hb ?_⟩
  · simp only [s137_0, s137_1, s137_4, s137_7, s137_10, s137_11, s137_12, s137_15, s137_16, s137_17, s137_20, s137_21, s137_23, s137_26, s137_29, s137_30, s137_31, s137_34, s137_37, s137_38, s137_39, s137_42, s137_43, s137_44, s137_45, s137_46, s137_49, s137_50, s137_53, s137_54, s137_55, s137_58, s137_59, x_S_isBox, Option.bind_some, Option.toList_some, Option.toList_none, List.nil_append, List.cons_append, bI_z, elB_nI (show 3 < 1000 by decide) hb, if_true, Bool.true_eq_false, if_false, y0, y1, z6, z0, r1, nI_eq (show s < 2 ^ 31 by omega) (show 1 < 2 ^ 31 by decide)]
    by_cases h1 : s = 1
    · rw [decide_eq_true h1] at e
      simp only [h1, if_true, s137_0, s137_1, s137_4, s137_7, s137_10, s137_11, s137_12, s137_15, s137_16, s137_17, s137_20, s137_21, s137_23, s137_26, s137_29, s137_30, s137_31, s137_34, s137_37, s137_38, s137_39, s137_42, s137_43, s137_44, s137_45, s137_46, s137_49, s137_50, s137_53, s137_54, s137_55, s137_58, s137_59, ho, ← bI_t, e, Option.bind_some, Option.toList_some, Option.toList_none, List.nil_append, List.cons_append, decide_true]
    · rw [decide_eq_false h1] at e
      simp only [h1, if_false, s137_0, s137_1, s137_4, s137_7, s137_10, s137_11, s137_12, s137_15, s137_16, s137_17, s137_20, s137_21, s137_23, s137_26, s137_29, s137_30, s137_31, s137_34, s137_37, s137_38, s137_39, s137_42, s137_43, s137_44, s137_45, s137_46, s137_49, s137_50, s137_53, s137_54, s137_55, s137_58, s137_59, ho, ← bI_f, e, Option.bind_some, Option.toList_some, Option.toList_none, List.nil_append, List.cons_append, decide_false]
  · obtain ⟨b1, b2, b3, b4, b5⟩ := hr
    refine ⟨?_, ?_, ?_, ?_, fun i hi => ⟨?_, (b5 i hi).2.1, ?_, Nat.zero_le _⟩⟩
    · rw [mu_ne (by omega), mu_same]; simp [upd, bI]
    · rw [mu_ne (by omega), mu_same]; simp [upd]
    · rw [mu_ne (by omega), mu_same]; simp [upd]
    · dsimp only; omega
    · rw [mu_ne (by omega), mu_ne (by omega)]
      exact (b5 i hi).1
    · rw [mu_same]
      exact hf i hi
  · exact fun c h1 h2 h3 => by rw [mu_ne h3, mu_ne h1]
  · exact fun c h1 h2 h3 => by rw [mu_ne h3, mu_ne h1]
/-- a vector laid at a place -/
theorem x_B_lay {i y e : Nat} (ho : oC1 k) (hr : BR1 m k r) (hi : i < 6) (hy : y < 4096) (he : e ≤ 6) : ∃ m', ev d 144 0 [.ref k, .int (nI i), .int (nI y), .int (nI e)] [] (mk shC m q) = some (none, mk shC m' q) ∧ BR1 m' k (r.1, r.2.1, r.2.2.1, uN r.2.2.2.1 i y, uN r.2.2.2.2 i e) ∧ sm3 k m m' := by
  refine ⟨_, x_B_put ho hi, ?_, fun c h1 h2 h3 => by rw [mu_ne h3, mu_ne h2]⟩
  obtain ⟨b1, b2, b3, b4, b5⟩ := hr
  refine ⟨by rw [mu_ne (by omega), mu_ne (by omega)]; exact b1, by rw [mu_ne (by omega), mu_ne (by omega)]; exact b2, by rw [mu_ne (by omega), mu_ne (by omega)]; exact b3, b4, fun j hj => ?_⟩
  rw [mu_ne (show k + 1 ≠ k + 2 by omega), mu_same, mu_same]
  unfold uN
  simp only [upd]
  by_cases h : j = i
  · simp [h, hy, he]
  · simp only [h, if_false]
    exact b5 j hj
end
