/-! boxes: composed, seen, found, away; counts -/
def snA (B : Nat → BR) (b i e : Int32) : Int32 := if rfA B b i = 0 then (if elB ((B (eN b)).2.2.2.2 (eN i)) e = true then kyA ((B (eN b)).2.2.2.2 (eN i)) ((B (eN b)).2.2.2.1 (eN i)) (eN e) else -1002) else rfA B b i
def fiA (n : Nat) (F : Nat → Int32) (B : Nat → BR) (b i x : Int32) : Int32 :=
  if elB 3 b = true then (if elB 4 x = true then (if canB n F (eN x) = true then (if rfA B b i = 0 then (if (B (eN b)).2.2.2.2 (eN i) = n then (if (B (eN b)).2.2.2.1 (eN i) ∈ vkL n F (eN x) then nI ((vkL n F (eN x)).idxOf ((B (eN b)).2.2.2.1 (eN i))) else -1) else -1) else rfA B b i) else -1003) else -1002) else -1001
def bxM (r : BR) : Nat := (rg 0 r.2.2.1).foldl (fun x i => if r.2.2.2.2 i = 0 then x else x + 1) 0
def awR (B : Nat → BR) (b : Int32) : Int32 × (Nat → BR) := if elB 3 b = true then (if (B (eN b)).1 = true then (nI (bxM (B (eN b))), uB B (eN b) (false, (B (eN b)).2.1, 0, (B (eN b)).2.2.2.1, (B (eN b)).2.2.2.2)) else (-1011, B)) else (-1001, B)
theorem rfA_0 {B : Nat → BR} {b i : Int32} (h : rfA B b i = 0) (hl : ∀ β, β < 3 → (B β).2.2.1 ≤ 6) : ∃ β p, β < 3 ∧ b = nI β ∧ (B β).1 = true ∧ p < (B β).2.2.1 ∧ i = nI p ∧ (B β).2.2.2.2 p ≠ 0 := by
  unfold rfA at h
  rcases elB_or 3 b (by decide) with ⟨hb, _⟩ | ⟨β, hb, rfl⟩
  · rw [hb, if_neg (by decide)] at h; exact absurd h (by decide)
  rw [elB_nI (by decide) hb, if_pos rfl, eN_nI (by omega)] at h
  cases ht : (B β).1 with
  | false => rw [ht, if_neg (by decide)] at h; exact absurd h (by decide)
  | true =>
    rw [ht, if_pos rfl] at h
    have := hl β hb
    rcases elB_or (B β).2.2.1 i (by omega) with ⟨hi, _⟩ | ⟨p, hp, rfl⟩
    · rw [hi, if_neg (by decide)] at h; exact absurd h (by decide)
    rw [elB_nI (by omega) hp, if_pos rfl, eN_nI (by omega)] at h
    refine ⟨β, p, hb, rfl, ht, hp, rfl, fun e => ?_⟩
    rw [if_pos e] at h
    exact absurd h (by decide)
section
variable {d n : Nat} {m : Mem} {q : MemJ} {b i j x e : Int32} {B : Nat → BR}
theorem x_B_elems {k p : Nat} {r : BR} (ho : oC1 k) (hr : BR1 m k r) (hp : p < 6) : ev d 147 0 [.ref k, .int (nI p)] [] (mk shC m q) = some (some (.int (nI (r.2.2.2.2 p))), mk shC m q) := by
  rw [x_B_elementsAt ho hp, (hr.2.2.2.2 p hp).2.2.1]
theorem x_B_key {k p : Nat} {r : BR} (ho : oC1 k) (hr : BR1 m k r) (hp : p < 6) : ev d 148 0 [.ref k, .int (nI p)] [] (mk shC m q) = some (some (.int (nI (r.2.2.2.1 p))), mk shC m q) := by
  rw [x_B_keyAt ho hp, (hr.2.2.2.2 p hp).1]
theorem x_S_compose (hB : BS m B) : ∃ m', ev (d + 3) 145 0 [.ref 0, .int b, .int i, .int j, .null, .null] [] (mk shC m q) = some (some (.int (cmR B b i j).1), mk shC m' q) ∧ BS m' (cmR B b i j).2 ∧ fr bC m m' := by
  unfold cmR
  rcases elB_or 3 b (by decide) with ⟨hh, _⟩ | ⟨β, hb, rfl⟩
  · rw [hh]
    refine ⟨m, ?_, hB, fr_rfl⟩
    simp only [s145_0, s145_1, s145_4, s145_7, s145_10, s145_11, s145_12, s145_15, s145_16, s145_17, s145_19, s145_21, s145_24, s145_27, s145_30, s145_31, s145_33, s145_34, s145_37, s145_40, s145_42, s145_43, s145_46, s145_49, s145_52, s145_53, s145_55, s145_56, s145_59, s145_62, s145_64, s145_65, s145_68, s145_71, s145_74, s145_75, s145_77, s145_78, s145_81, s145_83, s145_84, s145_87, s145_90, s145_93, s145_94, s145_96, s145_97, s145_100, s145_102, s145_103, s145_106, s145_109, s145_111, s145_113, s145_114, s145_116, s145_118, s145_119, s145_122, s145_125, s145_127, s145_130, x_S_isBox, Option.bind_some, Option.toList_some, Option.toList_none, List.nil_append, List.cons_append, bI_z, hh, if_true, Bool.false_eq_true, if_false]
  rw [elB_nI (by decide) hb, if_pos rfl, eN_nI (show β < 1000 by omega)]
  have r1 : ∀ {D : Nat} {mm : Mem} {v4 v5 : Value}, ev D 145 16 [.ref 0, .int (nI β), .int i, .int j, v4, v5] [.int (nI β), .ref 68] (mk shC mm q) = ev D 145 17 [.ref 0, .int (nI β), .int i, .int j, v4, v5] [.ref (69 + 3 * β)] (mk shC mm q) := s145_16 (t := 1) shC_68 (by decide) hb (by decide) (bst_at β hb)
  have ho := oC1_b β hb
  have hr := hB β hb
  obtain ⟨b1, b2, b3, b4, b5⟩ := id hr
  have mi := x_B_isMissing (d := d + 2) (q := q) ho b1
  have e3 := elB_nI (show 3 < 1000 by decide) hb
  cases ht : (B β).1 with
  | false =>
    refine ⟨m, ?_, hB, fr_rfl⟩
    simp only [s145_0, s145_1, s145_4, s145_7, s145_10, s145_11, s145_12, s145_15, s145_16, s145_17, s145_19, s145_21, s145_24, s145_27, s145_30, s145_31, s145_33, s145_34, s145_37, s145_40, s145_42, s145_43, s145_46, s145_49, s145_52, s145_53, s145_55, s145_56, s145_59, s145_62, s145_64, s145_65, s145_68, s145_71, s145_74, s145_75, s145_77, s145_78, s145_81, s145_83, s145_84, s145_87, s145_90, s145_93, s145_94, s145_96, s145_97, s145_100, s145_102, s145_103, s145_106, s145_109, s145_111, s145_113, s145_114, s145_116, s145_118, s145_119, s145_122, s145_125, s145_127, s145_130, x_S_isBox, Option.bind_some, Option.toList_some, Option.toList_none, List.nil_append, List.cons_append, bI_z, e3, if_true, Bool.true_eq_false, Bool.false_eq_true, if_false, r1, ho, mi, ht, Bool.not_false]
  | true =>
    rw [if_pos rfl]
    rcases elB_or (B β).2.2.1 i (by omega) with ⟨hh, _⟩ | ⟨p, hp, rfl⟩
    · rw [hh, Bool.false_and]
      refine ⟨m, ?_, hB, fr_rfl⟩
      simp only [s145_0, s145_1, s145_4, s145_7, s145_10, s145_11, s145_12, s145_15, s145_16, s145_17, s145_19, s145_21, s145_24, s145_27, s145_30, s145_31, s145_33, s145_34, s145_37, s145_40, s145_42, s145_43, s145_46, s145_49, s145_52, s145_53, s145_55, s145_56, s145_59, s145_62, s145_64, s145_65, s145_68, s145_71, s145_74, s145_75, s145_77, s145_78, s145_81, s145_83, s145_84, s145_87, s145_90, s145_93, s145_94, s145_96, s145_97, s145_100, s145_102, s145_103, s145_106, s145_109, s145_111, s145_113, s145_114, s145_116, s145_118, s145_119, s145_122, s145_125, s145_127, s145_130, x_S_isBox, Option.bind_some, Option.toList_some, Option.toList_none, List.nil_append, List.cons_append, bI_z, e3, if_true, Bool.true_eq_false, Bool.false_eq_true, if_false, r1, ho, mi, ht, Bool.not_true, x_B_hasPlace ho b3, hh]
    have ep := elB_nI (show (B β).2.2.1 < 1000 by omega) hp
    rw [ep, Bool.true_and, eN_nI (show p < 1000 by omega)]
    rcases elB_or (B β).2.2.1 j (by omega) with ⟨hh, _⟩ | ⟨o, hq, rfl⟩
    · rw [hh]
      refine ⟨m, ?_, hB, fr_rfl⟩
      simp only [s145_0, s145_1, s145_4, s145_7, s145_10, s145_11, s145_12, s145_15, s145_16, s145_17, s145_19, s145_21, s145_24, s145_27, s145_30, s145_31, s145_33, s145_34, s145_37, s145_40, s145_42, s145_43, s145_46, s145_49, s145_52, s145_53, s145_55, s145_56, s145_59, s145_62, s145_64, s145_65, s145_68, s145_71, s145_74, s145_75, s145_77, s145_78, s145_81, s145_83, s145_84, s145_87, s145_90, s145_93, s145_94, s145_96, s145_97, s145_100, s145_102, s145_103, s145_106, s145_109, s145_111, s145_113, s145_114, s145_116, s145_118, s145_119, s145_122, s145_125, s145_127, s145_130, x_S_isBox, Option.bind_some, Option.toList_some, Option.toList_none, List.nil_append, List.cons_append, bI_z, e3, if_true, Bool.true_eq_false, Bool.false_eq_true, if_false, r1, ho, mi, ht, Bool.not_true, x_B_hasPlace ho b3, ep, hh]
    have eo := elB_nI (show (B β).2.2.1 < 1000 by omega) hq
    rw [eo, if_pos rfl, eN_nI (show o < 1000 by omega)]
    have emp := x_B_empty (d := d + 2) (q := q) ho hr (show p < 6 by omega)
    have emo := x_B_empty (d := d + 2) (q := q) ho hr (show o < 6 by omega)
    by_cases z1 : (B β).2.2.2.2 p = 0
    · rw [if_pos (Or.inl z1)]
      refine ⟨m, ?_, hB, fr_rfl⟩
      simp only [s145_0, s145_1, s145_4, s145_7, s145_10, s145_11, s145_12, s145_15, s145_16, s145_17, s145_19, s145_21, s145_24, s145_27, s145_30, s145_31, s145_33, s145_34, s145_37, s145_40, s145_42, s145_43, s145_46, s145_49, s145_52, s145_53, s145_55, s145_56, s145_59, s145_62, s145_64, s145_65, s145_68, s145_71, s145_74, s145_75, s145_77, s145_78, s145_81, s145_83, s145_84, s145_87, s145_90, s145_93, s145_94, s145_96, s145_97, s145_100, s145_102, s145_103, s145_106, s145_109, s145_111, s145_113, s145_114, s145_116, s145_118, s145_119, s145_122, s145_125, s145_127, s145_130, x_S_isBox, Option.bind_some, Option.toList_some, Option.toList_none, List.nil_append, List.cons_append, bI_z, e3, if_true, Bool.true_eq_false, Bool.false_eq_true, if_false, r1, ho, mi, ht, Bool.not_true, x_B_hasPlace ho b3, ep, eo, emp, z1, decide_true]
    by_cases z2 : (B β).2.2.2.2 o = 0
    · rw [if_pos (Or.inr z2)]
      refine ⟨m, ?_, hB, fr_rfl⟩
      simp only [s145_0, s145_1, s145_4, s145_7, s145_10, s145_11, s145_12, s145_15, s145_16, s145_17, s145_19, s145_21, s145_24, s145_27, s145_30, s145_31, s145_33, s145_34, s145_37, s145_40, s145_42, s145_43, s145_46, s145_49, s145_52, s145_53, s145_55, s145_56, s145_59, s145_62, s145_64, s145_65, s145_68, s145_71, s145_74, s145_75, s145_77, s145_78, s145_81, s145_83, s145_84, s145_87, s145_90, s145_93, s145_94, s145_96, s145_97, s145_100, s145_102, s145_103, s145_106, s145_109, s145_111, s145_113, s145_114, s145_116, s145_118, s145_119, s145_122, s145_125, s145_127, s145_130, x_S_isBox, Option.bind_some, Option.toList_some, Option.toList_none, List.nil_append, List.cons_append, bI_z, e3, if_true, Bool.true_eq_false, Bool.false_eq_true, if_false, r1, ho, mi, ht, Bool.not_true, x_B_hasPlace ho b3, ep, eo, emp, z1, decide_false, emo, z2, decide_true]
    rw [if_neg (by rintro (h | h); exact z1 h; exact z2 h)]
    obtain ⟨kp1, kp2, kp3, kp4⟩ := b5 p (by omega)
    obtain ⟨ko1, ko2, ko3, ko4⟩ := b5 o (by omega)
    have lp := x_B_elems (d := d + 2) (q := q) ho hr (show p < 6 by omega)
    have lo := x_B_elems (d := d + 2) (q := q) ho hr (show o < 6 by omega)
    by_cases z3 : (B β).2.2.2.2 p = (B β).2.2.2.2 o
    · rw [if_pos z3]
      have kp := x_B_key (d := d + 2) (q := q) ho hr (show p < 6 by omega)
      have ko := x_B_key (d := d + 2) (q := q) ho hr (show o < 6 by omega)
      obtain ⟨m3, e4, R3, S3⟩ := x_B_lay (d := d + 2) (q := q) (i := p) (y := cpK ((B β).2.2.2.1 p) ((B β).2.2.2.1 o)) (e := (B β).2.2.2.2 p) ho hr (by omega) (cpK_lt kp2 ko2) kp4
      rw [ht] at R3
      refine ⟨m3, ?_, BS_set hB hb R3 S3, sm3_bC hb S3⟩
      have z3' : nI ((B β).2.2.2.2 p) = nI ((B β).2.2.2.2 o) := by rw [z3]
      simp only [s145_0, s145_1, s145_4, s145_7, s145_10, s145_11, s145_12, s145_15, s145_16, s145_17, s145_19, s145_21, s145_24, s145_27, s145_30, s145_31, s145_33, s145_34, s145_37, s145_40, s145_42, s145_43, s145_46, s145_49, s145_52, s145_53, s145_55, s145_56, s145_59, s145_62, s145_64, s145_65, s145_68, s145_71, s145_74, s145_75, s145_77, s145_78, s145_81, s145_83, s145_84, s145_87, s145_90, s145_93, s145_94, s145_96, s145_97, s145_100, s145_102, s145_103, s145_106, s145_109, s145_111, s145_113, s145_114, s145_116, s145_118, s145_119, s145_122, s145_125, s145_127, s145_130, x_S_isBox, Option.bind_some, Option.toList_some, Option.toList_none, List.nil_append, List.cons_append, bI_z, e3, if_true, Bool.true_eq_false, Bool.false_eq_true, if_false, r1, ho, mi, ht, Bool.not_true, x_B_hasPlace ho b3, ep, eo, emp, z1, decide_false, emo, z2, lp, lo, z3', kp, ko, x_K_composed, x_K_zeros]
      rw [← z3']
      simp only [s145_0, s145_1, s145_4, s145_7, s145_10, s145_11, s145_12, s145_15, s145_16, s145_17, s145_19, s145_21, s145_24, s145_27, s145_30, s145_31, s145_33, s145_34, s145_37, s145_40, s145_42, s145_43, s145_46, s145_49, s145_52, s145_53, s145_55, s145_56, s145_59, s145_62, s145_64, s145_65, s145_68, s145_71, s145_74, s145_75, s145_77, s145_78, s145_81, s145_83, s145_84, s145_87, s145_90, s145_93, s145_94, s145_96, s145_97, s145_100, s145_102, s145_103, s145_106, s145_109, s145_111, s145_113, s145_114, s145_116, s145_118, s145_119, s145_122, s145_125, s145_127, s145_130, Option.bind_some, Option.toList_some, Option.toList_none, List.nil_append, List.cons_append, e4, x_K_zeros, ho]
      rfl
    · rw [if_neg z3]
      refine ⟨m, ?_, hB, fr_rfl⟩
      simp only [s145_0, s145_1, s145_4, s145_7, s145_10, s145_11, s145_12, s145_15, s145_16, s145_17, s145_19, s145_21, s145_24, s145_27, s145_30, s145_31, s145_33, s145_34, s145_37, s145_40, s145_42, s145_43, s145_46, s145_49, s145_52, s145_53, s145_55, s145_56, s145_59, s145_62, s145_64, s145_65, s145_68, s145_71, s145_74, s145_75, s145_77, s145_78, s145_81, s145_83, s145_84, s145_87, s145_90, s145_93, s145_94, s145_96, s145_97, s145_100, s145_102, s145_103, s145_106, s145_109, s145_111, s145_113, s145_114, s145_116, s145_118, s145_119, s145_122, s145_125, s145_127, s145_130, x_S_isBox, Option.bind_some, Option.toList_some, Option.toList_none, List.nil_append, List.cons_append, bI_z, e3, if_true, Bool.true_eq_false, Bool.false_eq_true, if_false, r1, ho, mi, ht, Bool.not_true, x_B_hasPlace ho b3, ep, eo, emp, z1, decide_false, emo, z2, lp, lo, nI_eq (show (B β).2.2.2.2 p < 2 ^ 31 by omega) (show (B β).2.2.2.2 o < 2 ^ 31 by omega), z3]
theorem x_S_seen (hB : BS m B) : ev (d + 2) 149 0 [.ref 0, .int b, .int i, .int e, .null, .null] [] (mk shC m q) = some (some (.int (snA B b i e)), mk shC m q) := by
  unfold snA
  have rf := x_S_refusalAt (d := d) (q := q) (x := b) (y := i) hB
  by_cases h0 : rfA B b i = 0
  · rw [if_pos h0]
    obtain ⟨β, p, hb, rfl, ht, hp, rfl, he⟩ := rfA_0 h0 fun β hβ => (hB β hβ).2.2.2.1
    have r1 : ∀ {D : Nat} {mm : Mem} {v4 : Int32} {v5 : Value}, ev D 149 21 [.ref 0, .int (nI β), .int (nI p), .int e, .int v4, v5] [.int (nI β), .ref 68] (mk shC mm q) = ev D 149 22 [.ref 0, .int (nI β), .int (nI p), .int e, .int v4, v5] [.ref (69 + 3 * β)] (mk shC mm q) := s149_21 (t := 1) shC_68 (by decide) hb (by decide) (bst_at β hb)
    have r2 : ∀ {D : Nat} {mm : Mem} {v4 v5 : Int32}, ev D 149 47 [.ref 0, .int (nI β), .int (nI p), .int e, .int v4, .int v5] [.int (nI β), .ref 68] (mk shC mm q) = ev D 149 48 [.ref 0, .int (nI β), .int (nI p), .int e, .int v4, .int v5] [.ref (69 + 3 * β)] (mk shC mm q) := s149_47 (t := 1) shC_68 (by decide) hb (by decide) (bst_at β hb)
    have ho := oC1_b β hb
    have hr := hB β hb
    obtain ⟨b1, b2, b3, b4, b5⟩ := id hr
    obtain ⟨kp1, kp2, kp3, kp4⟩ := b5 p (by omega)
    have lp := x_B_elems (d := d + 1) (q := q) ho hr (show p < 6 by omega)
    have kp := x_B_key (d := d + 1) (q := q) ho hr (show p < 6 by omega)
    rw [eN_nI (show β < 1000 by omega), eN_nI (show p < 1000 by omega)]
    rcases elB_or ((B β).2.2.2.2 p) e (by omega) with ⟨hh, h | h⟩ | ⟨a, ha, rfl⟩
    · simp only [s149_0, s149_1, s149_2, s149_3, s149_6, s149_8, s149_10, s149_13, s149_15, s149_16, s149_17, s149_20, s149_21, s149_22, s149_23, s149_26, s149_28, s149_29, s149_32, s149_33, s149_35, s149_38, s149_41, s149_42, s149_43, s149_46, s149_47, s149_48, s149_49, s149_52, s149_54, s149_55, s149_58, rf, h0, Option.bind_some, Option.toList_some, Option.toList_none, List.nil_append, List.cons_append, r1, ho, lp, h, hh, if_true, Bool.false_eq_true, if_false]
    · simp only [s149_0, s149_1, s149_2, s149_3, s149_6, s149_8, s149_10, s149_13, s149_15, s149_16, s149_17, s149_20, s149_21, s149_22, s149_23, s149_26, s149_28, s149_29, s149_32, s149_33, s149_35, s149_38, s149_41, s149_42, s149_43, s149_46, s149_47, s149_48, s149_49, s149_52, s149_54, s149_55, s149_58, rf, h0, Option.bind_some, Option.toList_some, Option.toList_none, List.nil_append, List.cons_append, r1, ho, lp, show ¬ e < nI ((B β).2.2.2.2 p) from Int32.not_lt.mpr h, hh, if_true, Bool.false_eq_true, if_false, ite_self]
    · simp only [s149_0, s149_1, s149_2, s149_3, s149_6, s149_8, s149_10, s149_13, s149_15, s149_16, s149_17, s149_20, s149_21, s149_22, s149_23, s149_26, s149_28, s149_29, s149_32, s149_33, s149_35, s149_38, s149_41, s149_42, s149_43, s149_46, s149_47, s149_48, s149_49, s149_52, s149_54, s149_55, s149_58, rf, h0, Option.bind_some, Option.toList_some, Option.toList_none, List.nil_append, List.cons_append, r1, r2, ho, lp, kp, nI_pos (show a < 2 ^ 31 by omega), nI_lt ha (show (B β).2.2.2.2 p < 2 ^ 31 by omega), elB_nI (show (B β).2.2.2.2 p < 1000 by omega) ha, if_true, if_false, x_K_numberAt kp2 kp4 ha, eN_nI (show a < 1000 by omega), kyA]
  · rw [if_neg h0]
    simp only [s149_0, s149_1, s149_2, s149_3, s149_6, s149_8, s149_10, s149_13, s149_15, s149_16, s149_17, s149_20, s149_21, s149_22, s149_23, s149_26, s149_28, s149_29, s149_32, s149_33, s149_35, s149_38, s149_41, s149_42, s149_43, s149_46, s149_47, s149_48, s149_49, s149_52, s149_54, s149_55, s149_58, rf, h0, Option.bind_some, Option.toList_some, Option.toList_none, List.nil_append, List.cons_append, if_false]
theorem x_S_find (hN : NI m n) (hF : FI m q n (m 2)) (hB : BS m B) : ∃ m', ev (d + 10) 151 0 [.ref 0, .int b, .int i, .int x, .null] [] (mk shC m q) = some (some (.int (fiA n (m 2) B b i x)), mk shC m' q) ∧ fr fC m m' ∧ FI m' q n (m 2) := by
  have n6 := hN.2.2.1
  unfold fiA
  rcases elB_or 3 b (by decide) with ⟨hh, _⟩ | ⟨β, hb, rfl⟩
  · rw [hh]
    refine ⟨m, ?_, fr_rfl, hF⟩
    simp only [s151_0, s151_1, s151_4, s151_7, s151_10, s151_11, s151_12, s151_15, s151_18, s151_21, s151_22, s151_23, s151_26, s151_27, s151_30, s151_33, s151_36, s151_37, s151_38, s151_39, s151_40, s151_43, s151_45, s151_47, s151_50, s151_52, s151_53, s151_54, s151_57, s151_58, s151_59, s151_60, s151_63, s151_64, s151_67, s151_70, s151_73, s151_74, s151_75, s151_76, s151_79, s151_80, s151_83, s151_84, s151_87, s151_88, s151_89, s151_90, s151_93, s151_96, x_S_isBox, Option.bind_some, Option.toList_some, Option.toList_none, List.nil_append, List.cons_append, bI_z, hh, if_true, Bool.false_eq_true, if_false]
  have e3 := elB_nI (show 3 < 1000 by decide) hb
  rw [e3, if_pos rfl]
  rcases elB_or 4 x (by decide) with ⟨hx, _⟩ | ⟨κ, hκ, rfl⟩
  · rw [hx]
    refine ⟨m, ?_, fr_rfl, hF⟩
    simp only [s151_0, s151_1, s151_4, s151_7, s151_10, s151_11, s151_12, s151_15, s151_18, s151_21, s151_22, s151_23, s151_26, s151_27, s151_30, s151_33, s151_36, s151_37, s151_38, s151_39, s151_40, s151_43, s151_45, s151_47, s151_50, s151_52, s151_53, s151_54, s151_57, s151_58, s151_59, s151_60, s151_63, s151_64, s151_67, s151_70, s151_73, s151_74, s151_75, s151_76, s151_79, s151_80, s151_83, s151_84, s151_87, s151_88, s151_89, s151_90, s151_93, s151_96, x_S_isBox, x_S_isKind, Option.bind_some, Option.toList_some, Option.toList_none, List.nil_append, List.cons_append, bI_z, e3, hx, if_true, Bool.true_eq_false, Bool.false_eq_true, if_false]
  have e4 := elB_nI (show 4 < 1000 by decide) hκ
  rw [e4, eN_nI (show κ < 1000 by omega), if_pos rfl]
  obtain ⟨m1, e1, g1, F1⟩ := x_F_canTellOf (d := d) hN hF hκ
  rw [show (decide (κ < 2) || orO n (m 2)) = canB n (m 2) κ from rfl] at e1
  cases hc : canB n (m 2) κ with
  | false =>
    refine ⟨m1, ?_, g1, F1⟩
    simp only [s151_0, s151_1, s151_4, s151_7, s151_10, s151_11, s151_12, s151_15, s151_18, s151_21, s151_22, s151_23, s151_26, s151_27, s151_30, s151_33, s151_36, s151_37, s151_38, s151_39, s151_40, s151_43, s151_45, s151_47, s151_50, s151_52, s151_53, s151_54, s151_57, s151_58, s151_59, s151_60, s151_63, s151_64, s151_67, s151_70, s151_73, s151_74, s151_75, s151_76, s151_79, s151_80, s151_83, s151_84, s151_87, s151_88, s151_89, s151_90, s151_93, s151_96, x_S_isBox, x_S_isKind, Option.bind_some, Option.toList_some, Option.toList_none, List.nil_append, List.cons_append, bI_z, e3, e4, if_true, Bool.true_eq_false, if_false, e1, hc, Bool.false_eq_true]
  | true =>
    rw [if_pos rfl]
    have N1 := NI_fC hN g1
    have s2 : m1 2 = m 2 := g1 2 (by decide)
    have B1 := BS_fC hB g1
    have rf := x_S_refusalAt (d := d + 8) (q := q) (x := nI β) (y := i) B1
    by_cases h0 : rfA B (nI β) i = 0
    · rw [if_pos h0]
      obtain ⟨β', p, hb', hbb, ht, hp, rfl, he⟩ := rfA_0 h0 fun β hβ => (hB β hβ).2.2.2.1
      obtain rfl : β' = β := by
        have := congrArg eN hbb
        rw [eN_nI (by omega), eN_nI (by omega)] at this
        exact this.symm
      have p6 := (hB β' hb).2.2.2.1
      rw [eN_nI (show β' < 1000 by omega), eN_nI (show p < 1000 by omega)]
      have r1 : ∀ {D : Nat} {mm : Mem} {v4 : Int32}, ev D 151 58 [.ref 0, .int (nI β'), .int (nI p), .int (nI κ), .int v4] [.int (nI β'), .ref 68] (mk shC mm q) = ev D 151 59 [.ref 0, .int (nI β'), .int (nI p), .int (nI κ), .int v4] [.ref (69 + 3 * β')] (mk shC mm q) := s151_58 (t := 1) shC_68 (by decide) hb (by decide) (bst_at β' hb)
      have r2 : ∀ {D a : Nat} {mm : Mem} {v4 : Int32}, ev D 151 88 [.ref 0, .int (nI β'), .int (nI p), .int (nI κ), .int v4] [.int (nI β'), .ref 68, .ref a] (mk shC mm q) = ev D 151 89 [.ref 0, .int (nI β'), .int (nI p), .int (nI κ), .int v4] [.ref (69 + 3 * β'), .ref a] (mk shC mm q) := s151_88 (t := 1) shC_68 (by decide) hb (by decide) (bst_at β' hb)
      have ho := oC1_b β' hb
      have hr := B1 β' hb
      obtain ⟨b1, b2, b3, b4, b5⟩ := id hr
      obtain ⟨kp1, kp2, kp3, kp4⟩ := b5 p (by omega)
      have lp := x_B_elems (d := d + 9) (q := q) ho hr (show p < 6 by omega)
      by_cases hn : (B β').2.2.2.2 p = n
      · rw [if_pos hn]
        obtain ⟨m2, e2, g2, F2, w2, -⟩ := x_F_ofKind (d := d + 3) (k := κ) N1 (s2 ▸ F1) hκ
        rw [s2] at F2 w2
        have g12 := fr_tr g1 g2
        have hr2 := BS_fC hB g12 β' hb
        have kp := x_B_key (d := d + 9) (q := q) ho hr2 (show p < 6 by omega)
        have hn' : nI ((B β').2.2.2.2 p) = nI n := by rw [hn]
        have ix := x_W_indexOf (d := d + 9) (q := q) (oC8_k κ hκ) w2 kp2
        refine ⟨m2, ?_, g12, F2⟩
        simp only [s151_0, s151_1, s151_4, s151_7, s151_10, s151_11, s151_12, s151_15, s151_18, s151_21, s151_22, s151_23, s151_26, s151_27, s151_30, s151_33, s151_36, s151_37, s151_38, s151_39, s151_40, s151_43, s151_45, s151_47, s151_50, s151_52, s151_53, s151_54, s151_57, s151_58, s151_59, s151_60, s151_63, s151_64, s151_67, s151_70, s151_73, s151_74, s151_75, s151_76, s151_79, s151_80, s151_83, s151_84, s151_87, s151_88, s151_89, s151_90, s151_93, s151_96, x_S_isBox, x_S_isKind, Option.bind_some, Option.toList_some, Option.toList_none, List.nil_append, List.cons_append, bI_z, e3, e4, if_true, Bool.true_eq_false, if_false, e1, hc, rf, h0, r1, ho, lp, oC0_1, x_A_size oC0_1, N1.1, hn', e2, r2, oC8_k κ hκ, kp, ix]
      · rw [if_neg hn]
        refine ⟨m1, ?_, g1, F1⟩
        simp only [s151_0, s151_1, s151_4, s151_7, s151_10, s151_11, s151_12, s151_15, s151_18, s151_21, s151_22, s151_23, s151_26, s151_27, s151_30, s151_33, s151_36, s151_37, s151_38, s151_39, s151_40, s151_43, s151_45, s151_47, s151_50, s151_52, s151_53, s151_54, s151_57, s151_58, s151_59, s151_60, s151_63, s151_64, s151_67, s151_70, s151_73, s151_74, s151_75, s151_76, s151_79, s151_80, s151_83, s151_84, s151_87, s151_88, s151_89, s151_90, s151_93, s151_96, x_S_isBox, x_S_isKind, Option.bind_some, Option.toList_some, Option.toList_none, List.nil_append, List.cons_append, bI_z, e3, e4, if_true, Bool.true_eq_false, if_false, e1, hc, rf, h0, r1, ho, lp, oC0_1, x_A_size oC0_1, N1.1, nI_eq (show (B β').2.2.2.2 p < 2 ^ 31 by omega) (show n < 2 ^ 31 by omega), hn]
    · rw [if_neg h0]
      refine ⟨m1, ?_, g1, F1⟩
      simp only [s151_0, s151_1, s151_4, s151_7, s151_10, s151_11, s151_12, s151_15, s151_18, s151_21, s151_22, s151_23, s151_26, s151_27, s151_30, s151_33, s151_36, s151_37, s151_38, s151_39, s151_40, s151_43, s151_45, s151_47, s151_50, s151_52, s151_53, s151_54, s151_57, s151_58, s151_59, s151_60, s151_63, s151_64, s151_67, s151_70, s151_73, s151_74, s151_75, s151_76, s151_79, s151_80, s151_83, s151_84, s151_87, s151_88, s151_89, s151_90, s151_93, s151_96, x_S_isBox, x_S_isKind, Option.bind_some, Option.toList_some, Option.toList_none, List.nil_append, List.cons_append, bI_z, e3, e4, if_true, Bool.true_eq_false, if_false, e1, hc, rf, h0]
theorem bx_fold {f : Nat → Int32} {E : Nat → Nat} : ∀ {l : List Nat} {x : Nat}, (∀ i ∈ l, f i = nI (E i) ∧ E i ≤ 6) → l.foldl (fun x i => if f i = 0 then x else x + 1) x = l.foldl (fun x i => if E i = 0 then x else x + 1) x
  | [], _, _ => rfl
  | a :: l, x, h => by
    rw [List.foldl_cons, List.foldl_cons]
    have ha := h a List.mem_cons_self
    rw [ha.1]
    simp only [nI_z (show E a < 2 ^ 31 by omega)]
    exact bx_fold fun i hi => h i (List.mem_cons_of_mem _ hi)
theorem x_B_vecs {k : Nat} {r : BR} (ho : oC1 k) (hr : BR1 m k r) : ev (d + 1) 154 0 [.ref k, .null, .null] [] (mk shC m q) = some (some (.int (nI (bxM r))), mk shC m q) := by
  obtain ⟨b1, b2, b3, b4, b5⟩ := hr
  rw [x_B_vectors ho b3 b4]
  unfold bxN bxM
  rw [bx_fold fun i hi => ⟨(b5 i (by have := rg_mem.mp hi; omega)).2.2.1, (b5 i (by have := rg_mem.mp hi; omega)).2.2.2⟩]
theorem x_S_away (hB : BS m B) : ∃ m', ev (d + 2) 153 0 [.ref 0, .int b, .null] [] (mk shC m q) = some (some (.int (awR B b).1), mk shC m' q) ∧ BS m' (awR B b).2 ∧ fr bC m m' := by
  unfold awR
  rcases elB_or 3 b (by decide) with ⟨hh, _⟩ | ⟨β, hb, rfl⟩
  · rw [hh]
    refine ⟨m, ?_, hB, fr_rfl⟩
    simp only [s153_0, s153_1, s153_4, s153_7, s153_10, s153_11, s153_12, s153_15, s153_16, s153_17, s153_20, s153_23, s153_26, s153_27, s153_28, s153_31, s153_32, s153_33, s153_36, s153_37, s153_38, s153_41, s153_42, s153_43, s153_46, s153_47, x_S_isBox, Option.bind_some, Option.toList_some, Option.toList_none, List.nil_append, List.cons_append, bI_z, hh, if_true, Bool.false_eq_true, if_false]
  have e3 := elB_nI (show 3 < 1000 by decide) hb
  rw [e3, if_pos rfl, eN_nI (show β < 1000 by omega)]
  have r1 : ∀ {D : Nat} {mm : Mem} {v2 : Value}, ev D 153 16 [.ref 0, .int (nI β), v2] [.int (nI β), .ref 68] (mk shC mm q) = ev D 153 17 [.ref 0, .int (nI β), v2] [.ref (69 + 3 * β)] (mk shC mm q) := s153_16 (t := 1) shC_68 (by decide) hb (by decide) (bst_at β hb)
  have r2 : ∀ {D : Nat} {mm : Mem} {v2 : Value}, ev D 153 32 [.ref 0, .int (nI β), v2] [.int (nI β), .ref 68] (mk shC mm q) = ev D 153 33 [.ref 0, .int (nI β), v2] [.ref (69 + 3 * β)] (mk shC mm q) := s153_32 (t := 1) shC_68 (by decide) hb (by decide) (bst_at β hb)
  have r3 : ∀ {D : Nat} {mm : Mem} {v2 : Int32}, ev D 153 42 [.ref 0, .int (nI β), .int v2] [.int (nI β), .ref 68] (mk shC mm q) = ev D 153 43 [.ref 0, .int (nI β), .int v2] [.ref (69 + 3 * β)] (mk shC mm q) := s153_42 (t := 1) shC_68 (by decide) hb (by decide) (bst_at β hb)
  have ho := oC1_b β hb
  have hr := hB β hb
  obtain ⟨b1, b2, b3, b4, b5⟩ := id hr
  have mi := x_B_isMissing (d := d + 1) (q := q) ho b1
  cases ht : (B β).1 with
  | false =>
    refine ⟨m, ?_, hB, fr_rfl⟩
    simp only [s153_0, s153_1, s153_4, s153_7, s153_10, s153_11, s153_12, s153_15, s153_16, s153_17, s153_20, s153_23, s153_26, s153_27, s153_28, s153_31, s153_32, s153_33, s153_36, s153_37, s153_38, s153_41, s153_42, s153_43, s153_46, s153_47, x_S_isBox, Option.bind_some, Option.toList_some, Option.toList_none, List.nil_append, List.cons_append, bI_z, e3, if_true, Bool.true_eq_false, Bool.false_eq_true, if_false, r1, ho, mi, ht, Bool.not_false]
  | true =>
    rw [if_pos rfl]
    have vc := x_B_vecs (d := d) (q := q) ho hr
    have vn := x_B_vanish (d := d + 1) (m := m) (q := q) ho
    refine ⟨mu m (69 + 3 * β) (upd (upd (m (69 + 3 * β)) 0 (nI 0)) 2 (nI 0)), ?_, BS_set hB hb ?_ ?_, sm3_bC hb ?_⟩
    · simp only [s153_0, s153_1, s153_4, s153_7, s153_10, s153_11, s153_12, s153_15, s153_16, s153_17, s153_20, s153_23, s153_26, s153_27, s153_28, s153_31, s153_32, s153_33, s153_36, s153_37, s153_38, s153_41, s153_42, s153_43, s153_46, s153_47, x_S_isBox, Option.bind_some, Option.toList_some, Option.toList_none, List.nil_append, List.cons_append, bI_z, e3, if_true, Bool.true_eq_false, Bool.false_eq_true, if_false, r1, r2, r3, ho, mi, ht, Bool.not_true, vc, vn]
    · refine ⟨?_, ?_, ?_, Nat.zero_le _, fun i hi => ⟨?_, (b5 i hi).2.1, ?_, (b5 i hi).2.2.2⟩⟩
      · rw [mu_same]; simp [upd, bI]
      · rw [mu_same]; simpa [upd] using b2
      · rw [mu_same]; simp [upd]
      · rw [mu_ne (by omega)]; exact (b5 i hi).1
      · rw [mu_ne (by omega)]; exact (b5 i hi).2.2.1
    · exact fun c h1 h2 h3 => by rw [mu_ne h1]
    · exact fun c h1 h2 h3 => by rw [mu_ne h1]
theorem x_S_vob (hB : BS m B) : ev (d + 2) 162 0 [.ref 0, .null, .null] [] (mk shC m q) = some (some (.int (nI (bxM (B 0) + bxM (B 1) + bxM (B 2)))), mk shC m q) := by
  have st : ∀ β (x : Nat), β < 3 → ev (d + 2) 162 4 [.ref 0, .int (nI x), .int (nI β)] [] (mk shC m q) = ev (d + 2) 162 4 [.ref 0, .int (nI (x + bxM (B β))), .int (nI (β + 1))] [] (mk shC m q) := fun β x hb => by
    have r1 : ∀ {D : Nat} {mm : Mem} {x1 y : Int32}, ev D 162 15 [.ref 0, .int x1, .int (nI β)] [.int (nI β), .ref 68, .int y] (mk shC mm q) = ev D 162 16 [.ref 0, .int x1, .int (nI β)] [.ref (69 + 3 * β), .int y] (mk shC mm q) := s162_15 (t := 1) shC_68 (by decide) hb (by decide) (bst_at β hb)
    have vc := x_B_vecs (d := d) (q := q) (oC1_b β hb) (hB β hb)
    rw [s162_4]
    simp only [s162_0, s162_1, s162_2, s162_3, s162_5, s162_6, s162_9, s162_10, s162_11, s162_14, s162_15, s162_16, s162_19, s162_20, s162_21, s162_24, s162_27, s162_28, nI_lt hb (show 3 < 2 ^ 31 by decide), if_true, r1, oC1_b β hb, vc, Option.bind_some, Option.toList_some, Option.toList_none, List.nil_append, List.cons_append, nI_add]
  have en : ∀ x : Nat, ev (d + 2) 162 4 [.ref 0, .int (nI x), .int (nI 3)] [] (mk shC m q) = some (some (.int (nI x)), mk shC m q) := fun x => by
    rw [s162_4]
    simp only [s162_0, s162_1, s162_2, s162_3, s162_5, s162_6, s162_9, s162_10, s162_11, s162_14, s162_15, s162_16, s162_19, s162_20, s162_21, s162_24, s162_27, s162_28, nI_irr, if_false]
  have := (st 0 0 (by decide)).trans ((st 1 _ (by decide)).trans ((st 2 _ (by decide)).trans (en _)))
  rw [Nat.zero_add] at this
  simp only [s162_0, s162_1, s162_2, s162_3, s162_5, s162_6, s162_9, s162_10, s162_11, s162_14, s162_15, s162_16, s162_19, s162_20, s162_21, s162_24, s162_27, s162_28]
  exact this
def coA (n : Nat) (F : Nat → Int32) (B : Nat → BR) (s L : Nat) : Nat → Int32
  | 0 => nI n
  | 1 => nI (n * (n - 1) * (n - 2) / 6)
  | 2 => bsO n F
  | 3 => bdF n F 0 n
  | 4 => nI (loO n F)
  | 5 => paO n F
  | 6 => nI s
  | 7 => nI L
  | _ => nI (bxM (B 0) + bxM (B 1) + bxM (B 2))
theorem x_S_count {s L : Nat} (hN : NI m n) (hF : FI m q n (m 2)) (hB : BS m B) (hs : m 7 2 = nI s) (hL : m 41 1 = nI L) : ∃ m', ev (d + 7) 156 0 [.ref 0, .int x] [] (mk shC m q) = some (some (.int (if elB 9 x = true then coA n (m 2) B s L (eN x) else -1002)), mk shC m' q) ∧ fr fC m m' ∧ FI m' q n (m 2) := by
  have n1 := hN.1
  have n6 := hN.2.2.1
  rcases elB_or 9 x (by decide) with ⟨hx, h⟩ | ⟨k, hk, rfl⟩
  · refine ⟨m, ?_, fr_rfl, hF⟩
    simp only [s156_0, s156_1 (nel_i (n := 8) (by decide) h), s156_129, s156_132, hx, Bool.false_eq_true, if_false]
  · rw [elB_nI (by decide) hk, eN_nI (by omega), if_pos rfl]
    match k, hk with
    | 0, _ => exact ⟨m, by simp only [s156_0, s156_1_0, s156_1_1, s156_1_2, s156_1_3, s156_1_4, s156_1_5, s156_1_6, s156_1_7, s156_1_8, s156_52, s156_53, s156_56, s156_59, s156_60, s156_61, s156_64, s156_67, s156_68, s156_69, s156_72, s156_75, s156_76, s156_77, s156_80, s156_81, s156_82, s156_85, s156_88, s156_91, s156_92, s156_93, s156_96, s156_99, s156_100, s156_101, s156_104, s156_107, s156_108, s156_109, s156_112, s156_115, s156_116, s156_117, s156_120, s156_123, s156_124, s156_125, s156_128, s156_129, s156_132, oC0_1, x_A_size oC0_1, n1, Option.bind_some, Option.toList_some, Option.toList_none, List.nil_append, List.cons_append, coA], fr_rfl, hF⟩
    | 1, _ => exact ⟨m, by simp only [s156_0, s156_1_0, s156_1_1, s156_1_2, s156_1_3, s156_1_4, s156_1_5, s156_1_6, s156_1_7, s156_1_8, s156_52, s156_53, s156_56, s156_59, s156_60, s156_61, s156_64, s156_67, s156_68, s156_69, s156_72, s156_75, s156_76, s156_77, s156_80, s156_81, s156_82, s156_85, s156_88, s156_91, s156_92, s156_93, s156_96, s156_99, s156_100, s156_101, s156_104, s156_107, s156_108, s156_109, s156_112, s156_115, s156_116, s156_117, s156_120, s156_123, s156_124, s156_125, s156_128, s156_129, s156_132, oC0_1, x_A_triples oC0_1 n1 n6, Option.bind_some, Option.toList_some, Option.toList_none, List.nil_append, List.cons_append, coA], fr_rfl, hF⟩
    | 2, _ => exact ⟨m, by
        simp only [s156_0, s156_1_0, s156_1_1, s156_1_2, s156_1_3, s156_1_4, s156_1_5, s156_1_6, s156_1_7, s156_1_8, s156_52, s156_53, s156_56, s156_59, s156_60, s156_61, s156_64, s156_67, s156_68, s156_69, s156_72, s156_75, s156_76, s156_77, s156_80, s156_81, s156_82, s156_85, s156_88, s156_91, s156_92, s156_93, s156_96, s156_99, s156_100, s156_101, s156_104, s156_107, s156_108, s156_109, s156_112, s156_115, s156_116, s156_117, s156_120, s156_123, s156_124, s156_125, s156_128, s156_129, s156_132, oC0_1, x_A_bases oC0_1 n1 n6, Option.bind_some, Option.toList_some, Option.toList_none, List.nil_append, List.cons_append, coA]
        rfl, fr_rfl, hF⟩
    | 3, _ => exact ⟨m, by
        simp only [s156_0, s156_1_0, s156_1_1, s156_1_2, s156_1_3, s156_1_4, s156_1_5, s156_1_6, s156_1_7, s156_1_8, s156_52, s156_53, s156_56, s156_59, s156_60, s156_61, s156_64, s156_67, s156_68, s156_69, s156_72, s156_75, s156_76, s156_77, s156_80, s156_81, s156_82, s156_85, s156_88, s156_91, s156_92, s156_93, s156_96, s156_99, s156_100, s156_101, s156_104, s156_107, s156_108, s156_109, s156_112, s156_115, s156_116, s156_117, s156_120, s156_123, s156_124, s156_125, s156_128, s156_129, s156_132, oC0_1, x_A_size oC0_1, n1, x_R_badFives oC0_1 n1 n6 (Nat.zero_le n) (Nat.le_refl n), Option.bind_some, Option.toList_some, Option.toList_none, List.nil_append, List.cons_append, coA], fr_rfl, hF⟩
    | 4, _ =>
      obtain ⟨m1, e1, g1⟩ := x_F_loops (d := d + 3) (q := q) hN
      exact ⟨m1, by simp only [s156_0, s156_1_0, s156_1_1, s156_1_2, s156_1_3, s156_1_4, s156_1_5, s156_1_6, s156_1_7, s156_1_8, s156_52, s156_53, s156_56, s156_59, s156_60, s156_61, s156_64, s156_67, s156_68, s156_69, s156_72, s156_75, s156_76, s156_77, s156_80, s156_81, s156_82, s156_85, s156_88, s156_91, s156_92, s156_93, s156_96, s156_99, s156_100, s156_101, s156_104, s156_107, s156_108, s156_109, s156_112, s156_115, s156_116, s156_117, s156_120, s156_123, s156_124, s156_125, s156_128, s156_129, s156_132, e1, Option.bind_some, Option.toList_some, Option.toList_none, List.nil_append, List.cons_append, coA], fr_wk g1 (by decide), FI_fr hF g1⟩
    | 5, _ =>
      obtain ⟨m1, e1, g1⟩ := x_F_parallels (d := d + 2) (q := q) hN
      exact ⟨m1, by simp only [s156_0, s156_1_0, s156_1_1, s156_1_2, s156_1_3, s156_1_4, s156_1_5, s156_1_6, s156_1_7, s156_1_8, s156_52, s156_53, s156_56, s156_59, s156_60, s156_61, s156_64, s156_67, s156_68, s156_69, s156_72, s156_75, s156_76, s156_77, s156_80, s156_81, s156_82, s156_85, s156_88, s156_91, s156_92, s156_93, s156_96, s156_99, s156_100, s156_101, s156_104, s156_107, s156_108, s156_109, s156_112, s156_115, s156_116, s156_117, s156_120, s156_123, s156_124, s156_125, s156_128, s156_129, s156_132, e1, Option.bind_some, Option.toList_some, Option.toList_none, List.nil_append, List.cons_append, coA], fr_wk g1 (by decide), FI_fr hF g1⟩
    | 6, _ => exact ⟨m, by simp only [s156_0, s156_1_0, s156_1_1, s156_1_2, s156_1_3, s156_1_4, s156_1_5, s156_1_6, s156_1_7, s156_1_8, s156_52, s156_53, s156_56, s156_59, s156_60, s156_61, s156_64, s156_67, s156_68, s156_69, s156_72, s156_75, s156_76, s156_77, s156_80, s156_81, s156_82, s156_85, s156_88, s156_91, s156_92, s156_93, s156_96, s156_99, s156_100, s156_101, s156_104, s156_107, s156_108, s156_109, s156_112, s156_115, s156_116, s156_117, s156_120, s156_123, s156_124, s156_125, s156_128, s156_129, s156_132, x_H_size, hs, Option.bind_some, Option.toList_some, Option.toList_none, List.nil_append, List.cons_append, coA], fr_rfl, hF⟩
    | 7, _ => exact ⟨m, by simp only [s156_0, s156_1_0, s156_1_1, s156_1_2, s156_1_3, s156_1_4, s156_1_5, s156_1_6, s156_1_7, s156_1_8, s156_52, s156_53, s156_56, s156_59, s156_60, s156_61, s156_64, s156_67, s156_68, s156_69, s156_72, s156_75, s156_76, s156_77, s156_80, s156_81, s156_82, s156_85, s156_88, s156_91, s156_92, s156_93, s156_96, s156_99, s156_100, s156_101, s156_104, s156_107, s156_108, s156_109, s156_112, s156_115, s156_116, s156_117, s156_120, s156_123, s156_124, s156_125, s156_128, s156_129, s156_132, x_T_length, hL, Option.bind_some, Option.toList_some, Option.toList_none, List.nil_append, List.cons_append, coA], fr_rfl, hF⟩
    | 8, _ => exact ⟨m, by simp only [s156_0, s156_1_0, s156_1_1, s156_1_2, s156_1_3, s156_1_4, s156_1_5, s156_1_6, s156_1_7, s156_1_8, s156_52, s156_53, s156_56, s156_59, s156_60, s156_61, s156_64, s156_67, s156_68, s156_69, s156_72, s156_75, s156_76, s156_77, s156_80, s156_81, s156_82, s156_85, s156_88, s156_91, s156_92, s156_93, s156_96, s156_99, s156_100, s156_101, s156_104, s156_107, s156_108, s156_109, s156_112, s156_115, s156_116, s156_117, s156_120, s156_123, s156_124, s156_125, s156_128, s156_129, s156_132, x_S_vob hB, Option.bind_some, Option.toList_some, Option.toList_none, List.nil_append, List.cons_append, coA], fr_rfl, hF⟩
end
