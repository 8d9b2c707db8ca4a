/-! the model: boxes laid, composed, found, away; counts -/
def lyM (n : Nat) (R : Nat → Int32) (B : Nat → BR) (b i x k : Int32) : Int32 × (Nat → BR) :=
  if elB 4 x = true then (if (decide (1 < eN x) && !orM n R) = true then (-1003, B) else if (elB (mlD (3 ^ n) (kiP n R (eN x))).length k && elB 3 b) = true then (if fdA (B (eN b)) i = nI 0 then
    (if ((B (eN b)).2.1 && decide (0 < zrN n ((mlD (3 ^ n) (kiP n R (eN x))).getD (eN k) 0))) = true then (-1014, B) else (nI (zrN n ((mlD (3 ^ n) (kiP n R (eN x))).getD (eN k) 0)), uB B (eN b) ((B (eN b)).1, (B (eN b)).2.1, (B (eN b)).2.2.1, uN (B (eN b)).2.2.2.1 (eN i) ((mlD (3 ^ n) (kiP n R (eN x))).getD (eN k) 0), uN (B (eN b)).2.2.2.2 (eN i) n))) else (fdA (B (eN b)) i, B)) else (-1001, B)) else (-1002, B)
/-- the code of two composed -/
def cmC (n x y : Nat) : Nat := cdF n fun e => if dgN n x e = 1 then dgN n y e else dgN n x e
def cmM (B : Nat → BR) (b i j : Int32) : Int32 × (Nat → BR) :=
  if elB 3 b = true then (if fdA (B (eN b)) i = nI 0 ∧ fdA (B (eN b)) j = nI 0 then (if (B (eN b)).2.2.2.2 (eN i) = 0 ∨ (B (eN b)).2.2.2.2 (eN j) = 0 then (-1015, B) else if (B (eN b)).2.2.2.2 (eN i) = (B (eN b)).2.2.2.2 (eN j) then
    (nI (zrN ((B (eN b)).2.2.2.2 (eN i)) (cmC ((B (eN b)).2.2.2.2 (eN i)) ((B (eN b)).2.2.2.1 (eN i)) ((B (eN b)).2.2.2.1 (eN j)))), uB B (eN b) ((B (eN b)).1, (B (eN b)).2.1, (B (eN b)).2.2.1, uN (B (eN b)).2.2.2.1 (eN i) (cmC ((B (eN b)).2.2.2.2 (eN i)) ((B (eN b)).2.2.2.1 (eN i)) ((B (eN b)).2.2.2.1 (eN j))), (B (eN b)).2.2.2.2)) else (-1016, B)) else (if fdA (B (eN b)) i = nI 0 then fdA (B (eN b)) j else fdA (B (eN b)) i, B)) else (-1001, B)
def fiM (n : Nat) (R : Nat → Int32) (B : Nat → BR) (b i x : Int32) : Int32 :=
  if elB 3 b = true then (if elB 4 x = true then (if (decide (1 < eN x) && !orM n R) = true then -1003 else if rfM B b i = 0 then (if (B (eN b)).2.2.2.2 (eN i) = n ∧ kiP n R (eN x) ((B (eN b)).2.2.2.1 (eN i)) = true then nI ((rg ((B (eN b)).2.2.2.1 (eN i) + 1) (3 ^ n)).filter (kiP n R (eN x))).length else -1) else rfM B b i) else -1002) else -1001
def ldM (r : BR) : Nat := if r.1 = true then (rg 0 6).foldl (fun x i => if i < r.2.2.1 ∧ r.2.2.2.2 i ≠ 0 then x + 1 else x) 0 else 0
def awM (B : Nat → BR) (b : Int32) : Int32 × (Nat → BR) := if elB 3 b = true then (if (B (eN b)).1 = true then (nI (ldM (B (eN b))), uB B (eN b) (false, (B (eN b)).2.1, 0, (B (eN b)).2.2.2.1, (B (eN b)).2.2.2.2)) else (-1011, B)) else (-1001, B)
def coM (n : Nat) (R : Nat → Int32) (B : Nat → BR) (s L : Nat) : Nat → Int32
  | 0 => nI n
  | 1 => nI (n * (n - 1) * (n - 2) / 6)
  | 2 => bsM n R
  | 3 => bfM n R
  | 4 => nI (loM n R)
  | 5 => pnM n R
  | 6 => nI s
  | 7 => nI L
  | _ => nI (ldM (B 0) + ldM (B 1) + ldM (B 2))
theorem add_dg (x : Nat) : ∀ a, a < 3 → nI (x + 1) + (nI a - nI 1) = nI (x + a)
  | 0, _ => by
    rw [show nI 0 - nI 1 = -1 from by decide, pk_m1]
    rfl
  | 1, _ => by rw [show nI 1 - nI 1 = nI 0 from by decide, nI_add]
  | 2, _ => by rw [show nI 2 - nI 1 = nI 1 from by decide, nI_add]
section
variable {d a b c e f g i n k t u : Nat} {m : Mem} {q : MemJ} {h : AH} {v3 v4 v5 v6 v7 : Value} {x y z w : Int32} {B : Nat → BR} {r : BR}
theorem x_M_laid (hb : b < 3) (hr : BM1 m b r) : ev d 263 0 [.ref 0, .int (nI b), .null, .null] [] (mk shM m q) = some (some (.int (nI (ldM r))), mk shM m q) := by
  obtain ⟨h1, h2⟩ := hr
  unfold ldM
  have en : ∀ x : Nat, ev d 263 4 [.ref 0, .int (nI b), .int (nI x), .int (nI 6)] [] (mk shM m q) = some (some (.int (nI x)), mk shM m q) := fun x => by
    rw [s263_4]
    simp only [s263_5, s263_7, s263_10, s263_11, s263_12, s263_15, s263_16, s263_17, s263_20, s263_21, s263_22, s263_25, s263_26, s263_27, s263_30, s263_31, s263_34, s263_36, s263_37, s263_38, s263_39, s263_40, s263_41, s263_44, s263_45, s263_48, s263_49, s263_50, s263_51, s263_54, s263_57, s263_58, nI_irr, if_false]
  cases ht : r.1 with
  | false =>
    rw [ht, if_neg (by decide)] at h1
    rw [if_neg (by decide)]
    have L := ev_for1 (fun _ => True) (fun i (x : Nat) (_ : Unit) => ev d 263 4 [.ref 0, .int (nI b), .int (nI x), .int (nI i)] [] (mk shM m q)) (fun x => some (some (.int (nI x)), mk shM m q)) (fun _ x => x) 6
      (fun x _ _ => en x) (fun _ _ _ _ => trivial)
      (fun i x _ hi _ => ⟨(), by
        rw [s263_4]
        simp only [s263_5, s263_7, s263_10, s263_11, s263_12, s263_15, s263_16, s263_17, s263_20, s263_21, s263_22, s263_25, s263_26, s263_27, s263_30, s263_31, s263_34, s263_36, s263_37, s263_38, s263_39, s263_40, s263_41, s263_44, s263_45, s263_48, s263_49, s263_50, s263_51, s263_54, s263_57, s263_58, nI_lt hi (show 6 < 2 ^ 31 by decide), if_true, tM4, nM4, hb, h1, m1lt, nI_add, Nat.add_zero]⟩) 0 (Nat.zero_le _) 0 () trivial
    rw [show (rg 0 6).foldl (fun (x : Nat) (_ : Nat) => x) 0 = 0 from by decide] at L
    simp only [s263_0, s263_1, s263_2, s263_3, s263_5, s263_7, s263_10, s263_11, s263_12, s263_15, s263_16, s263_17, s263_20, s263_21, s263_22, s263_25, s263_26, s263_27, s263_30, s263_31, s263_34, s263_36, s263_37, s263_38, s263_39, s263_40, s263_41, s263_44, s263_45, s263_48, s263_49, s263_50, s263_51, s263_54, s263_57, s263_58]
    exact L
  | true =>
    rw [ht, if_pos rfl] at h1
    rw [if_pos rfl]
    obtain ⟨a1, a2, a3⟩ := h2 ht
    have L := ev_for1 (fun _ => True) (fun i (x : Nat) (_ : Unit) => ev d 263 4 [.ref 0, .int (nI b), .int (nI x), .int (nI i)] [] (mk shM m q)) (fun x => some (some (.int (nI x)), mk shM m q)) (fun i x => if i < r.2.2.1 ∧ r.2.2.2.2 i ≠ 0 then x + 1 else x) 6
      (fun x _ _ => en x) (fun _ _ _ _ => trivial)
      (fun i x _ hi _ => ⟨(), by
        obtain ⟨c1, c2, c3⟩ := a3 i hi
        have l1 : (nI i < nI r.2.2.1) = (i < r.2.2.1) := propext (nI_ltI (show i < 2 ^ 31 by omega) (show r.2.2.1 < 2 ^ 31 by omega))
        rw [s263_4]
        by_cases z1 : i < r.2.2.1
        · by_cases z2 : r.2.2.2.2 i = 0
          · rw [if_pos z2] at c1
            simp only [s263_5, s263_7, s263_10, s263_11, s263_12, s263_15, s263_16, s263_17, s263_20, s263_21, s263_22, s263_25, s263_26, s263_27, s263_30, s263_31, s263_34, s263_36, s263_37, s263_38, s263_39, s263_40, s263_41, s263_44, s263_45, s263_48, s263_49, s263_50, s263_51, s263_54, s263_57, s263_58, nI_lt hi (show 6 < 2 ^ 31 by decide), if_true, tM4, nM4, tM5, nM5, tM6, nM6, hb, h1, bIlt, if_false, a1, l1, eq_true z1, pk_mul, nI_add, show 6 * b + i < 18 by omega, c1, m1lt, z2, ne_eq, not_true, and_false, Nat.add_zero]
          · rw [if_neg z2] at c1
            obtain ⟨k1, k2⟩ := c2 z2
            simp only [s263_5, s263_7, s263_10, s263_11, s263_12, s263_15, s263_16, s263_17, s263_20, s263_21, s263_22, s263_25, s263_26, s263_27, s263_30, s263_31, s263_34, s263_36, s263_37, s263_38, s263_39, s263_40, s263_41, s263_44, s263_45, s263_48, s263_49, s263_50, s263_51, s263_54, s263_57, s263_58, nI_lt hi (show 6 < 2 ^ 31 by decide), if_true, tM4, nM4, tM5, nM5, tM6, nM6, hb, h1, bIlt, if_false, a1, l1, eq_true z1, pk_mul, nI_add, show 6 * b + i < 18 by omega, c1, nI_pos (show r.2.2.2.1 i < 2 ^ 31 by omega), z2, ne_eq, not_false_eq_true, and_self]
        · simp only [s263_5, s263_7, s263_10, s263_11, s263_12, s263_15, s263_16, s263_17, s263_20, s263_21, s263_22, s263_25, s263_26, s263_27, s263_30, s263_31, s263_34, s263_36, s263_37, s263_38, s263_39, s263_40, s263_41, s263_44, s263_45, s263_48, s263_49, s263_50, s263_51, s263_54, s263_57, s263_58, nI_lt hi (show 6 < 2 ^ 31 by decide), if_true, tM4, nM4, tM5, nM5, hb, h1, bIlt, if_false, a1, l1, eq_false z1, nI_add, false_and, Nat.add_zero]⟩) 0 (Nat.zero_le _) 0 () trivial
    simp only [s263_0, s263_1, s263_2, s263_3, s263_5, s263_7, s263_10, s263_11, s263_12, s263_15, s263_16, s263_17, s263_20, s263_21, s263_22, s263_25, s263_26, s263_27, s263_30, s263_31, s263_34, s263_36, s263_37, s263_38, s263_39, s263_40, s263_41, s263_44, s263_45, s263_48, s263_49, s263_50, s263_51, s263_54, s263_57, s263_58]
    exact L
theorem x_M_away (hB : BM m B) : ∃ m', ev (d + 2) 262 0 [.ref 0, .int x, .null] [] (mk shM m q) = some (some (.int (awM B x).1), mk shM m' q) ∧ BM m' (awM B x).2 ∧ fr [4] m m' := by
  unfold awM
  rcases elB_or 3 x (by decide) with ⟨hx, _⟩ | ⟨b, hb, rfl⟩
  · rw [hx]
    refine ⟨m, ?_, hB, fr_rfl⟩
    simp only [s262_0, s262_1, s262_4, s262_7, s262_10, s262_11, s262_12, s262_15, s262_16, s262_17, s262_20, s262_23, s262_24, s262_25, s262_26, s262_29, s262_30, s262_31, s262_34, s262_35, s262_36, s262_37, s262_38, x_M_isBox, Option.bind_some, Option.toList_some, Option.toList_none, List.nil_append, List.cons_append, bI_z, hx, if_true, Bool.false_eq_true, if_false]
  have e3 := elB_nI (show 3 < 1000 by decide) hb
  rw [e3, eN_nI (by omega), if_pos rfl]
  obtain ⟨h1, h2⟩ := hB b hb
  cases ht : (B b).1 with
  | false =>
    rw [ht, if_neg (by decide)] at h1
    refine ⟨m, ?_, hB, fr_rfl⟩
    simp only [s262_0, s262_1, s262_4, s262_7, s262_10, s262_11, s262_12, s262_15, s262_16, s262_17, s262_20, s262_23, s262_24, s262_25, s262_26, s262_29, s262_30, s262_31, s262_34, s262_35, s262_36, s262_37, s262_38, x_M_isBox, Option.bind_some, Option.toList_some, Option.toList_none, List.nil_append, List.cons_append, bI_z, e3, if_true, Bool.true_eq_false, Bool.false_eq_true, if_false, tM4, nM4, hb, h1, m1lt]
  | true =>
    rw [ht, if_pos rfl] at h1
    rw [if_pos rfl]
    have ld := x_M_laid (d := d + 1) (q := q) hb (hB b hb)
    refine ⟨mu m 4 (upd (m 4) b (-1)), ?_, BM_set hB ⟨?_, fun h => absurd h (by simp)⟩ ?_ ?_ ?_ ?_, fun c hc => mu_ne (fun e => hc (by simp [e]))⟩
    · simp only [s262_0, s262_1, s262_4, s262_7, s262_10, s262_11, s262_12, s262_15, s262_16, s262_17, s262_20, s262_23, s262_24, s262_25, s262_26, s262_29, s262_30, s262_31, s262_34, s262_35, s262_36, s262_37, s262_38, x_M_isBox, Option.bind_some, Option.toList_some, Option.toList_none, List.nil_append, List.cons_append, bI_z, e3, if_true, Bool.true_eq_false, if_false, tM4, nM4, hb, h1, bIlt, ld]
    · rw [mu_same]; simp [upd]
    · intro i hi; rw [mu_same]; simp [upd, hi]
    · intro i hi; rw [mu_ne (by decide)]
    · intro c i hc hi; rw [mu_ne (by decide)]
    · intro c i hc hi; rw [mu_ne (by decide)]
theorem x_M_count {s L : Nat} (hn : m 1 0 = nI n) (hn6 : n ≤ 6) (hB : BM m B) (hs : m 0 1 = nI s) (hL : m 0 4 = nI L) : ev (d + 5) 264 0 [.ref 0, .int x] [] (mk shM m q) = some (some (.int (if elB 9 x = true then coM n (m 1) B s L (eN x) else -1002)), mk shM m q) := by
  rcases elB_or 9 x (by decide) with ⟨hx, h⟩ | ⟨k, hk, rfl⟩
  · simp only [s264_0, s264_1 (nel_i (n := 8) (by decide) h), s264_100, s264_101, s264_102, s264_105, s264_106, s264_107, s264_108, s264_111, s264_112, s264_113, s264_116, hx, Bool.false_eq_true, if_false]
  · rw [elB_nI (by decide) hk, eN_nI (by omega), if_pos rfl]
    have bs := x_M_bases (d := d + 1) (q := q) hn hn6
    have bf := x_M_badFives (d := d + 1) (q := q) hn hn6
    have lo := x_M_loops (d := d + 1) (q := q) hn hn6
    have pa := x_M_parallels (d := d) (q := q) hn hn6
    have l0 := x_M_laid (d := d + 4) (q := q) (show 0 < 3 by decide) (hB 0 (by decide))
    have l1 := x_M_laid (d := d + 4) (q := q) (show 1 < 3 by decide) (hB 1 (by decide))
    have l2 := x_M_laid (d := d + 4) (q := q) (show 2 < 3 by decide) (hB 2 (by decide))
    match k, hk with
    | 0, _ => simp only [s264_0, s264_1_0, s264_1_1, s264_1_2, s264_1_3, s264_1_4, s264_1_5, s264_1_6, s264_1_7, s264_1_8, s264_52, s264_53, s264_56, s264_57, s264_58, s264_61, s264_64, s264_65, s264_66, s264_69, s264_70, s264_71, s264_74, s264_75, s264_76, s264_79, s264_80, s264_81, s264_84, s264_85, s264_86, s264_89, s264_90, s264_91, s264_94, s264_95, s264_96, s264_97, s264_100, s264_101, s264_102, s264_105, s264_106, s264_107, s264_108, s264_111, s264_112, s264_113, s264_116, x_M_n, hn, Option.bind_some, Option.toList_some, Option.toList_none, List.nil_append, List.cons_append, coM]
    | 1, _ => simp only [s264_0, s264_1_0, s264_1_1, s264_1_2, s264_1_3, s264_1_4, s264_1_5, s264_1_6, s264_1_7, s264_1_8, s264_52, s264_53, s264_56, s264_57, s264_58, s264_61, s264_64, s264_65, s264_66, s264_69, s264_70, s264_71, s264_74, s264_75, s264_76, s264_79, s264_80, s264_81, s264_84, s264_85, s264_86, s264_89, s264_90, s264_91, s264_94, s264_95, s264_96, s264_97, s264_100, s264_101, s264_102, s264_105, s264_106, s264_107, s264_108, s264_111, s264_112, s264_113, s264_116, x_M_n, hn, x_M_triples hn6, Option.bind_some, Option.toList_some, Option.toList_none, List.nil_append, List.cons_append, coM]
    | 2, _ => simp only [s264_0, s264_1_0, s264_1_1, s264_1_2, s264_1_3, s264_1_4, s264_1_5, s264_1_6, s264_1_7, s264_1_8, s264_52, s264_53, s264_56, s264_57, s264_58, s264_61, s264_64, s264_65, s264_66, s264_69, s264_70, s264_71, s264_74, s264_75, s264_76, s264_79, s264_80, s264_81, s264_84, s264_85, s264_86, s264_89, s264_90, s264_91, s264_94, s264_95, s264_96, s264_97, s264_100, s264_101, s264_102, s264_105, s264_106, s264_107, s264_108, s264_111, s264_112, s264_113, s264_116, bs, Option.bind_some, Option.toList_some, Option.toList_none, List.nil_append, List.cons_append, coM]
    | 3, _ => simp only [s264_0, s264_1_0, s264_1_1, s264_1_2, s264_1_3, s264_1_4, s264_1_5, s264_1_6, s264_1_7, s264_1_8, s264_52, s264_53, s264_56, s264_57, s264_58, s264_61, s264_64, s264_65, s264_66, s264_69, s264_70, s264_71, s264_74, s264_75, s264_76, s264_79, s264_80, s264_81, s264_84, s264_85, s264_86, s264_89, s264_90, s264_91, s264_94, s264_95, s264_96, s264_97, s264_100, s264_101, s264_102, s264_105, s264_106, s264_107, s264_108, s264_111, s264_112, s264_113, s264_116, bf, Option.bind_some, Option.toList_some, Option.toList_none, List.nil_append, List.cons_append, coM]
    | 4, _ => simp only [s264_0, s264_1_0, s264_1_1, s264_1_2, s264_1_3, s264_1_4, s264_1_5, s264_1_6, s264_1_7, s264_1_8, s264_52, s264_53, s264_56, s264_57, s264_58, s264_61, s264_64, s264_65, s264_66, s264_69, s264_70, s264_71, s264_74, s264_75, s264_76, s264_79, s264_80, s264_81, s264_84, s264_85, s264_86, s264_89, s264_90, s264_91, s264_94, s264_95, s264_96, s264_97, s264_100, s264_101, s264_102, s264_105, s264_106, s264_107, s264_108, s264_111, s264_112, s264_113, s264_116, lo, Option.bind_some, Option.toList_some, Option.toList_none, List.nil_append, List.cons_append, coM]
    | 5, _ => simp only [s264_0, s264_1_0, s264_1_1, s264_1_2, s264_1_3, s264_1_4, s264_1_5, s264_1_6, s264_1_7, s264_1_8, s264_52, s264_53, s264_56, s264_57, s264_58, s264_61, s264_64, s264_65, s264_66, s264_69, s264_70, s264_71, s264_74, s264_75, s264_76, s264_79, s264_80, s264_81, s264_84, s264_85, s264_86, s264_89, s264_90, s264_91, s264_94, s264_95, s264_96, s264_97, s264_100, s264_101, s264_102, s264_105, s264_106, s264_107, s264_108, s264_111, s264_112, s264_113, s264_116, pa, Option.bind_some, Option.toList_some, Option.toList_none, List.nil_append, List.cons_append, coM]
    | 6, _ => simp only [s264_0, s264_1_0, s264_1_1, s264_1_2, s264_1_3, s264_1_4, s264_1_5, s264_1_6, s264_1_7, s264_1_8, s264_52, s264_53, s264_56, s264_57, s264_58, s264_61, s264_64, s264_65, s264_66, s264_69, s264_70, s264_71, s264_74, s264_75, s264_76, s264_79, s264_80, s264_81, s264_84, s264_85, s264_86, s264_89, s264_90, s264_91, s264_94, s264_95, s264_96, s264_97, s264_100, s264_101, s264_102, s264_105, s264_106, s264_107, s264_108, s264_111, s264_112, s264_113, s264_116, hs, coM]
    | 7, _ => simp only [s264_0, s264_1_0, s264_1_1, s264_1_2, s264_1_3, s264_1_4, s264_1_5, s264_1_6, s264_1_7, s264_1_8, s264_52, s264_53, s264_56, s264_57, s264_58, s264_61, s264_64, s264_65, s264_66, s264_69, s264_70, s264_71, s264_74, s264_75, s264_76, s264_79, s264_80, s264_81, s264_84, s264_85, s264_86, s264_89, s264_90, s264_91, s264_94, s264_95, s264_96, s264_97, s264_100, s264_101, s264_102, s264_105, s264_106, s264_107, s264_108, s264_111, s264_112, s264_113, s264_116, hL, coM]
    | 8, _ => simp only [s264_0, s264_1_0, s264_1_1, s264_1_2, s264_1_3, s264_1_4, s264_1_5, s264_1_6, s264_1_7, s264_1_8, s264_52, s264_53, s264_56, s264_57, s264_58, s264_61, s264_64, s264_65, s264_66, s264_69, s264_70, s264_71, s264_74, s264_75, s264_76, s264_79, s264_80, s264_81, s264_84, s264_85, s264_86, s264_89, s264_90, s264_91, s264_94, s264_95, s264_96, s264_97, s264_100, s264_101, s264_102, s264_105, s264_106, s264_107, s264_108, s264_111, s264_112, s264_113, s264_116, l0, l1, l2, Option.bind_some, Option.toList_some, Option.toList_none, List.nil_append, List.cons_append, nI_add, coM]
theorem x_M_compose (hB : BM m B) : ∃ m', ev (d + 3) 259 0 [.ref 0, .int x, .int y, .int z, .null, .null, .null, .null, .null, .null] [] (mk shM m q) = some (some (.int (cmM B x y z).1), mk shM m' q) ∧ BM m' (cmM B x y z).2 ∧ fr [6] m m' := by
  unfold cmM
  rcases elB_or 3 x (by decide) with ⟨hx, _⟩ | ⟨b, hb, rfl⟩
  · rw [hx]
    refine ⟨m, ?_, hB, fr_rfl⟩
    simp only [s259_0, s259_1, s259_4, s259_7, s259_10, s259_11, s259_12, s259_13, s259_14, s259_17, s259_19, s259_20, s259_21, s259_22, s259_25, s259_27, s259_29, s259_32, s259_34, s259_37, s259_39, s259_42, s259_44, s259_47, s259_49, s259_50, s259_51, s259_54, s259_56, s259_57, s259_58, s259_59, s259_60, s259_61, s259_64, s259_65, s259_68, s259_70, s259_71, s259_72, s259_73, s259_74, s259_75, s259_78, s259_81, s259_82, s259_83, s259_86, s259_88, s259_89, s259_90, s259_91, s259_92, s259_93, s259_95, s259_97, s259_98, s259_101, s259_103, s259_104, s259_105, s259_106, s259_107, s259_108, s259_111, s259_114, s259_115, s259_116, s259_118, s259_119, s259_123, s259_125, s259_128, s259_129, s259_132, s259_134, s259_135, s259_136, s259_137, s259_138, s259_139, s259_141, s259_143, s259_146, s259_148, s259_149, s259_151, s259_152, s259_153, s259_154, s259_156, s259_159, s259_161, s259_164, s259_165, s259_168, s259_170, s259_171, s259_172, s259_173, s259_174, s259_175, s259_177, s259_179, s259_182, s259_183, s259_185, s259_188, s259_191, s259_192, s259_195, s259_197, s259_198, s259_199, s259_200, s259_201, s259_203, s259_204, s259_206, s259_208, s259_211, x_M_isBox, Option.bind_some, Option.toList_some, Option.toList_none, List.nil_append, List.cons_append, bI_z, hx, if_true, Bool.false_eq_true, if_false]
  have e3 := elB_nI (show 3 < 1000 by decide) hb
  rw [e3, eN_nI (by omega), if_pos rfl]
  have Fy := x_M_finds (d := d + 1) (q := q) (y := y) hb (hB b hb)
  have Fz := x_M_finds (d := d + 1) (q := q) (y := z) hb (hB b hb)
  have ly := fdA_lt (r := B b) (y := y)
  have lz := fdA_lt (r := B b) (y := z)
  by_cases h0 : fdA (B b) y = nI 0
  · by_cases h1 : fdA (B b) z = nI 0
    · rw [if_pos ⟨h0, h1⟩]
      obtain ⟨ht, p, hp, rfl⟩ := fdA_0 h0 fun ht => ((hB b hb).2 ht).2.1
      obtain ⟨-, o, hq, rfl⟩ := fdA_0 h1 fun ht => ((hB b hb).2 ht).2.1
      obtain ⟨a1, a2, a3⟩ := (hB b hb).2 ht
      obtain ⟨c1, c2, c3⟩ := a3 p (by omega)
      obtain ⟨g1, g2, g3⟩ := a3 o (by omega)
      rw [h0] at Fy
      rw [h1] at Fz
      rw [eN_nI (show p < 1000 by omega), eN_nI (show o < 1000 by omega)]
      by_cases z1 : (B b).2.2.2.2 p = 0
      · rw [if_pos (Or.inl z1)]
        rw [if_pos z1] at c1
        refine ⟨m, ?_, hB, fr_rfl⟩
        simp only [s259_0, s259_1, s259_4, s259_7, s259_10, s259_11, s259_12, s259_13, s259_14, s259_17, s259_19, s259_20, s259_21, s259_22, s259_25, s259_27, s259_29, s259_32, s259_34, s259_37, s259_39, s259_42, s259_44, s259_47, s259_49, s259_50, s259_51, s259_54, s259_56, s259_57, s259_58, s259_59, s259_60, s259_61, s259_64, s259_65, s259_68, s259_70, s259_71, s259_72, s259_73, s259_74, s259_75, s259_78, s259_81, s259_82, s259_83, s259_86, s259_88, s259_89, s259_90, s259_91, s259_92, s259_93, s259_95, s259_97, s259_98, s259_101, s259_103, s259_104, s259_105, s259_106, s259_107, s259_108, s259_111, s259_114, s259_115, s259_116, s259_118, s259_119, s259_123, s259_125, s259_128, s259_129, s259_132, s259_134, s259_135, s259_136, s259_137, s259_138, s259_139, s259_141, s259_143, s259_146, s259_148, s259_149, s259_151, s259_152, s259_153, s259_154, s259_156, s259_159, s259_161, s259_164, s259_165, s259_168, s259_170, s259_171, s259_172, s259_173, s259_174, s259_175, s259_177, s259_179, s259_182, s259_183, s259_185, s259_188, s259_191, s259_192, s259_195, s259_197, s259_198, s259_199, s259_200, s259_201, s259_203, s259_204, s259_206, s259_208, s259_211, x_M_isBox, Option.bind_some, Option.toList_some, Option.toList_none, List.nil_append, List.cons_append, bI_z, e3, Bool.true_eq_false, if_false, Fy, Fz, nI0lt, pk_mul, nI_add, tM6, nM6, show 6 * b + p < 18 by omega, c1, m1lt, if_true]
      by_cases z2 : (B b).2.2.2.2 o = 0
      · rw [if_pos (Or.inr z2)]
        rw [if_neg z1] at c1
        rw [if_pos z2] at g1
        obtain ⟨k1, k2⟩ := c2 z1
        refine ⟨m, ?_, hB, fr_rfl⟩
        simp only [s259_0, s259_1, s259_4, s259_7, s259_10, s259_11, s259_12, s259_13, s259_14, s259_17, s259_19, s259_20, s259_21, s259_22, s259_25, s259_27, s259_29, s259_32, s259_34, s259_37, s259_39, s259_42, s259_44, s259_47, s259_49, s259_50, s259_51, s259_54, s259_56, s259_57, s259_58, s259_59, s259_60, s259_61, s259_64, s259_65, s259_68, s259_70, s259_71, s259_72, s259_73, s259_74, s259_75, s259_78, s259_81, s259_82, s259_83, s259_86, s259_88, s259_89, s259_90, s259_91, s259_92, s259_93, s259_95, s259_97, s259_98, s259_101, s259_103, s259_104, s259_105, s259_106, s259_107, s259_108, s259_111, s259_114, s259_115, s259_116, s259_118, s259_119, s259_123, s259_125, s259_128, s259_129, s259_132, s259_134, s259_135, s259_136, s259_137, s259_138, s259_139, s259_141, s259_143, s259_146, s259_148, s259_149, s259_151, s259_152, s259_153, s259_154, s259_156, s259_159, s259_161, s259_164, s259_165, s259_168, s259_170, s259_171, s259_172, s259_173, s259_174, s259_175, s259_177, s259_179, s259_182, s259_183, s259_185, s259_188, s259_191, s259_192, s259_195, s259_197, s259_198, s259_199, s259_200, s259_201, s259_203, s259_204, s259_206, s259_208, s259_211, x_M_isBox, Option.bind_some, Option.toList_some, Option.toList_none, List.nil_append, List.cons_append, bI_z, e3, Bool.true_eq_false, if_false, Fy, Fz, nI0lt, pk_mul, nI_add, tM6, nM6, show 6 * b + p < 18 by omega, show 6 * b + o < 18 by omega, c1, g1, nI_pos (show (B b).2.2.2.1 p < 2 ^ 31 by omega), m1lt, if_true]
      rw [if_neg (by rintro (h | h); exact z1 h; exact z2 h)]
      rw [if_neg z1] at c1
      rw [if_neg z2] at g1
      obtain ⟨k1, k2⟩ := c2 z1
      obtain ⟨j1, j2⟩ := g2 z2
      by_cases z3 : (B b).2.2.2.2 p = (B b).2.2.2.2 o
      · rw [if_pos z3]
        rw [← z3] at j2
        obtain ⟨N, hN⟩ : ∃ N, (B b).2.2.2.2 p = N := ⟨_, rfl⟩
        obtain ⟨X, hX⟩ : ∃ X, (B b).2.2.2.1 p = X := ⟨_, rfl⟩
        obtain ⟨Y, hY⟩ : ∃ Y, (B b).2.2.2.1 o = Y := ⟨_, rfl⟩
        rw [hN, hX, hY]
        rw [hN] at c3 k2 j2 z1
        rw [hX] at c1 k1
        rw [hY] at g1 j1
        have hlt : cmC N X Y < 729 := by
          have := cdF_lt' (D := fun e => if dgN N X e = 1 then dgN N Y e else dgN N X e) N fun e _ => by
            split <;> exact dgN_lt
          have := p3_le N c3
          unfold cmC
          omega
        obtain ⟨v9, L⟩ := ev_for1e (fun _ => True) (fun e (c : Nat) (v : Value) => ev (d + 3) 259 121 [.ref 0, .int (nI b), .int (nI p), .int (nI o), .int (nI 0), .int (nI 0), .int (nI N), .int (nI c), .int (nI e), v] [] (mk shM m q)) (fun c (v : Value) => ev (d + 3) 259 191 [.ref 0, .int (nI b), .int (nI p), .int (nI o), .int (nI 0), .int (nI 0), .int (nI N), .int (nI c), .int (nI N), v] [] (mk shM m q)) (fun e c => 3 * c + if dgN N X e = 1 then dgN N Y e else dgN N X e) N
          (fun c v _ => ⟨v, by
            rw [s259_121]
            simp only [s259_123, s259_125, s259_128, s259_129, s259_132, s259_134, s259_135, s259_136, s259_137, s259_138, s259_139, s259_141, s259_143, s259_146, s259_148, s259_149, s259_151, s259_152, s259_153, s259_154, s259_156, s259_159, s259_161, s259_164, s259_165, s259_168, s259_170, s259_171, s259_172, s259_173, s259_174, s259_175, s259_177, s259_179, s259_182, s259_183, s259_185, s259_188, nI_irr, if_false]⟩)
          (fun _ _ _ _ => trivial)
          (fun e c v he _ => ⟨.int (dg32 N X e), by
            have d1 := x_M_digit (d := d + 1) (h := mk shM m q) k1 c3 he
            have d2 := x_M_digit (d := d + 1) (h := mk shM m q) j1 c3 he
            rw [s259_121]
            simp only [s259_123, s259_125, s259_128, s259_129, s259_132, s259_134, s259_135, s259_136, s259_137, s259_138, s259_139, s259_141, s259_143, s259_146, s259_148, s259_149, s259_151, s259_152, s259_153, s259_154, s259_156, s259_159, s259_161, s259_164, s259_165, s259_168, s259_170, s259_171, s259_172, s259_173, s259_174, s259_175, s259_177, s259_179, s259_182, s259_183, s259_185, s259_188, nI_lt he (show N < 2 ^ 31 by omega), if_true, pk_mul, nI_add, tM6, nM6, show 6 * b + p < 18 by omega, show 6 * b + o < 18 by omega, c1, g1, d1, d2, Option.bind_some, Option.toList_some, Option.toList_none, List.nil_append, List.cons_append, dg32_0]
            by_cases z : dgN N X e = 1
            · simp only [z, if_true, s259_123, s259_125, s259_128, s259_129, s259_132, s259_134, s259_135, s259_136, s259_137, s259_138, s259_139, s259_141, s259_143, s259_146, s259_148, s259_149, s259_151, s259_152, s259_153, s259_154, s259_156, s259_159, s259_161, s259_164, s259_165, s259_168, s259_170, s259_171, s259_172, s259_173, s259_174, s259_175, s259_177, s259_179, s259_182, s259_183, s259_185, s259_188, pk_mul, nI_add, tM6, nM6, show 6 * b + o < 18 by omega, g1, d2, Option.bind_some, Option.toList_some, Option.toList_none, List.nil_append, List.cons_append]
              rw [show dg32 N Y e = nI (dgN N Y e) - nI 1 from rfl, add_dg _ _ dgN_lt]
            · simp only [z, if_false, s259_123, s259_125, s259_128, s259_129, s259_132, s259_134, s259_135, s259_136, s259_137, s259_138, s259_139, s259_141, s259_143, s259_146, s259_148, s259_149, s259_151, s259_152, s259_153, s259_154, s259_156, s259_159, s259_161, s259_164, s259_165, s259_168, s259_170, s259_171, s259_172, s259_173, s259_174, s259_175, s259_177, s259_179, s259_182, s259_183, s259_185, s259_188, nI_add]
              rw [show dg32 N X e = nI (dgN N X e) - nI 1 from rfl, add_dg _ _ dgN_lt]⟩) 0 (Nat.zero_le _) 0 .null trivial
        rw [show (rg 0 N).foldl (fun c e => 3 * c + if dgN N X e = 1 then dgN N Y e else dgN N X e) 0 = cmC N X Y from rfl] at L
        have zr := fun {mm : Mem} => x_M_zeros (d := d) (h := mk shM mm q) hlt c3
        refine ⟨mu m 6 (upd (m 6) (6 * b + p) (nI (cmC N X Y))), ?_, BM_set hB ⟨?_, fun _ => ⟨?_, a2, fun i hi => ?_⟩⟩ ?_ ?_ ?_ ?_, fun c hc => mu_ne (fun e => hc (by simp [e]))⟩
        · simp only [s259_0, s259_1, s259_4, s259_7, s259_10, s259_11, s259_12, s259_13, s259_14, s259_17, s259_19, s259_20, s259_21, s259_22, s259_25, s259_27, s259_29, s259_32, s259_34, s259_37, s259_39, s259_42, s259_44, s259_47, s259_49, s259_50, s259_51, s259_54, s259_56, s259_57, s259_58, s259_59, s259_60, s259_61, s259_64, s259_65, s259_68, s259_70, s259_71, s259_72, s259_73, s259_74, s259_75, s259_78, s259_81, s259_82, s259_83, s259_86, s259_88, s259_89, s259_90, s259_91, s259_92, s259_93, s259_95, s259_97, s259_98, s259_101, s259_103, s259_104, s259_105, s259_106, s259_107, s259_108, s259_111, s259_114, s259_115, s259_116, s259_118, s259_119, x_M_isBox, Option.bind_some, Option.toList_some, Option.toList_none, List.nil_append, List.cons_append, bI_z, e3, Bool.true_eq_false, if_false, Fy, Fz, nI0lt, pk_mul, nI_add, tM6, nM6, tM7, nM7, show 6 * b + p < 18 by omega, show 6 * b + o < 18 by omega, c1, g1, k2, j2, nI_pos (show X < 2 ^ 31 by omega), nI_pos (show Y < 2 ^ 31 by omega), if_true]
          refine L.trans ?_
          simp only [s259_191, s259_192, s259_195, s259_197, s259_198, s259_199, s259_200, s259_201, s259_203, s259_204, s259_206, s259_208, s259_211, pk_mul, nI_add, tM6, nM6, show 6 * b + p < 18 by omega, zr, Option.bind_some, Option.toList_some, Option.toList_none, List.nil_append, List.cons_append]
        · rw [mu_ne (by decide)]; exact (hB b hb).1
        · rw [mu_ne (by decide)]; exact a1
        · rw [mu_same, mu_ne (show (7 : Nat) ≠ 6 by decide)]
          unfold uN
          simp only [upd]
          by_cases hip : i = p
          · rw [if_pos (by omega), if_pos hip, hip, hN, if_neg z1]
            exact ⟨rfl, fun _ => ⟨hlt, k2⟩, c3⟩
          · rw [if_neg (by omega), if_neg hip]
            exact a3 i hi
        · intro i hi; rw [mu_ne (by decide)]
        · intro i hi; rw [mu_ne (by decide)]
        · intro c i hc hi
          rw [mu_same]
          simp only [upd]
          rw [if_neg (by omega)]
        · intro c i hc hi; rw [mu_ne (by decide)]
      · rw [if_neg z3]
        refine ⟨m, ?_, hB, fr_rfl⟩
        simp only [s259_0, s259_1, s259_4, s259_7, s259_10, s259_11, s259_12, s259_13, s259_14, s259_17, s259_19, s259_20, s259_21, s259_22, s259_25, s259_27, s259_29, s259_32, s259_34, s259_37, s259_39, s259_42, s259_44, s259_47, s259_49, s259_50, s259_51, s259_54, s259_56, s259_57, s259_58, s259_59, s259_60, s259_61, s259_64, s259_65, s259_68, s259_70, s259_71, s259_72, s259_73, s259_74, s259_75, s259_78, s259_81, s259_82, s259_83, s259_86, s259_88, s259_89, s259_90, s259_91, s259_92, s259_93, s259_95, s259_97, s259_98, s259_101, s259_103, s259_104, s259_105, s259_106, s259_107, s259_108, s259_111, s259_114, s259_115, s259_116, s259_118, s259_119, s259_123, s259_125, s259_128, s259_129, s259_132, s259_134, s259_135, s259_136, s259_137, s259_138, s259_139, s259_141, s259_143, s259_146, s259_148, s259_149, s259_151, s259_152, s259_153, s259_154, s259_156, s259_159, s259_161, s259_164, s259_165, s259_168, s259_170, s259_171, s259_172, s259_173, s259_174, s259_175, s259_177, s259_179, s259_182, s259_183, s259_185, s259_188, s259_191, s259_192, s259_195, s259_197, s259_198, s259_199, s259_200, s259_201, s259_203, s259_204, s259_206, s259_208, s259_211, x_M_isBox, Option.bind_some, Option.toList_some, Option.toList_none, List.nil_append, List.cons_append, bI_z, e3, Bool.true_eq_false, if_false, Fy, Fz, nI0lt, pk_mul, nI_add, tM6, nM6, tM7, nM7, show 6 * b + p < 18 by omega, show 6 * b + o < 18 by omega, c1, g1, k2, j2, nI_pos (show (B b).2.2.2.1 p < 2 ^ 31 by omega), nI_pos (show (B b).2.2.2.1 o < 2 ^ 31 by omega), nI_eq (show (B b).2.2.2.2 p < 2 ^ 31 by omega) (show (B b).2.2.2.2 o < 2 ^ 31 by omega), z3]
    · rw [if_neg (fun h => h1 h.2), if_pos h0]
      rw [h0] at Fy
      refine ⟨m, ?_, hB, fr_rfl⟩
      simp only [s259_0, s259_1, s259_4, s259_7, s259_10, s259_11, s259_12, s259_13, s259_14, s259_17, s259_19, s259_20, s259_21, s259_22, s259_25, s259_27, s259_29, s259_32, s259_34, s259_37, s259_39, s259_42, s259_44, s259_47, s259_49, s259_50, s259_51, s259_54, s259_56, s259_57, s259_58, s259_59, s259_60, s259_61, s259_64, s259_65, s259_68, s259_70, s259_71, s259_72, s259_73, s259_74, s259_75, s259_78, s259_81, s259_82, s259_83, s259_86, s259_88, s259_89, s259_90, s259_91, s259_92, s259_93, s259_95, s259_97, s259_98, s259_101, s259_103, s259_104, s259_105, s259_106, s259_107, s259_108, s259_111, s259_114, s259_115, s259_116, s259_118, s259_119, s259_123, s259_125, s259_128, s259_129, s259_132, s259_134, s259_135, s259_136, s259_137, s259_138, s259_139, s259_141, s259_143, s259_146, s259_148, s259_149, s259_151, s259_152, s259_153, s259_154, s259_156, s259_159, s259_161, s259_164, s259_165, s259_168, s259_170, s259_171, s259_172, s259_173, s259_174, s259_175, s259_177, s259_179, s259_182, s259_183, s259_185, s259_188, s259_191, s259_192, s259_195, s259_197, s259_198, s259_199, s259_200, s259_201, s259_203, s259_204, s259_206, s259_208, s259_211, x_M_isBox, Option.bind_some, Option.toList_some, Option.toList_none, List.nil_append, List.cons_append, bI_z, e3, Bool.true_eq_false, if_false, Fy, Fz, nI0lt, lz, h1, not_false_eq_true, if_true]
  · rw [if_neg (fun h => h0 h.1), if_neg h0]
    refine ⟨m, ?_, hB, fr_rfl⟩
    simp only [s259_0, s259_1, s259_4, s259_7, s259_10, s259_11, s259_12, s259_13, s259_14, s259_17, s259_19, s259_20, s259_21, s259_22, s259_25, s259_27, s259_29, s259_32, s259_34, s259_37, s259_39, s259_42, s259_44, s259_47, s259_49, s259_50, s259_51, s259_54, s259_56, s259_57, s259_58, s259_59, s259_60, s259_61, s259_64, s259_65, s259_68, s259_70, s259_71, s259_72, s259_73, s259_74, s259_75, s259_78, s259_81, s259_82, s259_83, s259_86, s259_88, s259_89, s259_90, s259_91, s259_92, s259_93, s259_95, s259_97, s259_98, s259_101, s259_103, s259_104, s259_105, s259_106, s259_107, s259_108, s259_111, s259_114, s259_115, s259_116, s259_118, s259_119, s259_123, s259_125, s259_128, s259_129, s259_132, s259_134, s259_135, s259_136, s259_137, s259_138, s259_139, s259_141, s259_143, s259_146, s259_148, s259_149, s259_151, s259_152, s259_153, s259_154, s259_156, s259_159, s259_161, s259_164, s259_165, s259_168, s259_170, s259_171, s259_172, s259_173, s259_174, s259_175, s259_177, s259_179, s259_182, s259_183, s259_185, s259_188, s259_191, s259_192, s259_195, s259_197, s259_198, s259_199, s259_200, s259_201, s259_203, s259_204, s259_206, s259_208, s259_211, x_M_isBox, Option.bind_some, Option.toList_some, Option.toList_none, List.nil_append, List.cons_append, bI_z, e3, Bool.true_eq_false, if_false, Fy, Fz, ly, h0, not_false_eq_true, if_true]
end
