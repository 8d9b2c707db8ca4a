/-! the text's clauses alike: point, swap -/
section
variable {d b e t c L x lo hi k n i : Nat} {f : Nat → Nat} {F G R W N : Nat → Int32} {m : Mem} {q : MemJ} {h : AH} {v w : Int32} {v1 v2 : Value}
theorem tok_m (hb : (tok f L e).1 < L) (h : f (tok f L e).1 = 45) : (tok f L e).2 = (tok f L e).1 + 1 := by
  unfold tok at hb h ⊢
  dsimp only at hb h ⊢
  generalize skw (fun i => f i == 32) (L - e) e = b at hb h ⊢
  by_cases hbL : b < L
  · rw [if_pos hbL] at hb h ⊢
    dsimp only at hb h ⊢
    have s1 : isSm (f b) = false := by rw [h]; decide
    have s2 : isDg (f b) = false := by rw [h]; decide
    rw [s1, s2, if_neg (by decide), if_neg (by decide)]
  · rw [if_neg hbL] at hb
    exact absurd hb hbL
theorem x_M_minus (hL : LtM m f L) (he : e ≤ L) : ev d 186 0 [.ref 0, .int (nI 45)] [] (mk shM (mP m R W N (tok f L e).1 (tok f L e).2 t c) q) = some (some (.int (bI (mnS f L (tok f L e).1))), mk shM (mP m R W N (tok f L e).1 (tok f L e).2 t c) q) := by
  rw [x_M_isHere hL (tok_isTk he) (by decide)]
  congr 4
  unfold mnS
  by_cases hb : (tok f L e).1 < L
  · by_cases h : f (tok f L e).1 = 45
    · rw [decide_eq_true (tok_m hb h), Bool.and_true]
    · rw [beq_false_of_ne h, Bool.false_and]
  · rw [decide_eq_false hb, Bool.false_and, Bool.false_and]
/-- one number of a point -/
theorem x_M_coord (hL : LtM m f L) (he : e ≤ L) (hi : i < 3) : match rdC f L (tok f L e).1 (tok f L e).2 with
    | some w => ev (d + 4) 185 19 [.ref 0, .int (nI i), v2] [] (mk shM (mP m R W N (tok f L e).1 (tok f L e).2 t c) q) = ev (d + 4) 185 19 [.ref 0, .int (nI (i + 1)), .int (bI (mnS f L (tok f L e).1))] [] (mk shM (mP m R W (upd N i w) (rdE f L (tok f L e).1 (tok f L e).2).1 (rdE f L (tok f L e).1 (tok f L e).2).2 t c) q)
    | none => ev (d + 4) 185 19 [.ref 0, .int (nI i), v2] [] (mk shM (mP m R W N (tok f L e).1 (tok f L e).2 t c) q) = some (some (.int (nI 0)), mk shM (mP m R W N (mnT f L (tok f L e).1 (tok f L e).2).1 (mnT f L (tok f L e).1 (tok f L e).2).2 t c) q) := by
  have t1 := tok_isTk (f := f) he
  have ih := x_M_minus (d := d + 3) (R := R) (W := W) (N := N) (t := t) (c := c) (q := q) hL he
  have nx := x_M_next (d := d + 1) (R := R) (W := W) (N := N) (b := (tok f L e).1) (t := t) (c := c) (q := q) hL t1.2.1
  generalize htk : tok f L e = z at t1 ih nx ⊢
  have hm := mnT_isTk t1
  have rd := x_M_reads (d := d) (k := i) (lo := 0) (hi := 99) (R := R) (W := W) (N := N) (t := t) (c := c) (q := q) hL hm (by omega) (by decide) (by decide)
  have pre : ev (d + 4) 185 19 [.ref 0, .int (nI i), v2] [] (mk shM (mP m R W N z.1 z.2 t c) q) = ev (d + 4) 185 39 [.ref 0, .int (nI i), .int (bI (mnS f L z.1))] [] (mk shM (mP m R W N (mnT f L z.1 z.2).1 (mnT f L z.1 z.2).2 t c) q) := by
    rw [s185_19]
    simp only [s185_20, s185_21, s185_24, s185_25, s185_27, s185_30, s185_31, s185_32, s185_35, s185_36, nI_lt hi (show 3 < 2 ^ 31 by decide), if_true, ih, Option.bind_some, Option.toList_some, Option.toList_none, List.nil_append, List.cons_append, bI_z]
    unfold mnT
    cases mnS f L z.1 with
    | true => simp only [Bool.true_eq_false, if_false, if_true, s185_20, s185_21, s185_24, s185_25, s185_27, s185_30, s185_31, s185_32, s185_35, s185_36, nx, Option.bind_some, Option.toList_some, Option.toList_none, List.nil_append, List.cons_append]
    | false => simp only [if_true, Bool.false_eq_true, if_false]
  rw [pre]
  unfold rdC
  cases hr : rdN f L (mnT f L z.1 z.2).1 (mnT f L z.1 z.2).2 0 99 with
  | none =>
    rw [hr] at rd
    dsimp only [Option.map_none] at rd ⊢
    simp only [s185_39, s185_40, s185_41, s185_42, s185_44, s185_47, s185_50, s185_51, s185_52, s185_53, s185_56, s185_57, s185_58, s185_61, s185_62, s185_65, s185_66, s185_67, s185_68, s185_71, s185_72, s185_75, s185_76, s185_77, s185_78, s185_81, rd, Option.bind_some, Option.toList_some, Option.toList_none, List.nil_append, List.cons_append, nI00, if_true, am_b0]
  | some k =>
    rw [hr] at rd
    dsimp only [Option.map_some] at rd ⊢
    have hE : rdE f L z.1 z.2 = tok f L (mnT f L z.1 z.2).2 := rfl
    rw [hE]
    simp only [s185_39, s185_40, s185_41, s185_42, s185_44, s185_47, s185_50, s185_51, s185_52, s185_53, s185_56, s185_57, s185_58, s185_61, s185_62, s185_65, s185_66, s185_67, s185_68, s185_71, s185_72, s185_75, s185_76, s185_77, s185_78, s185_81, rd, Option.bind_some, Option.toList_some, Option.toList_none, List.nil_append, List.cons_append, nI10, if_false, bI_z]
    cases mnS f L z.1 with
    | true => simp only [Bool.true_eq_false, if_false, if_true, s185_39, s185_40, s185_41, s185_42, s185_44, s185_47, s185_50, s185_51, s185_52, s185_53, s185_56, s185_57, s185_58, s185_61, s185_62, s185_65, s185_66, s185_67, s185_68, s185_71, s185_72, s185_75, s185_76, s185_77, s185_78, s185_81, tM8, nM8, show i < 4 by omega, mP_8, show upd N i (nI k) i = nI k by simp [upd], mP_mu8, upd_upd, nI_add]
    | false => simp only [Bool.false_eq_true, if_false, if_true, s185_39, s185_40, s185_41, s185_42, s185_44, s185_47, s185_50, s185_51, s185_52, s185_53, s185_56, s185_57, s185_58, s185_61, s185_62, s185_65, s185_66, s185_67, s185_68, s185_71, s185_72, s185_75, s185_76, s185_77, s185_78, s185_81, tM8, nM8, show i < 4 by omega, mP_8, show upd N i (nI k) i = nI k by simp [upd], mP_mu8, upd_upd, nI_add]
/-- the numbers given to a point -/
theorem x_M_pointEnd {D : Bool} {X Y Z : Int32} (hD : m 0 13 = bI D) (hk : k < 6) (h3 : N 3 = nI k) (h0 : N 0 = X) (h1 : N 1 = Y) (h2 : N 2 = Z) : ev (d + 4) 185 19 [.ref 0, .int (nI 3), v2] [] (mk shM (mP m R W N b e t c) q) = some (some (.int (nI 1)), mk shM (mP m (if D = true then ptM R k X Y Z else R) W N b e t c) q) := by
  have en : ∀ (R : Nat → Int32), ev (d + 4) 185 86 [.ref 0, .int (nI 3), v2] [] (mk shM (mP m R W N b e t c) q) = some (some (.int (nI 1)), mk shM (mP m R W N b e t c) q) := fun R => by
    rw [s185_86]
    simp only [s185_87, s185_88, s185_91, s185_92, s185_95, s185_98, s185_99, s185_102, s185_104, s185_105, s185_106, s185_109, s185_110, s185_111, s185_112, s185_113, s185_114, s185_115, s185_116, s185_119, s185_120, s185_121, s185_122, s185_125, s185_128, s185_129, nI_irr, if_false, am_b1]
  have st : ∀ (i : Nat) (R : Nat → Int32), D = true → i < 3 → ev (d + 4) 185 86 [.ref 0, .int (nI i), v2] [] (mk shM (mP m R W N b e t c) q) = ev (d + 4) 185 86 [.ref 0, .int (nI (i + 1)), v2] [] (mk shM (mP m (upd R (21 + 3 * k + i) (N i)) W N b e t c) q) := fun i R hDt hi => by
    rw [hDt, bI_t] at hD
    rw [s185_86]
    simp only [s185_87, s185_88, s185_91, s185_92, s185_95, s185_98, s185_99, s185_102, s185_104, s185_105, s185_106, s185_109, s185_110, s185_111, s185_112, s185_113, s185_114, s185_115, s185_116, s185_119, s185_120, s185_121, s185_122, s185_125, s185_128, s185_129, nI_lt hi (show 3 < 2 ^ 31 by decide), if_true, mP_d, hD, nI10, if_false, tM8, nM8, show 3 < 4 by decide, show i < 4 by omega, mP_8, h3, pk_mul, nI_add, tM1, nM1, show 21 + 3 * k + i < 429 by omega, mP_1, mP_mu1]
  rw [s185_19]
  simp only [s185_20, s185_21, s185_24, s185_25, s185_27, s185_30, s185_31, s185_32, s185_35, s185_36, s185_39, s185_40, s185_41, s185_42, s185_44, s185_47, s185_50, s185_51, s185_52, s185_53, s185_56, s185_57, s185_58, s185_61, s185_62, s185_65, s185_66, s185_67, s185_68, s185_71, s185_72, s185_75, s185_76, s185_77, s185_78, s185_81, s185_84, s185_85, nI_irr, if_false]
  cases D with
  | true =>
    rw [st 0 R rfl (by decide), st 1 _ rfl (by decide), st 2 _ rfl (by decide), en, if_pos rfl, h0, h1, h2]
    rfl
  | false =>
    rw [bI_f] at hD
    rw [if_neg (by decide), s185_86]
    simp only [s185_87, s185_88, s185_91, s185_92, s185_95, s185_98, s185_99, s185_102, s185_104, s185_105, s185_106, s185_109, s185_110, s185_111, s185_112, s185_113, s185_114, s185_115, s185_116, s185_119, s185_120, s185_121, s185_122, s185_125, s185_128, s185_129, nI_lt (show 0 < 3 by decide) (show 3 < 2 ^ 31 by decide), if_true, mP_d, hD, nI00, am_b1]
theorem x_M_pt3 {D : Bool} {X Y : Int32} (hL : LtM m f L) (he : e ≤ L) (hD : m 0 13 = bI D) (hk : k < n) (hn6 : n ≤ 6) (hA : D = true → AR n F G R) (h3 : N 3 = nI k) (h0 : N 0 = X) (h1 : N 1 = Y) : ∃ R' N', ev (d + 4) 185 19 [.ref 0, .int (nI 2), v2] [] (mk shM (mP m R W N (tok f L e).1 (tok f L e).2 n c) q) = some (some (.int (bI (cPt3 f L n F G k X Y (tok f L e)).1)), mk shM (mP m R' W N' (cPt3 f L n F G k X Y (tok f L e)).2.2.2.2.1 (cPt3 f L n F G k X Y (tok f L e)).2.2.2.2.2.1 (cPt3 f L n F G k X Y (tok f L e)).2.1 c) q) ∧ CR D R (cPt3 f L n F G k X Y (tok f L e)) R' := by
  have s1 := x_M_coord (d := d) (R := R) (W := W) (N := N) (t := n) (c := c) (q := q) (v2 := v2) hL he (show 2 < 3 by decide)
  unfold cPt3
  cases hr : rdC f L (tok f L e).1 (tok f L e).2 with
  | none =>
    rw [hr] at s1
    exact ⟨R, N, s1, fun _ h => (by cases h), fun _ => rfl⟩
  | some z =>
    rw [hr] at s1
    dsimp only at s1 ⊢
    have pe := x_M_pointEnd (d := d) (R := R) (W := W) (N := upd N 2 z) (b := (rdE f L (tok f L e).1 (tok f L e).2).1) (e := (rdE f L (tok f L e).1 (tok f L e).2).2) (t := n) (c := c) (q := q) (v2 := .int (bI (mnS f L (tok f L e).1))) (X := X) (Y := Y) (Z := z) (k := k) hD (by omega) (by simp [upd, h3]) (by simp [upd, h0]) (by simp [upd, h1]) (by simp [upd])
    refine ⟨if D = true then ptM R k X Y z else R, upd N 2 z, s1.trans pe, fun hDt _ => ?_, fun hDf => by rw [hDf, if_neg (by decide)]⟩
    rw [if_pos hDt]
    exact AR_pt (hA hDt)
theorem x_M_pt2 {D : Bool} {X : Int32} (hL : LtM m f L) (he : e ≤ L) (hD : m 0 13 = bI D) (hk : k < n) (hn6 : n ≤ 6) (hA : D = true → AR n F G R) (h3 : N 3 = nI k) (h0 : N 0 = X) : ∃ R' N', ev (d + 4) 185 19 [.ref 0, .int (nI 1), v2] [] (mk shM (mP m R W N (tok f L e).1 (tok f L e).2 n c) q) = some (some (.int (bI (cPt2 f L n F G k X (tok f L e)).1)), mk shM (mP m R' W N' (cPt2 f L n F G k X (tok f L e)).2.2.2.2.1 (cPt2 f L n F G k X (tok f L e)).2.2.2.2.2.1 (cPt2 f L n F G k X (tok f L e)).2.1 c) q) ∧ CR D R (cPt2 f L n F G k X (tok f L e)) R' := by
  have s1 := x_M_coord (d := d) (R := R) (W := W) (N := N) (t := n) (c := c) (q := q) (v2 := v2) hL he (show 1 < 3 by decide)
  unfold cPt2
  cases hr : rdC f L (tok f L e).1 (tok f L e).2 with
  | none =>
    rw [hr] at s1
    exact ⟨R, N, s1, fun _ h => (by cases h), fun _ => rfl⟩
  | some z =>
    rw [hr] at s1
    dsimp only at s1 ⊢
    have e2 := (mnT_isTk (tok_isTk (f := f) he)).2.1
    obtain ⟨R', N', g1, g2⟩ := x_M_pt3 (d := d) (R := R) (W := W) (N := upd N 1 z) (n := n) (F := F) (G := G) (c := c) (q := q) (v2 := .int (bI (mnS f L (tok f L e).1))) (X := X) (Y := z) hL e2 hD hk hn6 hA (by simp [upd, h3]) (by simp [upd, h0]) (by simp [upd])
    exact ⟨R', N', s1.trans g1, g2⟩
theorem x_M_pt1 {D : Bool} (hL : LtM m f L) (he : e ≤ L) (hD : m 0 13 = bI D) (hk : k < n) (hn6 : n ≤ 6) (hA : D = true → AR n F G R) (h3 : N 3 = nI k) : ∃ R' N', ev (d + 4) 185 19 [.ref 0, .int (nI 0), v2] [] (mk shM (mP m R W N (tok f L e).1 (tok f L e).2 n c) q) = some (some (.int (bI (cPt1 f L n F G k (tok f L e)).1)), mk shM (mP m R' W N' (cPt1 f L n F G k (tok f L e)).2.2.2.2.1 (cPt1 f L n F G k (tok f L e)).2.2.2.2.2.1 (cPt1 f L n F G k (tok f L e)).2.1 c) q) ∧ CR D R (cPt1 f L n F G k (tok f L e)) R' := by
  have s1 := x_M_coord (d := d) (R := R) (W := W) (N := N) (t := n) (c := c) (q := q) (v2 := v2) hL he (show 0 < 3 by decide)
  unfold cPt1
  cases hr : rdC f L (tok f L e).1 (tok f L e).2 with
  | none =>
    rw [hr] at s1
    exact ⟨R, N, s1, fun _ h => (by cases h), fun _ => rfl⟩
  | some z =>
    rw [hr] at s1
    dsimp only at s1 ⊢
    have e2 := (mnT_isTk (tok_isTk (f := f) he)).2.1
    obtain ⟨R', N', g1, g2⟩ := x_M_pt2 (d := d) (R := R) (W := W) (N := upd N 0 z) (n := n) (F := F) (G := G) (c := c) (q := q) (v2 := .int (bI (mnS f L (tok f L e).1))) (X := z) hL e2 hD hk hn6 hA (by simp [upd, h3]) (by simp [upd])
    exact ⟨R', N', s1.trans g1, g2⟩
theorem x_M_readsPoint {D : Bool} (hL : LtM m f L) (he : e ≤ L) (hD : m 0 13 = bI D) (hn : 1 ≤ n) (hn6 : n ≤ 6) (hA : D = true → AR n F G R) : ∃ R' N', ev (d + 4) 185 0 [.ref 0, .null, .null] [] (mk shM (mP m R W N (tok f L e).1 (tok f L e).2 n c) q) = some (some (.int (bI (cPt f L n F G e v).1)), mk shM (mP m R' W N' (cPt f L n F G e v).2.2.2.2.1 (cPt f L n F G e v).2.2.2.2.2.1 (cPt f L n F G e v).2.1 c) q) ∧ CR D R (cPt f L n F G e v) R' := by
  have t1 := tok_isTk (f := f) he
  have rd := x_M_reads (d := d) (k := 3) (lo := 0) (hi := n - 1) (R := R) (W := W) (N := N) (t := n) (c := c) (q := q) hL t1 (by decide) (by decide) (by omega)
  unfold cPt
  cases hr : rdN f L (tok f L e).1 (tok f L e).2 0 (n - 1) with
  | none =>
    rw [hr] at rd
    dsimp only at rd ⊢
    refine ⟨R, N, ?_, fun _ h => (by cases h), fun _ => rfl⟩
    simp only [s185_0, s185_1, s185_2, s185_3, s185_4, s185_7, s185_8, s185_9, s185_12, s185_15, s185_16, s185_17, s185_18, mP_t, nI_sub hn, rd, Option.bind_some, Option.toList_some, Option.toList_none, List.nil_append, List.cons_append, nI00, if_true, am_b0, sFl, bI_f]
  | some k =>
    rw [hr] at rd
    have hk := rdN_le hr
    dsimp only at rd ⊢
    obtain ⟨R', N', g1, g2⟩ := x_M_pt1 (d := d) (R := R) (W := W) (N := upd N 3 (nI k)) (n := n) (F := F) (G := G) (c := c) (q := q) (v2 := .null) hL t1.2.1 hD (show k < n by omega) hn6 hA (by simp [upd])
    refine ⟨R', N', ?_, g2⟩
    rw [← g1]
    simp only [s185_0, s185_1, s185_2, s185_3, s185_4, s185_7, s185_8, s185_9, s185_12, s185_15, s185_16, s185_17, s185_18, mP_t, nI_sub hn, rd, Option.bind_some, Option.toList_some, Option.toList_none, List.nil_append, List.cons_append, nI10, if_false]
/-- swapped, as the reading asks -/
theorem swM_W (hW : ∀ i, i < 39 → W i = R i) (hn : n ≤ 6) {x y : Nat} (hx : x < n) (hy : y < n) : ∀ (l : List T3), (∀ t ∈ l, ris n t) → ∀ z, l.foldl (fun z t => swS W x y z t.1 t.2.1 t.2.2) z = l.foldl (fun z t => swS R x y z t.1 t.2.1 t.2.2) z
  | [], _, _ => rfl
  | t :: l, hl, z => by
    have ht := hl t List.mem_cons_self
    have t1 := ht.1
    have t2 := ht.2.1
    have t3 := ht.2.2
    have ha := und_lt (show t.1 < n by omega) hx hy
    have hb := und_lt (show t.2.1 < n by omega) hx hy
    have hc := und_lt t3 hx hy
    have hd : ¬ (und t.1 x y = und t.2.1 x y ∨ und t.1 x y = und t.2.2 x y ∨ und t.2.1 x y = und t.2.2 x y) := by
      rintro (h | h | h)
      · exact und_ne (show t.1 ≠ t.2.1 by omega) h
      · exact und_ne (show t.1 ≠ t.2.2 by omega) h
      · exact und_ne (show t.2.1 ≠ t.2.2 by omega) h
    rw [List.foldl_cons, List.foldl_cons]
    have : swS W x y z t.1 t.2.1 t.2.2 = swS R x y z t.1 t.2.1 t.2.2 := by
      unfold swS
      rw [mS_W hW (by omega) (by omega) (by omega) hd]
    rw [this]
    exact swM_W hW hn hx hy l (fun u hu => hl u (List.mem_cons_of_mem _ hu)) _
theorem x_M_readsSwap {D : Bool} (hL : LtM m f L) (he : e ≤ L) (hD : m 0 13 = bI D) (hn : 1 ≤ n) (hn6 : n ≤ 6) (hA : D = true → AR n F G R) (hF : AI F) : ∃ R' W' N', ev (d + 4) 191 0 [.ref 0, .null] [] (mk shM (mP m R W N (tok f L e).1 (tok f L e).2 n c) q) = some (some (.int (bI (cSw f L n F G e v).1)), mk shM (mP m R' W' N' (cSw f L n F G e v).2.2.2.2.1 (cSw f L n F G e v).2.2.2.2.2.1 (cSw f L n F G e v).2.1 c) q) ∧ CR D R (cSw f L n F G e v) R' := by
  obtain ⟨l1, l2, l3⟩ := id hL
  have t1 := tok_isTk (f := f) he
  have rd := x_M_reads (d := d) (k := 0) (lo := 0) (hi := n - 1) (R := R) (W := W) (N := N) (t := n) (c := c) (q := q) hL t1 (by decide) (by decide) (by omega)
  unfold cSw
  cases hr : rdN f L (tok f L e).1 (tok f L e).2 0 (n - 1) with
  | none =>
    rw [hr] at rd
    dsimp only at rd ⊢
    refine ⟨R, W, N, ?_, fun _ h => (by cases h), fun _ => rfl⟩
    simp only [s191_0, s191_1, s191_2, s191_3, s191_4, s191_7, s191_8, s191_9, s191_12, s191_15, s191_16, s191_17, s191_18, s191_21, s191_22, s191_23, mP_t, nI_sub hn, rd, Option.bind_some, Option.toList_some, Option.toList_none, List.nil_append, List.cons_append, nI00, if_true, am_b0, sFl, bI_f]
  | some k =>
    rw [hr] at rd
    have hk := rdN_le hr
    dsimp only at rd ⊢
    have t2 := tok_isTk (f := f) t1.2.1
    generalize htk : tok f L (tok f L e).2 = z at rd t2 ⊢
    obtain ⟨s1, s2, s3, s4⟩ := id t2
    have n0 : upd N 0 (nI k) 0 = nI k := by simp [upd]
    have pre : ev (d + 4) 191 0 [.ref 0, .null] [] (mk shM (mP m R W N (tok f L e).1 (tok f L e).2 n c) q) = ev (d + 4) 191 24 [.ref 0, .int (nI k)] [] (mk shM (mP m R W (upd N 0 (nI k)) z.1 z.2 n c) q) := by
      simp only [s191_0, s191_1, s191_2, s191_3, s191_4, s191_7, s191_8, s191_9, s191_12, s191_15, s191_16, s191_17, s191_18, s191_21, s191_22, s191_23, mP_t, nI_sub hn, rd, Option.bind_some, Option.toList_some, Option.toList_none, List.nil_append, List.cons_append, nI10, if_false, tM8, nM8, show 0 < 4 by decide, mP_8, n0]
    rw [pre]
    have rd2 := x_M_reads (d := d) (k := 1) (lo := 0) (hi := n - 1) (R := R) (W := W) (N := upd N 0 (nI k)) (t := n) (c := c) (q := q) hL t2 (by decide) (by decide) (by omega)
    -- what is asked ahead of the second number
    have ask : (rdN f L z.1 z.2 0 (n - 1) = some k ∧ ev (d + 4) 191 24 [.ref 0, .int (nI k)] [] (mk shM (mP m R W (upd N 0 (nI k)) z.1 z.2 n c) q) = some (some (.int (nI 0)), mk shM (mP m R W (upd N 0 (nI k)) z.1 z.2 n c) q)) ∨ (rdN f L z.1 z.2 0 (n - 1) ≠ some k ∧ ev (d + 4) 191 24 [.ref 0, .int (nI k)] [] (mk shM (mP m R W (upd N 0 (nI k)) z.1 z.2 n c) q) = ev (d + 4) 191 73 [.ref 0, .int (nI k)] [] (mk shM (mP m R W (upd N 0 (nI k)) z.1 z.2 n c) q)) := by
      by_cases hb : z.1 < L
      · have y := l3 z.1 hb
        cases hd : isDg (f z.1) with
        | false =>
          refine Or.inr ⟨fun h => ?_, ?_⟩
          · rw [rdN_n (fun h => by have := h.2.1; rw [hd] at this; cases this)] at h
            cases h
          · simp only [s191_24, s191_25, s191_28, s191_29, s191_32, s191_35, s191_36, s191_39, s191_40, s191_43, s191_44, s191_47, s191_50, s191_51, s191_54, s191_55, s191_58, s191_59, s191_60, s191_63, s191_64, s191_67, s191_68, s191_71, s191_72, mP_b, mP_L, l1, nI_lt hb (show L < 2 ^ 31 by omega), if_true, tM3, nM3, mP_3, show z.1 < 200 by omega, y.1, x_M_isDigit (show f z.1 < 1000 by omega), hd, Option.bind_some, Option.toList_some, Option.toList_none, List.nil_append, List.cons_append, bI_f, nI00]
        | true =>
          have l3' : (nI (z.2 - z.1) < nI 3) = (z.2 - z.1 < 3) := propext (nI_ltI (show z.2 - z.1 < 2 ^ 31 by omega) (show 3 < 2 ^ 31 by decide))
          by_cases h2 : z.2 ≤ z.1 + 2
          · have vh := x_M_valueHere (d := d + 3) (R := R) (W := W) (N := upd N 0 (nI k)) (t := n) (c := c) (q := q) hL t2 hb hd h2
            have hv := rdV_lt t2 hb hd h2
            by_cases hvk : rdV f z.1 z.2 = k
            · refine Or.inl ⟨?_, ?_⟩
              · rw [rdN_t ⟨hb, hd, h2, by omega, by omega⟩, hvk]
              · simp only [s191_24, s191_25, s191_28, s191_29, s191_32, s191_35, s191_36, s191_39, s191_40, s191_43, s191_44, s191_47, s191_50, s191_51, s191_54, s191_55, s191_58, s191_59, s191_60, s191_63, s191_64, s191_67, s191_68, s191_71, s191_72, mP_b, mP_e, mP_L, l1, nI_lt hb (show L < 2 ^ 31 by omega), if_true, tM3, nM3, mP_3, show z.1 < 200 by omega, y.1, x_M_isDigit (show f z.1 < 1000 by omega), hd, Option.bind_some, Option.toList_some, Option.toList_none, List.nil_append, List.cons_append, bI_t, nI10, if_false, nI_sub s1, l3', show z.2 - z.1 < 3 by omega, vh, hvk, am_b0]
            · refine Or.inr ⟨fun h => ?_, ?_⟩
              · by_cases hin : 0 ≤ rdV f z.1 z.2 ∧ rdV f z.1 z.2 ≤ n - 1
                · rw [rdN_t ⟨hb, hd, h2, hin.1, hin.2⟩] at h
                  exact hvk (Option.some.inj h)
                · rw [rdN_n (fun h => hin ⟨h.2.2.2.1, h.2.2.2.2⟩)] at h
                  cases h
              · simp only [s191_24, s191_25, s191_28, s191_29, s191_32, s191_35, s191_36, s191_39, s191_40, s191_43, s191_44, s191_47, s191_50, s191_51, s191_54, s191_55, s191_58, s191_59, s191_60, s191_63, s191_64, s191_67, s191_68, s191_71, s191_72, mP_b, mP_e, mP_L, l1, nI_lt hb (show L < 2 ^ 31 by omega), if_true, tM3, nM3, mP_3, show z.1 < 200 by omega, y.1, x_M_isDigit (show f z.1 < 1000 by omega), hd, Option.bind_some, Option.toList_some, Option.toList_none, List.nil_append, List.cons_append, bI_t, nI10, if_false, nI_sub s1, l3', show z.2 - z.1 < 3 by omega, vh, nI_eq (show rdV f z.1 z.2 < 2 ^ 31 by omega) (show k < 2 ^ 31 by omega), hvk]
          · refine Or.inr ⟨fun h => ?_, ?_⟩
            · rw [rdN_n (fun h => h2 h.2.2.1)] at h
              cases h
            · simp only [s191_24, s191_25, s191_28, s191_29, s191_32, s191_35, s191_36, s191_39, s191_40, s191_43, s191_44, s191_47, s191_50, s191_51, s191_54, s191_55, s191_58, s191_59, s191_60, s191_63, s191_64, s191_67, s191_68, s191_71, s191_72, mP_b, mP_e, mP_L, l1, nI_lt hb (show L < 2 ^ 31 by omega), if_true, tM3, nM3, mP_3, show z.1 < 200 by omega, y.1, x_M_isDigit (show f z.1 < 1000 by omega), hd, Option.bind_some, Option.toList_some, Option.toList_none, List.nil_append, List.cons_append, bI_t, nI10, if_false, nI_sub s1, l3', show ¬ z.2 - z.1 < 3 by omega]
      · refine Or.inr ⟨fun h => ?_, ?_⟩
        · rw [rdN_n (fun h => hb h.1)] at h
          cases h
        · simp only [s191_24, s191_25, s191_28, s191_29, s191_32, s191_35, s191_36, s191_39, s191_40, s191_43, s191_44, s191_47, s191_50, s191_51, s191_54, s191_55, s191_58, s191_59, s191_60, s191_63, s191_64, s191_67, s191_68, s191_71, s191_72, mP_b, mP_L, l1, show ¬ nI z.1 < nI L by rw [nI_ltI (by omega) (by omega)]; exact hb, if_false]
    unfold cSw2
    rcases ask with ⟨a1, a2⟩ | ⟨a1, a2⟩
    · rw [a1]
      dsimp only
      rw [if_pos rfl]
      exact ⟨R, W, upd N 0 (nI k), a2, fun _ h => (by cases h), fun _ => rfl⟩
    · rw [a2]
      cases hr2 : rdN f L z.1 z.2 0 (n - 1) with
      | none =>
        rw [hr2] at rd2
        dsimp only at rd2 ⊢
        refine ⟨R, W, upd N 0 (nI k), ?_, fun _ h => (by cases h), fun _ => rfl⟩
        simp only [s191_73, s191_74, s191_75, s191_76, s191_77, s191_80, s191_81, s191_82, s191_85, s191_88, s191_89, s191_90, s191_91, s191_94, s191_97, s191_98, s191_99, s191_100, s191_103, s191_104, s191_105, s191_108, s191_109, s191_110, mP_t, nI_sub hn, rd2, Option.bind_some, Option.toList_some, Option.toList_none, List.nil_append, List.cons_append, nI00, if_true, am_b0, sFl, bI_f]
      | some j =>
        rw [hr2] at rd2 a1
        have hj := rdN_le hr2
        have hjk : ¬ j = k := fun h => a1 (by rw [h])
        dsimp only at rd2 ⊢
        rw [if_neg hjk]
        cases D with
        | false =>
          rw [bI_f] at hD
          refine ⟨R, W, upd (upd N 0 (nI k)) 1 (nI j), ?_, fun h => (by cases h), fun _ => rfl⟩
          simp only [s191_73, s191_74, s191_75, s191_76, s191_77, s191_80, s191_81, s191_82, s191_85, s191_88, s191_89, s191_90, s191_91, s191_94, s191_97, s191_98, s191_99, s191_100, s191_103, s191_104, s191_105, s191_108, s191_109, s191_110, mP_t, nI_sub hn, rd2, Option.bind_some, Option.toList_some, Option.toList_none, List.nil_append, List.cons_append, nI10, if_false, mP_d, hD, nI00, if_true, am_b1, bI_t]
        | true =>
          rw [bI_t] at hD
          have A := hA rfl
          obtain ⟨W', hW', sw⟩ := x_M_swaps (d := d + 1) (n := n) (e := k) (f := j) (m := mP m R W (upd (upd N 0 (nI k)) 1 (nI j)) (tok f L z.2).1 (tok f L z.2).2 n c) (q := q) (by rw [mP_1]; exact A.1) hn6 (by omega) (by omega)
          rw [mP_1, mP_mu9, mP_mu1] at sw
          rw [mP_1] at hW'
          have as := AR_swap A hF hn6 (show k < n by omega) (show j < n by omega) (fun h => hjk h.symm) hW'
          refine ⟨swP W' k j (swM W' n k j R).1, W', upd (upd N 0 (nI k)) 1 (nI j), ?_, fun _ _ => as.1, fun h => (by cases h)⟩
          simp only [s191_73, s191_74, s191_75, s191_76, s191_77, s191_80, s191_81, s191_82, s191_85, s191_88, s191_89, s191_90, s191_91, s191_94, s191_97, s191_98, s191_99, s191_100, s191_103, s191_104, s191_105, s191_108, s191_109, s191_110, mP_t, nI_sub hn, rd2, Option.bind_some, Option.toList_some, Option.toList_none, List.nil_append, List.cons_append, nI10, if_false, mP_d, hD, tM8, nM8, show 1 < 4 by decide, mP_8, show upd (upd N 0 (nI k)) 1 (nI j) 1 = nI j by simp [upd], sw, am_b1, bI_t]
end
