/-! the text's clauses alike: signs -/
section
variable {d b e t c L x lo hi k n : Nat} {f : Nat → Nat} {F G R W N : Nat → Int32} {m : Mem} {q : MemJ} {h : AH} {v : Int32}
theorem sgT_sg (x : Nat) : isSg (sgT x) := by
  unfold sgT
  split
  · exact Or.inr (Or.inr rfl)
  · split
    · exact Or.inl rfl
    · exact Or.inr (Or.inl rfl)
theorem sgF_key (hk : k ≤ 6) : ∀ (l : List T3), (∀ t ∈ l, ris k t) → ∀ (P : Nat → Bool) (X Y : Nat → Int32) (p : Nat), p + l.length ≤ e → ARs P X Y → AI X → ARs (fun z => P z || l.any fun t => pT t.1 t.2.1 t.2.2 == z) (l.foldl (fun x t => if x.2 < e then (sg6 x.1 t.1 t.2.1 t.2.2 (sgT (f x.2)), x.2 + 1) else x) (X, p)).1 (l.foldl (sgS f) (Y, p)).1 ∧ AI (l.foldl (fun x t => if x.2 < e then (sg6 x.1 t.1 t.2.1 t.2.2 (sgT (f x.2)), x.2 + 1) else x) (X, p)).1
  | [], _, P, X, Y, p, _, h1, h2 => ⟨ARs_wk h1 fun z hz => by simpa using hz, h2⟩
  | t :: l, hl, P, X, Y, p, hp, h1, h2 => by
    have ht := hl t List.mem_cons_self
    have t1 := ht.1
    have t2 := ht.2.1
    have t3 := ht.2.2
    have hd : ¬ (t.1 = t.2.1 ∨ t.1 = t.2.2 ∨ t.2.1 = t.2.2) := by omega
    rw [List.length_cons] at hp
    have := sgF_key hk l (fun u hu => hl u (List.mem_cons_of_mem _ hu)) _ _ _ (p + 1) (by omega) (ARs_sg (v := sgT (f p)) h1 (show t.1 < 6 by omega) (show t.2.1 < 6 by omega) (show t.2.2 < 6 by omega) hd) (AI_sg h2 (sgT_sg _) (by omega) (by omega) (by omega) hd)
    rw [List.foldl_cons, List.foldl_cons]
    dsimp only
    rw [if_pos (by omega)]
    refine ⟨ARs_wk this.1 fun z hz => ?_, this.2⟩
    rw [List.any_cons] at hz
    rcases Bool.or_eq_true _ _ |>.mp hz with h | h
    · simp only [h, Bool.true_or]
    · rcases Bool.or_eq_true _ _ |>.mp h with h | h
      · rw [beq_iff_eq] at h
        simp only [h, decide_true, Bool.or_true, Bool.true_or]
      · simp only [h, Bool.or_true]
theorem bgn_at : ∀ k (g : Nat → Int32) x i, i < 3 → ((rg 0 k).foldl (fun g e => pt3 g e (nI 1) (nI e) (nI (e * e))) g) (x * 3 + i) = if x < k then (if i = 0 then nI 1 else if i = 1 then nI x else nI (x * x)) else g (x * 3 + i) := by
  intro k
  induction k with
  | zero => intro g x i _; rw [rg_end, if_neg (by omega)]; rfl
  | succ k ih =>
    intro g x i hi
    rw [rg_snoc, List.foldl_append]
    simp only [List.foldl_cons, List.foldl_nil]
    rw [pt3_at hi]
    by_cases h : x = k
    · rw [if_pos h, if_pos (show x < k + 1 by omega), h]
    · rw [if_neg h, ih g x i hi]
      by_cases h2 : x < k
      · rw [if_pos h2, if_pos (show x < k + 1 by omega)]
      · rw [if_neg h2, if_neg (show ¬ x < k + 1 by omega)]
theorem paM_at : ∀ k (g : Nat → Int32) x i, i < 3 → mco ((rg 0 k).foldl (fun R e => ptM R e (nI 1) (nI e) (nI (e * e))) g) x i = if x < k then (if i = 0 then nI 1 else if i = 1 then nI x else nI (x * x)) else mco g x i := by
  intro k
  induction k with
  | zero => intro g x i _; rw [rg_end, if_neg (by omega)]; rfl
  | succ k ih =>
    intro g x i hi
    rw [rg_snoc, List.foldl_append]
    simp only [List.foldl_cons, List.foldl_nil]
    rw [mco_ptM hi]
    by_cases h : x = k
    · rw [if_pos h, if_pos (show x < k + 1 by omega), h]
    · rw [if_neg h, ih g x i hi]
      by_cases h2 : x < k
      · rw [if_pos h2, if_pos (show x < k + 1 by omega)]
      · rw [if_neg h2, if_neg (show ¬ x < k + 1 by omega)]
theorem sgS_co {i : Nat} (hk : k ≤ 6) : mco ((trip k).foldl (sgS f) (R, b)).1 x i = mco R x i := by
  refine fold_inv (P := fun y : (Nat → Int32) × Nat => mco y.1 x i = mco R x i) (fun t ht y hy => ?_) rfl
  have := trip_mem.mp ht
  show mco (sgU y.1 t.1 t.2.1 t.2.2 _) x i = _
  rw [mco_sgU (by omega) (by omega) (by omega) (by omega)]
  exact hy
theorem sgS_0 : ((trip k).foldl (sgS f) (R, b)).1 0 = R 0 := fold_inv (P := fun y : (Nat → Int32) × Nat => y.1 0 = R 0) (fun t _ y hy => sgU_0.trans hy) rfl
theorem paM_0 : paM R 0 = R 0 := fold_inv (P := fun y : Nat → Int32 => y 0 = R 0) (fun t _ y hy => ptM_0.trans hy) rfl
theorem trip_len : ∀ k, k < 7 → (trip k).length = k * (k - 1) * (k - 2) / 6 := by decide +kernel
theorem AR_signs (hk : k ≤ 6) (hF : AI F) (he : b + k * (k - 1) * (k - 2) / 6 ≤ e) : AR k (sgF f k b e F).1 (bgn k G) ((trip k).foldl (sgS f) (paM (upd R 0 (nI k)), b)).1 ∧ AI (sgF f k b e F).1 := by
  obtain ⟨k1, k2⟩ := sgF_key (f := f) (e := e) hk (trip k) (fun t ht => trip_mem.mp ht) (fun _ => false) F (paM (upd R 0 (nI k))) b (by rw [trip_len k (by omega)]; exact he) (fun _ _ _ _ _ _ _ h => by cases h) hF
  refine ⟨⟨?_, ARs_wk k1 fun p hp => ?_, fun x i hx hi => ?_⟩, k2⟩
  · rw [sgS_0, paM_0]
    simp [upd]
  · show (false || (trip k).any fun t => pT t.1 t.2.1 t.2.2 == p) = true
    rw [Bool.false_or]
    exact hp
  · rw [sgS_co hk]
    unfold bgn paM
    rw [bgn_at k G x i hi, paM_at 6 _ x i hi, if_pos hx, if_pos (show x < 6 by omega)]
/-- what a clause leaves, on both sides -/
def CR (D : Bool) (R : Nat → Int32) (z : Bool × PS) (R' : Nat → Int32) : Prop := (D = true → z.1 = true → AR z.2.1 z.2.2.1 z.2.2.2.1 R') ∧ (D = false → R' = R)
theorem tri_pos : ∀ k, 3 ≤ k → k ≤ 6 → 0 < k * (k - 1) * (k - 2) / 6 ∧ k * (k - 1) * (k - 2) / 6 < 1000 := by
  intro k h3 h6
  match k, h3, h6 with
  | 3, _, _ => decide
  | 4, _, _ => decide
  | 5, _, _ => decide
  | 6, _, _ => decide
theorem x_M_readsSigns {D : Bool} (hL : LtM m f L) (he : e ≤ L) (hD : m 0 13 = bI D) (hF : AI F) : ∃ R' N', ev (d + 4) 176 0 [.ref 0, .null, .null, .null, .null, .null, .null] [] (mk shM (mP m R W N (tok f L e).1 (tok f L e).2 n c) q) = some (some (.int (bI (cSg f L n F G e v).1)), mk shM (mP m R' W N' (cSg f L n F G e v).2.2.2.2.1 (cSg f L n F G e v).2.2.2.2.2.1 (cSg f L n F G e v).2.1 c) q) ∧ CR D R (cSg f L n F G e v) R' := by
  have t1 := tok_isTk (f := f) he
  have rd := x_M_reads (d := d) (k := 0) (lo := 3) (hi := 6) (R := R) (W := W) (N := N) (t := n) (c := c) (q := q) hL t1 (by decide) (by decide) (by decide)
  unfold cSg
  cases hr : rdN f L (tok f L e).1 (tok f L e).2 3 6 with
  | none =>
    rw [hr] at rd
    dsimp only at rd ⊢
    refine ⟨R, N, ?_, fun _ h => (by cases h), fun _ => rfl⟩
    simp only [s176_0, s176_1, s176_2, s176_3, s176_5, s176_8, s176_11, s176_12, s176_13, s176_14, s176_17, s176_18, s176_19, s176_22, rd, Option.bind_some, Option.toList_some, Option.toList_none, List.nil_append, List.cons_append, nI00, if_true, am_b0, bI_f]
  | some k =>
    rw [hr] at rd
    have hk := rdN_le hr
    dsimp only at rd ⊢
    have t2 := tok_isTk (f := f) (L := L) (e := (tok f L e).2) t1.2.1
    obtain ⟨z1, z2⟩ := tri_pos k hk.1 hk.2
    generalize htk : tok f L (tok f L e).2 = z at rd t2 ⊢
    obtain ⟨w3, wd⟩ := x_M_signWord (d := d + 1) (R := R) (W := W) (N := upd N 0 (nI k)) (t := n) (c := c) (q := q) (v2 := .null) (v3 := .null) (v4 := .null) (v5 := .null) (v6 := .null) hL t2 z2 z1
    have pre : ev (d + 4) 176 0 [.ref 0, .null, .null, .null, .null, .null, .null] [] (mk shM (mP m R W N (tok f L e).1 (tok f L e).2 n c) q) = ev (d + 4) 176 23 [.ref 0, .int (nI (k * (k - 1) * (k - 2) / 6)), .null, .null, .null, .null, .null] [] (mk shM (mP m R W (upd N 0 (nI k)) z.1 z.2 n c) q) := by
      simp only [s176_0, s176_1, s176_2, s176_3, s176_5, s176_8, s176_11, s176_12, s176_13, s176_14, s176_17, s176_18, s176_19, s176_22, rd, Option.bind_some, Option.toList_some, Option.toList_none, List.nil_append, List.cons_append, nI10, if_false, tM8, nM8, show 0 < 4 by decide, mP_8, show upd N 0 (nI k) 0 = nI k by simp [upd], x_M_triples hk.2]
    unfold cSg2
    cases hw : sgW f (k * (k - 1) * (k - 2) / 6) z.1 z.2 with
    | false =>
      rw [hw, bI_f] at wd
      rw [if_neg (by decide)]
      refine ⟨R, upd N 0 (nI k), ?_, fun _ h => (by cases h), fun _ => rfl⟩
      rw [pre]
      refine wd.trans ?_
      simp only [s176_124, s176_125, s176_128, s176_129, s176_130, s176_131, s176_132, s176_135, s176_136, s176_137, s176_140, s176_141, s176_144, s176_147, s176_148, s176_149, s176_152, s176_155, s176_156, s176_159, s176_160, s176_161, nI00, if_true, am_b0, bI_f]
    | true =>
      rw [hw, bI_t] at wd
      rw [if_pos rfl]
      have hwl : z.2 - z.1 = k * (k - 1) * (k - 2) / 6 := by
        unfold sgW at hw
        simp only [Bool.and_eq_true, decide_eq_true_eq] at hw
        exact hw.1
      obtain ⟨s1, s2, s3, s4⟩ := id t2
      have nx := fun {R : Nat → Int32} {t : Nat} => x_M_next (d := d + 1) (R := R) (W := W) (N := upd N 0 (nI k)) (b := z.1) (t := t) (c := c) (q := q) hL s2
      cases D with
      | false =>
        rw [bI_f] at hD
        refine ⟨R, upd N 0 (nI k), ?_, fun h => (by cases h), fun _ => rfl⟩
        rw [pre]
        refine wd.trans ?_
        simp only [s176_124, s176_125, s176_128, s176_129, s176_130, s176_131, s176_132, s176_135, s176_136, s176_137, s176_140, s176_141, s176_144, s176_147, s176_148, s176_149, s176_152, s176_155, s176_156, s176_159, s176_160, s176_161, s176_264, s176_265, s176_268, s176_269, nI10, if_false, tM8, nM8, show 0 < 4 by decide, mP_8, show upd N 0 (nI k) 0 = nI k by simp [upd], mP_mut, mP_d, hD, nI00, if_true, nx, Option.bind_some, Option.toList_some, Option.toList_none, List.nil_append, List.cons_append, am_b1, bI_t]
      | true =>
        rw [bI_t] at hD
        have an := x_M_anew (d := d + 1) (k := k) (m := mP m R W (upd N 0 (nI k)) z.1 z.2 k c) (q := q)
        rw [mP_1, mP_mu1] at an
        obtain ⟨v5, v6, lp⟩ := x_M_signsLoop (d := d + 1) (k := k) (b := z.1) (e := z.2) (R := paM (upd R 0 (nI k))) (W := W) (N := upd N 0 (nI k)) (c := c) (q := q) (x1 := nI (k * (k - 1) * (k - 2) / 6)) (x2 := nI 1) hL hk.2 (by omega)
        refine ⟨((trip k).foldl (sgS f) (paM (upd R 0 (nI k)), z.1)).1, upd N 0 (nI k), ?_, fun _ _ => (AR_signs hk.2 hF (by omega)).1, fun h => (by cases h)⟩
        rw [pre]
        refine wd.trans ?_
        simp only [s176_124, s176_125, s176_128, s176_129, s176_130, s176_131, s176_132, s176_135, s176_136, s176_137, s176_140, s176_141, s176_144, s176_147, s176_148, s176_149, s176_152, s176_155, s176_156, s176_159, s176_160, s176_161, nI10, if_false, tM8, nM8, show 0 < 4 by decide, mP_8, show upd N 0 (nI k) 0 = nI k by simp [upd], mP_mut, mP_d, hD, mP_t, an, Option.bind_some, Option.toList_some, Option.toList_none, List.nil_append, List.cons_append, mP_b]
        refine lp.trans ?_
        rw [s176_163]
        simp only [s176_165, s176_166, s176_169, s176_172, s176_174, s176_175, s176_176, s176_180, s176_181, s176_184, s176_187, s176_189, s176_190, s176_191, s176_195, s176_196, s176_199, s176_202, s176_203, s176_205, s176_207, s176_209, s176_210, s176_213, s176_214, s176_215, s176_217, s176_220, s176_221, s176_224, s176_225, s176_228, s176_229, s176_230, s176_232, s176_235, s176_236, s176_239, s176_240, s176_243, s176_246, s176_249, s176_252, s176_255, s176_258, s176_261, s176_264, s176_265, s176_268, s176_269, mP_t, nI_irr, if_false, nx, Option.bind_some, Option.toList_some, Option.toList_none, List.nil_append, List.cons_append, am_b1, bI_t]
end
