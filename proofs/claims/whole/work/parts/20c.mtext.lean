/-! the model's text: signs read -/
theorem rg_sn {a k : Nat} (h : a ≤ k) : rg a (k + 1) = rg a k ++ [k] := by
  unfold rg
  rw [show k + 1 - a = (k - a) + 1 by omega, List.range'_concat, Nat.one_mul, show a + (k - a) = k by omega]
theorem ev_upl {J ρ : Type} (lo : Nat) (Rel : Nat → J → Prop) (S : Nat → J → ρ) (N : Nat) (v0 : J) (h0 : Rel lo v0) (hst : ∀ i v, lo ≤ i → i < N → Rel i v → ∃ v', Rel (i + 1) v' ∧ S i v = S (i + 1) v') : ∀ i, lo ≤ i → i ≤ N → ∃ v, Rel i v ∧ S lo v0 = S i v := by
  intro i hl
  obtain ⟨k, rfl⟩ : ∃ k, i = lo + k := ⟨i - lo, by omega⟩
  clear hl
  induction k with
  | zero => exact fun _ => ⟨v0, h0, rfl⟩
  | succ k ih =>
    intro hi
    obtain ⟨v, r, e⟩ := ih (by omega)
    obtain ⟨v', r', e'⟩ := hst (lo + k) v (by omega) (by omega) r
    exact ⟨v', r', e.trans e'⟩
def pre1 (n a : Nat) : List T3 := (rg 0 a).flatMap fun a => (rg (a + 1) n).flatMap fun b => (rg (b + 1) n).map fun c => (a, b, c)
def pre2 (n a b : Nat) : List T3 := pre1 n a ++ (rg (a + 1) b).flatMap fun b => (rg (b + 1) n).map fun c => (a, b, c)
def pre3 (n a b c : Nat) : List T3 := pre2 n a b ++ (rg (b + 1) c).map fun c => (a, b, c)
theorem pre_b : ∀ n, n < 7 → ∀ a, a < 6 → ∀ b, b < 6 → ∀ c, c < 6 → (!(decide (a < b) && (decide (b < c) && decide (c < n))) || decide ((pre3 n a b c).length < n * (n - 1) * (n - 2) / 6)) = true := by decide +kernel
/-- three loops, one in another, that know what was done before -/
theorem ev_for3p {X J ρ : Type} (S1 : Nat → X → J → ρ) (S2 : Nat → Nat → X → J → ρ) (S3 : Nat → Nat → Nat → X → J → ρ) (g : X → T3 → X) (n : Nat) (x0 : X) (v0 : J)
    (e1 : ∀ a x v, a < n → ∃ v', S1 a x v = S2 a (a + 1) x v') (x2 : ∀ a x v, a < n → ∃ v', S2 a n x v = S1 (a + 1) x v')
    (e2 : ∀ a b x v, a < b → b < n → ∃ v', S2 a b x v = S3 a b (b + 1) x v') (x3 : ∀ a b x v, a < b → b < n → ∃ v', S3 a b n x v = S2 a (b + 1) x v')
    (e3 : ∀ a b c x v, a < b → b < c → c < n → x = (pre3 n a b c).foldl g x0 → ∃ v', S3 a b c x v = S3 a b (c + 1) (g x (a, b, c)) v') : ∃ v, S1 0 x0 v0 = S1 n ((trip n).foldl g x0) v := by
  have L3 : ∀ a b v, a < b → b < n → ∃ v', S3 a b (b + 1) ((pre2 n a b).foldl g x0) v = S3 a b n ((pre2 n a (b + 1)).foldl g x0) v' := fun a b v hab hb => by
    obtain ⟨w, hw, e⟩ := ev_upl (b + 1) (fun c (w : X × J) => w.1 = (pre3 n a b c).foldl g x0) (fun c w => S3 a b c w.1 w.2) n ((pre2 n a b).foldl g x0, v) (by simp only [pre3, rg_end, List.map_nil, List.append_nil]) (fun c w hbc hc hw => by
      obtain ⟨v', h⟩ := e3 a b c w.1 w.2 hab (by omega) hc hw
      refine ⟨(g w.1 (a, b, c), v'), ?_, h⟩
      simp only [pre3, rg_sn hbc, List.map_append, List.map_cons, List.map_nil, ← List.append_assoc]
      rw [List.foldl_append, hw]
      rfl) n (by omega) (Nat.le_refl _)
    refine ⟨w.2, ?_⟩
    have : pre3 n a b n = pre2 n a (b + 1) := by
      simp only [pre3, pre2, rg_sn (show a + 1 ≤ b by omega), List.flatMap_append, List.flatMap_cons, List.flatMap_nil, List.append_nil, List.append_assoc]
    rw [← this, ← hw]
    exact e
  have L2 : ∀ a v, a < n → ∃ v', S2 a (a + 1) ((pre1 n a).foldl g x0) v = S2 a n ((pre1 n (a + 1)).foldl g x0) v' := fun a v ha => by
    obtain ⟨w, hw, e⟩ := ev_upl (a + 1) (fun b (w : X × J) => w.1 = (pre2 n a b).foldl g x0) (fun b w => S2 a b w.1 w.2) n ((pre1 n a).foldl g x0, v) (by simp only [pre2, rg_end, List.flatMap_nil, List.append_nil]) (fun b w hab hb hw => by
      obtain ⟨v1, h1⟩ := e2 a b w.1 w.2 (by omega) hb
      obtain ⟨v2, h2⟩ := L3 a b v1 (by omega) hb
      obtain ⟨v3, h3⟩ := x3 a b ((pre2 n a (b + 1)).foldl g x0) v2 (by omega) hb
      refine ⟨((pre2 n a (b + 1)).foldl g x0, v3), rfl, ?_⟩
      show S2 a b w.1 w.2 = S2 a (b + 1) _ v3
      rw [h1, hw, h2, h3]) n (by omega) (Nat.le_refl _)
    refine ⟨w.2, ?_⟩
    have : pre2 n a n = pre1 n (a + 1) := by
      simp only [pre2, pre1, rg_sn (Nat.zero_le a), List.flatMap_append, List.flatMap_cons, List.flatMap_nil, List.append_nil]
    rw [← this, ← hw]
    exact e
  obtain ⟨w, hw, e⟩ := ev_up (fun a (w : X × J) => w.1 = (pre1 n a).foldl g x0) (fun a w => S1 a w.1 w.2) n (x0, v0) (by simp only [pre1, rg_end, List.flatMap_nil, List.foldl_nil]) (fun a w ha hw => by
    obtain ⟨v1, h1⟩ := e1 a w.1 w.2 ha
    obtain ⟨v2, h2⟩ := L2 a v1 ha
    obtain ⟨v3, h3⟩ := x2 a ((pre1 n (a + 1)).foldl g x0) v2 ha
    refine ⟨((pre1 n (a + 1)).foldl g x0, v3), rfl, ?_⟩
    show S1 a w.1 w.2 = S1 (a + 1) _ v3
    rw [h1, hw, h2, h3]) n (Nat.le_refl _)
  refine ⟨w.2, ?_⟩
  rw [show trip n = pre1 n n from rfl, ← hw]
  exact e
def sgS (f : Nat → Nat) (x : (Nat → Int32) × Nat) (t : T3) : (Nat → Int32) × Nat := (sgU x.1 t.1 t.2.1 t.2.2 (sgT (f x.2)), x.2 + 1)
theorem sgS_2 {f : Nat → Nat} : ∀ (l : List T3) (x : (Nat → Int32) × Nat), (l.foldl (sgS f) x).2 = x.2 + l.length
  | [], _ => rfl
  | t :: l, x => by
    rw [List.foldl_cons, sgS_2 l]
    show x.2 + 1 + l.length = _
    rw [List.length_cons]
    omega
section
variable {d b e t c L x lo hi k n : Nat} {f : Nat → Nat} {F G R W N : Nat → Int32} {m : Mem} {q : MemJ} {h : AH} {v : Int32}
theorem x_M_anew : ev (d + 2) 179 0 [.ref 0, .int (nI k)] [] (mk shM m q) = some (none, mk shM (mu m 1 (paM (upd (m 1) 0 (nI k)))) q) := by
  have p := x_M_pointsAnew (d := d) (m := mu m 1 (upd (m 1) 0 (nI k))) (q := q)
  rw [mu_same, mu_mu] at p
  simp only [s179_0, s179_1, s179_4, s179_5, s179_6, s179_7, s179_8, s179_11, tM1, nM1, show 0 < 429 by decide, p, Option.bind_some, Option.toList_some, Option.toList_none, List.nil_append, List.cons_append]
theorem x_M_signsLoop (hL : LtM m f L) (hk : k ≤ 6) (hbe : b + k * (k - 1) * (k - 2) / 6 ≤ L) {x1 x2 : Int32} : ∃ v5 v6, ev (d + 3) 176 163 [.ref 0, .int x1, .int x2, .int (nI b), .int (nI 0), .null, .null] [] (mk shM (mP m R W N b e k c) q) = ev (d + 3) 176 163 [.ref 0, .int x1, .int x2, .int (nI ((trip k).foldl (sgS f) (R, b)).2), .int (nI k), v5, v6] [] (mk shM (mP m ((trip k).foldl (sgS f) (R, b)).1 W N b e k c) q) := by
  obtain ⟨l1, l2, l3⟩ := hL
  obtain ⟨v, h⟩ := ev_for3p (fun a (x : (Nat → Int32) × Nat) (v : Value × Value) => ev (d + 3) 176 163 [.ref 0, .int x1, .int x2, .int (nI x.2), .int (nI a), v.1, v.2] [] (mk shM (mP m x.1 W N b e k c) q))
    (fun a b' x v => ev (d + 3) 176 178 [.ref 0, .int x1, .int x2, .int (nI x.2), .int (nI a), .int (nI b'), v.2] [] (mk shM (mP m x.1 W N b e k c) q))
    (fun a b' c' x v => ev (d + 3) 176 193 [.ref 0, .int x1, .int x2, .int (nI x.2), .int (nI a), .int (nI b'), .int (nI c')] [] (mk shM (mP m x.1 W N b e k c) q)) (sgS f) k (R, b) (.null, .null)
    (fun a x v ha => ⟨v, by rw [s176_163]; simp only [s176_165, s176_166, s176_169, s176_172, s176_174, s176_175, s176_176, s176_180, s176_181, s176_184, s176_187, s176_189, s176_190, s176_191, s176_195, s176_196, s176_199, s176_202, s176_203, s176_205, s176_207, s176_209, s176_210, s176_213, s176_214, s176_215, s176_217, s176_220, s176_221, s176_224, s176_225, s176_228, s176_229, s176_230, s176_232, s176_235, s176_236, s176_239, s176_240, s176_243, s176_246, s176_249, s176_252, s176_255, s176_258, s176_261, mP_t, nI_lt ha (show k < 2 ^ 31 by omega), if_true, nI_add]⟩)
    (fun a x v ha => ⟨(.int (nI k), v.2), by rw [s176_178]; simp only [s176_165, s176_166, s176_169, s176_172, s176_174, s176_175, s176_176, s176_180, s176_181, s176_184, s176_187, s176_189, s176_190, s176_191, s176_195, s176_196, s176_199, s176_202, s176_203, s176_205, s176_207, s176_209, s176_210, s176_213, s176_214, s176_215, s176_217, s176_220, s176_221, s176_224, s176_225, s176_228, s176_229, s176_230, s176_232, s176_235, s176_236, s176_239, s176_240, s176_243, s176_246, s176_249, s176_252, s176_255, s176_258, s176_261, mP_t, nI_irr, if_false, nI_add]⟩)
    (fun a b' x v hab hb => ⟨v, by rw [s176_178]; simp only [s176_165, s176_166, s176_169, s176_172, s176_174, s176_175, s176_176, s176_180, s176_181, s176_184, s176_187, s176_189, s176_190, s176_191, s176_195, s176_196, s176_199, s176_202, s176_203, s176_205, s176_207, s176_209, s176_210, s176_213, s176_214, s176_215, s176_217, s176_220, s176_221, s176_224, s176_225, s176_228, s176_229, s176_230, s176_232, s176_235, s176_236, s176_239, s176_240, s176_243, s176_246, s176_249, s176_252, s176_255, s176_258, s176_261, mP_t, nI_lt hb (show k < 2 ^ 31 by omega), if_true, nI_add]⟩)
    (fun a b' x v hab hb => ⟨(v.1, .int (nI k)), by rw [s176_193]; simp only [s176_165, s176_166, s176_169, s176_172, s176_174, s176_175, s176_176, s176_180, s176_181, s176_184, s176_187, s176_189, s176_190, s176_191, s176_195, s176_196, s176_199, s176_202, s176_203, s176_205, s176_207, s176_209, s176_210, s176_213, s176_214, s176_215, s176_217, s176_220, s176_221, s176_224, s176_225, s176_228, s176_229, s176_230, s176_232, s176_235, s176_236, s176_239, s176_240, s176_243, s176_246, s176_249, s176_252, s176_255, s176_258, s176_261, mP_t, nI_irr, if_false, nI_add]⟩)
    (fun a b' c' x v hab hbc hc hx => ⟨v, by
      have hb := pre_b k (by omega) a (by omega) b' (by omega) c' (by omega)
      rw [decide_eq_true hab, decide_eq_true hbc, decide_eq_true hc] at hb
      simp only [Bool.and_self, Bool.not_true, Bool.false_or, decide_eq_true_eq] at hb
      have hx2 : x.2 < L := by
        rw [hx, sgS_2]
        show b + _ < L
        omega
      have y := l3 x.2 hx2
      have st := x_M_signs (d := d + 1) (v := sgT (f x.2)) (m := mP m x.1 W N b e k c) (q := q) (show a < 6 by omega) (show b' < 6 by omega) (show c' < 6 by omega) (by omega)
      rw [mP_1, mP_mu1] at st
      have k1 := nI_eq (show f x.2 < 2 ^ 31 by omega) (show 117 < 2 ^ 31 by decide)
      have k2 := nI_eq (show f x.2 < 2 ^ 31 by omega) (show 100 < 2 ^ 31 by decide)
      have hsg : sgS f x (a, b', c') = (sgU x.1 a b' c' (sgT (f x.2)), x.2 + 1) := rfl
      rw [hsg, s176_193]
      unfold sgT at st ⊢
      by_cases z1 : f x.2 = 117
      · rw [if_pos z1] at st ⊢
        simp only [s176_195, s176_196, s176_199, s176_202, s176_203, s176_205, s176_207, s176_209, s176_210, s176_213, s176_214, s176_215, s176_217, s176_220, s176_221, s176_224, s176_225, s176_228, s176_229, s176_230, s176_232, s176_235, s176_236, s176_239, s176_240, s176_243, s176_246, s176_249, mP_t, nI_lt hc (show k < 2 ^ 31 by omega), if_true, tM3, nM3, mP_3, show x.2 < 200 by omega, y.1, k1, eq_true z1, st, Option.bind_some, Option.toList_some, Option.toList_none, List.nil_append, List.cons_append, nI_add]
      · rw [if_neg z1] at st ⊢
        by_cases z2 : f x.2 = 100
        · rw [if_pos z2] at st ⊢
          simp only [s176_195, s176_196, s176_199, s176_202, s176_203, s176_205, s176_207, s176_209, s176_210, s176_213, s176_214, s176_215, s176_217, s176_220, s176_221, s176_224, s176_225, s176_228, s176_229, s176_230, s176_232, s176_235, s176_236, s176_239, s176_240, s176_243, s176_246, s176_249, mP_t, nI_lt hc (show k < 2 ^ 31 by omega), if_true, if_false, tM3, nM3, mP_3, show x.2 < 200 by omega, y.1, k1, eq_false z1, k2, eq_true z2, st, Option.bind_some, Option.toList_some, Option.toList_none, List.nil_append, List.cons_append, nI_add]
        · rw [if_neg z2] at st ⊢
          simp only [s176_195, s176_196, s176_199, s176_202, s176_203, s176_205, s176_207, s176_209, s176_210, s176_213, s176_214, s176_215, s176_217, s176_220, s176_221, s176_224, s176_225, s176_228, s176_229, s176_230, s176_232, s176_235, s176_236, s176_239, s176_240, s176_243, s176_246, s176_249, mP_t, nI_lt hc (show k < 2 ^ 31 by omega), if_true, if_false, tM3, nM3, mP_3, show x.2 < 200 by omega, y.1, k1, eq_false z1, k2, eq_false z2, st, Option.bind_some, Option.toList_some, Option.toList_none, List.nil_append, List.cons_append, nI_add]⟩)
  exact ⟨v.1, v.2, h⟩
/-- whether the token is a word of so many signs -/
theorem x_M_signWord (hL : LtM m f L) (ht : isTk f L b e) (hk : x < 1000) (hx0 : 0 < x) {v2 v3 v4 v5 v6 : Value} : ∃ v3', ev (d + 3) 176 23 [.ref 0, .int (nI x), v2, v3, v4, v5, v6] [] (mk shM (mP m R W N b e t c) q) = ev (d + 3) 176 124 [.ref 0, .int (nI x), .int (bI (sgW f x b e)), .int v3', v4, v5, v6] [] (mk shM (mP m R W N b e t c) q) := by
  obtain ⟨l1, l2, l3⟩ := id hL
  obtain ⟨t1, t2, t3, t4⟩ := id ht
  have lp := ev_and1x (fun i (z : Bool) (_ : Unit) => ev (d + 3) 176 55 [.ref 0, .int (nI x), .int (bI (decide (e - b = x) && z)), .int (nI i), v4, v5, v6] [] (mk shM (mP m R W N b e t c) q)) (fun z (w : Int32) => ev (d + 3) 176 124 [.ref 0, .int (nI x), .int (bI (decide (e - b = x) && z)), .int w, v4, v5, v6] [] (mk shM (mP m R W N b e t c) q)) (fun i => f (b + i) == 117 || f (b + i) == 111 || f (b + i) == 100)
  by_cases hx : e - b = x
  · rw [decide_eq_true hx] at lp
    have hb : b < L := by omega
    have e1 : (nI b < nI L) = True := eq_true (nI_lt hb (by omega))
    obtain ⟨v', h⟩ := lp x
      (fun z v => ⟨nI x, by rw [s176_55]; simp only [s176_56, s176_57, s176_60, s176_61, s176_64, s176_65, s176_68, s176_69, s176_72, s176_73, s176_74, s176_75, s176_77, s176_80, s176_81, s176_84, s176_85, s176_88, s176_89, s176_90, s176_91, s176_93, s176_96, s176_97, s176_100, s176_101, s176_104, s176_105, s176_106, s176_107, s176_109, s176_112, s176_113, s176_116, s176_117, s176_118, s176_121, nI_irr, if_false]⟩)
      (fun i v hi => ⟨nI i, by rw [s176_55]; simp only [s176_56, s176_57, s176_60, s176_61, s176_64, s176_65, s176_68, s176_69, s176_72, s176_73, s176_74, s176_75, s176_77, s176_80, s176_81, s176_84, s176_85, s176_88, s176_89, s176_90, s176_91, s176_93, s176_96, s176_97, s176_100, s176_101, s176_104, s176_105, s176_106, s176_107, s176_109, s176_112, s176_113, s176_116, s176_117, s176_118, s176_121, nI_lt hi (show x < 2 ^ 31 by omega), if_true, Bool.true_and, bI_z]⟩)
      (fun i v hi => ⟨(), by
        have y := l3 (b + i) (by omega)
        have k1 := nI_eq (show f (b + i) < 2 ^ 31 by omega) (show 117 < 2 ^ 31 by decide)
        have k2 := nI_eq (show f (b + i) < 2 ^ 31 by omega) (show 111 < 2 ^ 31 by decide)
        have k3 := nI_eq (show f (b + i) < 2 ^ 31 by omega) (show 100 < 2 ^ 31 by decide)
        rw [s176_55]
        by_cases z1 : f (b + i) = 117
        · simp only [s176_56, s176_57, s176_60, s176_61, s176_64, s176_65, s176_68, s176_69, s176_72, s176_73, s176_74, s176_75, s176_77, s176_80, s176_81, s176_84, s176_85, s176_88, s176_89, s176_90, s176_91, s176_93, s176_96, s176_97, s176_100, s176_101, s176_104, s176_105, s176_106, s176_107, s176_109, s176_112, s176_113, s176_116, s176_117, s176_118, s176_121, nI_lt hi (show x < 2 ^ 31 by omega), if_true, Bool.true_and, bI_z, Bool.true_eq_false, if_false, mP_b, tM3, nM3, mP_3, nI_add, show b + i < 200 by omega, y.1, k1, eq_true z1, beq_iff_eq.mpr z1, Bool.true_or, bI_t, nI10]
        · by_cases z2 : f (b + i) = 111
          · simp only [s176_56, s176_57, s176_60, s176_61, s176_64, s176_65, s176_68, s176_69, s176_72, s176_73, s176_74, s176_75, s176_77, s176_80, s176_81, s176_84, s176_85, s176_88, s176_89, s176_90, s176_91, s176_93, s176_96, s176_97, s176_100, s176_101, s176_104, s176_105, s176_106, s176_107, s176_109, s176_112, s176_113, s176_116, s176_117, s176_118, s176_121, nI_lt hi (show x < 2 ^ 31 by omega), if_true, Bool.true_and, bI_z, Bool.true_eq_false, if_false, mP_b, tM3, nM3, mP_3, nI_add, show b + i < 200 by omega, y.1, k1, eq_false z1, k2, eq_true z2, beq_iff_eq.mpr z2, Bool.true_or, Bool.or_true, bI_t, nI10]
          · by_cases z3 : f (b + i) = 100
            · simp only [s176_56, s176_57, s176_60, s176_61, s176_64, s176_65, s176_68, s176_69, s176_72, s176_73, s176_74, s176_75, s176_77, s176_80, s176_81, s176_84, s176_85, s176_88, s176_89, s176_90, s176_91, s176_93, s176_96, s176_97, s176_100, s176_101, s176_104, s176_105, s176_106, s176_107, s176_109, s176_112, s176_113, s176_116, s176_117, s176_118, s176_121, nI_lt hi (show x < 2 ^ 31 by omega), if_true, Bool.true_and, bI_z, Bool.true_eq_false, if_false, mP_b, tM3, nM3, mP_3, nI_add, show b + i < 200 by omega, y.1, k1, eq_false z1, k2, eq_false z2, k3, eq_true z3, beq_iff_eq.mpr z3, Bool.or_true, bI_t, nI10]
            · simp only [s176_56, s176_57, s176_60, s176_61, s176_64, s176_65, s176_68, s176_69, s176_72, s176_73, s176_74, s176_75, s176_77, s176_80, s176_81, s176_84, s176_85, s176_88, s176_89, s176_90, s176_91, s176_93, s176_96, s176_97, s176_100, s176_101, s176_104, s176_105, s176_106, s176_107, s176_109, s176_112, s176_113, s176_116, s176_117, s176_118, s176_121, nI_lt hi (show x < 2 ^ 31 by omega), if_true, Bool.true_and, bI_z, Bool.true_eq_false, if_false, mP_b, tM3, nM3, mP_3, nI_add, show b + i < 200 by omega, y.1, k1, eq_false z1, k2, eq_false z2, k3, eq_false z3, beq_false_of_ne z1, beq_false_of_ne z2, beq_false_of_ne z3, Bool.or_self, bI_f, bI_t, nI10]⟩) true ()
    refine ⟨v', ?_⟩
    have hw : sgW f x b e = (true && (true && (rg 0 x).all fun i => f (b + i) == 117 || f (b + i) == 111 || f (b + i) == 100)) := by
      unfold sgW
      rw [decide_eq_true hx, hx]
      simp only [Bool.true_and]
    rw [hw, ← h]
    simp only [s176_23, s176_24, s176_27, s176_28, s176_31, s176_34, s176_35, s176_38, s176_39, s176_42, s176_43, s176_44, s176_47, s176_48, s176_51, s176_52, s176_53, s176_54, mP_b, mP_e, mP_L, l1, e1, if_true, nI_sub t1, nI_eq (show e - b < 2 ^ 31 by omega) (show x < 2 ^ 31 by omega), eq_true hx, Bool.and_self, bI_t]
  · refine ⟨nI 0, ?_⟩
    have hw : sgW f x b e = false := by
      unfold sgW
      rw [decide_eq_false hx, Bool.false_and]
    rw [hw, bI_f]
    have hx0' : (nI 0 < nI x) = True := eq_true (nI_lt hx0 (by omega))
    have pre : ev (d + 3) 176 23 [.ref 0, .int (nI x), v2, v3, v4, v5, v6] [] (mk shM (mP m R W N b e t c) q) = ev (d + 3) 176 55 [.ref 0, .int (nI x), .int (nI 0), .int (nI 0), v4, v5, v6] [] (mk shM (mP m R W N b e t c) q) := by
      by_cases hb : b < L
      · simp only [s176_23, s176_24, s176_27, s176_28, s176_31, s176_34, s176_35, s176_38, s176_39, s176_42, s176_43, s176_44, s176_47, s176_48, s176_51, s176_52, s176_53, s176_54, mP_b, mP_e, mP_L, l1, nI_lt hb (show L < 2 ^ 31 by omega), if_true, nI_sub t1, nI_eq (show e - b < 2 ^ 31 by omega) (show x < 2 ^ 31 by omega), eq_false hx, if_false]
      · simp only [s176_23, s176_24, s176_27, s176_28, s176_31, s176_34, s176_35, s176_38, s176_39, s176_42, s176_43, s176_44, s176_47, s176_48, s176_51, s176_52, s176_53, s176_54, mP_b, mP_L, l1, show ¬ nI b < nI L by rw [nI_ltI (by omega) (by omega)]; exact hb, if_false]
    rw [pre, s176_55]
    simp only [s176_56, s176_57, s176_60, s176_61, s176_64, s176_65, s176_68, s176_69, s176_72, s176_73, s176_74, s176_75, s176_77, s176_80, s176_81, s176_84, s176_85, s176_88, s176_89, s176_90, s176_91, s176_93, s176_96, s176_97, s176_100, s176_101, s176_104, s176_105, s176_106, s176_107, s176_109, s176_112, s176_113, s176_116, s176_117, s176_118, s176_121, hx0', if_true, nI00]
end
