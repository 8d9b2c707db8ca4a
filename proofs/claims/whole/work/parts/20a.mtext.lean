/-! the model's text: tokens, words, numbers -/
def mPr (r : Nat → Int32) (b e t c : Nat) : Nat → Int32 := fun i => if i = 9 then nI b else if i = 10 then nI e else if i = 11 then nI t else if i = 12 then nI c else r i
def mP (m : Mem) (R W N : Nat → Int32) (b e t c : Nat) : Mem := fun i => if i = 0 then mPr (m 0) b e t c else if i = 1 then R else if i = 8 then N else if i = 9 then W else m i
section MP
variable {m : Mem} {R W N : Nat → Int32} {b e t c : Nat}
theorem mP_1 : mP m R W N b e t c 1 = R := by simp [mP]
theorem mP_8 : mP m R W N b e t c 8 = N := by simp [mP]
theorem mP_3 : mP m R W N b e t c 3 = m 3 := by simp [mP]
theorem mP_L : mP m R W N b e t c 0 4 = m 0 4 := by simp [mP, mPr]
theorem mP_b : mP m R W N b e t c 0 9 = nI b := by simp [mP, mPr]
theorem mP_e : mP m R W N b e t c 0 10 = nI e := by simp [mP, mPr]
theorem mP_t : mP m R W N b e t c 0 11 = nI t := by simp [mP, mPr]
theorem mP_c : mP m R W N b e t c 0 12 = nI c := by simp [mP, mPr]
theorem mP_d : mP m R W N b e t c 0 13 = m 0 13 := by simp [mP, mPr]
theorem mP_ne {k : Nat} (h0 : k ≠ 0) (h1 : k ≠ 1) (h8 : k ≠ 8) (h9 : k ≠ 9) : mP m R W N b e t c k = m k := by simp [mP, h0, h1, h8, h9]
theorem mP_mu1 {R2 : Nat → Int32} : mu (mP m R W N b e t c) 1 R2 = mP m R2 W N b e t c := by
  funext i
  by_cases h : i = 1
  · subst h; simp [mu, mP]
  · simp [mu, mP, h]
theorem mP_mu8 {N2 : Nat → Int32} : mu (mP m R W N b e t c) 8 N2 = mP m R W N2 b e t c := by
  funext i
  by_cases h : i = 8
  · subst h; simp [mu, mP]
  · simp [mu, mP, h]
theorem mP_mu9 {W2 : Nat → Int32} : mu (mP m R W N b e t c) 9 W2 = mP m R W2 N b e t c := by
  funext i
  by_cases h : i = 9
  · subst h; simp [mu, mP]
  · simp [mu, mP, h]
theorem mP_mub {b2 : Nat} : mu (mP m R W N b e t c) 0 (upd (mP m R W N b e t c 0) 9 (nI b2)) = mP m R W N b2 e t c := by
  funext i j
  by_cases h : i = 0
  · subst h
    by_cases hj : j = 9 <;> simp [mu, mP, mPr, upd, hj]
  · simp [mu, mP, h]
theorem mP_mue {e2 : Nat} : mu (mP m R W N b e t c) 0 (upd (mP m R W N b e t c 0) 10 (nI e2)) = mP m R W N b e2 t c := by
  funext i j
  by_cases h : i = 0
  · subst h
    by_cases hj : j = 10 <;> simp [mu, mP, mPr, upd, hj]
  · simp [mu, mP, h]
theorem mP_mut {t2 : Nat} : mu (mP m R W N b e t c) 0 (upd (mP m R W N b e t c 0) 11 (nI t2)) = mP m R W N b e t2 c := by
  funext i j
  by_cases h : i = 0
  · subst h
    by_cases hj : j = 11 <;> simp [mu, mP, mPr, upd, hj]
  · simp [mu, mP, h]
theorem mP_muc {c2 : Nat} : mu (mP m R W N b e t c) 0 (upd (mP m R W N b e t c 0) 12 (nI c2)) = mP m R W N b e t c2 := by
  funext i j
  by_cases h : i = 0
  · subst h
    by_cases hj : j = 12 <;> simp [mu, mP, mPr, upd, hj]
  · simp [mu, mP, h]
end MP
/-- the model's letters -/
def LtM (m : Mem) (f : Nat → Nat) (L : Nat) : Prop := m 0 4 = nI L ∧ L ≤ 200 ∧ ∀ i, i < L → m 3 i = nI (f i) ∧ f i < 256
section
variable {d b e t c L x : Nat} {f : Nat → Nat} {R W N : Nat → Int32} {m : Mem} {q : MemJ} {h : AH}
theorem x_M_isSmall (hx : x < 1000) : ev (d + 1) 172 0 [.int (nI x)] [] h = some (some (.int (bI (isSm x))), h) := by
  have I := x_M_in (d := d) (x := nI x) (lo := nI 97) (hi := nI 122) (h := h)
  rw [show (nI 97).toInt64 = 97 by decide, show (nI 122).toInt64 = 122 by decide] at I
  simp only [s172_0, s172_1, s172_2, s172_5, s172_8, s172_11, I, Option.bind_some, Option.toList_some, Option.toList_none, List.nil_append, List.cons_append, bI_b]
  unfold isSm
  have e1 : decide (nI x < nI 97) = decide (x < 97) := by simp only [nI_ltI (show x < 2 ^ 31 by omega) (show 97 < 2 ^ 31 by decide)]
  have e2 : decide (nI 122 < nI x) = decide (122 < x) := by simp only [nI_ltI (show 122 < 2 ^ 31 by decide) (show x < 2 ^ 31 by omega)]
  rw [e1, e2]
  congr 4
  by_cases h1 : x < 97
  · rw [decide_eq_true h1, decide_eq_false (show ¬ (97 ≤ x ∧ x ≤ 122) by omega)]; rfl
  · by_cases h2 : 122 < x
    · rw [decide_eq_false h1, decide_eq_true h2, decide_eq_false (show ¬ (97 ≤ x ∧ x ≤ 122) by omega)]; rfl
    · rw [decide_eq_false h1, decide_eq_false h2, decide_eq_true (show 97 ≤ x ∧ x ≤ 122 by omega)]; rfl
theorem x_M_isDigit (hx : x < 1000) : ev (d + 1) 173 0 [.int (nI x)] [] h = some (some (.int (bI (isDg x))), h) := by
  have I := x_M_in (d := d) (x := nI x) (lo := nI 48) (hi := nI 57) (h := h)
  rw [show (nI 48).toInt64 = 48 by decide, show (nI 57).toInt64 = 57 by decide] at I
  simp only [s173_0, s173_1, s173_2, s173_5, s173_8, s173_11, I, Option.bind_some, Option.toList_some, Option.toList_none, List.nil_append, List.cons_append, bI_b]
  unfold isDg
  have e1 : decide (nI x < nI 48) = decide (x < 48) := by simp only [nI_ltI (show x < 2 ^ 31 by omega) (show 48 < 2 ^ 31 by decide)]
  have e2 : decide (nI 57 < nI x) = decide (57 < x) := by simp only [nI_ltI (show 57 < 2 ^ 31 by decide) (show x < 2 ^ 31 by omega)]
  rw [e1, e2]
  congr 4
  by_cases h1 : x < 48
  · rw [decide_eq_true h1, decide_eq_false (show ¬ (48 ≤ x ∧ x ≤ 57) by omega)]; rfl
  · by_cases h2 : 57 < x
    · rw [decide_eq_false h1, decide_eq_true h2, decide_eq_false (show ¬ (48 ≤ x ∧ x ≤ 57) by omega)]; rfl
    · rw [decide_eq_false h1, decide_eq_false h2, decide_eq_true (show 48 ≤ x ∧ x ≤ 57 by omega)]; rfl
theorem sm_not_dg {x : Nat} (h : isSm x = true) : isDg x = false := sm_dg h
theorem x_M_next (hL : LtM m f L) (he : e ≤ L) : ev (d + 2) 171 0 [.ref 0] [] (mk shM (mP m R W N b e t c) q) = some (none, mk shM (mP m R W N (tok f L e).1 (tok f L e).2 t c) q) := by
  obtain ⟨h1, h2, h3⟩ := hL
  have en : ∀ b e, b = L ∨ (b < L ∧ isDg (f b) = false) → ev (d + 2) 171 139 [.ref 0] [] (mk shM (mP m R W N b e t c) q) = some (none, mk shM (mP m R W N b e t c) q) := fun b e hb => by
    rw [s171_139]
    rcases hb with hb | ⟨hb, hd⟩
    · simp only [s171_0, s171_1, s171_2, s171_5, s171_9, s171_12, s171_13, s171_16, s171_19, s171_20, s171_23, s171_24, s171_27, s171_28, s171_30, s171_33, s171_34, s171_35, s171_38, s171_39, s171_40, s171_43, s171_46, s171_47, s171_48, s171_51, s171_52, s171_55, s171_58, s171_59, s171_62, s171_63, s171_64, s171_67, s171_68, s171_71, s171_75, s171_78, s171_79, s171_82, s171_85, s171_86, s171_89, s171_90, s171_93, s171_94, s171_97, s171_100, s171_101, s171_104, s171_105, s171_108, s171_111, s171_112, s171_115, s171_116, s171_119, s171_120, s171_123, s171_126, s171_127, s171_128, s171_131, s171_132, s171_133, s171_136, s171_140, s171_143, s171_144, s171_147, s171_150, s171_151, s171_154, s171_155, s171_158, s171_159, s171_162, s171_165, s171_166, s171_169, s171_170, s171_173, s171_176, s171_177, s171_180, s171_181, s171_184, s171_185, s171_188, s171_191, s171_192, s171_193, s171_196, s171_197, s171_198, s171_201, s171_204, mP_b, mP_L, h1, hb, nI_irr, if_false]
    · have hb3 := h3 b hb
      simp only [s171_0, s171_1, s171_2, s171_5, s171_9, s171_12, s171_13, s171_16, s171_19, s171_20, s171_23, s171_24, s171_27, s171_28, s171_30, s171_33, s171_34, s171_35, s171_38, s171_39, s171_40, s171_43, s171_46, s171_47, s171_48, s171_51, s171_52, s171_55, s171_58, s171_59, s171_62, s171_63, s171_64, s171_67, s171_68, s171_71, s171_75, s171_78, s171_79, s171_82, s171_85, s171_86, s171_89, s171_90, s171_93, s171_94, s171_97, s171_100, s171_101, s171_104, s171_105, s171_108, s171_111, s171_112, s171_115, s171_116, s171_119, s171_120, s171_123, s171_126, s171_127, s171_128, s171_131, s171_132, s171_133, s171_136, s171_140, s171_143, s171_144, s171_147, s171_150, s171_151, s171_154, s171_155, s171_158, s171_159, s171_162, s171_165, s171_166, s171_169, s171_170, s171_173, s171_176, s171_177, s171_180, s171_181, s171_184, s171_185, s171_188, s171_191, s171_192, s171_193, s171_196, s171_197, s171_198, s171_201, s171_204, mP_b, mP_L, h1, nI_lt hb (show L < 2 ^ 31 by omega), if_true, tM3, nM3, show b < 200 by omega, mP_3, hb3.1, x_M_isDigit (show f b < 1000 by omega), hd, Option.bind_some, Option.toList_some, Option.toList_none, List.nil_append, List.cons_append, bI_f, nI00]
  have Ldg : ∀ b, b < L → isDg (f b) = true → ∀ i, i ≤ L → ev (d + 2) 171 139 [.ref 0] [] (mk shM (mP m R W N b i t c) q) = some (none, mk shM (mP m R W N b (skw (fun i => isDg (f i)) (L - i) i) t c) q) := fun b hb hdb => ev_skw (fun i => ev (d + 2) 171 139 [.ref 0] [] (mk shM (mP m R W N b i t c) q)) (fun i => some (none, mk shM (mP m R W N b i t c) q)) (fun i => isDg (f i)) L
    (fun i hi hp => by
      have hb3 := h3 b hb
      have hi3 := h3 i hi
      rw [s171_139]
      simp only [s171_0, s171_1, s171_2, s171_5, s171_9, s171_12, s171_13, s171_16, s171_19, s171_20, s171_23, s171_24, s171_27, s171_28, s171_30, s171_33, s171_34, s171_35, s171_38, s171_39, s171_40, s171_43, s171_46, s171_47, s171_48, s171_51, s171_52, s171_55, s171_58, s171_59, s171_62, s171_63, s171_64, s171_67, s171_68, s171_71, s171_75, s171_78, s171_79, s171_82, s171_85, s171_86, s171_89, s171_90, s171_93, s171_94, s171_97, s171_100, s171_101, s171_104, s171_105, s171_108, s171_111, s171_112, s171_115, s171_116, s171_119, s171_120, s171_123, s171_126, s171_127, s171_128, s171_131, s171_132, s171_133, s171_136, s171_140, s171_143, s171_144, s171_147, s171_150, s171_151, s171_154, s171_155, s171_158, s171_159, s171_162, s171_165, s171_166, s171_169, s171_170, s171_173, s171_176, s171_177, s171_180, s171_181, s171_184, s171_185, s171_188, s171_191, s171_192, s171_193, s171_196, s171_197, s171_198, s171_201, s171_204, mP_b, mP_e, mP_L, h1, nI_lt hb (show L < 2 ^ 31 by omega), nI_lt hi (show L < 2 ^ 31 by omega), if_true, tM3, nM3, show b < 200 by omega, show i < 200 by omega, mP_3, hb3.1, hi3.1, x_M_isDigit (show f b < 1000 by omega), x_M_isDigit (show f i < 1000 by omega), hdb, hp, Option.bind_some, Option.toList_some, Option.toList_none, List.nil_append, List.cons_append, bI_t, nI10, if_false, nI_add, mP_mue])
    (fun i hi hp => by
      have hb3 := h3 b hb
      rw [s171_139]
      rcases Nat.lt_or_ge i L with h | h
      · have hi3 := h3 i h
        have hp : isDg (f i) = false := hp.resolve_left (by omega)
        simp only [s171_0, s171_1, s171_2, s171_5, s171_9, s171_12, s171_13, s171_16, s171_19, s171_20, s171_23, s171_24, s171_27, s171_28, s171_30, s171_33, s171_34, s171_35, s171_38, s171_39, s171_40, s171_43, s171_46, s171_47, s171_48, s171_51, s171_52, s171_55, s171_58, s171_59, s171_62, s171_63, s171_64, s171_67, s171_68, s171_71, s171_75, s171_78, s171_79, s171_82, s171_85, s171_86, s171_89, s171_90, s171_93, s171_94, s171_97, s171_100, s171_101, s171_104, s171_105, s171_108, s171_111, s171_112, s171_115, s171_116, s171_119, s171_120, s171_123, s171_126, s171_127, s171_128, s171_131, s171_132, s171_133, s171_136, s171_140, s171_143, s171_144, s171_147, s171_150, s171_151, s171_154, s171_155, s171_158, s171_159, s171_162, s171_165, s171_166, s171_169, s171_170, s171_173, s171_176, s171_177, s171_180, s171_181, s171_184, s171_185, s171_188, s171_191, s171_192, s171_193, s171_196, s171_197, s171_198, s171_201, s171_204, mP_b, mP_e, mP_L, h1, nI_lt hb (show L < 2 ^ 31 by omega), nI_lt h (show L < 2 ^ 31 by omega), if_true, tM3, nM3, show b < 200 by omega, show i < 200 by omega, mP_3, hb3.1, hi3.1, x_M_isDigit (show f b < 1000 by omega), x_M_isDigit (show f i < 1000 by omega), hdb, hp, Option.bind_some, Option.toList_some, Option.toList_none, List.nil_append, List.cons_append, bI_t, bI_f, nI10, nI00, if_false]
      · obtain rfl : i = L := by omega
        simp only [s171_0, s171_1, s171_2, s171_5, s171_9, s171_12, s171_13, s171_16, s171_19, s171_20, s171_23, s171_24, s171_27, s171_28, s171_30, s171_33, s171_34, s171_35, s171_38, s171_39, s171_40, s171_43, s171_46, s171_47, s171_48, s171_51, s171_52, s171_55, s171_58, s171_59, s171_62, s171_63, s171_64, s171_67, s171_68, s171_71, s171_75, s171_78, s171_79, s171_82, s171_85, s171_86, s171_89, s171_90, s171_93, s171_94, s171_97, s171_100, s171_101, s171_104, s171_105, s171_108, s171_111, s171_112, s171_115, s171_116, s171_119, s171_120, s171_123, s171_126, s171_127, s171_128, s171_131, s171_132, s171_133, s171_136, s171_140, s171_143, s171_144, s171_147, s171_150, s171_151, s171_154, s171_155, s171_158, s171_159, s171_162, s171_165, s171_166, s171_169, s171_170, s171_173, s171_176, s171_177, s171_180, s171_181, s171_184, s171_185, s171_188, s171_191, s171_192, s171_193, s171_196, s171_197, s171_198, s171_201, s171_204, mP_b, mP_e, mP_L, h1, nI_lt hb (show i < 2 ^ 31 by omega), nI_irr, if_true, tM3, nM3, show b < 200 by omega, mP_3, hb3.1, x_M_isDigit (show f b < 1000 by omega), hdb, Option.bind_some, Option.toList_some, Option.toList_none, List.nil_append, List.cons_append, bI_t, nI10, if_false])
  have Lsm : ∀ b, b < L → isSm (f b) = true → ∀ i, i ≤ L → ev (d + 2) 171 74 [.ref 0] [] (mk shM (mP m R W N b i t c) q) = some (none, mk shM (mP m R W N b (skw (fun i => isSm (f i)) (L - i) i) t c) q) := fun b hb hsb => ev_skw (fun i => ev (d + 2) 171 74 [.ref 0] [] (mk shM (mP m R W N b i t c) q)) (fun i => some (none, mk shM (mP m R W N b i t c) q)) (fun i => isSm (f i)) L
    (fun i hi hp => by
      have hb3 := h3 b hb
      have hi3 := h3 i hi
      rw [s171_74]
      simp only [s171_75, s171_78, s171_79, s171_82, s171_85, s171_86, s171_89, s171_90, s171_93, s171_94, s171_97, s171_100, s171_101, s171_104, s171_105, s171_108, s171_111, s171_112, s171_115, s171_116, s171_119, s171_120, s171_123, s171_126, s171_127, s171_128, s171_131, s171_132, s171_133, s171_136, mP_b, mP_e, mP_L, h1, nI_lt hb (show L < 2 ^ 31 by omega), nI_lt hi (show L < 2 ^ 31 by omega), if_true, tM3, nM3, show b < 200 by omega, show i < 200 by omega, mP_3, hb3.1, hi3.1, x_M_isSmall (show f b < 1000 by omega), x_M_isSmall (show f i < 1000 by omega), hsb, hp, Option.bind_some, Option.toList_some, Option.toList_none, List.nil_append, List.cons_append, bI_t, nI10, if_false, nI_add, mP_mue])
    (fun i hi hp => by
      have hb3 := h3 b hb
      have E := en b i (Or.inr ⟨hb, sm_dg hsb⟩)
      rw [s171_74]
      rcases Nat.lt_or_ge i L with h | h
      · have hi3 := h3 i h
        have hp : isSm (f i) = false := hp.resolve_left (by omega)
        simp only [s171_75, s171_78, s171_79, s171_82, s171_85, s171_86, s171_89, s171_90, s171_93, s171_94, s171_97, s171_100, s171_101, s171_104, s171_105, s171_108, s171_111, s171_112, s171_115, s171_116, s171_119, s171_120, s171_123, s171_126, s171_127, s171_128, s171_131, s171_132, s171_133, s171_136, mP_b, mP_e, mP_L, h1, nI_lt hb (show L < 2 ^ 31 by omega), nI_lt h (show L < 2 ^ 31 by omega), if_true, tM3, nM3, show b < 200 by omega, show i < 200 by omega, mP_3, hb3.1, hi3.1, x_M_isSmall (show f b < 1000 by omega), x_M_isSmall (show f i < 1000 by omega), hsb, hp, Option.bind_some, Option.toList_some, Option.toList_none, List.nil_append, List.cons_append, bI_t, bI_f, nI10, nI00, if_false, E]
      · obtain rfl : i = L := by omega
        simp only [s171_75, s171_78, s171_79, s171_82, s171_85, s171_86, s171_89, s171_90, s171_93, s171_94, s171_97, s171_100, s171_101, s171_104, s171_105, s171_108, s171_111, s171_112, s171_115, s171_116, s171_119, s171_120, s171_123, s171_126, s171_127, s171_128, s171_131, s171_132, s171_133, s171_136, mP_b, mP_e, mP_L, h1, nI_lt hb (show i < 2 ^ 31 by omega), nI_irr, if_true, tM3, nM3, show b < 200 by omega, mP_3, hb3.1, x_M_isSmall (show f b < 1000 by omega), hsb, Option.bind_some, Option.toList_some, Option.toList_none, List.nil_append, List.cons_append, bI_t, nI10, if_false, E])
  have ns : ∀ b e, b = L ∨ (b < L ∧ isSm (f b) = false) → ev (d + 2) 171 74 [.ref 0] [] (mk shM (mP m R W N b e t c) q) = ev (d + 2) 171 139 [.ref 0] [] (mk shM (mP m R W N b e t c) q) := fun b e hb => by
    rw [s171_74]
    rcases hb with hb | ⟨hb, hs⟩
    · simp only [s171_75, s171_78, s171_79, s171_82, s171_85, s171_86, s171_89, s171_90, s171_93, s171_94, s171_97, s171_100, s171_101, s171_104, s171_105, s171_108, s171_111, s171_112, s171_115, s171_116, s171_119, s171_120, s171_123, s171_126, s171_127, s171_128, s171_131, s171_132, s171_133, s171_136, mP_b, mP_L, h1, hb, nI_irr, if_false]
    · have hb3 := h3 b hb
      simp only [s171_75, s171_78, s171_79, s171_82, s171_85, s171_86, s171_89, s171_90, s171_93, s171_94, s171_97, s171_100, s171_101, s171_104, s171_105, s171_108, s171_111, s171_112, s171_115, s171_116, s171_119, s171_120, s171_123, s171_126, s171_127, s171_128, s171_131, s171_132, s171_133, s171_136, mP_b, mP_L, h1, nI_lt hb (show L < 2 ^ 31 by omega), if_true, tM3, nM3, show b < 200 by omega, mP_3, hb3.1, x_M_isSmall (show f b < 1000 by omega), hs, Option.bind_some, Option.toList_some, Option.toList_none, List.nil_append, List.cons_append, bI_f, nI00]
  have Lbl := ev_skw (fun i => ev (d + 2) 171 8 [.ref 0] [] (mk shM (mP m R W N i e t c) q)) (fun b => some (none, mk shM (mP m R W N b (if b < L then (if isSm (f b) = true then skw (fun i => isSm (f i)) (L - (b + 1)) (b + 1) else if isDg (f b) = true then skw (fun i => isDg (f i)) (L - (b + 1)) (b + 1) else b + 1) else b) t c) q)) (fun i => f i == 32) L
    (fun i hi hp => by
      have hi2 := h3 i hi
      have hp : f i = 32 := by simpa using hp
      rw [s171_8]
      simp only [s171_9, s171_12, s171_13, s171_16, s171_19, s171_20, s171_23, s171_24, s171_27, s171_28, s171_30, s171_33, s171_34, s171_35, s171_38, s171_39, s171_40, s171_43, s171_46, s171_47, s171_48, s171_51, s171_52, s171_55, s171_58, s171_59, s171_62, s171_63, s171_64, s171_67, s171_68, s171_71, mP_b, mP_L, h1, nI_lt hi (show L < 2 ^ 31 by omega), if_true, tM3, nM3, show i < 200 by omega, mP_3, hi2.1, hp, nI_add, mP_mub])
    (fun i hi hp => by
      rw [s171_8]
      rcases Nat.lt_or_ge i L with h | h
      · have hi2 := h3 i h
        have hp : ¬ f i = 32 := by
          have := hp.resolve_left (by omega)
          simpa using this
        simp only [s171_9, s171_12, s171_13, s171_16, s171_19, s171_20, s171_23, s171_24, s171_27, s171_28, s171_30, s171_33, s171_34, s171_35, s171_38, s171_39, s171_40, s171_43, s171_46, s171_47, s171_48, s171_51, s171_52, s171_55, s171_58, s171_59, s171_62, s171_63, s171_64, s171_67, s171_68, s171_71, mP_b, mP_L, h1, nI_lt h (show L < 2 ^ 31 by omega), if_true, tM3, nM3, show i < 200 by omega, mP_3, hi2.1, nI_eq (show f i < 2 ^ 31 by omega) (show 32 < 2 ^ 31 by decide), hp, if_false, nI_add, mP_mue]
        rw [if_pos h]
        cases hs : isSm (f i) with
        | true =>
          rw [if_pos rfl]
          exact Lsm i h hs (i + 1) (by omega)
        | false =>
          rw [if_neg (by decide), ns i (i + 1) (Or.inr ⟨h, hs⟩)]
          cases hd : isDg (f i) with
          | true =>
            rw [if_pos rfl]
            exact Ldg i h hd (i + 1) (by omega)
          | false =>
            rw [if_neg (by decide)]
            exact en i (i + 1) (Or.inr ⟨h, hd⟩)
      · obtain rfl : i = L := by omega
        simp only [s171_9, s171_12, s171_13, s171_16, s171_19, s171_20, s171_23, s171_24, s171_27, s171_28, s171_30, s171_33, s171_34, s171_35, s171_38, s171_39, s171_40, s171_43, s171_46, s171_47, s171_48, s171_51, s171_52, s171_55, s171_58, s171_59, s171_62, s171_63, s171_64, s171_67, s171_68, s171_71, mP_b, mP_L, h1, nI_irr, if_false, mP_mue]
        rw [ns i i (Or.inl rfl), en i i (Or.inl rfl), if_neg (Nat.lt_irrefl i)]) e he
  have Lb := Lbl
  simp only [s171_0, s171_1, s171_2, s171_5, mP_e, mP_mub]
  rw [Lb]
  unfold tok
  dsimp only
  by_cases hb : skw (fun i => f i == 32) (L - e) e < L
  · rw [if_pos hb, if_pos hb]
  · rw [if_neg hb, if_neg hb]
theorem x_M_isHere (hL : LtM m f L) (ht : isTk f L b e) (hx : x < 1000) : ev d 186 0 [.ref 0, .int (nI x)] [] (mk shM (mP m R W N b e t c) q) = some (some (.int (bI (decide (b < L) && (f b == x && decide (e = b + 1))))), mk shM (mP m R W N b e t c) q) := by
  obtain ⟨h1, h2, h3⟩ := hL
  obtain ⟨t1, t2, t3, -⟩ := ht
  by_cases hb : b < L
  · have hb3 := h3 b hb
    by_cases hx' : f b = x
    · by_cases he : e = b + 1
      · simp only [s186_0, s186_1, s186_4, s186_5, s186_8, s186_11, s186_12, s186_15, s186_16, s186_19, s186_20, s186_21, s186_24, s186_25, s186_28, s186_29, s186_32, s186_33, s186_34, s186_37, s186_38, s186_41, s186_42, mP_b, mP_e, mP_L, h1, nI_lt hb (show L < 2 ^ 31 by omega), if_true, tM3, nM3, show b < 200 by omega, mP_3, hb3.1, nI_eq (show f b < 2 ^ 31 by omega) (show x < 2 ^ 31 by omega), eq_true hx', nI_add, nI_eq (show e < 2 ^ 31 by omega) (show b + 1 < 2 ^ 31 by omega), eq_true he, am_b1, eq_true hb, hx', decide_true, Bool.and_self, bI_t, beq_self_eq_true]
      · simp only [s186_0, s186_1, s186_4, s186_5, s186_8, s186_11, s186_12, s186_15, s186_16, s186_19, s186_20, s186_21, s186_24, s186_25, s186_28, s186_29, s186_32, s186_33, s186_34, s186_37, s186_38, s186_41, s186_42, mP_b, mP_e, mP_L, h1, nI_lt hb (show L < 2 ^ 31 by omega), if_true, tM3, nM3, show b < 200 by omega, mP_3, hb3.1, nI_eq (show f b < 2 ^ 31 by omega) (show x < 2 ^ 31 by omega), eq_true hx', nI_add, nI_eq (show e < 2 ^ 31 by omega) (show b + 1 < 2 ^ 31 by omega), eq_false he, if_false, am_b0, decide_false, Bool.and_false, bI_f]
    · have hbx : (f b == x) = false := by simpa using hx'
      simp only [s186_0, s186_1, s186_4, s186_5, s186_8, s186_11, s186_12, s186_15, s186_16, s186_19, s186_20, s186_21, s186_24, s186_25, s186_28, s186_29, s186_32, s186_33, s186_34, s186_37, s186_38, s186_41, s186_42, mP_b, mP_L, h1, nI_lt hb (show L < 2 ^ 31 by omega), if_true, tM3, nM3, show b < 200 by omega, mP_3, hb3.1, nI_eq (show f b < 2 ^ 31 by omega) (show x < 2 ^ 31 by omega), eq_false hx', if_false, am_b0, hbx, Bool.false_and, Bool.and_false, bI_f]
  · simp only [s186_0, s186_1, s186_4, s186_5, s186_8, s186_11, s186_12, s186_15, s186_16, s186_19, s186_20, s186_21, s186_24, s186_25, s186_28, s186_29, s186_32, s186_33, s186_34, s186_37, s186_38, s186_41, s186_42, mP_b, mP_L, h1, show ¬ nI b < nI L by rw [nI_ltI (by omega) (by omega)]; exact hb, if_false, am_b0, eq_false hb, decide_false, Bool.false_and, bI_f]
end
