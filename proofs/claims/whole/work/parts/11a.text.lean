/-! the text: tokens -/
theorem nI_lit {a : Nat} : nI a = Int32.ofNat a := rfl
/-- how far a row of letters of a kind goes -/
def skw (p : Nat → Bool) : Nat → Nat → Nat
  | 0, i => i
  | k + 1, i => if p i = true then skw p k (i + 1) else i
theorem skw_le {p : Nat → Bool} : ∀ {k i : Nat}, i ≤ skw p k i ∧ skw p k i ≤ i + k
  | 0, i => ⟨Nat.le_refl _, Nat.le_refl _⟩
  | k + 1, i => by
    unfold skw
    split
    · have := skw_le (p := p) (k := k) (i := i + 1)
      omega
    · omega
theorem ev_skw {ρ : Type} (S Z : Nat → ρ) (p : Nat → Bool) (L : Nat) (hs : ∀ i, i < L → p i = true → S i = S (i + 1)) (hz : ∀ i, i ≤ L → (i = L ∨ p i = false) → S i = Z i) : ∀ i, i ≤ L → S i = Z (skw p (L - i) i) := by
  intro i hi
  obtain ⟨k, rfl⟩ : ∃ k, L = i + k := ⟨L - i, by omega⟩
  rw [show i + k - i = k by omega]
  induction k generalizing i with
  | zero => exact hz i hi (Or.inl rfl)
  | succ k ih =>
    unfold skw
    cases hp : p i with
    | true =>
      rw [if_pos rfl, hs i (by omega) hp]
      exact ih (i + 1) (by rw [show i + 1 + k = i + (k + 1) by omega]; exact hs) (by rw [show i + 1 + k = i + (k + 1) by omega]; exact hz) (by omega)
    | false =>
      rw [if_neg (by decide)]
      exact hz i hi (Or.inr hp)
def isSm (x : Nat) : Bool := decide (97 ≤ x ∧ x ≤ 122)
def isDg (x : Nat) : Bool := decide (48 ≤ x ∧ x ≤ 57)
/-- the token from a place on -/
def tok (f : Nat → Nat) (L e : Nat) : Nat × Nat :=
  let b := skw (fun i => f i == 32) (L - e) e
  if b < L then (b, if isSm (f b) = true then skw (fun i => isSm (f i)) (L - (b + 1)) (b + 1) else if isDg (f b) = true then skw (fun i => isDg (f i)) (L - (b + 1)) (b + 1) else b + 1) else (b, b)
theorem tok_le {f : Nat → Nat} {L e : Nat} (h : e ≤ L) : e ≤ (tok f L e).1 ∧ (tok f L e).1 ≤ (tok f L e).2 ∧ (tok f L e).2 ≤ L ∧ ((tok f L e).1 < L → (tok f L e).1 < (tok f L e).2) := by
  unfold tok
  have h1 := skw_le (p := fun i => f i == 32) (k := L - e) (i := e)
  generalize skw (fun i => f i == 32) (L - e) e = b at h1 ⊢
  dsimp only
  split
  · next hb =>
    have h2 := skw_le (p := fun i => isSm (f i)) (k := L - (b + 1)) (i := b + 1)
    have h3 := skw_le (p := fun i => isDg (f i)) (k := L - (b + 1)) (i := b + 1)
    dsimp only
    split
    · omega
    · split <;> omega
  · dsimp only; omega
theorem x_T_isSmall {d x : Nat} {h : AH} (hx : x < 1000) : ev d 25 0 [.int (nI x)] [] h = some (some (.int (if isSm x = true then nI 1 else nI 0)), h) := by
  simp only [s25_0, s25_1, s25_3, s25_6, s25_7, s25_9, s25_12, s25_13, s25_16, s25_17, nI_ltI (show x < 2 ^ 31 by omega) (show 97 < 2 ^ 31 by decide), nI_ltI (show 122 < 2 ^ 31 by decide) (show x < 2 ^ 31 by omega), am_b0, am_b1]
  unfold isSm
  by_cases h1 : x < 97
  · rw [if_pos h1, if_neg (by simp; omega)]
  · rw [if_neg h1]
    by_cases h2 : 122 < x
    · rw [if_pos h2, if_neg (by simp; omega)]
    · rw [if_neg h2, if_pos (by simp; omega)]
theorem x_T_isDigit {d x : Nat} {h : AH} (hx : x < 1000) : ev d 26 0 [.int (nI x)] [] h = some (some (.int (if isDg x = true then nI 1 else nI 0)), h) := by
  simp only [s26_0, s26_1, s26_3, s26_6, s26_7, s26_9, s26_12, s26_13, s26_16, s26_17, nI_ltI (show x < 2 ^ 31 by omega) (show 48 < 2 ^ 31 by decide), nI_ltI (show 57 < 2 ^ 31 by decide) (show x < 2 ^ 31 by omega), am_b0, am_b1]
  unfold isDg
  by_cases h1 : x < 48
  · rw [if_pos h1, if_neg (by simp; omega)]
  · rw [if_neg h1]
    by_cases h2 : 57 < x
    · rw [if_pos h2, if_neg (by simp; omega)]
    · rw [if_neg h2, if_pos (by simp; omega)]
/-- the cells of the reader and of its draft -/
def tR (r : Nat → Int32) (b e : Nat) (v : Int32) (c : Nat) : Nat → Int32 := fun i => if i = 2 then nI b else if i = 3 then nI e else if i = 4 then v else if i = 5 then nI c else r i
def pH (m : Mem) (n : Nat) (F G : Nat → Int32) (b e : Nat) (v : Int32) (c : Nat) : Mem := fun i => if i = 4 then upd (m 4) 0 (nI n) else if i = 5 then F else if i = 6 then G else if i = 41 then tR (m 41) b e v c else m i
section PH
variable {m : Mem} {n : Nat} {F G : Nat → Int32} {b e c : Nat} {v : Int32}
theorem pH_4 : pH m n F G b e v c 4 0 = nI n := by simp [pH, upd]
theorem pH_5 : pH m n F G b e v c 5 = F := by simp [pH]
theorem pH_6 : pH m n F G b e v c 6 = G := by simp [pH]
theorem pH_L : pH m n F G b e v c 41 1 = m 41 1 := by simp [pH, tR]
theorem pH_b : pH m n F G b e v c 41 2 = nI b := by simp [pH, tR]
theorem pH_e : pH m n F G b e v c 41 3 = nI e := by simp [pH, tR]
theorem pH_v : pH m n F G b e v c 41 4 = v := by simp [pH, tR]
theorem pH_c : pH m n F G b e v c 41 5 = nI c := by simp [pH, tR]
theorem pH_42 : pH m n F G b e v c 42 = m 42 := by simp [pH]
theorem pH_ne {k : Nat} (h4 : k ≠ 4) (h5 : k ≠ 5) (h6 : k ≠ 6) (h1 : k ≠ 41) : pH m n F G b e v c k = m k := by simp [pH, h4, h5, h6, h1]
theorem pH_mu4 {n2 : Nat} : mu (pH m n F G b e v c) 4 (upd (pH m n F G b e v c 4) 0 (nI n2)) = pH m n2 F G b e v c := by
  funext i j
  by_cases h : i = 4
  · subst h
    by_cases hj : j = 0 <;> simp [mu, pH, upd, hj]
  · simp [mu, pH, h]
theorem pH_mu5 {F2 : Nat → Int32} : mu (pH m n F G b e v c) 5 F2 = pH m n F2 G b e v c := by
  funext i
  by_cases h : i = 5
  · subst h; simp [mu, pH]
  · simp [mu, pH, h]
theorem pH_mu6 {G2 : Nat → Int32} : mu (pH m n F G b e v c) 6 G2 = pH m n F G2 b e v c := by
  funext i
  by_cases h : i = 6
  · subst h; simp [mu, pH]
  · simp [mu, pH, h]
theorem pH_mub {b2 : Nat} : mu (pH m n F G b e v c) 41 (upd (pH m n F G b e v c 41) 2 (nI b2)) = pH m n F G b2 e v c := by
  funext i j
  by_cases h : i = 41
  · subst h
    by_cases hj : j = 2 <;> simp [mu, pH, tR, upd, hj]
  · simp [mu, pH, h]
theorem pH_mue {e2 : Nat} : mu (pH m n F G b e v c) 41 (upd (pH m n F G b e v c 41) 3 (nI e2)) = pH m n F G b e2 v c := by
  funext i j
  by_cases h : i = 41
  · subst h
    by_cases hj : j = 3 <;> simp [mu, pH, tR, upd, hj]
  · simp [mu, pH, h]
theorem pH_muv {v2 : Int32} : mu (pH m n F G b e v c) 41 (upd (pH m n F G b e v c 41) 4 v2) = pH m n F G b e v2 c := by
  funext i j
  by_cases h : i = 41
  · subst h
    by_cases hj : j = 4 <;> simp [mu, pH, tR, upd, hj]
  · simp [mu, pH, h]
theorem pH_muc {c2 : Nat} : mu (pH m n F G b e v c) 41 (upd (pH m n F G b e v c 41) 5 (nI c2)) = pH m n F G b e v c2 := by
  funext i j
  by_cases h : i = 41
  · subst h
    by_cases hj : j = 5 <;> simp [mu, pH, tR, upd, hj]
  · simp [mu, pH, h]
end PH
/-- the letters: L of them, by f -/
def Ltr (m : Mem) (f : Nat → Nat) (L : Nat) : Prop := m 41 1 = nI L ∧ L ≤ 200 ∧ ∀ i, i < L → m 42 i = nI (f i) ∧ f i < 256
theorem x_T_nextToken {d n b e c L : Nat} {v : Int32} {F G : Nat → Int32} {f : Nat → Nat} {m : Mem} {q : MemJ} (hL : Ltr m f L) (he : e ≤ L) : ev (d + 1) 24 0 [.ref 41] [] (mk shC (pH m n F G b e v c) q) = some (none, mk shC (pH m n F G (tok f L e).1 (tok f L e).2 v c) q) := by
  obtain ⟨h1, h2, h3⟩ := hL
  -- the two loops behind the token's begin
  have Lsm : ∀ b i, i ≤ L → ev (d + 1) 24 91 [.ref 41] [] (mk shC (pH m n F G b i v c) q) = some (none, mk shC (pH m n F G b (skw (fun i => isSm (f i)) (L - i) i) v c) q) := fun b => ev_skw (fun i => ev (d + 1) 24 91 [.ref 41] [] (mk shC (pH m n F G b i v c) q)) (fun i => some (none, mk shC (pH m n F G b i v c) q)) (fun i => isSm (f i)) L
    (fun i hi hp => by
      have hi2 := h3 i hi
      rw [s24_91]
      simp only [s24_0, s24_1, s24_2, s24_5, s24_9, s24_12, s24_13, s24_16, s24_19, s24_20, s24_23, s24_24, s24_27, s24_28, s24_30, s24_33, s24_34, s24_35, s24_38, s24_39, s24_40, s24_43, s24_46, s24_47, s24_48, s24_51, s24_54, s24_55, s24_58, s24_59, s24_62, s24_65, s24_66, s24_67, s24_68, s24_71, s24_72, s24_73, s24_76, s24_77, s24_80, s24_81, s24_84, s24_85, s24_88, s24_92, s24_95, s24_96, s24_99, s24_102, s24_103, s24_106, s24_107, s24_110, s24_111, s24_114, s24_117, s24_118, s24_119, s24_122, s24_123, s24_124, s24_127, s24_130, s24_131, s24_134, s24_135, s24_138, s24_139, s24_142, s24_146, s24_149, s24_150, s24_153, s24_156, s24_157, s24_160, s24_161, s24_164, s24_165, s24_168, s24_171, s24_172, s24_173, s24_176, s24_177, s24_178, s24_181, s24_184, pH_e, pH_L, h1, nI_lt hi (show L < 2 ^ 31 by omega), if_true, tC42, nC42, show i < 200 by omega, pH_42, hi2.1, x_T_isSmall (show f i < 1000 by omega), hp, Option.bind_some, Option.toList_some, Option.toList_none, List.nil_append, List.cons_append, show ¬ nI 1 = 0 by decide, if_false, nI_add, pH_mue])
    (fun i hi hp => by
      rw [s24_91]
      rcases Nat.lt_or_ge i L with h | h
      · have hi2 := h3 i h
        have hp : isSm (f i) = false := hp.resolve_left (by omega)
        simp only [s24_0, s24_1, s24_2, s24_5, s24_9, s24_12, s24_13, s24_16, s24_19, s24_20, s24_23, s24_24, s24_27, s24_28, s24_30, s24_33, s24_34, s24_35, s24_38, s24_39, s24_40, s24_43, s24_46, s24_47, s24_48, s24_51, s24_54, s24_55, s24_58, s24_59, s24_62, s24_65, s24_66, s24_67, s24_68, s24_71, s24_72, s24_73, s24_76, s24_77, s24_80, s24_81, s24_84, s24_85, s24_88, s24_92, s24_95, s24_96, s24_99, s24_102, s24_103, s24_106, s24_107, s24_110, s24_111, s24_114, s24_117, s24_118, s24_119, s24_122, s24_123, s24_124, s24_127, s24_130, s24_131, s24_134, s24_135, s24_138, s24_139, s24_142, s24_146, s24_149, s24_150, s24_153, s24_156, s24_157, s24_160, s24_161, s24_164, s24_165, s24_168, s24_171, s24_172, s24_173, s24_176, s24_177, s24_178, s24_181, s24_184, pH_e, pH_L, h1, nI_lt h (show L < 2 ^ 31 by omega), if_true, tC42, nC42, show i < 200 by omega, pH_42, hi2.1, x_T_isSmall (show f i < 1000 by omega), hp, Option.bind_some, Option.toList_some, Option.toList_none, List.nil_append, List.cons_append, Bool.false_eq_true, if_false, nI_0, show (0 : Int32) = 0 from rfl]
      · obtain rfl : i = L := by omega
        simp only [s24_0, s24_1, s24_2, s24_5, s24_9, s24_12, s24_13, s24_16, s24_19, s24_20, s24_23, s24_24, s24_27, s24_28, s24_30, s24_33, s24_34, s24_35, s24_38, s24_39, s24_40, s24_43, s24_46, s24_47, s24_48, s24_51, s24_54, s24_55, s24_58, s24_59, s24_62, s24_65, s24_66, s24_67, s24_68, s24_71, s24_72, s24_73, s24_76, s24_77, s24_80, s24_81, s24_84, s24_85, s24_88, s24_92, s24_95, s24_96, s24_99, s24_102, s24_103, s24_106, s24_107, s24_110, s24_111, s24_114, s24_117, s24_118, s24_119, s24_122, s24_123, s24_124, s24_127, s24_130, s24_131, s24_134, s24_135, s24_138, s24_139, s24_142, s24_146, s24_149, s24_150, s24_153, s24_156, s24_157, s24_160, s24_161, s24_164, s24_165, s24_168, s24_171, s24_172, s24_173, s24_176, s24_177, s24_178, s24_181, s24_184, pH_e, pH_L, h1, nI_irr, if_false])
  have Ldg : ∀ b i, i ≤ L → ev (d + 1) 24 145 [.ref 41] [] (mk shC (pH m n F G b i v c) q) = some (none, mk shC (pH m n F G b (skw (fun i => isDg (f i)) (L - i) i) v c) q) := fun b => ev_skw (fun i => ev (d + 1) 24 145 [.ref 41] [] (mk shC (pH m n F G b i v c) q)) (fun i => some (none, mk shC (pH m n F G b i v c) q)) (fun i => isDg (f i)) L
    (fun i hi hp => by
      have hi2 := h3 i hi
      rw [s24_145]
      simp only [s24_0, s24_1, s24_2, s24_5, s24_9, s24_12, s24_13, s24_16, s24_19, s24_20, s24_23, s24_24, s24_27, s24_28, s24_30, s24_33, s24_34, s24_35, s24_38, s24_39, s24_40, s24_43, s24_46, s24_47, s24_48, s24_51, s24_54, s24_55, s24_58, s24_59, s24_62, s24_65, s24_66, s24_67, s24_68, s24_71, s24_72, s24_73, s24_76, s24_77, s24_80, s24_81, s24_84, s24_85, s24_88, s24_92, s24_95, s24_96, s24_99, s24_102, s24_103, s24_106, s24_107, s24_110, s24_111, s24_114, s24_117, s24_118, s24_119, s24_122, s24_123, s24_124, s24_127, s24_130, s24_131, s24_134, s24_135, s24_138, s24_139, s24_142, s24_146, s24_149, s24_150, s24_153, s24_156, s24_157, s24_160, s24_161, s24_164, s24_165, s24_168, s24_171, s24_172, s24_173, s24_176, s24_177, s24_178, s24_181, s24_184, pH_e, pH_L, h1, nI_lt hi (show L < 2 ^ 31 by omega), if_true, tC42, nC42, show i < 200 by omega, pH_42, hi2.1, x_T_isDigit (show f i < 1000 by omega), hp, Option.bind_some, Option.toList_some, Option.toList_none, List.nil_append, List.cons_append, show ¬ nI 1 = 0 by decide, if_false, nI_add, pH_mue])
    (fun i hi hp => by
      rw [s24_145]
      rcases Nat.lt_or_ge i L with h | h
      · have hi2 := h3 i h
        have hp : isDg (f i) = false := hp.resolve_left (by omega)
        simp only [s24_0, s24_1, s24_2, s24_5, s24_9, s24_12, s24_13, s24_16, s24_19, s24_20, s24_23, s24_24, s24_27, s24_28, s24_30, s24_33, s24_34, s24_35, s24_38, s24_39, s24_40, s24_43, s24_46, s24_47, s24_48, s24_51, s24_54, s24_55, s24_58, s24_59, s24_62, s24_65, s24_66, s24_67, s24_68, s24_71, s24_72, s24_73, s24_76, s24_77, s24_80, s24_81, s24_84, s24_85, s24_88, s24_92, s24_95, s24_96, s24_99, s24_102, s24_103, s24_106, s24_107, s24_110, s24_111, s24_114, s24_117, s24_118, s24_119, s24_122, s24_123, s24_124, s24_127, s24_130, s24_131, s24_134, s24_135, s24_138, s24_139, s24_142, s24_146, s24_149, s24_150, s24_153, s24_156, s24_157, s24_160, s24_161, s24_164, s24_165, s24_168, s24_171, s24_172, s24_173, s24_176, s24_177, s24_178, s24_181, s24_184, pH_e, pH_L, h1, nI_lt h (show L < 2 ^ 31 by omega), if_true, tC42, nC42, show i < 200 by omega, pH_42, hi2.1, x_T_isDigit (show f i < 1000 by omega), hp, Option.bind_some, Option.toList_some, Option.toList_none, List.nil_append, List.cons_append, Bool.false_eq_true, if_false, nI_0, show (0 : Int32) = 0 from rfl]
      · obtain rfl : i = L := by omega
        simp only [s24_0, s24_1, s24_2, s24_5, s24_9, s24_12, s24_13, s24_16, s24_19, s24_20, s24_23, s24_24, s24_27, s24_28, s24_30, s24_33, s24_34, s24_35, s24_38, s24_39, s24_40, s24_43, s24_46, s24_47, s24_48, s24_51, s24_54, s24_55, s24_58, s24_59, s24_62, s24_65, s24_66, s24_67, s24_68, s24_71, s24_72, s24_73, s24_76, s24_77, s24_80, s24_81, s24_84, s24_85, s24_88, s24_92, s24_95, s24_96, s24_99, s24_102, s24_103, s24_106, s24_107, s24_110, s24_111, s24_114, s24_117, s24_118, s24_119, s24_122, s24_123, s24_124, s24_127, s24_130, s24_131, s24_134, s24_135, s24_138, s24_139, s24_142, s24_146, s24_149, s24_150, s24_153, s24_156, s24_157, s24_160, s24_161, s24_164, s24_165, s24_168, s24_171, s24_172, s24_173, s24_176, s24_177, s24_178, s24_181, s24_184, pH_e, pH_L, h1, nI_irr, if_false])
  have Lbl := ev_skw (fun i => ev (d + 1) 24 8 [.ref 41] [] (mk shC (pH m n F G i e v c) q)) (fun b => some (none, mk shC (pH m n F G b (if b < L then (if isSm (f b) = true then skw (fun i => isSm (f i)) (L - (b + 1)) (b + 1) else if isDg (f b) = true then skw (fun i => isDg (f i)) (L - (b + 1)) (b + 1) else b + 1) else b) v c) q)) (fun i => f i == 32) L
    (fun i hi hp => by
      have hi2 := h3 i hi
      have hp : f i = 32 := by simpa using hp
      rw [s24_8]
      simp only [s24_0, s24_1, s24_2, s24_5, s24_9, s24_12, s24_13, s24_16, s24_19, s24_20, s24_23, s24_24, s24_27, s24_28, s24_30, s24_33, s24_34, s24_35, s24_38, s24_39, s24_40, s24_43, s24_46, s24_47, s24_48, s24_51, s24_54, s24_55, s24_58, s24_59, s24_62, s24_65, s24_66, s24_67, s24_68, s24_71, s24_72, s24_73, s24_76, s24_77, s24_80, s24_81, s24_84, s24_85, s24_88, s24_92, s24_95, s24_96, s24_99, s24_102, s24_103, s24_106, s24_107, s24_110, s24_111, s24_114, s24_117, s24_118, s24_119, s24_122, s24_123, s24_124, s24_127, s24_130, s24_131, s24_134, s24_135, s24_138, s24_139, s24_142, s24_146, s24_149, s24_150, s24_153, s24_156, s24_157, s24_160, s24_161, s24_164, s24_165, s24_168, s24_171, s24_172, s24_173, s24_176, s24_177, s24_178, s24_181, s24_184, pH_b, pH_L, h1, nI_lt hi (show L < 2 ^ 31 by omega), if_true, tC42, nC42, show i < 200 by omega, pH_42, hi2.1, hp, nI_add, pH_mub])
    (fun i hi hp => by
      rw [s24_8]
      rcases Nat.lt_or_ge i L with h | h
      · have hi2 := h3 i h
        have hp : ¬ f i = 32 := by
          have := hp.resolve_left (by omega)
          simpa using this
        simp only [s24_0, s24_1, s24_2, s24_5, s24_9, s24_12, s24_13, s24_16, s24_19, s24_20, s24_23, s24_24, s24_27, s24_28, s24_30, s24_33, s24_34, s24_35, s24_38, s24_39, s24_40, s24_43, s24_46, s24_47, s24_48, s24_51, s24_54, s24_55, s24_58, s24_59, s24_62, s24_65, s24_66, s24_67, s24_68, s24_71, s24_72, s24_73, s24_76, s24_77, s24_80, s24_81, s24_84, s24_85, s24_88, s24_92, s24_95, s24_96, s24_99, s24_102, s24_103, s24_106, s24_107, s24_110, s24_111, s24_114, s24_117, s24_118, s24_119, s24_122, s24_123, s24_124, s24_127, s24_130, s24_131, s24_134, s24_135, s24_138, s24_139, s24_142, s24_146, s24_149, s24_150, s24_153, s24_156, s24_157, s24_160, s24_161, s24_164, s24_165, s24_168, s24_171, s24_172, s24_173, s24_176, s24_177, s24_178, s24_181, s24_184, pH_b, pH_L, h1, nI_lt h (show L < 2 ^ 31 by omega), if_true, tC42, nC42, show i < 200 by omega, pH_42, hi2.1, nI_eq (show f i < 2 ^ 31 by omega) (show 32 < 2 ^ 31 by decide), hp, if_false, pH_mue, pH_e, nI_add, x_T_isSmall (show f i < 1000 by omega), x_T_isDigit (show f i < 1000 by omega), Option.bind_some, Option.toList_some, Option.toList_none, List.nil_append, List.cons_append, h]
        cases hs : isSm (f i) with
        | true =>
          simp only [if_true, show ¬ nI 1 = 0 by decide, if_false]
          exact Lsm i (i + 1) (by omega)
        | false =>
          simp only [Bool.false_eq_true, if_false, nI_0, if_true, s24_0, s24_1, s24_2, s24_5, s24_9, s24_12, s24_13, s24_16, s24_19, s24_20, s24_23, s24_24, s24_27, s24_28, s24_30, s24_33, s24_34, s24_35, s24_38, s24_39, s24_40, s24_43, s24_46, s24_47, s24_48, s24_51, s24_54, s24_55, s24_58, s24_59, s24_62, s24_65, s24_66, s24_67, s24_68, s24_71, s24_72, s24_73, s24_76, s24_77, s24_80, s24_81, s24_84, s24_85, s24_88, s24_92, s24_95, s24_96, s24_99, s24_102, s24_103, s24_106, s24_107, s24_110, s24_111, s24_114, s24_117, s24_118, s24_119, s24_122, s24_123, s24_124, s24_127, s24_130, s24_131, s24_134, s24_135, s24_138, s24_139, s24_142, s24_146, s24_149, s24_150, s24_153, s24_156, s24_157, s24_160, s24_161, s24_164, s24_165, s24_168, s24_171, s24_172, s24_173, s24_176, s24_177, s24_178, s24_181, s24_184, pH_b, pH_L, h1, tC42, nC42, show i < 200 by omega, pH_42, hi2.1, x_T_isDigit (show f i < 1000 by omega), Option.bind_some, Option.toList_some, Option.toList_none, List.nil_append, List.cons_append]
          cases hd : isDg (f i) with
          | true =>
            simp only [if_true, show ¬ nI 1 = 0 by decide, if_false]
            exact Ldg i (i + 1) (by omega)
          | false => simp only [Bool.false_eq_true, if_false, nI_0, if_true]
      · obtain rfl : i = L := by omega
        simp only [s24_0, s24_1, s24_2, s24_5, s24_9, s24_12, s24_13, s24_16, s24_19, s24_20, s24_23, s24_24, s24_27, s24_28, s24_30, s24_33, s24_34, s24_35, s24_38, s24_39, s24_40, s24_43, s24_46, s24_47, s24_48, s24_51, s24_54, s24_55, s24_58, s24_59, s24_62, s24_65, s24_66, s24_67, s24_68, s24_71, s24_72, s24_73, s24_76, s24_77, s24_80, s24_81, s24_84, s24_85, s24_88, s24_92, s24_95, s24_96, s24_99, s24_102, s24_103, s24_106, s24_107, s24_110, s24_111, s24_114, s24_117, s24_118, s24_119, s24_122, s24_123, s24_124, s24_127, s24_130, s24_131, s24_134, s24_135, s24_138, s24_139, s24_142, s24_146, s24_149, s24_150, s24_153, s24_156, s24_157, s24_160, s24_161, s24_164, s24_165, s24_168, s24_171, s24_172, s24_173, s24_176, s24_177, s24_178, s24_181, s24_184, pH_b, pH_L, h1, nI_irr, if_false, pH_mue, if_true, Nat.lt_irrefl]) e he
  simp only [s24_0, s24_1, s24_2, s24_5, s24_9, s24_12, s24_13, s24_16, s24_19, s24_20, s24_23, s24_24, s24_27, s24_28, s24_30, s24_33, s24_34, s24_35, s24_38, s24_39, s24_40, s24_43, s24_46, s24_47, s24_48, s24_51, s24_54, s24_55, s24_58, s24_59, s24_62, s24_65, s24_66, s24_67, s24_68, s24_71, s24_72, s24_73, s24_76, s24_77, s24_80, s24_81, s24_84, s24_85, s24_88, s24_92, s24_95, s24_96, s24_99, s24_102, s24_103, s24_106, s24_107, s24_110, s24_111, s24_114, s24_117, s24_118, s24_119, s24_122, s24_123, s24_124, s24_127, s24_130, s24_131, s24_134, s24_135, s24_138, s24_139, s24_142, s24_146, s24_149, s24_150, s24_153, s24_156, s24_157, s24_160, s24_161, s24_164, s24_165, s24_168, s24_171, s24_172, s24_173, s24_176, s24_177, s24_178, s24_181, s24_184, pH_e, pH_mub]
  refine Lbl.trans ?_
  unfold tok
  dsimp only
  split <;> rfl
