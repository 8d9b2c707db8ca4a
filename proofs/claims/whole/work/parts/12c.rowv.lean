/-! what a row of vectors holds -/
theorem nI_md' {a : Nat} : nI a - nI (a / 32) * nI 32 = nI (a % 32) := by
  rw [pk_mul, nI_sub (by omega)]
  congr 1
  omega
theorem and_pw {W r : Nat} : (W &&& 2 ^ r = 0) = (W.testBit r = false) := by
  apply propext
  constructor
  · intro h
    have := congrArg (fun x => x.testBit r) h
    simpa [Nat.testBit_and, Nat.testBit_two_pow] using this
  · intro h
    apply Nat.eq_of_testBit_eq
    intro i
    rw [Nat.testBit_and, Nat.testBit_two_pow, Nat.zero_testBit]
    by_cases hi : r = i
    · rw [← hi, h, Bool.false_and]
    · simp [hi]
def sm3 (a : Nat) (m m' : Mem) : Prop := ∀ c, c ≠ a → c ≠ a + 1 → c ≠ a + 2 → m' c = m c
theorem sm3_rfl {a : Nat} {m : Mem} : sm3 a m m := fun _ _ _ _ => rfl
theorem sm3_tr {a : Nat} {m m' m'' : Mem} (h : sm3 a m m') (h2 : sm3 a m' m'') : sm3 a m m'' := fun c h1 h3 h4 => (h2 c h1 h3 h4).trans (h c h1 h3 h4)
def WR (m : Mem) (a : Nat) (l : List Nat) : Prop := m a 2 = nI l.length ∧ l.length ≤ 729 ∧ l.Nodup ∧ (∀ k ∈ l, k < 4096) ∧ (∀ i (h : i < l.length), m (a + 1) i = nI l[i]) ∧ ∃ W : Nat → Nat, (∀ w, w < 128 → m (a + 2) w = nI (W w) ∧ W w < 2 ^ 32) ∧ ∀ k, k < 4096 → (W (k / 32)).testBit (k % 32) = decide (k ∈ l)
def insK (l : List Nat) (k : Nat) : List Nat := if k ∈ l ∨ 729 ≤ l.length then l else l ++ [k]
theorem x_W_clear {d a : Nat} {m : Mem} {q : MemJ} (ho : oC8 a) : ∃ m', ev (d + 1) 97 0 [.ref a] [] (mk shC m q) = some (none, mk shC m' q) ∧ WR m' a [] ∧ sm3 a m m' := by
  obtain ⟨f, hf, e⟩ := x_Y_fill (d := d) (x := nI 0) (m := mu m a (upd (m a) 2 (nI 0))) (q := q) (oC8_t2 ho) (oC8_n2 ho) (by decide)
  refine ⟨mu (mu m a (upd (m a) 2 (nI 0))) (a + 2) f, by simp only [s97_0, s97_1, s97_2, s97_5, s97_6, s97_9, s97_10, s97_13, ho, e, Option.bind_some, Option.toList_some, Option.toList_none, List.nil_append, List.cons_append], ?_, ?_⟩
  · refine ⟨by rw [mu_ne (by omega), mu_same]; simp [upd], by simp, by simp, by simp, fun i h => absurd h (by simp), fun _ => 0, ?_, ?_⟩
    · intro w hw
      rw [mu_same, hf w hw]
      exact ⟨rfl, Nat.two_pow_pos 32⟩
    · intro k _
      simp
  · intro c h1 h2 h3
    rw [mu_ne h3, mu_ne h1]
theorem x_W_insert {d a k : Nat} {m : Mem} {q : MemJ} {l : List Nat} (ho : oC8 a) (hw : WR m a l) (hk : k < 4096) : ∃ m', ev d 103 0 [.ref a, .int (nI k), .null] [] (mk shC m q) = some (none, mk shC m' q) ∧ WR m' a (insK l k) ∧ sm3 a m m' := by
  obtain ⟨h1, h2, h3, h4, h5, W, h6, h7⟩ := id hw
  have w6 := h6 (k / 32) (by omega)
  have e0 : nI (W (k / 32)) &&& nI (1 * 2 ^ (k % 32)) = nI (W (k / 32) &&& 2 ^ (k % 32)) := by rw [nI_and, Nat.one_mul]
  have hlt : W (k / 32) &&& 2 ^ (k % 32) < 2 ^ 32 := Nat.lt_of_le_of_lt Nat.and_le_left w6.2
  have ez : (W (k / 32) &&& 2 ^ (k % 32) = 0) = ¬ k ∈ l := by
    rw [and_pw, h7 k hk]
    simp
  have A : ev d 103 0 [.ref a, .int (nI k), .null] [] (mk shC m q) = if ¬ k ∈ l ∧ l.length < 729 then some (none, mk shC (mu (mu (mu m (a + 2) (upd (m (a + 2)) (k / 32) (nI (W (k / 32) ||| 2 ^ (k % 32))))) (a + 1) (upd (m (a + 1)) l.length (nI k))) a (upd (m a) 2 (nI (l.length + 1)))) q) else some (none, mk shC m q) := by
    simp only [s103_0, s103_1, s103_2, s103_4, s103_5, s103_6, s103_7, s103_8, s103_11, s103_12, s103_14, s103_15, s103_16, s103_17, s103_18, s103_21, s103_22, s103_25, s103_28, s103_31, s103_32, s103_35, s103_36, s103_38, s103_39, s103_40, s103_41, s103_42, s103_43, s103_44, s103_45, s103_48, s103_49, s103_52, s103_53, s103_54, s103_55, s103_56, s103_59, s103_60, s103_61, s103_64, show ¬ nI 32 = 0 by decide, not_false_eq_true, nI_md', nI_shl (show k % 32 < 32 by omega), ho, oC8_t1 ho, oC8_t2 ho, oC8_n1 ho, oC8_n2 ho, nI_div (show k < 2 ^ 31 by omega) (show 32 < 2 ^ 31 by decide), show k / 32 < 128 by omega, w6.1, e0, nI_z32 hlt, ez]
    by_cases hm : k ∈ l
    · simp only [hm, not_true, if_false, false_and, s103_0, s103_1, s103_2, s103_4, s103_5, s103_6, s103_7, s103_8, s103_11, s103_12, s103_14, s103_15, s103_16, s103_17, s103_18, s103_21, s103_22, s103_25, s103_28, s103_31, s103_32, s103_35, s103_36, s103_38, s103_39, s103_40, s103_41, s103_42, s103_43, s103_44, s103_45, s103_48, s103_49, s103_52, s103_53, s103_54, s103_55, s103_56, s103_59, s103_60, s103_61, s103_64]
    · simp only [hm, not_false_eq_true, if_true, true_and, h1, nI_ltI (show l.length < 2 ^ 31 by omega) (show 729 < 2 ^ 31 by decide)]
      by_cases h9 : l.length < 729
      · simp only [h9, if_true, s103_0, s103_1, s103_2, s103_4, s103_5, s103_6, s103_7, s103_8, s103_11, s103_12, s103_14, s103_15, s103_16, s103_17, s103_18, s103_21, s103_22, s103_25, s103_28, s103_31, s103_32, s103_35, s103_36, s103_38, s103_39, s103_40, s103_41, s103_42, s103_43, s103_44, s103_45, s103_48, s103_49, s103_52, s103_53, s103_54, s103_55, s103_56, s103_59, s103_60, s103_61, s103_64, show ¬ nI 32 = 0 by decide, not_false_eq_true, ho, oC8_t1 ho, oC8_t2 ho, oC8_n1 ho, oC8_n2 ho, nI_div (show k < 2 ^ 31 by omega) (show 32 < 2 ^ 31 by decide), show k / 32 < 128 by omega, w6.1, nI_or, Nat.one_mul, mu_ne (show a ≠ a + 2 by omega), mu_ne (show a + 1 ≠ a + 2 by omega), mu_ne (show a ≠ a + 1 by omega), h1, nI_add]
      · simp only [h9, if_false]
  rw [A]
  by_cases hc : ¬ k ∈ l ∧ l.length < 729
  · rw [if_pos hc]
    have hins : insK l k = l ++ [k] := if_neg (by rintro (h | h); exact hc.1 h; omega)
    refine ⟨_, rfl, ?_, ?_⟩
    · rw [hins]
      refine ⟨?_, by simp; omega, ?_, ?_, ?_, fun w => if w = k / 32 then W w ||| 2 ^ (k % 32) else W w, ?_, ?_⟩
      · rw [mu_same]; simp [upd]
      · rw [List.nodup_append]
        exact ⟨h3, by simp, fun x hx y hy => by
          have : y = k := by simpa using hy
          intro e
          exact hc.1 (this ▸ e ▸ hx)⟩
      · intro x hx
        rcases List.mem_append.mp hx with h | h
        · exact h4 x h
        · have : x = k := by simpa using h
          omega
      · intro i hi
        rw [mu_ne (by omega), mu_same]
        simp only [upd]
        by_cases hil : i = l.length
        · subst hil
          simp
        · have : i < l.length := by simp at hi; omega
          rw [if_neg hil, h5 i this, List.getElem_append_left this]
      · intro w hw
        rw [mu_ne (by omega), mu_ne (by omega), mu_same]
        simp only [upd]
        by_cases hwk : w = k / 32
        · rw [if_pos hwk, if_pos hwk, hwk]
          exact ⟨rfl, Nat.or_lt_two_pow w6.2 (Nat.pow_lt_pow_right (by decide) (by omega))⟩
        · rw [if_neg hwk, if_neg hwk]
          exact h6 w hw
      · intro x hx
        by_cases hxk : x / 32 = k / 32
        · simp only [if_pos hxk, Nat.testBit_or, h7 x hx, Nat.testBit_two_pow]
          by_cases hx2 : k % 32 = x % 32
          · have : x = k := by omega
            simp [this]
          · have : ¬ x = k := by omega
            simp [hx2, this]
        · have : ¬ x = k := by intro e; exact hxk (by rw [e])
          simp [if_neg hxk, h7 x hx, this]
    · intro c c1 c2 c3
      rw [mu_ne c1, mu_ne c2, mu_ne c3]
  · rw [if_neg hc]
    have hins : insK l k = l := if_pos (by by_cases h : k ∈ l; exact Or.inl h; exact Or.inr (Nat.le_of_not_lt fun h2 => hc ⟨h, h2⟩))
    exact ⟨m, rfl, by rw [hins]; exact hw, sm3_rfl⟩
/-! sorting, and finding -/
/-- from the greatest -/
def dsc : Nat → List Nat
  | 0 => []
  | n + 1 => n :: dsc n
theorem dsc_mem {n x : Nat} : x ∈ dsc n ↔ x < n := by
  induction n with
  | zero => simp [dsc]
  | succ n ih => simp only [dsc, List.mem_cons, ih]; omega
theorem dsc_nd : ∀ {n : Nat}, (dsc n).Nodup
  | 0 => by simp [dsc]
  | n + 1 => by
    rw [dsc, List.nodup_cons]
    exact ⟨fun h => absurd (dsc_mem.mp h) (Nat.lt_irrefl n), dsc_nd⟩
def srt (l : List Nat) : List Nat := (dsc 4096).filter fun k => decide (k ∈ l)
theorem srt_mem {l : List Nat} (h : ∀ k ∈ l, k < 4096) {k : Nat} : k ∈ srt l ↔ k ∈ l := by
  simp only [srt, List.mem_filter, dsc_mem, decide_eq_true_eq]
  exact ⟨fun x => x.2, fun x => ⟨h k x, x⟩⟩
theorem srt_nd {l : List Nat} : (srt l).Nodup := List.Pairwise.filter _ dsc_nd
theorem nd_len : ∀ {l l2 : List Nat}, l.Nodup → (∀ x ∈ l, x ∈ l2) → l.length ≤ l2.length
  | [], _, _, _ => by simp
  | a :: l, l2, h, hs => by
    rw [List.nodup_cons] at h
    have ha := hs a List.mem_cons_self
    have := nd_len (l := l) (l2 := l2.erase a) h.2 (fun x hx => (List.mem_erase_of_ne (fun (e : x = a) => h.1 (by rw [← e]; exact hx))).mpr (hs x (List.mem_cons_of_mem _ hx)))
    rw [List.length_erase_of_mem ha] at this
    have := List.length_pos_of_mem ha
    simp only [List.length_cons]
    omega
theorem srt_len {l : List Nat} (h : ∀ k ∈ l, k < 4096) (hn : l.Nodup) : (srt l).length = l.length := Nat.le_antisymm (nd_len srt_nd fun _ hx => (srt_mem h).mp hx) (nd_len hn fun _ hx => (srt_mem h).mpr hx)
