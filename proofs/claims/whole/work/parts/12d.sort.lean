/-! a row of vectors is sorted -/
def upL (n : Nat) (p : Nat → Bool) : Nat → List Nat
  | 0 => []
  | j + 1 => upL n p j ++ if p (n - 1 - j) = true then [n - 1 - j] else []
theorem upL_dsc {n : Nat} {p : Nat → Bool} : ∀ {j : Nat}, j ≤ n → upL n p j ++ (dsc (n - j)).filter p = (dsc n).filter p
  | 0, _ => by simp [upL]
  | j + 1, h => by
    have := upL_dsc (n := n) (p := p) (j := j) (by omega)
    rw [← this, upL, List.append_assoc]
    congr 1
    rw [show n - j = (n - 1 - j) + 1 by omega, dsc, List.filter_cons, show n - (j + 1) = n - 1 - j by omega]
    split <;> simp
theorem upL_mem {n : Nat} {p : Nat → Bool} : ∀ {j x : Nat}, j ≤ n → x ∈ upL n p j → n - j ≤ x ∧ x < n ∧ p x = true
  | 0, x, _, h => by simp [upL] at h
  | j + 1, x, hj, h => by
    rw [upL, List.mem_append] at h
    rcases h with h | h
    · have := upL_mem (by omega) h
      exact ⟨by omega, this.2⟩
    · split at h
      · next hp =>
        obtain rfl : x = n - 1 - j := by simpa using h
        exact ⟨by omega, by omega, hp⟩
      · simp at h
theorem upL_nd {n : Nat} {p : Nat → Bool} : ∀ {j : Nat}, j ≤ n → (upL n p j).Nodup
  | 0, _ => by simp [upL]
  | j + 1, hj => by
    rw [upL, List.nodup_append]
    refine ⟨upL_nd (by omega), by split <;> simp, fun x hx y hy => ?_⟩
    have h1 := upL_mem (by omega) hx
    split at hy
    · have : y = n - 1 - j := by simpa using hy
      omega
    · simp at hy
theorem upL_skip {n : Nat} {p : Nat → Bool} {j : Nat} : ∀ {k : Nat}, (∀ i, i < k → p (n - 1 - (j + i)) = false) → upL n p (j + k) = upL n p j
  | 0, _ => rfl
  | k + 1, h => by
    rw [← Nat.add_assoc, upL, upL_skip (fun i hi => h i (by omega)), h k (by omega)]
    simp
def wrt (f : Nat → Int32) (u : List Nat) : Nat → Int32 := fun i => match u[i]? with
  | some x => nI x
  | none => f i
theorem wrt_sn {f : Nat → Int32} {u : List Nat} {x : Nat} : upd (wrt f u) u.length (nI x) = wrt f (u ++ [x]) := by
  funext i
  simp only [upd, wrt]
  by_cases h : i = u.length
  · subst h
    simp
  · rw [if_neg h]
    by_cases h2 : i < u.length
    · rw [List.getElem?_append_left h2]
    · rw [List.getElem?_eq_none (by omega), List.getElem?_eq_none (by simp; omega)]
theorem nI_dec (b : Nat) : nI (b + 1) + (-1) = nI b := by
  rw [nI_neg1, nI_add, ← nI_md]
  rw [show (b + 1 + 4294967295) % 2 ^ 32 = b % 2 ^ 32 by omega, nI_md]
theorem x_W_sort {d a : Nat} {m : Mem} {q : MemJ} {l : List Nat} (ho : oC8 a) (hw : WR m a l) : ∃ m', ev d 105 0 [.ref a, .null, .null, .null] [] (mk shC m q) = some (none, mk shC m' q) ∧ WR m' a (srt l) ∧ sm3 a m m' := by
  obtain ⟨h1, h2, h3, h4, h5, W, h6, h7⟩ := id hw
  generalize hp : (fun k => decide (k ∈ l)) = p at *
  have hp' : ∀ k, p k = decide (k ∈ l) := fun k => by rw [← hp]
  have hll : ∀ {j}, j ≤ 4096 → (upL 4096 p j).length ≤ l.length := fun {j} hj => nd_len (upL_nd hj) fun x hx => by
    have := (upL_mem hj hx).2.2
    rw [hp'] at this
    simpa using this
  have hmu : ∀ f w, w < 128 → mu m (a + 1) f (a + 2) w = nI (W w) := fun f w hw => by rw [mu_ne (by omega)]; exact (h6 w hw).1
  have h1' : ∀ f, mu m (a + 1) f a 2 = nI l.length := fun f => by rw [mu_ne (by omega)]; exact h1
  have In : ∀ w, w < 128 → ∀ b, b ≤ 32 → ∃ v : Int32, ev d 105 12 [.ref a, .int (nI (upL 4096 p (4096 - (32 * w + b))).length), .int (nI w), .int (nI b + (-1))] [] (mk shC (mu m (a + 1) (wrt (m (a + 1)) (upL 4096 p (4096 - (32 * w + b))))) q) = ev d 105 67 [.ref a, .int (nI (upL 4096 p (4096 - 32 * w)).length), .int (nI w), .int v] [] (mk shC (mu m (a + 1) (wrt (m (a + 1)) (upL 4096 p (4096 - 32 * w)))) q) := by
    intro w hw' b
    have w6 := h6 w hw'
    induction b with
    | zero =>
      intro _
      refine ⟨nI 0 + (-1), ?_⟩
      rw [s105_12]
      simp only [s105_0, s105_1, s105_2, s105_4, s105_6, s105_9, s105_11, s105_13, s105_16, s105_17, s105_20, s105_21, s105_22, s105_25, s105_26, s105_29, s105_30, s105_31, s105_32, s105_33, s105_34, s105_35, s105_38, s105_39, s105_40, s105_43, s105_46, s105_47, s105_50, s105_51, s105_52, s105_54, s105_55, s105_56, s105_57, s105_58, s105_61, s105_64, s105_67, s105_70, s105_73, show nI 0 + (-1) < 0 by decide, if_true, Nat.add_zero]
    | succ b ih =>
      intro hb
      obtain ⟨v, hv⟩ := ih (by omega)
      by_cases hW : W w = 0
      · refine ⟨nI b, ?_⟩
        have sk : upL 4096 p (4096 - 32 * w) = upL 4096 p (4096 - (32 * w + (b + 1))) := by
          rw [show 4096 - 32 * w = (4096 - (32 * w + (b + 1))) + (b + 1) by omega]
          apply upL_skip
          intro i hi
          have hk : 4096 - 1 - (4096 - (32 * w + (b + 1)) + i) = 32 * w + (b - i) := by omega
          have := h7 (32 * w + (b - i)) (by omega)
          rw [show (32 * w + (b - i)) / 32 = w by omega, hW, Nat.zero_testBit] at this
          rw [hk, hp', ← this]
        rw [s105_12]
        simp only [nI_dec, show ¬ nI b < 0 by rw [show (0 : Int32) = nI 0 from rfl, nI_ltI (by omega) (by decide)]; omega, if_false, s105_0, s105_1, s105_2, s105_4, s105_6, s105_9, s105_11, s105_13, s105_16, s105_17, s105_20, s105_21, s105_22, s105_25, s105_26, s105_29, s105_30, s105_31, s105_32, s105_33, s105_34, s105_35, s105_38, s105_39, s105_40, s105_43, s105_46, s105_47, s105_50, s105_51, s105_52, s105_54, s105_55, s105_56, s105_57, s105_58, s105_61, s105_64, s105_67, s105_70, s105_73, ho, oC8_t2 ho, oC8_n2 ho, hw', hmu _ w hw', hW, nI00, if_true, sk]
      · have e0 : nI (W w) &&& nI (1 * 2 ^ b) = nI (W w &&& 2 ^ b) := by rw [nI_and, Nat.one_mul]
        have hlt : W w &&& 2 ^ b < 2 ^ 32 := Nat.lt_of_le_of_lt Nat.and_le_left w6.2
        have ez : (W w &&& 2 ^ b = 0) = ¬ p (32 * w + b) = true := by
          have := h7 (32 * w + b) (by omega)
          rw [show (32 * w + b) / 32 = w by omega, show (32 * w + b) % 32 = b by omega] at this
          rw [and_pw, this, hp']
          simp
        have ej : 4096 - (32 * w + b) = (4096 - (32 * w + (b + 1))) + 1 := by omega
        have ex : 4096 - 1 - (4096 - (32 * w + (b + 1))) = 32 * w + b := by omega
        refine ⟨v, ?_⟩
        rw [← hv, s105_12, ej, upL, ex]
        have hlw : (nI (W w) = 0) = False := eq_false (by rw [nI_z32 w6.2]; exact hW)
        simp only [nI_dec, show ¬ nI b < 0 by rw [show (0 : Int32) = nI 0 from rfl, nI_ltI (by omega) (by decide)]; omega, if_false, s105_0, s105_1, s105_2, s105_4, s105_6, s105_9, s105_11, s105_13, s105_16, s105_17, s105_20, s105_21, s105_22, s105_25, s105_26, s105_29, s105_30, s105_31, s105_32, s105_33, s105_34, s105_35, s105_38, s105_39, s105_40, s105_43, s105_46, s105_47, s105_50, s105_51, s105_52, s105_54, s105_55, s105_56, s105_57, s105_58, s105_61, s105_64, s105_67, s105_70, s105_73, ho, oC8_t1 ho, oC8_n1 ho, oC8_t2 ho, oC8_n2 ho, hw', hmu _ w hw', hlw, nI_shl (show b < 32 by omega), e0, nI_z32 hlt, ez]
        cases hpx : p (32 * w + b) with
        | true =>
          have hle := hll (j := 4096 - (32 * w + (b + 1)) + 1) (by omega)
          rw [upL, ex, hpx, if_pos rfl, List.length_append, List.length_singleton] at hle
          simp only [not_true, if_true, if_false, s105_0, s105_1, s105_2, s105_4, s105_6, s105_9, s105_11, s105_13, s105_16, s105_17, s105_20, s105_21, s105_22, s105_25, s105_26, s105_29, s105_30, s105_31, s105_32, s105_33, s105_34, s105_35, s105_38, s105_39, s105_40, s105_43, s105_46, s105_47, s105_50, s105_51, s105_52, s105_54, s105_55, s105_56, s105_57, s105_58, s105_61, s105_64, s105_67, s105_70, s105_73, ho, h1', nI_lt (show (upL 4096 p (4096 - (32 * w + (b + 1)))).length < l.length by omega) (show l.length < 2 ^ 31 by omega), oC8_t1 ho, oC8_n1 ho, show (upL 4096 p (4096 - (32 * w + (b + 1)))).length < 729 by omega, pk_mul, nI_add, mu_same, mu_mu, show w * 32 + b = 32 * w + b by omega, wrt_sn, List.length_append, List.length_singleton]
        | false => simp only [Bool.false_eq_true, not_false_eq_true, if_true, if_false, s105_0, s105_1, s105_2, s105_4, s105_6, s105_9, s105_11, s105_13, s105_16, s105_17, s105_20, s105_21, s105_22, s105_25, s105_26, s105_29, s105_30, s105_31, s105_32, s105_33, s105_34, s105_35, s105_38, s105_39, s105_40, s105_43, s105_46, s105_47, s105_50, s105_51, s105_52, s105_54, s105_55, s105_56, s105_57, s105_58, s105_61, s105_64, s105_67, s105_70, s105_73, List.append_nil]
  have Out : ∀ w, w ≤ 128 → ∀ v, ev d 105 5 [.ref a, .int (nI (upL 4096 p (4096 - 32 * w)).length), .int (nI w + (-1)), v] [] (mk shC (mu m (a + 1) (wrt (m (a + 1)) (upL 4096 p (4096 - 32 * w)))) q) = some (none, mk shC (mu m (a + 1) (wrt (m (a + 1)) (upL 4096 p 4096))) q) := by
    intro w
    induction w with
    | zero =>
      intro _ v
      rw [s105_5]
      simp only [show nI 0 + (-1) < 0 by decide, if_true, s105_0, s105_1, s105_2, s105_4, s105_6, s105_9, s105_11, s105_13, s105_16, s105_17, s105_20, s105_21, s105_22, s105_25, s105_26, s105_29, s105_30, s105_31, s105_32, s105_33, s105_34, s105_35, s105_38, s105_39, s105_40, s105_43, s105_46, s105_47, s105_50, s105_51, s105_52, s105_54, s105_55, s105_56, s105_57, s105_58, s105_61, s105_64, s105_67, s105_70, s105_73, Nat.mul_zero, Nat.sub_zero]
    | succ w ih =>
      intro hw' v
      obtain ⟨v2, hv⟩ := In w (by omega) 32 (by omega)
      rw [s105_5]
      simp only [nI_dec, show ¬ nI w < 0 by rw [show (0 : Int32) = nI 0 from rfl, nI_ltI (by omega) (by decide)]; omega, if_false, s105_0, s105_1, s105_2, s105_4, s105_6, s105_9, s105_11, s105_13, s105_16, s105_17, s105_20, s105_21, s105_22, s105_25, s105_26, s105_29, s105_30, s105_31, s105_32, s105_33, s105_34, s105_35, s105_38, s105_39, s105_40, s105_43, s105_46, s105_47, s105_50, s105_51, s105_52, s105_54, s105_55, s105_56, s105_57, s105_58, s105_61, s105_64, s105_67, s105_70, s105_73]
      rw [show 32 * (w + 1) = 32 * w + 32 by omega, ← show nI 32 + (-1) = nI 31 from nI_dec 31, hv]
      simp only [s105_0, s105_1, s105_2, s105_4, s105_6, s105_9, s105_11, s105_13, s105_16, s105_17, s105_20, s105_21, s105_22, s105_25, s105_26, s105_29, s105_30, s105_31, s105_32, s105_33, s105_34, s105_35, s105_38, s105_39, s105_40, s105_43, s105_46, s105_47, s105_50, s105_51, s105_52, s105_54, s105_55, s105_56, s105_57, s105_58, s105_61, s105_64, s105_67, s105_70, s105_73]
      exact ih (by omega) (.int v2)
  have fin : upL 4096 p 4096 = srt l := by
    have := upL_dsc (n := 4096) (p := p) (j := 4096) (by omega)
    rw [Nat.sub_self, dsc, List.filter_nil, List.append_nil] at this
    rw [this, srt, hp]
  refine ⟨mu m (a + 1) (wrt (m (a + 1)) (srt l)), ?_, ?_, ?_⟩
  · have O := Out 128 (by omega) .null
    rw [show 4096 - 32 * 128 = 0 from rfl, show upL 4096 p 0 = [] from rfl, List.length_nil, fin] at O
    simp only [s105_0, s105_1, s105_2, s105_4, s105_6, s105_9, s105_11, s105_13, s105_16, s105_17, s105_20, s105_21, s105_22, s105_25, s105_26, s105_29, s105_30, s105_31, s105_32, s105_33, s105_34, s105_35, s105_38, s105_39, s105_40, s105_43, s105_46, s105_47, s105_50, s105_51, s105_52, s105_54, s105_55, s105_56, s105_57, s105_58, s105_61, s105_64, s105_67, s105_70, s105_73]
    rw [← show nI 128 + (-1) = nI 127 from nI_dec 127, ← O, show wrt (m (a + 1)) [] = m (a + 1) from rfl, mu_self]
  · have hl := srt_len h4 h3
    refine ⟨?_, by omega, srt_nd, fun k hk => h4 k ((srt_mem h4).mp hk), ?_, W, ?_, ?_⟩
    · rw [mu_ne (by omega), hl]; exact h1
    · intro i hi
      rw [mu_same, wrt, List.getElem?_eq_getElem hi]
    · intro w hw'
      rw [mu_ne (by omega)]
      exact h6 w hw'
    · intro k hk
      rw [h7 k hk]
      simp only [srt_mem h4]
  · intro c c1 c2 c3
    rw [mu_ne c2]
