/-! in how many ways one more: the class's sum -/
def exP (n a b : Nat) : List (Nat × Nat) := ((rg b n).map fun y => (a, y)) ++ ((rg (a + 1) n).flatMap fun x => (rg (x + 1) n).map fun y => (x, y))
def exC (n : Nat) (R F : Nat → Int32) (V : exW) (l : List (Nat × Nat)) : Prop := AI F ∧ (∀ x y z, x < y → y < z → z < n → F (i6 x y z) = mS R x y z) ∧ ∀ x y, x < y → y < n → ¬ (x, y) ∈ l → F (i6 x y n) = V x y
section
variable {a b c d e n x y z k f : Nat} {F G R : Nat → Int32} {V : exW} {l : List (Nat × Nat)} {p : Nat × Nat} {s : Int32}
theorem exP_0 (h : 1 ≤ n) : prs n = exP n 0 1 := by
  unfold prs exP
  rw [rg_cons (show 0 < n by omega), List.flatMap_cons]
theorem exP_b (h : b < n) : exP n a b = (a, b) :: exP n a (b + 1) := by
  unfold exP
  rw [rg_cons h, List.map_cons, List.cons_append]
theorem rg_nil (h : n ≤ a) : rg a n = [] := by simp [rg, Nat.sub_eq_zero_of_le h]
theorem exP_a (h : n ≤ b) (h2 : a + 1 < n) : exP n a b = exP n (a + 1) (a + 2) := by
  unfold exP
  rw [rg_nil h, List.map_nil, List.nil_append, rg_cons h2, List.flatMap_cons]
theorem exP_e (h : n ≤ b) (h2 : n ≤ a + 1) : exP n a b = [] := by
  unfold exP
  rw [rg_nil h, rg_nil h2]
  rfl
theorem exP_m (h : (x, y) ∈ exP n a b) (hab : a < b) : a ≤ x ∧ x < y ∧ y < n := by
  unfold exP at h
  rcases List.mem_append.mp h with h | h
  · obtain ⟨y', hy, e⟩ := List.mem_map.mp h
    have hy := rg_mem.mp hy
    simp only [Prod.mk.injEq] at e
    omega
  · obtain ⟨x', hx, h⟩ := List.mem_flatMap.mp h
    obtain ⟨y', hy, e⟩ := List.mem_map.mp h
    have hx := rg_mem.mp hx
    have hy := rg_mem.mp hy
    simp only [Prod.mk.injEq] at e
    omega
theorem sg6_s (hab : a < b) (hbn : b < n) (hn : n < 6) (hxy : x < y) (hyz : y < z) (hz : z < 6) : sg6 F a b n s (i6 x y z) = if x = a ∧ y = b ∧ z = n then s else F (i6 x y z) := by
  rw [sg6_at (by omega) (by omega) hn (by omega) (by omega) (by omega) hz (by omega)]
  by_cases h : x = a ∧ y = b ∧ z = n
  · rw [if_pos h, if_pos ((pT_i hab hbn hn hxy hyz hz).mpr h), tO_1 hab hbn, tO_1 hxy hyz]
    rw [show s * nI 1 = s from Int32.mul_one s, show nI 1 * s = s from Int32.one_mul s]
  · rw [if_neg h, if_neg fun h' => h ((pT_i hab hbn hn hxy hyz hz).mp h')]
theorem exC_s (hn : n < 6) (h : exC n R F V (p :: l)) (hp : p.1 < p.2 ∧ p.2 < n) (hs : isSg s) : exC n R (sg6 F p.1 p.2 n s) (exV V p s) l := by
  obtain ⟨h1, h2, h3⟩ := h
  refine ⟨AI_sg h1 hs (by omega) (by omega) hn (by omega), fun x y z g1 g2 g3 => ?_, fun x y g1 g2 g3 => ?_⟩
  · rw [sg6_s hp.1 hp.2 hn g1 g2 (by omega), if_neg (by omega)]
    exact h2 x y z g1 g2 g3
  · rw [sg6_s hp.1 hp.2 hn g1 g2 hn]
    unfold exV
    by_cases k : (x, y) = p
    · rw [if_pos k, if_pos ⟨congrArg Prod.fst k, congrArg Prod.snd k, rfl⟩]
    · rw [if_neg k, if_neg (fun h => k (Prod.ext h.1 h.2.1))]
      exact h3 x y g1 g2 fun h => (List.mem_cons.mp h).elim k g3
theorem exC_b (h : exC n R F (exV V p s) l) : exC n R F V (p :: l) := ⟨h.1, h.2.1, fun x y g1 g2 g3 => by
  rw [List.mem_cons, not_or] at g3
  rw [h.2.2 x y g1 g2 g3.2]
  unfold exV
  rw [if_neg g3.1]⟩
theorem exC_l (hn : n < 6) (h : exC n R F V []) : orO (n + 1) F = orM (n + 1) (exRV n R V) := by
  obtain ⟨h1, h2, h3⟩ := h
  obtain ⟨k0, k1⟩ := exRV_at (R := R) (V := V) hn
  refine or_eq (G := fun k => mco (exRV n R V) (k / 3) (k % 3)) (AR_rise k0 (by omega) h1.2.1 (fun a b c g1 g2 g3 => ?_) fun e i _ hi => ?_) h1 (by omega)
  · rw [k1 a b c g1 g2 (by omega)]
    by_cases k : c = n
    · rw [if_pos k, k]
      exact h3 a b g1 (by omega) (by simp)
    · rw [if_neg k]
      exact h2 a b c g1 g2 (by omega)
  · show mco _ ((e * 3 + i) / 3) ((e * 3 + i) % 3) = _
    rw [show (e * 3 + i) / 3 = e by omega, show (e * 3 + i) % 3 = i by omega]
theorem pT_in : ∀ a, a < 6 → ∀ y, y < 6 → ∀ z, z < 6 → ((trip 6).all fun t => (!dis3 a y z || (!decide (pT a y z = pT t.1 t.2.1 t.2.2) || decide (a = t.1 ∨ a = t.2.1 ∨ a = t.2.2)))) = true := by decide +kernel
theorem bd_sg (hn : n < 6) (h1 : a < p.1) (h2 : p.1 < p.2) (h3 : p.2 < n) : bdF (n + 1) (sg6 F p.1 p.2 n s) a (a + 1) = bdF (n + 1) F a (a + 1) := by
  have k : ∀ y z, y < 6 → z < 6 → sg6 F p.1 p.2 n s (i6 a y z) = F (i6 a y z) := fun y z hy hz => by
    by_cases hd : a = y ∨ a = z ∨ y = z
    · exact sg6_dg (by omega) (by omega) hn (by omega) (by omega) hy hz hd
    · rw [sg6_at (by omega) (by omega) hn (by omega) (by omega) hy hz hd, if_neg]
      intro e
      -- the same place: a among the three
      have m := List.all_eq_true.mp (pT_in a (by omega) y hy z hz) (p.1, p.2, n) (trip_mem.mpr ⟨h2, h3, by omega⟩)
      rw [dis3_t.mpr hd, decide_eq_true (show pT a y z = pT (p.1, p.2, n).1 (p.1, p.2, n).2.1 (p.1, p.2, n).2.2 from e), Bool.not_true, Bool.false_or, Bool.false_or] at m
      have m : a = p.1 ∨ a = p.2 ∨ a = n := of_decide_eq_true m
      omega
  unfold bdF
  refine fold_rel2 (R := fun (x y : Int32) => x = y) (fun i hi x y hxy => ?_) rfl
  have hi := rg_mem.mp hi
  obtain rfl : i = a := by omega
  rw [hxy]
  unfold bdI
  refine fold_rel2 (R := fun (x y : Int32) => x = y) (fun t ht x y hxy => ?_) rfl
  have ht := quad_mem.mp ht
  rw [hxy]
  unfold gd5
  rw [k t.1 t.2.1 (by omega) (by omega), k t.2.2.1 t.2.2.2 (by omega) (by omega), k t.1 t.2.2.1 (by omega) (by omega), k t.2.1 t.2.2.2 (by omega) (by omega), k t.1 t.2.2.2 (by omega) (by omega), k t.2.1 t.2.2.1 (by omega) (by omega)]
theorem bd_0 (hn : n < 6) (ha : a < n + 1) (h : bdF (n + 1) F 0 (n + 1) = 0) : bdF (n + 1) F a (a + 1) = 0 := by
  unfold bdF
  rw [rg_cons (Nat.lt_succ_self a), rg_nil (Nat.le_refl _)]
  show bdI (n + 1) F a (nI 0) = 0
  unfold bdI
  refine fold_inv (P := fun x : Int32 => x = 0) (fun t ht x hx => ?_) rfl
  rw [hx]
  by_cases hq : a ≠ t.1 ∧ a ≠ t.2.1 ∧ a ≠ t.2.2.1 ∧ a ≠ t.2.2.2
  · rw [if_neg (fun h' => by rw [bd_all (by omega) h ha ht hq] at h'; cases h'.2)]
    rfl
  · rw [if_neg (fun h' => hq h'.1)]
    rfl
/-- where fives are amiss nothing is counted -/
theorem exG_0 (hn : n < 6) (ha : a < n) : ∀ {l : List (Nat × Nat)} {F : Nat → Int32} {V : exW}, (∀ p ∈ l, a < p.1 ∧ p.1 < p.2 ∧ p.2 < n) → exC n R F V l → bdF (n + 1) F a (a + 1) ≠ 0 → exG (exL n R) l V = nI 0
  | [], F, V, _, h, hb => by
    show exL n R V = nI 0
    unfold exL
    rw [← exC_l hn h]
    unfold orO
    rw [decide_eq_false fun h' => hb (bd_0 hn (by omega) h'), Bool.false_and]
    rfl
  | p :: l, F, V, hl, h, hb => by
    have hp := hl p List.mem_cons_self
    have k : ∀ s, isSg s → exG (exL n R) l (exV V p s) = nI 0 := fun s hs => exG_0 hn ha (l := l) (F := sg6 F p.1 p.2 n s) (fun q hq => hl q (List.mem_cons_of_mem _ hq)) (exC_s hn h hp.2 hs) (by rw [bd_sg hn hp.1 hp.2.1 hp.2.2]; exact hb)
    show ((nI 0 + exG (exL n R) l (exV V p (-1))) + exG (exL n R) l (exV V p (nI 0))) + exG (exL n R) l (exV V p (nI 1)) = nI 0
    rw [k (-1) (Or.inl rfl), k (nI 0) (Or.inr (Or.inl rfl)), k (nI 1) (Or.inr (Or.inr rfl))]
    rfl
theorem exW_ok (hn : n ≤ 5) : ∀ (f a b : Nat) (F : Nat → Int32) (V : exW), 8 * (n - a) + (n - b) < f → a < b → (b < n ∨ b = a + 1) → exC n R F V (exP n a b) → (wyO n f a b F).1 = exG (exL n R) (exP n a b) V ∧ exC n R (wyO n f a b F).2 V (exP n a b) := by
  intro f
  induction f with
  | zero => intro a b F V h; omega
  | succ f ih =>
    intro a b F V hf hab hb h
    unfold wyO
    by_cases hc : n ≤ a + 1 ∨ n ≤ b
    · have e := exP_e (n := n) (a := a) (b := b) (by omega) (by omega)
      rw [if_pos hc]
      rw [e] at h ⊢
      refine ⟨?_, h⟩
      show bI (orO (n + 1) F) = exL n R V
      unfold exL
      rw [exC_l (by omega) h]
    · rw [if_neg hc]
      have e := exP_b (n := n) (a := a) (b := b) (by omega)
      have st : ∀ (x : Int32) (F : Nat → Int32) (s : Int32), isSg s → exC n R F V (exP n a b) → (wyS n a b (wyO n f) (x, F) s).1 = x + exG (exL n R) (exP n a (b + 1)) (exV V (a, b) s) ∧ exC n R (wyS n a b (wyO n f) (x, F) s).2 V (exP n a b) := fun x F s hs hF => by
        rw [e] at hF
        have h1 := exC_s (by omega) hF (p := (a, b)) ⟨hab, by omega⟩ hs
        unfold wyS
        dsimp only
        by_cases k1 : b + 1 < n
        · rw [if_pos k1]
          obtain ⟨g1, g2⟩ := ih a (b + 1) _ _ (by omega) (by omega) (Or.inl k1) h1
          rw [e]
          exact ⟨by rw [g1], exC_b g2⟩
        · rw [if_neg k1]
          have e2 := exP_a (n := n) (a := a) (b := b + 1) (by omega) (by omega)
          by_cases k2 : bdF (n + 1) (sg6 F a b n s) a (a + 1) = 0
          · rw [if_pos k2]
            rw [e2] at h1
            obtain ⟨g1, g2⟩ := ih (a + 1) (a + 2) _ _ (by omega) (by omega) (Or.inr rfl) h1
            rw [e, e2]
            exact ⟨by rw [g1], exC_b g2⟩
          · rw [if_neg k2]
            refine ⟨?_, by rw [e]; exact exC_b h1⟩
            have := exG_0 (by omega) (show a < n by omega) (fun p hp => by
              obtain ⟨x, y⟩ := p
              rw [e2] at hp
              have := exP_m hp (by omega)
              exact ⟨by omega, this.2⟩) h1 k2
            rw [this]
            exact (Int32.add_zero x).symm
      obtain ⟨a1, a2⟩ := st (nI 0) F (-1) (Or.inl rfl) h
      generalize hX : wyS n a b (wyO n f) (nI 0, F) (-1) = X at a1 a2
      obtain ⟨X1, X2⟩ := X
      obtain ⟨b1, b2⟩ := st X1 X2 (nI 0) (Or.inr (Or.inl rfl)) a2
      generalize hY : wyS n a b (wyO n f) (X1, X2) (nI 0) = Y at b1 b2
      obtain ⟨Y1, Y2⟩ := Y
      obtain ⟨c1, c2⟩ := st Y1 Y2 (nI 1) (Or.inr (Or.inr rfl)) b2
      refine ⟨?_, c2⟩
      rw [c1, e]
      show Y1 + exG (exL n R) (exP n a (b + 1)) (exV V (a, b) (nI 1)) = ((nI 0 + exG (exL n R) (exP n a (b + 1)) (exV V (a, b) (-1))) + exG (exL n R) (exP n a (b + 1)) (exV V (a, b) (nI 0))) + exG (exL n R) (exP n a (b + 1)) (exV V (a, b) (nI 1))
      rw [show Y1 = X1 + _ from b1, show X1 = nI 0 + _ from a1]
/-- extensions answer alike -/
theorem ext_ans (h : AR n F G R) (hF : AI F) (h1 : 1 ≤ n) (hn : n ≤ 6) : exA n F = exA4 n R := by
  unfold exA exA4
  rw [or_eq h hF hn]
  by_cases hc : orM n R = true ∧ n ≤ 4
  · rw [if_pos hc, if_pos hc]
    unfold exO4
    rw [if_neg (by omega)]
    obtain ⟨R0, hR0⟩ := hF.2.1
    have k0 : ∀ a b c, a < b → b < c → c < 6 → F (i6 a b c) = mS R0 a b c := fun a b c g1 g2 g3 => hR0 a b c (by omega) (by omega) g3 (by omega) rfl
    have hR : isSR R0 := isSR_s fun a b c g1 g2 g3 => by
      rw [← k0 a b c g1 g2 g3]
      exact AI_F hF (by omega) (by omega) g3
    have hRR : ∀ a b c, a < b → b < c → c < n → mS R a b c = mS R0 a b c := fun a b c g1 g2 g3 => by
      rw [← k0 a b c g1 g2 (by omega)]
      exact (AR_F h hF.2.2.2 hn (by omega) (by omega) g3).symm
    have e2 := exF_eq (n := n) (R := R) (by omega) hR hRR (V0 := fun x y => if y < n ∧ x < y then F (i6 x y n) else 0) fun x y => by
      split
      · exact AI_F hF (by omega) (by omega) (by omega)
      · exact Or.inr (Or.inl rfl)
    obtain ⟨e3, _⟩ := exW_ok (R := R0) (by omega) 64 0 1 F (fun x y => if y < n ∧ x < y then F (i6 x y n) else 0) (by omega) (by decide) (Or.inr rfl) ⟨hF, fun x y z g1 g2 g3 => k0 x y z g1 g2 (by omega), fun x y g1 g2 _ => (if_pos ⟨g2, g1⟩).symm⟩
    rw [e3, e2, exP_0 h1]
  · rw [if_neg hc, if_neg hc]
end
