/-! what the searches say -/
def oqPd (p q : Nat) : Nat := if p = 1 ∨ q = 1 then 1 else if p = q then 2 else 0
def oqO3 (x y z : Nat) : Bool := (x == 2 || y == 2 || z == 2) == (x == 0 || y == 0 || z == 0)
def oqO4 (x y z w : Nat) : Bool := ((x == 2 || y == 2) || (z == 2 || w == 2)) == ((x == 0 || y == 0) || (z == 0 || w == 0))
/-- signs of triples as digits, orderly -/
def oqX (χ : Nat → Nat → Nat → Nat) : Prop := (∀ a b c, χ a b c < 3) ∧ (∀ a b c, χ b a c = 2 - χ a b c) ∧ (∀ a b c, χ a c b = 2 - χ a b c) ∧ (∀ a b c d e, oqO3 (oqPd (χ a b c) (χ a d e)) (2 - oqPd (χ a b d) (χ a c e)) (oqPd (χ a b e) (χ a c d)) = true) ∧ ∀ x y z a b c, χ x y z ≠ 1 → χ a b c ≠ 1 → χ a y z ≠ 1 ∨ χ b y z ≠ 1 ∨ χ c y z ≠ 1
theorem oqX_lt {χ : Nat → Nat → Nat → Nat} (h : oqX χ) : ∀ a b c, χ a b c < 3 := h.1
theorem oqX_s1 {χ : Nat → Nat → Nat → Nat} (h : oqX χ) : ∀ a b c, χ b a c = 2 - χ a b c := h.2.1
theorem oqX_s2 {χ : Nat → Nat → Nat → Nat} (h : oqX χ) : ∀ a b c, χ a c b = 2 - χ a b c := h.2.2.1
theorem oqX_five {χ : Nat → Nat → Nat → Nat} (h : oqX χ) : ∀ a b c d e, oqO3 (oqPd (χ a b c) (χ a d e)) (2 - oqPd (χ a b d) (χ a c e)) (oqPd (χ a b e) (χ a c d)) = true := h.2.2.2.1
theorem oqX_ex {χ : Nat → Nat → Nat → Nat} (h : oqX χ) : ∀ x y z a b c, χ x y z ≠ 1 → χ a b c ≠ 1 → χ a y z ≠ 1 ∨ χ b y z ≠ 1 ∨ χ c y z ≠ 1 := h.2.2.2.2
def oqP (t : oqT) (a b c : Nat) : Nat := if t = (a, b, c) ∨ t = (b, c, a) ∨ t = (c, a, b) then 0 else if t = (b, a, c) ∨ t = (a, c, b) ∨ t = (c, b, a) then 1 else 2
def oqF (e d : Nat) : Nat := if e % 2 = 0 then d else 2 - d
def oqJ (m : Nat) : Nat := m / 4 + m / 2 % 2 * 2 + m % 2 * 4
def oqE (o : List oqT) (i a b c : Nat) : Nat := oqP (o.getD (i / 2) (0, 0, 0)) a b c
def oqW (χ : Nat → Nat → Nat → Nat) (o : List oqT) (i : Nat) : Nat := χ (o.getD i (0, 0, 0)).1 (o.getD i (0, 0, 0)).2.1 (o.getD i (0, 0, 0)).2.2
def oqMk (K : Nat) (s : Bool) (f : Nat) : Nat := if f = 0 then (if s = true then 4 else 1) else if f < K then (if s = true then 6 else 3) else 2
def oqRw (K : Nat) : oqD → List (Nat × Nat × Nat × Nat)
  | Sum.inr (Sum.inl (x, y, z, a, b, c)) => (5, x, y, z) :: (5, a, b, c) :: (([a, b, c].filter fun w => decide (w ≠ y ∧ w ≠ z)).map fun w => (2, w, y, z))
  | Sum.inr (Sum.inr (Sum.inr (Sum.inl (a, b, s)))) => ((rg 0 6).filter fun f => decide (f ≠ a ∧ f ≠ b)).map fun f => (oqMk K s f, a, b, f)
  | Sum.inr (Sum.inr (Sum.inr (Sum.inr l))) => l
  | _ => []
def oqSat (χ : Nat → Nat → Nat → Nat) (l : List (Nat × Nat × Nat × Nat)) : Prop := (l.all fun y => y.1.testBit (χ y.2.1 y.2.2.1 y.2.2.2)) = false
def oqQ (o : List oqT) (x : Nat × Nat) (y : Nat × Nat × Nat × Nat) : Bool := decide (y.1 < 8) && ((decide (oqE o x.2 y.2.1 y.2.2.1 y.2.2.2 = 0) && decide (x.1 = y.1)) || (decide (oqE o x.2 y.2.1 y.2.2.1 y.2.2.2 = 1) && decide (x.1 = oqJ y.1)))
def oqAl {α β : Type} (p : α → β → Bool) : List α → List β → Bool
  | [], [] => true
  | a :: l, b :: r => p a b && oqAl p l r
  | _, _ => false
def oqTb5 (o : List oqT) (a b c d e i0 i1 i2 i3 i4 i5 : Nat) : Bool := decide (oqE o i0 a b c < 2 ∧ oqE o i1 a d e < 2 ∧ oqE o i2 a b d < 2 ∧ oqE o i3 a c e < 2 ∧ oqE o i4 a b e < 2 ∧ oqE o i5 a c d < 2 ∧ (oqE o i0 a b c + oqE o i1 a d e) % 2 = (oqE o i2 a b d + oqE o i3 a c e) % 2 ∧ (oqE o i0 a b c + oqE o i1 a d e) % 2 = (oqE o i4 a b e + oqE o i5 a c d) % 2)
def oqTb (o : List oqT) (K : Nat) (x : Nat × List Nat) : oqD → Bool
  | Sum.inl (a, b, c, d, e) => decide (x.1 = oqT5) && match x.2 with
    | [i0, i1, i2, i3, i4, i5] => oqTb5 o a b c d e i0 i1 i2 i3 i4 i5
    | _ => false
  | Sum.inr (Sum.inr (Sum.inl (p, q, r, s))) => match x.2 with
    | [i] => decide (x.1 = oqTc1 ∧ p < K ∧ K ≤ q ∧ K ≤ r ∧ K ≤ s ∧ oqE o i q r s = 0)
    | [i, j] => decide (x.1 = oqTc2 ∧ p < K ∧ q < K ∧ K ≤ r ∧ K ≤ s ∧ oqE o i q r s = 0 ∧ oqE o j p r s = 0)
    | [i, j, k] => decide (x.1 = oqTc3 ∧ p < K ∧ q < K ∧ r < K ∧ K ≤ s ∧ oqE o i q r s = 0 ∧ oqE o j p r s = 0 ∧ oqE o k p q s = 0)
    | [i, j, k, l] => decide (x.1 = oqTc4 ∧ p < K ∧ q < K ∧ r < K ∧ s < K ∧ oqE o i q r s = 0 ∧ oqE o j p r s = 0 ∧ oqE o k p q s = 0 ∧ oqE o l p q r = 0)
    | _ => false
  | _ => false
def oqCl (o : List oqT) (K : Nat) (R : List (List (Nat × Nat × Nat × Nat))) (l : List (Nat × Nat)) (D : oqD) : Bool := oqAl (oqQ o) l (oqRw K D) && match D with
  | Sum.inr (Sum.inl _) => true
  | Sum.inr (Sum.inr (Sum.inr (Sum.inl (a, b, _)))) => decide (0 < a ∧ a < 6 ∧ 0 < b ∧ b < 6 ∧ 0 < K)
  | Sum.inr (Sum.inr (Sum.inr (Sum.inr l))) => decide (l ∈ R)
  | _ => false
def oqLv (o : List oqT) (K : Nat) (R : List (List (Nat × Nat × Nat × Nat))) (L : oqL) (M : oqM) : Bool := oqAl (oqCl o K R) L.1 M.1 && oqAl (oqTb o K) L.2 M.2
theorem oqT5_ok : ∀ p, p < 3 → ∀ q, q < 3 → ∀ r, r < 3 → ∀ s, s < 3 → ∀ t, t < 3 → ∀ u, u < 3 → oqT5.testBit ((((((0 * 4 + p) * 4 + q) * 4 + r) * 4 + s) * 4 + t) * 4 + u) = oqO3 (oqPd p q) (2 - oqPd r s) (oqPd t u) := by decide +kernel
theorem oqTc1_ok : ∀ p, p < 3 → oqTc1.testBit (0 * 4 + p) = oqO4 p (2 - 1) 1 (2 - 1) := by decide +kernel
theorem oqTc2_ok : ∀ p, p < 3 → ∀ q, q < 3 → oqTc2.testBit ((0 * 4 + p) * 4 + q) = oqO4 p (2 - q) 1 (2 - 1) := by decide +kernel
theorem oqTc3_ok : ∀ p, p < 3 → ∀ q, q < 3 → ∀ r, r < 3 → oqTc3.testBit (((0 * 4 + p) * 4 + q) * 4 + r) = oqO4 p (2 - q) r (2 - 1) := by decide +kernel
theorem oqTc4_ok : ∀ p, p < 3 → ∀ q, q < 3 → ∀ r, r < 3 → ∀ s, s < 3 → oqTc4.testBit ((((0 * 4 + p) * 4 + q) * 4 + r) * 4 + s) = oqO4 p (2 - q) r (2 - s) := by decide +kernel
theorem oqPd_2 : ∀ d, d < 3 → oqPd 2 d = d := by decide
theorem oqPd_1 {d : Nat} : oqPd 1 d = 1 := if_pos (Or.inl rfl)
theorem oqPd_lt {p q : Nat} : oqPd p q < 3 := by
  unfold oqPd
  split
  · decide
  · split <;> decide
theorem oqPd_F : ∀ e, e < 2 → ∀ f, f < 2 → ∀ p, p < 3 → ∀ q, q < 3 → oqPd (oqF e p) (oqF f q) = oqF (e + f) (oqPd p q) := by decide +kernel
theorem oqO3_F : ∀ e, e < 2 → ∀ x, x < 3 → ∀ y, y < 3 → ∀ z, z < 3 → oqO3 (oqF e x) (2 - oqF e y) (oqF e z) = oqO3 x (2 - y) z := by decide +kernel
theorem oqF_mod {e d : Nat} : oqF (e % 2) d = oqF e d := by
  unfold oqF
  rw [Nat.mod_mod]
theorem oqJ_ok : ∀ m, m < 8 → ∀ d, d < 3 → (oqJ m).testBit (2 - d) = m.testBit d := by decide +kernel
section
variable {χ : Nat → Nat → Nat → Nat} {o : List oqT} {K : Nat}
theorem oqP_ok (hX : oqX χ) {t : oqT} {a b c : Nat} (h : oqP t a b c < 2) : χ t.1 t.2.1 t.2.2 = oqF (oqP t a b c) (χ a b c) := by
  have l0 := oqX_lt hX a b c
  have f1 := oqX_s1 hX a b c
  have f2 := oqX_s2 hX a b c
  have f3 := oqX_s2 hX b a c
  have f4 := oqX_s1 hX a c b
  have f5 := oqX_s1 hX b c a
  unfold oqP at h ⊢
  split at h
  · next h1 =>
    rw [if_pos h1, show oqF 0 (χ a b c) = χ a b c from rfl]
    rcases h1 with rfl | rfl | rfl
    · rfl
    · show χ b c a = χ a b c; omega
    · show χ c a b = χ a b c; omega
  · next h1 =>
    split at h
    · next h2 =>
      rw [if_neg h1, if_pos h2, show oqF 1 (χ a b c) = 2 - χ a b c from rfl]
      rcases h2 with rfl | rfl | rfl
      · exact f1
      · exact f2
      · show χ c b a = 2 - χ a b c; omega
    · omega
theorem oqW_E (hX : oqX χ) {i a b c : Nat} (h : oqE o i a b c < 2) : oqW χ o (i / 2) = oqF (oqE o i a b c) (χ a b c) := oqP_ok hX h
theorem oqW_lt (hX : oqX χ) (i : Nat) : oqW χ o i < 3 := oqX_lt hX _ _ _
theorem oqW_0 (hX : oqX χ) {i a b c : Nat} (h : oqE o i a b c = 0) : oqW χ o (i / 2) = χ a b c := by
  rw [oqW_E hX (show oqE o i a b c < 2 by omega), h]
  rfl
theorem oqAl_mem {α β : Type} {p : α → β → Bool} : ∀ {l : List α} {r : List β}, oqAl p l r = true → ∀ a ∈ l, ∃ b ∈ r, p a b = true
  | [], _, _, a, ha => by cases ha
  | a :: l, [], h, _, _ => by cases h
  | a :: l, b :: r, h, x, hx => by
    have h : (p a b && oqAl p l r) = true := h
    rw [Bool.and_eq_true_iff] at h
    rcases List.mem_cons.mp hx with rfl | hx
    · exact ⟨b, List.mem_cons_self, h.1⟩
    · obtain ⟨b', hb, e⟩ := oqAl_mem h.2 x hx
      exact ⟨b', List.mem_cons_of_mem _ hb, e⟩
theorem oqQ_ok (hX : oqX χ) {x : Nat × Nat} {y : Nat × Nat × Nat × Nat} (h : oqQ o x y = true) : x.1.testBit (oqW χ o (x.2 / 2)) = y.1.testBit (χ y.2.1 y.2.2.1 y.2.2.2) := by
  unfold oqQ at h
  simp only [Bool.and_eq_true, Bool.or_eq_true, decide_eq_true_eq] at h
  obtain ⟨h8, ⟨h0, e⟩ | ⟨h1, e⟩⟩ := h
  · rw [oqW_0 hX h0, e]
  · rw [oqW_E hX (show oqE o x.2 y.2.1 y.2.2.1 y.2.2.2 < 2 by omega), h1, e, show oqF 1 (χ y.2.1 y.2.2.1 y.2.2.2) = 2 - χ y.2.1 y.2.2.1 y.2.2.2 from rfl, oqJ_ok _ h8 _ (oqX_lt hX _ _ _)]
theorem oqQs_ok (hX : oqX χ) : ∀ {l : List (Nat × Nat)} {r : List (Nat × Nat × Nat × Nat)}, oqAl (oqQ o) l r = true → (l.all fun x => x.1.testBit (oqW χ o (x.2 / 2))) = r.all fun y => y.1.testBit (χ y.2.1 y.2.2.1 y.2.2.2)
  | [], [], _ => rfl
  | [], _ :: _, h => by cases h
  | _ :: _, [], h => by cases h
  | x :: l, y :: r, h => by
    have h : (oqQ o x y && oqAl (oqQ o) l r) = true := h
    rw [Bool.and_eq_true_iff] at h
    rw [List.all_cons, List.all_cons, oqQ_ok hX h.1, oqQs_ok hX h.2]
theorem oqX_d1 (hX : oqX χ) (a b : Nat) : χ a a b = 1 := by
  have := oqX_s1 hX a a b
  have := oqX_lt hX a a b
  omega
theorem oqX_d2 (hX : oqX χ) (a b : Nat) : χ a b b = 1 := by
  have := oqX_s2 hX a b b
  have := oqX_lt hX a b b
  omega
theorem oqX_d3 (hX : oqX χ) (a b : Nat) : χ a b a = 1 := by
  have := oqX_s2 hX a a b
  have := oqX_d1 hX a b
  omega
theorem oqt5_1 : ∀ d, d < 3 → ((5 : Nat).testBit d = true ↔ d ≠ 1) := by decide
theorem oqt2_1 : ∀ d, d < 3 → ((2 : Nat).testBit d = true ↔ d = 1) := by decide
theorem oqx_ok (hX : oqX χ) {x y z a b c : Nat} : oqSat χ (oqRw K (oqDx x y z a b c)) := by
  unfold oqSat
  cases h : (oqRw K (oqDx x y z a b c)).all fun y => y.1.testBit (χ y.2.1 y.2.2.1 y.2.2.2) with
  | false => rfl
  | true =>
    exfalso
    have h := List.all_eq_true.mp h
    have h1 := (oqt5_1 _ (oqX_lt hX _ _ _)).mp (h (5, x, y, z) List.mem_cons_self)
    have h2 := (oqt5_1 _ (oqX_lt hX _ _ _)).mp (h (5, a, b, c) (List.mem_cons_of_mem _ List.mem_cons_self))
    have key : ∀ w, w ∈ [a, b, c] → χ w y z = 1 := fun w hw => by
      by_cases e1 : w = y
      · rw [e1]; exact oqX_d1 hX y z
      · by_cases e2 : w = z
        · rw [e2]; exact oqX_d3 hX z y
        · exact (oqt2_1 _ (oqX_lt hX _ _ _)).mp (h (2, w, y, z) (List.mem_cons_of_mem _ (List.mem_cons_of_mem _ (List.mem_map.mpr ⟨w, List.mem_filter.mpr ⟨hw, decide_eq_true ⟨e1, e2⟩⟩, rfl⟩))))
    rcases oqX_ex hX x y z a b c h1 h2 with h' | h' | h'
    · exact h' (key a (by simp))
    · exact h' (key b (by simp))
    · exact h' (key c (by simp))
def oqXK (K f : Nat) : Nat := if f < K then 2 else 1
/-- at right angles: X and the circuit of four -/
def oqO (X : Nat → Nat) (χ : Nat → Nat → Nat → Nat) (p q r s : Nat) : Bool := oqO4 (oqPd (X p) (χ q r s)) (2 - oqPd (X q) (χ p r s)) (oqPd (X r) (χ p q s)) (2 - oqPd (X s) (χ p q r))
theorem oqXK_lt {f d : Nat} (h : f < K) (hd : d < 3) : oqPd (oqXK K f) d = d := by
  unfold oqXK
  rw [if_pos h, oqPd_2 _ hd]
theorem oqXK_ge {f d : Nat} (h : K ≤ f) : oqPd (oqXK K f) d = 1 := by
  unfold oqXK
  rw [if_neg (by omega), oqPd_1]
theorem oqTb_ok (hX : oqX χ) {x : Nat × List Nat} {D : oqD} (h : oqTb o K x D = true) (hO : ∀ p q r s, oqO (oqXK K) χ p q r s = true) : x.1.testBit (oqN (oqW χ o) x.2 0) = true := by
  obtain ⟨T, l⟩ := x
  rcases D with ⟨a, b, c, d, e⟩ | ⟨x, y, z, a, b, c⟩ | ⟨p, q, r, s⟩ | ⟨a, b, s⟩ | w
  · rcases l with _ | ⟨i0, _ | ⟨i1, _ | ⟨i2, _ | ⟨i3, _ | ⟨i4, _ | ⟨i5, _ | ⟨i6, l⟩⟩⟩⟩⟩⟩⟩
    case inl.cons.cons.cons.cons.cons.cons.nil =>
      have h : (decide (T = oqT5) && oqTb5 o a b c d e i0 i1 i2 i3 i4 i5) = true := h
      rw [Bool.and_eq_true_iff] at h
      obtain ⟨hT, h⟩ := h
      obtain rfl := of_decide_eq_true hT
      obtain ⟨h0, h1, h2, h3, h4, h5, e1, e2⟩ := of_decide_eq_true h
      show oqT5.testBit ((((((0 * 4 + oqW χ o (i0 / 2)) * 4 + oqW χ o (i1 / 2)) * 4 + oqW χ o (i2 / 2)) * 4 + oqW χ o (i3 / 2)) * 4 + oqW χ o (i4 / 2)) * 4 + oqW χ o (i5 / 2)) = true
      have L : ∀ i, oqW χ o i < 3 := fun i => oqX_lt hX _ _ _
      rw [oqT5_ok _ (L _) _ (L _) _ (L _) _ (L _) _ (L _) _ (L _), oqW_E hX h0, oqW_E hX h1, oqW_E hX h2, oqW_E hX h3, oqW_E hX h4, oqW_E hX h5, oqPd_F _ h0 _ h1 _ (oqX_lt hX _ _ _) _ (oqX_lt hX _ _ _), oqPd_F _ h2 _ h3 _ (oqX_lt hX _ _ _) _ (oqX_lt hX _ _ _), oqPd_F _ h4 _ h5 _ (oqX_lt hX _ _ _) _ (oqX_lt hX _ _ _), ← oqF_mod, ← oqF_mod (e := oqE o i2 a b d + oqE o i3 a c e), ← oqF_mod (e := oqE o i4 a b e + oqE o i5 a c d), ← e1, ← e2, oqO3_F _ (Nat.mod_lt _ (by decide)) _ oqPd_lt _ oqPd_lt _ oqPd_lt]
      exact oqX_five hX a b c d e
    all_goals
      have h : (decide (T = oqT5) && false) = true := h
      rw [Bool.and_false] at h
      cases h
  · cases h
  · have hO := hO p q r s
    unfold oqO at hO
    rcases l with _ | ⟨i, _ | ⟨j, _ | ⟨k, _ | ⟨l, _ | ⟨m, w⟩⟩⟩⟩⟩
    · cases h
    · obtain ⟨rfl, hp, hq, hr, hs, e1⟩ := of_decide_eq_true (show decide _ = true from h)
      rw [oqXK_lt hp (oqX_lt hX _ _ _), oqXK_ge hq, oqXK_ge hr, oqXK_ge hs] at hO
      show oqTc1.testBit (0 * 4 + oqW χ o (i / 2)) = true
      rw [oqTc1_ok _ (oqW_lt hX _), oqW_0 hX e1]
      exact hO
    · obtain ⟨rfl, hp, hq, hr, hs, e1, e2⟩ := of_decide_eq_true (show decide _ = true from h)
      rw [oqXK_lt hp (oqX_lt hX _ _ _), oqXK_lt hq (oqX_lt hX _ _ _), oqXK_ge hr, oqXK_ge hs] at hO
      show oqTc2.testBit ((0 * 4 + oqW χ o (i / 2)) * 4 + oqW χ o (j / 2)) = true
      rw [oqTc2_ok _ (oqW_lt hX _) _ (oqW_lt hX _), oqW_0 hX e1, oqW_0 hX e2]
      exact hO
    · obtain ⟨rfl, hp, hq, hr, hs, e1, e2, e3⟩ := of_decide_eq_true (show decide _ = true from h)
      rw [oqXK_lt hp (oqX_lt hX _ _ _), oqXK_lt hq (oqX_lt hX _ _ _), oqXK_lt hr (oqX_lt hX _ _ _), oqXK_ge hs] at hO
      show oqTc3.testBit (((0 * 4 + oqW χ o (i / 2)) * 4 + oqW χ o (j / 2)) * 4 + oqW χ o (k / 2)) = true
      rw [oqTc3_ok _ (oqW_lt hX _) _ (oqW_lt hX _) _ (oqW_lt hX _), oqW_0 hX e1, oqW_0 hX e2, oqW_0 hX e3]
      exact hO
    · obtain ⟨rfl, hp, hq, hr, hs, e1, e2, e3, e4⟩ := of_decide_eq_true (show decide _ = true from h)
      rw [oqXK_lt hp (oqX_lt hX _ _ _), oqXK_lt hq (oqX_lt hX _ _ _), oqXK_lt hr (oqX_lt hX _ _ _), oqXK_lt hs (oqX_lt hX _ _ _)] at hO
      show oqTc4.testBit ((((0 * 4 + oqW χ o (i / 2)) * 4 + oqW χ o (j / 2)) * 4 + oqW χ o (k / 2)) * 4 + oqW χ o (l / 2)) = true
      rw [oqTc4_ok _ (oqW_lt hX _) _ (oqW_lt hX _) _ (oqW_lt hX _) _ (oqW_lt hX _), oqW_0 hX e1, oqW_0 hX e2, oqW_0 hX e3, oqW_0 hX e4]
      exact hO
    · cases h
  · cases h
  · cases h
theorem oq_no (hX : oqX χ) {Ls : List oqL} {Ms : List oqM} {R : List (List (Nat × Nat × Nat × Nat))} (hS : oqS Ls 0 1 = true) (hU : oqUs 0 Ls = true) (hR : oqAl (oqLv o K R) Ls Ms = true) (hr : ∀ l ∈ R, oqSat χ l) (hg : ∀ a b s, 0 < a → a < 6 → 0 < b → b < 6 → 0 < K → oqSat χ (oqRw K (oqDg a b s))) (hO : ∀ p q r s, oqO (oqXK K) χ p q r s = true) : False := by
  obtain ⟨L, hL, h⟩ := oqS_no (v := oqW χ o) (fun i => oqX_lt hX _ _ _) hS hU
  obtain ⟨M, hM, hm⟩ := oqAl_mem hR L hL
  unfold oqLv at hm
  rw [Bool.and_eq_true_iff] at hm
  rcases h with ⟨l, hl, h⟩ | ⟨c, hc, h⟩
  · obtain ⟨D, hD, e⟩ := oqAl_mem hm.1 l hl
    unfold oqCl at e
    rw [Bool.and_eq_true_iff] at e
    rw [oqQs_ok hX e.1] at h
    have hs : oqSat χ (oqRw K D) := by
      rcases D with ⟨a, b, c, d, e5⟩ | ⟨x, y, z, a, b, c⟩ | ⟨p, q, r, s⟩ | ⟨a, b, s⟩ | w
      · cases e.2
      · exact oqx_ok hX
      · cases e.2
      · have := of_decide_eq_true e.2
        exact hg a b s this.1 this.2.1 this.2.2.1 this.2.2.2.1 this.2.2.2.2
      · exact hr w (of_decide_eq_true e.2)
    unfold oqSat at hs
    rw [hs] at h
    cases h
  · obtain ⟨D, hD, e⟩ := oqAl_mem hm.2 c hc
    rw [oqTb_ok hX e hO] at h
    cases h
end
theorem oqr_0 : oqAl (oqLv oqO_0 0 oqR_0) oqL_0 oqM_0 = true := by decide +kernel
theorem oqr_1 : oqAl (oqLv oqO_1 1 oqR_1) oqL_1 oqM_1 = true := by decide +kernel
theorem oqr_2 : oqAl (oqLv oqO_2 2 oqR_2) oqL_2 oqM_2 = true := by decide +kernel
theorem oqr_3 : oqAl (oqLv oqO_3 3 oqR_3) oqL_3 oqM_3 = true := by decide +kernel
theorem oqr_4 : oqAl (oqLv oqO_4 4 oqR_4) oqL_4 oqM_4 = true := by decide +kernel
theorem oqr_5 : oqAl (oqLv oqO_5 5 oqR_5) oqL_5 oqM_5 = true := by decide +kernel
theorem oqr_6 : oqAl (oqLv oqO_6 6 oqR_6) oqL_6 oqM_6 = true := by decide +kernel
