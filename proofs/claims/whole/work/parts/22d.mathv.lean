/-! cocircuits stand at right angles to circuits -/
theorem oqPd_n : ∀ p, p < 3 → ∀ q, q < 3 → oqPd (2 - p) q = 2 - oqPd p q ∧ oqPd p (2 - q) = 2 - oqPd p q := by decide
theorem oqPd_2e : ∀ p, p < 3 → ∀ q, q < 3 → oqPd p q = 2 → (p = 2 ∧ q = 2) ∨ (p = 0 ∧ q = 0) := by decide
theorem oqPd_r : ∀ p, p < 3 → ∀ q, q < 3 → ((oqPd p q ≠ 0 ↔ ¬ (p = 2 ∧ q = 0) ∧ ¬ (p = 0 ∧ q = 2)) ∧ (2 - oqPd p q ≠ 0 ↔ ¬ (p = 2 ∧ q = 2) ∧ ¬ (p = 0 ∧ q = 0))) := by decide
theorem oq4_m1 : ∀ x, x < 3 → ∀ y, y < 3 → (((4 : Nat).testBit x && ((4 : Nat).testBit y && true)) = false ↔ ¬ (y = 2 ∧ x = 2)) := by decide
theorem oq4_m2 : ∀ x, x < 3 → ∀ y, y < 3 → (((1 : Nat).testBit x && ((1 : Nat).testBit y && true)) = false ↔ ¬ (y = 0 ∧ x = 0)) := by decide
theorem oq4_m3 : ∀ x, x < 3 → ∀ y, y < 3 → (((4 : Nat).testBit x && ((1 : Nat).testBit y && true)) = false ↔ ¬ (y = 0 ∧ x = 2)) := by decide
theorem oq4_m4 : ∀ x, x < 3 → ∀ y, y < 3 → (((1 : Nat).testBit x && ((4 : Nat).testBit y && true)) = false ↔ ¬ (y = 2 ∧ x = 0)) := by decide
theorem oq4_m5 : ∀ x, x < 3 → (((3 : Nat).testBit x && true) = false ↔ x = 2) := by decide
def oqR0' : List (List (Nat × Nat × Nat × Nat)) := [[(3, 0, 1, 2)], [(3, 3, 4, 5)], [(4, 2, 4, 5), (4, 0, 1, 3)], [(1, 2, 4, 5), (1, 0, 1, 3)], [(4, 2, 3, 5), (1, 0, 1, 4)], [(1, 2, 3, 5), (4, 0, 1, 4)], [(4, 2, 3, 4), (4, 0, 1, 5)], [(1, 2, 3, 4), (1, 0, 1, 5)]]
theorem oqR0_e : (oqR_0.all fun l => decide (l ∈ oqR0')) = true := by decide +kernel
section
variable {χ : Nat → Nat → Nat → Nat} {a b p q r s : Nat}
theorem oq4_no (hX : oqX χ) (h1 : χ 0 1 2 = 2) (h2 : χ 3 4 5 = 2) (h3 : 2 - oqPd (χ 0 1 3) (χ 2 4 5) ≠ 0) (h4 : oqPd (χ 0 1 4) (χ 2 3 5) ≠ 0) (h5 : 2 - oqPd (χ 0 1 5) (χ 2 3 4) ≠ 0) : False := by
  have L := oqX_lt hX
  refine oq_no (K := 0) hX oqS_0 oqU_0 oqr_0 (fun l hl => ?_) (fun a b s _ _ _ _ h => absurd h (by decide)) fun p q r s => ?_
  · have h := of_decide_eq_true (List.all_eq_true.mp oqR0_e l hl)
    have h3 := (oqPd_r _ (L 0 1 3) _ (L 2 4 5)).2.mp h3
    have h4 := (oqPd_r _ (L 0 1 4) _ (L 2 3 5)).1.mp h4
    have h5 := (oqPd_r _ (L 0 1 5) _ (L 2 3 4)).2.mp h5
    unfold oqR0' at h
    simp only [List.mem_cons, List.not_mem_nil, or_false] at h
    unfold oqSat
    rcases h with rfl | rfl | rfl | rfl | rfl | rfl | rfl | rfl
    · exact (oq4_m5 _ (L 0 1 2)).mpr h1
    · exact (oq4_m5 _ (L 3 4 5)).mpr h2
    · exact (oq4_m1 _ (L 2 4 5) _ (L 0 1 3)).mpr h3.1
    · exact (oq4_m2 _ (L 2 4 5) _ (L 0 1 3)).mpr h3.2
    · exact (oq4_m3 _ (L 2 3 5) _ (L 0 1 4)).mpr h4.2
    · exact (oq4_m4 _ (L 2 3 5) _ (L 0 1 4)).mpr h4.1
    · exact (oq4_m1 _ (L 2 3 4) _ (L 0 1 5)).mpr h5.1
    · exact (oq4_m2 _ (L 2 3 4) _ (L 0 1 5)).mpr h5.2
  · unfold oqO oqXK
    simp only [Nat.not_lt_zero, if_false, oqPd_1]
    rfl
theorem oqX_pi (hX : oqX χ) (π : Nat → Nat) : oqX fun i j k => χ (π i) (π j) (π k) := ⟨fun _ _ _ => oqX_lt hX _ _ _, fun _ _ _ => oqX_s1 hX _ _ _, fun _ _ _ => oqX_s2 hX _ _ _, fun _ _ _ _ _ => oqX_five hX _ _ _ _ _, fun _ _ _ _ _ _ => oqX_ex hX _ _ _ _ _ _⟩
theorem oq4_a (hX : oqX χ) (h1 : χ a b p = 2) (h2 : χ q r s = 2) (h3 : 2 - oqPd (χ a b q) (χ p r s) ≠ 0) (h4 : oqPd (χ a b r) (χ p q s) ≠ 0) (h5 : 2 - oqPd (χ a b s) (χ p q r) ≠ 0) : False := oq4_no (oqX_pi hX fun i => [a, b, p, q, r, s].getD i 0) h1 h2 h3 h4 h5
theorem oq4_b (hX : oqX χ) (h1 : oqPd (χ a b p) (χ q r s) = 2) (h3 : 2 - oqPd (χ a b q) (χ p r s) ≠ 0) (h4 : oqPd (χ a b r) (χ p q s) ≠ 0) (h5 : 2 - oqPd (χ a b s) (χ p q r) ≠ 0) : False := by
  have L := oqX_lt hX
  rcases oqPd_2e _ (L _ _ _) _ (L _ _ _) h1 with ⟨e1, e2⟩ | ⟨e1, e2⟩
  · exact oq4_a hX e1 e2 h3 h4 h5
  · have N : ∀ x y z w, oqPd (χ b a x) (χ y z w) = 2 - oqPd (χ a b x) (χ y z w) := fun x y z w => by
      rw [oqX_s1 hX a b x]
      exact (oqPd_n _ (L _ _ _) _ (L _ _ _)).1
    have M : ∀ x y z w, oqPd (χ b a x) (χ y w z) = oqPd (χ a b x) (χ y z w) := fun x y z w => by
      rw [oqX_s1 hX a b x, oqX_s2 hX y z w, (oqPd_n _ (L _ _ _) _ (by omega)).1, (oqPd_n _ (L _ _ _) _ (L _ _ _)).2]
      have := @oqPd_lt (χ a b x) (χ y z w)
      omega
    refine oq4_a (a := b) (b := a) (p := p) (q := q) (r := s) (s := r) hX ?_ ?_ ?_ ?_ ?_
    · rw [oqX_s1 hX a b p]; omega
    · rw [oqX_s2 hX q r s]; omega
    · rw [M]; exact h3
    · rw [N]; exact h5
    · rw [N]
      have := @oqPd_lt (χ a b r) (χ p q s)
      omega
theorem oq4_c (hX : oqX χ) (h1 : oqPd (χ a b p) (χ q r s) = 0) (h3 : 2 - oqPd (χ a b q) (χ p r s) ≠ 2) (h4 : oqPd (χ a b r) (χ p q s) ≠ 2) (h5 : 2 - oqPd (χ a b s) (χ p q r) ≠ 2) : False := by
  have L := oqX_lt hX
  have N : ∀ x y z w, oqPd (χ b a x) (χ y z w) = 2 - oqPd (χ a b x) (χ y z w) := fun x y z w => by
    rw [oqX_s1 hX a b x]
    exact (oqPd_n _ (L _ _ _) _ (L _ _ _)).1
  refine oq4_b (a := b) (b := a) hX (p := p) (q := q) (r := r) (s := s) ?_ ?_ ?_ ?_
  · rw [N]; omega
  · rw [N]
    have := @oqPd_lt (χ a b q) (χ p r s)
    omega
  · rw [N]
    have := @oqPd_lt (χ a b r) (χ p q s)
    omega
  · rw [N]
    have := @oqPd_lt (χ a b s) (χ p q r)
    omega
def oqH (c x y z w : Nat) : Bool := decide (x = c) && !(decide (y = 2 - c) || (decide (z = 2 - c) || decide (w = 2 - c)))
theorem oqH_f {c x y z w : Nat} (h : ¬ (x = c ∧ y ≠ 2 - c ∧ z ≠ 2 - c ∧ w ≠ 2 - c)) : oqH c x y z w = false := by
  cases e : oqH c x y z w with
  | false => rfl
  | true =>
    unfold oqH at e
    simp only [Bool.and_eq_true, decide_eq_true_eq, Bool.not_eq_true', Bool.or_eq_false_iff, decide_eq_false_iff_not] at e
    exact absurd ⟨e.1, e.2.1, e.2.2.1, e.2.2.2⟩ h
theorem oqO4_h : ∀ x, x < 3 → ∀ y, y < 3 → ∀ z, z < 3 → ∀ w, w < 3 → (((oqH 2 x y z w || oqH 0 x y z w) || (oqH 2 y x z w || oqH 0 y x z w)) || ((oqH 2 z x y w || oqH 0 z x y w) || (oqH 2 w x y z || oqH 0 w x y z)) || oqO4 x y z w) = true := by decide +kernel
theorem oqO4_of (x : Nat) (hx : x < 3) (y : Nat) (hy : y < 3) (z : Nat) (hz : z < 3) (w : Nat) (hw : w < 3) (h1 : ¬ (x = 2 ∧ y ≠ 0 ∧ z ≠ 0 ∧ w ≠ 0)) (h2 : ¬ (x = 0 ∧ y ≠ 2 ∧ z ≠ 2 ∧ w ≠ 2)) (h3 : ¬ (y = 2 ∧ x ≠ 0 ∧ z ≠ 0 ∧ w ≠ 0)) (h4 : ¬ (y = 0 ∧ x ≠ 2 ∧ z ≠ 2 ∧ w ≠ 2)) (h5 : ¬ (z = 2 ∧ x ≠ 0 ∧ y ≠ 0 ∧ w ≠ 0)) (h6 : ¬ (z = 0 ∧ x ≠ 2 ∧ y ≠ 2 ∧ w ≠ 2)) (h7 : ¬ (w = 2 ∧ x ≠ 0 ∧ y ≠ 0 ∧ z ≠ 0)) (h8 : ¬ (w = 0 ∧ x ≠ 2 ∧ y ≠ 2 ∧ z ≠ 2)) : oqO4 x y z w = true := by
  have h := oqO4_h x hx y hy z hz w hw
  rw [oqH_f (c := 2) h1, oqH_f (c := 0) h2, oqH_f (c := 2) h3, oqH_f (c := 0) h4, oqH_f (c := 2) h5, oqH_f (c := 0) h6, oqH_f (c := 2) h7, oqH_f (c := 0) h8] at h
  exact h
/-- a cocircuit is at right angles to each circuit -/
theorem oq_four (hX : oqX χ) : oqO (χ a b) χ p q r s = true := by
  have L := oqX_lt hX
  have T : ∀ x y z w, oqPd (χ a b x) (χ y z w) < 3 := fun _ _ _ _ => oqPd_lt
  have S1 : ∀ x y z w, oqPd (χ a b x) (χ z y w) = 2 - oqPd (χ a b x) (χ y z w) := fun x y z w => by
    rw [oqX_s1 hX y z w]
    exact (oqPd_n _ (L _ _ _) _ (L _ _ _)).2
  have S2 : ∀ x y z w, oqPd (χ a b x) (χ y w z) = 2 - oqPd (χ a b x) (χ y z w) := fun x y z w => by
    rw [oqX_s2 hX y z w]
    exact (oqPd_n _ (L _ _ _) _ (L _ _ _)).2
  have t1 := T p q r s
  have t2 := T q p r s
  have t3 := T r p q s
  have t4 := T s p q r
  -- q first
  have q1 := S1 r p q s
  have q2 := S1 s p q r
  -- r first: r q p s
  have r1 := S1 r p q s
  have r2 := S1 q p r s
  have r3 := S1 p q r s
  have r4 : oqPd (χ a b s) (χ r q p) = 2 - oqPd (χ a b s) (χ p q r) := by
    have h1 := S1 s q r p
    have h2 := S2 s q p r
    have h3 := S1 s p q r
    omega
  -- s first: s q r p
  have s1 : oqPd (χ a b s) (χ q r p) = oqPd (χ a b s) (χ p q r) := by
    have h2 := S2 s q p r
    have h3 := S1 s p q r
    omega
  have s2 : oqPd (χ a b q) (χ s r p) = 2 - oqPd (χ a b q) (χ p r s) := by
    have h1 := S1 q r s p
    have h2 := S2 q r p s
    have h3 := S1 q p r s
    omega
  have s3 : oqPd (χ a b r) (χ s q p) = 2 - oqPd (χ a b r) (χ p q s) := by
    have h1 := S1 r q s p
    have h2 := S2 r q p s
    have h3 := S1 r p q s
    omega
  have s4 : oqPd (χ a b p) (χ s q r) = oqPd (χ a b p) (χ q r s) := by
    have h1 := S1 p q s r
    have h2 := S2 p q r s
    omega
  unfold oqO
  refine oqO4_of _ t1 _ (by omega) _ t3 _ (by omega) ?_ ?_ ?_ ?_ ?_ ?_ ?_ ?_
  · exact fun h => oq4_b hX h.1 h.2.1 h.2.2.1 h.2.2.2
  · exact fun h => oq4_c hX h.1 h.2.1 h.2.2.1 h.2.2.2
  · exact fun h => oq4_c (a := a) (b := b) (p := q) (q := p) (r := r) (s := s) hX (by omega) (by omega) (by omega) (by omega)
  · exact fun h => oq4_b (a := a) (b := b) (p := q) (q := p) (r := r) (s := s) hX (by omega) (by omega) (by omega) (by omega)
  · exact fun h => oq4_c (a := a) (b := b) (p := r) (q := q) (r := p) (s := s) hX (by omega) (by omega) (by omega) (by omega)
  · exact fun h => oq4_b (a := a) (b := b) (p := r) (q := q) (r := p) (s := s) hX (by omega) (by omega) (by omega) (by omega)
  · exact fun h => oq4_c (a := a) (b := b) (p := s) (q := q) (r := r) (s := p) hX (by omega) (by omega) (by omega) (by omega)
  · exact fun h => oq4_b (a := a) (b := b) (p := s) (q := q) (r := r) (s := p) hX (by omega) (by omega) (by omega) (by omega)
end
