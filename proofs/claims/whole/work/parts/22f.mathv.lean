/-! a cocircuit within X, through each place of X -/
section
variable {χ : Nat → Nat → Nat → Nat} {K a b c e f : Nat} {X : Nat → Nat}
theorem oqLen {m : Nat → Bool} (hm : m e = true) : ∀ {l : List Nat}, l.Nodup → (l.filter fun f => decide (f ≠ e ∧ m f = true)).length + (l.filter fun f => !m f).length + (if e ∈ l then 1 else 0) = l.length
  | [], _ => rfl
  | x :: l, h => by
    rw [List.nodup_cons] at h
    have ih := oqLen hm h.2
    rw [List.filter_cons, List.filter_cons, List.length_cons]
    by_cases hx : x = e
    · subst hx
      rw [if_neg (show ¬ decide (x ≠ x ∧ m x = true) = true by simp), hm, if_neg (show ¬ (!true) = true by decide), if_pos List.mem_cons_self]
      rw [if_neg h.1] at ih
      omega
    · have e1 : (if e ∈ x :: l then 1 else 0) = if e ∈ l then 1 else 0 := by
        by_cases he : e ∈ l
        · rw [if_pos he, if_pos (List.mem_cons_of_mem _ he)]
        · rw [if_neg he, if_neg (fun h => (List.mem_cons.mp h).elim (fun h => hx h.symm) he)]
      rw [e1]
      cases hmx : m x with
      | true =>
        rw [if_pos (show decide (x ≠ e ∧ true = true) = true from decide_eq_true ⟨hx, rfl⟩), if_neg (show ¬ (!true) = true by decide), List.length_cons]
        omega
      | false =>
        rw [if_neg (show ¬ decide (x ≠ e ∧ false = true) = true by simp), if_pos (show (!false) = true from rfl), List.length_cons]
        omega
theorem oqMk_ok {s : Bool} {d : Nat} (hd : d < 3) (hK : 1 ≤ K) (h : (oqMk K s f).testBit d = true) : (oqF (if s = true then 0 else 1) d = 1 ∨ (oqF (if s = true then 0 else 1) d = 2 ∧ f < K)) ∧ (f = 0 → oqF (if s = true then 0 else 1) d = 2) := by
  unfold oqMk at h
  have T : ∀ d, d < 3 → (((4 : Nat).testBit d = true → d = 2) ∧ ((1 : Nat).testBit d = true → d = 0)) ∧ (((6 : Nat).testBit d = true → d ≠ 0) ∧ ((3 : Nat).testBit d = true → d ≠ 2)) ∧ ((2 : Nat).testBit d = true → d = 1) := by decide
  obtain ⟨⟨t4, t1⟩, ⟨t6, t3⟩, t2⟩ := T d hd
  cases s with
  | true =>
    rw [if_pos rfl, show oqF 0 d = d from rfl]
    rw [if_pos rfl, if_pos rfl] at h
    by_cases h0 : f = 0
    · rw [if_pos h0] at h
      have := t4 h
      exact ⟨Or.inr ⟨this, by omega⟩, fun _ => this⟩
    · rw [if_neg h0] at h
      by_cases hk : f < K
      · rw [if_pos hk] at h
        have := t6 h
        exact ⟨by omega, fun h => absurd h h0⟩
      · rw [if_neg hk] at h
        exact ⟨Or.inl (t2 h), fun h => absurd h h0⟩
  | false =>
    rw [if_neg (show ¬ false = true by decide), show oqF 1 d = 2 - d from rfl]
    rw [if_neg (show ¬ false = true by decide), if_neg (show ¬ false = true by decide)] at h
    by_cases h0 : f = 0
    · rw [if_pos h0] at h
      have := t1 h
      exact ⟨Or.inr ⟨by omega, by omega⟩, fun _ => by omega⟩
    · rw [if_neg h0] at h
      by_cases hk : f < K
      · rw [if_pos hk] at h
        have := t3 h
        exact ⟨by omega, fun h => absurd h h0⟩
      · rw [if_neg hk] at h
        have := t2 h
        exact ⟨Or.inl (by omega), fun h => absurd h h0⟩
theorem oqGm : ∀ {l : List Nat} {i : Nat}, i < l.length → l.getD i 6 ∈ l
  | [], _, h => absurd h (Nat.not_lt_zero _)
  | _ :: _, 0, _ => List.mem_cons_self
  | _ :: l, i + 1, h => List.mem_cons_of_mem _ (oqGm (l := l) (i := i) (by rw [List.length_cons] at h; omega))
theorem oqXp_i (hXl : ∀ f, X f < 3) : X f = oqF (oqRh X f) (oqXp X f) := by
  have := hXl f
  unfold oqXp
  rw [oqF_F this]
  unfold oqF
  rw [if_pos (by omega)]
theorem oq_conf (hX : oqX χ) (hz : ∃ a b c, a < 6 ∧ b < 6 ∧ c < 6 ∧ χ a b c ≠ 1) (hXl : ∀ f, X f < 3) (hX6 : X 6 = 1) (hO : ∀ p q r s, oqO X χ p q r s = true) (he : e < 6) (hXe : X e ≠ 1) : ∃ a b t, a < 6 ∧ b < 6 ∧ (∀ g, g < 6 → oqF t (χ a b g) = 1 ∨ oqF t (χ a b g) = X g) ∧ oqF t (χ a b e) = X e := by
  have hX1 := oqXc_ok (X := X) hX
  have hO1 := oqXc_O hX hXl hO
  have p2 : ∀ f, oqXp X f = if X f = 1 then 1 else 2 := fun f => oqXp_2 hXl
  -- the order of the places
  obtain ⟨m, hmd⟩ : ∃ m : Nat → Bool, m = fun f => decide (X f ≠ 1) := ⟨_, rfl⟩
  have hm : ∀ f, m f = true ↔ X f ≠ 1 := fun f => by rw [hmd]; exact decide_eq_true_iff
  obtain ⟨r, hr⟩ : ∃ r : Nat → Nat → Bool, r = fun x y => decide (oqXc X χ e x y ≠ 0) := ⟨_, rfl⟩
  have rt : ∀ x y, r x y = true ∨ r y x = true := fun x y => by
    rw [hr]
    simp only [decide_eq_true_eq]
    have := oqX_s2 hX1 e x y
    have := oqX_lt hX1 e x y
    omega
  have hlen := oqLen (m := m) ((hm e).mpr hXe) (show (rg 0 6).Nodup by decide)
  rw [if_pos (rg_mem.mpr ⟨Nat.zero_le _, he⟩), show (rg 0 6).length = 6 from rfl] at hlen
  have mA : ∀ x, x ∈ oqSo r ((rg 0 6).filter fun f => decide (f ≠ e ∧ m f = true)) ↔ x < 6 ∧ x ≠ e ∧ X x ≠ 1 := fun x => by
    rw [oqSo_m, List.mem_filter, rg_mem, decide_eq_true_iff, hm]
    constructor
    · exact fun h => ⟨h.1.2, h.2⟩
    · exact fun h => ⟨⟨Nat.zero_le _, h.1⟩, h.2⟩
  have cA := oqSo_c rt (l := (rg 0 6).filter fun f => decide (f ≠ e ∧ m f = true))
  rw [← oqSo_l (r := r)] at hlen
  generalize oqSo r ((rg 0 6).filter fun f => decide (f ≠ e ∧ m f = true)) = A at hlen mA cA
  have mB : ∀ x, x ∈ (rg 0 6).filter (fun f => !m f) ↔ x < 6 ∧ X x = 1 := fun x => by
    rw [List.mem_filter, rg_mem, Bool.not_eq_true', ← Bool.not_eq_true, hm]
    constructor
    · exact fun h => ⟨h.1.2, Classical.not_not.mp h.2⟩
    · exact fun h => ⟨⟨Nat.zero_le _, h.1⟩, fun h' => h' h.2⟩
  generalize (rg 0 6).filter (fun f => !m f) = B at hlen mB
  -- the turned signs in this order
  have plen : ((e :: A) ++ B).length = 6 := by rw [List.length_append, List.length_cons]; omega
  have pX : ∀ i, oqXp X (((e :: A) ++ B).getD i 6) = oqXK (A.length + 1) i := fun i => by
    rw [oqGt (P := oqXp X) (A := e :: A) (B := B) (i := i) (fun x hx => ?_) (fun x hx => ?_) (by rw [p2, if_pos hX6])]
    · rfl
    · rw [p2, if_neg]
      rcases List.mem_cons.mp hx with rfl | hx
      · exact hXe
      · exact ((mA x).mp hx).2.2
    · rw [p2, if_pos ((mB x).mp hx).2]
  have pm : ∀ g, g < 6 → ∃ i, i < 6 ∧ ((e :: A) ++ B).getD i 6 = g := fun g hg => by
    have : g ∈ (e :: A) ++ B := by
      rw [List.mem_append, List.mem_cons]
      by_cases h1 : X g = 1
      · exact Or.inr ((mB g).mpr ⟨hg, h1⟩)
      · by_cases h2 : g = e
        · exact Or.inl (Or.inl h2)
        · exact Or.inl (Or.inr ((mA g).mpr ⟨hg, h2, h1⟩))
    obtain ⟨i, hi, h⟩ := oqMem_at this
    exact ⟨i, by omega, h⟩
  have pl : ∀ i, i < 6 → ((e :: A) ++ B).getD i 6 < 6 := fun i hi => by
    have := oqGm (l := (e :: A) ++ B) (i := i) (by omega)
    rcases List.mem_append.mp this with h | h
    · rcases List.mem_cons.mp h with h | h
      · omega
      · exact ((mA _).mp h).1
    · exact ((mB _).mp h).1
  have p0 : ((e :: A) ++ B).getD 0 6 = e := rfl
  have ph : A.length + 1 = 6 → ∀ i, 1 ≤ i → i < 5 → oqXc X χ (((e :: A) ++ B).getD 0 6) (((e :: A) ++ B).getD i 6) (((e :: A) ++ B).getD (i + 1) 6) ≠ 0 := fun hK i h1 h5 => by
    obtain rfl : B = [] := List.length_eq_zero_iff.mp (by omega)
    rw [p0, List.append_nil]
    match A, hK, cA, i, h1 with
    | z :: l, hK, cA, i + 1, _ =>
      have h := oqCh_at (l := l) (z := z) (i := i) cA (by rw [List.length_cons] at hK; omega)
      rw [hr] at h
      exact of_decide_eq_true h
  generalize hπ : (e :: A) ++ B = P at plen pX pm pl p0 ph
  have hX2 := oqX_pi hX1 fun i => P.getD i 6
  have Nz : ∀ x y z, oqXc X χ x y z = 1 ↔ χ x y z = 1 := fun x y z => oqF_1 (oqX_lt hX _ _ _)
  have hz2 : ∃ t ∈ trip 6, oqXc X χ (P.getD t.1 6) (P.getD t.2.1 6) (P.getD t.2.2 6) ≠ 1 := by
    refine Classical.byContradiction fun hn => ?_
    have hall : ∀ t ∈ trip 6, oqXc X χ (P.getD t.1 6) (P.getD t.2.1 6) (P.getD t.2.2 6) = 1 := fun t ht => Classical.byContradiction fun h => hn ⟨t, ht, h⟩
    obtain ⟨a, b, c, ha, hb, hc, h⟩ := hz
    obtain ⟨i, hi, rfl⟩ := pm a ha
    obtain ⟨j, hj, rfl⟩ := pm b hb
    obtain ⟨k, hk, rfl⟩ := pm c hc
    exact h ((Nz _ _ _).mp (oqX_z6 (χ := fun i j k => oqXc X χ (P.getD i 6) (P.getD j 6) (P.getD k 6)) hX2 hall hi hj hk))
  obtain ⟨i, j, s, ⟨hi0, hi, hj0, hj⟩, hf⟩ := oqK_ex (K := A.length + 1) hX2 hz2 (by omega) (by omega) (fun p q r s => by
    have h := hO1 (P.getD p 6) (P.getD q 6) (P.getD r 6) (P.getD s 6)
    unfold oqO at h ⊢
    rw [pX, pX, pX, pX] at h
    exact h) ph
  have key : ∀ f, f < 6 → f ≠ i → f ≠ j → (oqF ((if s = true then 0 else 1) + oqRh X (P.getD i 6) + oqRh X (P.getD j 6)) (χ (P.getD i 6) (P.getD j 6) (P.getD f 6)) = 1 ∨ oqF ((if s = true then 0 else 1) + oqRh X (P.getD i 6) + oqRh X (P.getD j 6)) (χ (P.getD i 6) (P.getD j 6) (P.getD f 6)) = X (P.getD f 6)) ∧ (f = 0 → oqF ((if s = true then 0 else 1) + oqRh X (P.getD i 6) + oqRh X (P.getD j 6)) (χ (P.getD i 6) (P.getD j 6) (P.getD f 6)) = X (P.getD f 6)) := fun f hf6 h1 h2 => by
    obtain ⟨k1, k2⟩ := oqMk_ok (oqX_lt hX2 i j f) (show 1 ≤ A.length + 1 by omega) (hf f hf6 h1 h2)
    have L := oqX_lt hX (P.getD i 6) (P.getD j 6) (P.getD f 6)
    have e1 : oqF ((if s = true then 0 else 1) + oqRh X (P.getD i 6) + oqRh X (P.getD j 6)) (χ (P.getD i 6) (P.getD j 6) (P.getD f 6)) = oqF (oqRh X (P.getD f 6)) (oqF (if s = true then 0 else 1) (oqXc X χ (P.getD i 6) (P.getD j 6) (P.getD f 6))) := by
      unfold oqXc
      rw [oqF_F L, oqF_F L]
      exact oqF_p (by omega)
    rw [e1]
    have e2 := oqXp_i (f := P.getD f 6) hXl
    rw [pX] at e2
    have kk : ∀ v, v = 2 → f < A.length + 1 → oqF (oqRh X (P.getD f 6)) v = X (P.getD f 6) := fun v hv hfK => by
      rw [e2, hv]
      unfold oqXK
      rw [if_pos hfK]
    refine ⟨?_, fun h0 => kk _ (k2 h0) (by omega)⟩
    rcases k1 with k1 | ⟨k1, k3⟩
    · left
      rw [k1]
      exact (oqF_1 (by decide)).mpr rfl
    · right
      exact kk _ k1 k3
  refine ⟨P.getD i 6, P.getD j 6, (if s = true then 0 else 1) + oqRh X (P.getD i 6) + oqRh X (P.getD j 6), pl i hi, pl j hj, fun g hg => ?_, ?_⟩
  · obtain ⟨f, hf6, rfl⟩ := pm g hg
    by_cases h1 : f = i
    · left
      rw [h1, oqX_d3 hX]
      exact (oqF_1 (by decide)).mpr rfl
    · by_cases h2 : f = j
      · left
        rw [h2, oqX_d2 hX]
        exact (oqF_1 (by decide)).mpr rfl
      · exact (key f hf6 h1 h2).1
  · have := (key 0 (by decide) (by omega) (by omega)).2 rfl
    rw [p0] at this
    exact this
end
