/-! a cocircuit within X, through each place of X: X at right angles to all circuits -/
section
variable {χ : Nat → Nat → Nat → Nat} {K a b c e f : Nat} {X : Nat → Nat}
theorem oqX_z6 (hX : oqX χ) (h : ∀ t ∈ trip 6, χ t.1 t.2.1 t.2.2 = 1) (ha : a < 6) (hb : b < 6) (hc : c < 6) : χ a b c = 1 := by
  have h : ∀ x y z, x < y → y < z → z < 6 → χ x y z = 1 := fun x y z h1 h2 h3 => h (x, y, z) (trip_mem.mpr ⟨h1, h2, h3⟩)
  have f1 := oqX_s1 hX a b c
  have f2 := oqX_s2 hX a b c
  have f3 := oqX_s2 hX b a c
  have f4 := oqX_s1 hX a c b
  have f5 := oqX_s1 hX b c a
  have l := oqX_lt hX a b c
  by_cases e1 : a = b
  · rw [e1]; exact oqX_d1 hX b c
  by_cases e2 : b = c
  · rw [e2]; exact oqX_d2 hX a c
  by_cases e3 : a = c
  · rw [e3]; exact oqX_d3 hX c b
  by_cases h1 : a < b <;> by_cases h2 : b < c <;> by_cases h3 : a < c
  · exact h a b c h1 h2 hc
  · omega
  · have := h a c b h3 (by omega) hb; omega
  · have := h c a b (by omega) h1 hb; omega
  · have := h b a c (by omega) h3 hc; omega
  · have := h b c a h2 (by omega) ha; omega
  · omega
  · have := h c b a (by omega) (by omega) ha; omega
def oqNl : List (Nat × Nat × Nat × Nat) := (trip 6).map fun t => (2, t.1, t.2.1, t.2.2)
theorem oqRn_1 : (oqR_1.all fun l => decide (l = oqNl)) = true := by decide +kernel
theorem oqRn_2 : (oqR_2.all fun l => decide (l = oqNl)) = true := by decide +kernel
theorem oqRn_3 : (oqR_3.all fun l => decide (l = oqNl)) = true := by decide +kernel
theorem oqRn_4 : (oqR_4.all fun l => decide (l = oqNl)) = true := by decide +kernel
theorem oqRn_5 : (oqR_5.all fun l => decide (l = oqNl)) = true := by decide +kernel
theorem oqRn_6 : (oqR_6.all fun l => decide (l = oqNl) || (rg 1 5).any fun i => decide (l = [(1, 0, i, i + 1)])) = true := by decide +kernel
theorem oqNl_s (hX : oqX χ) (hz : ∃ t ∈ trip 6, χ t.1 t.2.1 t.2.2 ≠ 1) : oqSat χ oqNl := by
  obtain ⟨t, ht, h⟩ := hz
  unfold oqSat
  cases hh : oqNl.all fun y => y.1.testBit (χ y.2.1 y.2.2.1 y.2.2.2) with
  | false => rfl
  | true => exact absurd ((oqt2_1 _ (oqX_lt hX _ _ _)).mp (List.all_eq_true.mp hh (2, t.1, t.2.1, t.2.2) (List.mem_map.mpr ⟨t, ht, rfl⟩))) h
theorem oqH_s (hX : oqX χ) {i : Nat} (h : χ 0 i (i + 1) ≠ 0) : oqSat χ [(1, 0, i, i + 1)] := by
  unfold oqSat
  show ((1 : Nat).testBit (χ 0 i (i + 1)) && true) = false
  have := oqX_lt hX 0 i (i + 1)
  match hd : χ 0 i (i + 1), this, h with
  | 1, _, _ => rfl
  | 2, _, _ => rfl
theorem oqG_no (hX : oqX χ) (h : ¬ ∃ a b s, (0 < a ∧ a < 6 ∧ 0 < b ∧ b < 6) ∧ ∀ f, f < 6 → f ≠ a → f ≠ b → (oqMk K s f).testBit (χ a b f) = true) : ∀ a b s, 0 < a → a < 6 → 0 < b → b < 6 → 0 < K → oqSat χ (oqRw K (oqDg a b s)) := by
  intro a b s h1 h2 h3 h4 _
  unfold oqSat
  cases hh : (oqRw K (oqDg a b s)).all fun y => y.1.testBit (χ y.2.1 y.2.2.1 y.2.2.2) with
  | false => rfl
  | true =>
    refine absurd ⟨a, b, s, ⟨h1, h2, h3, h4⟩, fun f hf e1 e2 => ?_⟩ h
    exact List.all_eq_true.mp hh (oqMk K s f, a, b, f) (List.mem_map.mpr ⟨f, List.mem_filter.mpr ⟨rg_mem.mpr ⟨Nat.zero_le _, hf⟩, decide_eq_true ⟨e1, e2⟩⟩, rfl⟩)
/-- the searches at once -/
theorem oqK_ex (hX : oqX χ) (hz : ∃ t ∈ trip 6, χ t.1 t.2.1 t.2.2 ≠ 1) (h1 : 1 ≤ K) (h6 : K ≤ 6) (hO : ∀ p q r s, oqO (oqXK K) χ p q r s = true) (hh : K = 6 → ∀ i, 1 ≤ i → i < 5 → χ 0 i (i + 1) ≠ 0) : ∃ a b s, (0 < a ∧ a < 6 ∧ 0 < b ∧ b < 6) ∧ ∀ f, f < 6 → f ≠ a → f ≠ b → (oqMk K s f).testBit (χ a b f) = true := by
  refine Classical.byContradiction fun hn => ?_
  have hg := oqG_no hX hn
  have n : ∀ {R : List (List (Nat × Nat × Nat × Nat))}, (R.all fun l => decide (l = oqNl)) = true → ∀ l ∈ R, oqSat χ l := fun h l hl => by
    rw [of_decide_eq_true (List.all_eq_true.mp h l hl)]
    exact oqNl_s hX hz
  match K, h1, h6, hO, hh, hg with
  | 1, _, _, hO, _, hg => exact oq_no hX oqS_1 oqU_1 oqr_1 (n oqRn_1) hg hO
  | 2, _, _, hO, _, hg => exact oq_no hX oqS_2 oqU_2 oqr_2 (n oqRn_2) hg hO
  | 3, _, _, hO, _, hg => exact oq_no hX oqS_3 oqU_3 oqr_3 (n oqRn_3) hg hO
  | 4, _, _, hO, _, hg => exact oq_no hX oqS_4 oqU_4 oqr_4 (n oqRn_4) hg hO
  | 5, _, _, hO, _, hg => exact oq_no hX oqS_5 oqU_5 oqr_5 (n oqRn_5) hg hO
  | 6, _, _, hO, hh, hg =>
    refine oq_no hX oqS_6 oqU_6 oqr_6 (fun l hl => ?_) hg hO
    rcases Bool.or_eq_true_iff.mp (List.all_eq_true.mp oqRn_6 l hl) with h | h
    · rw [of_decide_eq_true h]
      exact oqNl_s hX hz
    · obtain ⟨i, hi, e⟩ := List.any_eq_true.mp h
      have hi := rg_mem.mp hi
      rw [of_decide_eq_true e]
      exact oqH_s hX (hh rfl i hi.1 hi.2)
/-- turned so that X has no minus -/
def oqRh (X : Nat → Nat) (f : Nat) : Nat := if X f = 0 then 1 else 0
def oqXc (X : Nat → Nat) (χ : Nat → Nat → Nat → Nat) (a b c : Nat) : Nat := oqF (oqRh X a + oqRh X b + oqRh X c) (χ a b c)
def oqXp (X : Nat → Nat) (f : Nat) : Nat := oqF (oqRh X f) (X f)
theorem oqF_lt {e d : Nat} (h : d < 3) : oqF e d < 3 := by
  unfold oqF
  split <;> omega
theorem oqF_1 {e d : Nat} (h : d < 3) : oqF e d = 1 ↔ d = 1 := by
  unfold oqF
  split <;> omega
theorem oqF_n {e d : Nat} (h : d < 3) : oqF e (2 - d) = 2 - oqF e d := by
  unfold oqF
  split <;> omega
theorem oqF_F {e f d : Nat} (h : d < 3) : oqF e (oqF f d) = oqF (e + f) d := by
  unfold oqF
  split <;> split <;> split <;> omega
theorem oqPd_Fm {e f p q : Nat} (hp : p < 3) (hq : q < 3) : oqPd (oqF e p) (oqF f q) = oqF (e + f) (oqPd p q) := by
  rw [← oqF_mod, ← oqF_mod (e := f), oqPd_F _ (Nat.mod_lt _ (by decide)) _ (Nat.mod_lt _ (by decide)) _ hp _ hq, ← oqF_mod, ← oqF_mod (e := e + f)]
  congr 1
  omega
theorem oqF_p {e f d : Nat} (h : e % 2 = f % 2) : oqF e d = oqF f d := by
  rw [← oqF_mod, h, oqF_mod]
theorem oqO3_Fm {e x y z : Nat} (hx : x < 3) (hy : y < 3) (hz : z < 3) : oqO3 (oqF e x) (2 - oqF e y) (oqF e z) = oqO3 x (2 - y) z := by
  have h := oqO3_F (e % 2) (Nat.mod_lt _ (by decide)) x hx y hy z hz
  rw [oqF_mod, oqF_mod, oqF_mod] at h
  exact h
theorem oqXc_ok (hX : oqX χ) : oqX (oqXc X χ) := by
  have L := oqX_lt hX
  refine ⟨fun a b c => oqF_lt (L _ _ _), fun a b c => ?_, fun a b c => ?_, fun a b c d e => ?_, fun x y z a b c h1 h2 => ?_⟩
  · unfold oqXc
    rw [oqX_s1 hX a b c, oqF_n (L _ _ _), oqF_p (show (oqRh X b + oqRh X a + oqRh X c) % 2 = (oqRh X a + oqRh X b + oqRh X c) % 2 by omega)]
  · unfold oqXc
    rw [oqX_s2 hX a b c, oqF_n (L _ _ _), oqF_p (show (oqRh X a + oqRh X c + oqRh X b) % 2 = (oqRh X a + oqRh X b + oqRh X c) % 2 by omega)]
  · unfold oqXc
    rw [oqPd_Fm (L _ _ _) (L _ _ _), oqPd_Fm (L _ _ _) (L _ _ _), oqPd_Fm (L _ _ _) (L _ _ _), oqF_p (show (oqRh X a + oqRh X b + oqRh X c + (oqRh X a + oqRh X d + oqRh X e)) % 2 = (oqRh X b + oqRh X c + oqRh X d + oqRh X e) % 2 by omega), oqF_p (show (oqRh X a + oqRh X b + oqRh X d + (oqRh X a + oqRh X c + oqRh X e)) % 2 = (oqRh X b + oqRh X c + oqRh X d + oqRh X e) % 2 by omega), oqF_p (show (oqRh X a + oqRh X b + oqRh X e + (oqRh X a + oqRh X c + oqRh X d)) % 2 = (oqRh X b + oqRh X c + oqRh X d + oqRh X e) % 2 by omega), oqO3_Fm oqPd_lt oqPd_lt oqPd_lt]
    exact oqX_five hX a b c d e
  · unfold oqXc at h1 h2 ⊢
    have N : ∀ i j k, oqF (oqRh X i + oqRh X j + oqRh X k) (χ i j k) ≠ 1 ↔ χ i j k ≠ 1 := fun i j k => not_congr (oqF_1 (L _ _ _))
    rw [N] at h1 h2
    rw [N, N, N]
    exact oqX_ex hX x y z a b c h1 h2
theorem oqO4_F : ∀ e, e < 2 → ∀ x, x < 3 → ∀ y, y < 3 → ∀ z, z < 3 → ∀ w, w < 3 → oqO4 (oqF e x) (2 - oqF e y) (oqF e z) (2 - oqF e w) = oqO4 x (2 - y) z (2 - w) := by decide +kernel
theorem oqO4_Fm {e x y z w : Nat} (hx : x < 3) (hy : y < 3) (hz : z < 3) (hw : w < 3) : oqO4 (oqF e x) (2 - oqF e y) (oqF e z) (2 - oqF e w) = oqO4 x (2 - y) z (2 - w) := by
  have h := oqO4_F (e % 2) (Nat.mod_lt _ (by decide)) x hx y hy z hz w hw
  rw [oqF_mod, oqF_mod, oqF_mod, oqF_mod] at h
  exact h
theorem oqXc_O (hX : oqX χ) (hXl : ∀ f, X f < 3) (hO : ∀ p q r s, oqO X χ p q r s = true) (p q r s : Nat) : oqO (oqXp X) (oqXc X χ) p q r s = true := by
  have L := oqX_lt hX
  unfold oqO oqXp oqXc
  rw [oqPd_Fm (hXl _) (L _ _ _), oqPd_Fm (hXl _) (L _ _ _), oqPd_Fm (hXl _) (L _ _ _), oqPd_Fm (hXl _) (L _ _ _), oqF_p (show (oqRh X p + (oqRh X q + oqRh X r + oqRh X s)) % 2 = (oqRh X p + oqRh X q + oqRh X r + oqRh X s) % 2 by omega), oqF_p (show (oqRh X q + (oqRh X p + oqRh X r + oqRh X s)) % 2 = (oqRh X p + oqRh X q + oqRh X r + oqRh X s) % 2 by omega), oqF_p (show (oqRh X r + (oqRh X p + oqRh X q + oqRh X s)) % 2 = (oqRh X p + oqRh X q + oqRh X r + oqRh X s) % 2 by omega), oqF_p (show (oqRh X s + (oqRh X p + oqRh X q + oqRh X r)) % 2 = (oqRh X p + oqRh X q + oqRh X r + oqRh X s) % 2 by omega), oqO4_Fm oqPd_lt oqPd_lt oqPd_lt oqPd_lt]
  exact hO p q r s
theorem oqXp_2 (hXl : ∀ f, X f < 3) : oqXp X f = if X f = 1 then 1 else 2 := by
  have := hXl f
  unfold oqXp oqF oqRh
  split <;> split <;> split <;> omega
/-- a chain by a relation that holds one way at least -/
def oqIn (r : Nat → Nat → Bool) (x : Nat) : List Nat → List Nat
  | [] => [x]
  | y :: l => if r x y = true then x :: y :: l else y :: oqIn r x l
def oqSo (r : Nat → Nat → Bool) : List Nat → List Nat
  | [] => []
  | x :: l => oqIn r x (oqSo r l)
def oqCh (r : Nat → Nat → Bool) : Nat → List Nat → Prop
  | _, [] => True
  | x, y :: l => r x y = true ∧ oqCh r y l
def oqCl' (r : Nat → Nat → Bool) : List Nat → Prop
  | [] => True
  | x :: l => oqCh r x l
section
variable {r : Nat → Nat → Bool}
theorem oqIn_m {x y : Nat} : ∀ {l : List Nat}, y ∈ oqIn r x l ↔ y = x ∨ y ∈ l
  | [] => by simp [oqIn]
  | z :: l => by
    unfold oqIn
    split
    · simp
    · rw [List.mem_cons, oqIn_m, List.mem_cons]
      constructor
      · rintro (h | h | h)
        · exact Or.inr (Or.inl h)
        · exact Or.inl h
        · exact Or.inr (Or.inr h)
      · rintro (h | h | h)
        · exact Or.inr (Or.inl h)
        · exact Or.inl h
        · exact Or.inr (Or.inr h)
theorem oqIn_l {x : Nat} : ∀ {l : List Nat}, (oqIn r x l).length = l.length + 1
  | [] => rfl
  | z :: l => by
    unfold oqIn
    split
    · rfl
    · rw [List.length_cons, oqIn_l, List.length_cons]
theorem oqSo_m {y : Nat} : ∀ {l : List Nat}, y ∈ oqSo r l ↔ y ∈ l
  | [] => Iff.rfl
  | x :: l => by
    show y ∈ oqIn r x (oqSo r l) ↔ _
    rw [oqIn_m, oqSo_m, List.mem_cons]
theorem oqSo_l : ∀ {l : List Nat}, (oqSo r l).length = l.length
  | [] => rfl
  | x :: l => by
    show (oqIn r x (oqSo r l)).length = _
    rw [oqIn_l, oqSo_l, List.length_cons]
theorem oqIn_h (hr : ∀ x y, r x y = true ∨ r y x = true) {x y : Nat} : ∀ {l : List Nat} {z : Nat}, r z x = true → oqCh r z l → oqCh r z (oqIn r x l)
  | [], z, h, _ => ⟨h, trivial⟩
  | w :: l, z, h, hc => by
    unfold oqIn
    split
    · next hw => exact ⟨h, hw, hc.2⟩
    · next hw => exact ⟨hc.1, oqIn_h hr (x := x) (y := y) ((hr x w).resolve_left hw) hc.2⟩
theorem oqIn_c (hr : ∀ x y, r x y = true ∨ r y x = true) {x : Nat} : ∀ {l : List Nat}, oqCl' r l → oqCl' r (oqIn r x l)
  | [], _ => trivial
  | w :: l, hc => by
    unfold oqIn
    split
    · next hw => exact ⟨hw, hc⟩
    · next hw => exact oqIn_h hr (y := 0) ((hr x w).resolve_left hw) hc
theorem oqSo_c (hr : ∀ x y, r x y = true ∨ r y x = true) : ∀ {l : List Nat}, oqCl' r (oqSo r l)
  | [] => trivial
  | x :: l => oqIn_c hr (oqSo_c hr)
theorem oqCh_at : ∀ {l : List Nat} {z i : Nat}, oqCh r z l → i < l.length → r ((z :: l).getD i 6) (l.getD i 6) = true
  | [], _, _, _, h => absurd h (Nat.not_lt_zero _)
  | w :: l, z, 0, hc, _ => hc.1
  | w :: l, z, i + 1, hc, h => oqCh_at (l := l) (z := w) hc.2 (by rw [List.length_cons] at h; omega)
end
theorem oqGt {P : Nat → Nat} : ∀ {A B : List Nat} {i : Nat}, (∀ x ∈ A, P x = 2) → (∀ x ∈ B, P x = 1) → P 6 = 1 → P ((A ++ B).getD i 6) = if i < A.length then 2 else 1
  | [], [], i, _, _, h => h.trans (if_neg (Nat.not_lt_zero i)).symm
  | [], b :: B, 0, _, hB, _ => (hB b List.mem_cons_self).trans (if_neg (Nat.lt_irrefl 0)).symm
  | [], b :: B, i + 1, hA, hB, h => by
    have := oqGt (A := []) (B := B) (i := i) hA (fun x hx => hB x (List.mem_cons_of_mem _ hx)) h
    exact this.trans ((if_neg (Nat.not_lt_zero _)).trans (if_neg (Nat.not_lt_zero _)).symm)
  | a :: A, B, 0, hA, _, _ => (hA a List.mem_cons_self).trans (if_pos (Nat.succ_pos _)).symm
  | a :: A, B, i + 1, hA, hB, h => by
    have := oqGt (A := A) (B := B) (i := i) (fun x hx => hA x (List.mem_cons_of_mem _ hx)) hB h
    rw [show ((a :: A) ++ B).getD (i + 1) 6 = (A ++ B).getD i 6 from rfl, this, List.length_cons]
    by_cases hi : i < A.length
    · rw [if_pos hi, if_pos (by omega)]
    · rw [if_neg hi, if_neg (by omega)]
theorem oqMem_at : ∀ {l : List Nat} {x : Nat}, x ∈ l → ∃ i, i < l.length ∧ l.getD i 6 = x
  | a :: l, x, h => by
    rcases List.mem_cons.mp h with rfl | h
    · exact ⟨0, Nat.succ_pos _, rfl⟩
    · obtain ⟨i, hi, e⟩ := oqMem_at h
      exact ⟨i + 1, by rw [List.length_cons]; omega, e⟩
end
