/-! the two reckonings alike: what mutation answers -/
section
variable {a b c n k i j x : Nat} {F G R : Nat → Int32} {t : Int32}
/-- how many are true -/
def cntB : List Bool → Nat
  | [] => 0
  | p :: l => (if p = true then 1 else 0) + cntB l
theorem bsm_c {p : Bool} {l : List Bool} : bsm (p :: l) 0 = 2 * bsm l 0 + (if p = true then 1 else 0) := by
  have hp : (if p = true then 1 else 0) < 2 ^ 1 := by split <;> decide
  refine Nat.eq_of_testBit_eq fun j => ?_
  have e := Nat.testBit_two_pow_mul_add (bsm l 0) hp j
  rw [show 2 ^ 1 * bsm l 0 = 2 * bsm l 0 from rfl] at e
  rw [e, bsm_tb, decide_eq_true (Nat.zero_le j), Bool.true_and, Nat.sub_zero]
  cases j with
  | zero =>
    rw [if_pos (by decide), List.getD_cons_zero]
    cases p <;> rfl
  | succ j => rw [if_neg (by omega), List.getD_cons_succ, Nat.add_sub_cancel, bsm_tb, decide_eq_true (Nat.zero_le j), Bool.true_and, Nat.sub_zero]
theorem ons_0 : ∀ r, ons r 0 = 0
  | 0 => rfl
  | r + 1 => by
    rw [show ons (r + 1) 0 = 0 % 2 + ons r (0 / 2) from rfl, Nat.zero_div, ons_0 r]
theorem ons_bsm : ∀ (r : Nat) (l : List Bool), l.length ≤ r → ons r (bsm l 0) = cntB l
  | r, [], _ => ons_0 r
  | 0, p :: l, h => by
    rw [List.length_cons] at h
    omega
  | r + 1, p :: l, h => by
    rw [List.length_cons] at h
    rw [bsm_c, show cntB (p :: l) = (if p = true then 1 else 0) + cntB l from rfl, ← ons_bsm r l (by omega)]
    generalize bsm l 0 = y
    rw [show ons (r + 1) (2 * y + (if p = true then 1 else 0)) = (2 * y + (if p = true then 1 else 0)) % 2 + ons r ((2 * y + (if p = true then 1 else 0)) / 2) from rfl]
    cases p with
    | true => rw [if_pos rfl, show (2 * y + 1) / 2 = y by omega, show (2 * y + 1) % 2 = 1 by omega]
    | false => rw [if_neg (by decide), show (2 * y + 0) / 2 = y by omega, show (2 * y + 0) % 2 = 0 by omega]
theorem bsm_lt : ∀ (l : List Bool), bsm l 0 < 2 ^ l.length
  | [] => by decide
  | p :: l => by
    have := bsm_lt l
    rw [bsm_c, List.length_cons, Nat.pow_succ]
    split <;> omega
/-- the model's count, all or one -/
theorem mt_all {g : T3 → Bool} (ht : t < 0) : ∀ (l : List T3) (i k : Nat), (l.foldl (fun (x : Nat × Int32) τ => (x.1 + 1, x.2 + if (t < 0 ∨ nI x.1 = t) ∧ g τ = true then nI 1 else nI 0)) (i, nI k)).2 = nI (k + cntB (l.map g))
  | [], i, k => rfl
  | τ :: l, i, k => by
    rw [List.foldl_cons, List.map_cons, show cntB (g τ :: l.map g) = (if g τ = true then 1 else 0) + cntB (l.map g) from rfl]
    dsimp only
    cases hg : g τ with
    | true => rw [if_pos ⟨Or.inl ht, rfl⟩, nI_add, mt_all ht l, if_pos rfl, Nat.add_assoc]
    | false => rw [if_neg (fun h => (by cases h.2)), nI_add, mt_all ht l, if_neg (by decide), Nat.zero_add, Nat.add_zero]
theorem mt_one {g : T3 → Bool} (hj : j < 1000) : ∀ (l : List T3) (i k : Nat), i + l.length < 1000 → (l.foldl (fun (x : Nat × Int32) τ => (x.1 + 1, x.2 + if (nI j < 0 ∨ nI x.1 = nI j) ∧ g τ = true then nI 1 else nI 0)) (i, nI k)).2 = nI (k + if i ≤ j ∧ (l.map g).getD (j - i) false = true then 1 else 0)
  | [], i, k, _ => by
    rw [List.map_nil, List.getD_nil, if_neg (fun h => (by cases h.2))]
    rfl
  | τ :: l, i, k, h => by
    have n0 : ¬ nI j < 0 := by
      rw [show (0 : Int32) = nI 0 from rfl, nI_ltI (by omega) (by decide)]
      omega
    rw [List.length_cons] at h
    rw [List.foldl_cons, List.map_cons]
    dsimp only
    by_cases hij : i = j
    · have e := mt_one (g := g) hj l (i + 1)
      subst hij
      rw [Nat.sub_self, List.getD_cons_zero]
      cases hg : g τ with
      | true => rw [if_pos ⟨Or.inr rfl, rfl⟩, nI_add, e _ (by omega), if_neg (show ¬ (i + 1 ≤ i ∧ _) from fun h => by omega), if_pos ⟨Nat.le_refl _, rfl⟩]
      | false => rw [if_neg (fun h => (by cases h.2)), nI_add, e _ (by omega), if_neg (show ¬ (i + 1 ≤ i ∧ _) from fun h => by omega), if_neg (fun h => (by cases h.2))]
    · have e1 : ¬ ((nI j < 0 ∨ nI i = nI j) ∧ g τ = true) := by
        rw [nI_eq (show i < 2 ^ 31 by omega) (show j < 2 ^ 31 by omega)]
        exact fun h => h.1.elim n0 hij
      rw [if_neg e1, show nI k + nI 0 = nI k from Int32.add_zero _, mt_one (g := g) hj l (i + 1) k (by omega)]
      by_cases hle : i + 1 ≤ j
      · rw [show j - i = (j - (i + 1)) + 1 by omega, List.getD_cons_succ]
        congr 2
        simp only [hle, show i ≤ j by omega, true_and]
      · rw [if_neg fun h => hle h.1, if_neg fun h => (by have := h.1; omega)]
end
