/-! a search through signs -/
abbrev oqL : Type := List (List (Nat × Nat)) × List (Nat × List Nat)
abbrev oqT : Type := Nat × Nat × Nat
def oqG (A i : Nat) : Nat := (A >>> i) % 4
def oqA (A : Nat) : List (Nat × Nat) → Bool
  | [] => true
  | x :: l => x.1.testBit (oqG A x.2) && oqA A l
def oqI (A : Nat) : List Nat → Nat → Nat
  | [], s => s
  | i :: l, s => oqI A l (s * 4 + oqG A i)
def oqB (A : Nat) (L : oqL) : Bool := L.1.any (oqA A) || L.2.any fun c => !c.1.testBit (oqI A c.2 0)
/-- no signs keep all demands -/
def oqS : List oqL → Nat → Nat → Bool
  | [], _, _ => false
  | L :: r, A, p => ((oqB A L || oqS r A (p * 4)) && (oqB (A + p) L || oqS r (A + p) (p * 4))) && (oqB (A + 2 * p) L || oqS r (A + 2 * p) (p * 4))
/-- the first d signs in one number -/
def oqV (v : Nat → Nat) : Nat → Nat
  | 0 => 0
  | d + 1 => oqV v d + v d * 4 ^ d
section
variable {v : Nat → Nat}
theorem oqV_lt (hv : ∀ i, v i < 3) : ∀ d, oqV v d < 4 ^ d
  | 0 => Nat.one_pos
  | d + 1 => by
    have h := oqV_lt hv d
    have h2 : v d * 4 ^ d ≤ 2 * 4 ^ d := Nat.mul_le_mul_right _ (by have := hv d; omega)
    rw [show oqV v (d + 1) = oqV v d + v d * 4 ^ d from rfl, Nat.pow_succ]
    omega
theorem oqV_g (hv : ∀ i, v i < 3) {i : Nat} : ∀ d, i < d → oqG (oqV v d) (2 * i) = v i
  | 0, h => absurd h (Nat.not_lt_zero i)
  | d + 1, h => by
    have hd := oqV_lt hv d
    have e4 : (2 : Nat) ^ (2 * i) = 4 ^ i := by rw [Nat.pow_mul]
    unfold oqG
    rw [show oqV v (d + 1) = oqV v d + v d * 4 ^ d from rfl, Nat.shiftRight_eq_div_pow, e4]
    by_cases hi : i = d
    · subst hi
      rw [Nat.add_mul_div_right _ _ (Nat.pow_pos (by decide)), Nat.div_eq_of_lt hd, Nat.zero_add]
      have := hv i
      omega
    · have ih := oqV_g hv d (show i < d by omega)
      unfold oqG at ih
      rw [Nat.shiftRight_eq_div_pow, e4] at ih
      have e : v d * 4 ^ d = (v d * 4 ^ (d - i - 1) * 4) * 4 ^ i := by
        rw [Nat.mul_assoc, Nat.mul_assoc, Nat.mul_comm 4, ← Nat.pow_succ, ← Nat.pow_add]
        congr 2
        omega
      rw [e, Nat.add_mul_div_right _ _ (Nat.pow_pos (by decide)), Nat.add_mul_mod_self_right]
      exact ih
theorem oqS_ok (hv : ∀ i, v i < 3) : ∀ (Ls : List oqL) (d : Nat), oqS Ls (oqV v d) (4 ^ d) = true → ∃ j L, Ls[j]? = some L ∧ oqB (oqV v (d + j + 1)) L = true
  | [], d, h => by cases h
  | L :: r, d, h => by
    have h : ((oqB (oqV v d) L || oqS r (oqV v d) (4 ^ d * 4)) && (oqB (oqV v d + 4 ^ d) L || oqS r (oqV v d + 4 ^ d) (4 ^ d * 4)) && (oqB (oqV v d + 2 * 4 ^ d) L || oqS r (oqV v d + 2 * 4 ^ d) (4 ^ d * 4))) = true := h
    rw [Bool.and_eq_true_iff, Bool.and_eq_true_iff] at h
    obtain ⟨⟨h0, h1⟩, h2⟩ := h
    have key : (oqB (oqV v (d + 1)) L || oqS r (oqV v (d + 1)) (4 ^ (d + 1))) = true := by
      rw [show oqV v (d + 1) = oqV v d + v d * 4 ^ d from rfl, Nat.pow_succ]
      have := hv d
      match hd : v d, this with
      | 0, _ => rw [Nat.zero_mul]; exact h0
      | 1, _ => rw [Nat.one_mul]; exact h1
      | 2, _ => exact h2
    rcases Bool.or_eq_true_iff.mp key with k | k
    · exact ⟨0, L, rfl, k⟩
    · obtain ⟨j, L', e, hb⟩ := oqS_ok hv r (d + 1) k
      exact ⟨j + 1, L', e, by rw [show d + (j + 1) + 1 = d + 1 + j + 1 by omega]; exact hb⟩
/-- all places told before the end -/
def oqU (d : Nat) (L : oqL) : Bool := L.1.all (fun l => l.all fun x => decide (x.2 % 2 = 0 ∧ x.2 / 2 < d)) && L.2.all fun c => c.2.all fun i => decide (i % 2 = 0 ∧ i / 2 < d)
def oqUs : Nat → List oqL → Bool
  | _, [] => true
  | d, L :: r => oqU (d + 1) L && oqUs (d + 1) r
theorem oqUs_at : ∀ (Ls : List oqL) (d j : Nat) (L : oqL), oqUs d Ls = true → Ls[j]? = some L → oqU (d + j + 1) L = true
  | [], _, _, _, _, h => by simp at h
  | L :: r, d, 0, L', h, e => by
    obtain rfl : L = L' := by simpa using e
    exact (Bool.and_eq_true_iff.mp (show (oqU (d + 1) L && oqUs (d + 1) r) = true from h)).1
  | L :: r, d, j + 1, L', h, e => by
    rw [show d + (j + 1) + 1 = d + 1 + j + 1 by omega]
    exact oqUs_at r (d + 1) j L' (Bool.and_eq_true_iff.mp (show (oqU (d + 1) L && oqUs (d + 1) r) = true from h)).2 (by simpa using e)
/-- a number told by its digits -/
def oqN (w : Nat → Nat) : List Nat → Nat → Nat
  | [], s => s
  | i :: l, s => oqN w l (s * 4 + w (i / 2))
theorem oqA_v (hv : ∀ i, v i < 3) {d : Nat} : ∀ {l : List (Nat × Nat)}, (l.all fun x => decide (x.2 % 2 = 0 ∧ x.2 / 2 < d)) = true → oqA (oqV v d) l = l.all fun x => x.1.testBit (v (x.2 / 2))
  | [], _ => rfl
  | x :: l, h => by
    rw [List.all_cons, Bool.and_eq_true_iff] at h
    have h1 := of_decide_eq_true h.1
    have e := oqV_g hv d h1.2
    rw [show 2 * (x.2 / 2) = x.2 by omega] at e
    rw [show oqA (oqV v d) (x :: l) = (x.1.testBit (oqG (oqV v d) x.2) && oqA (oqV v d) l) from rfl, e, oqA_v hv h.2, List.all_cons]
theorem oqI_v (hv : ∀ i, v i < 3) {d : Nat} : ∀ {l : List Nat} {s : Nat}, (l.all fun i => decide (i % 2 = 0 ∧ i / 2 < d)) = true → oqI (oqV v d) l s = oqN v l s
  | [], _, _ => rfl
  | i :: l, s, h => by
    rw [List.all_cons, Bool.and_eq_true_iff] at h
    have h1 := of_decide_eq_true h.1
    have e := oqV_g hv d h1.2
    rw [show 2 * (i / 2) = i by omega] at e
    rw [show oqI (oqV v d) (i :: l) s = oqI (oqV v d) l (s * 4 + oqG (oqV v d) i) from rfl, e, oqI_v hv h.2]
    rfl
theorem oqS_no (hv : ∀ i, v i < 3) {Ls : List oqL} (hS : oqS Ls 0 1 = true) (hU : oqUs 0 Ls = true) : ∃ L ∈ Ls, (∃ l ∈ L.1, (l.all fun x => x.1.testBit (v (x.2 / 2))) = true) ∨ ∃ c ∈ L.2, c.1.testBit (oqN v c.2 0) = false := by
  obtain ⟨j, L, e, hb⟩ := oqS_ok hv Ls 0 hS
  have hu := oqUs_at Ls 0 j L hU e
  refine ⟨L, List.mem_of_getElem? e, ?_⟩
  unfold oqU at hu
  rw [Bool.and_eq_true_iff] at hu
  unfold oqB at hb
  rcases Bool.or_eq_true_iff.mp hb with k | k
  · obtain ⟨l, hl, h⟩ := List.any_eq_true.mp k
    exact Or.inl ⟨l, hl, (oqA_v hv (List.all_eq_true.mp hu.1 l hl)).symm.trans h⟩
  · obtain ⟨c, hc, h⟩ := List.any_eq_true.mp k
    refine Or.inr ⟨c, hc, ?_⟩
    rw [oqI_v hv (List.all_eq_true.mp hu.2 c hc)] at h
    exact Bool.not_eq_true' _ ▸ h
end
