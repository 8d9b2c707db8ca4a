/-! loops whose state is told by a relation -/
theorem ev_rel1 {X J ρ : Type} (R : X → J → Prop) (S Z : Nat → J → ρ) (f : Nat → X → X) (n z : Nat) (hex : ∀ x v, R x v → ∃ v', R x v' ∧ S n v = Z z v') (hst : ∀ i x v, i < n → R x v → ∃ v', R (f i x) v' ∧ S i v = S (i + 1) v') : ∀ k i, i + k = n → ∀ x v, R x v → ∃ v', R ((rg i n).foldl (fun x i => f i x) x) v' ∧ S i v = Z z v' := by
  intro k
  induction k with
  | zero =>
    intro i hi x v h
    obtain rfl : i = n := by omega
    rw [rg_end]
    exact hex x v h
  | succ k ih =>
    intro i hi x v h
    rw [rg_cons (show i < n by omega)]
    obtain ⟨v1, r1, e1⟩ := hst i x v (by omega) h
    obtain ⟨v2, r2, e2⟩ := ih (i + 1) (by omega) _ v1 r1
    exact ⟨v2, r2, e1.trans e2⟩
theorem ev_rel1' {X J ρ : Type} (R : X → J → Prop) (S Z : Nat → J → ρ) (f : Nat → X → X) (a n z : Nat) (han : a ≤ n) (hex : ∀ x v, R x v → ∃ v', R x v' ∧ S n v = Z z v') (hst : ∀ i x v, a ≤ i → i < n → R x v → ∃ v', R (f i x) v' ∧ S i v = S (i + 1) v') (x : X) (v : J) (h : R x v) : ∃ v', R ((rg a n).foldl (fun x i => f i x) x) v' ∧ S a v = Z z v' := by
  have : ∀ k i, a ≤ i → i + k = n → ∀ x v, R x v → ∃ v', R ((rg i n).foldl (fun x i => f i x) x) v' ∧ S i v = Z z v' := by
    intro k
    induction k with
    | zero =>
      intro i _ hi x v h
      obtain rfl : i = n := by omega
      rw [rg_end]
      exact hex x v h
    | succ k ih =>
      intro i hai hi x v h
      rw [rg_cons (show i < n by omega)]
      obtain ⟨v1, r1, e1⟩ := hst i x v hai (by omega) h
      obtain ⟨v2, r2, e2⟩ := ih (i + 1) (by omega) (by omega) _ v1 r1
      exact ⟨v2, r2, e1.trans e2⟩
  exact this (n - a) a (Nat.le_refl _) (by omega) x v h
theorem ev_rel2 {X J ρ : Type} (R : X → J → Prop) (S1 : Nat → J → ρ) (S2 : Nat → Nat → J → ρ) (Z : J → ρ) (f : Nat → Nat → X → X) (n : Nat)
    (x1 : ∀ x v, R x v → ∃ v', R x v' ∧ S1 n v = Z v') (e1 : ∀ a x v, a < n → R x v → ∃ v', R x v' ∧ S1 a v = S2 a (a + 1) v') (x2 : ∀ a x v, a < n → R x v → ∃ v', R x v' ∧ S2 a n v = S1 (a + 1) v')
    (e2 : ∀ a b x v, a < b → b < n → R x v → ∃ v', R (f a b x) v' ∧ S2 a b v = S2 a (b + 1) v') (x : X) (v : J) (h : R x v) : ∃ v', R ((prs n).foldl (fun x t => f t.1 t.2 x) x) v' ∧ S1 0 v = Z v' := by
  have := ev_rel1' R S1 (fun _ => Z) (fun a x => (rg (a + 1) n).foldl (fun x b => f a b x) x) 0 n 0 (Nat.zero_le _) x1 (fun a x v _ ha h => by
    obtain ⟨v1, r1, h1⟩ := e1 a x v ha h
    obtain ⟨v2, r2, h2⟩ := ev_rel1' R (S2 a) S1 (fun b x => f a b x) (a + 1) n (a + 1) (by omega) (fun x v h => x2 a x v ha h) (fun b x v hab hb h => e2 a b x v hab hb h) x v1 r1
    exact ⟨v2, r2, h1.trans h2⟩) x v h
  simp only [prs, List.foldl_flatMap, List.foldl_map]
  exact this
theorem ev_rel4 {X J ρ : Type} (R : X → J → Prop) (S1 : Nat → J → ρ) (S2 : Nat → Nat → J → ρ) (S3 : Nat → Nat → Nat → J → ρ) (S4 : Nat → Nat → Nat → Nat → J → ρ) (Z : J → ρ) (f : Nat → Nat → Nat → Nat → X → X) (n : Nat)
    (x1 : ∀ x v, R x v → ∃ v', R x v' ∧ S1 n v = Z v') (e1 : ∀ a x v, a < n → R x v → ∃ v', R x v' ∧ S1 a v = S2 a (a + 1) v') (x2 : ∀ a x v, a < n → R x v → ∃ v', R x v' ∧ S2 a n v = S1 (a + 1) v')
    (e2 : ∀ a b x v, a < b → b < n → R x v → ∃ v', R x v' ∧ S2 a b v = S3 a b (b + 1) v') (x3 : ∀ a b x v, a < b → b < n → R x v → ∃ v', R x v' ∧ S3 a b n v = S2 a (b + 1) v')
    (e3 : ∀ a b c x v, a < b → b < c → c < n → R x v → ∃ v', R x v' ∧ S3 a b c v = S4 a b c (c + 1) v') (x4 : ∀ a b c x v, a < b → b < c → c < n → R x v → ∃ v', R x v' ∧ S4 a b c n v = S3 a b (c + 1) v')
    (e4 : ∀ a b c d x v, a < b → b < c → c < d → d < n → R x v → ∃ v', R (f a b c d x) v' ∧ S4 a b c d v = S4 a b c (d + 1) v') (x : X) (v : J) (h : R x v) : ∃ v', R ((quad n).foldl (fun x t => f t.1 t.2.1 t.2.2.1 t.2.2.2 x) x) v' ∧ S1 0 v = Z v' := by
  have := ev_rel1' R S1 (fun _ => Z) (fun a x => (rg (a + 1) n).foldl (fun x b => (rg (b + 1) n).foldl (fun x c => (rg (c + 1) n).foldl (fun x d => f a b c d x) x) x) x) 0 n 0 (Nat.zero_le _) x1 (fun a x v _ ha h => by
    obtain ⟨v1, r1, h1⟩ := e1 a x v ha h
    obtain ⟨v2, r2, h2⟩ := ev_rel1' R (S2 a) S1 (fun b x => (rg (b + 1) n).foldl (fun x c => (rg (c + 1) n).foldl (fun x d => f a b c d x) x) x) (a + 1) n (a + 1) (by omega) (fun x v h => x2 a x v ha h) (fun b x v hab hb h => by
      obtain ⟨v1, r1, h1⟩ := e2 a b x v hab hb h
      obtain ⟨v2, r2, h2⟩ := ev_rel1' R (S3 a b) (S2 a) (fun c x => (rg (c + 1) n).foldl (fun x d => f a b c d x) x) (b + 1) n (b + 1) (by omega) (fun x v h => x3 a b x v hab hb h) (fun c x v hbc hc h => by
        obtain ⟨v1, r1, h1⟩ := e3 a b c x v hab hbc hc h
        obtain ⟨v2, r2, h2⟩ := ev_rel1' R (S4 a b c) (S3 a b) (fun d x => f a b c d x) (c + 1) n (c + 1) (by omega) (fun x v h => x4 a b c x v hab hbc hc h) (fun d x v hcd hd h => e4 a b c d x v hab hbc hcd hd h) x v1 r1
        exact ⟨v2, r2, h1.trans h2⟩) x v1 r1
      exact ⟨v2, r2, h1.trans h2⟩) x v1 r1
    exact ⟨v2, r2, h1.trans h2⟩) x v h
  simp only [quad, List.foldl_flatMap, List.foldl_map]
  exact this
/-! signs, and keys told by digits -/
def isSg (s : Int32) : Prop := s = -1 ∨ s = 0 ∨ s = 1
def sd (s : Int32) : Nat := if s = -1 then 0 else if s = 0 then 1 else 2
theorem sd_ok {s : Int32} (h : isSg s) : s + nI 1 = nI (sd s) ∧ sd s < 3 := by
  rcases h with rfl | rfl | rfl <;> decide
theorem isSg_neg {s : Int32} (h : isSg s) : isSg (-s) := by
  rcases h with rfl | rfl | rfl
  · exact Or.inr (Or.inr rfl)
  · exact Or.inr (Or.inl rfl)
  · exact Or.inl rfl
theorem kO_lt' : ∀ {l : List Nat} {k : Nat}, (∀ e ∈ l, e < 4) → l.foldl (fun k e => 4 * k + e) k < (k + 1) * 4 ^ l.length
  | [], k, _ => by simp
  | a :: l, k, h => by
    have h1 := h a List.mem_cons_self
    have := kO_lt' (l := l) (k := 4 * k + a) (fun e he => h e (List.mem_cons_of_mem _ he))
    rw [List.foldl_cons, List.length_cons, Nat.pow_succ, Nat.mul_comm (4 ^ l.length) 4, ← Nat.mul_assoc]
    exact Nat.lt_of_lt_of_le this (Nat.mul_le_mul_right _ (by omega))
theorem kO_lt {l : List Nat} (h : ∀ e ∈ l, e < 4) (hl : l.length ≤ 6) : kO l < 4096 := by
  have := kO_lt' (k := 0) h
  have h2 : 4 ^ l.length ≤ 4 ^ 6 := Nat.pow_le_pow_right (by decide) hl
  unfold kO
  omega
theorem kO_op' : ∀ {l : List Nat} {k k' z : Nat}, (∀ e ∈ l, e < 3) → k + k' = 2 * z → l.foldl (fun k e => 4 * k + e) k + (l.map (2 - ·)).foldl (fun k e => 4 * k + e) k' = 2 * (List.replicate l.length 1).foldl (fun k e => 4 * k + e) z
  | [], k, k', z, _, h => h
  | a :: l, k, k', z, h, hz => by
    have h1 := h a List.mem_cons_self
    rw [List.map_cons, List.foldl_cons, List.foldl_cons, List.length_cons, List.replicate_succ, List.foldl_cons]
    exact kO_op' (fun e he => h e (List.mem_cons_of_mem _ he)) (by omega)
theorem kO_op {l : List Nat} (h : ∀ e ∈ l, e < 3) : kO l + kO (l.map (2 - ·)) = 2 * kO (List.replicate l.length 1) := kO_op' h rfl
