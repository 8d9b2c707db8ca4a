/-! counted loops, one in another, as folds over lists -/
theorem nI_m1 (n : Nat) : nI (n + 1) - nI 1 = nI n := by rw [pk_sub (by omega)]; rfl
theorem nI_sub {a b : Nat} (h : b ≤ a) : nI a - nI b = nI (a - b) := pk_sub h
theorem nI_one : nI 1 = 1 := rfl
theorem nI_irr (n : Nat) : ¬ nI n < nI n := Int32.lt_irrefl
theorem mu_mu {m : Mem} {k : Nat} {f g : Nat → Int32} : mu (mu m k f) k g = mu m k g := by
  funext i
  simp only [mu]
  split <;> rfl
theorem mu_self {m : Mem} {k : Nat} : mu m k (m k) = m := by
  funext i
  simp only [mu]
  split
  · next h => rw [h]
  · rfl
theorem mu_comm {m : Mem} {k j : Nat} {f g : Nat → Int32} (h : k ≠ j) : mu (mu m k f) j g = mu (mu m j g) k f := by
  funext i
  simp only [mu]
  split
  · next h1 =>
    split
    · next h2 => exact absurd (h2.symm.trans h1) h
    · rfl
  · rfl
def rg (a n : Nat) : List Nat := List.range' a (n - a)
theorem rg_end {n : Nat} : rg n n = [] := by simp [rg]
theorem rg_cons {a n : Nat} (h : a < n) : rg a n = a :: rg (a + 1) n := by
  unfold rg
  rw [show n - a = (n - (a + 1)) + 1 by omega, List.range'_succ]
theorem rg_mem {a n i : Nat} : i ∈ rg a n ↔ a ≤ i ∧ i < n := by
  simp only [rg, List.mem_range'_1]
  omega
def prs (n : Nat) : List (Nat × Nat) := (rg 0 n).flatMap fun a => (rg (a + 1) n).map fun b => (a, b)
def trip (n : Nat) : List (Nat × Nat × Nat) := (rg 0 n).flatMap fun a => (rg (a + 1) n).flatMap fun b => (rg (b + 1) n).map fun c => (a, b, c)
def quad (n : Nat) : List (Nat × Nat × Nat × Nat) := (rg 0 n).flatMap fun a => (rg (a + 1) n).flatMap fun b => (rg (b + 1) n).flatMap fun c => (rg (c + 1) n).map fun d => (a, b, c, d)
theorem prs_mem {n : Nat} {t : Nat × Nat} : t ∈ prs n ↔ t.1 < t.2 ∧ t.2 < n := by
  obtain ⟨a, b⟩ := t
  simp only [prs, List.mem_flatMap, List.mem_map, rg_mem, Prod.mk.injEq]
  constructor
  · rintro ⟨a', h1, b', h2, rfl, rfl⟩
    omega
  · intro h
    exact ⟨a, by omega, b, by omega, rfl, rfl⟩
theorem trip_mem {n : Nat} {t : Nat × Nat × Nat} : t ∈ trip n ↔ t.1 < t.2.1 ∧ t.2.1 < t.2.2 ∧ t.2.2 < n := by
  obtain ⟨a, b, c⟩ := t
  simp only [trip, List.mem_flatMap, List.mem_map, rg_mem, Prod.mk.injEq]
  constructor
  · rintro ⟨a', h1, b', h2, c', h3, rfl, rfl, rfl⟩
    omega
  · intro h
    exact ⟨a, by omega, b, by omega, c, by omega, rfl, rfl, rfl⟩
theorem quad_mem {n : Nat} {t : Nat × Nat × Nat × Nat} : t ∈ quad n ↔ t.1 < t.2.1 ∧ t.2.1 < t.2.2.1 ∧ t.2.2.1 < t.2.2.2 ∧ t.2.2.2 < n := by
  obtain ⟨a, b, c, d⟩ := t
  simp only [quad, List.mem_flatMap, List.mem_map, rg_mem, Prod.mk.injEq]
  constructor
  · rintro ⟨a', h1, b', h2, c', h3, d', h4, rfl, rfl, rfl, rfl⟩
    omega
  · intro h
    exact ⟨a, by omega, b, by omega, c, by omega, d, by omega, rfl, rfl, rfl, rfl⟩
theorem fold_inv {α X : Type} {P : X → Prop} {g : X → α → X} : ∀ {l : List α} {x : X}, (∀ a ∈ l, ∀ x, P x → P (g x a)) → P x → P (l.foldl g x)
  | [], _, _, h => h
  | a :: l, x, hs, h => fold_inv (l := l) (fun b hb => hs b (List.mem_cons_of_mem _ hb)) (hs a List.mem_cons_self x h)
/-- a loop whose state keeps P; what is junk at its end doesn't matter -/
theorem ev_for1e {X J K ρ : Type} (P : X → Prop) (S : Nat → X → J → ρ) (Z : X → K → ρ) (f : Nat → X → X) (n : Nat) (hex : ∀ x v, P x → ∃ v', S n x v = Z x v') (hP : ∀ i x, i < n → P x → P (f i x)) (hst : ∀ i x v, i < n → P x → ∃ v', S i x v = S (i + 1) (f i x) v') : ∀ i, i ≤ n → ∀ x v, P x → ∃ v', S i x v = Z ((rg i n).foldl (fun x i => f i x) x) v' := by
  intro i hi
  obtain ⟨k, hk⟩ : ∃ k, n = i + k := ⟨n - i, by omega⟩
  induction k generalizing i with
  | zero =>
    intro x v hx
    obtain rfl : i = n := by omega
    rw [rg_end]
    exact hex x v hx
  | succ k ih =>
    intro x v hx
    obtain ⟨v', h⟩ := hst i x v (by omega) hx
    rw [h, rg_cons (show i < n by omega)]
    exact ih (i + 1) (by omega) (by omega) _ _ (hP i x (by omega) hx)
theorem ev_for1 {X J ρ : Type} (P : X → Prop) (S : Nat → X → J → ρ) (Z : X → ρ) (f : Nat → X → X) (n : Nat) (hex : ∀ x v, P x → S n x v = Z x) (hP : ∀ i x, i < n → P x → P (f i x)) (hst : ∀ i x v, i < n → P x → ∃ v', S i x v = S (i + 1) (f i x) v') : ∀ i, i ≤ n → ∀ x v, P x → S i x v = Z ((rg i n).foldl (fun x i => f i x) x) := by
  intro i hi x v hx
  obtain ⟨_, h⟩ := ev_for1e P S (fun x (_ : Unit) => Z x) f n (fun x v hx => ⟨(), hex x v hx⟩) hP hst i hi x v hx
  exact h
theorem ev_for2e {X J K ρ : Type} (P : X → Prop) (S1 : Nat → X → J → ρ) (S2 : Nat → Nat → X → J → ρ) (Z : X → K → ρ) (f : Nat → Nat → X → X) (n : Nat)
    (x1 : ∀ x v, P x → ∃ v', S1 n x v = Z x v') (e1 : ∀ a x v, a < n → P x → ∃ v', S1 a x v = S2 a (a + 1) x v') (x2 : ∀ a x v, a < n → P x → ∃ v', S2 a n x v = S1 (a + 1) x v')
    (hP : ∀ a b x, a < b → b < n → P x → P (f a b x)) (e2 : ∀ a b x v, a < b → b < n → P x → ∃ v', S2 a b x v = S2 a (b + 1) (f a b x) v') : ∀ x v, P x → ∃ v', S1 0 x v = Z ((prs n).foldl (fun x t => f t.1 t.2 x) x) v' := by
  intro x v hx
  have := ev_for1e P S1 Z (fun a x => ((rg (a + 1) n).map fun b => (a, b)).foldl (fun x t => f t.1 t.2 x) x) n x1 (fun a x ha hx => fold_inv (fun t ht x hx => by
    obtain ⟨b, hb, rfl⟩ := List.mem_map.mp ht
    have := rg_mem.mp hb
    exact hP a b x (by omega) (by omega) hx) hx) (fun a x v ha hx => by
    obtain ⟨v1, h1⟩ := e1 a x v ha hx
    have h0 : ∀ i, a + 1 ≤ i → i ≤ n → ∀ x v, P x → ∃ v', S2 a i x v = S1 (a + 1) ((rg i n).foldl (fun x b => f a b x) x) v' := by
      intro i hai hi
      obtain ⟨k, hk⟩ : ∃ k, n = i + k := ⟨n - i, by omega⟩
      induction k generalizing i with
      | zero =>
        intro x v hx
        obtain rfl : i = n := by omega
        rw [rg_end]
        exact x2 a x v ha hx
      | succ k ih =>
        intro x v hx
        obtain ⟨v', h⟩ := e2 a i x v (by omega) (by omega) hx
        rw [h, rg_cons (show i < n by omega)]
        exact ih (i + 1) (by omega) (by omega) (by omega) _ _ (hP a i x (by omega) (by omega) hx)
    obtain ⟨v2, h2⟩ := h0 (a + 1) (Nat.le_refl _) (by omega) x v1 hx
    refine ⟨v2, ?_⟩
    rw [h1, h2, List.foldl_map]) 0 (Nat.zero_le _) x v hx
  rw [prs, List.foldl_flatMap]
  exact this
theorem ev_for2 {X J ρ : Type} (P : X → Prop) (S1 : Nat → X → J → ρ) (S2 : Nat → Nat → X → J → ρ) (Z : X → ρ) (f : Nat → Nat → X → X) (n : Nat)
    (x1 : ∀ x v, P x → S1 n x v = Z x) (e1 : ∀ a x v, a < n → P x → ∃ v', S1 a x v = S2 a (a + 1) x v') (x2 : ∀ a x v, a < n → P x → ∃ v', S2 a n x v = S1 (a + 1) x v')
    (hP : ∀ a b x, a < b → b < n → P x → P (f a b x)) (e2 : ∀ a b x v, a < b → b < n → P x → ∃ v', S2 a b x v = S2 a (b + 1) (f a b x) v') : ∀ x v, P x → S1 0 x v = Z ((prs n).foldl (fun x t => f t.1 t.2 x) x) := by
  intro x v hx
  obtain ⟨_, h⟩ := ev_for2e P S1 S2 (fun x (_ : Unit) => Z x) f n (fun x v hx => ⟨(), x1 x v hx⟩) e1 x2 hP e2 x v hx
  exact h
theorem ev_for3e {X J K ρ : Type} (P : X → Prop) (S1 : Nat → X → J → ρ) (S2 : Nat → Nat → X → J → ρ) (S3 : Nat → Nat → Nat → X → J → ρ) (Z : X → K → ρ) (f : Nat → Nat → Nat → X → X) (n : Nat)
    (x1 : ∀ x v, P x → ∃ v', S1 n x v = Z x v') (e1 : ∀ a x v, a < n → P x → ∃ v', S1 a x v = S2 a (a + 1) x v') (x2 : ∀ a x v, a < n → P x → ∃ v', S2 a n x v = S1 (a + 1) x v')
    (e2 : ∀ a b x v, a < b → b < n → P x → ∃ v', S2 a b x v = S3 a b (b + 1) x v') (x3 : ∀ a b x v, a < b → b < n → P x → ∃ v', S3 a b n x v = S2 a (b + 1) x v')
    (hP : ∀ a b c x, a < b → b < c → c < n → P x → P (f a b c x)) (e3 : ∀ a b c x v, a < b → b < c → c < n → P x → ∃ v', S3 a b c x v = S3 a b (c + 1) (f a b c x) v') : ∀ x v, P x → ∃ v', S1 0 x v = Z ((trip n).foldl (fun x t => f t.1 t.2.1 t.2.2 x) x) v' := by
  intro x v hx
  have := ev_for2e P S1 S2 Z (fun a b x => (rg (b + 1) n).foldl (fun x c => f a b c x) x) n x1 e1 x2 (fun a b x hab hb hx => fold_inv (fun c hc x hx => by
    have := rg_mem.mp hc
    exact hP a b c x hab (by omega) (by omega) hx) hx) (fun a b x v hab hb hx => by
    obtain ⟨v1, h1⟩ := e2 a b x v hab hb hx
    have h0 : ∀ i, b + 1 ≤ i → i ≤ n → ∀ x v, P x → ∃ v', S3 a b i x v = S2 a (b + 1) ((rg i n).foldl (fun x c => f a b c x) x) v' := by
      intro i hai hi
      obtain ⟨k, hk⟩ : ∃ k, n = i + k := ⟨n - i, by omega⟩
      induction k generalizing i with
      | zero =>
        intro x v hx
        obtain rfl : i = n := by omega
        rw [rg_end]
        exact x3 a b x v hab hb hx
      | succ k ih =>
        intro x v hx
        obtain ⟨v', h⟩ := e3 a b i x v hab (by omega) (by omega) hx
        rw [h, rg_cons (show i < n by omega)]
        exact ih (i + 1) (by omega) (by omega) (by omega) _ _ (hP a b i x hab (by omega) (by omega) hx)
    obtain ⟨v2, h2⟩ := h0 (b + 1) (Nat.le_refl _) (by omega) x v1 hx
    exact ⟨v2, by rw [h1, h2]⟩) x v hx
  simp only [prs, List.foldl_flatMap, List.foldl_map] at this
  simp only [trip, List.foldl_flatMap, List.foldl_map]
  exact this
theorem ev_for3 {X J ρ : Type} (P : X → Prop) (S1 : Nat → X → J → ρ) (S2 : Nat → Nat → X → J → ρ) (S3 : Nat → Nat → Nat → X → J → ρ) (Z : X → ρ) (f : Nat → Nat → Nat → X → X) (n : Nat)
    (x1 : ∀ x v, P x → S1 n x v = Z x) (e1 : ∀ a x v, a < n → P x → ∃ v', S1 a x v = S2 a (a + 1) x v') (x2 : ∀ a x v, a < n → P x → ∃ v', S2 a n x v = S1 (a + 1) x v')
    (e2 : ∀ a b x v, a < b → b < n → P x → ∃ v', S2 a b x v = S3 a b (b + 1) x v') (x3 : ∀ a b x v, a < b → b < n → P x → ∃ v', S3 a b n x v = S2 a (b + 1) x v')
    (hP : ∀ a b c x, a < b → b < c → c < n → P x → P (f a b c x)) (e3 : ∀ a b c x v, a < b → b < c → c < n → P x → ∃ v', S3 a b c x v = S3 a b (c + 1) (f a b c x) v') : ∀ x v, P x → S1 0 x v = Z ((trip n).foldl (fun x t => f t.1 t.2.1 t.2.2 x) x) := by
  intro x v hx
  obtain ⟨_, h⟩ := ev_for3e P S1 S2 S3 (fun x (_ : Unit) => Z x) f n (fun x v hx => ⟨(), x1 x v hx⟩) e1 x2 e2 x3 hP e3 x v hx
  exact h
theorem ev_for4e {X J K ρ : Type} (P : X → Prop) (S1 : Nat → X → J → ρ) (S2 : Nat → Nat → X → J → ρ) (S3 : Nat → Nat → Nat → X → J → ρ) (S4 : Nat → Nat → Nat → Nat → X → J → ρ) (Z : X → K → ρ) (f : Nat → Nat → Nat → Nat → X → X) (n : Nat)
    (x1 : ∀ x v, P x → ∃ v', S1 n x v = Z x v') (e1 : ∀ a x v, a < n → P x → ∃ v', S1 a x v = S2 a (a + 1) x v') (x2 : ∀ a x v, a < n → P x → ∃ v', S2 a n x v = S1 (a + 1) x v')
    (e2 : ∀ a b x v, a < b → b < n → P x → ∃ v', S2 a b x v = S3 a b (b + 1) x v') (x3 : ∀ a b x v, a < b → b < n → P x → ∃ v', S3 a b n x v = S2 a (b + 1) x v')
    (e3 : ∀ a b c x v, a < b → b < c → c < n → P x → ∃ v', S3 a b c x v = S4 a b c (c + 1) x v') (x4 : ∀ a b c x v, a < b → b < c → c < n → P x → ∃ v', S4 a b c n x v = S3 a b (c + 1) x v')
    (hP : ∀ a b c d x, a < b → b < c → c < d → d < n → P x → P (f a b c d x)) (e4 : ∀ a b c d x v, a < b → b < c → c < d → d < n → P x → ∃ v', S4 a b c d x v = S4 a b c (d + 1) (f a b c d x) v') : ∀ x v, P x → ∃ v', S1 0 x v = Z ((quad n).foldl (fun x t => f t.1 t.2.1 t.2.2.1 t.2.2.2 x) x) v' := by
  intro x v hx
  have := ev_for3e P S1 S2 S3 Z (fun a b c x => (rg (c + 1) n).foldl (fun x d => f a b c d x) x) n x1 e1 x2 e2 x3 (fun a b c x hab hbc hc hx => fold_inv (fun d hd x hx => by
    have := rg_mem.mp hd
    exact hP a b c d x hab hbc (by omega) (by omega) hx) hx) (fun a b c x v hab hbc hc hx => by
    obtain ⟨v1, h1⟩ := e3 a b c x v hab hbc hc hx
    have h0 : ∀ i, c + 1 ≤ i → i ≤ n → ∀ x v, P x → ∃ v', S4 a b c i x v = S3 a b (c + 1) ((rg i n).foldl (fun x d => f a b c d x) x) v' := by
      intro i hai hi
      obtain ⟨k, hk⟩ : ∃ k, n = i + k := ⟨n - i, by omega⟩
      induction k generalizing i with
      | zero =>
        intro x v hx
        obtain rfl : i = n := by omega
        rw [rg_end]
        exact x4 a b c x v hab hbc hc hx
      | succ k ih =>
        intro x v hx
        obtain ⟨v', h⟩ := e4 a b c i x v hab hbc (by omega) (by omega) hx
        rw [h, rg_cons (show i < n by omega)]
        exact ih (i + 1) (by omega) (by omega) (by omega) _ _ (hP a b c i x hab hbc (by omega) (by omega) hx)
    obtain ⟨v2, h2⟩ := h0 (c + 1) (Nat.le_refl _) (by omega) x v1 hx
    exact ⟨v2, by rw [h1, h2]⟩) x v hx
  simp only [trip, List.foldl_flatMap, List.foldl_map] at this
  simp only [quad, List.foldl_flatMap, List.foldl_map]
  exact this
theorem ev_for4 {X J ρ : Type} (P : X → Prop) (S1 : Nat → X → J → ρ) (S2 : Nat → Nat → X → J → ρ) (S3 : Nat → Nat → Nat → X → J → ρ) (S4 : Nat → Nat → Nat → Nat → X → J → ρ) (Z : X → ρ) (f : Nat → Nat → Nat → Nat → X → X) (n : Nat)
    (x1 : ∀ x v, P x → S1 n x v = Z x) (e1 : ∀ a x v, a < n → P x → ∃ v', S1 a x v = S2 a (a + 1) x v') (x2 : ∀ a x v, a < n → P x → ∃ v', S2 a n x v = S1 (a + 1) x v')
    (e2 : ∀ a b x v, a < b → b < n → P x → ∃ v', S2 a b x v = S3 a b (b + 1) x v') (x3 : ∀ a b x v, a < b → b < n → P x → ∃ v', S3 a b n x v = S2 a (b + 1) x v')
    (e3 : ∀ a b c x v, a < b → b < c → c < n → P x → ∃ v', S3 a b c x v = S4 a b c (c + 1) x v') (x4 : ∀ a b c x v, a < b → b < c → c < n → P x → ∃ v', S4 a b c n x v = S3 a b (c + 1) x v')
    (hP : ∀ a b c d x, a < b → b < c → c < d → d < n → P x → P (f a b c d x)) (e4 : ∀ a b c d x v, a < b → b < c → c < d → d < n → P x → ∃ v', S4 a b c d x v = S4 a b c (d + 1) (f a b c d x) v') : ∀ x v, P x → S1 0 x v = Z ((quad n).foldl (fun x t => f t.1 t.2.1 t.2.2.1 t.2.2.2 x) x) := by
  intro x v hx
  obtain ⟨_, h⟩ := ev_for4e P S1 S2 S3 S4 (fun x (_ : Unit) => Z x) f n (fun x v hx => ⟨(), x1 x v hx⟩) e1 x2 e2 x3 e3 x4 hP e4 x v hx
  exact h
/-! loops that end early -/
theorem ev_all1 {J ρ : Type} (S : Nat → J → ρ) (Z Rf : ρ) (c : Nat → Bool) (n : Nat) (hex : ∀ v, S n v = Z) (ht : ∀ i v, i < n → c i = true → ∃ v', S i v = S (i + 1) v') (hf : ∀ i v, i < n → c i = false → S i v = Rf) : ∀ i, i ≤ n → ∀ v, S i v = if (rg i n).all c = true then Z else Rf := by
  intro i hi
  obtain ⟨k, hk⟩ : ∃ k, n = i + k := ⟨n - i, by omega⟩
  induction k generalizing i with
  | zero =>
    intro v
    obtain rfl : i = n := by omega
    rw [hex v, rg_end]
    rfl
  | succ k ih =>
    intro v
    rw [rg_cons (show i < n by omega), List.all_cons]
    cases hc : c i with
    | true =>
      obtain ⟨v', h⟩ := ht i v (by omega) hc
      rw [h, ih (i + 1) (by omega) (by omega)]
      simp
    | false =>
      rw [hf i v (by omega) hc]
      simp
theorem ev_all3 {J ρ : Type} (S1 : Nat → J → ρ) (S2 : Nat → Nat → J → ρ) (S3 : Nat → Nat → Nat → J → ρ) (Z Rf : ρ) (g : Nat → Nat → Nat → Bool) (n : Nat)
    (x1 : ∀ v, S1 n v = Z) (e1 : ∀ a v, a < n → ∃ v', S1 a v = S2 a (a + 1) v') (x2 : ∀ a v, a < n → ∃ v', S2 a n v = S1 (a + 1) v')
    (e2 : ∀ a b v, a < b → b < n → ∃ v', S2 a b v = S3 a b (b + 1) v') (x3 : ∀ a b v, a < b → b < n → ∃ v', S3 a b n v = S2 a (b + 1) v')
    (et : ∀ a b c v, a < b → b < c → c < n → g a b c = true → ∃ v', S3 a b c v = S3 a b (c + 1) v') (ef : ∀ a b c v, a < b → b < c → c < n → g a b c = false → S3 a b c v = Rf) : ∀ v, S1 0 v = if (trip n).all (fun t => g t.1 t.2.1 t.2.2) = true then Z else Rf := by
  have k3 : ∀ a b, a < b → b < n → ∀ k c v, c + k = n → b < c → (((rg c n).all (fun c => g a b c) = true → ∃ v', S3 a b c v = S2 a (b + 1) v') ∧ ((rg c n).all (fun c => g a b c) = false → S3 a b c v = Rf)) := by
    intro a b hab hb k
    induction k with
    | zero =>
      intro c v hc hbc
      obtain rfl : c = n := by omega
      rw [rg_end]
      exact ⟨fun _ => x3 a b v hab hb, fun h => by simp at h⟩
    | succ k ih =>
      intro c v hc hbc
      rw [rg_cons (show c < n by omega), List.all_cons]
      cases hg : g a b c with
      | true =>
        obtain ⟨v', h⟩ := et a b c v hab hbc (by omega) hg
        rw [h, Bool.true_and]
        exact ih (c + 1) v' (by omega) (by omega)
      | false =>
        rw [Bool.false_and]
        exact ⟨(fun h => absurd h (by decide)), fun _ => ef a b c v hab hbc (by omega) hg⟩
  have k2 : ∀ a, a < n → ∀ k b v, b + k = n → a < b → (((rg b n).all (fun b => (rg (b + 1) n).all (fun c => g a b c)) = true → ∃ v', S2 a b v = S1 (a + 1) v') ∧ ((rg b n).all (fun b => (rg (b + 1) n).all (fun c => g a b c)) = false → S2 a b v = Rf)) := by
    intro a ha k
    induction k with
    | zero =>
      intro b v hb hab
      obtain rfl : b = n := by omega
      rw [rg_end]
      exact ⟨fun _ => x2 a v ha, fun h => by simp at h⟩
    | succ k ih =>
      intro b v hb hab
      rw [rg_cons (show b < n by omega), List.all_cons]
      obtain ⟨v1, h1⟩ := e2 a b v hab (by omega)
      have h2 := k3 a b hab (by omega) (n - (b + 1)) (b + 1) v1 (by omega) (by omega)
      cases hg : (rg (b + 1) n).all (fun c => g a b c) with
      | true =>
        obtain ⟨v', h⟩ := h2.1 hg
        rw [h1, h, Bool.true_and]
        exact ih (b + 1) v' (by omega) (by omega)
      | false =>
        rw [Bool.false_and]
        exact ⟨(fun h => absurd h (by decide)), fun _ => h1.trans (h2.2 hg)⟩
  intro v
  have := ev_all1 S1 Z Rf (fun a => (rg (a + 1) n).all (fun b => (rg (b + 1) n).all (fun c => g a b c))) n x1 (fun a v ha hc => by
    obtain ⟨v1, h1⟩ := e1 a v ha
    obtain ⟨v2, h2⟩ := (k2 a ha (n - (a + 1)) (a + 1) v1 (by omega) (by omega)).1 hc
    exact ⟨v2, h1.trans h2⟩) (fun a v ha hc => by
    obtain ⟨v1, h1⟩ := e1 a v ha
    exact h1.trans ((k2 a ha (n - (a + 1)) (a + 1) v1 (by omega) (by omega)).2 hc)) 0 (Nat.zero_le _) v
  rw [this]
  congr 1
  simp only [trip, List.all_flatMap, List.all_map]
  rfl
