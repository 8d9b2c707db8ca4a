/-! keys' numbers, what separates; topes next to one another -/
theorem spD : ∀ d, d < 3 → ∀ e, e < 3 → ∀ z, z < 2 → ((d ^^^ e) ||| (2 * z + (d ^^^ e) / 2)) &&& 1 = (if d = e then 0 else 1) ∧ (d ^^^ e) < 4 := by decide
theorem sbD : ∀ a, a < 2 → ∀ b, b < 2 → ((a &&& (b ^^^ 3)) = 0 ↔ (a ≠ 0 → b ≠ 0)) ∧ (a &&& (b ^^^ 3)) < 4 ∧ (b ^^^ 3) < 4 := by decide
section
variable {a b c d e n x y z k f i j t u w v L : Nat} {F G R : Nat → Int32} {T : List Nat}
/-- the number of an element -/
theorem kK_d : ∀ {n x e : Nat}, e < n → (kK n x >>> (2 * (n - 1 - e))) &&& 3 = dgN n x e
  | 0, _, _, h => absurd h (Nat.not_lt_zero _)
  | n + 1, x, e, h => by
    rw [kK_s, show (3 : Nat) = 2 ^ 2 - 1 from rfl, Nat.and_two_pow_sub_one_eq_mod]
    by_cases k : e = n
    · subst k
      rw [dgN_n, show 2 * (e + 1 - 1 - e) = 0 by omega, Nat.shiftRight_zero]
      omega
    · have ih := kK_d (n := n) (x := x / 3) (e := e) (by omega)
      rw [show (3 : Nat) = 2 ^ 2 - 1 from rfl, Nat.and_two_pow_sub_one_eq_mod] at ih
      rw [dgN_s (by omega), ← ih, show 2 * (n + 1 - 1 - e) = 2 + 2 * (n - 1 - e) by omega, Nat.shiftRight_add, Nat.shiftRight_eq_div_pow (4 * kK n (x / 3) + x % 3) 2, show (4 * kK n (x / 3) + x % 3) / 2 ^ 2 = kK n (x / 3) by omega]
theorem kyA_k (he : e < n) : kyA n (kK n x) e = dg32 n x e := by
  unfold kyA dg32
  rw [kK_d he]
theorem kK_1 (hn : n ≤ 5) : kK n x < 1024 := by
  have h1 := kO_lt' (l := vN n (dgN n x)) (k := 0) fun e he => by
    have := (vN_V (n := n) (D := dgN n x) fun _ _ => dgN_lt).2 e he
    omega
  rw [(vN_V (n := n) (D := dgN n x) fun _ _ => dgN_lt).1] at h1
  have h2 : 4 ^ n ≤ 4 ^ 5 := Nat.pow_le_pow_right (by decide) hn
  unfold kK kO
  omega
theorem spK_4 (ha : a < 1024) (hb : b < 1024) (hd : d < 3) (he : e < 3) : spK (4 * a + d) (4 * b + e) = 4 * spK a b + if d = e then 0 else 1 := by
  have hz : a ^^^ b < 1024 := Nat.xor_lt_two_pow (n := 10) ha hb
  obtain ⟨h1, h2⟩ := spD d hd e he ((a ^^^ b) % 2) (by omega)
  unfold spK
  rw [ad_xor (by omega) (by omega)]
  generalize a ^^^ b = m at *
  generalize d ^^^ e = r at *
  have e1 : (4 * m + r) >>> 1 = 4 * (m >>> 1) + (2 * (m % 2) + r / 2) := by
    rw [Nat.shiftRight_eq_div_pow, Nat.shiftRight_eq_div_pow]
    omega
  have hm : m ||| m >>> 1 < 1024 := Nat.or_lt_two_pow (n := 10) hz (Nat.lt_of_le_of_lt (Nat.shiftRight_le _ _) hz)
  have h4 : r ||| (2 * (m % 2) + r / 2) < 4 := Nat.or_lt_two_pow (n := 2) h2 (by omega)
  rw [e1, ad_or h2 (by omega), show (1365 : Nat) = 4 * 341 + 1 from rfl, ad_and h4 (by decide), h1, of_decide_eq_true (List.all_eq_true.mp m341 _ (rg_mem.mpr ⟨Nat.zero_le _, hm⟩))]
theorem spK_s (hn : n ≤ 5) : spK (kK (n + 1) x) (kK (n + 1) y) = 4 * spK (kK n (x / 3)) (kK n (y / 3)) + if dgN (n + 1) x n = dgN (n + 1) y n then 0 else 1 := by
  rw [kK_s, kK_s, spK_4 (kK_1 hn) (kK_1 hn) (Nat.mod_lt _ (by decide)) (Nat.mod_lt _ (by decide)), dgN_n, dgN_n]
theorem sb_4 (ha : a < 1024) (hd : d < 2) (he : e < 2) : ((4 * a + d) &&& ((4 * b + e) ^^^ 4294967295) = 0) ↔ ((a &&& (b ^^^ 4294967295) = 0) ∧ (d ≠ 0 → e ≠ 0)) := by
  obtain ⟨h1, h2, h3⟩ := sbD d hd e he
  have m3 : a &&& (b ^^^ 1073741823) = a &&& (b ^^^ 4294967295) := by
    have k1 : a &&& 1073741823 = a := Nat.and_two_pow_sub_one_of_lt_two_pow (n := 30) (by omega)
    have k2 : a &&& 4294967295 = a := Nat.and_two_pow_sub_one_of_lt_two_pow (n := 32) (by omega)
    rw [Nat.and_xor_distrib_left, Nat.and_xor_distrib_left, k1, k2]
  have key : (4 * a + d) &&& ((4 * b + e) ^^^ 4294967295) = 4 * (a &&& (b ^^^ 4294967295)) + (d &&& (e ^^^ 3)) := by
    rw [show (4294967295 : Nat) = 4 * 1073741823 + 3 from rfl, ad_xor (by omega) (by decide), ad_and (by omega) h3, m3]
  rw [key, ← h1]
  generalize a &&& (b ^^^ 4294967295) = q
  omega
theorem spK_1 (hn : n ≤ 5) : spK (kK n x) (kK n y) < 1024 := by
  unfold spK
  refine Nat.lt_of_le_of_lt Nat.and_le_left (Nat.or_lt_two_pow (n := 10) ?_ (Nat.lt_of_le_of_lt (Nat.shiftRight_le _ _) ?_)) <;> exact Nat.xor_lt_two_pow (n := 10) (kK_1 hn) (kK_1 hn)
/-- what separates these separates those -/
theorem sbK : ∀ {n x y z w : Nat}, n ≤ 6 → (spK (kK n x) (kK n y) &&& (spK (kK n z) (kK n w) ^^^ 4294967295) = 0 ↔ ∀ e, e < n → dgN n x e ≠ dgN n y e → dgN n z e ≠ dgN n w e)
  | 0, x, y, z, w, _ => ⟨fun _ e he => absurd he (Nat.not_lt_zero e), fun _ => (show spK 0 0 &&& (spK 0 0 ^^^ 4294967295) = 0 from by decide)⟩
  | n + 1, x, y, z, w, hn => by
    rw [spK_s (by omega), spK_s (by omega), sb_4 (spK_1 (by omega)) (by split <;> decide) (by split <;> decide), sbK (by omega)]
    constructor
    · rintro ⟨h1, h2⟩ e he hne
      by_cases k : e = n
      · subst k
        rw [if_neg hne] at h2
        have h2 := h2 (by decide)
        intro h
        rw [if_pos h] at h2
        exact h2 rfl
      · rw [dgN_s (by omega), dgN_s (by omega)] at hne ⊢
        exact h1 e (by omega) hne
    · intro h
      refine ⟨fun e he hne => ?_, fun hd => ?_⟩
      · have := h e (by omega)
        rw [dgN_s he, dgN_s he, dgN_s he, dgN_s he] at this
        exact this hne
      · have := h n (by omega) fun h' => hd (if_pos h')
        rw [if_neg this]
        decide
/-- a count of places -/
def cF (r : Nat) (p : Nat → Bool) : Nat := (rg 0 r).foldl (fun s k => s + if p k = true then 1 else 0) 0
theorem cF_s {p : Nat → Bool} : cF (i + 1) p = cF i p + if p i = true then 1 else 0 := by
  unfold cF
  rw [rg_snoc, List.foldl_append]
  rfl
theorem cF_c {p q : Nat → Bool} : ∀ {r : Nat}, (∀ k, k < r → p k = q k) → cF r p = cF r q
  | 0, _ => rfl
  | r + 1, h => by rw [cF_s, cF_s, cF_c fun k hk => h k (by omega), h r (by omega)]
theorem cF_x {p : Nat → Bool} : ∀ {m r : Nat}, (∀ k, r ≤ k → p k = false) → cF (r + m) p = cF r p
  | 0, r, _ => rfl
  | m + 1, r, h => by rw [show r + (m + 1) = (r + m) + 1 from rfl, cF_s, cF_x h, h (r + m) (by omega)]; rfl
theorem ons_tb : ∀ {r : Nat}, ons r x = cF r x.testBit
  | 0 => rfl
  | r + 1 => by
    rw [show r + 1 = 1 + r by omega, ons_ad, show 1 + r = r + 1 by omega, cF_s, ons_tb, Nat.testBit_eq_decide_div_mod_eq]
    congr 1
    rw [show ons 1 (x / 2 ^ r) = x / 2 ^ r % 2 + 0 from rfl]
    by_cases h : x / 2 ^ r % 2 = 1
    · rw [decide_eq_true h, if_pos rfl, h]
    · rw [decide_eq_false h, if_neg (by decide)]; omega
theorem ons_sp : ∀ {n x y : Nat}, n ≤ 6 → ons (2 * n) (spK (kK n x) (kK n y)) = cF n (fun e => !decide (dgN n x e = dgN n y e)) ∧ spK (kK n x) (kK n y) < 4 ^ n
  | 0, x, y, _ => ⟨rfl, (show spK 0 0 < 1 from by decide)⟩
  | n + 1, x, y, hn => by
    obtain ⟨h1, h2⟩ := ons_sp (n := n) (x := x / 3) (y := y / 3) (by omega)
    rw [spK_s (by omega), cF_s, cF_c (q := fun e => !decide (dgN n (x / 3) e = dgN n (y / 3) e)) fun e he => by rw [dgN_s he, dgN_s he], ← h1, show 2 * (n + 1) = 2 * n + 1 + 1 by omega]
    generalize spK (kK n (x / 3)) (kK n (y / 3)) = A at *
    have k : ∀ α, α < 2 → ons (2 * n + 1 + 1) (4 * A + α) = ons (2 * n) A + α := fun α hα => by
      rw [show ons (2 * n + 1 + 1) (4 * A + α) = (4 * A + α) % 2 + ((4 * A + α) / 2 % 2 + ons (2 * n) ((4 * A + α) / 2 / 2)) from rfl, show (4 * A + α) / 2 / 2 = A by omega]
      omega
    rw [Nat.pow_succ]
    by_cases h : dgN (n + 1) x n = dgN (n + 1) y n
    · rw [if_pos h, k 0 (by decide), decide_eq_true h]
      exact ⟨rfl, by omega⟩
    · rw [if_neg h, k 1 (by decide), decide_eq_false h]
      exact ⟨rfl, by omega⟩
theorem ons_k (hn : n ≤ 6) : ons 12 (spK (kK n x) (kK n y)) = cF n fun e => !decide (dgN n x e = dgN n y e) := by
  obtain ⟨h1, h2⟩ := ons_sp (x := x) (y := y) hn
  rw [← h1, show 12 = (12 - 2 * n) + 2 * n by omega, ons_ad, Nat.pow_mul, Nat.div_eq_of_lt h2, ons_0, Nat.add_zero]
theorem orb {p : Nat → Bool} : ∀ {N : Nat}, ((rg 0 N).foldl (fun s j => if p j = true then s ||| 2 ^ j else s) 0).testBit i = (decide (i < N) && p i)
  | 0 => by
    rw [decide_eq_false (Nat.not_lt_zero i), Bool.false_and]
    exact Nat.zero_testBit i
  | N + 1 => by
    rw [rg_snoc, List.foldl_append, List.foldl_cons, List.foldl_nil]
    have ih := orb (p := p) (N := N)
    by_cases hN : i = N
    · subst hN
      rw [decide_eq_false (Nat.lt_irrefl i), Bool.false_and] at ih
      rw [decide_eq_true (Nat.lt_succ_self i), Bool.true_and]
      cases hp : p i with
      | true => rw [if_pos rfl, Nat.testBit_or, ih, Nat.testBit_two_pow_self]; rfl
      | false => rw [if_neg (by decide), ih]
    · have e : decide (i < N + 1) = decide (i < N) := decide_eq_decide.mpr (by omega)
      rw [e, ← ih]
      cases p N with
      | true =>
        rw [if_pos rfl, Nat.testBit_or, Nat.testBit_two_pow, decide_eq_false (fun h : N = i => hN h.symm), Bool.or_false]
      | false => rw [if_neg (by decide)]
theorem ap_tb : (apM n T t u).testBit e = (decide (e < n) && !decide (dgN n (T.getD t 0) e = dgN n (T.getD u 0) e)) := by
  rw [← orb (p := fun e => !decide (dgN n (T.getD t 0) e = dgN n (T.getD u 0) e))]
  unfold apM
  congr 2
  funext s e
  by_cases h : dgN n (T.getD t 0) e = dgN n (T.getD u 0) e
  · rw [if_pos h, decide_eq_true h, if_neg (by decide)]
  · rw [if_neg h, decide_eq_false h, if_pos (show (!false) = true from rfl)]
theorem ap_sub (hn : n ≤ 6) : (apM n T w u &&& (apM n T t v ^^^ 4294967295) = 0 ↔ ∀ e, e < n → dgN n (T.getD w 0) e ≠ dgN n (T.getD u 0) e → dgN n (T.getD t 0) e ≠ dgN n (T.getD v 0) e) := by
  have tb : ∀ e, (apM n T w u &&& (apM n T t v ^^^ 4294967295)).testBit e = ((apM n T w u).testBit e && ((apM n T t v).testBit e ^^ decide (e < 32))) := fun e => by
    rw [Nat.testBit_and, Nat.testBit_xor, show (4294967295 : Nat) = 2 ^ 32 - 1 from rfl, Nat.testBit_two_pow_sub_one]
  constructor
  · intro h e he h1 h2
    have := tb e
    rw [h, Nat.zero_testBit, ap_tb, ap_tb, decide_eq_true he, decide_eq_false h1, decide_eq_true h2, decide_eq_true (show e < 32 by omega)] at this
    cases this
  · intro h
    refine Nat.eq_of_testBit_eq fun e => ?_
    rw [tb e, Nat.zero_testBit, ap_tb, ap_tb]
    by_cases he : e < n
    · rw [decide_eq_true he, decide_eq_true (show e < 32 by omega)]
      by_cases h1 : dgN n (T.getD w 0) e = dgN n (T.getD u 0) e
      · rw [decide_eq_true h1]; rfl
      · rw [decide_eq_false h1, decide_eq_false (h e he h1)]; rfl
    · rw [decide_eq_false he]; rfl
theorem onM_ap (hn : n ≤ 6) : onM (apM n T t u) = cF n fun e => !decide (dgN n (T.getD t 0) e = dgN n (T.getD u 0) e) := by
  show cF 6 (apM n T t u).testBit = _
  rw [show 6 = n + (6 - n) by omega, cF_x fun k hk => by rw [ap_tb, decide_eq_false (by omega), Bool.false_and]]
  exact cF_c fun k hk => by rw [ap_tb, decide_eq_true hk, Bool.true_and]
/-- next to one another -/
theorem nx_sym (hn : n ≤ 6) : nxM n T t u = nxM n T u t := by
  unfold nxM
  congr 1
  · exact decide_eq_decide.mpr ⟨fun h h' => h h'.symm, fun h h' => h h'.symm⟩
  · refine all_congr fun w hw => ?_
    rw [← Bool.or_assoc, ← Bool.or_assoc, Bool.or_comm (decide (w = t))]
    congr 1
    refine decide_eq_decide.mpr (not_congr ?_)
    rw [ap_sub hn, ap_sub hn]
    constructor
    · intro h e he h1 h2
      by_cases k : dgN n (T.getD w 0) e = dgN n (T.getD u 0) e
      · exact h1 (k.trans h2)
      · exact h e he k h2.symm
    · intro h e he h1 h2
      by_cases k : dgN n (T.getD w 0) e = dgN n (T.getD t 0) e
      · exact h1 (k.trans h2)
      · exact h e he k h2.symm
theorem getD_map {g : Nat → Nat} : ∀ {T : List Nat} {i : Nat}, i < T.length → (T.map g).getD i 0 = g (T.getD i 0)
  | _ :: _, 0, _ => rfl
  | _ :: T, i + 1, h => getD_map (T := T) (i := i) (by rw [List.length_cons] at h; omega)
theorem nxO_tb (hn : n ≤ 6) (ht : t < T.length) (hu : u < T.length) : (nxO (T.map (kK n)) T.length t).testBit u = nxM n T t u := by
  have e : (nxO (T.map (kK n)) T.length t).testBit u = (decide (u < T.length) && (decide (t ≠ u) && !sbB (T.map (kK n)) T.length t u)) := by
    rw [← orb (p := fun j => decide (t ≠ j) && !sbB (T.map (kK n)) T.length t j)]
    unfold nxO
    congr 2
    funext s j
    by_cases h : t ≠ j
    · cases hs : sbB (T.map (kK n)) T.length t j with
      | true => rw [if_neg (fun h' => by cases h'.2), if_neg (by simp)]
      | false => rw [if_pos ⟨h, rfl⟩, if_pos (by simp [h])]
    · rw [if_neg (fun h' => h h'.1), if_neg (by simp [h])]
  rw [e, decide_eq_true hu, Bool.true_and]
  unfold nxM sbB
  rw [Bool.not_not]
  congr 1
  refine all_congr fun w hw => ?_
  have hw := (rg_mem.mp hw).2
  unfold gV
  rw [getD_map hw, getD_map hu, getD_map ht]
  have k : (!decide (spK (kK n (T.getD w 0)) (kK n (T.getD u 0)) &&& (spK (kK n (T.getD t 0)) (kK n (T.getD u 0)) ^^^ 4294967295) = 0)) = decide (apM n T w u &&& (apM n T t u ^^^ 4294967295) ≠ 0) := by
    rw [← decide_not]
    refine decide_eq_decide.mpr (not_congr ?_)
    rw [sbK hn, ap_sub hn]
  rw [k]
  by_cases h1 : w = t
  · rw [decide_eq_true h1, decide_eq_true (Or.inl h1 : w = t ∨ w = u)]; rfl
  · by_cases h2 : w = u
    · rw [decide_eq_true h2, decide_eq_true (Or.inr h2 : w = t ∨ w = u)]; simp
    · rw [decide_eq_false h1, decide_eq_false h2, decide_eq_false (show ¬ (w = t ∨ w = u) from fun h => h.elim h1 h2)]; rfl
end
