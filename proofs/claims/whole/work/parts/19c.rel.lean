/-! swapped and dropped alike: rows told by tokens -/
abbrev Tok : Type := Bool × Nat
def tkV (F : Nat → Int32) (t : Tok) : Int32 := if t.1 = true then -(F t.2) else F t.2
def tkN (t : Tok) : Tok := (!t.1, t.2)
def updT (σ : Nat → Tok) (k : Nat) (t : Tok) : Nat → Tok := fun i => if i = k then t else σ i
def sg6T (σ : Nat → Tok) (a b c : Nat) (t : Tok) : Nat → Tok := fun i => if sx3 a b c i = 2 then tkN t else if sx3 a b c i = 1 then t else σ i
theorem tkV_N {F : Nat → Int32} {t : Tok} : tkV F (tkN t) = -(tkV F t) := by
  unfold tkV tkN
  cases t.1 <;> simp [Int32.neg_neg]
theorem sg6T_v {F : Nat → Int32} {σ : Nat → Tok} {a b c : Nat} {t : Tok} : sg6 (fun i => tkV F (σ i)) a b c (tkV F t) = fun i => tkV F (sg6T σ a b c t i) := by
  funext i
  rw [sg6_sx]
  unfold sg6T
  split
  · rw [tkV_N]
  · split <;> rfl
/-- place and sign of a token -/
def tkP (t : Tok) : Nat × Bool := (pT (t.2 / 36) (t.2 / 6 % 6) (t.2 % 6), xor t.1 (pr3 (t.2 / 36) (t.2 / 6 % 6) (t.2 % 6)))
def tkO (n : Nat) (t : Tok) : Bool := dis3 (t.2 / 36) (t.2 / 6 % 6) (t.2 % 6) && (decide (t.2 / 36 < n) && (decide (t.2 / 6 % 6 < n) && decide (t.2 % 6 < n)))
def sgd (R : Nat → Int32) (z : Nat × Bool) : Int32 := if z.2 = true then -(R (1 + z.1)) else R (1 + z.1)
section
variable {a b c x y z n e f : Nat} {F G R : Nat → Int32} {v : Int32}
theorem i6_d {i : Nat} : i6 (i / 36) (i / 6 % 6) (i % 6) = i := by
  unfold i6
  omega
theorem mS_sgd (ha : a < 6) (hb : b < 6) (hc : c < 6) (hd : ¬ (a = b ∨ a = c ∨ b = c)) : mS R a b c = sgd R (pT a b c, pr3 a b c) := by
  unfold mS sgd
  rw [tO_pr a ha b hb c hc, if_pos (dis3_t.mpr hd)]
  cases pr3 a b c <;> simp [Int32.neg_mul]
theorem tkV_sgd {t : Tok} (h : AR n F G R) (hn : n ≤ 6) (ht : tkO n t = true) : tkV F t = sgd R (tkP t) := by
  unfold tkO at ht
  simp only [Bool.and_eq_true, decide_eq_true_eq] at ht
  obtain ⟨h1, h2, h3, h4⟩ := ht
  have hd := dis3_t.mp h1
  have e := h.2.1 _ _ _ (show t.2 / 36 < 6 by omega) (show t.2 / 6 % 6 < 6 by omega) (show t.2 % 6 < 6 by omega) hd ((inN_iff (by omega) (by omega) (by omega) (by omega) hd).mpr ⟨h2, h3, h4⟩)
  rw [i6_d, mS_sgd (by omega) (by omega) (by omega) hd] at e
  unfold tkV tkP
  rw [e]
  unfold sgd
  cases t.1 <;> cases pr3 (t.2 / 36) (t.2 / 6 % 6) (t.2 % 6) <;> simp [Int32.neg_neg]
theorem pT_g : ∀ a, a < 6 → ∀ b, b < 6 → ∀ c, c < 6 → ((decide (pT b a c = pT a b c) && (decide (pT c b a = pT a b c) && (decide (pT a c b = pT a b c) && (decide (pT c a b = pT a b c) && decide (pT b c a = pT a b c))))) && (decide (tO b a c = -(tO a b c)) && (decide (tO c b a = -(tO a b c)) && (decide (tO a c b = -(tO a b c)) && (decide (tO c a b = tO a b c) && decide (tO b c a = tO a b c)))))) = true := by decide +kernel
theorem mS_g (ha : a < 6) (hb : b < 6) (hc : c < 6) : mS R b a c = -(mS R a b c) ∧ mS R c b a = -(mS R a b c) ∧ mS R a c b = -(mS R a b c) ∧ mS R c a b = mS R a b c ∧ mS R b c a = mS R a b c := by
  have h := pT_g a ha b hb c hc
  simp only [Bool.and_eq_true, decide_eq_true_eq] at h
  obtain ⟨⟨p1, p2, p3, p4, p5⟩, t1, t2, t3, t4, t5⟩ := h
  unfold mS
  rw [p1, p2, p3, p4, p5, t1, t2, t3, t4, t5]
  simp only [Int32.neg_mul, and_self]
theorem sg6_same (h : AL F) (ha : a < 6) (hb : b < 6) (hc : c < 6) (hd : ¬ (a = b ∨ a = c ∨ b = c)) : sg6 F a b c (F (i6 a b c)) = F := by
  obtain ⟨R, hR⟩ := h
  have k : ∀ {a b c}, a < 6 → b < 6 → c < 6 → ¬ (a = b ∨ a = c ∨ b = c) → F (i6 a b c) = mS R a b c := fun ha hb hc hd => hR _ _ _ ha hb hc hd rfl
  obtain ⟨m1, m2, m3, m4, m5⟩ := mS_g (R := R) ha hb hc
  have e0 := k ha hb hc hd
  funext i
  rw [sg6_sx]
  unfold sx3
  by_cases h1 : i = i6 b a c
  · rw [if_pos h1, if_pos rfl, h1, k hb ha hc (by omega), m1, e0]
  rw [if_neg h1]
  by_cases h2 : i = i6 c b a
  · rw [if_pos h2, if_pos rfl, h2, k hc hb ha (by omega), m2, e0]
  rw [if_neg h2]
  by_cases h3 : i = i6 a c b
  · rw [if_pos h3, if_pos rfl, h3, k ha hc hb (by omega), m3, e0]
  rw [if_neg h3]
  by_cases h4 : i = i6 c a b
  · rw [if_pos h4, if_neg (by decide), if_pos rfl, h4, k hc ha hb (by omega), m4, e0]
  rw [if_neg h4]
  by_cases h5 : i = i6 b c a
  · rw [if_pos h5, if_neg (by decide), if_pos rfl, h5, k hb hc ha (by omega), m5, e0]
  rw [if_neg h5]
  by_cases h6 : i = i6 a b c
  · rw [if_pos h6, if_neg (by decide), if_pos rfl, h6]
  rw [if_neg h6, if_neg (by decide), if_neg (by decide)]
/-- told by rising triples alone -/
theorem AR_rise (h0 : R 0 = nI n) (hn : n ≤ 6) (hA : AL F) (hr : ∀ a b c, a < b → b < c → c < n → F (i6 a b c) = mS R a b c) (hG : ∀ e i, e < n → i < 3 → G (e * 3 + i) = mco R e i) : AR n F G R := by
  refine ⟨h0, fun x y z hx hy hz hd hP => ?_, hG⟩
  obtain ⟨h1, h2, h3⟩ := (inN_iff (by omega) hx hy hz hd).mp hP
  obtain ⟨R', hR'⟩ := hA
  have k : ∀ {a b c}, a < 6 → b < 6 → c < 6 → ¬ (a = b ∨ a = c ∨ b = c) → F (i6 a b c) = mS R' a b c := fun ha hb hc hd => hR' _ _ _ ha hb hc hd rfl
  rcases Nat.lt_trichotomy x y with h | h | h <;> rcases Nat.lt_trichotomy y z with g | g | g <;> rcases Nat.lt_trichotomy x z with w | w | w <;> first | (exfalso; omega) | skip
  · exact hr x y z h g h3
  · have e := hr x z y w g h2
    rw [k hx hz hy (by omega)] at e
    rw [k hx hy hz hd, (mS_g (R := R') hx hz hy).2.2.1, (mS_g (R := R) hx hz hy).2.2.1, e]
  · have e := hr z x y w h h2
    rw [k hz hx hy (by omega)] at e
    rw [k hx hy hz hd, (mS_g (R := R') hz hx hy).2.2.2.2, (mS_g (R := R) hz hx hy).2.2.2.2, e]
  · have e := hr y x z h w h3
    rw [k hy hx hz (by omega)] at e
    rw [k hx hy hz hd, (mS_g (R := R') hy hx hz).1, (mS_g (R := R) hy hx hz).1, e]
  · have e := hr y z x g w h1
    rw [k hy hz hx (by omega)] at e
    rw [k hx hy hz hd, (mS_g (R := R') hy hz hx).2.2.2.1, (mS_g (R := R) hy hz hx).2.2.2.1, e]
  · have e := hr z y x g h h1
    rw [k hz hy hx (by omega)] at e
    rw [k hx hy hz hd, (mS_g (R := R') hz hy hx).2.1, (mS_g (R := R) hz hy hx).2.1, e]
/-! drop -/
def rmT (n e : Nat) : Nat → Tok := (trip n).foldl (fun σ t => sg6T σ t.1 t.2.1 t.2.2 (σ (i6 (shf e t.1) (shf e t.2.1) (shf e t.2.2)))) fun i => (false, i)
theorem rmT_b : ∀ n, n < 6 → ∀ e, e < 6 → (trip n).all (fun t => !decide (e ≤ n) || decide (rmT n e (i6 t.1 t.2.1 t.2.2) = (false, i6 (shf e t.1) (shf e t.2.1) (shf e t.2.2)))) = true := by decide +kernel
theorem shf_ne {e : Nat} (h : a ≠ b) : shf e a ≠ shf e b := by unfold shf; split <;> split <;> omega
theorem shf_lt {e : Nat} (h : a < n) : shf e a < n + 1 := by unfold shf; split <;> omega
theorem shf_mono {e : Nat} (h : a < b) : shf e a < shf e b := by unfold shf; split <;> split <;> omega
theorem rmS_T (hF : AI F) (hn : n < 6) (he : e ≤ n) : rmS n e F = (fun i => tkV F (rmT n e i)) ∧ AI (rmS n e F) := by
  unfold rmS rmT
  refine fold_rel2 (R := fun (x : Nat → Int32) (y : Nat → Tok) => x = (fun i => tkV F (y i)) ∧ AI x) (fun t ht x y hxy => ?_) ⟨rfl, hF⟩
  obtain ⟨h1, h2⟩ := hxy
  have ht := trip_mem.mp ht
  refine ⟨?_, AI_sg h2 (AI_F h2 (by have := shf_lt (e := e) (show t.1 < n by omega); omega) (by have := shf_lt (e := e) (show t.2.1 < n by omega); omega) (by have := shf_lt (e := e) ht.2.2; omega)) (by omega) (by omega) (by omega) (by omega)⟩
  rw [← sg6T_v, ← h1]
  rw [h1]
theorem rmP_at : ∀ k (g : Nat → Int32), ∀ f i, i < 3 → ((rg 0 k).foldl (fun g a => pt3 g a (g (shf e a * 3)) (g (shf e a * 3 + 1)) (g (shf e a * 3 + 2))) g) (f * 3 + i) = if f < k then g (shf e f * 3 + i) else g (f * 3 + i) := by
  intro k
  induction k with
  | zero => intro g f i _; rw [rg_end, if_neg (by omega)]; rfl
  | succ k ih =>
    intro g f i hi
    rw [rg_snoc, List.foldl_append]
    simp only [List.foldl_cons, List.foldl_nil]
    rw [pt3_at hi]
    have k0 := ih g (shf e k) 0 (by decide)
    have k1 := ih g (shf e k) 1 (by decide)
    have k2 := ih g (shf e k) 2 (by decide)
    have sk : ¬ shf e k < k := by unfold shf; split <;> omega
    rw [if_neg sk, Nat.add_zero] at k0
    rw [if_neg sk] at k1 k2
    rw [k0, k1, k2]
    by_cases h : f = k
    · rw [if_pos h, h, if_pos (Nat.lt_succ_self k)]
      match i, hi with
      | 0, _ => rw [if_pos rfl, Nat.add_zero]
      | 1, _ => rw [if_neg (by decide), if_pos rfl]
      | 2, _ => rw [if_neg (by decide), if_neg (by decide)]
    · rw [if_neg h, ih g f i hi]
      by_cases h2 : f < k
      · rw [if_pos h2, if_pos (by omega)]
      · rw [if_neg h2, if_neg (by omega)]
end
