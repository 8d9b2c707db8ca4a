/-! the class's arrangement and the model's row: what ties them -/
def dis3 (a b c : Nat) : Bool := !(a == b || (a == c || b == c))
def pr3 (a b c : Nat) : Bool := xor (decide (b < a)) (xor (decide (c < a)) (decide (c < b)))
def sx3 (a b c i : Nat) : Nat := if i = i6 b a c then 2 else if i = i6 c b a then 2 else if i = i6 a c b then 2 else if i = i6 c a b then 1 else if i = i6 b c a then 1 else if i = i6 a b c then 1 else 0
def ckS (a b c x y z : Nat) : Bool := !dis3 a b c || (if dis3 x y z = true then (if pT x y z = pT a b c then sx3 a b c (i6 x y z) == (if pr3 a b c == pr3 x y z then 1 else 2) else sx3 a b c (i6 x y z) == 0) else sx3 a b c (i6 x y z) == 0)
theorem ckS_all : ∀ a, a < 6 → ∀ b, b < 6 → ∀ c, c < 6 → ∀ x, x < 6 → ∀ y, y < 6 → ∀ z, z < 6 → ckS a b c x y z = true := by decide +kernel
theorem tO_pr : ∀ a, a < 6 → ∀ b, b < 6 → ∀ c, c < 6 → tO a b c = if dis3 a b c = true then (if pr3 a b c = true then -1 else 1) else 0 := by decide +kernel
theorem dis3_t {a b c : Nat} : dis3 a b c = true ↔ ¬ (a = b ∨ a = c ∨ b = c) := by
  unfold dis3
  simp only [Bool.not_eq_true', Bool.or_eq_false_iff, beq_eq_false_iff_ne, ne_eq, not_or]
theorem sg6_sx {F : Nat → Int32} {a b c i : Nat} {v : Int32} : sg6 F a b c v i = if sx3 a b c i = 2 then -v else if sx3 a b c i = 1 then v else F i := by
  unfold sg6 sx3
  simp only [upd]
  by_cases h1 : i = i6 b a c
  · rw [if_pos h1, if_pos h1]; rfl
  rw [if_neg h1, if_neg h1]
  by_cases h2 : i = i6 c b a
  · rw [if_pos h2, if_pos h2]; rfl
  rw [if_neg h2, if_neg h2]
  by_cases h3 : i = i6 a c b
  · rw [if_pos h3, if_pos h3]; rfl
  rw [if_neg h3, if_neg h3]
  by_cases h4 : i = i6 c a b
  · rw [if_pos h4, if_pos h4]; rfl
  rw [if_neg h4, if_neg h4]
  by_cases h5 : i = i6 b c a
  · rw [if_pos h5, if_pos h5]; rfl
  rw [if_neg h5, if_neg h5]
  by_cases h6 : i = i6 a b c
  · rw [if_pos h6, if_pos h6]; rfl
  rw [if_neg h6, if_neg h6]
  rfl
section
variable {a b c x y z n e f : Nat} {F G R : Nat → Int32} {v : Int32}
theorem tO_tO (ha : a < 6) (hb : b < 6) (hc : c < 6) (hd : ¬ (a = b ∨ a = c ∨ b = c)) (hx : x < 6) (hy : y < 6) (hz : z < 6) (hdx : ¬ (x = y ∨ x = z ∨ y = z)) : tO x y z * (v * tO a b c) = if (pr3 a b c == pr3 x y z) = true then v else -v := by
  rw [tO_pr a ha b hb c hc, tO_pr x hx y hy z hz, if_pos (dis3_t.mpr hd), if_pos (dis3_t.mpr hdx)]
  cases pr3 a b c <;> cases pr3 x y z <;> simp [Int32.mul_neg, Int32.neg_mul]
theorem sg6_at (ha : a < 6) (hb : b < 6) (hc : c < 6) (hd : ¬ (a = b ∨ a = c ∨ b = c)) (hx : x < 6) (hy : y < 6) (hz : z < 6) (hdx : ¬ (x = y ∨ x = z ∨ y = z)) : sg6 F a b c v (i6 x y z) = if pT x y z = pT a b c then tO x y z * (v * tO a b c) else F (i6 x y z) := by
  have h := ckS_all a ha b hb c hc x hx y hy z hz
  unfold ckS at h
  rw [dis3_t.mpr hd, dis3_t.mpr hdx, Bool.not_true, Bool.false_or, if_pos rfl] at h
  rw [sg6_sx]
  by_cases hp : pT x y z = pT a b c
  · rw [if_pos hp] at h ⊢
    rw [tO_tO ha hb hc hd hx hy hz hdx]
    cases hq : pr3 a b c == pr3 x y z with
    | true =>
      rw [hq, if_pos rfl, beq_iff_eq] at h
      rw [h, if_neg (by decide), if_pos rfl, if_pos rfl]
    | false =>
      rw [hq, if_neg (by decide), beq_iff_eq] at h
      rw [h, if_pos rfl, if_neg (by decide)]
  · rw [if_neg hp] at h ⊢
    rw [beq_iff_eq] at h
    rw [h, if_neg (by decide), if_neg (by decide)]
theorem sg6_dg (ha : a < 6) (hb : b < 6) (hc : c < 6) (hd : ¬ (a = b ∨ a = c ∨ b = c)) (hx : x < 6) (hy : y < 6) (hz : z < 6) (hdx : x = y ∨ x = z ∨ y = z) : sg6 F a b c v (i6 x y z) = F (i6 x y z) := by
  have h := ckS_all a ha b hb c hc x hx y hy z hz
  unfold ckS at h
  have : dis3 x y z = false := by
    cases hq : dis3 x y z with
    | false => rfl
    | true => exact absurd hdx (dis3_t.mp hq)
  rw [dis3_t.mpr hd, this, Bool.not_true, Bool.false_or, if_neg (by decide), beq_iff_eq] at h
  rw [sg6_sx, h, if_neg (by decide), if_neg (by decide)]
theorem mS_sgU : mS (sgU R a b c v) x y z = if pT x y z = pT a b c then tO x y z * (v * tO a b c) else mS R x y z := by
  unfold mS sgU
  simp only [upd]
  by_cases hp : pT x y z = pT a b c
  · rw [if_pos hp, if_pos (by omega)]
  · rw [if_neg hp, if_neg (by omega)]
/-- zero where two are the same -/
def dgF (F : Nat → Int32) : Prop := ∀ a b c, a < 6 → b < 6 → c < 6 → (a = b ∨ a = c ∨ b = c) → F (i6 a b c) = 0
/-- alike at the places told -/
def ARs (P : Nat → Bool) (F R : Nat → Int32) : Prop := ∀ a b c, a < 6 → b < 6 → c < 6 → ¬ (a = b ∨ a = c ∨ b = c) → P (pT a b c) = true → F (i6 a b c) = mS R a b c
theorem dgF_sg (h : dgF F) (ha : a < 6) (hb : b < 6) (hc : c < 6) (hd : ¬ (a = b ∨ a = c ∨ b = c)) : dgF (sg6 F a b c v) := fun x y z hx hy hz hdx => by rw [sg6_dg ha hb hc hd hx hy hz hdx]; exact h x y z hx hy hz hdx
theorem ARs_sg {P : Nat → Bool} (h : ARs P F R) (ha : a < 6) (hb : b < 6) (hc : c < 6) (hd : ¬ (a = b ∨ a = c ∨ b = c)) : ARs (fun p => P p || decide (p = pT a b c)) (sg6 F a b c v) (sgU R a b c v) := fun x y z hx hy hz hdx hP => by
  rw [sg6_at ha hb hc hd hx hy hz hdx, mS_sgU]
  by_cases hp : pT x y z = pT a b c
  · rw [if_pos hp, if_pos hp]
  · rw [if_neg hp, if_neg hp]
    have hP' : (P (pT x y z) || decide (pT x y z = pT a b c)) = true := hP
    rw [decide_eq_false hp, Bool.or_false] at hP'
    exact h x y z hx hy hz hdx hP'
theorem ARs_wk {P Q : Nat → Bool} (h : ARs P F R) (hw : ∀ p, Q p = true → P p = true) : ARs Q F R := fun x y z hx hy hz hd hQ => h x y z hx hy hz hd (hw _ hQ)
/-- the places of n elements -/
def inN (n p : Nat) : Bool := (trip n).any fun t => pT t.1 t.2.1 t.2.2 == p
theorem inN_b : ∀ n, n < 7 → ∀ a, a < 6 → ∀ b, b < 6 → ∀ c, c < 6 → (!dis3 a b c || (inN n (pT a b c) == (decide (a < n) && (decide (b < n) && decide (c < n))))) = true := by decide +kernel
theorem inN_iff (hn : n < 7) (ha : a < 6) (hb : b < 6) (hc : c < 6) (hd : ¬ (a = b ∨ a = c ∨ b = c)) : inN n (pT a b c) = true ↔ a < n ∧ b < n ∧ c < n := by
  have h := inN_b n hn a ha b hb c hc
  rw [dis3_t.mpr hd, Bool.not_true, Bool.false_or, beq_iff_eq] at h
  rw [h]
  simp only [Bool.and_eq_true, decide_eq_true_eq]
/-- the class's arrangement is the model's row -/
def AR (n : Nat) (F G R : Nat → Int32) : Prop := R 0 = nI n ∧ ARs (inN n) F R ∧ ∀ e i, e < n → i < 3 → G (e * 3 + i) = mco R e i
theorem AR_F (h : AR n F G R) (hd : dgF F) (hn : n ≤ 6) (ha : a < n) (hb : b < n) (hc : c < n) : F (i6 a b c) = mS R a b c := by
  by_cases he : a = b ∨ a = c ∨ b = c
  · rw [hd a b c (by omega) (by omega) (by omega) he]
    unfold mS
    rw [(tO_0 a (by omega) b (by omega) c (by omega)).mpr he, Int32.zero_mul]
  · exact h.2.1 a b c (by omega) (by omega) (by omega) he ((inN_iff (by omega) (by omega) (by omega) (by omega) he).mpr ⟨ha, hb, hc⟩)
theorem mco_sgU {i : Nat} (ha : a < 6) (hb : b < 6) (hc : c < 6) (hd : ¬ (a = b ∨ a = c ∨ b = c)) : mco (sgU R a b c v) e i = mco R e i := by
  unfold mco sgU
  have := pT_lt ha hb hc hd
  simp only [upd]
  rw [if_neg (by omega)]
theorem AR_sg (h : AR n F G R) (hn : n ≤ 6) (ha : a < n) (hb : b < n) (hc : c < n) (hd : ¬ (a = b ∨ a = c ∨ b = c)) : AR n (sg6 F a b c v) G (sgU R a b c v) := by
  refine ⟨sgU_0.trans h.1, ARs_wk (ARs_sg h.2.1 (by omega) (by omega) (by omega) hd) fun p hp => by simp only [hp, Bool.true_or], fun e i he hi => ?_⟩
  rw [mco_sgU (by omega) (by omega) (by omega) hd]
  exact h.2.2 e i he hi
theorem AR_same (h : AR n F G R) (hn : n ≤ 6) (ha : a < 6) (hb : b < 6) (hc : c < 6) (hd : ¬ (a = b ∨ a = c ∨ b = c)) : AR n F G (sgU R a b c (mS R a b c)) := by
  refine ⟨sgU_0.trans h.1, fun x y z hx hy hz hdx hP => ?_, fun e i he hi => ?_⟩
  · rw [mS_sgU, h.2.1 x y z hx hy hz hdx hP]
    by_cases hp : pT x y z = pT a b c
    · rw [if_pos hp]
      unfold mS
      rw [hp, tO_pr a ha b hb c hc, tO_pr x hx y hy z hz, if_pos (dis3_t.mpr hd), if_pos (dis3_t.mpr hdx)]
      cases pr3 a b c <;> cases pr3 x y z <;> simp [Int32.mul_neg, Int32.neg_mul]
    · rw [if_neg hp]
  · rw [mco_sgU ha hb hc hd]
    exact h.2.2 e i he hi
theorem mco_ptM {X Y Z : Int32} {i : Nat} (hi : i < 3) : mco (ptM R e X Y Z) f i = if f = e then (if i = 0 then X else if i = 1 then Y else Z) else mco R f i := by
  unfold mco ptM
  simp only [upd]
  by_cases h : f = e
  · rw [if_pos h, h]
    match i, hi with
    | 0, _ => rw [if_neg (by omega), if_neg (by omega), if_pos (by omega), if_pos rfl]
    | 1, _ => rw [if_neg (by omega), if_pos (by omega), if_neg (by decide), if_pos rfl]
    | 2, _ => rw [if_pos (by omega), if_neg (by decide), if_neg (by decide)]
  · rw [if_neg h, if_neg (by omega), if_neg (by omega), if_neg (by omega)]
theorem pt3_at {X Y Z : Int32} {i : Nat} (hi : i < 3) : pt3 G e X Y Z (f * 3 + i) = if f = e then (if i = 0 then X else if i = 1 then Y else Z) else G (f * 3 + i) := by
  unfold pt3
  simp only [upd]
  by_cases h : f = e
  · rw [if_pos h, h]
    match i, hi with
    | 0, _ => rw [if_neg (by omega), if_neg (by omega), if_pos (by omega), if_pos rfl]
    | 1, _ => rw [if_neg (by omega), if_pos (by omega), if_neg (by decide), if_pos rfl]
    | 2, _ => rw [if_pos (by omega), if_neg (by decide), if_neg (by decide)]
  · rw [if_neg h, if_neg (by omega), if_neg (by omega), if_neg (by omega)]
theorem mS_ptM {X Y Z : Int32} (ha : a < 6) (hb : b < 6) (hc : c < 6) (hd : ¬ (a = b ∨ a = c ∨ b = c)) : mS (ptM R e X Y Z) a b c = mS R a b c := by
  unfold mS ptM
  have := pT_lt ha hb hc hd
  simp only [upd]
  rw [if_neg (by omega), if_neg (by omega), if_neg (by omega)]
theorem AR_pt {X Y Z : Int32} (h : AR n F G R) : AR n F (pt3 G e X Y Z) (ptM R e X Y Z) := by
  refine ⟨ptM_0.trans h.1, fun x y z hx hy hz hdx hP => ?_, fun f i hf hi => ?_⟩
  · rw [mS_ptM hx hy hz hdx]
    exact h.2.1 x y z hx hy hz hdx hP
  · rw [mco_ptM hi, pt3_at hi]
    split
    · rfl
    · exact h.2.2 f i hf hi
/-- the two turns are one -/
theorem trn_mtn (h : ∀ e i, e < n → i < 3 → G (e * 3 + i) = mco R e i) (ha : a < n) (hb : b < n) (hc : c < n) : trn G a b c = mtn R a b c := by
  have k : ∀ e, e < n → G (e * 3) = mco R e 0 ∧ G (e * 3 + 1) = mco R e 1 ∧ G (e * 3 + 2) = mco R e 2 ∧ G (e * 3 + 0) = mco R e 0 := fun e he => ⟨h e 0 he (by decide), h e 1 he (by decide), h e 2 he (by decide), h e 0 he (by decide)⟩
  obtain ⟨a0, a1, a2, -⟩ := k a ha
  obtain ⟨-, b1, b2, b0⟩ := k b hb
  obtain ⟨-, c1, c2, c0⟩ := k c hc
  unfold trn mtn mnr
  rw [a0, a1, a2, b0, b1, b2, c0, c1, c2, show nI 0 = 0 from rfl]
  grind
theorem sgn_sgM (x : Int32) : sgn x = sgM x := by
  unfold sgn sgM
  by_cases h0 : x = 0
  · rw [if_pos h0, h0]; decide
  · rw [if_neg h0]
    by_cases h1 : 0 < x
    · rw [if_pos h1, if_pos h1]
    · rw [if_neg h1, if_neg h1, if_pos]
      rw [Int32.lt_iff_toInt_lt] at h1 ⊢
      have : x.toInt ≠ (0 : Int32).toInt := fun h => h0 (Int32.toInt_inj.mp h)
      omega
end
