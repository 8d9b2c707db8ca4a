/-! what is orderly, as digits -/
theorem so4 {P : Nat → Nat → Nat → Nat → Prop} (s1 : ∀ {a b c d}, P b a c d → P a b c d) (s2 : ∀ {a b c d}, P a c b d → P a b c d) (s3 : ∀ {a b c d}, P a b d c → P a b c d) (dd : ∀ {a b c}, P a a b c) (h : ∀ {a b c d}, a < b → b < c → c < d → P a b c d) (a b c d : Nat) : P a b c d := by
  have d2 : ∀ {a b c}, P b a a c := fun {a b c} => s1 (s2 dd)
  have d3 : ∀ {a b c}, P b c a a := fun {a b c} => s2 (s3 d2)
  have t1 : ∀ {a b c d}, a < b → b < c → P a b c d := fun {a b c d} h1 h2 => by
    by_cases e1 : c < d
    · exact h h1 h2 e1
    by_cases e2 : c = d
    · rw [e2]; exact d3
    refine s3 ?_
    by_cases e3 : b < d
    · exact h h1 e3 (by omega)
    by_cases e4 : b = d
    · rw [e4]; exact d2
    refine s2 ?_
    by_cases e5 : a < d
    · exact h e5 (by omega) h2
    by_cases e6 : a = d
    · rw [e6]; exact dd
    exact s1 (h (by omega) h1 h2)
  have t2 : ∀ {a b c d}, a < b → P a b c d := fun {a b c d} h1 => by
    by_cases e1 : b < c
    · exact t1 h1 e1
    by_cases e2 : b = c
    · rw [e2]; exact d2
    refine s2 ?_
    by_cases e3 : a < c
    · exact t1 e3 (by omega)
    by_cases e4 : a = c
    · rw [e4]; exact dd
    exact s1 (t1 (by omega) h1)
  by_cases e1 : a < b
  · exact t2 e1
  by_cases e2 : a = b
  · rw [e2]; exact dd
  exact s1 (t2 (by omega))
section
variable {a b c d e f n p q r x y z w : Nat} {F G R : Nat → Int32} {χ : Nat → Nat → Nat → Nat}
/-- the signs of triples as digits -/
def xiM (n : Nat) (R : Nat → Int32) (a b c : Nat) : Nat := if a < n ∧ b < n ∧ c < n then sd (mS R a b c) else 1
theorem xiM_in (h : a < n ∧ b < n ∧ c < n) : xiM n R a b c = sd (mS R a b c) := if_pos h
theorem xiM_out (h : ¬ (a < n ∧ b < n ∧ c < n)) : xiM n R a b c = 1 := if_neg h
theorem sd_lt {s : Int32} : sd s < 3 := by
  unfold sd
  split
  · decide
  · split <;> decide
theorem sd_n {s : Int32} (h : isSg s) : sd (-s) = 2 - sd s := by rcases h with rfl | rfl | rfl <;> decide
theorem sd_m {s t : Int32} (h : isSg s) (h' : isSg t) : sd (s * t) = oqPd (sd s) (sd t) := by
  rcases h with rfl | rfl | rfl <;> rcases h' with rfl | rfl | rfl <;> decide
theorem sd_g {s t u : Int32} (h : isSg s) (h' : isSg t) (h'' : isSg u) : gdM s t u = oqO3 (sd s) (sd t) (sd u) := by
  rcases h with rfl | rfl | rfl <;> rcases h' with rfl | rfl | rfl <;> rcases h'' with rfl | rfl | rfl <;> decide
theorem sd_0 {s : Int32} (h : isSg s) : sd s = 1 ↔ s = 0 := by rcases h with rfl | rfl | rfl <;> decide
def o5 (χ : Nat → Nat → Nat → Nat) (a b c d e : Nat) : Bool := oqO3 (oqPd (χ a b c) (χ a d e)) (2 - oqPd (χ a b d) (χ a c e)) (oqPd (χ a b e) (χ a c d))
theorem o5_gM (h : AR n F G R) (hF : AI F) (hn : n ≤ 6) (ha : a < n) (hb : b < n) (hc : c < n) (hd : d < n) (he : e < n) : gM5 R a b c d e = o5 (xiM n R) a b c d e := by
  have s : ∀ {b c}, b < n → c < n → isSg (mS R a b c) := fun hb hc => AR_mS h hF hn ha hb hc
  have L : ∀ {s : Int32}, sd s < 3 := sd_lt
  unfold gM5 o5
  rw [xiM_in ⟨ha, hb, hc⟩, xiM_in ⟨ha, hd, he⟩, xiM_in ⟨ha, hb, hd⟩, xiM_in ⟨ha, hc, he⟩, xiM_in ⟨ha, hb, he⟩, xiM_in ⟨ha, hc, hd⟩, sd_g (isSg_mul (s hb hc) (s hd he)) (isSg_mul (isSg_neg (s hb hd)) (s hc he)) (isSg_mul (s hb he) (s hc hd)), sd_m (s hb hc) (s hd he), sd_m (isSg_neg (s hb hd)) (s hc he), sd_m (s hb he) (s hc hd), sd_n (s hb hd), (oqPd_n _ L _ L).1]
theorem xiM_lt : xiM n R a b c < 3 := by
  unfold xiM
  split
  · exact sd_lt
  · decide
theorem xiM_s1 (h : AR n F G R) (hF : AI F) (hn : n ≤ 6) : xiM n R b a c = 2 - xiM n R a b c := by
  by_cases k : a < n ∧ b < n ∧ c < n
  · rw [xiM_in k, xiM_in ⟨k.2.1, k.1, k.2.2⟩, (mS_g (R := R) (a := a) (b := b) (c := c) (by omega) (by omega) (by omega)).1, sd_n (AR_mS h hF hn k.1 k.2.1 k.2.2)]
  · rw [xiM_out k, xiM_out (by omega)]
theorem xiM_s2 (h : AR n F G R) (hF : AI F) (hn : n ≤ 6) : xiM n R a c b = 2 - xiM n R a b c := by
  by_cases k : a < n ∧ b < n ∧ c < n
  · rw [xiM_in k, xiM_in ⟨k.1, k.2.2, k.2.1⟩, (mS_g (R := R) (a := a) (b := b) (c := c) (by omega) (by omega) (by omega)).2.2.1, sd_n (AR_mS h hF hn k.1 k.2.1 k.2.2)]
  · rw [xiM_out k, xiM_out (by omega)]
/-- no five amiss -/
theorem cnt_z {α : Type} {l : List α} {p : α → Prop} [DecidablePred p] : ∀ (k : Nat), k + l.length < 1000 → (∃ j, k ≤ j ∧ j ≤ k + l.length ∧ l.foldl (fun x t => x + if p t then nI 1 else nI 0) (nI k) = nI j ∧ (k = j → ∀ t ∈ l, ¬ p t)) := by
  induction l with
  | nil => exact fun k _ => ⟨k, Nat.le_refl _, Nat.le_refl _, rfl, fun _ t ht => by cases ht⟩
  | cons t l ih =>
    intro k hk
    rw [List.length_cons] at hk ⊢
    rw [List.foldl_cons]
    by_cases hp : p t
    · rw [if_pos hp, nI_add]
      obtain ⟨j, h1, h2, h3, h4⟩ := ih (k + 1) (by omega)
      exact ⟨j, by omega, by omega, h3, fun e => by omega⟩
    · rw [if_neg hp, show nI k + nI 0 = nI k from Int32.add_zero _]
      obtain ⟨j, h1, h2, h3, h4⟩ := ih k (by omega)
      exact ⟨j, by omega, by omega, h3, fun e u hu => by
        rcases List.mem_cons.mp hu with rfl | hu
        · exact hp
        · exact h4 e u hu⟩
end
