/-! what stands at right angles to all circuits -/
section
variable {a b c d e n x y z k p q r s : Nat} {F G R : Nat → Int32} {D E : Nat → Nat} {P Q : Nat → Bool} {l : List Nat} {χ : Nat → Nat → Nat → Nat} {X : Nat → Nat}
def dX (n c f : Nat) : Nat := if f < n then dgN n c f else 1
theorem dX_lt {f : Nat} : dX n c f < 3 := by
  unfold dX
  split
  · exact dgN_lt
  · decide
theorem any_or {α : Type} {p q : α → Bool} : ∀ {l : List α} {u v : Bool}, l.foldl (fun (x : Bool × Bool) e => (x.1 || p e, x.2 || q e)) (u, v) = (u || l.any p, v || l.any q)
  | [], u, v => by simp
  | a :: l, u, v => by
    rw [List.foldl_cons, any_or, List.any_cons, List.any_cons, Bool.or_assoc, Bool.or_assoc]
theorem acD : ∀ a, a < 3 → ∀ b, b < 3 → decide (0 < (nI a - nI 1) * (nI b - nI 1)) = decide (oqPd a b = 2) ∧ decide ((nI a - nI 1) * (nI b - nI 1) < 0) = decide (oqPd a b = 0) := by decide
theorem acB_d : acB n x y = ((rg 0 n).any (fun e => decide (oqPd (dgN n x e) (dgN n y e) = 2)) == (rg 0 n).any fun e => decide (oqPd (dgN n x e) (dgN n y e) = 0)) := by
  have e : (rg 0 n).foldl (acS n x y) (false, false) = ((rg 0 n).any (fun e => decide (oqPd (dgN n x e) (dgN n y e) = 2)), (rg 0 n).any fun e => decide (oqPd (dgN n x e) (dgN n y e) = 0)) := by
    have h := any_or (p := fun e => decide (oqPd (dgN n x e) (dgN n y e) = 2)) (q := fun e => decide (oqPd (dgN n x e) (dgN n y e) = 0)) (l := rg 0 n) (u := false) (v := false)
    rw [Bool.false_or, Bool.false_or] at h
    rw [← h]
    congr 1
    funext w e
    have := acD (dgN n x e) dgN_lt (dgN n y e) dgN_lt
    unfold acS dg32
    rw [this.1, this.2]
  unfold acB
  rw [e]
/-- any of all, where but four count -/
theorem any_4 {f : Nat → Bool} (hp : p < n) (hq : q < n) (hr : r < n) (hs : s < n) (h : ∀ e, e < n → e ≠ p → e ≠ q → e ≠ r → e ≠ s → f e = false) : (rg 0 n).any f = ((f p || f q) || (f r || f s)) := by
  apply Bool.eq_iff_iff.mpr
  rw [List.any_eq_true]
  simp only [Bool.or_eq_true]
  constructor
  · rintro ⟨e, he, k⟩
    by_cases h1 : e = p
    · exact Or.inl (Or.inl (h1 ▸ k))
    by_cases h2 : e = q
    · exact Or.inl (Or.inr (h2 ▸ k))
    by_cases h3 : e = r
    · exact Or.inr (Or.inl (h3 ▸ k))
    by_cases h4 : e = s
    · exact Or.inr (Or.inr (h4 ▸ k))
    rw [h e (rg_mem.mp he).2 h1 h2 h3 h4] at k
    cases k
  · rintro ((k | k) | (k | k))
    · exact ⟨p, rg_mem.mpr ⟨Nat.zero_le _, hp⟩, k⟩
    · exact ⟨q, rg_mem.mpr ⟨Nat.zero_le _, hq⟩, k⟩
    · exact ⟨r, rg_mem.mpr ⟨Nat.zero_le _, hr⟩, k⟩
    · exact ⟨s, rg_mem.mpr ⟨Nat.zero_le _, hs⟩, k⟩
/-- a circuit's code -/
def cirC (n : Nat) (R : Nat → Int32) (t : T4) : Nat := cdF n fun e => sd (cirM R t.1 t.2.1 t.2.2.1 t.2.2.2 e)
theorem cirC_lt {t : T4} : cirC n R t < 3 ^ n := cdF_lt fun _ _ => sd_lt
theorem cirD (h : AR n F G R) (hF : AI F) (hn : n ≤ 6) (h1 : p < q) (h2 : q < r) (h3 : r < s) (h4 : s < n) : dgN n (cirC n R (p, q, r, s)) p = xiM n R q r s ∧ dgN n (cirC n R (p, q, r, s)) q = 2 - xiM n R p r s ∧ dgN n (cirC n R (p, q, r, s)) r = xiM n R p q s ∧ dgN n (cirC n R (p, q, r, s)) s = 2 - xiM n R p q r ∧ ∀ e, e < n → e ≠ p → e ≠ q → e ≠ r → e ≠ s → dgN n (cirC n R (p, q, r, s)) e = 1 := by
  have k : ∀ {e}, e < n → dgN n (cirC n R (p, q, r, s)) e = sd (cirM R p q r s e) := fun he => dg_cd (fun _ _ => sd_lt) he
  have g : ∀ {a b c}, a < n → b < n → c < n → isSg (mS R a b c) := fun ha hb hc => AR_mS h hF hn ha hb hc
  refine ⟨?_, ?_, ?_, ?_, fun e he e1 e2 e3 e4 => ?_⟩
  · rw [k (by omega)]
    unfold cirM
    rw [if_neg (show ¬ p = s by omega), if_neg (show ¬ p = r by omega), if_neg (show ¬ p = q by omega), if_pos rfl, xiM_in ⟨by omega, by omega, h4⟩]
  · rw [k (by omega)]
    unfold cirM
    rw [if_neg (show ¬ q = s by omega), if_neg (show ¬ q = r by omega), if_pos rfl, xiM_in ⟨by omega, by omega, h4⟩, sd_n (g (by omega) (by omega) h4)]
  · rw [k (by omega)]
    unfold cirM
    rw [if_neg (show ¬ r = s by omega), if_pos rfl, xiM_in ⟨by omega, by omega, h4⟩]
  · rw [k h4]
    unfold cirM
    rw [if_pos rfl, xiM_in ⟨by omega, by omega, by omega⟩, sd_n (g (by omega) (by omega) (by omega))]
  · rw [k he]
    unfold cirM
    rw [if_neg e4, if_neg e3, if_neg e2, if_neg e1]
    rfl
theorem acB_cir (h : AR n F G R) (hF : AI F) (hn : n ≤ 6) (h1 : p < q) (h2 : q < r) (h3 : r < s) (h4 : s < n) : acB n c (cirC n R (p, q, r, s)) = oqO (dX n c) (xiM n R) p q r s := by
  obtain ⟨dp, dq, dr, ds, dz⟩ := cirD h hF hn h1 h2 h3 h4
  have hd : ∀ f, f < n → dX n c f = dgN n c f := fun f hf => if_pos hf
  rw [acB_d, any_4 (f := fun e => decide (oqPd (dgN n c e) (dgN n (cirC n R (p, q, r, s)) e) = 2)) (p := p) (q := q) (r := r) (s := s) (by omega) (by omega) (by omega) h4 (fun e he e1 e2 e3 e4 => by rw [dz e he e1 e2 e3 e4, oqPd_1r]; rfl), any_4 (f := fun e => decide (oqPd (dgN n c e) (dgN n (cirC n R (p, q, r, s)) e) = 0)) (p := p) (q := q) (r := r) (s := s) (by omega) (by omega) (by omega) h4 (fun e he e1 e2 e3 e4 => by rw [dz e he e1 e2 e3 e4, oqPd_1r]; rfl), dp, dq, dr, ds]
  unfold oqO
  rw [hd p (by omega), hd q (by omega), hd r (by omega), hd s h4, (oqPd_n _ dgN_lt _ xiM_lt).2, (oqPd_n _ dgN_lt _ xiM_lt).2]
  rfl
theorem acB_op (hx : x < 3 ^ n) : acB n c (3 ^ n - 1 - x) = acB n c x := by
  have ho := cd_op (n := n) (D := dgN n x) fun _ _ => dgN_lt
  rw [cd_dg hx] at ho
  rw [show 3 ^ n - 1 - x = cdF n (fun e => 2 - dgN n x e) by omega, acB_d, acB_d]
  have e2 : ∀ e ∈ rg 0 n, decide (oqPd (dgN n c e) (dgN n (cdF n fun e => 2 - dgN n x e) e) = 2) = decide (oqPd (dgN n c e) (dgN n x e) = 0) := fun e he => by
    rw [dg_cd (fun e _ => by have := @dgN_lt n x e; omega) (rg_mem.mp he).2, (oqPd_n _ dgN_lt _ dgN_lt).2]
    have := @oqPd_lt (dgN n c e) (dgN n x e)
    exact decide_eq_decide.mpr (by omega)
  have e0 : ∀ e ∈ rg 0 n, decide (oqPd (dgN n c e) (dgN n (cdF n fun e => 2 - dgN n x e) e) = 0) = decide (oqPd (dgN n c e) (dgN n x e) = 2) := fun e he => by
    rw [dg_cd (fun e _ => by have := @dgN_lt n x e; omega) (rg_mem.mp he).2, (oqPd_n _ dgN_lt _ dgN_lt).2]
    have := @oqPd_lt (dgN n c e) (dgN n x e)
    exact decide_eq_decide.mpr (by omega)
  rw [any_congr e2, any_congr e0, Bool.beq_comm]
theorem acB_c0 : acB n c (c0 n) = true := by
  rw [acB_d]
  have e : ∀ v, v ≠ 1 → (rg 0 n).any (fun e => decide (oqPd (dgN n c e) (dgN n (c0 n) e) = v)) = false := fun v hv => by
    rw [List.any_eq_false]
    intro e he
    rw [show dgN n (c0 n) e = 1 from dg_cd (D := fun _ => 1) (fun _ _ => by decide) (rg_mem.mp he).2, oqPd_1r, decide_eq_false (fun h => hv h.symm)]
    decide
  rw [e 2 (by decide), e 0 (by decide)]
  rfl
theorem mbP_t : mbP n c P y = true ↔ P y = true ∨ (zrN n c < n ∧ (y = c ∨ y = 3 ^ n - 1 - c)) := by
  unfold mbP
  by_cases z : zrN n c < n
  · rw [if_pos z]
    unfold setB
    by_cases h1 : y = 3 ^ n - 1 - c
    · rw [if_pos h1]; exact ⟨fun _ => Or.inr ⟨z, Or.inr h1⟩, fun _ => rfl⟩
    · rw [if_neg h1]
      by_cases h2 : y = c
      · rw [if_pos h2]; exact ⟨fun _ => Or.inr ⟨z, Or.inl h2⟩, fun _ => rfl⟩
      · rw [if_neg h2]
        exact ⟨Or.inl, fun h => h.elim id fun h => h.2.elim (fun e => absurd e h2) fun e => absurd e h1⟩
  · rw [if_neg z]
    exact ⟨Or.inl, fun h => h.elim id fun h => absurd h.1 z⟩
theorem mbP_f {α : Type} {C : α → Nat} : ∀ {l : List α} {P : Nat → Bool}, l.foldl (fun P t => mbP n (C t) P) P y = true ↔ P y = true ∨ ∃ t ∈ l, zrN n (C t) < n ∧ (y = C t ∨ y = 3 ^ n - 1 - C t)
  | [], P => ⟨Or.inl, fun h => h.elim id fun ⟨_, h, _⟩ => (by cases h)⟩
  | a :: l, P => by
    rw [List.foldl_cons, mbP_f, mbP_t]
    constructor
    · rintro ((h | h) | ⟨t, ht, h⟩)
      · exact Or.inl h
      · exact Or.inr ⟨a, List.mem_cons_self, h⟩
      · exact Or.inr ⟨t, List.mem_cons_of_mem _ ht, h⟩
    · rintro (h | ⟨t, ht, h⟩)
      · exact Or.inl (Or.inl h)
      · rcases List.mem_cons.mp ht with rfl | ht
        · exact Or.inl (Or.inr h)
        · exact Or.inr ⟨t, ht, h⟩
theorem covP_q (h : AR n F G R) (hF : AI F) (hn : n ≤ 6) (hc : c < 3 ^ n) : covP n (cirP n R fP) c = true ↔ ∀ p q r s, p < q → q < r → r < s → s < n → oqO (dX n c) (xiM n R) p q r s = true := by
  have hm : ∀ y, cirP n R fP y = true ↔ ∃ t ∈ quad n, zrN n (cirC n R t) < n ∧ (y = cirC n R t ∨ y = 3 ^ n - 1 - cirC n R t) := fun y => by
    have := mbP_f (n := n) (y := y) (C := cirC n R) (l := quad n) (P := fP)
    exact this.trans ⟨fun h => h.elim (fun h => (by cases h)) id, Or.inr⟩
  unfold covP
  rw [if_pos hc, List.all_eq_true]
  constructor
  · intro hall p q r s h1 h2 h3 h4
    rw [← acB_cir h hF hn h1 h2 h3 h4]
    by_cases z : zrN n (cirC n R (p, q, r, s)) < n
    · exact hall _ (List.mem_filter.mpr ⟨rg_mem.mpr ⟨Nat.zero_le _, cirC_lt⟩, (hm _).mpr ⟨(p, q, r, s), quad_mem.mpr ⟨h1, h2, h3, h4⟩, z, Or.inl rfl⟩⟩)
    · have : cirC n R (p, q, r, s) = c0 n := Classical.byContradiction fun e => z ((zr_c hn cirC_lt).mpr e)
      rw [this]
      exact acB_c0
  · intro hall y hy
    obtain ⟨hy1, hy2⟩ := List.mem_filter.mp hy
    obtain ⟨⟨p, q, r, s⟩, ht, _, e⟩ := (hm y).mp hy2
    have ht := quad_mem.mp ht
    have k := hall p q r s ht.1 ht.2.1 ht.2.2.1 ht.2.2.2
    rw [← acB_cir h hF hn ht.1 ht.2.1 ht.2.2.1 ht.2.2.2] at k
    rcases e with rfl | rfl
    · exact k
    · rw [acB_op cirC_lt]
      exact k
theorem o4_s : ∀ x, x < 3 → ∀ y, y < 3 → ∀ z, z < 3 → ∀ w, w < 3 → (oqO4 y (2 - x) (2 - z) (2 - (2 - w)) = oqO4 x (2 - y) z (2 - w) ∧ oqO4 (2 - x) (2 - z) y (2 - (2 - w)) = oqO4 x (2 - y) z (2 - w) ∧ oqO4 (2 - x) (2 - (2 - y)) w (2 - z) = oqO4 x (2 - y) z (2 - w)) := by decide +kernel
theorem o4_d : ∀ x, x < 3 → oqO4 x (2 - x) 1 (2 - 1) = true := by decide
/-- at right angles to sorted fours: to all -/
theorem oqO_all (hX : oqX χ) (hXl : ∀ f, X f < 3) (hX6 : ∀ f, n ≤ f → X f = 1) (hz : ∀ a b c, n ≤ c → χ a b c = 1) (h : ∀ p q r s, p < q → q < r → r < s → s < n → oqO X χ p q r s = true) (p q r s : Nat) : oqO X χ p q r s = true := by
  have L := oqX_lt hX
  have T : ∀ {u x y z}, oqPd (X u) (χ x y z) < 3 := oqPd_lt
  have N : ∀ u x y z, oqPd (X u) (χ y x z) = 2 - oqPd (X u) (χ x y z) := fun u x y z => by rw [oqX_s1 hX x y z]; exact (oqPd_n _ (hXl u) _ (L _ _ _)).2
  have M : ∀ u x y z, oqPd (X u) (χ x z y) = 2 - oqPd (X u) (χ x y z) := fun u x y z => by rw [oqX_s2 hX x y z]; exact (oqPd_n _ (hXl u) _ (L _ _ _)).2
  refine so4 (P := fun p q r s => oqO X χ p q r s = true) (fun {p q r s} k => ?_) (fun {p q r s} k => ?_) (fun {p q r s} k => ?_) (fun {p r s} => ?_) (fun {p q r s} h1 h2 h3 => ?_) p q r s
  · unfold oqO at k ⊢
    rw [N r p q s, N s p q r, (o4_s _ T _ T _ T _ T).1] at k
    exact k
  · unfold oqO at k ⊢
    rw [N p q r s, M s p q r, (o4_s _ T _ T _ T _ T).2.1] at k
    exact k
  · unfold oqO at k ⊢
    rw [M p q r s, M q p r s, (o4_s _ T _ T _ T _ T).2.2] at k
    exact k
  · unfold oqO
    rw [oqX_d1 hX, oqX_d1 hX, oqPd_1r, oqPd_1r]
    exact o4_d _ T
  · by_cases hs : s < n
    · exact h p q r s h1 h2 h3 hs
    · unfold oqO
      rw [hz q r s (by omega), hz p r s (by omega), hz p q s (by omega), hX6 s (by omega), oqPd_1r, oqPd_1r, oqPd_1r, oqPd_1]
      rfl
theorem covP_iff (h : AR n F G R) (hF : AI F) (hn : n ≤ 6) (ho : orM n R = true) (hc : c < 3 ^ n) : covP n (cirP n R fP) c = true ↔ ∀ p q r s, oqO (dX n c) (xiM n R) p q r s = true := by
  rw [covP_q h hF hn hc]
  constructor
  · exact fun k => oqO_all (xiM_X h hF hn ho) (fun _ => dX_lt) (fun f hf => if_neg (by omega)) (fun a b c hc => xiM_out (by omega)) k
  · exact fun k p q r s _ _ _ _ => k p q r s
end
