/-! what is orderly keeps the rules for any places -/
theorem o3_1 : ∀ x, x < 3 → ∀ y, y < 3 → ∀ z, z < 3 → oqO3 (2 - x) (2 - z) y = oqO3 x (2 - y) z ∧ oqO3 y (2 - x) (2 - z) = oqO3 x (2 - y) z := by decide
theorem o3_2 : ∀ x, x < 3 → oqO3 1 (2 - x) x = true := by decide
theorem oqPd_c : ∀ p, p < 3 → ∀ q, q < 3 → oqPd p q = oqPd q p := by decide
theorem oqPd_1r {p : Nat} : oqPd p 1 = 1 := if_pos (Or.inr rfl)
theorem five_len : ∀ n, n < 7 → ((rg 0 n).flatMap fun a => (quad n).map fun t => (a, t)).length < 900 := by decide +kernel
section
variable {a b c d e f n p q r x y z w : Nat} {F G R : Nat → Int32} {χ : Nat → Nat → Nat → Nat}
theorem bd_all (hn : n ≤ 6) (h : bdF n F 0 n = 0) (ha : a < n) {t : T4} (ht : t ∈ quad n) (hq : a ≠ t.1 ∧ a ≠ t.2.1 ∧ a ≠ t.2.2.1 ∧ a ≠ t.2.2.2) : gd5 F a t.1 t.2.1 t.2.2.1 t.2.2.2 = true := by
  have hl := five_len n (by omega)
  obtain ⟨j, h1, h2, h3, h4⟩ := cnt_z (l := (rg 0 n).flatMap fun a => (quad n).map fun t => (a, t)) (p := fun t : Nat × T4 => (t.1 ≠ t.2.1 ∧ t.1 ≠ t.2.2.1 ∧ t.1 ≠ t.2.2.2.1 ∧ t.1 ≠ t.2.2.2.2) ∧ gd5 F t.1 t.2.1 t.2.2.1 t.2.2.2.1 t.2.2.2.2 = false) 0 (by omega)
  rw [List.foldl_flatMap] at h3
  simp only [List.foldl_map] at h3
  have e : bdF n F 0 n = nI j := h3
  rw [h] at e
  have : (nI j = 0) = (j = 0) := nI_z (show j < 2 ^ 31 by omega)
  have j0 : j = 0 := this ▸ e.symm
  have := h4 j0.symm (a, t) (List.mem_flatMap.mpr ⟨a, rg_mem.mpr ⟨Nat.zero_le _, ha⟩, List.mem_map.mpr ⟨t, ht, rfl⟩⟩)
  cases hg : gd5 F a t.1 t.2.1 t.2.2.1 t.2.2.2 with
  | true => rfl
  | false => exact absurd ⟨hq, hg⟩ this
theorem o5_all (h : AR n F G R) (hF : AI F) (hn : n ≤ 6) (hb : bdF n F 0 n = 0) (a b c d e : Nat) : o5 (xiM n R) a b c d e = true := by
  have s1 : ∀ x y z, xiM n R y x z = 2 - xiM n R x y z := fun _ _ _ => xiM_s1 h hF hn
  have s2 : ∀ x y z, xiM n R x z y = 2 - xiM n R x y z := fun _ _ _ => xiM_s2 h hF hn
  have L : ∀ x y z, xiM n R x y z < 3 := fun _ _ _ => xiM_lt
  have z1 : ∀ x y, xiM n R x x y = 1 := fun x y => by have := s1 x x y; have := L x x y; omega
  have z2 : ∀ x y, xiM n R x y y = 1 := fun x y => by have := s2 x y y; have := L x y y; omega
  have z3 : ∀ x y, xiM n R x y x = 1 := fun x y => by have := s2 x x y; have := z1 x y; omega
  have P : ∀ {x y z u v w}, oqPd (xiM n R x y z) (xiM n R u v w) < 3 := oqPd_lt
  have B1 : oqO3 1 (2 - 1) 1 = true := rfl
  by_cases ha : a < n
  case neg =>
    unfold o5
    rw [xiM_out (b := b) (c := c) (by omega), xiM_out (b := b) (c := d) (by omega), xiM_out (b := b) (c := e) (by omega), oqPd_1, oqPd_1, oqPd_1]
    rfl
  by_cases hb' : b < n
  case neg =>
    unfold o5
    rw [xiM_out (b := b) (c := c) (by omega), xiM_out (b := b) (c := d) (by omega), xiM_out (b := b) (c := e) (by omega), oqPd_1, oqPd_1, oqPd_1]
    rfl
  by_cases hc : c < n
  case neg =>
    unfold o5
    rw [xiM_out (b := b) (c := c) (by omega), xiM_out (b := c) (c := e) (by omega), xiM_out (b := c) (c := d) (by omega), oqPd_1, oqPd_1r, oqPd_1r]
    rfl
  by_cases hd : d < n
  case neg =>
    unfold o5
    rw [xiM_out (b := d) (c := e) (by omega), xiM_out (b := b) (c := d) (by omega), xiM_out (b := c) (c := d) (by omega), oqPd_1, oqPd_1r, oqPd_1r]
    rfl
  by_cases he : e < n
  case neg =>
    unfold o5
    rw [xiM_out (b := d) (c := e) (by omega), xiM_out (b := c) (c := e) (by omega), xiM_out (b := b) (c := e) (by omega), oqPd_1, oqPd_1r, oqPd_1r]
    rfl
  refine so4 (P := fun b c d e => b < n → c < n → d < n → e < n → o5 (xiM n R) a b c d e = true) (fun {b c d e} h hb hc hd he => ?_) (fun {b c d e} h hb hc hd he => ?_) (fun {b c d e} h hb hc hd he => ?_) (fun {b c d} hb _ hc hd => ?_) (fun {b c d e} h1 h2 h3 hb' hc hd he => ?_) b c d e hb' hc hd he
  · have k := h hc hb hd he
    unfold o5 at k ⊢
    rw [s2 a b c, (oqPd_n _ (L _ _ _) _ (L _ _ _)).1, oqPd_c (xiM n R a c d) (L _ _ _) _ (L _ _ _), oqPd_c (xiM n R a c e) (L _ _ _) _ (L _ _ _), (o3_1 _ P _ P _ P).1] at k
    exact k
  · have k := h hb hd hc he
    unfold o5 at k ⊢
    rw [s2 a c d, (oqPd_n _ (L _ _ _) _ (L _ _ _)).2, (o3_1 _ P _ P _ P).2] at k
    exact k
  · have k := h hb hc he hd
    unfold o5 at k ⊢
    rw [s2 a d e, (oqPd_n _ (L _ _ _) _ (L _ _ _)).2, (o3_1 _ P _ P _ P).1] at k
    exact k
  · unfold o5
    rw [z2 a b, oqPd_1, oqPd_c (xiM n R a b d) (L _ _ _) _ (L _ _ _)]
    exact o3_2 _ P
  · by_cases hq : a ≠ b ∧ a ≠ c ∧ a ≠ d ∧ a ≠ e
    · have k := bd_all hn hb ha (t := (b, c, d, e)) (quad_mem.mpr ⟨h1, h2, h3, he⟩) hq
      rw [gd_eq h hF hn ha hb' hc hd he, o5_gM h hF hn ha hb' hc hd he] at k
      exact k
    · have : a = b ∨ a = c ∨ a = d ∨ a = e := by omega
      unfold o5
      rcases this with rfl | rfl | rfl | rfl
      · rw [z1, z1, z1, oqPd_1, oqPd_1, oqPd_1]
        rfl
      · rw [z3, z1, z1, oqPd_1, oqPd_1r, oqPd_1r]
        rfl
      · rw [z1, z3, z3, oqPd_1r, oqPd_1, oqPd_1r]
        rfl
      · rw [z3, z3, z3, oqPd_1r, oqPd_1r, oqPd_1]
        rfl
theorem baB_s (ha : a < 6) (hb : b < 6) (hc : c < 6) : baB R b a c = baB R a b c ∧ baB R c b a = baB R a b c ∧ baB R a c b = baB R a b c ∧ baB R c a b = baB R a b c ∧ baB R b c a = baB R a b c := by
  obtain ⟨m1, m2, m3, m4, m5⟩ := mS_g (R := R) ha hb hc
  have ng : ∀ s : Int32, decide (-s ≠ 0) = decide (s ≠ 0) := fun s => by
    by_cases h : s = 0
    · subst h; rfl
    · rw [decide_eq_true (show s ≠ 0 from h), decide_eq_true (show -s ≠ 0 from fun h' => h (Int32.neg_inj.mp (h'.trans neg0.symm)))]
  unfold baB
  rw [m1, m2, m3, m4, m5, ng]
  exact ⟨rfl, rfl, rfl, rfl, rfl⟩
theorem ec_ex {x : Nat} (h : ecB R p q r d e f x = true) : ∃ w, (w = d ∨ w = e ∨ w = f) ∧ baB R (ifN p x w) (ifN q x w) (ifN r x w) = true := by
  unfold ecB ecS at h
  simp only [Bool.or_eq_true, Bool.and_eq_true, Bool.false_eq_true, false_or] at h
  rcases h with (h | h) | h
  · exact ⟨d, Or.inl rfl, h.2⟩
  · exact ⟨e, Or.inr (Or.inl rfl), h.2⟩
  · exact ⟨f, Or.inr (Or.inr rfl), h.2⟩
theorem ea_ex (hn : n ≤ 6) (h1 : p < q) (h2 : q < r) (h3 : r < n) (hb : baB R p q r = true) (hU : d < n ∧ e < n ∧ f < n) (h : eaB R p q r d e f = true) : (∃ w, (w = d ∨ w = e ∨ w = f) ∧ baB R w q r = true) ∧ (∃ w, (w = d ∨ w = e ∨ w = f) ∧ baB R w p r = true) ∧ ∃ w, (w = d ∨ w = e ∨ w = f) ∧ baB R w p q = true := by
  unfold eaB eaS at h
  simp only [Bool.or_eq_true, Bool.and_eq_true, decide_eq_true_eq, Bool.true_and] at h
  obtain ⟨⟨hp, hq⟩, hr⟩ := h
  have B := baB_s (R := R) (a := p) (b := q) (c := r) (by omega) (by omega) (by omega)
  refine ⟨?_, ?_, ?_⟩
  · rcases hp with k | k | k | k
    · exact ⟨p, Or.inl k, hb⟩
    · exact ⟨p, Or.inr (Or.inl k), hb⟩
    · exact ⟨p, Or.inr (Or.inr k), hb⟩
    · obtain ⟨w, hw, k⟩ := ec_ex k
      unfold ifN at k
      rw [if_pos rfl, if_neg (show ¬ q = p by omega), if_neg (show ¬ r = p by omega)] at k
      exact ⟨w, hw, k⟩
  · rcases hq with k | k | k | k
    · exact ⟨q, Or.inl k, B.1.trans hb⟩
    · exact ⟨q, Or.inr (Or.inl k), B.1.trans hb⟩
    · exact ⟨q, Or.inr (Or.inr k), B.1.trans hb⟩
    · obtain ⟨w, hw, k⟩ := ec_ex k
      unfold ifN at k
      rw [if_pos rfl, if_neg (show ¬ p = q by omega), if_neg (show ¬ r = q by omega)] at k
      exact ⟨w, hw, ((baB_s (R := R) (a := p) (b := w) (c := r) (by omega) (by omega) (by omega)).1).trans k⟩
  · rcases hr with k | k | k | k
    · exact ⟨r, Or.inl k, B.2.2.2.1.trans hb⟩
    · exact ⟨r, Or.inr (Or.inl k), B.2.2.2.1.trans hb⟩
    · exact ⟨r, Or.inr (Or.inr k), B.2.2.2.1.trans hb⟩
    · obtain ⟨w, hw, k⟩ := ec_ex k
      unfold ifN at k
      rw [if_pos rfl, if_neg (show ¬ p = r by omega), if_neg (show ¬ q = r by omega)] at k
      exact ⟨w, hw, ((baB_s (R := R) (a := p) (b := q) (c := w) (by omega) (by omega) (by omega)).2.2.2.1).trans k⟩
theorem so3 (hn : n ≤ 6) (ha : a < n) (hb : b < n) (hc : c < n) (hd : ¬ (a = b ∨ a = c ∨ b = c)) : ∃ d e f, d < e ∧ e < f ∧ f < n ∧ (∀ w, (w = d ∨ w = e ∨ w = f) → (w = a ∨ w = b ∨ w = c)) ∧ baB R d e f = baB R a b c := by
  obtain ⟨m1, m2, m3, m4, m5⟩ := baB_s (R := R) (a := a) (b := b) (c := c) (by omega) (by omega) (by omega)
  by_cases h1 : a < b <;> by_cases h2 : b < c <;> by_cases h3 : a < c
  · exact ⟨a, b, c, h1, h2, hc, fun w h => by omega, rfl⟩
  · omega
  · exact ⟨a, c, b, h3, by omega, hb, fun w h => by omega, m3⟩
  · exact ⟨c, a, b, by omega, h1, hb, fun w h => by omega, m4⟩
  · exact ⟨b, a, c, by omega, h3, hc, fun w h => by omega, m1⟩
  · exact ⟨b, c, a, h2, by omega, ha, fun w h => by omega, m5⟩
  · omega
  · exact ⟨c, b, a, by omega, by omega, ha, fun w h => by omega, m2⟩
theorem baB_d (ha : a < 6) (hb : b < 6) (hc : c < 6) (h : baB R a b c = true) : ¬ (a = b ∨ a = c ∨ b = c) := fun hd => by
  unfold baB mS at h
  rw [tO_pr a ha b hb c hc, if_neg (fun h' => dis3_t.mp h' hd), Int32.zero_mul] at h
  exact absurd h (by decide)
theorem ex_all (hn : n ≤ 6) (hx : exM n R = true) (h1 : x < n ∧ y < n ∧ z < n) (h2 : a < n ∧ b < n ∧ c < n) (k1 : baB R x y z = true) (k2 : baB R a b c = true) : ∃ w, (w = a ∨ w = b ∨ w = c) ∧ baB R w y z = true := by
  obtain ⟨d, e, f, u1, u2, u3, um, ub⟩ := so3 (R := R) hn h2.1 h2.2.1 h2.2.2 (baB_d (by omega) (by omega) (by omega) k2)
  rw [k2] at ub
  have E : ∀ {p q r}, p < q → q < r → r < n → baB R p q r = true → (∃ w, (w = a ∨ w = b ∨ w = c) ∧ baB R w q r = true) ∧ (∃ w, (w = a ∨ w = b ∨ w = c) ∧ baB R w p r = true) ∧ ∃ w, (w = a ∨ w = b ∨ w = c) ∧ baB R w p q = true := fun {p q r} g1 g2 g3 gb => by
    have hx := hx
    unfold exM at hx
    rw [Bool.and_eq_true_iff] at hx
    have t := List.all_eq_true.mp hx.2 (p, q, r) (trip_mem.mpr ⟨g1, g2, g3⟩)
    rw [gb] at t
    have t : aeB n R p q r = true := t
    unfold aeB at t
    have t := List.all_eq_true.mp t (d, e, f) (trip_mem.mpr ⟨u1, u2, u3⟩)
    rw [ub] at t
    have t : eaB R p q r d e f = true := t
    obtain ⟨⟨w1, a1, b1⟩, ⟨w2, a2, b2⟩, w3, a3, b3⟩ := ea_ex hn g1 g2 g3 gb ⟨by omega, by omega, u3⟩ t
    exact ⟨⟨w1, um w1 a1, b1⟩, ⟨w2, um w2 a2, b2⟩, w3, um w3 a3, b3⟩
  have hd := baB_d (R := R) (a := x) (b := y) (c := z) (by omega) (by omega) (by omega) k1
  obtain ⟨m1, m2, m3, m4, m5⟩ := baB_s (R := R) (a := x) (b := y) (c := z) (by omega) (by omega) (by omega)
  have sw : (∃ w, (w = a ∨ w = b ∨ w = c) ∧ baB R w z y = true) → ∃ w, (w = a ∨ w = b ∨ w = c) ∧ baB R w y z = true := fun ⟨w, hw, h⟩ => ⟨w, hw, ((baB_s (R := R) (a := w) (b := z) (c := y) (by omega) (by omega) (by omega)).2.2.1).trans h⟩
  by_cases g1 : x < y <;> by_cases g2 : y < z <;> by_cases g3 : x < z
  · exact (E g1 g2 h1.2.2 k1).1
  · omega
  · exact sw (E g3 (by omega) h1.2.1 (m3.trans k1)).1
  · exact sw (E (show z < x by omega) g1 h1.2.1 (m4.trans k1)).2.1
  · exact (E (show y < x by omega) g3 h1.2.2 (m1.trans k1)).2.1
  · exact (E g2 (show z < x by omega) h1.1 (m5.trans k1)).2.2
  · omega
  · exact sw (E (show z < y by omega) (show y < x by omega) h1.1 (m2.trans k1)).2.2
theorem xiM_b (h : AR n F G R) (hF : AI F) (hn : n ≤ 6) : xiM n R a b c ≠ 1 ↔ (a < n ∧ b < n ∧ c < n) ∧ baB R a b c = true := by
  by_cases k : a < n ∧ b < n ∧ c < n
  · rw [xiM_in k, Ne, sd_0 (AR_mS h hF hn k.1 k.2.1 k.2.2)]
    unfold baB
    rw [decide_eq_true_iff]
    exact ⟨fun h => ⟨k, h⟩, fun h => h.2⟩
  · rw [xiM_out k]
    exact ⟨fun h => absurd rfl h, fun h => absurd h.1 k⟩
/-- the signs keep all that the searches ask -/
theorem xiM_X (h : AR n F G R) (hF : AI F) (hn : n ≤ 6) (ho : orM n R = true) : oqX (xiM n R) := by
  have ho' := (or_eq h hF hn).trans ho
  unfold orO at ho'
  rw [Bool.and_eq_true_iff] at ho'
  have hx : exM n R = true := (ex_eq h hF hn).symm.trans ho'.2
  refine ⟨fun _ _ _ => xiM_lt, fun _ _ _ => xiM_s1 h hF hn, fun _ _ _ => xiM_s2 h hF hn, fun a b c d e => o5_all h hF hn (of_decide_eq_true ho'.1) a b c d e, fun x y z a b c h1 h2 => ?_⟩
  have h1 := (xiM_b h hF hn).mp h1
  have h2 := (xiM_b h hF hn).mp h2
  obtain ⟨w, hw, k⟩ := ex_all hn hx h1.1 h2.1 h1.2 h2.2
  have key : xiM n R w y z ≠ 1 := (xiM_b h hF hn).mpr ⟨⟨by omega, h1.1.2.1, h1.1.2.2⟩, k⟩
  rcases hw with rfl | rfl | rfl
  · exact Or.inl key
  · exact Or.inr (Or.inl key)
  · exact Or.inr (Or.inr key)
theorem xiM_nz (h : AR n F G R) (hF : AI F) (hn : n ≤ 6) (ho : orM n R = true) : ∃ a b c, a < 6 ∧ b < 6 ∧ c < 6 ∧ xiM n R a b c ≠ 1 := by
  unfold orM exM at ho
  rw [Bool.and_eq_true_iff, Bool.and_eq_true_iff, bsM_pos hn] at ho
  obtain ⟨t, ht, hb⟩ := List.any_eq_true.mp ho.1.1
  have ht := trip_mem.mp ht
  exact ⟨t.1, t.2.1, t.2.2, by omega, by omega, by omega, (xiM_b h hF hn).mpr ⟨⟨by omega, by omega, ht.2.2⟩, hb⟩⟩
end
