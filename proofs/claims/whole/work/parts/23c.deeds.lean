/-! deeds: alike -/
def hiE (R' R : Nat → Int32) : Prop := ∀ i, 39 ≤ i → R' i = R i
section
variable {n n' s k c d e f a b u : Nat} {mc mc' mm mm' : Mem} {qc qc' qm : MemJ} {F G R R' R1 W F' G' : Nat → Int32} {x y z w v X Y Z : Int32} {p : Nat}
theorem hi_r : hiE R R := fun _ _ => rfl
theorem hi_t (h : hiE R' R) (h2 : hiE R R1) : hiE R' R1 := fun i hi => (h i hi).trans (h2 i hi)
theorem hi_u (h : hiE R' R) {j : Nat} (hj : j < 39) : hiE (upd R' j v) R := fun i hi => by
  simp only [upd]
  rw [if_neg (by omega)]
  exact h i hi
theorem hi_s (h : hiE R' R) (ha : a < 6) (hb : b < 6) (hc : c < 6) (hd : ¬ (a = b ∨ a = c ∨ b = c)) : hiE (sgU R' a b c v) R := hi_u h (by have := pT_lt ha hb hc hd; omega)
theorem hi_p (h : hiE R' R) (he : e < 6) : hiE (ptM R' e X Y Z) R := hi_u (hi_u (hi_u h (by omega)) (by omega)) (by omega)
theorem hi_fl (he : e < 6) (hn : n ≤ 6) : hiE (flM n e R).1 R := by
  unfold flM
  refine fold_inv (P := fun x : (Nat → Int32) × Int32 => hiE x.1 R) (fun t ht x hx => ?_) hi_r
  have ht := prs_mem.mp ht
  unfold flS
  split
  · exact hi_s hx he (by omega) (by omega) (by omega)
  · exact hx
theorem hi_sw (hn : n ≤ 6) : hiE (swM W n e f R).1 R := by
  unfold swM
  refine fold_inv (P := fun x : (Nat → Int32) × Int32 => hiE x.1 R) (fun t ht x hx => ?_) hi_r
  have ht := trip_mem.mp ht
  exact hi_s hx (by omega) (by omega) (by omega) (by omega)
theorem hi_swP (he : e < 6) (hf : f < 6) : hiE (swP W e f R) R := by
  unfold swP
  refine fold_inv (P := fun x : Nat → Int32 => hiE x R) (fun i hi x hx => ?_) hi_r
  have hi := rg_mem.mp hi
  exact hi_u (hi_u hx (by omega)) (by omega)
theorem hi_ad (hn : n < 6) : hiE (adM n R) R := by
  unfold adM
  refine fold_inv (P := fun x : Nat → Int32 => hiE x R) (fun t ht x hx => ?_) hi_r
  have ht := prs_mem.mp ht
  exact hi_s hx (by omega) (by omega) hn (by omega)
theorem hi_dw (hn : n ≤ 6) : hiE (dwM n R).1 R := by
  unfold dwM
  refine fold_inv (P := fun x : (Nat → Int32) × Int32 => hiE x.1 R) (fun t ht x hx => ?_) hi_r
  have ht := trip_mem.mp ht
  exact hi_s hx (by omega) (by omega) (by omega) (by omega)
theorem hi_dr (hn : n ≤ 6) : hiE (drM W n e R) R := by
  unfold drM
  refine fold_inv (P := fun x : Nat → Int32 => hiE x R) (fun a ha x hx => ?_) hi_r
  have ha := rg_mem.mp ha
  refine hi_p ?_ (by omega)
  unfold drA
  refine fold_inv (P := fun x : Nat → Int32 => hiE x R) (fun b hb x hx => ?_) hx
  have hb := rg_mem.mp hb
  refine fold_inv (P := fun x : Nat → Int32 => hiE x R) (fun c hc x hx => ?_) hx
  have hc := rg_mem.mp hc
  exact hi_s hx (by omega) (by omega) (by omega) (by omega)
theorem za_rm (h : zaF G 18) (hn : n ≤ 6) : zaF (rmP n e G) 18 := by
  unfold rmP
  refine fold_inv (P := fun g : Nat → Int32 => zaF g 18) (fun a ha g hg => ?_) h
  have ha := rg_mem.mp ha
  exact zaF_pt hg (by omega)
theorem za_rv (h : zaF G 18) (he : e < 6) : zaF (rvP G e) 18 := zaF_pt h he
theorem za_td (h : zaF G 18) (he : e < 6) (hf : f < 6) : zaF (tdP G e f) 18 := zaF_pt (zaF_pt h he) hf
theorem JJ_e {x s n' : Nat} (h : JJ mc qc mm) (hH : HH mc mm x s) (hc : ∀ c, c ≠ 1 → c ≠ 2 → c ≠ 3 → mc' c = bdH mc x s c) (e1 : mc' 1 0 = nI n') (e2 : mc' 2 = F') (e3 : mc' 3 = G') (d1 : mm' 1 = R') (d0 : mm' 0 = upd (mm 0) 1 (nI (ntU s + 1))) (hm : ∀ c, 2 ≤ c → c ≤ 7 → mm' c = mm c) (hA : AX n' F' G' R') (hR : hiE R' (ntR (mm 1) s)) : JJ mc' qc mm' :=
  JJ_d h hH hc e1 (by rw [e2, e3, d1]; exact hA) (fun i hi => by rw [d1]; exact hR i hi) (by rw [d0]; simp [upd]) (by rw [d0]; simp [upd]) hm
theorem bd_1 {x s : Nat} (hx : x < 8) : bdH mc x s 1 = mc 1 ∧ bdH mc x s 2 = mc 2 ∧ bdH mc x s 3 = mc 3 := ⟨bdH_ne (by decide) (by omega) (by decide) (by decide), bdH_ne (by decide) (by omega) (by decide) (by decide), bdH_ne (by decide) (by omega) (by decide) (by decide)⟩
theorem de_0 : deH mm u R 0 = upd (mm 0) 1 (nI (ntU u + 1)) := by
  unfold deH
  rw [mu_same]
theorem AX_nt (h : AX n F G (mm 1)) : AR n F G (ntR (mm 1) u) := AR_cR h.2.2.2.2 h.2.1 fun i hi => ntR_0 hi
theorem J_draw (h : JJ mc qc mm) : STp 70 213 [.ref 0] [.ref 0] mc qc mm qm := by
  obtain ⟨n, a1, a2, a3, aN, am, n1, n6⟩ := JJ_n h
  obtain ⟨_, ⟨x, s, hH⟩, _⟩ := id h
  obtain ⟨b1, b2, b3, b4, b5, b6, b7⟩ := id hH
  obtain ⟨k1, k2, k3⟩ := bd_1 (mc := mc) (s := s) b1
  obtain ⟨r1, r2, r3⟩ := AR_draw (AX_nt (u := s) a2) a2.2.2.1 n6
  refine STp_i (x_S_draw (d := 92) a1 n6 b3 b1 b4 b2 (b6 x b1) (AX_zA a2)) (x_M_draw (d := 97) am n6 b5 b2) r3 (JJ_e h hH (fun c c1 c2 c3 => mu_ne c2) (by rw [mu_ne (by decide), k1]; exact a1) mu_same ((mu_ne (by decide)).trans k3) deH_1 de_0 (fun c h1 h2 => deH_ne (by omega) (by omega)) ⟨a2.1, n6, r2, a2.2.2.2.1, r1⟩ (hi_dw n6))
theorem J_flip (h : JJ mc qc mm) : STp 64 209 [.ref 0, .int y] [.ref 0, .int y] mc qc mm qm := by
  obtain ⟨n, a1, a2, a3, aN, am, n1, n6⟩ := JJ_n h
  obtain ⟨_, ⟨x, s, hH⟩, _⟩ := id h
  obtain ⟨b1, b2, b3, b4, b5, b6, b7⟩ := id hH
  obtain ⟨k1, k2, k3⟩ := bd_1 (mc := mc) (s := s) b1
  have E := x_S_flip (d := 92) (q := qc) (e := y) a1 n6 b3 b1 b4 b2 (b6 x b1) (AX_zA a2)
  have M := x_M_flip (d := 97) (q := qm) (x := y) am n6 b5 b2
  cases hc : elB n y with
  | false =>
    rw [hc] at E M
    exact STp_i E M rfl h
  | true =>
    rw [hc] at E M
    have he := (elB_t (by omega) hc).1
    obtain ⟨r1, r2, r3⟩ := AR_flip (AX_nt (u := s) a2) a2.2.2.1 n6 he
    exact STp_i E M r3 (JJ_e h hH (fun c c1 c2 c3 => by rw [mu_ne c2, mu_ne c3]) (by rw [mu_ne (by decide), mu_ne (by decide), k1]; exact a1) mu_same (by rw [mu_ne (by decide), mu_same]) deH_1 de_0 (fun c h1 h2 => deH_ne (by omega) (by omega)) ⟨a2.1, n6, r2, za_rv a2.2.2.2.1 (by omega), r1⟩ (hi_p (hi_fl (by omega) n6) (by omega)))
theorem J_swap (h : JJ mc qc mm) : STp 65 210 [.ref 0, .int y, .int z] [.ref 0, .int y, .int z] mc qc mm qm := by
  obtain ⟨n, a1, a2, a3, aN, am, n1, n6⟩ := JJ_n h
  obtain ⟨_, ⟨x, s, hH⟩, _⟩ := id h
  obtain ⟨b1, b2, b3, b4, b5, b6, b7⟩ := id hH
  obtain ⟨k1, k2, k3⟩ := bd_1 (mc := mc) (s := s) b1
  have E := x_S_swap (d := 92) (q := qc) (e := y) (f := z) a1 n6 b3 b1 b4 b2 (b6 x b1) (AX_zA a2)
  obtain ⟨W, hW, M⟩ := x_M_swap (d := 97) (q := qm) (x := y) (y := z) am n6 b5 b2
  cases hc : elB n y && elB n z && !decide (y = z) with
  | false =>
    rw [hc] at E M
    exact STp_i E M rfl h
  | true =>
    rw [hc] at E M
    rw [Bool.and_eq_true_iff, Bool.and_eq_true_iff, Bool.not_eq_true', decide_eq_false_iff_not] at hc
    have hy := elB_t (by omega) hc.1.1
    have hz := elB_t (by omega) hc.1.2
    have hne : eN y ≠ eN z := fun he => hc.2 (by rw [hy.2, hz.2, he])
    obtain ⟨r1, r2, r3⟩ := AR_swap (AX_nt (u := s) a2) a2.2.2.1 n6 hy.1 hz.1 hne fun i hi => (hW i hi).trans (ntR_0 hi).symm
    refine STp_i E M r3 (JJ_e h hH (fun c c1 c2 c3 => by rw [mu_ne c2, mu_ne c3]) (by rw [mu_ne (by decide), mu_ne (by decide), k1]; exact a1) mu_same (by rw [mu_ne (by decide), mu_same]) (by rw [mu_ne (by decide)]; exact deH_1) (by rw [mu_ne (by decide)]; exact de_0) (fun c h1 h2 => by rw [mu_ne (by omega)]; exact deH_ne (by omega) (by omega)) ⟨a2.1, n6, r2, za_td a2.2.2.2.1 (by omega) (by omega), r1⟩ (hi_t (hi_swP (by omega) (by omega)) (hi_sw n6)))
theorem J_drop (h : JJ mc qc mm) : STp 68 212 [.ref 0, .int y] [.ref 0, .int y, .null, .null, .null] mc qc mm qm := by
  obtain ⟨n, a1, a2, a3, aN, am, n1, n6⟩ := JJ_n h
  obtain ⟨_, ⟨x, s, hH⟩, _⟩ := id h
  obtain ⟨b1, b2, b3, b4, b5, b6, b7⟩ := id hH
  obtain ⟨k1, k2, k3⟩ := bd_1 (mc := mc) (s := s) b1
  have n3 := a2.1
  have E := x_S_drop (d := 92) (q := qc) (e := y) a1 n6 b3 b1 b4 b2 (b6 x b1) (AX_zA a2)
  obtain ⟨W, hW, M⟩ := x_M_drop (d := 97) (q := qm) (x := y) am n3 n6 b5 b2
  cases hc : elB n y with
  | false =>
    rw [hc] at E M
    exact STp_i E M rfl h
  | true =>
    rw [hc, if_pos rfl] at E M
    have he := (elB_t (by omega) hc).1
    by_cases h3 : n = 3
    · rw [if_neg (by omega)] at E
      rw [if_pos h3] at M
      exact STp_i E M rfl h
    · rw [if_pos (by omega)] at E
      rw [if_neg h3] at M
      obtain ⟨r1, r2⟩ := AR_drop (n := n - 1) (F := mc 2) (G := mc 3) (R := ntR (mm 1) s) (e := eN y) (W := W) (R1 := upd (ntR (mm 1) s) 0 (nI (n - 1))) (by rw [show n - 1 + 1 = n by omega]; exact AX_nt a2) a2.2.2.1 (by omega) (by omega) (fun i hi => (hW i hi).trans (ntR_0 hi).symm) (by simp [upd])
      refine STp_i E M rfl (JJ_e (n' := n - 1) h hH (fun c c1 c2 c3 => by rw [mu_ne c2, mu_ne c3, mu_ne c1]) (by rw [mu_ne (by decide), mu_ne (by decide), mu_same]; simp [upd]) mu_same (by rw [mu_ne (by decide), mu_same]) (by rw [mu_ne (by decide)]; exact deH_1) (by rw [mu_ne (by decide)]; exact de_0) (fun c h1 h2 => by rw [mu_ne (by omega)]; exact deH_ne (by omega) (by omega)) ⟨by omega, by omega, r2, za_rm a2.2.2.2.1 (by omega), r1⟩ (hi_t (hi_dr (by omega)) (hi_u hi_r (by decide))))
theorem J_add (h : JJ mc qc mm) : STp 66 211 [.ref 0, .int y, .int z, .int w] [.ref 0, .int y, .int z, .int w, .null, .null, .null] mc qc mm qm := by
  obtain ⟨n, a1, a2, a3, aN, am, n1, n6⟩ := JJ_n h
  obtain ⟨_, ⟨x, s, hH⟩, _⟩ := id h
  obtain ⟨b1, b2, b3, b4, b5, b6, b7⟩ := id hH
  obtain ⟨k1, k2, k3⟩ := bd_1 (mc := mc) (s := s) b1
  have n3 := a2.1
  have E := x_S_add (d := 92) (q := qc) (a := y) (b := z) (c := w) a1 n6 b3 b1 b4 b2 (b6 x b1) (AX_zA a2)
  have M := x_M_add (d := 97) (q := qm) (x := y) (y := z) (z := w) am n6 b5 b2
  cases hc : faB y || faB z || faB w with
  | true =>
    rw [hc, if_pos rfl] at E M
    exact STp_i E M rfl h
  | false =>
    rw [hc, if_neg (by decide)] at E M
    by_cases h6 : n = 6
    · rw [if_neg (by omega)] at E
      rw [if_pos h6] at M
      exact STp_i E M rfl h
    · rw [if_pos (by omega)] at E
      rw [if_neg h6] at M
      obtain ⟨r1, r2⟩ := AR_add (X := y) (Y := z) (Z := w) (AX_nt (u := s) a2) a2.2.2.1 (show n < 6 by omega)
      refine STp_i E M rfl (JJ_e (n' := n + 1) h hH (fun c c1 c2 c3 => by rw [mu_ne c2, mu_ne c3, mu_ne c1]) (by rw [mu_ne (by decide), mu_ne (by decide), mu_same]; simp [upd]) mu_same (by rw [mu_ne (by decide), mu_same]) deH_1 de_0 (fun c h1 h2 => deH_ne (by omega) (by omega)) ⟨by omega, by omega, r2, zaF_pt a2.2.2.2.1 (by omega), r1⟩ (hi_u (hi_t (hi_ad (by omega)) (hi_p hi_r (by omega))) (by decide)))
theorem J_place (h : JJ mc qc mm) : STp 61 207 [.ref 0, .int v, .int y, .int z, .int w, .null] [.ref 0, .int v, .int y, .int z, .int w, .null] mc qc mm qm := by
  obtain ⟨n, a1, a2, a3, aN, am, n1, n6⟩ := JJ_n h
  obtain ⟨_, ⟨x, s, hH⟩, _⟩ := id h
  obtain ⟨b1, b2, b3, b4, b5, b6, b7⟩ := id hH
  obtain ⟨k1, k2, k3⟩ := bd_1 (mc := mc) (s := s) b1
  have n3 := a2.1
  have E := x_S_place (d := 92) (q := qc) (e := v) (a := y) (b := z) (c := w) a1 n6 b3 b1 b4 b2 (b6 x b1) (AX_zA a2)
  have M := x_M_place (d := 98) (q := qm) (x := v) (y := y) (z := z) (w := w) am n6 b5 b2
  cases he : elB n v with
  | false =>
    rw [he] at E M
    exact STp_i E M rfl h
  | true =>
    rw [he, if_pos rfl] at E M
    have hv := (elB_t (by omega) he).1
    cases hc : faB y || faB z || faB w with
    | true =>
      rw [hc, if_pos rfl] at E M
      exact STp_i E M rfl h
    | false =>
      rw [hc, if_neg (by decide)] at E M
      have g : ∀ i, i < 3 → mc 3 (eN v * 3 + i) = mco (mm 1) (eN v) i := fun i hi => a2.2.2.2.2.2.2 _ _ hv hi
      refine STp_i E M ?_ (JJ_e (n' := n) h hH (fun c c1 c2 c3 => mu_ne c3) (by rw [mu_ne (by decide), k1]; exact a1) ((mu_ne (by decide)).trans k2) mu_same deH_1 de_0 (fun c h1 h2 => deH_ne (by omega) (by omega)) ⟨n3, n6, a2.2.2.1, zaF_pt a2.2.2.2.1 (by omega), AR_pt (AX_nt a2)⟩ (hi_p hi_r (by omega)))
      rw [← g 0 (by decide), ← g 1 (by decide), ← g 2 (by decide)]
      rfl
theorem J_set (h : JJ mc qc mm) : STp 58 204 [.ref 0, .int y, .int z, .int w, .int v, .null] [.ref 0, .int y, .int z, .int w, .int v, .null] mc qc mm qm := by
  obtain ⟨n, a1, a2, a3, aN, am, n1, n6⟩ := JJ_n h
  obtain ⟨_, ⟨x, s, hH⟩, _⟩ := id h
  obtain ⟨b1, b2, b3, b4, b5, b6, b7⟩ := id hH
  obtain ⟨k1, k2, k3⟩ := bd_1 (mc := mc) (s := s) b1
  have n3 := a2.1
  have E := x_S_set (d := 92) (q := qc) (a := y) (b := z) (c := w) (v := v) a1 n6 b3 b1 b4 b2 (b6 x b1) (AX_zA a2)
  have M := x_M_set (d := 97) (q := qm) (x := y) (y := z) (z := w) (v := v) am n6 b5 b2
  cases he : el3 n y z w with
  | false =>
    rw [he] at E M
    exact STp_i E M rfl h
  | true =>
    rw [he, if_pos rfl] at E M
    have he' := he
    unfold el3 at he'
    simp only [Bool.and_eq_true, Bool.not_eq_true', decide_eq_false_iff_not] at he'
    by_cases hc : v < -1 ∨ nI 1 < v
    · rw [if_pos hc] at E M
      exact STp_i E M rfl h
    · rw [if_neg hc] at E M
      have hy := elB_t (n := n) (x := y) (by omega) (by simp [he'])
      have hz := elB_t (n := n) (x := z) (by omega) (by simp [he'])
      have hw := elB_t (n := n) (x := w) (by omega) (by simp [he'])
      have hd : ¬ (eN y = eN z ∨ eN y = eN w ∨ eN z = eN w) := by
        rintro (k | k | k)
        · have : y = z := by rw [hy.2, hz.2, k]
          simp [this] at he'
        · have : y = w := by rw [hy.2, hw.2, k]
          simp [this] at he'
        · have : z = w := by rw [hz.2, hw.2, k]
          simp [this] at he'
      have hv : isSg v := by
        rw [not_or, Int32.not_lt, Int32.not_lt] at hc
        have c1 := Int32.le_iff_toInt_le.mp hc.1
        have c2 := Int32.le_iff_toInt_le.mp hc.2
        have e1 : (-1 : Int32).toInt = -1 := by decide
        have e2 : (nI 1).toInt = 1 := by decide
        rw [e1] at c1
        rw [e2] at c2
        have : v.toInt = -1 ∨ v.toInt = 0 ∨ v.toInt = 1 := by omega
        rcases this with k | k | k
        · exact Or.inl (Int32.toInt_inj.mp (k.trans e1.symm))
        · exact Or.inr (Or.inl (Int32.toInt_inj.mp (k.trans (by decide : (0 : Int32).toInt = 0).symm)))
        · exact Or.inr (Or.inr (Int32.toInt_inj.mp (k.trans (by decide : (1 : Int32).toInt = 1).symm)))
      refine STp_i E M (AR_F a2.2.2.2.2 a2.2.2.1.2.2.2 n6 hy.1 hz.1 hw.1) (JJ_e (n' := n) h hH (fun c c1 c2 c3 => mu_ne c2) (by rw [mu_ne (by decide), k1]; exact a1) mu_same ((mu_ne (by decide)).trans k3) deH_1 de_0 (fun c h1 h2 => deH_ne (by omega) (by omega)) ⟨n3, n6, AI_sg a2.2.2.1 hv (by omega) (by omega) (by omega) hd, a2.2.2.2.1, AR_sg (AX_nt a2) n6 hy.1 hz.1 hw.1 hd⟩ (hi_s hi_r (by omega) (by omega) (by omega) hd))
end
