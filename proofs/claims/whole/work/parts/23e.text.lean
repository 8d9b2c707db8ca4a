/-! the text's calls: alike -/
section
variable {n n' s k c d e f a b u L x : Nat} {mc mc' mm mm' : Mem} {qc qc' qm : MemJ} {F G R R' R1 W F' G' : Nat → Int32} {y z w v : Int32} {g : Nat → Nat}
theorem J_erase (h : JJ mc qc mm) : STp 19 167 [.ref 0, .null] [.ref 0, .null] mc qc mm qm := by
  obtain ⟨⟨n, a1, a2, a3⟩, ⟨x, s, hH⟩, hK, ⟨t0, g, L, t1, t2⟩, hX⟩ := id h
  refine STp_i (x_S_erase (d := 99)) (x_M_erase (d := 100)) (t1.1.trans t2.1.symm) ⟨⟨n, by rw [mu_ne (by decide)]; exact a1, by rw [mu_ne (by decide), mu_ne (by decide), mu_ne (by decide)]; exact a2, by rw [mu_ne (by decide)]; exact FI_c a3 fun c h1 h2 => mu_ne (by omega)⟩, ⟨x, s, HH_c hH (fun c h1 h2 => mu_ne (by omega)) (by rw [mu_same]; simp [upd]) fun i _ _ => by rw [mu_ne (by decide)]⟩, KK_c hK (fun c h1 h2 => mu_ne (by omega)) (mu_ne (by decide)) fun i _ => by rw [mu_ne (by decide)], ⟨zA_c t0 (mu_ne (by decide)) (mu_ne (by decide)), g, 0, ⟨by rw [mu_same]; simp [upd], by decide, fun i hi => absurd hi (Nat.not_lt_zero i)⟩, by rw [mu_same]; simp [upd], by decide, fun i hi => absurd hi (Nat.not_lt_zero i)⟩, XX_c hX (fun c h1 h2 => mu_ne (by omega)) (mu_ne (by decide)) (mu_ne (by decide)) (mu_ne (by decide)) (mu_ne (by decide))⟩
theorem J_write (h : JJ mc qc mm) : STp 15 165 [.ref 0, .int y] [.ref 0, .int y] mc qc mm qm := by
  obtain ⟨⟨n, a1, a2, a3⟩, ⟨x, s, hH⟩, hK, ⟨t0, g, L, t1, t2⟩, hX⟩ := id h
  have E := x_S_write (d := 99) (q := qc) (x := y) t1.1 t1.2.1
  have M := x_M_write (d := 99) (q := qm) (x := y) t2.1 t2.2.1
  cases hc : elB 256 y with
  | false =>
    rw [hc] at E M
    exact STp_i E M rfl h
  | true =>
    rw [hc, if_pos rfl] at E M
    have hy := elB_t (by decide) hc
    by_cases hL : L = 200
    · rw [if_pos hL] at E M
      exact STp_i E M rfl h
    · rw [if_neg hL] at E M
      have kc : ∀ c, c ≠ 41 → c ≠ 42 → wrH mc L y c = mc c := fun c c1 c2 => by
        unfold wrH
        rw [mu_ne c1, mu_ne c2]
      have k41 : wrH mc L y 41 = upd (mc 41) 1 (nI (L + 1)) := by
        unfold wrH
        rw [mu_same]
      have k42 : wrH mc L y 42 = upd (mc 42) L y := by
        unfold wrH
        rw [mu_ne (by decide), mu_same]
      generalize wrH mc L y = mc' at *
      refine STp_i E M rfl ⟨⟨n, by rw [kc 1 (by decide) (by decide)]; exact a1, by rw [kc 2 (by decide) (by decide), kc 3 (by decide) (by decide), mu_ne (by decide), mu_ne (by decide)]; exact a2, by rw [kc 2 (by decide) (by decide)]; exact FI_c a3 fun c h1 h2 => kc c (by omega) (by omega)⟩, ⟨x, s, HH_c hH (fun c h1 h2 => kc c (by omega) (by omega)) (by rw [mu_same]; simp [upd]) fun i _ _ => by rw [mu_ne (by decide), mu_ne (by decide)]⟩, KK_c hK (fun c h1 h2 => kc c (by omega) (by omega)) (by rw [mu_ne (by decide), mu_ne (by decide)]) fun i _ => by rw [mu_ne (by decide), mu_ne (by decide)], ⟨zA_c t0 (kc 5 (by decide) (by decide)) (kc 6 (by decide) (by decide)), fun i => if i = L then eN y else g i, L + 1, ⟨by rw [k41]; simp [upd], by have := t1.2.1; omega, fun i hi => ?_⟩, by rw [mu_same]; simp [upd], by have := t1.2.1; omega, fun i hi => ?_⟩, XX_c hX (fun c h1 h2 => kc c (by omega) (by omega)) (by rw [mu_ne (by decide), mu_ne (by decide)]) (by rw [mu_ne (by decide), mu_ne (by decide)]) (by rw [mu_ne (by decide), mu_ne (by decide)]) (by rw [mu_ne (by decide), mu_ne (by decide)])⟩
      · rw [k42]
        simp only [upd]
        by_cases hi2 : i = L
        · rw [if_pos hi2, if_pos hi2]; exact ⟨hy.2, hy.1⟩
        · rw [if_neg hi2, if_neg hi2]; exact t1.2.2 i (by omega)
      · rw [mu_ne (by decide), mu_same]
        simp only [upd]
        by_cases hi2 : i = L
        · rw [if_pos hi2, if_pos hi2]; exact ⟨hy.2, hy.1⟩
        · rw [if_neg hi2, if_neg hi2]; exact t2.2.2 i (by omega)
theorem rdL_AI : ∀ (k c : Nat) (s : PS), PSok g L s → AI s.2.1 → zaF s.2.2.1 18 → AI (rdL g L k c s).2.2.2.1 ∧ zaF (rdL g L k c s).2.2.2.2.1 18
  | 0, c, s, _, h1, h2 => ⟨h1, h2⟩
  | k + 1, c, s, h, h1, h2 => by
    have g2 : PSok g L (cCs g L s).2 := cCl_ok h.1 h.2.1 h.2.2
    obtain ⟨g3, g4⟩ := cCl_AI (f := g) (L := L) (b := s.2.2.2.1) (e := s.2.2.2.2.1) (v := s.2.2.2.2.2) h1 h2 h.1 h.2.1
    have g3 : AI (cCs g L s).2.2.1 := g3
    have g4 : zaF (cCs g L s).2.2.2.1 18 := g4
    unfold rdL
    split
    · exact ⟨g3, g4⟩
    · split
      · exact ⟨g3, g4⟩
      · split
        · exact ⟨g3, g4⟩
        · exact rdL_AI k (c + 1) (nxt g L (cCs g L s).2) ⟨g2.1, g2.2.1, tok_isTk g2.2.2.2.1⟩ g3 g4
theorem rdA_AI (h3 : 3 ≤ n) (h6 : n ≤ 6) (hF : AI F) (hG : zaF G 18) : AI (rdA g L n F G v).2.2.2.1 ∧ zaF (rdA g L n F G v).2.2.2.2.1 18 ∧ 3 ≤ (rdA g L n F G v).2.2.1 ∧ (rdA g L n F G v).2.2.1 ≤ 6 := by
  have ok : PSok g L (n, F, G, (tok g L 0).1, (tok g L 0).2, v) := ⟨h3, h6, tok_isTk (Nat.zero_le L)⟩
  have a := rdL_AI (g := g) (L := L) 24 0 _ ok hF hG
  have b := (rdL_ok (f := g) (L := L) (k := 24) (c := 0) ok).1
  exact ⟨a.1, a.2, b.1, b.2.1⟩
theorem rdH_ne (h4 : c ≠ 4) (h5 : c ≠ 5) (h6 : c ≠ 6) (h41 : c ≠ 41) : rdH mc n g L c = mc c := pH_ne h4 h5 h6 h41
theorem rdH_5 : rdH mc n g L 5 = (rdZ mc n g L).2.2.2.1 := rfl
theorem rdH_6 : rdH mc n g L 6 = (rdZ mc n g L).2.2.2.2.1 := rfl
theorem rdH_4 : rdH mc n g L 4 = upd (mc 4) 0 (nI (rdZ mc n g L).2.2.1) := rfl
theorem rdH_41 : rdH mc n g L 41 1 = mc 41 1 ∧ rdH mc n g L 41 5 = nI (rdZ mc n g L).2.1 := ⟨rfl, rfl⟩
/-- a reading leaves all but the draft -/
theorem JJ_rd (h : JJ mc qc mm) (a1 : mc 1 0 = nI n) (a2 : AX n (mc 2) (mc 3) (mm 1)) (a3 : FI mc qc n (mc 2)) (t1 : Ltr mc g L) (t2 : LtM mm g L) {D : Bool} {W' N' : Nat → Int32} {b' e' t' c' : Nat} : JJ (rdH mc n g L) qc (mP (mD mm D) (mm 1) W' N' b' e' t' c') := by
  obtain ⟨_, ⟨x, s, hH⟩, hK, hT, hX⟩ := id h
  obtain ⟨r1, r2, _, _⟩ := rdA_AI (g := g) (L := L) (v := mc 41 4) a2.1 a2.2.1 a2.2.2.1 a2.2.2.2.1
  have m0 : ∀ i, i < 9 → mP (mD mm D) (mm 1) W' N' b' e' t' c' 0 i = mm 0 i := fun i hi => by
    simp only [mP, mPr, mD, if_true]
    rw [if_neg (by omega), if_neg (by omega), if_neg (by omega), if_neg (by omega), mu_same]
    simp only [upd]
    rw [if_neg (by omega)]
  have mc' : ∀ c, 2 ≤ c → c ≤ 7 → mP (mD mm D) (mm 1) W' N' b' e' t' c' c = mm c := fun c h1 h2 => by
    rw [mP_ne (by omega) (by omega) (by omega) (by omega)]
    exact mu_ne (by omega)
  have kc : ∀ c, c ≠ 4 → c ≠ 5 → c ≠ 6 → c ≠ 41 → rdH mc n g L c = mc c := fun c => rdH_ne
  refine ⟨⟨n, by rw [kc 1 (by decide) (by decide) (by decide) (by decide)]; exact a1, by rw [kc 2 (by decide) (by decide) (by decide) (by decide), kc 3 (by decide) (by decide) (by decide) (by decide), mP_1]; exact a2, by rw [kc 2 (by decide) (by decide) (by decide) (by decide)]; exact FI_c a3 fun c h1 h2 => kc c (by omega) (by omega) (by omega) (by omega)⟩, ⟨x, s, HH_c hH (fun c h1 h2 => kc c (by omega) (by omega) (by omega) (by omega)) (m0 1 (by decide)) fun i _ _ => by rw [mP_1]⟩, KK_c hK (fun c h1 h2 => kc c (by omega) (by omega) (by omega) (by omega)) (mc' 2 (by decide) (by decide)) fun i _ => by rw [mP_1], ⟨⟨r1.2.2.1, r2⟩, g, L, ?_, ?_⟩, XX_c hX (fun c h1 h2 => kc c (by omega) (by omega) (by omega) (by omega)) (mc' 4 (by decide) (by decide)) (mc' 5 (by decide) (by decide)) (mc' 6 (by decide) (by decide)) (mc' 7 (by decide) (by decide))⟩
  · unfold Ltr
    rw [kc 42 (by decide) (by decide) (by decide) (by decide)]
    exact t1
  · unfold LtM
    rw [m0 4 (by decide), mc' 3 (by decide) (by decide)]
    exact t2
theorem J_fault (h : JJ mc qc mm) : STp 21 168 [.ref 0] [.ref 0] mc qc mm qm := by
  obtain ⟨n, a1, a2, a3, aN, am, n1, n6⟩ := JJ_n h
  obtain ⟨_, _, _, ⟨t0, g, L, t1, t2⟩, _⟩ := id h
  obtain ⟨W', N', b', e', t', c', M⟩ := x_M_fault (d := 93) (q := qm) (v := mc 41 4) t2 am a2.1 n6 a2.2.2.1 a2.2.2.2.1
  exact STp_i (x_S_fault (d := 91) aN t0 t1) M rfl (JJ_rd h a1 a2 a3 t1 t2)
theorem J_tell (h : JJ mc qc mm) : STp 49 198 [.ref 0, .null] [.ref 0] mc qc mm qm := by
  obtain ⟨n, a1, a2, a3, aN, am, n1, n6⟩ := JJ_n h
  obtain ⟨_, ⟨x, s, hH⟩, hK, ⟨t0, g, L, t1, t2⟩, hX⟩ := id h
  obtain ⟨b1, b2, b3, b4, b5, b6, b7⟩ := id hH
  obtain ⟨r1, r2, r3, r4⟩ := rdA_AI (g := g) (L := L) (v := mc 41 4) a2.1 a2.2.1 a2.2.2.1 a2.2.2.2.1
  have E := x_S_tell (d := 91) (q := qc) aN t0 t1 ⟨r1.2.2.1, r2⟩
  obtain ⟨R', W', N', b', e', t', c', D, M, hR⟩ := x_M_tell (d := 93) (q := qm) (v := mc 41 4) t2 am a2.1 n6 a2.2.2.1 a2.2.2.2.1 a2.2.2.2.2
  have hz : rdZ mc n g L = rdA g L n (mc 2) (mc 3) (mc 41 4) := rfl
  by_cases h1 : (rdA g L n (mc 2) (mc 3) (mc 41 4)).1 = -1
  · rw [hz, if_pos h1] at E
    rw [if_pos h1] at M
    have hAR := hR h1
    have q : ∀ c, c ≠ 4 → c ≠ 5 → c ≠ 6 → c ≠ 41 → rdH mc n g L c = mc c := fun c => rdH_ne
    have q5 := @rdH_5 n L mc g
    have q6 := @rdH_6 n L mc g
    have q4 := @rdH_4 n L mc g
    have q41 := (@rdH_41 n L mc g).2
    rw [hz] at q5 q6 q4 q41
    generalize rdH mc n g L = m1 at *
    have kc : ∀ c, c ≠ 1 → c ≠ 2 → c ≠ 3 → c ≠ 43 → c ≠ 49 → c ≠ 7 → c ≠ 34 → c ≠ 41 → tlH m1 c = m1 c := fun c c1 c2 c3 c43 c49 c7 c34 c41 => by
      unfold tlH cpE
      rw [fgH_ne c43 c49, mu_ne c34, mu_ne c7, mu_ne c3, mu_ne c2, mu_ne c1, mu_ne c41]
    have k34 : tlH m1 34 = upd (upd (m1 34) 0 (nI 0)) 1 (nI 0) := by
      unfold tlH
      rw [fgH_ne (by decide) (by decide), mu_same]
    have k7 : tlH m1 7 = upd (m1 7) 2 (nI 0) := by
      unfold tlH
      rw [fgH_ne (by decide) (by decide), mu_ne (by decide), mu_same]
    have k3 : tlH m1 3 = m1 6 := by
      unfold tlH cpE
      rw [fgH_ne (by decide) (by decide), mu_ne (by decide), mu_ne (by decide), mu_same, mu_ne (by decide)]
    have k2 : tlH m1 2 = m1 5 := by
      unfold tlH cpE
      rw [fgH_ne (by decide) (by decide), mu_ne (by decide), mu_ne (by decide), mu_ne (by decide), mu_same, mu_ne (by decide)]
    have k1 : tlH m1 1 = upd (m1 1) 0 (m1 4 0) := by
      unfold tlH cpE
      rw [fgH_ne (by decide) (by decide), mu_ne (by decide), mu_ne (by decide), mu_ne (by decide), mu_ne (by decide), mu_same, mu_ne (by decide), mu_ne (by decide)]
    have k41 : tlH m1 41 1 = nI 0 := by
      unfold tlH cpE
      rw [fgH_ne (by decide) (by decide), mu_ne (by decide), mu_ne (by decide), mu_ne (by decide), mu_ne (by decide), mu_ne (by decide), mu_same]
      simp [upd]
    have hFI : ∀ n' F, FI (tlH m1) qc n' F := fun n' F => by
      unfold tlH
      refine FI_fg ?_ ?_
      · unfold cpE
        rw [mu_ne (by decide), mu_ne (by decide), mu_ne (by decide), mu_ne (by decide), mu_ne (by decide), mu_ne (by decide), q 66 (by decide) (by decide) (by decide) (by decide)]
        exact a3.2.2.2.2.2.1
      · unfold cpE
        rw [mu_ne (by decide), mu_ne (by decide), mu_ne (by decide), mu_ne (by decide), mu_ne (by decide), mu_ne (by decide), q 67 (by decide) (by decide) (by decide) (by decide)]
        exact a3.2.2.2.2.2.2
    have kk : ∀ c, 5 ≤ c → c ≠ 5 → c ≠ 6 → c ≠ 43 → c ≠ 49 → c ≠ 7 → c ≠ 34 → c ≠ 41 → tlH m1 c = mc c := fun c c5 c55 c6 c43 c49 c7 c34 c41 => by
      rw [kc c (by omega) (by omega) (by omega) c43 c49 c7 c34 c41, q c (by omega) c55 c6 c41]
    have d1 : tlM (mP (mD mm D) R' W' N' b' e' t' c') 1 = R' := by
      unfold tlM
      rw [mu_ne (by decide), mu_ne (by decide), mP_1]
    have d2 : tlM (mP (mD mm D) R' W' N' b' e' t' c') 2 = upd (upd (mP (mD mm D) R' W' N' b' e' t' c' 2) 0 (nI 0)) 1 (nI 0) := by
      unfold tlM
      rw [mu_same]
    have d0 : tlM (mP (mD mm D) R' W' N' b' e' t' c') 0 = upd (upd (mP (mD mm D) R' W' N' b' e' t' c' 0) 4 (nI 0)) 1 (nI 0) := by
      unfold tlM
      rw [mu_ne (by decide), mu_same]
    have dc : ∀ c, 3 ≤ c → c ≤ 7 → tlM (mP (mD mm D) R' W' N' b' e' t' c') c = mm c := fun c h1 h2 => by
      unfold tlM
      rw [mu_ne (by omega), mu_ne (by omega), mP_ne (by omega) (by omega) (by omega) (by omega)]
      exact mu_ne (by omega)
    generalize tlM (mP (mD mm D) R' W' N' b' e' t' c') = mm' at *
    generalize tlH m1 = mc' at *
    rw [q41] at E
    refine STp_i E M rfl ⟨⟨(rdA g L n (mc 2) (mc 3) (mc 41 4)).2.2.1, by rw [k1, q4]; simp [upd], ?_, hFI _ _⟩, ⟨x, 0, b1, by decide, by rw [k7, q 7 (by decide) (by decide) (by decide) (by decide)]; simp [upd, b3], by rw [k7]; simp [upd], by rw [d0]; simp [upd], fun y hy => zA_c (b6 y hy) (kk _ (by omega) (by omega) (by omega) (by omega) (by omega) (by omega) (by omega) (by omega)) (kk _ (by omega) (by omega) (by omega) (by omega) (by omega) (by omega) (by omega) (by omega)), fun j hj => absurd hj (Nat.not_lt_zero j)⟩, fun k hk => ?_, ⟨?_, g, 0, ⟨k41, by decide, fun i hi => absurd hi (Nat.not_lt_zero i)⟩, by rw [d0]; simp [upd], by decide, fun i hi => absurd hi (Nat.not_lt_zero i)⟩, XX_c hX (fun c h1 h2 => kk c (by omega) (by omega) (by omega) (by omega) (by omega) (by omega) (by omega) (by omega)) (dc 4 (by decide) (by decide)) (dc 5 (by decide) (by decide)) (dc 6 (by decide) (by decide)) (dc 7 (by decide) (by decide))⟩
    · rw [k2, k3, q5, q6, d1]
      exact ⟨r3, r4, r1, r2, hAR⟩
    · refine ⟨zA_c (hK k hk).1 (kk _ (by omega) (by omega) (by omega) (by omega) (by omega) (by omega) (by omega) (by omega)) (kk _ (by omega) (by omega) (by omega) (by omega) (by omega) (by omega) (by omega) (by omega)), false, ?_, ?_, fun h => by cases h⟩
      · rw [k34]
        match k, hk with
        | 0, _ => simp [upd]; rfl
        | 1, _ => simp [upd]; rfl
      · rw [d2]
        match k, hk with
        | 0, _ => simp [upd]; rfl
        | 1, _ => simp [upd]; rfl
    · unfold zA
      rw [kc 5 (by decide) (by decide) (by decide) (by decide) (by decide) (by decide) (by decide) (by decide), kc 6 (by decide) (by decide) (by decide) (by decide) (by decide) (by decide) (by decide) (by decide), q5, q6]
      exact ⟨r1.2.2.1, r2⟩
  · rw [hz, if_neg h1] at E
    rw [if_neg h1] at M
    exact STp_i E M rfl (JJ_rd h a1 a2 a3 t1 t2)
end
