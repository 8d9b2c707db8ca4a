/-! the other calls: alike -/
section
variable {n n' s k c d e f a b u L x : Nat} {mc mc' mm mm' : Mem} {qc qc' qm : MemJ} {F G R R' R1 W F' G' : Nat → Int32} {y z w v : Int32} {g : Nat → Nat}
theorem J_undo (h : JJ mc qc mm) : STp 71 214 [.ref 0] [.ref 0] mc qc mm qm := by
  obtain ⟨n, a1, a2, a3, aN, am, n1, n6⟩ := JJ_n h
  obtain ⟨_, ⟨x, s, hH⟩, hK, hT, hX⟩ := id h
  obtain ⟨b1, b2, b3, b4, b5, b6, b7⟩ := id hH
  have pv : pvX x < 8 ∧ pvX x = (x + 7) % 8 := by unfold pvX; split <;> omega
  have E := x_S_undo (d := 93) (q := qc) b3 b1 b4 b2 (b6 _ pv.1) (AX_zA a2)
  have M := x_M_undo (d := 99) (q := qm) b5 b2
  by_cases hs : s = 0
  · rw [if_pos hs] at E M
    exact STp_i E M rfl h
  · rw [if_neg hs] at E M
    obtain ⟨n', e0, ex⟩ := b7 0 (by omega)
    rw [show (x + 7 - 0) % 8 = pvX x by omega] at e0 ex
    rw [show s - 1 - 0 = s - 1 by omega] at ex
    obtain ⟨p, hp⟩ : ∃ p, p = pvX x := ⟨_, rfl⟩
    rw [← hp] at e0 ex pv
    unfold unH at E
    rw [← hp] at E
    have kc : ∀ c, c ≠ 1 → c ≠ 2 → c ≠ 3 → c ≠ 43 → c ≠ 49 → c ≠ 7 → fgH (cpE (mu mc 7 (upd (upd (mc 7) 1 (nI p)) 2 (nI (s - 1)))) 1 (9 + 3 * p)) c = mc c := fun c c1 c2 c3 c43 c49 c7 => by
      rw [fgH_ne c43 c49]
      unfold cpE
      rw [mu_ne c3, mu_ne c2, mu_ne c1, mu_ne c7]
    have k7 : fgH (cpE (mu mc 7 (upd (upd (mc 7) 1 (nI p)) 2 (nI (s - 1)))) 1 (9 + 3 * p)) 7 = upd (upd (mc 7) 1 (nI p)) 2 (nI (s - 1)) := by
      rw [fgH_ne (by decide) (by decide)]
      unfold cpE
      rw [mu_ne (by decide), mu_ne (by decide), mu_ne (by decide), mu_same]
    have k1 : fgH (cpE (mu mc 7 (upd (upd (mc 7) 1 (nI p)) 2 (nI (s - 1)))) 1 (9 + 3 * p)) 1 = upd (mc 1) 0 (mc (9 + 3 * p) 0) := by
      rw [fgH_ne (by decide) (by decide)]
      unfold cpE
      rw [mu_ne (by decide), mu_ne (by decide), mu_same, mu_ne (show (1 : Nat) ≠ 7 by decide), mu_ne (show 9 + 3 * p ≠ 7 by omega)]
    have k2 : fgH (cpE (mu mc 7 (upd (upd (mc 7) 1 (nI p)) 2 (nI (s - 1)))) 1 (9 + 3 * p)) 2 = mc (9 + 3 * p + 1) := by
      rw [fgH_ne (by decide) (by decide)]
      unfold cpE
      rw [mu_ne (by decide), mu_same, mu_ne (show 9 + 3 * p + 1 ≠ 7 by omega)]
    have k3 : fgH (cpE (mu mc 7 (upd (upd (mc 7) 1 (nI p)) 2 (nI (s - 1)))) 1 (9 + 3 * p)) 3 = mc (9 + 3 * p + 2) := by
      rw [fgH_ne (by decide) (by decide)]
      unfold cpE
      rw [mu_same, mu_ne (show 9 + 3 * p + 2 ≠ 7 by omega)]
    have m6 : cpE (mu mc 7 (upd (upd (mc 7) 1 (nI p)) 2 (nI (s - 1)))) 1 (9 + 3 * p) 66 = mc 66 ∧ cpE (mu mc 7 (upd (upd (mc 7) 1 (nI p)) 2 (nI (s - 1)))) 1 (9 + 3 * p) 67 = mc 67 := by
      unfold cpE
      exact ⟨by rw [mu_ne (by decide), mu_ne (by decide), mu_ne (by decide), mu_ne (by decide)], by rw [mu_ne (by decide), mu_ne (by decide), mu_ne (by decide), mu_ne (by decide)]⟩
    have hFI : ∀ F, FI (fgH (cpE (mu mc 7 (upd (upd (mc 7) 1 (nI p)) 2 (nI (s - 1)))) 1 (9 + 3 * p))) qc n' F := fun F => FI_fg (by rw [m6.1]; exact a3.2.2.2.2.2.1) (by rw [m6.2]; exact a3.2.2.2.2.2.2)
    generalize fgH (cpE (mu mc 7 (upd (upd (mc 7) 1 (nI p)) 2 (nI (s - 1)))) 1 (9 + 3 * p)) = mc' at *
    have r1 : ∀ i, i < 39 → cyM (mm 1) (39 + 39 * (s - 1)) 0 i = rwM (mm 1) (39 + 39 * (s - 1)) i := fun i hi => by
      rw [cyM_at (by omega), if_pos (by omega)]
      rfl
    have r2 : ∀ i, 39 ≤ i → cyM (mm 1) (39 + 39 * (s - 1)) 0 i = mm 1 i := fun i hi => by
      rw [cyM_at (by omega), if_neg (by omega)]
    refine STp_i E M rfl ⟨⟨n', by rw [k1]; simp [upd, e0], ?_, hFI _⟩, ⟨p, s - 1, pv.1, by omega, by rw [k7]; simp [upd], by rw [k7]; simp [upd], by rw [mu_ne (by decide), mu_same]; simp [upd], fun y hy => zA_c (b6 y hy) (kc _ (by omega) (by omega) (by omega) (by omega) (by omega) (by omega)) (kc _ (by omega) (by omega) (by omega) (by omega) (by omega) (by omega)), fun j hj => ?_⟩, KK_c hK (fun c h1 h2 => kc c (by omega) (by omega) (by omega) (by omega) (by omega) (by omega)) (by rw [mu_ne (by decide), mu_ne (by decide)]) fun i hi => by rw [mu_same]; exact r2 i (by omega), TT_c hT (kc 5 (by decide) (by decide) (by decide) (by decide) (by decide) (by decide)) (kc 6 (by decide) (by decide) (by decide) (by decide) (by decide) (by decide)) (by rw [kc 41 (by decide) (by decide) (by decide) (by decide) (by decide) (by decide)]) (kc 42 (by decide) (by decide) (by decide) (by decide) (by decide) (by decide)) (by rw [mu_ne (by decide), mu_same]; simp [upd]) (by rw [mu_ne (by decide), mu_ne (by decide)]), XX_c hX (fun c h1 h2 => kc c (by omega) (by omega) (by omega) (by omega) (by omega) (by omega)) (by rw [mu_ne (by decide), mu_ne (by decide)]) (by rw [mu_ne (by decide), mu_ne (by decide)]) (by rw [mu_ne (by decide), mu_ne (by decide)]) (by rw [mu_ne (by decide), mu_ne (by decide)])⟩
    · rw [k2, k3, mu_same]
      exact AX_cR ex r1
    · have hb := b7 (j + 1) (by omega)
      have ee : (p + 7 - j) % 8 = (x + 7 - (j + 1)) % 8 := by omega
      have hm8 : (x + 7 - (j + 1)) % 8 < 8 := Nat.mod_lt _ (by decide)
      rw [ee]
      generalize (x + 7 - (j + 1)) % 8 = t at hb hm8
      refine A2_c hb (kc _ (by omega) (by omega) (by omega) (by omega) (by omega) (by omega)) (kc _ (by omega) (by omega) (by omega) (by omega) (by omega) (by omega)) (kc _ (by omega) (by omega) (by omega) (by omega) (by omega) (by omega)) fun i hi => ?_
      unfold rwM
      rw [mu_same, r2 _ (by omega)]
      congr 1
      omega
theorem J_keep (h : JJ mc qc mm) : STp 74 215 [.ref 0, .int y] [.ref 0, .int y] mc qc mm qm := by
  obtain ⟨n, a1, a2, a3, aN, am, n1, n6⟩ := JJ_n h
  obtain ⟨_, ⟨x, s, hH⟩, hK, hT, hX⟩ := id h
  have E := x_S_keep (d := 94) (q := qc) (x := y) a1 (fun k hk => (hK k hk).1) (AX_zA a2)
  have M := x_M_keep (d := 99) (q := qm) (x := y) am
  rcases elB_or 2 y (by decide) with ⟨hy, _⟩ | ⟨k, hk, rfl⟩
  · rw [hy] at E M
    exact STp_i E M rfl h
  · rw [elB_nI (by decide) hk, if_pos rfl, eN_nI (by omega)] at E M
    have kc : ∀ c, (c < 35 + 3 * k ∨ 37 + 3 * k < c) → c ≠ 34 → kpH mc k c = mc c := fun c c1 c2 => by
      unfold kpH cpE
      rw [mu_ne c2, mu_ne (by omega), mu_ne (by omega), mu_ne (by omega)]
    have k34 : kpH mc k 34 = upd (mc 34) k (nI 1) := by
      unfold kpH
      rw [mu_same]
    have kk : kpH mc k (35 + 3 * k) = upd (mc (35 + 3 * k)) 0 (mc 1 0) ∧ kpH mc k (35 + 3 * k + 1) = mc 2 ∧ kpH mc k (35 + 3 * k + 2) = mc 3 := by
      unfold kpH cpE
      refine ⟨?_, ?_, ?_⟩
      · rw [mu_ne (by omega), mu_ne (by omega), mu_ne (by omega), mu_same]
      · rw [mu_ne (by omega), mu_ne (by omega), mu_same]
      · rw [mu_ne (by omega), mu_same]
    have r1 : ∀ i, cyM (mm 1) 0 (351 + 39 * k) i = if 351 + 39 * k ≤ i ∧ i < 351 + 39 * k + 39 then mm 1 (0 + (i - (351 + 39 * k))) else mm 1 i := fun i => cyM_at (by omega) i
    have hFI : FI (kpH mc k) qc n (mc 2) := FI_c a3 fun c h1 h2 => kc c (by omega) (by omega)
    generalize kpH mc k = mc' at *
    refine STp_i E M rfl ⟨⟨n, by rw [kc 1 (by omega) (by decide)]; exact a1, ?_, by rw [kc 2 (by omega) (by decide)]; exact hFI⟩, ⟨x, s, HH_c hH (fun c h1 h2 => kc c (by omega) (by omega)) (by rw [mu_ne (by decide), mu_ne (by decide)]) fun i h1 h2 => ?_⟩, fun j hj => ?_, TT_c hT (kc 5 (by omega) (by decide)) (kc 6 (by omega) (by decide)) (by rw [kc 41 (by omega) (by decide)]) (kc 42 (by omega) (by decide)) (by rw [mu_ne (by decide), mu_ne (by decide)]) (by rw [mu_ne (by decide), mu_ne (by decide)]), XX_c hX (fun c h1 h2 => kc c (by omega) (by omega)) (by rw [mu_ne (by decide), mu_ne (by decide)]) (by rw [mu_ne (by decide), mu_ne (by decide)]) (by rw [mu_ne (by decide), mu_ne (by decide)]) (by rw [mu_ne (by decide), mu_ne (by decide)])⟩
    · rw [kc 2 (by omega) (by decide), kc 3 (by omega) (by decide), mu_ne (by decide), mu_same]
      exact AX_cR a2 fun i hi => by rw [r1, if_neg (by omega)]
    · rw [mu_ne (by decide), mu_same, r1, if_neg (by omega)]
    · rw [mu_same, k34]
      by_cases hjk : j = k
      · subst hjk
        refine ⟨by unfold zA; rw [kk.2.1, kk.2.2]; exact AX_zA a2, true, by simp [upd]; rfl, by simp [upd]; rfl, fun _ => ⟨n, by rw [kk.1]; simp [upd, a1], ?_⟩⟩
        rw [kk.2.1, kk.2.2, mu_ne (by decide), mu_same]
        refine AX_cR a2 fun i hi => ?_
        unfold rwM
        rw [r1, if_pos (by omega)]
        congr 1
        omega
      · obtain ⟨c1, t, c2, c3, c4⟩ := hK j hj
        refine ⟨zA_c c1 (kc _ (by omega) (by omega)) (kc _ (by omega) (by omega)), t, by simp only [upd]; rw [if_neg hjk]; exact c2, by simp only [upd]; rw [if_neg hjk]; exact c3, fun ht => ?_⟩
        refine A2_c (c4 ht) (kc _ (by omega) (by omega)) (kc _ (by omega) (by omega)) (kc _ (by omega) (by omega)) fun i hi => ?_
        unfold rwM
        rw [mu_ne (by decide), mu_same, r1, if_neg (by omega)]
theorem J_back (h : JJ mc qc mm) : STp 75 216 [.ref 0, .int y] [.ref 0, .int y] mc qc mm qm := by
  obtain ⟨n, a1, a2, a3, aN, am, n1, n6⟩ := JJ_n h
  obtain ⟨_, ⟨x, s, hH⟩, hK, hT, hX⟩ := id h
  obtain ⟨b1, b2, b3, b4, b5, b6, b7⟩ := id hH
  have hkt : ∃ t : Nat → Bool, ∀ k, k < 2 → mc 34 k = bI (t k) ∧ mm 2 k = bI (t k) ∧ (t k = true → A2 mc (35 + 3 * k) (rwM (mm 1) (351 + 39 * k))) := by
    obtain ⟨_, t0, p0⟩ := hK 0 (by decide)
    obtain ⟨_, t1, p1⟩ := hK 1 (by decide)
    refine ⟨fun k => if k = 0 then t0 else t1, fun k hk => ?_⟩
    match k, hk with
    | 0, _ => exact p0
    | 1, _ => exact p1
  obtain ⟨t, ht⟩ := hkt
  obtain ⟨N1, hN1⟩ : ∃ N : Nat → Nat, ∀ k, mc (35 + 3 * k) 0 = nI (N k) := ⟨fun k => Classical.choose (nI_any (mc (35 + 3 * k) 0)), fun k => Classical.choose_spec (nI_any (mc (35 + 3 * k) 0))⟩
  obtain ⟨N2, hN2⟩ : ∃ N : Nat → Nat, ∀ k, mm 1 (351 + 39 * k) = nI (N k) := ⟨fun k => Classical.choose (nI_any (mm 1 (351 + 39 * k))), fun k => Classical.choose_spec (nI_any (mm 1 (351 + 39 * k)))⟩
  have E := x_S_back (d := 94) (q := qc) (x := y) (kt := t) (N := N1) (fun k hk => (ht k hk).1) (fun k _ => hN1 k) (fun k hk => (hK k hk).1) (AX_zA a2)
  have M := x_M_back (d := 99) (q := qm) (x := y) (kt := t) (N := N2) (fun k hk => (ht k hk).2.1) (fun k _ => hN2 k)
  rcases elB_or 2 y (by decide) with ⟨hy, _⟩ | ⟨k, hk, rfl⟩
  · rw [hy] at E M
    exact STp_i E M rfl h
  · rw [elB_nI (by decide) hk, if_pos rfl, eN_nI (by omega)] at E M
    cases hb : t k with
    | false =>
      rw [hb] at E M
      exact STp_i E M rfl h
    | true =>
      rw [hb, if_pos rfl] at E M
      obtain ⟨n', e0, ex⟩ := (ht k hk).2.2 hb
      have kc : ∀ c, c ≠ 1 → c ≠ 2 → c ≠ 3 → c ≠ 43 → c ≠ 49 → c ≠ 7 → bkH mc k c = mc c := fun c c1 c2 c3 c43 c49 c7 => by
        unfold bkH cpE
        rw [fgH_ne c43 c49, mu_ne c7, mu_ne c3, mu_ne c2, mu_ne c1]
      have k7 : bkH mc k 7 = upd (mc 7) 2 (nI 0) := by
        unfold bkH
        rw [fgH_ne (by decide) (by decide), mu_same]
      have k1 : bkH mc k 1 = upd (mc 1) 0 (mc (35 + 3 * k) 0) := by
        unfold bkH cpE
        rw [fgH_ne (by decide) (by decide), mu_ne (by decide), mu_ne (by decide), mu_ne (by decide), mu_same]
      have k2 : bkH mc k 2 = mc (35 + 3 * k + 1) := by
        unfold bkH cpE
        rw [fgH_ne (by decide) (by decide), mu_ne (by decide), mu_ne (by decide), mu_same]
      have k3 : bkH mc k 3 = mc (35 + 3 * k + 2) := by
        unfold bkH cpE
        rw [fgH_ne (by decide) (by decide), mu_ne (by decide), mu_same]
      have hFI : ∀ F, FI (bkH mc k) qc n' F := fun F => by
        unfold bkH
        refine FI_fg ?_ ?_
        · unfold cpE
          rw [mu_ne (by decide), mu_ne (by decide), mu_ne (by decide), mu_ne (by decide)]
          exact a3.2.2.2.2.2.1
        · unfold cpE
          rw [mu_ne (by decide), mu_ne (by decide), mu_ne (by decide), mu_ne (by decide)]
          exact a3.2.2.2.2.2.2
      generalize bkH mc k = mc' at *
      have r1 : ∀ i, i < 39 → cyM (mm 1) (351 + 39 * k) 0 i = rwM (mm 1) (351 + 39 * k) i := fun i hi => by
        rw [cyM_at (by omega), if_pos (by omega)]
        rfl
      have r2 : ∀ i, 39 ≤ i → cyM (mm 1) (351 + 39 * k) 0 i = mm 1 i := fun i hi => by
        rw [cyM_at (by omega), if_neg (by omega)]
      have ea : nI (N1 k) = nI (N2 k) := by
        rw [← hN1, ← hN2, e0]
        exact ex.2.2.2.2.1.symm
      refine STp_i E M ea ⟨⟨n', by rw [k1]; simp [upd, e0], ?_, hFI _⟩, ⟨x, 0, b1, by decide, by rw [k7]; simp [upd, b3], by rw [k7]; simp [upd], by rw [mu_same]; simp [upd], fun y hy => zA_c (b6 y hy) (kc _ (by omega) (by omega) (by omega) (by omega) (by omega) (by omega)) (kc _ (by omega) (by omega) (by omega) (by omega) (by omega) (by omega)), fun j hj => absurd hj (Nat.not_lt_zero j)⟩, KK_c hK (fun c h1 h2 => kc c (by omega) (by omega) (by omega) (by omega) (by omega) (by omega)) (by rw [mu_ne (by decide), mu_ne (by decide)]) fun i hi => by rw [mu_ne (by decide), mu_same]; exact r2 i (by omega), TT_c hT (kc 5 (by decide) (by decide) (by decide) (by decide) (by decide) (by decide)) (kc 6 (by decide) (by decide) (by decide) (by decide) (by decide) (by decide)) (by rw [kc 41 (by decide) (by decide) (by decide) (by decide) (by decide) (by decide)]) (kc 42 (by decide) (by decide) (by decide) (by decide) (by decide) (by decide)) (by rw [mu_same]; simp [upd]) (by rw [mu_ne (by decide), mu_ne (by decide)]), XX_c hX (fun c h1 h2 => kc c (by omega) (by omega) (by omega) (by omega) (by omega) (by omega)) (by rw [mu_ne (by decide), mu_ne (by decide)]) (by rw [mu_ne (by decide), mu_ne (by decide)]) (by rw [mu_ne (by decide), mu_ne (by decide)]) (by rw [mu_ne (by decide), mu_ne (by decide)])⟩
      rw [k2, k3, mu_ne (by decide), mu_same]
      exact AX_cR ex r1
end
