/-! the covectors alike -/
section
variable {a b c d e n x y z k p q r s f i : Nat} {F G R : Nat → Int32} {D E : Nat → Nat} {P : Nat → Bool} {l C : List Nat} {χ : Nat → Nat → Nat → Nat} {X Y : Nat → Nat}
def cocC (n : Nat) (R : Nat → Int32) (t : Nat × Nat) : Nat := cdF n fun e => sd (mS R t.1 t.2 e)
theorem cocC_lt {t : Nat × Nat} : cocC n R t < 3 ^ n := cdF_lt fun _ _ => sd_lt
theorem coc_m : cocP n R fP y = true ↔ ∃ t ∈ prs n, zrN n (cocC n R t) < n ∧ (y = cocC n R t ∨ y = 3 ^ n - 1 - cocC n R t) := by
  have := mbP_f (n := n) (y := y) (C := cocC n R) (l := prs n) (P := fP)
  exact this.trans ⟨fun h => h.elim (fun h => (by cases h)) id, Or.inr⟩
theorem op_cd (hc : c < 3 ^ n) : 3 ^ n - 1 - c = cdF n fun e => 2 - dgN n c e := by
  have ho := cd_op (n := n) (D := dgN n c) fun _ _ => dgN_lt
  rw [cd_dg hc] at ho
  omega
theorem dg_op (hc : c < 3 ^ n) (he : e < n) : dgN n (3 ^ n - 1 - c) e = 2 - dgN n c e := by
  rw [op_cd hc, dg_cd (fun e _ => by have := @dgN_lt n c e; omega) he]
theorem cocC_d (h1 : a < b) (h2 : b < n) : dX n (cocC n R (a, b)) f = xiM n R a b f := by
  unfold dX
  by_cases hf : f < n
  · rw [if_pos hf, xiM_in ⟨by omega, h2, hf⟩]
    exact dg_cd (fun _ _ => sd_lt) hf
  · rw [if_neg hf, xiM_out (by omega)]
theorem cocO_d (h : AR n F G R) (hF : AI F) (hn : n ≤ 6) (h1 : a < b) (h2 : b < n) : dX n (3 ^ n - 1 - cocC n R (a, b)) f = xiM n R b a f := by
  rw [xiM_s1 (b := b) (a := a) h hF hn, ← cocC_d h1 h2]
  unfold dX
  by_cases hf : f < n
  · rw [if_pos hf, if_pos hf, dg_op cocC_lt hf]
  · rw [if_neg hf, if_neg hf]
theorem coc_d (h : AR n F G R) (hF : AI F) (hn : n ≤ 6) (hy : cocP n R fP y = true) : y < 3 ^ n ∧ ∃ a b, dX n y = xiM n R a b := by
  obtain ⟨⟨a, b⟩, ht, _, e⟩ := coc_m.mp hy
  have ht := prs_mem.mp ht
  have hl := cocC_lt (n := n) (R := R) (t := (a, b))
  rcases e with rfl | rfl
  · exact ⟨hl, a, b, funext fun f => cocC_d ht.1 ht.2⟩
  · exact ⟨by omega, b, a, funext fun f => cocO_d h hF hn ht.1 ht.2⟩
theorem dX_cm : dX n (cmC n x y) = fun f => if dX n x f = 1 then dX n y f else dX n x f := funext fun f => by
  unfold dX
  by_cases hf : f < n
  · rw [if_pos hf, if_pos hf, if_pos hf, dg_cm hf]
  · rw [if_neg hf, if_neg hf, if_neg hf, if_pos rfl]
theorem dX_c0 : dX n (c0 n) = fun _ => 1 := funext fun f => by
  unfold dX
  split
  · exact dg_cd (D := fun _ => 1) (fun _ _ => by decide) (by assumption)
  · rfl
/-- a conformal cocircuit's code is marked -/
theorem coc_cf (h : AR n F G R) (hF : AI F) (hn : n ≤ 6) (ho : orM n R = true) {t : Nat} (he : e < n) (h1 : oqF t (xiM n R a b e) ≠ 1) : ∃ y, y < 3 ^ n ∧ cocP n R fP y = true ∧ ∀ f, f < n → dgN n y f = oqF t (xiM n R a b f) := by
  have hX := xiM_X h hF hn ho
  have hne : xiM n R a b e ≠ 1 := fun h' => h1 ((oqF_1 (oqX_lt hX _ _ _)).mpr h')
  have hin : a < n ∧ b < n ∧ e < n := Classical.byContradiction fun h' => hne (xiM_out h')
  have hab : a ≠ b := fun h' => hne (by rw [h']; exact oqX_d1 hX b e)
  -- for sorted places
  have key : ∀ {a b}, a < b → b < n → xiM n R a b e ≠ 1 → (cocP n R fP (cocC n R (a, b)) = true ∧ cocP n R fP (3 ^ n - 1 - cocC n R (a, b)) = true) := fun {a b} hab hb hne => by
    have z : zrN n (cocC n R (a, b)) < n := (zr_c hn cocC_lt).mpr fun e0 => hne (by
      have := cocC_d (n := n) (R := R) (f := e) hab hb
      rw [e0, dX_c0] at this
      exact this.symm)
    have m : (a, b) ∈ prs n := prs_mem.mpr ⟨hab, hb⟩
    exact ⟨coc_m.mpr ⟨_, m, z, Or.inl rfl⟩, coc_m.mpr ⟨_, m, z, Or.inr rfl⟩⟩
  have dd : ∀ {y f}, f < n → dgN n y f = dX n y f := fun hf => (if_pos hf).symm
  have s1 := oqX_s1 hX
  have hl := @cocC_lt n R
  by_cases h2 : a < b
  · obtain ⟨k1, k2⟩ := key h2 hin.2.1 hne
    by_cases ht : t % 2 = 0
    · exact ⟨_, cocC_lt, k1, fun f hf => by rw [dd hf, cocC_d h2 hin.2.1]; unfold oqF; rw [if_pos ht]⟩
    · exact ⟨_, by have := hl (t := (a, b)); omega, k2, fun f hf => by rw [dd hf, cocO_d h hF hn h2 hin.2.1, s1 a b f]; unfold oqF; rw [if_neg ht]⟩
  · have h3 : b < a := by omega
    obtain ⟨k1, k2⟩ := key h3 hin.1 (by have := s1 a b e; have := oqX_lt hX a b e; omega)
    by_cases ht : t % 2 = 0
    · exact ⟨_, by have := hl (t := (b, a)); omega, k2, fun f hf => by rw [dd hf, cocO_d h hF hn h3 hin.1]; unfold oqF; rw [if_pos ht]⟩
    · exact ⟨_, cocC_lt, k1, fun f hf => by rw [dd hf, cocC_d h3 hin.1, s1 a b f]; unfold oqF; rw [if_neg ht]⟩
/-- the covectors' list holds just the codes marked -/
theorem cov_CP (h : AR n F G R) (hF : AI F) (hn : n ≤ 6) (ho : orM n R = true) : CP n (covL n F) (covP n (cirP n R fP)) := by
  have hX := xiM_X h hF hn ho
  have hco := coc_CP h hF hn
  have hC : ∀ k ∈ srt (cocL n F), ∃ y, y < 3 ^ n ∧ cocP n R fP y = true ∧ k = kK n y := fun k hk => (hco.2 k).mp ((srt_mem fun k hk => by obtain ⟨c, _, rfl⟩ := CP_k hco k hk; exact kK_lt hn).mp hk)
  have hC' : ∀ y, y < 3 ^ n → cocP n R fP y = true → kK n y ∈ srt (cocL n F) := fun y h1 h2 => (srt_mem fun k hk => by obtain ⟨c, _, rfl⟩ := CP_k hco k hk; exact kK_lt hn).mpr ((hco.2 _).mpr ⟨y, h1, h2, rfl⟩)
  have q0 : c0 n < 3 ^ n ∧ covP n (cirP n R fP) (c0 n) = true := ⟨c0_lt, (covP_iff h hF hn ho c0_lt).mpr fun p q r s => by
    rw [dX_c0]
    unfold oqO
    rw [oqPd_1, oqPd_1, oqPd_1, oqPd_1]
    rfl⟩
  have hS : ∀ x y, (x < 3 ^ n ∧ covP n (cirP n R fP) x = true) → cocP n R fP y = true → (cmC n x y < 3 ^ n ∧ covP n (cirP n R fP) (cmC n x y) = true) := fun x y hx hy => by
    obtain ⟨hy1, a, b, hy2⟩ := coc_d h hF hn hy
    have hx2 := (covP_iff h hF hn ho hx.1).mp hx.2
    refine ⟨cmC_lt, (covP_iff h hF hn ho cmC_lt).mpr fun p q r s => ?_⟩
    rw [dX_cm]
    refine oqO_cm hX (fun _ => dX_lt) (fun _ => dX_lt) (hx2 p q r s) ?_
    rw [hy2]
    exact oq_four hX
  have e0 : insK [] (kO (zeV n)) = [kK n (c0 n)] := by
    rw [vN_ze, kK_cd (D := fun _ => 1) fun _ _ => by decide]
    rfl
  obtain ⟨g1, g2, g3⟩ := covW_ok (n := n) (Q := fun x => x < 3 ^ n ∧ covP n (cirP n R fP) x = true) (S := fun y => cocP n R fP y = true) hn hS hC 729 0 [kK n (c0 n)] ⟨by simp, fun k hk => ⟨c0 n, c0_lt, q0, List.mem_singleton.mp hk⟩⟩ (by omega) (fun j hj => absurd hj (Nat.not_lt_zero j))
  unfold covL
  rw [e0]
  generalize covW (srt (cocL n F)) 729 0 [kK n (c0 n)] = L at g1 g2 g3
  have hcl : ∀ k ∈ L, ∀ c ∈ srt (cocL n F), cpK k c ∈ L := fun k hk c hc => by
    obtain ⟨i, hi, rfl⟩ := List.getElem_of_mem hk
    have := g3 i hi c hc
    rw [List.getD_eq_getElem?_getD, List.getElem?_eq_getElem hi] at this
    exact this
  refine ⟨g1.1, fun k => ⟨fun hk => ?_, ?_⟩⟩
  · obtain ⟨c, hc, q, e⟩ := g1.2 k hk
    exact ⟨c, hc, q.2, e⟩
  · rintro ⟨c, hc, hcov, rfl⟩
    have hO := (covP_iff h hF hn ho hc).mp hcov
    have dd : ∀ {y f}, f < n → dX n y f = dgN n y f := fun hf => if_pos hf
    have step : ∀ j, j ≤ n → ∃ x, x < 3 ^ n ∧ kK n x ∈ L ∧ (∀ g, g < n → dgN n x g = 1 ∨ dgN n x g = dgN n c g) ∧ ∀ g, g < j → dgN n x g = dgN n c g := by
      intro j
      induction j with
      | zero =>
        intro _
        refine ⟨c0 n, c0_lt, g2.subset List.mem_cons_self, fun g hg => Or.inl ?_, fun g hg => absurd hg (Nat.not_lt_zero g)⟩
        exact dg_cd (D := fun _ => 1) (fun _ _ => by decide) hg
      | succ j ih =>
        intro hj
        obtain ⟨x, hx, hxL, hx1, hx2⟩ := ih (by omega)
        by_cases hcj : dgN n c j = 1
        · refine ⟨x, hx, hxL, hx1, fun g hg => ?_⟩
          by_cases hgj : g < j
          · exact hx2 g hgj
          · obtain rfl : g = j := by omega
            rcases hx1 g (by omega) with k | k
            · rw [k, hcj]
            · exact k
        · obtain ⟨a, b, t, ha, hb, hcf, hce⟩ := oq_conf (χ := xiM n R) (X := dX n c) (e := j) hX (xiM_nz h hF hn ho) (fun _ => dX_lt) (if_neg (by omega)) hO (by omega) (by rw [dd (by omega)]; exact hcj)
          rw [dd (show j < n by omega)] at hce
          obtain ⟨y, hy, hyc, hyd⟩ := coc_cf h hF hn ho (a := a) (b := b) (t := t) (e := j) (by omega) (by rw [hce]; exact hcj)
          have hyL := hcl _ hxL _ (hC' y hy hyc)
          rw [cpK_k hn] at hyL
          have hyf : ∀ g, g < n → dgN n y g = 1 ∨ dgN n y g = dgN n c g := fun g hg => by
            rw [hyd g hg]
            have := hcf g (by omega)
            rw [dd hg] at this
            exact this
          refine ⟨cmC n x y, cmC_lt, hyL, fun g hg => ?_, fun g hg => ?_⟩
          · rw [dg_cm hg]
            by_cases k : dgN n x g = 1
            · rw [if_pos k]
              exact hyf g hg
            · rw [if_neg k]
              exact hx1 g hg
          · rw [dg_cm (by omega)]
            by_cases k : dgN n x g = 1
            · rw [if_pos k]
              by_cases hgj : g < j
              · rcases hyf g (by omega) with k2 | k2
                · rw [k2, ← hx2 g hgj, k]
                · exact k2
              · obtain rfl : g = j := by omega
                rw [hyd g (by omega), hce]
            · rw [if_neg k]
              rcases hx1 g (by omega) with k2 | k2
              · exact absurd k2 k
              · exact k2
    obtain ⟨x, hx, hxL, _, hx2⟩ := step n (Nat.le_refl n)
    rw [← cd_inj hx hc hx2]
    exact hxL
end
