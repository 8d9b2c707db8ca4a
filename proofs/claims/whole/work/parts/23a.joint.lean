/-! both memories, joined -/
def AX (n : Nat) (F G R : Nat → Int32) : Prop := 3 ≤ n ∧ n ≤ 6 ∧ AI F ∧ zaF G 18 ∧ AR n F G R
/-- an arrangement of the class and a row of the model -/
def A2 (m : Mem) (k : Nat) (R : Nat → Int32) : Prop := ∃ n, m k 0 = nI n ∧ AX n (m (k + 1)) (m (k + 2)) R
def rwM (R : Nat → Int32) (o : Nat) : Nat → Int32 := fun i => R (o + i)
/-- what may be undone -/
def HH (mc mm : Mem) (x s : Nat) : Prop := x < 8 ∧ s ≤ 8 ∧ mc 7 1 = nI x ∧ mc 7 2 = nI s ∧ mm 0 1 = nI s ∧ (∀ y, y < 8 → zA mc (9 + 3 * y)) ∧ ∀ j, j < s → A2 mc (9 + 3 * ((x + 7 - j) % 8)) (rwM (mm 1) (39 + 39 * (s - 1 - j)))
/-- what is kept -/
def KK (mc mm : Mem) : Prop := ∀ k, k < 2 → zA mc (35 + 3 * k) ∧ ∃ t : Bool, mc 34 k = bI t ∧ mm 2 k = bI t ∧ (t = true → A2 mc (35 + 3 * k) (rwM (mm 1) (351 + 39 * k)))
/-- the text -/
def TT (mc mm : Mem) : Prop := zA mc 4 ∧ ∃ f L, Ltr mc f L ∧ LtM mm f L
def XX (mc mm : Mem) : Prop := ∃ B C, BS mc B ∧ BM mm C ∧ BB B C
def JJ (mc : Mem) (qc : MemJ) (mm : Mem) : Prop := (∃ n, mc 1 0 = nI n ∧ AX n (mc 2) (mc 3) (mm 1) ∧ FI mc qc n (mc 2)) ∧ (∃ x s, HH mc mm x s) ∧ KK mc mm ∧ TT mc mm ∧ XX mc mm
section
variable {n x s k c d : Nat} {mc mc' mm mm' : Mem} {qc qc' : MemJ} {F G R R' : Nat → Int32}
theorem AR_cR (h : AR n F G R) (hn : n ≤ 6) (hR : ∀ i, i < 39 → R' i = R i) : AR n F G R' := by
  refine ⟨(hR 0 (by decide)).trans h.1, fun a b c ha hb hc hd hP => ?_, fun e i he hi => ?_⟩
  · rw [h.2.1 a b c ha hb hc hd hP]
    unfold mS
    rw [hR (1 + pT a b c) (by have := pT_lt ha hb hc hd; omega)]
  · rw [h.2.2 e i he hi]
    unfold mco
    rw [hR (21 + 3 * e + i) (by omega)]
theorem AX_cR (h : AX n F G R) (hR : ∀ i, i < 39 → R' i = R i) : AX n F G R' := ⟨h.1, h.2.1, h.2.2.1, h.2.2.2.1, AR_cR h.2.2.2.2 h.2.1 hR⟩
theorem A2_c (h : A2 mc k R) (h0 : mc' c = mc k) (h1 : mc' (c + 1) = mc (k + 1)) (h2 : mc' (c + 2) = mc (k + 2)) (hR : ∀ i, i < 39 → R' i = R i) : A2 mc' c R' := by
  obtain ⟨n, e, hx⟩ := h
  refine ⟨n, by rw [h0]; exact e, ?_⟩
  rw [h1, h2]
  exact AX_cR hx hR
theorem alF_AI (h : AI F) : alF F := fun a b c h1 h2 h3 => sg6_same h.2.1 (by omega) (by omega) h3 (by omega)
theorem NI_AX (h0 : mc 1 0 = nI n) (h : AX n (mc 2) (mc 3) R) : NI mc n := ⟨h0, h.1, h.2.1, h.2.2.1.1, alF_AI h.2.2.1, h.2.2.1.2.2.1, h.2.2.2.1⟩
theorem AX_zA (h : AX n (mc 2) (mc 3) R) : zA mc 1 := ⟨h.2.2.1.2.2.1, h.2.2.2.1⟩
theorem A2_zA (h : A2 mc k R) : zA mc k := by
  obtain ⟨n, e, hx⟩ := h
  exact ⟨hx.2.2.1.2.2.1, hx.2.2.2.1⟩
theorem zA_c (h : zA mc k) (h1 : mc' (k + 1) = mc (k + 1)) (h2 : mc' (k + 2) = mc (k + 2)) : zA mc' k := by
  unfold zA
  rw [h1, h2]
  exact h
theorem AX_sn (h : AX n F G R) : isSn n R := fun a b c ha hb hc => AR_mS h.2.2.2.2 h.2.2.1 h.2.1 ha hb hc
theorem AX_M (h : AX n F G R) : isM n R := ⟨AX_sn h, cir_30 h.2.1⟩
theorem FI_fg (h6 : zaF (mc 66) 216) (h7 : zaF (mc 67) 18) : FI (fgH mc) qc n F := by
  have e43 : fgH mc 43 = upd (upd (upd (upd (mc 43) 5 (nI 0)) 7 (nI 0)) 8 (-1)) 9 (-1) := by unfold fgH; rw [mu_ne (by decide), mu_same]
  have e49 : fgH mc 49 = upd (upd (upd (upd (mc 49) 0 (nI 0)) 1 (nI 0)) 2 (nI 0)) 3 (nI 0) := by unfold fgH; rw [mu_same]
  refine ⟨Or.inl ?_, Or.inl ?_, Or.inl ?_, Or.inl ?_, fun i hi => Or.inl ?_, ?_, ?_⟩
  · rw [e43]; simp [upd]
  · rw [e43]; simp [upd]
  · rw [e43]; simp [upd]
  · rw [e43]; simp [upd]
  · rw [e49]
    match i, hi with
    | 0, _ => simp [upd]
    | 1, _ => simp [upd]
    | 2, _ => simp [upd]
    | 3, _ => simp [upd]
  · rw [fgH_ne (by decide) (by decide)]; exact h6
  · rw [fgH_ne (by decide) (by decide)]; exact h7
theorem FI_c (h : FI mc qc n F) (hf : ∀ c, 43 ≤ c → c ≤ 67 → mc' c = mc c) : FI mc' qc n F := by
  obtain ⟨f1, f2, f3, f4, f5, f6, f7⟩ := h
  refine ⟨?_, ?_, ?_, ?_, VI_fr f5 fun c h1 h2 => hf c (by omega) (by omega), ?_, ?_⟩
  · rw [hf 43 (by decide) (by decide)]; exact f1
  · rw [hf 43 (by decide) (by decide), hf 62 (by decide) (by decide)]; exact f2
  · rw [hf 43 (by decide) (by decide)]; exact f3
  · rw [hf 43 (by decide) (by decide)]; exact f4
  · rw [hf 66 (by decide) (by decide)]; exact f6
  · rw [hf 67 (by decide) (by decide)]; exact f7
/-- what a deed, an undoing, a keeping leaves of the rest -/
theorem HH_c (h : HH mc mm x s) (hc : ∀ c, 7 ≤ c → c ≤ 32 → mc' c = mc c) (h0 : mm' 0 1 = mm 0 1) (h1 : ∀ i, 39 ≤ i → i < 351 → mm' 1 i = mm 1 i) : HH mc' mm' x s := by
  obtain ⟨a1, a2, a3, a4, a5, a6, a7⟩ := h
  refine ⟨a1, a2, by rw [hc 7 (by decide) (by decide)]; exact a3, by rw [hc 7 (by decide) (by decide)]; exact a4, h0.trans a5, fun y hy => zA_c (a6 y hy) (hc _ (by omega) (by omega)) (hc _ (by omega) (by omega)), fun j hj => ?_⟩
  have hm : (x + 7 - j) % 8 < 8 := Nat.mod_lt _ (by decide)
  exact A2_c (a7 j hj) (hc _ (by omega) (by omega)) (hc _ (by omega) (by omega)) (hc _ (by omega) (by omega)) fun i hi => h1 _ (by omega) (by omega)
theorem KK_c (h : KK mc mm) (hc : ∀ c, 34 ≤ c → c ≤ 40 → mc' c = mc c) (h2 : mm' 2 = mm 2) (h1 : ∀ i, 351 ≤ i → mm' 1 i = mm 1 i) : KK mc' mm' := fun k hk => by
  obtain ⟨a1, t, a2, a3, a4⟩ := h k hk
  refine ⟨zA_c a1 (hc _ (by omega) (by omega)) (hc _ (by omega) (by omega)), t, by rw [hc 34 (by decide) (by decide)]; exact a2, by rw [h2]; exact a3, fun ht => ?_⟩
  exact A2_c (a4 ht) (hc _ (by omega) (by omega)) (hc _ (by omega) (by omega)) (hc _ (by omega) (by omega)) fun i hi => h1 _ (by omega)
theorem TT_c (h : TT mc mm) (h5 : mc' 5 = mc 5) (h6 : mc' 6 = mc 6) (h41 : mc' 41 1 = mc 41 1) (h42 : mc' 42 = mc 42) (h0 : mm' 0 4 = mm 0 4) (h3 : mm' 3 = mm 3) : TT mc' mm' := by
  obtain ⟨a1, f, L, a2, a3⟩ := h
  refine ⟨zA_c a1 h5 h6, f, L, ?_, ?_⟩
  · unfold Ltr
    rw [h41, h42]
    exact a2
  · unfold LtM
    rw [h0, h3]
    exact a3
theorem XX_c (h : XX mc mm) (hc : ∀ c, 69 ≤ c → c ≤ 77 → mc' c = mc c) (h4 : mm' 4 = mm 4) (h5 : mm' 5 = mm 5) (h6 : mm' 6 = mm 6) (h7 : mm' 7 = mm 7) : XX mc' mm' := by
  obtain ⟨B, C, a1, a2, a3⟩ := h
  exact ⟨B, C, BS_fr a1 hc, BM_fr a2 h4 h5 h6 h7, a3⟩
/-- a call that leaves the arrangements -/
theorem JJ_g (h : JJ mc qc mm) (a1 : mc 1 0 = nI n) (a2 : AX n (mc 2) (mc 3) (mm 1)) (hf : fr (fC ++ bC) mc mc') (hF : FI mc' qc' n (mc 2)) (hX : XX mc' mm') (h0 : mm' 0 1 = mm 0 1) (h04 : mm' 0 4 = mm 0 4) (m1 : mm' 1 = mm 1) (m2 : mm' 2 = mm 2) (m3 : mm' 3 = mm 3) : JJ mc' qc' mm' := by
  obtain ⟨_, ⟨x, s, b⟩, c, t, w⟩ := h
  have k : ∀ c, c ≤ 42 → mc' c = mc c := fun c hc => hf c (by simp only [fC, bC, List.cons_append, List.nil_append, List.mem_cons, List.not_mem_nil, or_false]; omega)
  exact ⟨⟨n, by rw [k 1 (by decide)]; exact a1, by rw [k 2 (by decide), k 3 (by decide), m1]; exact a2, by rw [k 2 (by decide)]; exact hF⟩, ⟨x, s, HH_c b (fun c h1 h2 => k c (by omega)) h0 fun i _ _ => by rw [m1]⟩, KK_c c (fun c h1 h2 => k c (by omega)) m2 fun i _ => by rw [m1], TT_c t (k 5 (by decide)) (k 6 (by decide)) (by rw [k 41 (by decide)]) (k 42 (by decide)) h04 m3, hX⟩
/-- a call that asks alone -/
theorem JJ_q (h : JJ mc qc mm) (a1 : mc 1 0 = nI n) (a2 : AX n (mc 2) (mc 3) (mm 1)) (hf : fr fC mc mc') (hF : FI mc' qc' n (mc 2)) (h0 : mm' 0 1 = mm 0 1) (h04 : mm' 0 4 = mm 0 4) (hm : ∀ c, 1 ≤ c → c ≤ 7 → mm' c = mm c) : JJ mc' qc' mm' := JJ_g h a1 a2 (fr_wk hf fun c hc => List.mem_append_left _ hc) hF (XX_c h.2.2.2.2 (fun c h1 h2 => hf c (by simp only [fC, List.mem_cons, List.not_mem_nil, or_false]; omega)) (hm 4 (by decide) (by decide)) (hm 5 (by decide) (by decide)) (hm 6 (by decide) (by decide)) (hm 7 (by decide) (by decide))) h0 h04 (hm 1 (by decide) (by decide)) (hm 2 (by decide) (by decide)) (hm 3 (by decide) (by decide))
/-- a call's two runs, alike -/
def STp (jc jm : Nat) (vc vm : List Value) (mc : Mem) (qc : MemJ) (mm : Mem) (qm : MemJ) : Prop := ∃ a mc' qc' mm', ev 100 jc 0 vc [] (mk shC mc qc) = some (some (.int a), mk shC mc' qc') ∧ ev 100 jm 0 vm [] (mk shM mm qm) = some (some (.int a), mk shM mm' qm) ∧ JJ mc' qc' mm'
theorem STp_i {jc jm : Nat} {vc vm : List Value} {qm : MemJ} {a b : Int32} (e1 : ev 100 jc 0 vc [] (mk shC mc qc) = some (some (.int a), mk shC mc' qc')) (e2 : ev 100 jm 0 vm [] (mk shM mm qm) = some (some (.int b), mk shM mm' qm)) (hab : a = b) (hJ : JJ mc' qc' mm') : STp jc jm vc vm mc qc mm qm := ⟨a, mc', qc', mm', e1, by rw [hab]; exact e2, hJ⟩
/-- behind a deed -/
theorem JJ_d (h : JJ mc qc mm) (hH : HH mc mm x s) (hc : ∀ c, c ≠ 1 → c ≠ 2 → c ≠ 3 → mc' c = bdH mc x s c) {n' : Nat} (h1 : mc' 1 0 = nI n') (hA : AX n' (mc' 2) (mc' 3) (mm' 1)) (hR : ∀ i, 39 ≤ i → mm' 1 i = ntR (mm 1) s i) (h0 : mm' 0 1 = nI (ntU s + 1)) (h04 : mm' 0 4 = mm 0 4) (hm : ∀ c, 2 ≤ c → c ≤ 7 → mm' c = mm c) : JJ mc' qc mm' := by
  obtain ⟨⟨n, a1, a2, a3⟩, _, c, t, w⟩ := h
  obtain ⟨b1, b2, b3, b4, b5, b6, b7⟩ := hH
  have k : ∀ c, 4 ≤ c → c ≠ 7 → (c < 9 + 3 * x ∨ 11 + 3 * x < c) → c ≠ 43 → c ≠ 49 → mc' c = mc c := fun c h4 h7 h9 h43 h49 => by
    rw [hc c (by omega) (by omega) (by omega), bdH_ne h7 h9 h43 h49]
  have k7 : mc' 7 = upd (upd (mc 7) 1 (nI (if x + 1 < 8 then x + 1 else 0))) 2 (nI (if s < 8 then s + 1 else 8)) := by
    rw [hc 7 (by decide) (by decide) (by decide)]
    unfold bdH
    rw [fgH_ne (by decide) (by decide)]
    unfold rmH
    rw [mu_same]
  have kx : mc' (9 + 3 * x) = upd (mc (9 + 3 * x)) 0 (mc 1 0) ∧ mc' (9 + 3 * x + 1) = mc 2 ∧ mc' (9 + 3 * x + 2) = mc 3 := by
    refine ⟨?_, ?_, ?_⟩
    · rw [hc _ (by omega) (by omega) (by omega)]
      unfold bdH
      rw [fgH_ne (by omega) (by omega)]
      unfold rmH cpE
      rw [mu_ne (by omega), mu_ne (by omega), mu_ne (by omega), mu_same]
    · rw [hc _ (by omega) (by omega) (by omega)]
      unfold bdH
      rw [fgH_ne (by omega) (by omega)]
      unfold rmH cpE
      rw [mu_ne (by omega), mu_ne (by omega), mu_same]
    · rw [hc _ (by omega) (by omega) (by omega)]
      unfold bdH
      rw [fgH_ne (by omega) (by omega)]
      unfold rmH cpE
      rw [mu_ne (by omega), mu_same]
  have nt : ∀ i, 39 ≤ i → mm' 1 i = if 39 + 39 * ntU s ≤ i ∧ i < 39 + 39 * ntU s + 39 then mm 1 (i - (39 + 39 * ntU s)) else if s = 8 ∧ i < 312 then mm 1 (i + 39) else mm 1 i := fun i hi => by
    rw [hR i hi]
    unfold ntR
    rw [cyM_at (by omega)]
    by_cases h8 : s = 8
    · rw [if_pos h8, shR_at, shR_at]
      by_cases hh : 39 + 39 * ntU s ≤ i ∧ i < 39 + 39 * ntU s + 39
      · rw [if_pos hh, if_pos hh, if_neg (by omega), Nat.zero_add]
      · rw [if_neg hh, if_neg hh]
        by_cases h3 : i < 312
        · rw [if_pos ⟨hi, h3⟩, if_pos ⟨h8, h3⟩]
        · rw [if_neg (fun h => h3 h.2), if_neg (fun h => h3 h.2)]
    · rw [if_neg h8]
      by_cases hh : 39 + 39 * ntU s ≤ i ∧ i < 39 + 39 * ntU s + 39
      · rw [if_pos hh, if_pos hh, Nat.zero_add]
      · rw [if_neg hh, if_neg hh, if_neg (fun h => h8 h.1)]
  have hu : ntU s + 1 = if s < 8 then s + 1 else 8 := by
    unfold ntU
    split <;> split <;> omega
  have hu7 : ntU s ≤ 7 := by unfold ntU; split <;> omega
  have hus : ntU s = if s < 8 then s else 7 := by
    unfold ntU
    split <;> split <;> omega
  obtain ⟨x', hx'⟩ : ∃ x', x' = if x + 1 < 8 then x + 1 else 0 := ⟨_, rfl⟩
  obtain ⟨s', hs'⟩ : ∃ s', s' = if s < 8 then s + 1 else 8 := ⟨_, rfl⟩
  rw [← hx', ← hs'] at k7
  refine ⟨⟨n', h1, hA, ?_⟩, ⟨x', s', ?_, ?_, ?_, ?_, ?_, fun y hy => ?_, fun j hj => ?_⟩, KK_c c (fun c h1 h2 => k c (by omega) (by omega) (by omega) (by omega) (by omega)) (hm 2 (by decide) (by decide)) fun i hi => ?_, TT_c t (k 5 (by decide) (by decide) (by omega) (by decide) (by decide)) (k 6 (by decide) (by decide) (by omega) (by decide) (by decide)) (by rw [k 41 (by decide) (by decide) (by omega) (by decide) (by decide)]) (k 42 (by decide) (by decide) (by omega) (by decide) (by decide)) h04 (hm 3 (by decide) (by decide)), XX_c w (fun c h1 h2 => k c (by omega) (by omega) (by omega) (by omega) (by omega)) (hm 4 (by decide) (by decide)) (hm 5 (by decide) (by decide)) (hm 6 (by decide) (by decide)) (hm 7 (by decide) (by decide))⟩
  · refine FI_c (FI_fg (mc := rmH mc x s) ?_ ?_) fun c h1 h2 => hc c (by omega) (by omega) (by omega)
    · rw [rmH_ne (by decide) (by omega)]; exact a3.2.2.2.2.2.1
    · rw [rmH_ne (by decide) (by omega)]; exact a3.2.2.2.2.2.2
  · rw [hx']; split <;> omega
  · rw [hs']; split <;> omega
  · rw [k7]; simp [upd]
  · rw [k7]; simp [upd]
  · rw [h0, hu, hs']
  · by_cases hyx : y = x
    · subst hyx
      unfold zA
      rw [kx.2.1, kx.2.2]
      exact AX_zA a2
    · exact zA_c (b6 y hy) (k _ (by omega) (by omega) (by omega) (by omega) (by omega)) (k _ (by omega) (by omega) (by omega) (by omega) (by omega))
  · have hs1 : 1 ≤ s' ∧ s' ≤ 8 := by rw [hs']; split <;> omega
    match j, hj with
    | 0, hj =>
      have e : (x' + 7 - 0) % 8 = x := by rw [hx']; split <;> omega
      rw [e]
      refine ⟨n, by rw [kx.1]; simp [upd, a1], ?_⟩
      rw [kx.2.1, kx.2.2]
      refine AX_cR a2 fun i hi => ?_
      unfold rwM
      have : s' - 1 - 0 = ntU s := by omega
      rw [this, nt _ (by omega), if_pos (by omega)]
      congr 1
      omega
    | j + 1, hj =>
      have hjs : j < s := by rw [hs'] at hj; split at hj <;> omega
      have e : (x' + 7 - (j + 1)) % 8 = (x + 7 - j) % 8 := by rw [hx']; split <;> omega
      have hne : (x + 7 - j) % 8 ≠ x := by omega
      have hm8 : (x + 7 - j) % 8 < 8 := Nat.mod_lt _ (by decide)
      rw [e]
      generalize hz : (x + 7 - j) % 8 = z at hne hm8
      have b7 := b7 j hjs
      rw [hz] at b7
      refine A2_c b7 (k _ (by omega) (by omega) (by omega) (by omega) (by omega)) (k _ (by omega) (by omega) (by omega) (by omega) (by omega)) (k _ (by omega) (by omega) (by omega) (by omega) (by omega)) fun i hi => ?_
      unfold rwM
      by_cases h8 : s < 8
      · rw [if_pos h8] at hs' hus
        rw [nt _ (by omega), if_neg (by omega), if_neg (by omega)]
        congr 1
        omega
      · rw [if_neg h8] at hs' hus
        rw [nt _ (by omega), if_neg (by omega), if_pos ⟨by omega, by omega⟩]
        congr 1
        omega
  · rw [nt i (by omega), if_neg (by omega), if_neg (by omega)]
end
