/-! boxes alike -/
/-- a box of the class and of the model -/
def BB1 (r s : BR) : Prop := r.1 = s.1 ∧ (s.1 = false → r.2.2.1 = 0) ∧ (s.1 = true → r.2.1 = s.2.1 ∧ r.2.2.1 = s.2.2.1 ∧ s.2.2.1 ≤ 6 ∧ ∀ i, i < 6 → r.2.2.2.2 i = s.2.2.2.2 i ∧ (s.2.2.2.2 i ≠ 0 → s.2.2.2.2 i ≤ 6 ∧ s.2.2.2.1 i < 3 ^ s.2.2.2.2 i ∧ r.2.2.2.1 i = kK (s.2.2.2.2 i) (s.2.2.2.1 i)))
def BB (B C : Nat → BR) : Prop := ∀ b, b < 3 → BB1 (B b) (C b)
section
variable {a b c d e n k f i j t u L s : Nat} {F G R : Nat → Int32} {P : Nat → Bool} {x y z w v : Int32} {B C : Nat → BR} {r q : BR}
theorem nft : ¬ false = true := by decide
theorem BB_u (h : BB B C) (hr : BB1 r q) : BB (uB B b r) (uB C b q) := fun c hc => by
  unfold uB
  by_cases e : c = b
  · rw [if_pos e, if_pos e]; exact hr
  · rw [if_neg e, if_neg e]; exact h c hc
/-- the refusals -/
theorem rf_fd (hb : b < 3) : rfA B (nI b) y = if fdA (B b) y = nI 0 then (if (B b).2.2.2.2 (eN y) = 0 then -1015 else 0) else fdA (B b) y := by
  unfold rfA fdA
  rw [elB_nI (by decide) hb, if_pos rfl, eN_nI (by omega)]
  cases (B b).1 with
  | false => rw [if_neg nft, if_neg nft, if_neg (show ¬ (-1011 : Int32) = nI 0 by decide)]
  | true =>
    rw [if_pos rfl, if_pos rfl]
    cases elB (B b).2.2.1 y with
    | false => rw [if_neg nft, if_neg nft, if_neg (show ¬ (-1013 : Int32) = nI 0 by decide)]
    | true => rw [if_pos rfl, if_pos rfl, if_pos rfl]
theorem fd_eq (h : BB1 r q) : fdA r y = fdA q y := by
  unfold fdA
  rw [h.1]
  cases hq : q.1 with
  | false => rw [if_neg nft, if_neg nft]
  | true => rw [(h.2.2 hq).2.1]
theorem fd_0 (h : fdA q y = nI 0) (h6 : q.1 = true → q.2.2.1 ≤ 6) : q.1 = true ∧ elB q.2.2.1 y = true ∧ eN y < q.2.2.1 ∧ eN y < 6 ∧ y = nI (eN y) := by
  unfold fdA at h
  cases hq : q.1 with
  | false => rw [hq, if_neg nft] at h; exact absurd h (by decide)
  | true =>
    rw [hq, if_pos rfl] at h
    cases he : elB q.2.2.1 y with
    | false => rw [he, if_neg nft] at h; exact absurd h (by decide)
    | true =>
      have := h6 hq
      have k := elB_t (by omega) he
      exact ⟨rfl, rfl, k.1, by omega, k.2⟩
theorem BB_6 (h : BB1 r q) : q.1 = true → q.2.2.1 ≤ 6 := fun hq => (h.2.2 hq).2.2.1
theorem rf_eq (h : BB B C) : rfA B x y = rfM C x y := by
  unfold rfM
  rcases elB_or 3 x (by decide) with ⟨hx, _⟩ | ⟨b, hb, rfl⟩
  · unfold rfA
    rw [hx, if_neg nft, if_neg nft]
  rw [rf_fd hb, elB_nI (by decide) hb, if_pos rfl, eN_nI (by omega), fd_eq (h b hb)]
  by_cases h0 : fdA (C b) y = nI 0
  · rw [if_pos h0, if_pos h0]
    obtain ⟨k1, k2, k3, k4, k5⟩ := fd_0 h0 (BB_6 (h b hb))
    rw [((h b hb).2.2 k1).2.2.2 _ k4 |>.1]
  · rw [if_neg h0, if_neg h0]
theorem rfM_0 (h : BB B C) (h0 : rfM C x y = 0) : ∃ b i, b < 3 ∧ x = nI b ∧ i < 6 ∧ y = nI i ∧ (C b).1 = true ∧ (C b).2.2.2.2 i ≠ 0 := by
  unfold rfM at h0
  rcases elB_or 3 x (by decide) with ⟨hx, _⟩ | ⟨b, hb, rfl⟩
  · rw [hx, if_neg nft] at h0; exact absurd h0 (by decide)
  rw [elB_nI (by decide) hb, if_pos rfl, eN_nI (by omega)] at h0
  by_cases k0 : fdA (C b) y = nI 0
  · rw [if_pos k0] at h0
    obtain ⟨k1, k2, k3, k4, k5⟩ := fd_0 k0 (BB_6 (h b hb))
    refine ⟨b, eN y, hb, rfl, k4, k5, k1, fun h' => ?_⟩
    rw [if_pos h'] at h0
    exact absurd h0 (by decide)
  · rw [if_neg k0] at h0
    exact absurd h0 k0
theorem bx_ans (h : BB B C) : (bxR B x y z).1 = (bxR C x y z).1 ∧ BB (bxR B x y z).2 (bxR C x y z).2 := by
  unfold bxR
  rcases elB_or 3 x (by decide) with ⟨hx, _⟩ | ⟨b, hb, rfl⟩
  · rw [hx, if_neg nft, if_neg nft]; exact ⟨rfl, h⟩
  rw [elB_nI (by decide) hb, if_pos rfl, if_pos rfl, eN_nI (by omega)]
  cases hc : elB 2 y && !decide (nI 6 < z) with
  | false => rw [if_neg nft, if_neg nft]; exact ⟨rfl, h⟩
  | true =>
    rw [if_pos rfl, if_pos rfl]
    by_cases hz : z < 0
    · rw [if_pos hz, if_pos hz]; exact ⟨rfl, h⟩
    · rw [if_neg hz, if_neg hz]
      refine ⟨rfl, BB_u h ⟨rfl, fun h => (by cases h), fun _ => ⟨rfl, rfl, ?_, fun i _ => ⟨rfl, fun h => absurd rfl h⟩⟩⟩⟩
      rw [Bool.and_eq_true_iff, Bool.not_eq_true', decide_eq_false_iff_not] at hc
      have h7 : elB 7 z = true := by
        unfold elB
        rw [decide_eq_false hz, Bool.not_false, Bool.true_and]
        have : z < nI 7 := by
          have := hc.2
          rw [Int32.lt_iff_toInt_lt] at this hz ⊢
          have e6 : (nI 6).toInt = 6 := by decide
          have e7 : (nI 7).toInt = 7 := by decide
          omega
        exact decide_eq_true this
      have := (elB_t (by decide) h7).1
      show eN z ≤ 6
      omega
theorem sn_ans (h : BB B C) : snA B x y z = snM C x y z := by
  unfold snA snM
  rw [rf_eq h]
  by_cases h0 : rfM C x y = 0
  · rw [if_pos h0, if_pos h0]
    obtain ⟨b, i, hb, rfl, hi, rfl, k1, k2⟩ := rfM_0 h h0
    rw [eN_nI (show b < 1000 by omega), eN_nI (show i < 1000 by omega)]
    obtain ⟨g1, g2⟩ := ((h b hb).2.2 k1).2.2.2 i hi
    obtain ⟨g3, g4, g5⟩ := g2 k2
    rw [g1, g5]
    cases he : elB ((C b).2.2.2.2 i) z with
    | false => rw [if_neg nft, if_neg nft]
    | true =>
      rw [if_pos rfl, if_pos rfl, kyA_k (elB_t (by omega) he).1]
  · rw [if_neg h0, if_neg h0]
theorem bxM_ld (h : BB1 r q) : bxM r = ldM q := by
  unfold ldM
  cases hq : q.1 with
  | false =>
    rw [if_neg nft]
    unfold bxM
    rw [h.2.1 hq]
    rfl
  | true =>
    obtain ⟨_, h2, h3, h4⟩ := h.2.2 hq
    rw [if_pos rfl]
    have e1 : bxM r = cF q.2.2.1 fun i => !decide (q.2.2.2.2 i = 0) := by
      unfold bxM cF
      rw [h2]
      refine fold_rel2 (R := fun (x y : Nat) => x = y) (fun i hi x y hxy => ?_) rfl
      have hi := (rg_mem.mp hi).2
      rw [hxy, (h4 i (by omega)).1]
      dsimp only
      by_cases k : q.2.2.2.2 i = 0
      · simp [k]
      · simp [k]
    have e2 : (rg 0 6).foldl (fun x i => if i < q.2.2.1 ∧ q.2.2.2.2 i ≠ 0 then x + 1 else x) 0 = cF 6 fun i => decide (i < q.2.2.1) && !decide (q.2.2.2.2 i = 0) := by
      unfold cF
      refine fold_rel2 (R := fun (x y : Nat) => x = y) (fun i _ x y hxy => ?_) rfl
      rw [hxy]
      dsimp only
      by_cases k1 : i < q.2.2.1
      · by_cases k : q.2.2.2.2 i = 0
        · simp [k]
        · simp [k1, k]
      · simp [k1]
    rw [e1, e2, show 6 = q.2.2.1 + (6 - q.2.2.1) by omega, cF_x fun k hk => by rw [decide_eq_false (by omega), Bool.false_and]]
    exact cF_c fun k hk => by rw [decide_eq_true hk, Bool.true_and]
theorem aw_ans (h : BB B C) : (awR B x).1 = (awM C x).1 ∧ BB (awR B x).2 (awM C x).2 := by
  unfold awR awM
  rcases elB_or 3 x (by decide) with ⟨hx, _⟩ | ⟨b, hb, rfl⟩
  · rw [hx, if_neg nft, if_neg nft]; exact ⟨rfl, h⟩
  rw [elB_nI (by decide) hb, if_pos rfl, if_pos rfl, eN_nI (by omega), (h b hb).1]
  cases hq : (C b).1 with
  | false => rw [if_neg nft, if_neg nft]; exact ⟨rfl, h⟩
  | true =>
    rw [if_pos rfl, if_pos rfl, bxM_ld (h b hb)]
    exact ⟨rfl, BB_u h ⟨rfl, fun _ => rfl, fun h => (by cases h)⟩⟩
theorem co_ans (h : AR n F G R) (hF : AI F) (hn : n ≤ 6) (hB : BB B C) : coA n F B s L k = coM n R C s L k := by
  match k with
  | 0 => rfl
  | 1 => rfl
  | 2 => exact bs_eq h hF hn
  | 3 => exact bd_eq h hF hn
  | 4 => exact congrArg nI (lo_eq h hF hn)
  | 5 => exact pa_eq h hF hn
  | 6 => rfl
  | 7 => rfl
  | k + 8 =>
    show nI (bxM (B 0) + bxM (B 1) + bxM (B 2)) = nI (ldM (C 0) + ldM (C 1) + ldM (C 2))
    rw [bxM_ld (hB 0 (by decide)), bxM_ld (hB 1 (by decide)), bxM_ld (hB 2 (by decide))]
theorem idx_ne {a b : Nat} {l : List Nat} (h : a ≠ b) : (a :: l).idxOf b = l.idxOf b + 1 := by
  rw [List.idxOf_cons, beq_false_of_ne h]
  rfl
theorem idx_d {c : Nat} : ∀ {N : Nat}, c < N → P c = true → (mlD N P).idxOf c = ((rg (c + 1) N).filter P).length
  | 0, h, _ => absurd h (Nat.not_lt_zero c)
  | N + 1, h, hP => by
    have e : mlD (N + 1) P = if P N = true then N :: mlD N P else mlD N P := by
      show List.filter P (N :: dsc N) = _
      rw [List.filter_cons]
      rfl
    by_cases hc : c = N
    · subst hc
      rw [e, if_pos hP, List.idxOf_cons_self, rg_nil (Nat.le_refl _)]
      rfl
    · have ih := idx_d (N := N) (show c < N by omega) hP
      rw [e, rg_sn (show c + 1 ≤ N by omega), List.filter_append, List.length_append, List.filter_cons, List.filter_nil]
      cases hN : P N with
      | true => rw [if_pos rfl, if_pos rfl, idx_ne (fun h => hc h.symm), ih]; rfl
      | false => rw [if_neg nft, if_neg nft, ih]; rfl
theorem idx_m {c : Nat} : ∀ {l : List Nat}, (∀ d ∈ l, d < 3 ^ n) → c < 3 ^ n → (l.map (kK n)).idxOf (kK n c) = l.idxOf c
  | [], _, _ => rfl
  | d :: l, h, hc => by
    rw [List.map_cons]
    by_cases e : d = c
    · rw [e, List.idxOf_cons_self, List.idxOf_cons_self]
    · rw [idx_ne (fun h' => e (kK_inj (h d List.mem_cons_self) hc h')), idx_ne e, idx_m (fun d hd => h d (List.mem_cons_of_mem _ hd)) hc]
theorem fi_ans (h : AR n F G R) (hF : AI F) (hn : n ≤ 6) (hB : BB B C) : fiA n F B x y z = fiM n R C x y z := by
  unfold fiA fiM
  rcases elB_or 3 x (by decide) with ⟨hx, _⟩ | ⟨b, hb, rfl⟩
  · rw [hx, if_neg nft, if_neg nft]
  rw [elB_nI (by decide) hb, if_pos rfl, if_pos rfl]
  rcases elB_or 4 z (by decide) with ⟨hz, _⟩ | ⟨k, hk, rfl⟩
  · rw [hz, if_neg nft, if_neg nft]
  rw [elB_nI (by decide) hk, if_pos rfl, if_pos rfl, eN_nI (show k < 1000 by omega), eN_nI (show b < 1000 by omega)]
  have hc : canB n F k = !(decide (1 < k) && !orM n R) := by
    unfold canB
    rw [or_eq h hF hn]
    by_cases h1 : 1 < k
    · rw [decide_eq_true h1, decide_eq_false (show ¬ k < 2 by omega), Bool.true_and, Bool.not_not, Bool.false_or]
    · rw [decide_eq_false h1, decide_eq_true (show k < 2 by omega)]; rfl
  rw [hc]
  cases hbb : decide (1 < k) && !orM n R with
  | true => rw [if_neg (show ¬ (!true) = true by decide), if_pos rfl]
  | false =>
    rw [if_pos (show (!false) = true from rfl), if_neg nft]
    have ho : k < 2 ∨ orM n R = true := by
      by_cases h1 : 1 < k
      · rw [decide_eq_true h1, Bool.true_and] at hbb
        exact Or.inr (by simpa using hbb)
      · exact Or.inl (by omega)
    rw [rf_eq hB, vk_eq h hF hn hk ho]
    by_cases h0 : rfM C (nI b) y = 0
    · rw [if_pos h0, if_pos h0]
      obtain ⟨b', i, hb', e, hi, rfl, k1, k2⟩ := rfM_0 hB h0
      obtain rfl : b = b' := nI_ii (by omega) (by omega) e
      rw [eN_nI (show i < 1000 by omega)]
      obtain ⟨g1, g2⟩ := ((hB b hb).2.2 k1).2.2.2 i hi
      obtain ⟨g3, g4, g5⟩ := g2 k2
      rw [g1, g5]
      by_cases hnn : (C b).2.2.2.2 i = n
      · rw [if_pos hnn]
        rw [hnn] at g4 ⊢
        have hm : kK n ((C b).2.2.2.1 i) ∈ (mlD (3 ^ n) (kiP n R k)).map (kK n) ↔ kiP n R k ((C b).2.2.2.1 i) = true := by
          rw [List.mem_map]
          constructor
          · rintro ⟨c, hc, e⟩
            have hc := mlD_mem.mp hc
            rw [← kK_inj hc.1 g4 e]
            exact hc.2
          · exact fun hP => ⟨_, mlD_mem.mpr ⟨g4, hP⟩, rfl⟩
        by_cases hP : kiP n R k ((C b).2.2.2.1 i) = true
        · rw [if_pos (hm.mpr hP), if_pos ⟨rfl, hP⟩, idx_m (fun d hd => (mlD_mem.mp hd).1) g4, idx_d g4 hP]
        · rw [if_neg (fun h => hP (hm.mp h)), if_neg (fun h => hP h.2)]
      · rw [if_neg hnn, if_neg (fun h => hnn h.1)]
    · rw [if_neg h0, if_neg h0]
theorem ly_ans (h : AR n F G R) (hF : AI F) (h1 : 1 ≤ n) (hn : n ≤ 6) (hB : BB B C) : (lyR n F B x y z w).1 = (lyM n R C x y z w).1 ∧ BB (lyR n F B x y z w).2 (lyM n R C x y z w).2 := by
  have hp := p3_le n hn
  unfold lyR lyM
  rcases elB_or 4 z (by decide) with ⟨hz, _⟩ | ⟨k, hk, rfl⟩
  · rw [hz, if_neg nft, if_neg nft]; exact ⟨rfl, hB⟩
  rw [elB_nI (by decide) hk, if_pos rfl, if_pos rfl, eN_nI (show k < 1000 by omega)]
  have hc : canB n F k = !(decide (1 < k) && !orM n R) := by
    unfold canB
    rw [or_eq h hF hn]
    by_cases h1 : 1 < k
    · rw [decide_eq_true h1, decide_eq_false (show ¬ k < 2 by omega), Bool.true_and, Bool.not_not, Bool.false_or]
    · rw [decide_eq_false h1, decide_eq_true (show k < 2 by omega)]; rfl
  rw [hc]
  cases hbb : decide (1 < k) && !orM n R with
  | true => rw [if_neg (show ¬ (!true) = true by decide), if_pos rfl]; exact ⟨rfl, hB⟩
  | false =>
    rw [if_pos (show (!false) = true from rfl), if_neg nft]
    have ho : k < 2 ∨ orM n R = true := by
      by_cases h1 : 1 < k
      · rw [decide_eq_true h1, Bool.true_and] at hbb
        exact Or.inr (by simpa using hbb)
      · exact Or.inl (by omega)
    rw [vk_eq h hF hn hk ho, List.length_map]
    have hl : (mlD (3 ^ n) (kiP n R k)).length < 1000 := by
      have := @mlD_len (3 ^ n) (kiP n R k)
      omega
    have hmem : ∀ {c}, c ∈ mlD (3 ^ n) (kiP n R k) → c < 3 ^ n := fun hc => (mlD_mem.mp hc).1
    generalize mlD (3 ^ n) (kiP n R k) = T at hl hmem
    rcases elB_or 3 x (by decide) with ⟨hx, _⟩ | ⟨b, hb, rfl⟩
    · rw [hx, Bool.and_false, if_neg nft, if_neg nft]; exact ⟨rfl, hB⟩
    rcases elB_or T.length w hl with ⟨hw, _⟩ | ⟨t, ht, rfl⟩
    · rw [hw, Bool.false_and, if_neg nft, if_neg nft]; exact ⟨rfl, hB⟩
    have htm : T.getD t 0 < 3 ^ n := hmem (by
      rw [List.getD_eq_getElem?_getD, List.getElem?_eq_getElem ht]
      exact List.getElem_mem ht)
    rw [elB_nI (by decide) hb, elB_nI hl ht, if_pos (show (true && true) = true from rfl), if_pos (show (true && true) = true from rfl), eN_nI (show b < 1000 by omega), eN_nI (show t < 1000 by omega), getD_map ht, zrK_k hn htm]
    have hBb := hB b hb
    have hfd : fdA (C b) y = if (B b).1 = true then (if elB (B b).2.2.1 y = true then nI 0 else -1013) else -1011 := (fd_eq hBb).symm
    rw [hfd]
    cases hq : (B b).1 with
    | false => rw [if_neg nft, if_neg nft, if_neg (show ¬ (-1011 : Int32) = nI 0 by decide)]; exact ⟨rfl, hB⟩
    | true =>
      have hCb : (C b).1 = true := hBb.1 ▸ hq
      obtain ⟨g1, g2, g3, g4⟩ := hBb.2.2 hCb
      rw [if_pos rfl, if_pos rfl]
      cases he : elB (B b).2.2.1 y with
      | false => rw [if_neg nft, if_neg nft, if_neg (show ¬ (-1013 : Int32) = nI 0 by decide)]; exact ⟨rfl, hB⟩
      | true =>
        rw [if_pos rfl, if_pos rfl, if_pos rfl, g1]
        have hcond : (!(C b).2.1 || decide (zrN n (T.getD t 0) = 0)) = !((C b).2.1 && decide (0 < zrN n (T.getD t 0))) := by
          cases (C b).2.1 with
          | false => rfl
          | true =>
            rw [Bool.not_true, Bool.false_or, Bool.true_and]
            by_cases hz : zrN n (T.getD t 0) = 0
            · rw [decide_eq_true hz, decide_eq_false (by omega)]; rfl
            · rw [decide_eq_false hz, decide_eq_true (by omega)]; rfl
        rw [hcond]
        cases (C b).2.1 && decide (0 < zrN n (T.getD t 0)) with
        | true => rw [if_neg (show ¬ (!true) = true by decide), if_pos rfl]; exact ⟨rfl, hB⟩
        | false =>
          rw [if_pos (show (!false) = true from rfl), if_neg nft]
          refine ⟨rfl, BB_u hB ⟨hCb.symm, fun h => (by rw [hCb] at h; cases h), fun _ => ⟨rfl, g2, g3, fun i hi => ?_⟩⟩⟩
          unfold uN
          dsimp only
          by_cases hi2 : i = eN y
          · rw [if_pos hi2, if_pos hi2, if_pos hi2, if_pos hi2]
            exact ⟨rfl, fun _ => ⟨hn, htm, rfl⟩⟩
          · rw [if_neg hi2, if_neg hi2, if_neg hi2, if_neg hi2]
            exact g4 i hi
theorem cm_ans (hB : BB B C) : (cmR B x y z).1 = (cmM C x y z).1 ∧ BB (cmR B x y z).2 (cmM C x y z).2 := by
  unfold cmR cmM
  rcases elB_or 3 x (by decide) with ⟨hx, _⟩ | ⟨b, hb, rfl⟩
  · rw [hx, if_neg nft, if_neg nft]; exact ⟨rfl, hB⟩
  rw [elB_nI (by decide) hb, if_pos rfl, if_pos rfl, eN_nI (show b < 1000 by omega)]
  have hBb := hB b hb
  have hfd : ∀ y, fdA (C b) y = if (B b).1 = true then (if elB (B b).2.2.1 y = true then nI 0 else -1013) else -1011 := fun y => (fd_eq hBb).symm
  rw [hfd y, hfd z]
  cases hq : (B b).1 with
  | false =>
    rw [if_neg nft, if_neg nft, if_neg nft, if_neg (show ¬ ((-1011 : Int32) = nI 0 ∧ (-1011 : Int32) = nI 0) by decide), if_neg (show ¬ (-1011 : Int32) = nI 0 by decide)]
    exact ⟨rfl, hB⟩
  | true =>
    have hCb : (C b).1 = true := hBb.1 ▸ hq
    obtain ⟨g1, g2, g3, g4⟩ := hBb.2.2 hCb
    rw [if_pos (show true = true from rfl), if_pos (show true = true from rfl), if_pos (show true = true from rfl)]
    cases hy : elB (B b).2.2.1 y with
    | false =>
      rw [Bool.false_and, if_neg nft, if_neg nft, if_neg (fun h => absurd h.1 (show ¬ (-1013 : Int32) = nI 0 by decide)), if_neg (show ¬ (-1013 : Int32) = nI 0 by decide)]
      exact ⟨rfl, hB⟩
    | true =>
      cases hz : elB (B b).2.2.1 z with
      | false =>
        rw [Bool.and_false, if_neg nft, if_pos (show true = true from rfl), if_neg nft, if_neg (fun h => absurd h.2 (show ¬ (-1013 : Int32) = nI 0 by decide)), if_pos rfl]
        exact ⟨rfl, hB⟩
      | true =>
        rw [if_pos (show (true && true) = true from rfl), if_pos (show true = true from rfl), if_pos (show (nI 0 = nI 0 ∧ nI 0 = nI 0) from ⟨rfl, rfl⟩)]
        have h6 : (B b).2.2.1 < 1000 := by omega
        have i6 := (elB_t h6 hy).1
        have j6 := (elB_t h6 hz).1
        obtain ⟨a1, a2⟩ := g4 (eN y) (by omega)
        obtain ⟨b1, b2⟩ := g4 (eN z) (by omega)
        rw [a1, b1]
        by_cases h0 : (C b).2.2.2.2 (eN y) = 0 ∨ (C b).2.2.2.2 (eN z) = 0
        · rw [if_pos h0, if_pos h0]; exact ⟨rfl, hB⟩
        · rw [if_neg h0, if_neg h0]
          rw [not_or] at h0
          obtain ⟨a3, a4, a5⟩ := a2 h0.1
          obtain ⟨b3, b4, b5⟩ := b2 h0.2
          by_cases he : (C b).2.2.2.2 (eN y) = (C b).2.2.2.2 (eN z)
          · rw [if_pos he, if_pos he, a5, b5, ← he, cpK_k a3, zrK_k a3 cmC_lt]
            refine ⟨rfl, BB_u hB ⟨hCb.symm, fun h => (by rw [hCb] at h; cases h), fun _ => ⟨g1, g2, g3, fun i hi => ?_⟩⟩⟩
            unfold uN
            dsimp only
            by_cases hi2 : i = eN y
            · rw [if_pos hi2, if_pos hi2, if_pos hi2, hi2]
              exact ⟨rfl, fun _ => ⟨a3, cmC_lt, rfl⟩⟩
            · rw [if_neg hi2, if_neg hi2, if_neg hi2]
              exact g4 i hi
          · rw [if_neg he, if_neg he]; exact ⟨rfl, hB⟩
end
