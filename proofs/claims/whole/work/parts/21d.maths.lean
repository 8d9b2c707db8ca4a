/-! the two reckonings alike: loops, parallels -/
section
variable {a b c d e n k x y z : Nat} {F G R : Nat → Int32}
theorem tb_msk : (msk a b c).testBit e = (decide (a = e) || (decide (b = e) || decide (c = e))) := by
  unfold msk
  rw [Nat.testBit_or, Nat.testBit_or, Nat.testBit_two_pow, Nat.testBit_two_pow, Nat.testBit_two_pow, Bool.or_assoc]
theorem tb_fold {α : Type} {g : α → Nat} : ∀ {l : List α} {x : Nat}, (l.foldl (fun s t => s ||| g t) x).testBit e = (x.testBit e || l.any fun t => (g t).testBit e)
  | [], x => by rw [List.foldl_nil, List.any_nil, Bool.or_false]
  | t :: l, x => by rw [List.foldl_cons, tb_fold, Nat.testBit_or, List.any_cons, Bool.or_assoc]
theorem tb_cov (hn : n ≤ 6) : (covC (gth n F gzZ gzZ)).testBit e = (trip n).any fun t => bT F t && (mT t).testBit e := by
  unfold covC
  rw [tb_fold (g := fun i => bN (gth n F gzZ gzZ).2.1 i), Nat.zero_testBit, Bool.false_or]
  have h := congrArg (fun l => l.any fun s => s.testBit e) (gth_bs (F := F) hn)
  rw [List.any_map, List.any_map, List.any_filter] at h
  exact h
theorem baB_dg (ha : a < 6) (hb : b < 6) (hc : c < 6) (hd : a = b ∨ a = c ∨ b = c) : baB R a b c = false := by
  unfold baB mS
  rw [(tO_0 a ha b hb c hc).mpr hd, Int32.zero_mul]
  rfl
theorem baB_di (ha : a < 6) (hb : b < 6) (hc : c < 6) (h : baB R a b c = true) : ¬ (a = b ∨ a = c ∨ b = c) := fun hd => by
  rw [baB_dg ha hb hc hd] at h
  cases h
theorem msk_c : msk a b c = msk b a c ∧ msk a b c = msk a c b := by
  unfold msk
  exact ⟨by rw [Nat.or_comm (2 ^ a)], by rw [Nat.or_assoc, Nat.or_comm (2 ^ b), Nat.or_assoc]⟩
theorem baB_any (hn : n ≤ 6) (ha : a < n) (hb : b < n) (hc : c < n) (h : baB R a b c = true) : ∃ t ∈ trip n, mT t = msk a b c ∧ baB R t.1 t.2.1 t.2.2 = true := by
  rw [baB_m hn ha hb hc (baB_di (by omega) (by omega) (by omega) h)] at h
  obtain ⟨t, ht, h⟩ := List.any_eq_true.mp h
  obtain ⟨h1, h2⟩ := Bool.and_eq_true_iff.mp h
  exact ⟨t, ht, of_decide_eq_true h1, h2⟩
theorem baB_c (hn : n ≤ 6) (ha : a < n) (hb : b < n) (hc : c < n) (hx : x < n) (hy : y < n) (hz : z < n) (hd : ¬ (a = b ∨ a = c ∨ b = c)) (hdx : ¬ (x = y ∨ x = z ∨ y = z)) (h : msk a b c = msk x y z) : baB R a b c = baB R x y z := by
  rw [baB_m hn ha hb hc hd, baB_m hn hx hy hz hdx, h]
theorem lo_any (h : AR n F G R) (hF : AI F) (hn : n ≤ 6) (he : e < n) : ((trip n).any fun t => bT F t && (mT t).testBit e) = !loT n R e := by
  unfold loT
  rw [List.not_all_eq_any_not]
  refine Bool.eq_iff_iff.mpr ⟨fun h1 => ?_, fun h1 => ?_⟩
  · obtain ⟨t, ht, h2⟩ := List.any_eq_true.mp h1
    obtain ⟨h2, h3⟩ := Bool.and_eq_true_iff.mp h2
    rw [bT_eq h hF hn ht] at h2
    have hm := trip_mem.mp ht
    unfold mT at h3
    rw [tb_msk] at h3
    simp only [Bool.or_eq_true, decide_eq_true_eq] at h3
    rcases h3 with h3 | h3 | h3
    · exact List.any_eq_true.mpr ⟨(t.2.1, t.2.2), prs_mem.mpr ⟨hm.2.1, hm.2.2⟩, by rw [Bool.not_not, ← h3]; exact h2⟩
    · refine List.any_eq_true.mpr ⟨(t.1, t.2.2), prs_mem.mpr ⟨by dsimp only; omega, hm.2.2⟩, ?_⟩
      rw [Bool.not_not, ← h3, ← h2]
      exact baB_c hn (by omega) (by omega) (by omega) (by omega) (by omega) (by omega) (by omega) (by omega) msk_c.1
    · refine List.any_eq_true.mpr ⟨(t.1, t.2.1), prs_mem.mpr ⟨hm.1, by dsimp only; omega⟩, ?_⟩
      rw [Bool.not_not, ← h3, ← h2]
      exact baB_c hn (by omega) (by omega) (by omega) (by omega) (by omega) (by omega) (by omega) (by omega) (msk_c.1.trans msk_c.2)
  · obtain ⟨t, ht, h2⟩ := List.any_eq_true.mp h1
    have hm := prs_mem.mp ht
    rw [Bool.not_not] at h2
    obtain ⟨u, hu, h3, h4⟩ := baB_any hn he (by omega) hm.2 h2
    refine List.any_eq_true.mpr ⟨u, hu, ?_⟩
    rw [bT_eq h hF hn hu, h4, h3, tb_msk, decide_eq_true rfl]
    rfl
theorem lo_tb (h : AR n F G R) (hF : AI F) (hn : n ≤ 6) : (loO n F).testBit e = (decide (e < n) && loT n R e) ∧ (loM n R).testBit e = (decide (e < n) && loT n R e) := by
  constructor
  · unfold loO lopC
    rw [Nat.testBit_and, Nat.testBit_two_pow_sub_one, Nat.testBit_xor, tb_cov hn]
    by_cases he : e < n
    · rw [lo_any h hF hn he, show (63 : Nat) = 2 ^ 6 - 1 from rfl, Nat.testBit_two_pow_sub_one, decide_eq_true (show e < 6 by omega)]
      cases loT n R e <;> rfl
    · rw [decide_eq_false he, Bool.false_and, Bool.false_and]
  · unfold loM
    rw [tb_fold (g := fun e => if loT n R e = true then 2 ^ e else 0), Nat.zero_testBit, Bool.false_or]
    have k : ∀ i, (if loT n R i = true then 2 ^ i else 0).testBit e = (decide (i = e) && loT n R i) := fun i => by
      cases loT n R i with
      | true => rw [if_pos rfl, Nat.testBit_two_pow, Bool.and_true]
      | false => rw [if_neg (by decide), Nat.zero_testBit, Bool.and_false]
    rw [any_congr fun i _ => k i]
    by_cases he : e < n
    · rw [decide_eq_true he, Bool.true_and]
      cases hl : loT n R e with
      | true => exact List.any_eq_true.mpr ⟨e, rg_mem.mpr ⟨Nat.zero_le _, he⟩, by rw [decide_eq_true rfl, hl]; rfl⟩
      | false =>
        refine List.any_eq_false.mpr fun i _ hi => ?_
        obtain ⟨h1, h2⟩ := Bool.and_eq_true_iff.mp hi
        rw [of_decide_eq_true h1, hl] at h2
        cases h2
    · rw [decide_eq_false he, Bool.false_and]
      refine List.any_eq_false.mpr fun i hi h => ?_
      obtain ⟨h1, h2⟩ := Bool.and_eq_true_iff.mp h
      have := (rg_mem.mp hi).2
      have := of_decide_eq_true h1
      omega
theorem lo_eq (h : AR n F G R) (hF : AI F) (hn : n ≤ 6) : loO n F = loM n R := Nat.eq_of_testBit_eq fun e => (lo_tb h hF hn).1.trans (lo_tb h hF hn).2.symm
theorem or2_and (s : Nat) : (2 ^ a ||| 2 ^ b) &&& s = 0 ↔ s.testBit a = false ∧ s.testBit b = false := by
  constructor
  · intro h
    have k : ∀ i, ((2 ^ a ||| 2 ^ b) &&& s).testBit i = false := fun i => by rw [h, Nat.zero_testBit]
    have ka := k a
    have kb := k b
    rw [Nat.testBit_and, Nat.testBit_or, Nat.testBit_two_pow, decide_eq_true rfl, Bool.true_or, Bool.true_and] at ka
    rw [Nat.testBit_and, Nat.testBit_or, Nat.testBit_two_pow, Nat.testBit_two_pow, decide_eq_true (show b = b from rfl), Bool.or_true, Bool.true_and] at kb
    exact ⟨ka, kb⟩
  · rintro ⟨h1, h2⟩
    refine Nat.eq_of_testBit_eq fun i => ?_
    rw [Nat.testBit_and, Nat.testBit_or, Nat.testBit_two_pow, Nat.testBit_two_pow, Nat.zero_testBit]
    by_cases ha : a = i
    · rw [← ha, h1, Bool.and_false]
    · by_cases hb : b = i
      · rw [← hb, h2, Bool.and_false]
      · rw [decide_eq_false ha, decide_eq_false hb]; rfl
theorem and_or2 (s : Nat) : s &&& (2 ^ a ||| 2 ^ b) = 2 ^ a ||| 2 ^ b ↔ s.testBit a = true ∧ s.testBit b = true := by
  constructor
  · intro h
    have k : ∀ i, (s &&& (2 ^ a ||| 2 ^ b)).testBit i = (2 ^ a ||| 2 ^ b).testBit i := fun i => by rw [h]
    have ka := k a
    have kb := k b
    rw [Nat.testBit_and, Nat.testBit_or, Nat.testBit_two_pow, decide_eq_true rfl, Bool.true_or, Bool.and_true] at ka
    rw [Nat.testBit_and, Nat.testBit_or, Nat.testBit_two_pow, Nat.testBit_two_pow, decide_eq_true (show b = b from rfl), Bool.or_true, Bool.and_true] at kb
    exact ⟨ka, kb⟩
  · rintro ⟨h1, h2⟩
    refine Nat.eq_of_testBit_eq fun i => ?_
    rw [Nat.testBit_and, Nat.testBit_or, Nat.testBit_two_pow, Nat.testBit_two_pow]
    by_cases ha : a = i
    · rw [← ha, h1, Bool.true_and]
    · by_cases hb : b = i
      · rw [← hb, h2, Bool.true_and]
      · rw [decide_eq_false ha, decide_eq_false hb]
        cases s.testBit i <;> rfl
theorem inb_any (hn : n ≤ 6) {s : Nat} : inbC (gth n F gzZ gzZ) s = (trip n).any fun t => bT F t && decide (mT t &&& s = s) := by
  unfold inbC
  rw [List.not_all_eq_any_not]
  have h := congrArg (fun l => l.any fun m => decide (m &&& s = s)) (gth_bs (F := F) hn)
  rw [List.any_map, List.any_map, List.any_filter] at h
  refine Eq.trans (any_congr fun i _ => ?_) h
  rw [Bool.not_not]
  rfl
theorem pa_any (h : AR n F G R) (hF : AI F) (hn : n ≤ 6) (hab : a < b) (hb : b < n) : inbC (gth n F gzZ gzZ) (2 ^ a ||| 2 ^ b) = !((rg 0 n).all fun c => !baB R a b c) := by
  rw [inb_any hn, List.not_all_eq_any_not]
  refine Bool.eq_iff_iff.mpr ⟨fun h1 => ?_, fun h1 => ?_⟩
  · obtain ⟨t, ht, h2⟩ := List.any_eq_true.mp h1
    obtain ⟨h2, h3⟩ := Bool.and_eq_true_iff.mp h2
    rw [bT_eq h hF hn ht] at h2
    have hm := trip_mem.mp ht
    obtain ⟨h3, h4⟩ := (and_or2 _).mp (of_decide_eq_true h3)
    unfold mT at h3 h4
    rw [tb_msk] at h3 h4
    simp only [Bool.or_eq_true, decide_eq_true_eq] at h3 h4
    have go : ∀ c, c < n → ¬ (a = b ∨ a = c ∨ b = c) → msk a b c = msk t.1 t.2.1 t.2.2 → ∃ x, x ∈ rg 0 n ∧ (!!baB R a b x) = true := fun c hc hd he => ⟨c, rg_mem.mpr ⟨Nat.zero_le _, hc⟩, by rw [Bool.not_not, baB_c hn (by omega) hb hc (by omega) (by omega) (by omega) hd (by omega) he]; exact h2⟩
    refine List.any_eq_true.mpr ?_
    rcases h3 with h3 | h3 | h3 <;> rcases h4 with h4 | h4 | h4
    · omega
    · exact go t.2.2 (by omega) (by omega) (by rw [h3, h4])
    · exact go t.2.1 (by omega) (by omega) (by rw [h3, h4]; exact msk_c.2)
    · omega
    · omega
    · exact go t.1 (by omega) (by omega) (by rw [h3, h4]; exact msk_c.2.trans msk_c.1)
    · omega
    · omega
    · omega
  · obtain ⟨c, hc, h2⟩ := List.any_eq_true.mp h1
    have hc := rg_mem.mp hc
    rw [Bool.not_not] at h2
    obtain ⟨u, hu, h3, h4⟩ := baB_any hn (by omega) hb hc.2 h2
    refine List.any_eq_true.mpr ⟨u, hu, ?_⟩
    rw [bT_eq h hF hn hu, h4, h3, Bool.true_and]
    refine decide_eq_true ((and_or2 _).mpr ⟨?_, ?_⟩)
    · rw [tb_msk, decide_eq_true rfl]; rfl
    · rw [tb_msk, decide_eq_true (show b = b from rfl), Bool.true_or, Bool.or_true]
theorem pa_eq (h : AR n F G R) (hF : AI F) (hn : n ≤ 6) : paO n F = pnM n R := by
  unfold paO parC pnM
  refine fold_rel2 (R := fun (x y : Int32) => x = y) (fun t ht x y hxy => ?_) rfl
  have hm := prs_mem.mp ht
  rw [hxy]
  have e : ((2 ^ t.1 ||| 2 ^ t.2) &&& lopC n (gth n F gzZ gzZ) = 0 ∧ inbC (gth n F gzZ gzZ) (2 ^ t.1 ||| 2 ^ t.2) = false) ↔ paT n R t.1 t.2 = true := by
    rw [or2_and, pa_any h hF hn hm.1 hm.2, show lopC n (gth n F gzZ gzZ) = loM n R from lo_eq h hF hn]
    unfold paT
    simp only [Bool.and_eq_true, Bool.not_eq_true', Bool.not_eq_false']
  by_cases hp : paT n R t.1 t.2 = true
  · rw [if_pos (e.mpr hp), if_pos hp]
  · rw [if_neg fun h' => hp (e.mp h'), if_neg hp]
    exact (Int32.add_zero y).symm
end
