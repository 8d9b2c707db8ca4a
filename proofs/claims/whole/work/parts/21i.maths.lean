/-! mutation answers alike -/
section
variable {a b c n k i j x : Nat} {F G R : Nat → Int32} {t : Int32}
theorem map_len {g : T3 → Bool} (hn : n ≤ 6) : ((trip n).map g).length ≤ 20 := by
  rw [List.length_map]
  exact trip_20 hn
theorem mt_ans (h : AR n F G R) (hF : AI F) (h3 : 3 ≤ n) (hn : n ≤ 6) : mtA n F t = if orM n R = true then (if (!decide (t < -1) && !decide (nI (n * (n - 1) * (n - 2) / 6) - nI 1 < t)) = true then mtM n R t else -1001) else -1003 := by
  obtain ⟨hN, hN2⟩ := tri_pos n h3 hn
  unfold mtA
  rw [or_eq h hF hn]
  cases ho : orM n R with
  | false => rw [if_neg (by decide), if_neg (by decide)]
  | true =>
    rw [if_pos rfl, if_pos rfl]
    have ho2 : orO n F = true := (or_eq h hF hn).trans ho
    have hl := map_len (n := n) (g := fun t => muM n R t.1 t.2.1 t.2.2) hn
    have hb := bsm_lt ((trip n).map fun t => muM n R t.1 t.2.1 t.2.2)
    have hb2 : bsm ((trip n).map fun t => muM n R t.1 t.2.1 t.2.2) 0 < 2 ^ 20 := Nat.lt_of_lt_of_le hb (Nat.pow_le_pow_right (by decide) hl)
    rw [muS_eq h hF hn ho2]
    have h20 := trip_20 hn
    rw [trip_len n (by omega)] at h20
    generalize n * (n - 1) * (n - 2) / 6 = N at hN hN2 h20 ⊢
    rw [nI_sub (show 1 ≤ N by omega)]
    by_cases h1 : t < -1
    · rw [if_pos h1, decide_eq_true h1]
      rfl
    · rw [if_neg h1, decide_eq_false h1, Bool.not_false, Bool.true_and]
      rcases el_or N t (by omega) with (hlt | hge) | ⟨j, hj, rfl⟩
      · have ht : t = -1 := by
          have h2 := Int32.lt_iff_toInt_lt.mp hlt
          have h4 : ¬ t.toInt < (-1 : Int32).toInt := fun h' => h1 (Int32.lt_iff_toInt_lt.mpr h')
          rw [show (0 : Int32).toInt = 0 by decide] at h2
          rw [show (-1 : Int32).toInt = -1 by decide] at h4
          apply Int32.toInt_inj.mp
          rw [show (-1 : Int32).toInt = -1 by decide]
          omega
        subst ht
        have a1 : (-1 : Int32) < nI N := by
          apply Int32.lt_iff_toInt_lt.mpr
          rw [show (-1 : Int32).toInt = -1 by decide, nI_toInt (by omega)]
          omega
        have a2 : ¬ nI (N - 1) < (-1 : Int32) := fun h' => by
          have := Int32.lt_iff_toInt_lt.mp h'
          rw [show (-1 : Int32).toInt = -1 by decide, nI_toInt (by omega)] at this
          omega
        rw [if_pos a1, if_pos rfl, decide_eq_false a2, Bool.not_false, if_pos rfl, pc_I (by omega), ons_bsm 32 _ (Nat.le_trans hl (by decide))]
        have e := mt_all (t := -1) (g := fun t => muM n R t.1 t.2.1 t.2.2) (by decide) (trip n) 0 0
        rw [Nat.zero_add] at e
        exact e.symm
      · have a1 : ¬ t < nI N := fun h' => by
          have h5 := Int32.lt_iff_toInt_lt.mp h'
          have h6 := Int32.le_iff_toInt_le.mp hge
          omega
        have a2 : nI (N - 1) < t := by
          apply Int32.lt_iff_toInt_lt.mpr
          have h6 := Int32.le_iff_toInt_le.mp hge
          rw [nI_toInt (by omega)] at h6 ⊢
          omega
        rw [if_neg a1, decide_eq_true a2]
        rfl
      · have a0 := nI_ng (b := j) (by omega)
        have a2 : ¬ nI (N - 1) < nI j := by
          rw [nI_ltI (by omega) (by omega)]
          omega
        rw [if_pos (nI_lt hj (by omega)), if_neg a0, decide_eq_false a2, Bool.not_false, if_pos rfl]
        have e := mt_one (j := j) (g := fun t => muM n R t.1 t.2.1 t.2.2) (by omega) (trip n) 0 0 (by have := trip_20 hn; omega)
        rw [Nat.zero_add, Nat.sub_zero] at e
        refine Eq.trans ?_ e.symm
        have j20 : j < 32 := by omega
        rw [nI_shr (by omega) j20, nI_and]
        congr 1
        have et := bsm_tb ((trip n).map fun t => muM n R t.1 t.2.1 t.2.2) 0 j
        rw [decide_eq_true (Nat.zero_le j), Bool.true_and, Nat.sub_zero] at et
        rw [← et, Nat.and_one_is_mod, Nat.shiftRight_eq_div_pow]
        have e2 := Nat.testBit_eq_decide_div_mod_eq (x := bsm ((trip n).map fun t => muM n R t.1 t.2.1 t.2.2) 0) (i := j)
        by_cases h7 : bsm ((trip n).map fun t => muM n R t.1 t.2.1 t.2.2) 0 / 2 ^ j % 2 = 1
        · rw [h7, e2, decide_eq_true h7, if_pos ⟨Nat.zero_le j, rfl⟩]
        · rw [e2, decide_eq_false h7, if_neg fun h' => (by cases h'.2)]
          omega
end
