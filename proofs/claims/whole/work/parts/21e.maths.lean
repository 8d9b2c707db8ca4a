/-! the two reckonings alike: mutations -/
section
variable {a b c d e n k x y z : Nat} {F G R : Nat → Int32} {v : Int32}
theorem gth_nz {F' : Nat → Int32} (h : ∀ t ∈ trip n, F' (i6 t.1 t.2.1 t.2.2) = 0 ↔ F (i6 t.1 t.2.1 t.2.2) = 0) : gth n F' gzZ gzZ = gth n F gzZ gzZ := by
  unfold gth
  refine fold_rel2 (R := fun (x y : GX) => x = y) (fun t ht x y hxy => ?_) rfl
  rw [hxy]
  unfold gthF
  have e : F' (i6 t.1 t.2.1 t.2.2) ≠ 0 ↔ F (i6 t.1 t.2.1 t.2.2) ≠ 0 := not_congr (h t ht)
  by_cases hc : F (i6 t.1 t.2.1 t.2.2) ≠ 0 ∧ y.2.2 < 20
  · rw [if_pos hc, if_pos ⟨e.mpr hc.1, hc.2⟩]
  · rw [if_neg hc, if_neg fun h' => hc ⟨e.mp h'.1, h'.2⟩]
theorem neg_0 : -v = 0 ↔ v = 0 := ⟨fun h => Int32.neg_inj.mp (h.trans neg0.symm), fun h => by rw [h]; rfl⟩
theorem ex_flip (hF : AI F) (hn : n ≤ 6) (hab : a < b) (hbc : b < c) (hc : c < n) : exO n (sg6 F a b c (-(F (i6 a b c)))) = exO n F := by
  unfold exO
  rw [gth_nz (F' := sg6 F a b c (-(F (i6 a b c)))) (F := F)]
  intro t ht
  have hm := trip_mem.mp ht
  obtain ⟨R, hR⟩ := AR_some hF n gzZ
  have h2 := AR_sg (v := -(F (i6 a b c))) hR hn (show a < n by omega) (show b < n by omega) hc (by omega)
  have h3 := AI_sg (v := -(F (i6 a b c))) hF (isSg_neg (AI_F hF (by omega) (by omega) (by omega))) (show a < 6 by omega) (show b < 6 by omega) (show c < 6 by omega) (by omega)
  rw [AR_F h2 h3.2.2.2 hn (show t.1 < n by omega) (show t.2.1 < n by omega) hm.2.2, AR_F hR hF.2.2.2 hn (show t.1 < n by omega) (show t.2.1 < n by omega) hm.2.2, mS_sgU, AR_F hR hF.2.2.2 hn (show a < n by omega) (show b < n by omega) hc]
  have t1 : tO t.1 t.2.1 t.2.2 = 1 := tO_1 hm.1 hm.2.1
  have t2 : tO a b c = 1 := tO_1 hab hbc
  by_cases hp : pT t.1 t.2.1 t.2.2 = pT a b c
  · rw [if_pos hp, t1, t2, Int32.one_mul, Int32.mul_one, neg_0]
    unfold mS
    rw [t1, t2, hp]
  · rw [if_neg hp]
/-- a mutation, alike -/
theorem mu_eq (h : AR n F G R) (hF : AI F) (hn : n ≤ 6) (ho : orO n F = true) (hab : a < b) (hbc : b < c) (hc : c < n) : muB n F a b c = muM n R a b c := by
  have e := AR_F h hF.2.2.2 hn (show a < n by omega) (show b < n by omega) hc
  have h2 := AR_sg (v := -(F (i6 a b c))) h hn (show a < n by omega) (show b < n by omega) hc (by omega)
  have h3 := AI_sg (v := -(F (i6 a b c))) hF (isSg_neg (AI_F hF (by omega) (by omega) (by omega))) (show a < 6 by omega) (show b < 6 by omega) (show c < 6 by omega) (by omega)
  have h4 := or_eq h2 h3 hn
  have h5 : exO n F = true := by
    unfold orO at ho
    exact (Bool.and_eq_true_iff.mp ho).2
  unfold muB muM baB
  rw [← e, ← h4]
  congr 1
  unfold orO
  rw [ex_flip hF hn hab hbc hc, h5, Bool.and_true]
/-- bits told one by one -/
def bsm : List Bool → Nat → Nat
  | [], _ => 0
  | p :: l, i => (if p = true then 2 ^ i else 0) ||| bsm l (i + 1)
theorem bsm_tb : ∀ (l : List Bool) (i j : Nat), (bsm l i).testBit j = (decide (i ≤ j) && l.getD (j - i) false)
  | [], i, j => by
    unfold bsm
    rw [Nat.zero_testBit, List.getD_nil, Bool.and_false]
  | p :: l, i, j => by
    unfold bsm
    rw [Nat.testBit_or, bsm_tb l (i + 1) j]
    by_cases h1 : i + 1 ≤ j
    · have h2 : (if p = true then 2 ^ i else 0).testBit j = false := by
        cases p with
        | true => rw [if_pos rfl, Nat.testBit_two_pow, decide_eq_false (by omega)]
        | false => rw [if_neg (by decide), Nat.zero_testBit]
      rw [h2, decide_eq_true h1, decide_eq_true (show i ≤ j by omega), show j - i = (j - (i + 1)) + 1 by omega, List.getD_cons_succ, Bool.false_or]
    · rw [decide_eq_false h1, Bool.false_and, Bool.or_false]
      by_cases h2 : i = j
      · rw [decide_eq_true (show i ≤ j by omega), show j - i = 0 by omega, List.getD_cons_zero, Bool.true_and]
        cases p with
        | true => rw [if_pos rfl, Nat.testBit_two_pow, decide_eq_true h2]
        | false => rw [if_neg (by decide), Nat.zero_testBit]
      · rw [decide_eq_false (show ¬ i ≤ j by omega), Bool.false_and]
        cases p with
        | true => rw [if_pos rfl, Nat.testBit_two_pow, decide_eq_false h2]
        | false => rw [if_neg (by decide), Nat.zero_testBit]
theorem muS_b {g : T3 → Bool} : ∀ (l : List T3) (x i : Nat), i + l.length ≤ 32 → l.foldl (fun (x : Nat × Nat) t => (if g t = true then x.1 ||| 2 ^ (x.2 % 32) else x.1, x.2 + 1)) (x, i) = (x ||| bsm (l.map g) i, i + l.length)
  | [], x, i, _ => by
    rw [List.foldl_nil, List.map_nil, List.length_nil]
    unfold bsm
    rw [Nat.or_zero]
    rfl
  | t :: l, x, i, h => by
    rw [List.length_cons] at h
    rw [List.foldl_cons, List.map_cons, List.length_cons]
    dsimp only
    rw [muS_b l _ (i + 1) (by omega), Nat.mod_eq_of_lt (show i < 32 by omega), show bsm (g t :: l.map g) i = (if g t = true then 2 ^ i else 0) ||| bsm (l.map g) (i + 1) from rfl]
    cases g t with
    | true => rw [if_pos rfl, if_pos rfl, Nat.or_assoc, show i + 1 + l.length = i + (l.length + 1) by omega]
    | false => rw [if_neg (by decide), if_neg (by decide), Nat.zero_or, show i + 1 + l.length = i + (l.length + 1) by omega]
theorem muS_eq (h : AR n F G R) (hF : AI F) (hn : n ≤ 6) (ho : orO n F = true) : (muS n F).1 = bsm ((trip n).map fun t => muM n R t.1 t.2.1 t.2.2) 0 := by
  have hl := trip_20 hn
  unfold muS
  rw [muS_b (g := fun t => muB n F t.1 t.2.1 t.2.2) (trip n) 0 0 (by omega), Nat.zero_or]
  dsimp only
  congr 1
  refine List.map_congr_left fun t ht => ?_
  have hm := trip_mem.mp ht
  exact mu_eq h hF hn ho hm.1 hm.2.1 hm.2.2
end
