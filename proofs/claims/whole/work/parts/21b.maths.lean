/-! the two reckonings alike: the exchange -/
section
variable {a b c d e n k x y z : Nat} {F G R : Nat → Int32}
def bmB (n : Nat) (R : Nat → Int32) (s : Nat) : Bool := (trip n).any fun t => decide (msk t.1 t.2.1 t.2.2 = s) && baB R t.1 t.2.1 t.2.2
theorem bmB_b : ∀ n, n < 7 → ∀ a, a < n → ∀ b, b < n → ∀ c, c < n → (!dis3 a b c || ((trip n).any (fun t => decide (msk t.1 t.2.1 t.2.2 = msk a b c)) && (trip n).all fun t => !decide (msk t.1 t.2.1 t.2.2 = msk a b c) || decide (pT t.1 t.2.1 t.2.2 = pT a b c))) = true := by decide +kernel
theorem tO_nz {u w : Int32} (h : u = 1 ∨ u = -1) : decide (u * w ≠ 0) = decide (w ≠ 0) := by
  rcases h with rfl | rfl
  · rw [Int32.one_mul]
  · rw [show (-1 : Int32) * w = -w by rw [Int32.neg_mul, Int32.one_mul]]
    by_cases h : w = 0
    · subst h; rfl
    · rw [decide_eq_true (show w ≠ 0 from h), decide_eq_true (show -w ≠ 0 from fun h' => h (Int32.neg_inj.mp (h'.trans neg0.symm)))]
theorem tO_pm (ha : a < 6) (hb : b < 6) (hc : c < 6) (hd : ¬ (a = b ∨ a = c ∨ b = c)) : tO a b c = 1 ∨ tO a b c = -1 := by
  rw [tO_pr a ha b hb c hc, if_pos (dis3_t.mpr hd)]
  split
  · exact Or.inr rfl
  · exact Or.inl rfl
theorem baB_p (ha : a < 6) (hb : b < 6) (hc : c < 6) (hd : ¬ (a = b ∨ a = c ∨ b = c)) : baB R a b c = decide (R (1 + pT a b c) ≠ 0) := tO_nz (tO_pm ha hb hc hd)
theorem baB_m (hn : n ≤ 6) (ha : a < n) (hb : b < n) (hc : c < n) (hd : ¬ (a = b ∨ a = c ∨ b = c)) : baB R a b c = bmB n R (msk a b c) := by
  have hb' := bmB_b n (by omega) a ha b hb c hc
  rw [dis3_t.mpr hd] at hb'
  obtain ⟨h1, h2⟩ := Bool.and_eq_true_iff.mp (show _ = true from hb')
  have h2 := List.all_eq_true.mp h2
  have key : ∀ t ∈ trip n, msk t.1 t.2.1 t.2.2 = msk a b c → baB R t.1 t.2.1 t.2.2 = baB R a b c := fun t ht hm => by
    have h := h2 t ht
    rw [decide_eq_true hm] at h
    have h : pT t.1 t.2.1 t.2.2 = pT a b c := of_decide_eq_true h
    have ht := trip_mem.mp ht
    rw [baB_p (by omega) (by omega) (by omega) (by omega), baB_p (by omega) (by omega) (by omega) hd, h]
  unfold bmB
  cases hB : baB R a b c with
  | true =>
    obtain ⟨t, ht, hm⟩ := List.any_eq_true.mp h1
    have hm := of_decide_eq_true hm
    refine (List.any_eq_true.mpr ⟨t, ht, ?_⟩).symm
    rw [decide_eq_true hm, key t ht hm, hB]
    rfl
  | false =>
    refine (List.any_eq_false.mpr fun t ht => ?_).symm
    by_cases hm : msk t.1 t.2.1 t.2.2 = msk a b c
    · rw [key t ht hm, hB, Bool.and_false]
      decide
    · rw [decide_eq_false hm, Bool.false_and]
      decide
/-- what an exchange asks for, as lists of masks -/
def cnM (t u : T3) : List (List Nat) := (([t.1, t.2.1, t.2.2].filter fun x => !(decide (x = u.1) || (decide (x = u.2.1) || decide (x = u.2.2)))).map fun x => ([u.1, u.2.1, u.2.2].filter fun y => nwB t.1 t.2.1 t.2.2 y).map fun y => msk (ifN t.1 x y) (ifN t.2.1 x y) (ifN t.2.2 x y))
def cnC (r s : Nat) : List (List Nat) := (((rg 0 6).filter fun i => decide (2 ^ i &&& r &&& (63 ^^^ s) ≠ 0)).map fun i => ((rg 0 6).filter fun j => decide (2 ^ j &&& (s &&& (63 ^^^ r)) ≠ 0)).map fun j => (r &&& (63 ^^^ 2 ^ i)) ||| 2 ^ j)
theorem cn_b : ((trip 6).all fun t => (trip 6).all fun u => decide (cnM t u = cnC (msk t.1 t.2.1 t.2.2) (msk u.1 u.2.1 u.2.2)) && (cnM t u).all fun l => l.all fun s => decide (s < 64)) = true := by decide +kernel
theorem mdC_l {β : Nat → Int32} {r s : Nat} : mdC β r s = (((rg 0 6).filter fun j => decide (2 ^ j &&& s ≠ 0)).map fun j => r ||| 2 ^ j).any fun s => decide (β s ≠ 0) := by
  unfold mdC
  rw [List.any_map, List.any_filter, List.not_all_eq_any_not]
  congr 1
  funext i
  rw [Bool.not_not]
  rfl
theorem cxC_l {β : Nat → Int32} {r s : Nat} : cxC β r s = (cnC r s).all fun l => l.any fun s => decide (β s ≠ 0) := by
  unfold cxC cnC
  rw [List.all_map, List.all_filter]
  congr 1
  funext i
  rw [mdC_l]
  cases decide (2 ^ i &&& r &&& (63 ^^^ s) ≠ 0) with
  | false => rfl
  | true =>
    rw [Bool.true_and, Bool.not_not]
    rfl
theorem ifN_ok (hab : a < b) (hbc : b < c) (hc : c < n) (hx : x = a ∨ x = b ∨ x = c) (hy : y < n) (h : nwB a b c y = true) : (ifN a x y < n ∧ ifN b x y < n ∧ ifN c x y < n) ∧ ¬ (ifN a x y = ifN b x y ∨ ifN a x y = ifN c x y ∨ ifN b x y = ifN c x y) := by
  unfold nwB at h
  simp only [Bool.and_eq_true, decide_eq_true_eq] at h
  unfold ifN
  split <;> split <;> split <;> omega
theorem ecB_l {t u : T3} (hn : n ≤ 6) (ht : t.1 < t.2.1 ∧ t.2.1 < t.2.2 ∧ t.2.2 < n) (hu : u.1 < u.2.1 ∧ u.2.1 < u.2.2 ∧ u.2.2 < n) (hx : x = t.1 ∨ x = t.2.1 ∨ x = t.2.2) : ecB R t.1 t.2.1 t.2.2 u.1 u.2.1 u.2.2 x = (([u.1, u.2.1, u.2.2].filter fun y => nwB t.1 t.2.1 t.2.2 y).map fun y => msk (ifN t.1 x y) (ifN t.2.1 x y) (ifN t.2.2 x y)).any fun s => bmB n R s := by
  rw [List.any_map, List.any_filter]
  have k : ∀ y, y < n → (nwB t.1 t.2.1 t.2.2 y && baB R (ifN t.1 x y) (ifN t.2.1 x y) (ifN t.2.2 x y)) = (nwB t.1 t.2.1 t.2.2 y && bmB n R (msk (ifN t.1 x y) (ifN t.2.1 x y) (ifN t.2.2 x y))) := fun y hy => by
    cases h : nwB t.1 t.2.1 t.2.2 y with
    | false => rfl
    | true =>
      obtain ⟨h1, h2⟩ := ifN_ok ht.1 ht.2.1 ht.2.2 hx hy h
      rw [baB_m hn h1.1 h1.2.1 h1.2.2 h2]
  unfold ecB ecS
  rw [k u.1 (by omega), k u.2.1 (by omega), k u.2.2 hu.2.2, List.any_cons, List.any_cons, List.any_cons, List.any_nil, Bool.false_or, Bool.or_false, Bool.or_assoc]
  rfl
theorem eaB_l {t u : T3} (hn : n ≤ 6) (ht : t.1 < t.2.1 ∧ t.2.1 < t.2.2 ∧ t.2.2 < n) (hu : u.1 < u.2.1 ∧ u.2.1 < u.2.2 ∧ u.2.2 < n) : eaB R t.1 t.2.1 t.2.2 u.1 u.2.1 u.2.2 = (cnM t u).all fun l => l.any fun s => bmB n R s := by
  unfold cnM eaB eaS
  rw [List.all_map, List.all_filter, ecB_l hn ht hu (Or.inl rfl), ecB_l hn ht hu (Or.inr (Or.inl rfl)), ecB_l hn ht hu (Or.inr (Or.inr rfl)), List.all_cons, List.all_cons, List.all_cons, List.all_nil, Bool.true_and, Bool.and_true, Bool.and_assoc]
  simp only [Bool.not_not, Bool.or_assoc]
  rfl
end
