/-! the answers of vectors and topes alike -/
section
variable {a b c d e n k f i j t u L s r : Nat} {F G R : Nat → Int32} {T : List Nat} {P : Nat → Bool} {x y z w v : Int32}
theorem mlU_len {N : Nat} : (mlU N P).length = (mlD N P).length := by
  have m1 : ∀ c, c ∈ mlU N P ↔ c ∈ mlD N P := fun c => by
    rw [mlD_mem]
    unfold mlU
    rw [List.mem_filter, rg_mem]
    exact ⟨fun h => ⟨h.1.2, h.2⟩, fun h => ⟨⟨Nat.zero_le _, h.1⟩, h.2⟩⟩
  have n1 : (mlU N P).Nodup := List.Pairwise.filter _ (show (rg 0 N).Nodup from List.nodup_range')
  exact Nat.le_antisymm (nd_len n1 fun c hc => (m1 c).mp hc) (nd_len mlD_nd fun c hc => (m1 c).mpr hc)
/-- vector answers alike -/
theorem vc_ans (h : AR n F G R) (hF : AI F) (hn : n ≤ 6) : vcA n F x y z = vcM n R x y z := by
  have hp := p3_le n hn
  unfold vcA vcM
  rcases elB_or 4 x (by decide) with ⟨hx, _⟩ | ⟨k, hk, rfl⟩
  · rw [hx, if_neg (by decide), if_neg (by decide)]
  rw [elB_nI (by decide) hk, if_pos rfl, if_pos rfl, eN_nI (show k < 1000 by omega)]
  by_cases hy : y < -1
  · rw [if_pos hy, if_pos hy]
  rw [if_neg hy, if_neg hy]
  have hc : canB n F k = !(decide (1 < k) && !orM n R) := by
    unfold canB
    rw [or_eq h hF hn]
    by_cases h1 : 1 < k
    · rw [decide_eq_true h1, decide_eq_false (show ¬ k < 2 by omega), Bool.true_and, Bool.not_not, Bool.false_or]
    · rw [decide_eq_false h1, decide_eq_true (show k < 2 by omega)]; rfl
  rw [hc]
  cases hb : decide (1 < k) && !orM n R with
  | true => rw [if_neg (by decide), if_pos rfl]
  | false =>
    rw [if_pos (show (!false) = true from rfl), if_neg (show ¬ false = true by decide)]
    have ho : k < 2 ∨ orM n R = true := by
      by_cases h1 : 1 < k
      · rw [decide_eq_true h1, Bool.true_and] at hb
        exact Or.inr (by simpa using hb)
      · exact Or.inl (by omega)
    rw [vk_eq h hF hn hk ho, List.length_map, mlU_len]
    by_cases hy1 : y = -1
    · rw [if_pos hy1, if_pos hy1]
    rw [if_neg hy1, if_neg hy1]
    have hl : (mlD (3 ^ n) (kiP n R k)).length < 1000 := by
      have := @mlD_len (3 ^ n) (kiP n R k)
      omega
    cases he : elB (mlD (3 ^ n) (kiP n R k)).length y && elB n z with
    | false => rw [if_neg (by decide), if_neg (by decide)]
    | true =>
      rw [if_pos rfl, if_pos rfl]
      rw [Bool.and_eq_true_iff] at he
      have h1 := elB_t hl he.1
      have h2 := elB_t (by omega) he.2
      rw [getD_map h1.1, kyA_k h2.1]
theorem cnt_I {p : Nat → Bool} : ∀ {l : List Nat} {k : Nat}, l.foldl (fun x u => x + if p u = true then nI 1 else nI 0) (nI k) = nI (l.foldl (fun x u => x + if p u = true then 1 else 0) k)
  | [], _ => rfl
  | a :: l, k => by
    rw [List.foldl_cons, List.foldl_cons]
    cases p a with
    | true => rw [if_pos rfl, if_pos rfl, nI_add, cnt_I]
    | false => rw [if_neg (by decide), if_neg (by decide), nI_add, cnt_I]
theorem nxO_64 (hL : L ≤ 64) {V : List Nat} : nxO V L t < 2 ^ 64 := by
  unfold nxO
  refine fold_inv (P := fun s : Nat => s < 2 ^ 64) (fun j hj s hs => ?_) (by decide)
  split
  · have hj := (rg_mem.mp hj).2
    exact Nat.or_lt_two_pow hs (Nat.pow_lt_pow_right (by decide) (by omega))
  · exact hs
theorem toL_eq (h : AR n F G R) (hF : AI F) (hn : n ≤ 6) (ho : orM n R = true) : vkL n F 3 = (mlD (3 ^ n) (kiP n R 3)).map (kK n) ∧ toL n F = (mlD (3 ^ n) (kiP n R 3)).length ∧ (mlD (3 ^ n) (kiP n R 3)).length ≤ 64 := by
  have e := vk_eq h hF hn (show 3 < 4 by decide) (Or.inr ho)
  have l := tope_64 h hF hn ho
  refine ⟨e, ?_, l⟩
  unfold toL
  rw [e, List.length_map]
  omega
/-- beside answers alike -/
theorem bs_ans (h : AR n F G R) (hF : AI F) (hn : n ≤ 6) : bsA n F x = bsS n R x := by
  unfold bsA bsS
  rw [or_eq h hF hn]
  cases ho : orM n R with
  | false => rw [if_neg (by decide), if_neg (by decide)]
  | true =>
    rw [if_pos rfl, if_pos rfl]
    obtain ⟨e1, e2, e3⟩ := toL_eq h hF hn ho
    rw [e1, e2, List.length_map]
    generalize mlD (3 ^ n) (kiP n R 3) = T at e3
    rcases elB_or T.length x (by omega) with ⟨hx, _⟩ | ⟨t, ht, rfl⟩
    · rw [hx, if_neg (by decide), if_neg (by decide)]
    rw [elB_nI (by omega) ht, if_pos rfl, if_pos rfl, eN_nI (by omega), pc_J (nxO_64 e3), ons_tb]
    unfold bsN
    rw [cnt_I]
    refine congrArg nI ?_
    have hz : ∀ k, T.length ≤ k → (nxO (T.map (kK n)) T.length t).testBit k = false := fun k hk => by
      unfold nxO
      have := @orb k (fun j => decide (t ≠ j ∧ sbB (T.map (kK n)) T.length t j = false)) T.length
      simp only [decide_eq_true_eq] at this
      rw [this, decide_eq_false (by omega), Bool.false_and]
    rw [show 64 = T.length + (64 - T.length) by omega, cF_x hz]
    exact cF_c fun u hu => by rw [nxO_tb hn ht hu, nx_sym hn]
/-- between answers alike -/
theorem bt_ans (h : AR n F G R) (hF : AI F) (hn : n ≤ 6) {Fm : Nat → Int32} (hFm : ∀ k, k < 64 → Fm k = far0 (eN x) k) : btA n F x y z = if elB 3 z = true then (if orM n R = true then btW n (mlD (3 ^ n) (kiP n R 3)) x y z Fm else -1003) else -1002 := by
  unfold btA
  rcases elB_or 3 z (by decide) with ⟨hz, _⟩ | ⟨w, hw, rfl⟩
  · rw [hz, if_neg (by decide), if_neg (by decide)]
  rw [elB_nI (by decide) hw, if_pos rfl, if_pos rfl, or_eq h hF hn]
  cases ho : orM n R with
  | false => rw [if_neg (by decide), if_neg (by decide)]
  | true =>
    rw [if_pos rfl, if_pos rfl]
    obtain ⟨e1, e2, e3⟩ := toL_eq h hF hn ho
    unfold btW
    rw [e1, e2, List.length_map]
    generalize mlD (3 ^ n) (kiP n R 3) = T at e3
    rcases elB_or T.length x (by omega) with ⟨hx, _⟩ | ⟨t, ht, rfl⟩
    · rw [hx, Bool.false_and, if_neg (by decide), if_neg (by decide)]
    rcases elB_or T.length y (by omega) with ⟨hy, _⟩ | ⟨u, hu, rfl⟩
    · rw [hy, Bool.and_false, if_neg (by decide), if_neg (by decide)]
    rw [elB_nI (by omega) ht, elB_nI (by omega) hu, if_pos (show (true && true) = true from rfl), if_pos (show (true && true) = true from rfl)]
    rw [eN_nI (by omega)] at hFm
    rw [eN_nI (show t < 1000 by omega), eN_nI (show u < 1000 by omega), eN_nI (show w < 1000 by omega), getD_map ht, getD_map hu, ons_k hn, onM_ap hn, nxO_tb hn ht hu, nx_sym hn]
    by_cases h0 : w = 0
    · rw [if_pos h0, if_pos h0]
    rw [if_neg h0, if_neg h0]
    by_cases h1 : w = 1
    · rw [if_pos h1, if_pos h1]
    rw [if_neg h1, if_neg h1]
    unfold stM
    refine st_eq (fun a k ha hk => by rw [nxO_tb hn ha hk, nx_sym hn]) e3 hu T.length 0 Fm _ 64 rfl rfl (stI_0 e3 ht hFm) ?_
    rw [hFm u (by omega)]
    unfold far0
    split
    · exact Or.inr rfl
    · exact Or.inl rfl
end
