/-! the two reckonings alike: what the rules gather -/
section
variable {a b c d e n k x y z : Nat} {F G R : Nat → Int32}
/-- a base, as the class's signs say -/
def bT (F : Nat → Int32) (t : T3) : Bool := decide (F (i6 t.1 t.2.1 t.2.2) ≠ 0)
def mT (t : T3) : Nat := msk t.1 t.2.1 t.2.2
theorem gth_l (hn : n ≤ 6) : ∀ (l : List T3) (x : GX), (∀ t ∈ l, t.1 < 6 ∧ t.2.1 < 6 ∧ t.2.2 < 6) → x.2.2 + l.length ≤ 20 → (rg 0 (l.foldl (fun x t => gthF F x t.1 t.2.1 t.2.2) x).2.2).map (bN (l.foldl (fun x t => gthF F x t.1 t.2.1 t.2.2) x).2.1) = (rg 0 x.2.2).map (bN x.2.1) ++ (l.filter (bT F)).map mT ∧ ∀ s, (l.foldl (fun x t => gthF F x t.1 t.2.1 t.2.2) x).1 s = if (l.filter (bT F)).any (fun t => decide (mT t = s)) = true then nI 1 else x.1 s
  | [], x, _, _ => ⟨(List.append_nil _).symm, fun s => rfl⟩
  | t :: l, x, hl, hc => by
    rw [List.length_cons] at hc
    have ht := hl t List.mem_cons_self
    have hm := msk_lt ht.1 ht.2.1 ht.2.2
    have hl' := fun u hu => hl u (List.mem_cons_of_mem t hu)
    rw [List.foldl_cons, List.filter_cons]
    by_cases h : F (i6 t.1 t.2.1 t.2.2) = 0
    · have e1 : gthF F x t.1 t.2.1 t.2.2 = x := if_neg fun h' => h'.1 h
      have e2 : bT F t = false := decide_eq_false fun h' => h' h
      rw [e1, e2, if_neg (by decide)]
      exact gth_l hn l x hl' (by omega)
    · have e1 : gthF F x t.1 t.2.1 t.2.2 = (upd x.1 (mT t) (nI 1), upd x.2.1 x.2.2 (nI (mT t)), x.2.2 + 1) := if_pos ⟨h, by omega⟩
      have e2 : bT F t = true := decide_eq_true h
      rw [e1, e2, if_pos rfl]
      obtain ⟨g1, g2⟩ := gth_l hn l (upd x.1 (mT t) (nI 1), upd x.2.1 x.2.2 (nI (mT t)), x.2.2 + 1) hl' (by dsimp only; omega)
      refine ⟨?_, fun s => ?_⟩
      · rw [g1, rg_sn (Nat.zero_le _), List.map_append, List.map_cons, List.map_nil, List.map_cons, List.append_assoc, List.singleton_append]
        congr 1
        · refine List.map_congr_left fun i hi => ?_
          have hi := (rg_mem.mp hi).2
          unfold bN
          simp only [upd]
          rw [if_neg (by omega)]
        · congr 1
          unfold bN
          simp only [upd, if_true]
          exact eN_nI (show msk t.1 t.2.1 t.2.2 < 1000 by omega)
      · rw [g2 s, List.any_cons]
        by_cases hs : mT t = s
        · rw [decide_eq_true hs, Bool.true_or, if_pos rfl]
          split
          · rfl
          · simp [upd, hs]
        · rw [decide_eq_false hs, Bool.false_or]
          simp only [upd]
          rw [if_neg (show ¬ s = mT t from fun h => hs h.symm)]
theorem trip_20 (hn : n ≤ 6) : (trip n).length ≤ 20 := by
  rw [trip_len n (by omega)]
  match n, hn with
  | 0, _ | 1, _ | 2, _ | 3, _ | 4, _ | 5, _ | 6, _ => decide
theorem gth_bs (hn : n ≤ 6) : (rg 0 (gth n F gzZ gzZ).2.2).map (bN (gth n F gzZ gzZ).2.1) = ((trip n).filter (bT F)).map mT := by
  have h := (gth_l (F := F) hn (trip n) (gth0 gzZ, gzZ, 0) (fun t ht => by have := trip_mem.mp ht; omega) (by have := trip_20 hn; dsimp only; omega)).1
  exact h
theorem gth_be (hn : n ≤ 6) {s : Nat} (hs : s < 64) : decide ((gth n F gzZ gzZ).1 s ≠ 0) = (trip n).any fun t => bT F t && decide (mT t = s) := by
  have h := (gth_l (F := F) hn (trip n) (gth0 gzZ, gzZ, 0) (fun t ht => by have := trip_mem.mp ht; omega) (by have := trip_20 hn; dsimp only; omega)).2 s
  have h0 : gth0 gzZ s = nI 0 := gth0_z 64 0 gzZ rfl (fun s h => absurd h (Nat.not_lt_zero s)) s hs
  rw [List.any_filter] at h
  unfold gth
  rw [h]
  dsimp only
  simp only [h0]
  cases (trip n).any fun t => bT F t && decide (mT t = s) <;> decide
theorem gth_all (hn : n ≤ 6) {p : Nat → Bool} : ((rg 0 (gth n F gzZ gzZ).2.2).all fun i => p (bN (gth n F gzZ gzZ).2.1 i)) = (trip n).all fun t => !bT F t || p (mT t) := by
  have h := congrArg (fun l => l.all p) (gth_bs (F := F) hn)
  rw [List.all_map, List.all_map, List.all_filter] at h
  exact h
theorem gth_pos (hn : n ≤ 6) : decide (0 < (gth n F gzZ gzZ).2.2) = (trip n).any (bT F) := by
  have h := congrArg (fun l => l.all fun _ => false) (gth_bs (F := F) hn)
  rw [List.all_map, List.all_map, List.all_filter] at h
  have e : ((trip n).any (bT F)) = !((trip n).all fun a => !bT F a || ((fun _ => false) ∘ mT) a) := by
    rw [List.not_all_eq_any_not]
    congr 1
    funext t
    simp
  rw [e, ← h]
  generalize (gth n F gzZ gzZ).2.2 = m
  cases m with
  | zero => rfl
  | succ m =>
    rw [rg_cons (Nat.succ_pos m), List.all_cons]
    rfl
theorem hxC_l (hn : n ≤ 6) : hxC (gth n F gzZ gzZ) = (trip n).all fun t => !bT F t || (trip n).all fun u => !bT F u || cxC (gth n F gzZ gzZ).1 (mT t) (mT u) := by
  unfold hxC
  rw [gth_all hn (p := fun r => (rg 0 (gth n F gzZ gzZ).2.2).all fun j => cxC (gth n F gzZ gzZ).1 r (bN (gth n F gzZ gzZ).2.1 j))]
  refine all_congr fun t _ => ?_
  rw [gth_all hn (p := fun r => cxC (gth n F gzZ gzZ).1 (mT t) r)]
theorem bT_eq (h : AR n F G R) (hF : AI F) (hn : n ≤ 6) {t : T3} (ht : t ∈ trip n) : bT F t = baB R t.1 t.2.1 t.2.2 := by
  have ht := trip_mem.mp ht
  unfold bT baB
  rw [show F (i6 t.1 t.2.1 t.2.2) = mS R t.1 t.2.1 t.2.2 from AR_F h hF.2.2.2 hn (by omega) (by omega) (by omega)]
theorem any_congr {α : Type} {l : List α} {p q : α → Bool} (h : ∀ a ∈ l, p a = q a) : l.any p = l.any q := by
  induction l with
  | nil => rfl
  | cons a l ih => rw [List.any_cons, List.any_cons, h a List.mem_cons_self, ih fun b hb => h b (List.mem_cons_of_mem _ hb)]
theorem gth_bm (h : AR n F G R) (hF : AI F) (hn : n ≤ 6) {s : Nat} (hs : s < 64) : decide ((gth n F gzZ gzZ).1 s ≠ 0) = bmB n R s := by
  rw [gth_be hn hs]
  unfold bmB
  refine any_congr fun t ht => ?_
  rw [bT_eq h hF hn ht, Bool.and_comm]
  rfl
theorem trip_6 (hn : n ≤ 6) {t : T3} (ht : t ∈ trip n) : t ∈ trip 6 := by
  have := trip_mem.mp ht
  exact trip_mem.mpr ⟨this.1, this.2.1, by omega⟩
theorem cx_eq (h : AR n F G R) (hF : AI F) (hn : n ≤ 6) {t u : T3} (ht : t ∈ trip n) (hu : u ∈ trip n) : cxC (gth n F gzZ gzZ).1 (mT t) (mT u) = eaB R t.1 t.2.1 t.2.2 u.1 u.2.1 u.2.2 := by
  have hb := List.all_eq_true.mp (List.all_eq_true.mp cn_b t (trip_6 hn ht)) u (trip_6 hn hu)
  obtain ⟨h1, h2⟩ := Bool.and_eq_true_iff.mp hb
  have h1 := of_decide_eq_true h1
  rw [cxC_l, eaB_l hn (trip_mem.mp ht) (trip_mem.mp hu)]
  unfold mT
  rw [← h1]
  refine all_congr fun l hl => any_congr fun s hs => gth_bm h hF hn ?_
  exact of_decide_eq_true (List.all_eq_true.mp (List.all_eq_true.mp h2 l hl) s hs)
theorem cnt_pos {l : List T3} {p : T3 → Bool} : ∀ (k : Nat), k + l.length < 1000 → ∃ j, k ≤ j ∧ j ≤ k + l.length ∧ l.foldl (fun x t => x + if p t = true then nI 1 else nI 0) (nI k) = nI j ∧ (k < j ↔ l.any p = true) := by
  induction l with
  | nil => exact fun k _ => ⟨k, Nat.le_refl _, Nat.le_refl _, rfl, by simp⟩
  | cons t l ih =>
    intro k hk
    rw [List.length_cons] at hk
    rw [List.foldl_cons, List.any_cons, List.length_cons]
    cases hp : p t with
    | true =>
      rw [if_pos (show true = true from rfl), nI_add]
      obtain ⟨j, h1, h2, h3, h4⟩ := ih (k + 1) (by omega)
      exact ⟨j, by omega, by omega, h3, by rw [Bool.true_or]; exact ⟨fun _ => rfl, fun _ => by omega⟩⟩
    | false =>
      rw [if_neg (show ¬ false = true by decide), show nI k + nI 0 = nI k from Int32.add_zero _]
      obtain ⟨j, h1, h2, h3, h4⟩ := ih k (by omega)
      exact ⟨j, by omega, by omega, h3, by rw [Bool.false_or]; exact h4⟩
theorem bsM_pos (hn : n ≤ 6) : decide (0 < bsM n R) = (trip n).any fun t => baB R t.1 t.2.1 t.2.2 := by
  have hl := trip_20 hn
  obtain ⟨j, h1, h2, h3, h4⟩ := cnt_pos (l := trip n) (p := fun t => baB R t.1 t.2.1 t.2.2) 0 (by omega)
  have e : bsM n R = nI j := by
    rw [← h3]
    unfold bsM
    refine fold_rel2 (R := fun (x y : Int32) => x = y) (fun t _ x y hxy => ?_) rfl
    rw [hxy]
    congr 1
    unfold baB
    by_cases h : mS R t.1 t.2.1 t.2.2 = 0
    · rw [if_pos h, decide_eq_false (fun h' => h' h)]; rfl
    · rw [if_neg h, decide_eq_true h]; rfl
  rw [e]
  have e2 : (0 < nI j) ↔ 0 < j := nI_ltI (show 0 < 2 ^ 31 by decide) (show j < 2 ^ 31 by omega)
  cases ha : (trip n).any fun t => baB R t.1 t.2.1 t.2.2 with
  | true => exact decide_eq_true (e2.mpr (h4.mpr ha))
  | false => exact decide_eq_false fun h => by have := h4.mp (e2.mp h); rw [ha] at this; cases this
theorem ex_eq (h : AR n F G R) (hF : AI F) (hn : n ≤ 6) : exO n F = exM n R := by
  unfold exO exM
  rw [hxC_l hn, gth_pos hn, bsM_pos hn, Bool.and_comm]
  congr 1
  · exact any_congr fun t ht => bT_eq h hF hn ht
  · refine all_congr fun t ht => ?_
    rw [bT_eq h hF hn ht]
    congr 1
    unfold aeB
    refine all_congr fun u hu => ?_
    rw [bT_eq h hF hn hu, cx_eq h hF hn ht hu]
theorem or_eq (h : AR n F G R) (hF : AI F) (hn : n ≤ 6) : orO n F = orM n R := by
  unfold orO orM
  rw [bd_eq h hF hn, ex_eq h hF hn, Bool.and_comm]
end
