/-! going back; boxes made and counted; loops and parallels -/
section
variable {d n k j x s : Nat} {m : Mem} {q : MemJ}
theorem x_H_takeLatest (hx : m 7 1 = nI x) (hx8 : x < 8) (hs : m 7 2 = nI s) (hs1 : 1 ≤ s) (h1 : zA m (9 + 3 * (if 0 < x then x - 1 else 7))) (h2 : zA m 1) : ev (d + 6) 73 0 [.ref 7, .ref 1] [] (mk shC m q) = some (none, mk shC (cpE (mu m 7 (upd (upd (m 7) 1 (nI (if 0 < x then x - 1 else 7))) 2 (nI (s - 1)))) 1 (9 + 3 * (if 0 < x then x - 1 else 7))) q) := by
  have r : ∀ {D y : Nat} {mm : Mem}, y < 8 → ev D 73 41 [.ref 7, .ref 1] [.int (nI y), .ref 8, .ref 1] (mk shC mm q) = ev D 73 42 [.ref 7, .ref 1] [.ref (9 + 3 * y), .ref 1] (mk shC mm q) := fun hy => s73_41 (t := 0) shC_8 (by decide) hy (by decide) (hst_at _ hy)
  have hz : ∀ f y, zA m (9 + 3 * y) → zA (mu m 7 f) (9 + 3 * y) := fun f y h => ⟨by rw [mu_ne (by omega)]; exact h.1, by rw [mu_ne (by omega)]; exact h.2⟩
  have hz1 : ∀ f, zA (mu m 7 f) 1 := fun f => ⟨by rw [mu_ne (by decide)]; exact h2.1, by rw [mu_ne (by decide)]; exact h2.2⟩
  have h00 : (0 : Int32) = nI 0 := rfl
  by_cases h0 : 0 < x
  · rw [if_pos h0] at h1 ⊢
    simp only [s73_0, s73_1, s73_2, s73_5, s73_8, s73_9, s73_12, s73_13, s73_14, s73_17, s73_19, s73_22, s73_23, s73_24, s73_27, s73_28, s73_29, s73_32, s73_33, s73_34, s73_37, s73_38, s73_41, s73_42, s73_45, hx, h00, nI_ltI (show 0 < 2 ^ 31 by decide) (show x < 2 ^ 31 by omega), h0, if_true, nI_sub (show 1 ≤ x by omega), mu_same, mu_mu, show upd (m 7) 1 (nI (x - 1)) 2 = nI s by simp [upd, hs], nI_sub hs1, show upd (upd (m 7) 1 (nI (x - 1))) 2 (nI (s - 1)) 1 = nI (x - 1) by simp [upd], r (show x - 1 < 8 by omega), oC0_1, x_A_cp oC0_1 (oC0_h (x - 1) (by omega)) (hz1 _) (hz _ _ h1), Option.bind_some, Option.toList_some, Option.toList_none, List.nil_append, List.cons_append]
  · rw [if_neg h0] at h1 ⊢
    simp only [s73_0, s73_1, s73_2, s73_5, s73_8, s73_9, s73_12, s73_13, s73_14, s73_17, s73_19, s73_22, s73_23, s73_24, s73_27, s73_28, s73_29, s73_32, s73_33, s73_34, s73_37, s73_38, s73_41, s73_42, s73_45, hx, h00, nI_ltI (show 0 < 2 ^ 31 by decide) (show x < 2 ^ 31 by omega), h0, if_false, mu_same, mu_mu, show upd (m 7) 1 (nI 7) 2 = nI s by simp [upd, hs], nI_sub hs1, show upd (upd (m 7) 1 (nI 7)) 2 (nI (s - 1)) 1 = nI 7 by simp [upd], r (show 7 < 8 by omega), oC0_1, x_A_cp oC0_1 (oC0_h 7 (by omega)) (hz1 _) (hz _ _ h1), Option.bind_some, Option.toList_some, Option.toList_none, List.nil_append, List.cons_append]
theorem x_B_make {b : Bool} {l : Nat} (ho : oC1 k) : ∃ f, (∀ i, i < 6 → f i = nI 0) ∧ ev (d + 1) 139 0 [.ref k, .int (bI b), .int (nI l)] [] (mk shC m q) = some (none, mk shC (mu (mu m k (upd (upd (upd (m k) 0 (nI 1)) 1 (bI b)) 2 (nI l))) (k + 2) f) q) := by
  obtain ⟨f, hf, e⟩ := x_Y_fill (d := d) (x := nI 0) (m := mu m k (upd (upd (upd (m k) 0 (nI 1)) 1 (bI b)) 2 (nI l))) (q := q) (oC1_t2 ho) (oC1_n2 ho) (by decide)
  refine ⟨f, hf, ?_⟩
  simp only [s139_0, s139_1, s139_2, s139_5, s139_6, s139_7, s139_10, s139_11, s139_12, s139_15, s139_16, s139_19, s139_20, s139_23, ho, am_b1, bI_b, mu_same, mu_mu, e, Option.bind_some, Option.toList_some, Option.toList_none, List.nil_append, List.cons_append]
/-- how many places hold one -/
def bxN (f : Nat → Int32) (l : Nat) : Nat := (rg 0 l).foldl (fun x i => if f i = 0 then x else x + 1) 0
theorem x_B_vectors {l : Nat} (ho : oC1 k) (hl : m k 2 = nI l) (hl6 : l ≤ 6) : ev (d + 1) 154 0 [.ref k, .null, .null] [] (mk shC m q) = some (some (.int (nI (bxN (m (k + 2)) l))), mk shC m q) := by
  have L := ev_for1 (fun _ => True) (fun i (x : Nat) (_ : Unit) => ev (d + 1) 154 4 [.ref k, .int (nI x), .int (nI i)] [] (mk shC m q)) (fun x => some (some (.int (nI x)), mk shC m q)) (fun i x => if m (k + 2) i = 0 then x else x + 1) l
    (fun x _ _ => by rw [s154_4]; simp only [s154_0, s154_1, s154_2, s154_3, s154_5, s154_6, s154_9, s154_12, s154_13, s154_14, s154_15, s154_18, s154_21, s154_22, s154_25, s154_26, s154_27, s154_28, s154_31, s154_34, s154_35, ho, hl, nI_irr, if_false])
    (fun _ _ _ _ => trivial)
    (fun i x _ hi _ => ⟨(), by
      rw [s154_4]
      simp only [s154_0, s154_1, s154_2, s154_3, s154_5, s154_6, s154_9, s154_12, s154_13, s154_14, s154_15, s154_18, s154_21, s154_22, s154_25, s154_26, s154_27, s154_28, s154_31, s154_34, s154_35, ho, hl, nI_lt hi (show l < 2 ^ 31 by omega), if_true, x_B_isEmptyAt ho (show i < 6 by omega), Option.bind_some, Option.toList_some, Option.toList_none, List.nil_append, List.cons_append, bI_z]
      by_cases h : m (k + 2) i = 0
      · simp only [h, decide_true, Bool.true_eq_false, if_false, if_true, s154_0, s154_1, s154_2, s154_3, s154_5, s154_6, s154_9, s154_12, s154_13, s154_14, s154_15, s154_18, s154_21, s154_22, s154_25, s154_26, s154_27, s154_28, s154_31, s154_34, s154_35, nI_add, Nat.add_zero]
      · simp only [h, decide_false, if_true, if_false, s154_0, s154_1, s154_2, s154_3, s154_5, s154_6, s154_9, s154_12, s154_13, s154_14, s154_15, s154_18, s154_21, s154_22, s154_25, s154_26, s154_27, s154_28, s154_31, s154_34, s154_35, nI_add]⟩) 0 (Nat.zero_le _) 0 () trivial
  simp only [s154_0, s154_1, s154_2, s154_3, s154_5, s154_6, s154_9, s154_12, s154_13, s154_14, s154_15, s154_18, s154_21, s154_22, s154_25, s154_26, s154_27, s154_28, s154_31, s154_34, s154_35]
  exact L
theorem bN_eq {x y : GX} (h : gEq x y) {i : Nat} (hi : i < x.2.2) : bN y.2.1 i = bN x.2.1 i := by
  unfold bN
  rw [h.2.2 i hi]
theorem cov_fold {f g : Nat → Nat} : ∀ {l : List Nat} {c : Nat}, (∀ i ∈ l, f i = g i) → l.foldl (fun c i => c ||| f i) c = l.foldl (fun c i => c ||| g i) c
  | [], _, _ => rfl
  | a :: l, c, hl => by
    rw [List.foldl_cons, List.foldl_cons, hl a List.mem_cons_self]
    exact cov_fold fun i hi => hl i (List.mem_cons_of_mem _ hi)
theorem covC_eq {x y : GX} (h : gEq x y) : covC x = covC y := by
  unfold covC
  rw [← h.2.1]
  exact cov_fold (f := bN x.2.1) (g := bN y.2.1) fun i hi => (bN_eq h (rg_mem.mp hi).2).symm
theorem inbC_eq {x y : GX} {t : Nat} (h : gEq x y) : inbC x t = inbC y t := by
  obtain ⟨h1, h2, h3⟩ := h
  unfold inbC
  rw [← h2]
  congr 1
  apply all_congr
  intro i hi
  rw [bN_eq ⟨h1, h2, h3⟩ (rg_mem.mp hi).2]
/-- the loops, and how many pairs are parallel -/
def loO (n : Nat) (F : Nat → Int32) : Nat := lopC n (gth n F gzZ gzZ)
def paO (n : Nat) (F : Nat → Int32) : Int32 := parC n (gth n F gzZ gzZ)
theorem lopC_eq {x y : GX} (h : gEq x y) : lopC n x = lopC n y := by unfold lopC; rw [covC_eq h]
theorem parC_eq {x y : GX} (h : gEq x y) : parC n x = parC n y := by
  unfold parC
  rw [lopC_eq h]
  congr 1
  funext z t
  rw [inbC_eq h]
theorem x_F_loops (hN : NI m n) : ∃ m', ev (d + 3) 157 0 [.ref 43] [] (mk shC m q) = some (some (.int (nI (loO n (m 2)))), mk shC m' q) ∧ fr [44, 45, 46] m m' := by
  have e := x_R_loops (d := d) (q := q) oC0_1 hN.1 hN.2.2.1 rfl
  rw [lopC_eq (gth_eq (β' := gzZ) (bs' := gzZ))] at e
  generalize hm : gH m (gth n (m (1 + 1)) (m 45) (m 46)).1 (gth n (m (1 + 1)) (m 45) (m 46)).2.1 (gth n (m (1 + 1)) (m 45) (m 46)).2.2 = m1 at e
  refine ⟨m1, ?_, hm ▸ gH_fr⟩
  simp only [s157_0, s157_1, s157_4, s157_5, s157_8, s157_11, e, Option.bind_some, Option.toList_some, Option.toList_none, List.nil_append, List.cons_append]
  rfl
theorem x_F_parallels (hN : NI m n) : ∃ m', ev (d + 4) 159 0 [.ref 43] [] (mk shC m q) = some (some (.int (paO n (m 2))), mk shC m' q) ∧ fr [44, 45, 46] m m' := by
  have e := x_R_parallels (d := d) (q := q) oC0_1 hN.1 hN.2.2.1 rfl
  rw [parC_eq (gth_eq (β' := gzZ) (bs' := gzZ))] at e
  generalize hm : gH m (gth n (m (1 + 1)) (m 45) (m 46)).1 (gth n (m (1 + 1)) (m 45) (m 46)).2.1 (gth n (m (1 + 1)) (m 45) (m 46)).2.2 = m1 at e
  refine ⟨m1, ?_, hm ▸ gH_fr⟩
  simp only [s159_0, s159_1, s159_4, s159_5, s159_8, s159_11, e, Option.bind_some, Option.toList_some, Option.toList_none, List.nil_append, List.cons_append]
  rfl
end
