/-! what every arrangement keeps; deeds alike on both sides -/
def AL (F : Nat → Int32) : Prop := ∃ R, ARs (fun _ => true) F R
def AI (F : Nat → Int32) : Prop := isSF F ∧ AL F ∧ zaF F 216 ∧ dgF F
theorem tO_b : ∀ x, x < 6 → ∀ y, y < 6 → ∀ z, z < 6 → (!(decide (x < y) && decide (y < z)) || ((decide (pT y x z = pT x y z) && decide (pT z y x = pT x y z)) && ((decide (pT x z y = pT x y z) && decide (pT z x y = pT x y z)) && decide (pT y z x = pT x y z)))) = true := by decide +kernel
theorem tO_c : ∀ x, x < 6 → ∀ y, y < 6 → ∀ z, z < 6 → (!(decide (x < y) && decide (y < z)) || (((decide (tO x y z = 1) && decide (tO y x z = -1)) && (decide (tO z y x = -1) && decide (tO x z y = -1))) && (decide (tO z x y = 1) && decide (tO y z x = 1)))) = true := by decide +kernel
theorem pT_p {x y z : Nat} (hxy : x < y) (hyz : y < z) (hz : z < 6) : (pT y x z = pT x y z ∧ pT z y x = pT x y z) ∧ (pT x z y = pT x y z ∧ pT z x y = pT x y z) ∧ pT y z x = pT x y z := by
  have h := tO_b x (by omega) y (by omega) z hz
  rw [decide_eq_true hxy, decide_eq_true hyz] at h
  simpa only [Bool.and_self, Bool.not_true, Bool.false_or, Bool.and_eq_true, decide_eq_true_eq] using h
theorem tO_p {x y z : Nat} (hxy : x < y) (hyz : y < z) (hz : z < 6) : ((tO x y z = 1 ∧ tO y x z = -1) ∧ tO z y x = -1 ∧ tO x z y = -1) ∧ tO z x y = 1 ∧ tO y z x = 1 := by
  have h := tO_c x (by omega) y (by omega) z hz
  rw [decide_eq_true hxy, decide_eq_true hyz] at h
  simpa only [Bool.and_self, Bool.not_true, Bool.false_or, Bool.and_eq_true, decide_eq_true_eq] using h
section
variable {a b c x y z n e f : Nat} {F G R : Nat → Int32} {v : Int32}
/-- the other orders of three that rise -/
theorem mS_p (hxy : x < y) (hyz : y < z) (hz : z < 6) : (mS R y x z = -(mS R x y z) ∧ mS R z y x = -(mS R x y z)) ∧ (mS R x z y = -(mS R x y z) ∧ mS R z x y = mS R x y z) ∧ mS R y z x = mS R x y z := by
  obtain ⟨⟨p1, p2⟩, ⟨p3, p4⟩, p5⟩ := pT_p hxy hyz hz
  obtain ⟨⟨⟨t0, t1⟩, t2, t3⟩, t4, t5⟩ := tO_p hxy hyz hz
  unfold mS
  rw [p1, p2, p3, p4, p5, t0, t1, t2, t3, t4, t5, Int32.one_mul]
  have : ∀ r : Int32, -1 * r = -r := fun r => (Int32.neg_eq_neg_one_mul r).symm
  simp only [this, and_self]
theorem AL_alF (h : AL F) : alF F := by
  obtain ⟨R, hR⟩ := h
  intro x y z hxy hyz hz
  have k : ∀ {a b c}, a < 6 → b < 6 → c < 6 → ¬ (a = b ∨ a = c ∨ b = c) → F (i6 a b c) = mS R a b c := fun ha hb hc hd => hR _ _ _ ha hb hc hd rfl
  obtain ⟨⟨m1, m2⟩, ⟨m3, m4⟩, m5⟩ := mS_p (R := R) hxy hyz hz
  have e0 := k (show x < 6 by omega) (show y < 6 by omega) hz (by omega)
  funext i
  rw [sg6_sx]
  unfold sx3
  by_cases h1 : i = i6 y x z
  · rw [if_pos h1, if_pos rfl, h1, k (show y < 6 by omega) (show x < 6 by omega) hz (by omega), m1, e0]
  rw [if_neg h1]
  by_cases h2 : i = i6 z y x
  · rw [if_pos h2, if_pos rfl, h2, k hz (show y < 6 by omega) (show x < 6 by omega) (by omega), m2, e0]
  rw [if_neg h2]
  by_cases h3 : i = i6 x z y
  · rw [if_pos h3, if_pos rfl, h3, k (show x < 6 by omega) hz (show y < 6 by omega) (by omega), m3, e0]
  rw [if_neg h3]
  by_cases h4 : i = i6 z x y
  · rw [if_pos h4, if_neg (by decide), if_pos rfl, h4, k hz (show x < 6 by omega) (show y < 6 by omega) (by omega), m4, e0]
  rw [if_neg h4]
  by_cases h5 : i = i6 y z x
  · rw [if_pos h5, if_neg (by decide), if_pos rfl, h5, k (show y < 6 by omega) hz (show x < 6 by omega) (by omega), m5, e0]
  rw [if_neg h5]
  by_cases h6 : i = i6 x y z
  · rw [if_pos h6, if_neg (by decide), if_pos rfl, h6]
  rw [if_neg h6, if_neg (by decide), if_neg (by decide)]
theorem isSF_sg (h : isSF F) (hv : isSg v) : isSF (sg6 F a b c v) := fun i hi => by
  rw [sg6_sx]
  split
  · exact isSg_neg hv
  · split
    · exact hv
    · exact h i hi
theorem AI_sg (h : AI F) (hv : isSg v) (ha : a < 6) (hb : b < 6) (hc : c < 6) (hd : ¬ (a = b ∨ a = c ∨ b = c)) : AI (sg6 F a b c v) := by
  obtain ⟨h1, ⟨R, h2⟩, h3, h4⟩ := h
  exact ⟨isSF_sg h1 hv, ⟨sgU R a b c v, ARs_wk (ARs_sg h2 ha hb hc hd) fun _ _ => rfl⟩, sg6_za h3 ha hb hc, dgF_sg h4 ha hb hc hd⟩
theorem sgn_sg (x : Int32) : isSg (sgn x) := by
  unfold sgn
  split
  · exact Or.inr (Or.inl rfl)
  · split
    · exact Or.inr (Or.inr rfl)
    · exact Or.inl rfl
theorem fold_rel2 {α X Y : Type} {R : X → Y → Prop} {f : X → α → X} {g : Y → α → Y} : ∀ {l : List α} {x : X} {y : Y}, (∀ a ∈ l, ∀ x y, R x y → R (f x a) (g y a)) → R x y → R (l.foldl f x) (l.foldl g y)
  | [], _, _, _, h => h
  | a :: l, x, y, hs, h => fold_rel2 (l := l) (fun b hb => hs b (List.mem_cons_of_mem _ hb)) (hs a List.mem_cons_self x y h)
theorem AI_F (h : AI F) (ha : a < 6) (hb : b < 6) (hc : c < 6) : isSg (F (i6 a b c)) := h.1 _ (by unfold i6; omega)
/-- draw -/
theorem AR_draw (h : AR n F G R) (hF : AI F) (hn : n ≤ 6) : AR n (tkt n G F).1 G (dwM n R).1 ∧ AI (tkt n G F).1 ∧ (tkt n G F).2 = (dwM n R).2 := by
  unfold tkt dwM
  refine fold_rel2 (R := fun (x y : (Nat → Int32) × Int32) => AR n x.1 G y.1 ∧ AI x.1 ∧ x.2 = y.2) (fun t ht x y hxy => ?_) ⟨h, hF, rfl⟩
  obtain ⟨h1, h2, h3⟩ := hxy
  have ht := trip_mem.mp ht
  have e1 : sgn (trn G t.1 t.2.1 t.2.2) = sgM (mtn y.1 t.1 t.2.1 t.2.2) := by rw [sgn_sgM, trn_mtn h1.2.2 (by omega) (by omega) (by omega)]
  have e2 : x.1 ((t.1 * 6 + t.2.1) * 6 + t.2.2) = mS y.1 t.1 t.2.1 t.2.2 := AR_F h1 h2.2.2.2 hn (by omega) (by omega) (by omega)
  refine ⟨?_, AI_sg h2 (sgn_sg _) (by omega) (by omega) (by omega) (by omega), ?_⟩
  · show AR n (sg6 x.1 t.1 t.2.1 t.2.2 (sgn (trn G t.1 t.2.1 t.2.2))) G (sgU y.1 t.1 t.2.1 t.2.2 (sgM (mtn y.1 t.1 t.2.1 t.2.2)))
    rw [← e1]
    exact AR_sg h1 hn (by omega) (by omega) (by omega) (by omega)
  · show x.2 + (if sgn (trn G t.1 t.2.1 t.2.2) = x.1 ((t.1 * 6 + t.2.1) * 6 + t.2.2) then 0 else 1) = y.2 + (if sgM (mtn y.1 t.1 t.2.1 t.2.2) = mS y.1 t.1 t.2.1 t.2.2 then nI 0 else nI 1)
    rw [e1, e2, h3]
    rfl
theorem neg0 : -(0 : Int32) = 0 := by decide
/-- flip -/
theorem AR_flip (h : AR n F G R) (hF : AI F) (hn : n ≤ 6) (he : e < n) : AR n (rvs n e F).1 (rvP G e) (ngM (flM n e R).1 e) ∧ AI (rvs n e F).1 ∧ (rvs n e F).2 = (flM n e R).2 := by
  have key : AR n (rvs n e F).1 G (flM n e R).1 ∧ AI (rvs n e F).1 ∧ (rvs n e F).2 = (flM n e R).2 := by
    unfold rvs flM
    refine fold_rel2 (R := fun (x y : (Nat → Int32) × Int32) => AR n x.1 G y.1 ∧ AI x.1 ∧ x.2 = y.2) (fun t ht x y hxy => ?_) ⟨h, hF, rfl⟩
    obtain ⟨h1, h2, h3⟩ := hxy
    have ht := prs_mem.mp ht
    unfold flS
    by_cases c1 : t.1 ≠ e ∧ t.2 ≠ e
    · rw [if_pos c1]
      have hd : ¬ (e = t.1 ∨ e = t.2 ∨ t.1 = t.2) := by omega
      have e2 : x.1 ((e * 6 + t.1) * 6 + t.2) = mS y.1 e t.1 t.2 := AR_F h1 h2.2.2.2 hn he (by omega) (by omega)
      by_cases c2 : x.1 ((e * 6 + t.1) * 6 + t.2) = 0
      · rw [if_neg (fun h => h.2.2 c2)]
        rw [e2] at c2
        refine ⟨?_, h2, ?_⟩
        · show AR n x.1 G (sgU y.1 e t.1 t.2 (-(mS y.1 e t.1 t.2)))
          have := AR_same h1 hn (show e < 6 by omega) (show t.1 < 6 by omega) (show t.2 < 6 by omega) hd
          rw [c2] at this ⊢
          rw [neg0]
          exact this
        · show x.2 = y.2 + (if mS y.1 e t.1 t.2 = 0 then nI 0 else nI 1)
          rw [if_pos c2, h3, show nI 0 = 0 from rfl, Int32.add_zero]
      · rw [if_pos ⟨c1.1, c1.2, c2⟩]
        refine ⟨?_, AI_sg h2 (isSg_neg (AI_F h2 (by omega) (by omega) (by omega))) (by omega) (by omega) (by omega) hd, ?_⟩
        · show AR n (sg6 x.1 e t.1 t.2 (-(x.1 ((e * 6 + t.1) * 6 + t.2)))) G (sgU y.1 e t.1 t.2 (-(mS y.1 e t.1 t.2)))
          rw [e2]
          exact AR_sg h1 hn he (by omega) (by omega) hd
        · show x.2 + 1 = y.2 + (if mS y.1 e t.1 t.2 = 0 then nI 0 else nI 1)
          rw [e2] at c2
          rw [if_neg c2, h3]
          rfl
    · rw [if_neg c1, if_neg (fun h => c1 ⟨h.1, h.2.1⟩)]
      exact ⟨h1, h2, h3⟩
  refine ⟨?_, key.2⟩
  unfold rvP ngM
  have k := key.1.2.2
  have k0 := k e 0 he (by decide)
  have k1 := k e 1 he (by decide)
  have k2 := k e 2 he (by decide)
  rw [Nat.add_zero] at k0
  rw [k0, k1, k2]
  exact AR_pt key.1
/-- add -/
theorem AR_add {X Y Z : Int32} (h : AR n F G R) (hF : AI F) (hn : n < 6) : AR (n + 1) (apn n (pt3 G n X Y Z) F) (pt3 G n X Y Z) (upd (adM n (ptM R n X Y Z)) 0 (nI (n + 1))) ∧ AI (apn n (pt3 G n X Y Z) F) := by
  have h0 := AR_pt (e := n) (X := X) (Y := Y) (Z := Z) h
  have hp : ∀ e i, e < n + 1 → i < 3 → pt3 G n X Y Z (e * 3 + i) = mco (ptM R n X Y Z) e i := fun f i hf hi => by
    rw [mco_ptM hi, pt3_at hi]
    split
    · rfl
    · exact h.2.2 f i (by omega) hi
  generalize pt3 G n X Y Z = G' at h0 hp ⊢
  generalize ptM R n X Y Z = R' at h0 hp ⊢
  -- the pairs done so far
  have key : ∀ l : List (Nat × Nat), (∀ t ∈ l, t.1 < t.2 ∧ t.2 < n) → ∀ (P : Nat → Bool) (x y : Nat → Int32), ARs P x y → AI x → (∀ e i, e < n + 1 → i < 3 → G' (e * 3 + i) = mco y e i) → ARs (fun p => P p || l.any fun t => pT t.1 t.2 n == p) (l.foldl (fun f t => sg6 f t.1 t.2 n (sgn (trn G' t.1 t.2 n))) x) (l.foldl (fun R t => sgU R t.1 t.2 n (sgM (mtn R t.1 t.2 n))) y) ∧ AI (l.foldl (fun f t => sg6 f t.1 t.2 n (sgn (trn G' t.1 t.2 n))) x) ∧ (∀ e i, e < n + 1 → i < 3 → G' (e * 3 + i) = mco (l.foldl (fun R t => sgU R t.1 t.2 n (sgM (mtn R t.1 t.2 n))) y) e i) := by
    intro l
    induction l with
    | nil => intro _ P x y h1 h2 h3; exact ⟨ARs_wk h1 fun p hp => by simpa using hp, h2, h3⟩
    | cons t l ih =>
      intro hl P x y h1 h2 h3
      have ht := hl t List.mem_cons_self
      have hd : ¬ (t.1 = t.2 ∨ t.1 = n ∨ t.2 = n) := by omega
      have e1 : sgn (trn G' t.1 t.2 n) = sgM (mtn y t.1 t.2 n) := by rw [sgn_sgM, trn_mtn h3 (by omega) (by omega) (by omega)]
      have s1 := ARs_sg (v := sgn (trn G' t.1 t.2 n)) h1 (show t.1 < 6 by omega) (show t.2 < 6 by omega) hn hd
      have := ih (fun t ht => hl t (List.mem_cons_of_mem _ ht)) _ (sg6 x t.1 t.2 n (sgn (trn G' t.1 t.2 n))) (sgU y t.1 t.2 n (sgM (mtn y t.1 t.2 n))) (by rw [← e1]; exact s1) (AI_sg h2 (sgn_sg _) (by omega) (by omega) hn hd) (fun e i he hi => by rw [mco_sgU (by omega) (by omega) hn hd]; exact h3 e i he hi)
      rw [List.foldl_cons, List.foldl_cons]
      refine ⟨ARs_wk this.1 fun p hp => ?_, this.2⟩
      rw [List.any_cons] at hp
      rcases Bool.or_eq_true _ _ |>.mp hp with h | h
      · simp only [h, Bool.true_or]
      · rcases Bool.or_eq_true _ _ |>.mp h with h | h
        · rw [beq_iff_eq] at h
          simp only [h, decide_true, Bool.or_true, Bool.true_or]
        · simp only [h, Bool.or_true]
  obtain ⟨k1, k2, k3⟩ := key (prs n) (fun t ht => prs_mem.mp ht) (inN n) F R' h0.2.1 hF hp
  rw [show (prs n).foldl (fun f t => sg6 f t.1 t.2 n (sgn (trn G' t.1 t.2 n))) F = apn n G' F from rfl] at k1 k2
  rw [show (prs n).foldl (fun R t => sgU R t.1 t.2 n (sgM (mtn R t.1 t.2 n))) R' = adM n R' from rfl] at k1 k3
  have mS0 : ∀ a b c, mS (upd (adM n R') 0 (nI (n + 1))) a b c = mS (adM n R') a b c := fun a b c => by
    unfold mS
    simp only [upd]
    rw [if_neg (by omega)]
  refine ⟨⟨by simp [upd], fun a b c ha hb hc hd hP => ?_, fun e i he hi => ?_⟩, k2⟩
  · rw [mS0]
    refine k1 a b c ha hb hc hd ?_
    show (inN n (pT a b c) || (prs n).any fun t => pT t.1 t.2 n == pT a b c) = true
    have := (inN_iff (show n + 1 < 7 by omega) ha hb hc hd).mp hP
    by_cases hall : a < n ∧ b < n ∧ c < n
    · rw [(inN_iff (show n < 7 by omega) ha hb hc hd).mpr hall, Bool.true_or]
    · have : (prs n).any (fun t => pT t.1 t.2 n == pT a b c) = true := by
        have hb' : ∀ n, n < 6 → ∀ a, a < 6 → ∀ b, b < 6 → ∀ c, c < 6 → (!(dis3 a b c && (decide (a < n + 1) && (decide (b < n + 1) && (decide (c < n + 1) && !(decide (a < n) && (decide (b < n) && decide (c < n))))))) || (prs n).any (fun t => pT t.1 t.2 n == pT a b c)) = true := by decide +kernel
        have h := hb' n hn a ha b hb c hc
        rw [dis3_t.mpr hd, decide_eq_true this.1, decide_eq_true this.2.1, decide_eq_true this.2.2] at h
        have hf : (decide (a < n) && (decide (b < n) && decide (c < n))) = false := by
          cases hq : (decide (a < n) && (decide (b < n) && decide (c < n))) with
          | false => rfl
          | true =>
            simp only [Bool.and_eq_true, decide_eq_true_eq] at hq
            exact absurd hq hall
        rw [hf] at h
        simpa using h
      rw [this, Bool.or_true]
  · have : mco (upd (adM n R') 0 (nI (n + 1))) e i = mco (adM n R') e i := by
      unfold mco
      simp only [upd]
      rw [if_neg (by omega)]
    rw [this]
    exact k3 e i he hi
end
