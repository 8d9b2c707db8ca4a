/-! drop alike; swapping: the model's row -/
theorem ops_inv {α X : Type} {step : X → α → X} {ok : α → X → Prop} {V : α → Prop} (h1 : ∀ a x, V a → ok a (step x a)) (h2 : ∀ a b x, V a → V b → ok a x → ok a (step x b)) : ∀ (l : List α) (x : X), (∀ a ∈ l, V a) → ∀ a ∈ l, ok a (l.foldl step x)
  | [], _, _, _, h => by cases h
  | b :: l, x, hV, a, ha => by
    rw [List.foldl_cons]
    have keep : ∀ (l : List α) (x : X), (∀ b ∈ l, V b) → V a → ok a x → ok a (l.foldl step x) := by
      intro l
      induction l with
      | nil => intro x _ _ h; exact h
      | cons c l ih =>
        intro x hl hVa h
        rw [List.foldl_cons]
        exact ih _ (fun b hb => hl b (List.mem_cons_of_mem _ hb)) hVa (h2 a c x hVa (hl c List.mem_cons_self) h)
    rcases List.mem_cons.mp ha with h | h
    · subst h
      exact keep l _ (fun b hb => hV b (List.mem_cons_of_mem _ hb)) (hV a List.mem_cons_self) (h1 a x (hV a List.mem_cons_self))
    · exact ops_inv h1 h2 l _ (fun b hb => hV b (List.mem_cons_of_mem _ hb)) a h
theorem uP_b : ∀ a, a < 6 → ∀ b, b < 6 → ∀ c, c < 6 → (!(decide (a < b) && decide (b < c)) || decide ((trip 6).getD (pT a b c) (0, 0, 0) = (a, b, c))) = true := by decide +kernel
theorem uP {a b c : Nat} (hab : a < b) (hbc : b < c) (hc : c < 6) : (trip 6).getD (pT a b c) (0, 0, 0) = (a, b, c) := by
  have h := uP_b a (by omega) b (by omega) c hc
  rw [decide_eq_true hab, decide_eq_true hbc] at h
  simpa only [Bool.and_self, Bool.not_true, Bool.false_or, decide_eq_true_eq] using h
abbrev T3 : Type := Nat × Nat × Nat
def ris (n : Nat) (t : T3) : Prop := t.1 < t.2.1 ∧ t.2.1 < t.2.2 ∧ t.2.2 < n
def p3 (t : T3) : Nat := pT t.1 t.2.1 t.2.2
theorem p3_inj {t u : T3} (ht : ris 6 t) (hu : ris 6 u) (h : p3 t = p3 u) : t = u := by
  have a := uP ht.1 ht.2.1 ht.2.2
  have b := uP hu.1 hu.2.1 hu.2.2
  unfold p3 at h
  rw [h, b] at a
  exact a.symm
def drStep (W : Nat → Int32) (e : Nat) (R : Nat → Int32) : T3 ⊕ Nat → Nat → Int32
  | .inl t => sgU R t.1 t.2.1 t.2.2 (mS W (shf e t.1) (shf e t.2.1) (shf e t.2.2))
  | .inr a => ptM R a (W (21 + 3 * shf e a)) (W (21 + 3 * shf e a + 1)) (W (21 + 3 * shf e a + 2))
def drOps (k : Nat) : List (T3 ⊕ Nat) := (rg 0 k).flatMap fun a => ((rg (a + 1) k).flatMap fun b => (rg (b + 1) k).map fun c => .inl (a, b, c)) ++ [.inr a]
section
variable {a b c x y z n e f : Nat} {F G R W : Nat → Int32} {v : Int32}
theorem drM_ops {k : Nat} : drM W k e R = (drOps k).foldl (drStep W e) R := by
  unfold drM drOps
  rw [List.foldl_flatMap]
  congr 1
  funext R a
  rw [List.foldl_append, List.foldl_flatMap]
  simp only [List.foldl_map, List.foldl_cons, List.foldl_nil]
  rfl
theorem mS_W (h : ∀ i, i < 39 → W i = R i) (ha : a < 6) (hb : b < 6) (hc : c < 6) (hd : ¬ (a = b ∨ a = c ∨ b = c)) : mS W a b c = mS R a b c := by
  unfold mS
  have := pT_lt ha hb hc hd
  rw [h _ (by omega)]
theorem drM_at {k : Nat} (hk : k < 6) : (∀ a b c, a < b → b < c → c < k → drM W k e R (1 + pT a b c) = mS W (shf e a) (shf e b) (shf e c)) ∧ ∀ a i, a < k → i < 3 → mco (drM W k e R) a i = W (21 + 3 * shf e a + i) := by
  have key := ops_inv (step := drStep W e) (ok := fun o R => match o with
    | .inl t => R (1 + p3 t) = mS W (shf e t.1) (shf e t.2.1) (shf e t.2.2)
    | .inr a => ∀ i, i < 3 → mco R a i = W (21 + 3 * shf e a + i)) (V := fun o => match o with
    | .inl t => ris k t
    | .inr a => a < k) (fun o R hV => by
      cases o with
      | inl t =>
        show sgU R t.1 t.2.1 t.2.2 _ (1 + p3 t) = _
        rw [sgU_s hV.1 hV.2.1]
        simp [upd, p3]
      | inr a =>
        intro i hi
        show mco (ptM R a _ _ _) a i = _
        rw [mco_ptM hi, if_pos rfl]
        match i, hi with
        | 0, _ => rw [if_pos rfl, Nat.add_zero]
        | 1, _ => rw [if_neg (by decide), if_pos rfl]
        | 2, _ => rw [if_neg (by decide), if_neg (by decide)]) (fun o o' R hV hV' h => by
      cases o with
      | inl t =>
        have ht : ris 6 t := ⟨hV.1, hV.2.1, by have := hV.2.2; omega⟩
        have pt := pT_lt (show t.1 < 6 by have := ht.1; have := ht.2.1; have := ht.2.2; omega) (show t.2.1 < 6 by have := ht.2.1; have := ht.2.2; omega) ht.2.2 (by have := ht.1; have := ht.2.1; omega)
        cases o' with
        | inl u =>
          have hu : ris 6 u := ⟨hV'.1, hV'.2.1, by have := hV'.2.2; omega⟩
          show sgU R u.1 u.2.1 u.2.2 _ (1 + p3 t) = _
          rw [sgU_s hV'.1 hV'.2.1]
          simp only [upd]
          by_cases hp : p3 t = p3 u
          · have := p3_inj ht hu hp
            subst this
            rw [if_pos (show 1 + p3 t = 1 + pT t.1 t.2.1 t.2.2 from rfl)]
          · rw [if_neg (show ¬ 1 + p3 t = 1 + pT u.1 u.2.1 u.2.2 from fun h => hp (by unfold p3; unfold p3 at h; omega))]
            exact h
        | inr a =>
          show ptM R a _ _ _ (1 + p3 t) = _
          unfold ptM
          simp only [upd]
          have : p3 t < 20 := pt
          rw [if_neg (by omega), if_neg (by omega), if_neg (by omega)]
          exact h
      | inr a =>
        cases o' with
        | inl u =>
          intro i hi
          show mco (sgU R u.1 u.2.1 u.2.2 _) a i = _
          have := hV'.1
          have := hV'.2.1
          have := hV'.2.2
          rw [mco_sgU (by omega) (by omega) (by omega) (by omega)]
          exact h i hi
        | inr b =>
          intro i hi
          show mco (ptM R b _ _ _) a i = _
          rw [mco_ptM hi]
          by_cases hab : a = b
          · rw [if_pos hab, hab]
            match i, hi with
            | 0, _ => rw [if_pos rfl, Nat.add_zero]
            | 1, _ => rw [if_neg (by decide), if_pos rfl]
            | 2, _ => rw [if_neg (by decide), if_neg (by decide)]
          · rw [if_neg hab]
            exact h i hi) (drOps k) R (fun o ho => by
      unfold drOps at ho
      obtain ⟨a, ha, ho⟩ := List.mem_flatMap.mp ho
      have ha := rg_mem.mp ha
      rcases List.mem_append.mp ho with ho | ho
      · obtain ⟨b, hb, ho⟩ := List.mem_flatMap.mp ho
        obtain ⟨c, hc, rfl⟩ := List.mem_map.mp ho
        have hb := rg_mem.mp hb
        have hc := rg_mem.mp hc
        exact ⟨show a < b by omega, show b < c by omega, hc.2⟩
      · have : o = .inr a := by simpa using ho
        subst this
        exact ha.2)
  rw [← drM_ops] at key
  constructor
  · intro a b c hab hbc hc
    refine key (.inl (a, b, c)) ?_
    unfold drOps
    refine List.mem_flatMap.mpr ⟨a, rg_mem.mpr (by omega), List.mem_append_left _ (List.mem_flatMap.mpr ⟨b, rg_mem.mpr (by omega), List.mem_map.mpr ⟨c, rg_mem.mpr (by omega), rfl⟩⟩)⟩
  · intro a i ha hi
    refine key (.inr a) ?_ i hi
    unfold drOps
    exact List.mem_flatMap.mpr ⟨a, rg_mem.mpr (by omega), List.mem_append_right _ (by simp)⟩
theorem drM_0 {k : Nat} : drM W k e R 0 = R 0 := by
  unfold drM
  exact fold_inv (P := fun x : Nat → Int32 => x 0 = R 0) (fun a _ x hx => ptM_0.trans (drA_0.trans hx)) rfl
/-- drop -/
theorem AR_drop (h : AR (n + 1) F G R) (hF : AI F) (hn : n < 6) (he : e ≤ n) (hW : ∀ i, i < 39 → W i = R i) {R1 : Nat → Int32} (h0 : R1 0 = nI n) : AR n (rmS n e F) (rmP n e G) (drM W n e R1) ∧ AI (rmS n e F) := by
  obtain ⟨t1, t2⟩ := rmS_T hF hn he
  obtain ⟨d1, d2⟩ := drM_at (W := W) (e := e) (R := R1) hn
  refine ⟨AR_rise (drM_0.trans h0) (by omega) t2.2.1 (fun a b c hab hbc hc => ?_) (fun x i hx hi => ?_), t2⟩
  · have hb := rmT_b n hn e (by omega)
    rw [List.all_eq_true] at hb
    have hb := hb (a, b, c) (trip_mem.mpr ⟨hab, hbc, hc⟩)
    rw [decide_eq_true he, Bool.not_true, Bool.false_or, decide_eq_true_eq] at hb
    have s1 := shf_mono (e := e) hab
    have s2 := shf_mono (e := e) hbc
    have s3 := shf_lt (e := e) hc
    rw [t1, mS_s hab hbc, d1 a b c hab hbc hc]
    show tkV F (rmT n e (i6 a b c)) = _
    rw [hb]
    show F (i6 (shf e a) (shf e b) (shf e c)) = _
    rw [mS_W hW (by omega) (by omega) (by omega) (by omega)]
    exact AR_F h hF.2.2.2 (by omega) (by omega) (by omega) s3
  · rw [d2 x i hx hi]
    have := rmP_at (e := e) n G x i hi
    rw [if_pos hx] at this
    unfold rmP
    rw [this]
    have s3 := shf_lt (e := e) hx
    rw [h.2.2 (shf e x) i s3 hi, hW _ (by omega)]
    rfl
end
