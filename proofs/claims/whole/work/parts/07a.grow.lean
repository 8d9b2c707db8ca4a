/-! the cells grow, and keep their sizes -/
def am_cs (e : AE) : Nat := match e with
  | .inl (_, n, _) => n
  | .inr (_, fs) => fs.length
def am_sum (h : AH) : Nat := (h.map am_cs).sum
theorem am_sum_set {h : AH} {a : Nat} {x y : AE} (hx : h[a]? = some x) (hs : am_cs y = am_cs x) : am_sum (h.set a y) = am_sum h := by
  unfold am_sum
  induction h generalizing a with
  | nil => simp at hx
  | cons b r ih =>
    cases a with
    | zero =>
      simp at hx
      subst hx
      simp [hs]
    | succ k =>
      simp at hx
      simp only [List.set_cons_succ, List.map_cons, List.sum_cons]
      rw [ih hx]
theorem am_sum_app {h : AH} {y : AE} : am_sum (h ++ [y]) = am_sum h + am_cs y := by simp [am_sum]
def am_le (h h' : AH) : Prop := h.length ≤ h'.length ∧ am_sum h ≤ am_sum h' ∧ (h.length ≤ 1000 → h'.length ≤ 1000)
theorem am_le.rf {h : AH} : am_le h h := ⟨Nat.le_refl _, Nat.le_refl _, fun h => h⟩
theorem am_le.tr {a b c : AH} (x : am_le a b) (y : am_le b c) : am_le a c := ⟨Nat.le_trans x.1 y.1, Nat.le_trans x.2.1 y.2.1, fun h => y.2.2 (x.2.2 h)⟩
theorem am_le.set {h : AH} {a : Nat} {x y : AE} (hx : h[a]? = some x) (hs : am_cs y = am_cs x) : am_le h (h.set a y) := ⟨by simp, by rw [am_sum_set hx hs]; exact Nat.le_refl _, fun h => by simpa using h⟩
theorem am_le.app {h : AH} {y : AE} (hl : h.length < 1000) : am_le h (h ++ [y]) := ⟨by simp, by rw [am_sum_app]; omega, fun _ => by simp; omega⟩
theorem am_sto_h {o : Option (List Value)} {pc : Nat} {st : List Value} {h : AH} {q : AS} (e : am_sto o pc st h = some q) : ∃ vs, o = some vs ∧ q = (pc, vs, st, h) := by
  cases o with
  | none => simp [am_sto] at e
  | some vs => simp only [am_sto, Option.some.injEq] at e; exact ⟨vs, rfl, e.symm⟩
set_option maxHeartbeats 4000000 in
theorem am_num_h {lg : Bool} {i : Instr} {pc : Nat} {vs st : List Value} {h : AH} {pc' : Nat} {vs' st' : List Value} {h' : AH} (e : am_num lg i pc vs st h = some (pc', vs', st', h')) : h' = h := by
  unfold am_num at e
  repeat' (split at e)
  all_goals first
    | (simp only [Option.some.injEq, Prod.mk.injEq] at e; exact e.2.2.2.symm)
    | (obtain ⟨_, _, hq⟩ := am_sto_h e; simp only [Prod.mk.injEq] at hq; exact hq.2.2.2)
    | (cases e; done)
set_option maxHeartbeats 4000000 in
theorem am_rck_h {i : Instr} {pc : Nat} {vs st : List Value} {h : AH} {pc' : Nat} {vs' st' : List Value} {h' : AH} (e : am_rck i pc vs st h = some (pc', vs', st', h')) : h' = h := by
  unfold am_rck at e
  repeat' (split at e)
  all_goals first
    | (simp only [Option.some.injEq, Prod.mk.injEq] at e; exact e.2.2.2.symm)
    | (cases e; done)
set_option maxHeartbeats 4000000 in
theorem am_mem_h {o : Nat} {ini : Bool} {i : Instr} {pc : Nat} {vs st : List Value} {h : AH} {pc' : Nat} {vs' st' : List Value} {h' : AH} (e : am_mem o ini i pc vs st h = some (pc', vs', st', h')) : am_le h h' := by
  unfold am_mem at e
  repeat' (split at e)
  all_goals first
    | (cases e; done)
    | (simp only [Option.some.injEq, Prod.mk.injEq] at e; rw [← e.2.2.2]; exact am_le.rf)
    | (simp only [Option.some.injEq, Prod.mk.injEq] at e; rw [← e.2.2.2]; exact am_le.app (by omega))
    | (simp only [Option.some.injEq, Prod.mk.injEq] at e; rw [← e.2.2.2]; refine am_le.set (by assumption) ?_; simp [am_cs])
set_option maxHeartbeats 4000000 in
theorem am_prim_h {t pc : Nat} {vs st : List Value} {h : AH} {pc' : Nat} {vs' st' : List Value} {h' : AH} (e : am_prim t pc vs st h = some (pc', vs', st', h')) : am_le h h' := by
  unfold am_prim at e
  repeat' (split at e)
  all_goals first
    | (cases e; done)
    | (simp only [Option.some.injEq, Prod.mk.injEq] at e; rw [← e.2.2.2]; exact am_le.rf)
    | (simp only [Option.some.injEq, Prod.mk.injEq] at e; rw [← e.2.2.2]; refine am_le.set (by assumption) ?_; simp [am_cs])
theorem am_stp_h {lg : Bool} {d o : Nat} {ini : Bool} {i : Instr} {pc : Nat} {vs st : List Value} {h : AH} {pc' : Nat} {vs' st' : List Value} {h' : AH} (e : am_stp lg d o ini i pc vs st h = some (pc', vs', st', h')) : am_le h h' := by
  unfold am_stp at e
  cases h1 : am_num lg i pc vs st h with
  | some q =>
    rw [h1] at e
    simp only [am_first, Option.some.injEq] at e
    rw [e] at h1
    rw [am_num_h h1]
    exact am_le.rf
  | none =>
    rw [h1] at e
    simp only [am_first] at e
    cases h2 : am_rck i pc vs st h with
    | some q =>
      rw [h2] at e
      simp only [Option.some.injEq] at e
      rw [e] at h2
      rw [am_rck_h h2]
      exact am_le.rf
    | none =>
      rw [h2] at e
      simp only at e
      cases h3 : am_mem o ini i pc vs st h with
      | some q =>
        rw [h3] at e
        simp only [Option.some.injEq] at e
        rw [e] at h3
        exact am_mem_h h3
      | none =>
        rw [h3] at e
        simp only at e
        split at e
        · cases e
        · exact am_prim_h e
theorem am_run_h : ∀ {n d j pc : Nat} {vs st : List Value} {h : AH} {r : Option Value} {h' : AH}, am_run n d j pc vs st h = some (r, h') → am_le h h'
  | 0, _, _, _, _, _, _, _, _, e => by simp [am_run] at e
  | n + 1, d, j, pc, vs, st, h, r, h', e => by
    unfold am_run at e
    split at e
    · cases e
    split at e
    · cases e
    split at e
    rotate_left
    · cases e
    unfold am_one at e
    split at e
    · simp only [Option.some.injEq, Prod.mk.injEq] at e
      rw [e.2]; exact am_le.rf
    split at e
    · split at e
      · cases e
      split at e
      · cases e
      split at e
      · split at e
        · cases e
        · next h1 => exact (am_run_h h1).tr (am_run_h e)
      · cases e
    · split at e
      · cases e
      · next h1 => exact (am_stp_h h1).tr (am_run_h e)
