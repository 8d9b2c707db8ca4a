/-! what a method of the abstract machine answers, without fuel -/
theorem am_one_mono {rec rec' : Nat → Nat → Nat → List Value → List Value → AH → Option (Option Value × AH)} (hr : ∀ d j pc vs st h R, rec d j pc vs st h = some R → rec' d j pc vs st h = some R) {d j : Nat} {M : MI} {i : Instr} {pc : Nat} {vs st : List Value} {h : AH} {R : Option Value × AH} (E : am_one rec d j M i pc vs st h = some R) : am_one rec' d j M i pc vs st h = some R := by
  unfold am_one at E ⊢
  split at E
  · next hf => exact E
  split at E
  · split at E
    · cases E
    split at E
    · cases E
    split at E
    · next hle =>
      split at E
      · cases E
      · next h1 =>
        rw [if_pos hle, hr _ _ _ _ _ _ _ h1]
        exact hr _ _ _ _ _ _ _ E
    · cases E
  · split at E
    · cases E
    · exact hr _ _ _ _ _ _ _ E
theorem am_run_succ : ∀ {n d j pc : Nat} {vs st : List Value} {h : AH} {R : Option Value × AH}, am_run n d j pc vs st h = some R → am_run (n + 1) d j pc vs st h = some R
  | 0, _, _, _, _, _, _, _, E => by simp [am_run] at E
  | n + 1, d, j, pc, vs, st, h, R, E => by
    rw [am_run] at E ⊢
    split at E
    · cases E
    split at E
    · cases E
    split at E
    · next hl =>
      rw [if_pos hl]
      exact am_one_mono (fun _ _ _ _ _ _ _ h => am_run_succ h) E
    · cases E
theorem am_run_mono {n k d j pc : Nat} {vs st : List Value} {h : AH} {R : Option Value × AH} (E : am_run n d j pc vs st h = some R) (hk : n ≤ k) : am_run k d j pc vs st h = some R := by
  obtain ⟨i, rfl⟩ : ∃ i, k = n + i := ⟨k - n, by omega⟩
  clear hk
  induction i with
  | zero => exact E
  | succ i ih => exact am_run_succ ih
theorem am_run_det {n k d j pc : Nat} {vs st : List Value} {h : AH} {R R' : Option Value × AH} (E : am_run n d j pc vs st h = some R) (E' : am_run k d j pc vs st h = some R') : R = R' := by
  have a := am_run_mono E (Nat.le_max_left n k)
  have b := am_run_mono E' (Nat.le_max_right n k)
  exact Option.some.inj (a.symm.trans b)
noncomputable def ev (d j pc : Nat) (vs st : List Value) (h : AH) : Option (Option Value × AH) :=
  @dite _ (∃ R n, am_run n d j pc vs st h = some R) (Classical.propDecidable _) (fun H => some (Classical.choose H)) (fun _ => none)
theorem ev_iff {d j pc : Nat} {vs st : List Value} {h : AH} {R : Option Value × AH} : ev d j pc vs st h = some R ↔ ∃ n, am_run n d j pc vs st h = some R := by
  unfold ev
  constructor
  · intro E
    split at E
    · next H =>
      cases E
      exact Classical.choose_spec H
    · cases E
  · intro ⟨n, E⟩
    have H : ∃ R n, am_run n d j pc vs st h = some R := ⟨R, n, E⟩
    rw [dif_pos H]
    obtain ⟨k, hk⟩ := Classical.choose_spec H
    exact congrArg some (am_run_det hk E)
theorem ev_ext {a b : Option (Option Value × AH)} (h : ∀ R, a = some R ↔ b = some R) : a = b := by
  cases a with
  | none =>
    cases b with
    | none => rfl
    | some R => exact absurd ((h R).mpr rfl) (by simp)
  | some R => exact ((h R).mp rfl).symm
/-- one step, nothing said of the stepped -/
theorem ev_one {d j pc : Nat} {vs st : List Value} {h : AH} {M : MI} {i : Instr} {len : Nat} (hm : mt j = some M) (hd : decode M.1 pc = .ok (i, len)) (hl : am_lenok i len = true) (R : Option Value × AH) : ev d j pc vs st h = some R ↔ ∃ n, am_one (am_run n) d j M i pc vs st h = some R := by
  rw [ev_iff]
  constructor
  · intro ⟨n, E⟩
    cases n with
    | zero => simp [am_run] at E
    | succ n =>
      refine ⟨n, ?_⟩
      rw [am_run, hm] at E
      simp only [hd, hl, if_true] at E
      exact E
  · intro ⟨n, E⟩
    refine ⟨n + 1, ?_⟩
    rw [am_run, hm]
    simp only [hd, hl, if_true]
    exact E
theorem ev_fin {d j pc : Nat} {vs st : List Value} {h : AH} {M : MI} {i : Instr} {len : Nat} {r : Option Value} (hm : mt j = some M) (hd : decode M.1 pc = .ok (i, len)) (hl : am_lenok i len = true) (hf : am_fin M.2.2.1 i st = some r) : ev d j pc vs st h = some (r, h) :=
  (ev_one hm hd hl _).mpr ⟨0, by rw [am_one, hf]⟩
theorem ev_stp {d j pc : Nat} {vs st : List Value} {h : AH} {M : MI} {i : Instr} {len : Nat} {pc' : Nat} {vs' st' : List Value} {h' : AH} (hm : mt j = some M) (hd : decode M.1 pc = .ok (i, len)) (hl : am_lenok i len = true) (hf : am_fin M.2.2.1 i st = none) (hc : am_call M.2.2.2.2 i st h = none)
    (hs : am_stp (am_lgs j) d M.2.2.2.2 (M.2.2.2.1.name == "<init>") i pc vs st h = some (pc', vs', st', h')) : ev d j pc vs st h = ev d j pc' vs' st' h' := by
  refine ev_ext fun R => ?_
  rw [ev_one hm hd hl, ev_iff]
  have e : ∀ n, am_one (am_run n) d j M i pc vs st h = am_run n d j pc' vs' st' h' := fun n => by simp only [am_one, hf, hc, hs]
  simp only [e]
theorem ev_call {d j pc : Nat} {vs st : List Value} {h : AH} {M N : MI} {i : Instr} {len c : Nat} {as rest : List Value} (hm : mt j = some M) (hd : decode M.1 pc = .ok (i, len)) (hl : am_lenok i len = true) (hf : am_fin M.2.2.1 i st = none) (hc : am_call M.2.2.2.2 i st h = some (c, as, rest)) (hN : mt c = some N) (hn : (am_sl as).length ≤ N.2.1) (hg : am_lgs c = true ∨ as.all (fun v => v.category == 1) = true) :
    ev (d + 1) j pc vs st h = (ev d c 0 (am_locs N.2.1 as) [] h).bind fun q => ev (d + 1) j (pc + 3) vs (q.1.toList ++ rest) q.2 := by
  refine ev_ext fun R => ?_
  rw [ev_one hm hd hl]
  have e : ∀ n, am_one (am_run n) (d + 1) j M i pc vs st h = (am_run n d c 0 (am_locs N.2.1 as) [] h).bind fun q => am_run n (d + 1) j (pc + 3) vs (q.1.toList ++ rest) q.2 := fun n => by
    simp only [am_one, hf, hc, hN]
    rw [if_pos ⟨hn, hg⟩]
    cases am_run n d c 0 (am_locs N.2.1 as) [] h <;> rfl
  simp only [e, Option.bind_eq_some_iff, ev_iff]
  constructor
  · rintro ⟨n, q, h1, h2⟩
    exact ⟨q, ⟨n, h1⟩, n, h2⟩
  · rintro ⟨q, ⟨n, h1⟩, k, h2⟩
    exact ⟨max n k, q, am_run_mono h1 (Nat.le_max_left n k), am_run_mono h2 (Nat.le_max_right n k)⟩
/-! the steps by kind -/
section EVK
variable {d j pc : Nat} {vs st : List Value} {h : AH} {b : ByteArray} {nl : Nat} {rt : Option FieldType} {y : MethodName} {o : Nat}
theorem ev_num {i : Instr} {len pc' : Nat} {vs' st' : List Value} (hm : mt j = some (b, nl, rt, y, o)) (hd : decode b pc = .ok (i, len)) (hl : am_lenok i len = true) (hs : am_num (am_lgs j) i pc vs st h = some (pc', vs', st', h)) : ev d j pc vs st h = ev d j pc' vs' st' h := by
  refine ev_stp hm hd hl ?_ ?_ ?_
  · unfold am_fin
    split <;> first | rfl | (simp [am_num] at hs)
  · unfold am_call
    split <;> first | rfl | (simp [am_num] at hs)
  · simp only [am_stp, hs, am_first]
theorem ev_rck {i : Instr} {len pc' : Nat} {vs' st' : List Value} (hm : mt j = some (b, nl, rt, y, o)) (hd : decode b pc = .ok (i, len)) (hl : am_lenok i len = true) (h0 : am_num (am_lgs j) i pc vs st h = none) (hs : am_rck i pc vs st h = some (pc', vs', st', h)) : ev d j pc vs st h = ev d j pc' vs' st' h := by
  refine ev_stp hm hd hl ?_ ?_ ?_
  · unfold am_fin
    split <;> first | rfl | (simp [am_rck] at hs)
  · unfold am_call
    split <;> first | rfl | (simp [am_rck] at hs)
  · simp only [am_stp, h0, hs, am_first]
theorem ev_mem {i : Instr} {len pc' : Nat} {vs' st' : List Value} {h' : AH} (hm : mt j = some (b, nl, rt, y, o)) (hd : decode b pc = .ok (i, len)) (hl : am_lenok i len = true) (h0 : am_num (am_lgs j) i pc vs st h = none) (h1 : am_rck i pc vs st h = none) (hs : am_mem o (y.name == "<init>") i pc vs st h = some (pc', vs', st', h')) : ev d j pc vs st h = ev d j pc' vs' st' h' := by
  refine ev_stp hm hd hl ?_ ?_ ?_
  · unfold am_fin
    split <;> first | rfl | (simp [am_mem] at hs)
  · unfold am_call
    split <;> first | rfl | (simp [am_mem] at hs)
  · simp only [am_stp, h0, h1, hs, am_first]
theorem ev_prim {i : Instr} {len pc' : Nat} {vs' st' : List Value} {h' : AH} (hm : mt j = some (b, nl, rt, y, o)) (hd : decode b pc = .ok (i, len)) (hl : am_lenok i len = true) (hf : am_fin rt i st = none) (hc : am_call o i st h = none) (h0 : am_num (am_lgs j) i pc vs st h = none) (h1 : am_rck i pc vs st h = none) (h2 : am_mem o (y.name == "<init>") i pc vs st h = none)
    (hs : am_prim (am_tag o i) pc vs st h = some (pc', vs', st', h')) : ev (d + 5) j pc vs st h = ev (d + 5) j pc' vs' st' h' := by
  refine ev_stp hm hd hl hf hc ?_
  simp only [am_stp, h0, h1, h2, am_first]
  rw [if_neg (by omega)]
  exact hs
end EVK
/-! loops -/
/-- k turns of a counted loop from i on -/
def lp {X : Type} (f : Nat → X → X) : Nat → Nat → X → X
  | _, 0, x => x
  | i, k + 1, x => lp f (i + 1) k (f i x)
theorem lp_zero {X : Type} {f : Nat → X → X} {i : Nat} {x : X} : lp f i 0 x = x := rfl
theorem lp_succ {X : Type} {f : Nat → X → X} {i k : Nat} {x : X} : lp f i (k + 1) x = lp f (i + 1) k (f i x) := rfl
/-- a loop downwards from its end: what is answered from each head on -/
theorem ev_down {X J ρ : Type} (S : Nat → X → J → ρ) (R : Nat → X → ρ) (n : Nat) (hex : ∀ x v, S n x v = R n x) (hst : ∀ i, i < n → (∀ x v, S (i + 1) x v = R (i + 1) x) → ∀ x v, S i x v = R i x) : ∀ i, i ≤ n → ∀ x v, S i x v = R i x := by
  intro i hi
  obtain ⟨k, rfl⟩ : ∃ k, n = i + k := ⟨n - i, by omega⟩
  induction k generalizing i with
  | zero => exact hex
  | succ k ih =>
    have hi1 : i < i + (k + 1) := by omega
    refine hst i hi1 ?_
    have e : i + (k + 1) = (i + 1) + k := by omega
    rw [e] at hex hst hi1
    exact ih (i + 1) hex hst (by omega)
theorem ev_for {X J ρ : Type} (S : Nat → X → J → ρ) (Z : X → ρ) (f : Nat → X → X) (n : Nat) (hex : ∀ x v, S n x v = Z x) (hst : ∀ i (Y : X → ρ), i < n → (∀ x v, S (i + 1) x v = Y x) → ∀ x v, S i x v = Y (f i x)) : ∀ i, i ≤ n → ∀ x v, S i x v = Z (lp f i (n - i) x) := by
  refine ev_down S (fun i x => Z (lp f i (n - i) x)) n (fun x v => by rw [hex]; simp [lp]) fun i hi ih x v => ?_
  rw [hst i (fun x => Z (lp f (i + 1) (n - (i + 1)) x)) hi ih x v]
  rw [show n - i = (n - (i + 1)) + 1 by omega, lp_succ]
