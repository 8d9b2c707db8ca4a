/-! what the machine leaves behind the ends of rows -/
def wfE (e : AE) : Prop := match e with
  | .inl (_, n, .inl f) => ∀ i, n ≤ i → f i = 0
  | .inl (_, n, .inr (.inl f)) => ∀ i, n ≤ i → f i = 0
  | .inl (_, n, .inr (.inr (.inr (.inr f)))) => ∀ i, n ≤ i → f i = none
  | _ => True
def wfH (h : AH) : Prop := ∀ e ∈ h, wfE e
section
variable {h h' : AH} {a n t k j : Nat} {e : AE} {lg : Bool} {i : Instr} {pc pc' : Nat} {vs vs' st st' : List Value}
theorem wf_at (hw : wfH h) (ha : h[a]? = some e) : wfE e := hw e (List.mem_of_getElem? ha)
theorem wf_set (hw : wfH h) (he : wfE e) : wfH (h.set a e) := fun x hx => by
  rcases List.mem_or_eq_of_mem_set hx with h1 | h1
  · exact hw x h1
  · rw [h1]; exact he
theorem wf_app (hw : wfH h) (he : wfE e) : wfH (h ++ [e]) := fun x hx => by
  rcases List.mem_append.mp hx with h1 | h1
  · exact hw x h1
  · rw [List.mem_singleton.mp h1]; exact he
theorem wf_z : wfE (.inl (t, am_z t n)) := by
  unfold am_z
  split <;> exact fun _ _ => rfl
theorem first_or {α : Type} {x y : Option α} {z : α} (E : am_first x y = some z) : x = some z ∨ y = some z := by
  unfold am_first at E
  split at E
  · exact Or.inl E
  · exact Or.inr E
theorem sto_h {o : Option (List Value)} {y : AS} (E : am_sto o pc st h = some y) : y.2.2.2 = h := by
  unfold am_sto at E
  split at E
  · cases E; rfl
  · cases E
theorem num_h {y : AS} (E : am_num lg i pc vs st h = some y) : y.2.2.2 = h := by
  unfold am_num at E
  repeat' split at E
  all_goals first
    | (cases E; rfl)
    | (cases E)
    | exact sto_h E
theorem rck_h {y : AS} (E : am_rck i pc vs st h = some y) : y.2.2.2 = h := by
  unfold am_rck at E
  repeat' split at E
  all_goals first
    | (cases E; rfl)
    | (cases E)
theorem in_lt {j : Int32} {n : Nat} (h : am_in j n = true) : j.toNatClampNeg < n := by
  unfold am_in at h
  rw [Bool.not_eq_true', Bool.or_eq_false_iff] at h
  exact Nat.lt_of_not_le (of_decide_eq_false h.2)
theorem wf_fs {ci ci' : Nat} {fs fs' : List Value} : wfE (.inr (ci, fs)) = wfE (.inr (ci', fs')) := rfl
theorem wf_i {t t' : Nat} {f : Nat → Int32} {j x : Int32} (hw : wfH h) (ha : h[a]? = some (.inl (t, n, .inl f))) (hj : am_in j n = true) : wfH (h.set a (.inl (t', n, .inl (upd f j.toNatClampNeg x)))) := wf_set hw fun i hi => by
  have hf : ∀ i, n ≤ i → f i = 0 := wf_at hw ha
  have := in_lt hj
  simp only [upd]
  rw [if_neg (by omega)]
  exact hf i hi
theorem wf_l {t t' : Nat} {f : Nat → Int64} {j : Int32} {x : Int64} (hw : wfH h) (ha : h[a]? = some (.inl (t, n, .inr (.inl f)))) (hj : am_in j n = true) : wfH (h.set a (.inl (t', n, .inr (.inl (vp_updL f j.toNatClampNeg x))))) := wf_set hw fun i hi => by
  have hf : ∀ i, n ≤ i → f i = 0 := wf_at hw ha
  have := in_lt hj
  simp only [vp_updL]
  rw [if_neg (by omega)]
  exact hf i hi
theorem wf_r {t t' v : Nat} {f : Nat → Option Nat} {j : Int32} (hw : wfH h) (ha : h[a]? = some (.inl (t, n, .inr (.inr (.inr (.inr f)))))) (hj : am_in j n = true) : wfH (h.set a (.inl (t', n, .inr (.inr (.inr (.inr (va_up f j.toNatClampNeg (some v)))))))) := wf_set hw fun i hi => by
  have hf : ∀ i, n ≤ i → f i = none := wf_at hw ha
  have := in_lt hj
  simp only [va_up]
  rw [if_neg (by omega)]
  exact hf i hi
theorem mem_wf {o : Nat} {ini : Bool} {y : AS} (hw : wfH h) (E : am_mem o ini i pc vs st h = some y) : wfH y.2.2.2 := by
  unfold am_mem at E
  repeat' split at E
  all_goals first
    | (cases E; exact hw)
    | (cases E; exact wf_app hw wf_z)
    | (cases E; exact wf_app hw trivial)
    | (cases E; exact wf_set hw trivial)
    | (cases E; exact wf_i hw (by assumption) (by assumption))
    | (cases E; exact wf_l hw (by assumption) (by assumption))
    | (cases E; exact wf_r hw (by assumption) (And.left (by assumption)))
    | (cases E)
theorem wf_c {n0 n1 s d m : Nat} {f g : Nat → Int32} (hw : wfH h) (hb : h[a]? = some (.inl (0, n1, .inl g))) (hd : d + m ≤ n1) : wfH (h.set a (.inl (0, n1, .inl (va_cpy f g s d m)))) := wf_set hw fun i hi => by
  have hg : ∀ i, n1 ≤ i → g i = 0 := wf_at hw hb
  simp only [va_cpy]
  rw [if_neg (by omega)]
  exact hg i hi
theorem prim_wf {t : Nat} {y : AS} (hw : wfH h) (E : am_prim t pc vs st h = some y) : wfH y.2.2.2 := by
  unfold am_prim at E
  repeat' split at E
  all_goals first
    | (cases E; exact hw)
    | (cases E; exact wf_c (n0 := 0) hw (by assumption) (And.left (And.right (And.right (And.right (And.right (by assumption)))))))
    | (cases E)
theorem stp_wf {o d : Nat} {ini : Bool} {y : AS} (hw : wfH h) (E : am_stp lg d o ini i pc vs st h = some y) : wfH y.2.2.2 := by
  unfold am_stp at E
  rcases first_or E with E | E
  · rw [num_h E]; exact hw
  · rcases first_or E with E | E
    · rw [rck_h E]; exact hw
    · rcases first_or E with E | E
      · exact mem_wf hw E
      · split at E
        · cases E
        · exact prim_wf hw E
theorem run_wf : ∀ {n d j pc : Nat} {vs st : List Value} {h : AH} {R : Option Value × AH}, am_run n d j pc vs st h = some R → wfH h → wfH R.2
  | 0, _, _, _, _, _, _, _, E, _ => by simp [am_run] at E
  | n + 1, d, j, pc, vs, st, h, R, E, hw => by
    rw [am_run] at E
    split at E
    · cases E
    split at E
    · cases E
    split at E
    · unfold am_one at E
      split at E
      · cases E
        exact hw
      split at E
      · split at E
        · cases E
        split at E
        · cases E
        split at E
        · split at E
          · cases E
          · next h1 => exact run_wf E (run_wf h1 hw)
        · cases E
      · split at E
        · cases E
        · next h1 => exact run_wf E (stp_wf hw h1)
    · cases E
end
/-! what the constructors leave -/
def h0C : AH := [.inr (10, am_df 10)]
def h0M : AH := [.inr (11, am_df 11)]
def hOf (r : Option (Option Value × AH)) : AH := match r with
  | some (none, h) => h
  | _ => []
def hC1 : AH := hOf (am_run 9000 60 0 0 (am_locs 2 [.ref 0]) [] h0C)
def hM1 : AH := hOf (am_run 9000 60 163 0 (am_locs 1 [.ref 0]) [] h0M)
def isN (r : Option (Option Value × AH)) : Bool := match r with
  | some (none, _) => true
  | _ => false
theorem hOf_e {r : Option (Option Value × AH)} (h : isN r = true) : r = some (none, hOf r) := by
  unfold isN at h
  split at h
  · rfl
  · cases h
theorem runC_n : isN (am_run 9000 60 0 0 (am_locs 2 [.ref 0]) [] h0C) = true := by decide +kernel
theorem runM_n : isN (am_run 9000 60 163 0 (am_locs 1 [.ref 0]) [] h0M) = true := by decide +kernel
theorem runC : am_run 9000 60 0 0 (am_locs 2 [.ref 0]) [] h0C = some (none, hC1) := hOf_e runC_n
theorem runM : am_run 9000 60 163 0 (am_locs 1 [.ref 0]) [] h0M = some (none, hM1) := hOf_e runM_n
theorem run_wf1 {n d j pc : Nat} {vs st : List Value} {h h' : AH} (E : am_run n d j pc vs st h = some (none, h')) (hw : wfH h) : wfH h' := run_wf E hw
theorem wf_0C : wfH h0C := fun e he => by
  have he : e = .inr (10, am_df 10) := List.mem_singleton.mp he
  rw [he]
  exact trivial
theorem wf_0M : wfH h0M := fun e he => by
  have he : e = .inr (11, am_df 11) := List.mem_singleton.mp he
  rw [he]
  exact trivial
theorem wfC : wfH hC1 := run_wf1 runC wf_0C
theorem wfM : wfH hM1 := run_wf1 runM wf_0M
