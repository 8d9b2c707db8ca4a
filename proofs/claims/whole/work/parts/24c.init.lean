/-! the joint state behind the constructors -/
section
variable {k n : Nat} {t : List (Option Nat)}
theorem hC1_mk : hC1 = mk shC (mO hC1) (qO hC1) := shA_ok wfC (Bool.and_eq_true_iff.mp ini_s).1
theorem hM1_mk : hM1 = mk shM (mO hM1) (qO hM1) := shA_ok wfM (Bool.and_eq_true_iff.mp ini_s).2
theorem za_i {m : Mem} {q : MemJ} (hw : wfH (mk shC m q)) (hs : shC[k]? = some (1, n, t)) : zaF (m k) n := wf_at hw (mk_get hs)
theorem eqI_t {x y : Int32} (h : eqI x y = true) : x = y := of_decide_eq_true h
theorem sh_sg : ∀ x, x < 8 → shC[9 + 3 * x + 1]? = some (1, 216, []) ∧ shC[9 + 3 * x + 2]? = some (1, 18, [])
  | 0, _ | 1, _ | 2, _ | 3, _ | 4, _ | 5, _ | 6, _ | 7, _ => ⟨rfl, rfl⟩
theorem sh_kp : ∀ x, x < 2 → shC[35 + 3 * x + 1]? = some (1, 216, []) ∧ shC[35 + 3 * x + 2]? = some (1, 18, [])
  | 0, _ | 1, _ => ⟨rfl, rfl⟩
theorem sh_ot : (shC[2]? = some (1, 216, []) ∧ shC[3]? = some (1, 18, [])) ∧ (shC[5]? = some (1, 216, []) ∧ shC[6]? = some (1, 18, [])) ∧ (shC[66]? = some (1, 216, []) ∧ shC[67]? = some (1, 18, [])) := ⟨⟨rfl, rfl⟩, ⟨rfl, rfl⟩, rfl, rfl⟩
theorem JJ_i {m mm : Mem} {q : MemJ} (hw : wfH (mk shC m q)) (hA : iniA m mm = true) (hP : iniP m mm = true) (hF : iniF m mm = true) : JJ m q mm := by
  have z : ∀ {k n t}, shC[k]? = some (1, n, t) → zaF (m k) n := fun hs => za_i hw hs
  unfold iniF at hF
  simp only [Bool.and_eq_true] at hF
  obtain ⟨⟨⟨⟨f1, f2⟩, f3, f4⟩, ⟨f5, f6⟩, f7⟩, ⟨⟨f8, f9⟩, f10, f11⟩, ⟨f12, f13⟩, f14⟩ := hF
  unfold iniA at hA
  rw [Bool.and_eq_true_iff] at hA
  have hs : isSF (m 2) := fun i hi => by
    have h := List.all_eq_true.mp hA.1 i (rg_mem.mpr ⟨Nat.zero_le _, hi⟩)
    rw [Bool.or_eq_true_iff, Bool.or_eq_true_iff] at h
    rcases h with h | h | h
    · exact Or.inr (Or.inl (eqI_t h))
    · exact Or.inr (Or.inr (eqI_t h))
    · exact Or.inl (eqI_t h)
  have M : ∀ {a n : Nat}, a < n → a ∈ rg 0 n := fun h => rg_mem.mpr ⟨Nat.zero_le _, h⟩
  have h3 : ∀ a b c, a < 6 → b < 6 → c < 6 → (if a = b ∨ a = c ∨ b = c then eqI (m 2 (i6 a b c)) 0 else eqI (m 2 (i6 a b c)) (mS (mm 1) a b c)) = true := fun a b c ha hb hc => List.all_eq_true.mp (List.all_eq_true.mp (List.all_eq_true.mp hA.2 a (M ha)) b (M hb)) c (M hc)
  have hAR : ARs (fun _ => true) (m 2) (mm 1) := fun a b c ha hb hc hd _ => by
    have h := h3 a b c ha hb hc
    rw [if_neg hd] at h
    exact eqI_t h
  have hdg : dgF (m 2) := fun a b c ha hb hc hd => by
    have h := h3 a b c ha hb hc
    rw [if_pos hd] at h
    exact eqI_t h
  have n3 : m 1 0 = nI 3 := eqI_t f1
  refine ⟨⟨3, n3, ⟨by decide, by decide, ⟨hs, ⟨mm 1, hAR⟩, z sh_ot.1.1, hdg⟩, z sh_ot.1.2, eqI_t f2, ARs_wk hAR fun _ _ => rfl, fun e i he hi => eqI_t (List.all_eq_true.mp (List.all_eq_true.mp hP e (M he)) i (M hi))⟩, Or.inl (eqI_t f3), Or.inl (eqI_t f4), Or.inl (eqI_t f5), Or.inl (eqI_t f6), fun i hi => Or.inl (eqI_t (List.all_eq_true.mp f7 i (M hi))), z sh_ot.2.2.1, z sh_ot.2.2.2⟩, ⟨0, 0, by decide, by decide, eqI_t f8, eqI_t f9, eqI_t f10, fun y hy => ⟨z (sh_sg y hy).1, z (sh_sg y hy).2⟩, fun j hj => absurd hj (Nat.not_lt_zero j)⟩, fun k hk => ?_, ⟨⟨z sh_ot.2.1.1, z sh_ot.2.1.2⟩, fun _ => 0, 0, ⟨eqI_t f12, by decide, fun i hi => absurd hi (Nat.not_lt_zero i)⟩, eqI_t f13, by decide, fun i hi => absurd hi (Nat.not_lt_zero i)⟩, ?_⟩
  · have h := List.all_eq_true.mp f11 k (M hk)
    rw [Bool.and_eq_true_iff] at h
    exact ⟨⟨z (sh_kp k hk).1, z (sh_kp k hk).2⟩, false, eqI_t h.1, eqI_t h.2, fun h => by cases h⟩
  · refine ⟨fun _ => (false, false, 0, fun _ => 0, fun _ => 0), fun _ => (false, false, 0, fun _ => 0, fun _ => 0), fun b hb => ?_, fun b hb => ?_, fun b hb => ⟨rfl, fun _ => rfl, fun h => by cases h⟩⟩
    · have h := List.all_eq_true.mp f14 b (M hb)
      rw [Bool.and_eq_true_iff, Bool.and_eq_true_iff] at h
      obtain ⟨⟨g1, _⟩, g3⟩ := h
      refine ⟨eqI_t (List.all_eq_true.mp g1 0 (by decide)), eqI_t (List.all_eq_true.mp g1 1 (by decide)), eqI_t (List.all_eq_true.mp g1 2 (by decide)), Nat.zero_le 6, fun i hi => ?_⟩
      have g := List.all_eq_true.mp g3 i (M hi)
      rw [Bool.and_eq_true_iff] at g
      exact ⟨eqI_t g.1, Nat.zero_lt_succ _, eqI_t g.2, Nat.zero_le 6⟩
    · have h := List.all_eq_true.mp f14 b (M hb)
      rw [Bool.and_eq_true_iff, Bool.and_eq_true_iff] at h
      exact ⟨eqI_t h.1.2, fun h => by cases h⟩
theorem JJ_0 : JJ (mO hC1) (qO hC1) (mO hM1) := by
  have h := Bool.and_eq_true_iff.mp ini_t
  have h2 := Bool.and_eq_true_iff.mp h.2
  exact JJ_i (q := qO hC1) (by rw [← hC1_mk]; exact wfC) h.1 h2.1 h2.2
/-- both constructors' runs, and the joint state behind them -/
theorem start_JJ : ∃ mc qc mm qm, am_run 9000 60 0 0 (am_locs 2 [.ref 0]) [] h0C = some (none, mk shC mc qc) ∧ am_run 9000 60 163 0 (am_locs 1 [.ref 0]) [] h0M = some (none, mk shM mm qm) ∧ JJ mc qc mm := ⟨mO hC1, qO hC1, mO hM1, qO hM1, by rw [← hC1_mk]; exact runC, by rw [← hM1_mk]; exact runM, JJ_0⟩
end
