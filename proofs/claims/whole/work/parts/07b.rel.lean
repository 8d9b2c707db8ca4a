/-! what the abstract machine's words mean over the machine -/
def sm_ad (base : Nat) (adK : Nat → Nat) (k : Nat) : Nat := if k < am_str then base + k else adK (k - am_str)
def sm_v (ad : Nat → Nat) (v : Value) : Value := match v with
  | .ref k => .ref (ad k)
  | v => v
def sm_a (ad : Nat → Nat) (a : vp_A) : vp_A := match a with
  | (n, .inr (.inr (.inr (.inr f)))) => (n, .inr (.inr (.inr (.inr (fun i => (f i).map ad)))))
  | a => a
def sm_e (dA : Nat → ClassId) (ad : Nat → Nat) (e : AE) : va_E := match e with
  | .inl (t, a) => .inl (dA t, sm_a ad a)
  | .inr (ci, fs) => .inr (ci, fs.map (sm_v ad))
def sm_w (base : Nat) (dA : Nat → ClassId) (ad : Nat → Nat) (h : AH) : va_W := h.mapIdx (fun k e => (base + k, sm_e dA ad e))
theorem sm_w_get {base : Nat} {dA : Nat → ClassId} {ad : Nat → Nat} {h : AH} {k : Nat} {e : AE} (hk : h[k]? = some e) : (sm_w base dA ad h)[k]? = some (base + k, sm_e dA ad e) := by
  simp [sm_w, hk]
theorem sm_w_inv {base : Nat} {dA : Nat → ClassId} {ad : Nat → Nat} {h : AH} {k : Nat} {q : Nat × va_E} (hk : (sm_w base dA ad h)[k]? = some q) : ∃ e, h[k]? = some e ∧ q = (base + k, sm_e dA ad e) := by
  simp only [sm_w, List.getElem?_mapIdx, Option.map_eq_some_iff] at hk
  obtain ⟨e, h1, h2⟩ := hk
  exact ⟨e, h1, h2.symm⟩
theorem sm_w_set {base : Nat} {dA : Nat → ClassId} {ad : Nat → Nat} {h : AH} {k : Nat} {e : AE} : (sm_w base dA ad h).set k (base + k, sm_e dA ad e) = sm_w base dA ad (h.set k e) := by
  apply List.ext_getElem?
  intro i
  by_cases hi : k = i
  · subst hi
    simp only [sm_w, List.getElem?_mapIdx, List.getElem?_set, List.length_mapIdx]
    by_cases hl : k < h.length
    · simp [hl]
    · simp [hl]
  · simp only [sm_w, List.getElem?_mapIdx, List.getElem?_set, List.length_mapIdx, if_neg hi]
theorem sm_w_app {base : Nat} {dA : Nat → ClassId} {ad : Nat → Nat} {h : AH} {e : AE} : sm_w base dA ad h ++ [(base + h.length, sm_e dA ad e)] = sm_w base dA ad (h ++ [e]) := by
  simp [sm_w]
theorem sm_lt {h : AH} {a : Nat} {e : AE} (ha : h[a]? = some e) : a < h.length := (List.getElem?_eq_some_iff.mp ha).1
theorem sm_ad_lt {base : Nat} {adK : Nat → Nat} {k : Nat} (h : k < 1001) : sm_ad base adK k = base + k := if_pos (Nat.lt_trans h (by decide))
theorem sm_D {base : Nat} {dA : Nat → ClassId} {ad : Nat → Nat} {h : AH} {A : Nat → Prop} (hA : ∀ k, k < h.length → A (base + k)) : va_D A (sm_w base dA ad h) := by
  refine ⟨fun i j p q hi hj hpq => ?_, fun k q hk => ?_⟩
  · obtain ⟨e1, h1, rfl⟩ := sm_w_inv hi
    obtain ⟨e2, h2, rfl⟩ := sm_w_inv hj
    have : base + i = base + j := hpq
    omega
  · obtain ⟨e, h1, rfl⟩ := sm_w_inv hk
    exact hA k (sm_lt h1)
theorem sm_v_cat {ad : Nat → Nat} {v : Value} : (sm_v ad v).category = v.category := by cases v <;> rfl
theorem sm_pw {ad : Nat → Nat} {st : List Value} : ((st.map (sm_v ad)).map fun v => v.category).sum = am_pw st := by
  rw [List.map_map]
  unfold am_pw
  congr 1
  exact List.map_congr_left fun v _ => sm_v_cat
/-- the locals known -/
def sm_l (ad : Nat → Nat) (vs : List Value) : List (Nat × Value) := (List.range vs.length).filterMap (fun i => if vs.getD i .null = .null then none else some (i, sm_v ad (vs.getD i .null)))
theorem sm_l_mem {ad : Nat → Nat} {vs : List Value} {i : Nat} {v : Value} (h : vs.getD i .null = v) (hn : v ≠ .null) : (i, sm_v ad v) ∈ sm_l ad vs := by
  unfold sm_l
  refine List.mem_filterMap.mpr ⟨i, ?_, ?_⟩
  · rw [List.mem_range]
    rcases Nat.lt_or_ge i vs.length with q | q
    · exact q
    · rw [List.getD_eq_getElem?_getD, List.getElem?_eq_none q] at h
      exact absurd h.symm hn
  · rw [h, if_neg hn]
theorem sm_l_inv {ad : Nat → Nat} {vs : List Value} {q : Nat × Value} (h : q ∈ sm_l ad vs) : ∃ v, vs.getD q.1 .null = v ∧ v ≠ .null ∧ q.2 = sm_v ad v ∧ q.1 < vs.length := by
  unfold sm_l at h
  obtain ⟨i, hi, hq⟩ := List.mem_filterMap.mp h
  rw [List.mem_range] at hi
  split at hq
  · cases hq
  · next hn =>
    simp only [Option.some.injEq] at hq
    subst hq
    exact ⟨_, rfl, hn, rfl, hi⟩
def sm_L (lg : Bool) (ad : Nat → Nat) (ls : Array Slot) (n : Nat) (vs : List Value) : Prop := lv_has ls n (sm_l ad vs) ∧ vs.length = n ∧ (lg = false → ∀ v ∈ vs, v.category = 1)
theorem sm_L.at {lg : Bool} {ad : Nat → Nat} {ls : Array Slot} {n : Nat} {vs : List Value} (h : sm_L lg ad ls n vs) {i : Nat} {v : Value} (hv : am_ld vs i = v) (hn : v ≠ .null) : ls[i]? = some (.val (sm_v ad v)) := h.1.2.2 (i, sm_v ad v) (sm_l_mem hv hn)
theorem sm_getD_set {vs : List Value} {i j : Nat} {v : Value} (hi : i < vs.length) : (vs.set i v).getD j .null = if j = i then v else vs.getD j .null := by
  simp only [List.getD_eq_getElem?_getD, List.getElem?_set]
  by_cases h : i = j
  · subst h
    simp [hi]
  · rw [if_neg h, if_neg (fun e => h e.symm)]
theorem sm_half {lg : Bool} {vs : List Value} {i j : Nat} (h0 : lg = false → ∀ v ∈ vs, v.category = 1) (hh : ¬ (lg && am_half vs i) = true) (hj : j + 1 = i) : ¬ (vs.getD j .null).category = 2 := by
  subst hj
  cases lg with
  | true => simpa [am_half] using hh
  | false =>
    rw [List.getD_eq_getElem?_getD]
    cases hv : vs[j]? with
    | none => simp [Value.category]
    | some v =>
      have := h0 rfl v (List.mem_of_getElem? hv)
      simp [this]
theorem sm_cats {vs : List Value} {i : Nat} {v : Value} (h0 : ∀ v ∈ vs, v.category = 1) (hv : v.category = 1) : ∀ w ∈ vs.set i v, w.category = 1 := fun w hw => by
  rcases List.mem_or_eq_of_mem_set hw with h | h
  · exact h0 w h
  · rw [h]; exact hv
theorem sm_L.st1 {lg : Bool} {ad : Nat → Nat} {ls' : Array Slot} {n : Nat} {vs vs' : List Value} {i : Nat} {v : Value} (hl : vs.length = n) (h0 : lg = false → ∀ v ∈ vs, v.category = 1) (hc : v.category = 1) (e : am_st1 lg vs i v = some vs') (h' : lv_has ls' n ((i, sm_v ad v) :: (sm_l ad vs).filter (fun q => !(q.1 == i) && !(q.1 + 1 == i && q.2.category == 2)))) : sm_L lg ad ls' n vs' := by
  unfold am_st1 at e
  split at e
  rotate_left
  · cases e
  next hi =>
  split at e
  · cases e
  next hh =>
  cases e
  refine ⟨⟨h'.1, h'.2.1, fun q hq => ?_⟩, by simp [hl], fun hg => sm_cats (h0 hg) hc⟩
  obtain ⟨w, h1, h2, h3, h4⟩ := sm_l_inv hq
  refine h'.2.2 q ?_
  rw [sm_getD_set hi] at h1
  obtain ⟨q1, q2⟩ := q
  dsimp only at h1 h3 h4
  by_cases hqi : q1 = i
  · rw [if_pos hqi] at h1
    subst hqi
    rw [h3, ← h1]
    exact List.mem_cons_self
  · rw [if_neg hqi] at h1
    refine List.mem_cons_of_mem _ (List.mem_filter.mpr ⟨?_, ?_⟩)
    · rw [h3]
      exact sm_l_mem h1 h2
    · by_cases hj : q1 + 1 = i
      · have := sm_half h0 hh hj
        rw [h1] at this
        rw [h3]
        simp [hqi, sm_v_cat, this]
      · simp [hqi, hj]
theorem sm_L.st2 {lg : Bool} {ad : Nat → Nat} {ls' : Array Slot} {n : Nat} {vs vs' : List Value} {i : Nat} {v : Value} (hl : vs.length = n) (h0 : lg = false → ∀ v ∈ vs, v.category = 1) (e : am_st2 lg vs i v = some vs') (h' : lv_has ls' n ((i, sm_v ad v) :: (sm_l ad vs).filter (fun q => !(q.1 == i) && (!(q.1 == i + 1) && !(q.1 + 1 == i && q.2.category == 2))))) : sm_L lg ad ls' n vs' := by
  unfold am_st2 at e
  split at e
  rotate_left
  · cases e
  next hi =>
  split at e
  · cases e
  next hh =>
  obtain ⟨hh, hlg⟩ := not_or.mp hh
  cases e
  refine ⟨⟨h'.1, h'.2.1, fun q hq => ?_⟩, by simp [hl], fun hg => absurd hg hlg⟩
  obtain ⟨w, h1, h2, h3, h4⟩ := sm_l_inv hq
  refine h'.2.2 q ?_
  rw [sm_getD_set (by simpa using hi), sm_getD_set (by omega)] at h1
  obtain ⟨q1, q2⟩ := q
  dsimp only at h1 h3 h4
  by_cases hq1 : q1 = i + 1
  · rw [if_pos hq1] at h1
    exact absurd h1.symm h2
  rw [if_neg hq1] at h1
  by_cases hqi : q1 = i
  · rw [if_pos hqi] at h1
    subst hqi
    rw [h3, ← h1]
    exact List.mem_cons_self
  · rw [if_neg hqi] at h1
    refine List.mem_cons_of_mem _ (List.mem_filter.mpr ⟨?_, ?_⟩)
    · rw [h3]
      exact sm_l_mem h1 h2
    · by_cases hj : q1 + 1 = i
      · have := sm_half h0 (lg := lg) (by simpa using fun _ => hh) hj
        rw [h1] at this
        rw [h3]
        simp [hqi, sm_v_cat, this, hq1]
      · simp [hqi, hj, hq1]
theorem sm_st1_lt {lg : Bool} {vs vs' : List Value} {i : Nat} {v : Value} (e : am_st1 lg vs i v = some vs') : i < vs.length := by
  unfold am_st1 at e
  split at e
  · assumption
  · cases e
theorem sm_st2_lt {lg : Bool} {vs vs' : List Value} {i : Nat} {v : Value} (e : am_st2 lg vs i v = some vs') : i + 1 < vs.length := by
  unfold am_st2 at e
  split at e
  · assumption
  · cases e
theorem sm_jmp {pc : Nat} {off : Int} (h : am_jok pc off = true) : (pc : Int) + off = (am_jmp pc off : Int) := by
  simp only [am_jok, decide_eq_true_eq] at h
  exact (Int.toNat_of_nonneg h).symm
theorem sm_in {i : Int32} {n : Nat} (h : am_in i n = true) : vp_in i n := by
  simpa [am_in, vp_in] using h
theorem am_ld_of {vs : List Value} {i : Nat} {v : Value} (h : am_ld vs i = v) : am_ld vs i = v := h
