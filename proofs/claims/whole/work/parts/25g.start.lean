/-! both systems made by the law -/
section
variable {p : Program} {l : Launch} {e : Env} {R : Room} {s : State} {m : MethodId} {args : Array Value} {below : List Frame} {meth : Method} {c : Code} {H : Heap} {locs : List Loc} {cells slots : Nat} {Q : State → Prop}
variable {D : va_G} {dA : Nat → ClassId} {base : Nat} {adK adV : Nat → Nat} {idx j : Nat} {M : MI} {h h' : AH} {pc : Nat} {ls : Array Slot} {rest : List Value}
theorem W_size {g : JFrame} (k : H.size ≤ s.heap.size + cells → W p l e R s m args below meth c H locs cells slots Q g) : W p l e R s m args below meth c H locs cells slots Q g := fun T hT X => k (by
  have := X.heapSize
  rw [hT] at this
  exact this) T hT X
set_option maxHeartbeats 16000000 in
/-- a constructor's call -/
theorem lx_init {n d : Nat} (F : LX D dA adK adV p s m args c) (hk : LKI idx j) (hj : mt j = some M) (hn : 1 ≤ M.2.1) (E : am_run n d j 0 (am_locs M.2.1 [.ref 0]) [] h = some (none, h')) (hle : h.length ≤ h'.length) (hd : d ≤ 100)
    (hP : va_P D vwCl (sm_w base dA (sm_ad base adK) h) H) (hS : va_S (lxA s) s.heap H locs) (hb1 : s.heap.size ≤ base) (hb2 : H.size = base + h.length) (h0 : 0 < h.length) (h1 : h.length ≤ 1000)
    (hdg : decode code pc = .ok (.invokespecial idx, 3)) (hls : ls.size = 4) (hrest : (rest.map fun v => v.category).sum ≤ 8) (hc : cells + (h'.length - h.length) ≤ R.cells) (hs : slots + (am_sum h' - am_sum h) ≤ R.slots) (hf : 101 ≤ R.frames) (ho : 64 * 101 ≤ R.locals)
    (kk : ∀ (H1 : Heap) (locs1 : List Loc), va_P D vwCl (sm_w base dA (sm_ad base adK) h') H1 → H.size ≤ H1.size → (∀ q, q < H.size → ¬ sm_A base h.length H.size q → H1[q]? = H[q]?) → va_S (lxA s) s.heap H1 locs1 → W p l e R s m args below meth c H1 locs1 (cells + (h'.length - h.length)) (slots + (am_sum h' - am_sum h)) Q (F0 m (pc + 3) ls rest)) :
    W p l e R s m args below meth c H locs cells slots Q (F0 m pc ls (.ref base :: rest)) := by
  obtain ⟨hx, hb, hml, hown, hts, hK, hSW, hX⟩ := F
  obtain ⟨M2, hj2, e2, e3, e4, e5, e6⟩ := hk
  obtain rfl : M = M2 := Option.some.inj (hj.symm.trans hj2)
  obtain ⟨k1, k2, k3, k4, k5, k6⟩ := mt_ok hj
  have hl0 : am_sl [Value.ref 0] = [Value.ref 0] := rfl
  have hM := sm_met (sm_all n) hj (by rw [hl0]; exact hn) (Or.inr rfl) E h0 h1 l D dA base adK adV H.size (Or.inr hb2) (by omega)
  have hfix : CallFix p m c code 4 s args ATB "SignTriplesLaw" := ⟨hx, hb, hml, hown, hts⟩
  have e0 : [Value.ref 0].map (sm_v (sm_ad base adK)) = [Value.ref base] := lx_ints (ints := [])
  have hPc : ∀ U : State, U.heap = H → s.WarmedH U.vm → sm_Pc D dA base adK adV h H.size [.ref 0] ([Value.ref 0].map (sm_v (sm_ad base adK))).toArray U := fun U hU hW =>
    ⟨rfl, by rw [hU], by rw [hU]; exact hP, va_K.moved hW.alike hK, by
      rw [hU]
      exact ((hSW.kept hS.2.1).narrow (lx_in hS hb1)).moved hW.alike, sm_X.warm hW hX⟩
  rw [e0] at hPc
  rw [e6] at hM k3
  have hrun := va_runI (As := []) (rest := rest) (H := H) (locs := locs) (cells := cells) (slots := slots) (p := p) (l := l) (e := e) (R := R) (below := below) (meth := meth) (g := F0 m pc ls (.ref base :: rest)) hfix hM
    ⟨sm_cb (na := 0) (d := d) hts k3 (by rw [k2]; exact k4) e2 k5 e3 k6 (by omega) (by omega), e4, hts _ e5⟩ ⟨sm_blind, fun U hU hW => hPc U hU hW⟩ rfl rfl hls rfl (lv_room hrest) hdg ⟨hc, hs⟩
  intro T hT X
  obtain ⟨v, st₀, t, T', L, g0, X', hL, g1, g2, ⟨⟨hv, hp⟩, hz, hkp⟩, st⟩ := hrun T hT X
  simp only [Outcome.returned.injEq] at hv
  subst hv
  rw [g0] at hz hkp
  have hS' : va_S (lxA s) s.heap T'.heap (locs ++ L) := ⟨Nat.le_trans hS.1 (by rw [g1]; exact hz), fun q q1 q2 => by
    rw [g1, hkp q (Nat.lt_of_lt_of_le q1 hS.1) (fun z => q2 (lx_in hS hb1 q z))]
    exact hS.2.1 q q1 q2, fun q hq => by
      rcases List.mem_append.mp hq with g | g
      · exact hS.2.2 q g
      · exact lx_in hS hb1 _ (hL q g)⟩
  obtain ⟨t2, a1, b1⟩ := kk T'.heap (locs ++ L) (by rw [g1]; exact hp) (by rw [g1]; exact hz) (fun q q1 q2 => by rw [g1]; exact hkp q q1 q2) hS' T' rfl X'
  exact ⟨t2, st t2 a1, b1⟩
theorem sumC {m : Mem} {q : MemJ} : am_sum (mk shC m q) ≤ 20000 := by
  rw [sum_mk (m' := fun _ _ => 0) (q' := fun _ => 0)]
  decide +kernel
theorem sumM {m : Mem} {q : MemJ} : am_sum (mk shM m q) ≤ 20000 := by
  rw [sum_mk (m' := fun _ _ => 0) (q' := fun _ => 0)]
  decide +kernel
theorem nl_7 : (Jvm.Cond.classLink "SignTriplesLaw" 7 "SignTriples" ∈ ATB ∧ Jvm.Cond.instantiable "SignTriples" 8 ∈ ATB) ∧ Jvm.Cond.initialized "SignTriples" ∈ ATB := ⟨⟨atb_mem 105 (by decide +kernel) (by decide +kernel), atb_mem 106 (by decide +kernel) (by decide +kernel)⟩, (mt_ok mt0).2.2.2.1⟩
theorem nl_10 : (Jvm.Cond.classLink "SignTriplesLaw" 10 "SignTriplesModel" ∈ ATB ∧ Jvm.Cond.instantiable "SignTriplesModel" 23 ∈ ATB) ∧ Jvm.Cond.initialized "SignTriplesModel" ∈ ATB := ⟨⟨atb_mem 1030 (by decide +kernel) (by decide +kernel), atb_mem 1031 (by decide +kernel) (by decide +kernel)⟩, (mt_ok mt163).2.2.2.1⟩
set_option maxHeartbeats 16000000 in
/-- a new cell at the heap's end -/
theorem lx_new {ci idx N : Nat} {C : String} {T : u_T} {ws : va_W} (F : LX D dA adK adV p s m args c) (hci : vwCl[ci]? = some (C, T, N)) (f2 : Jvm.Cond.classLink "SignTriplesLaw" idx C ∈ ATB) (f3 : Jvm.Cond.instantiable C N ∈ ATB) (f4 : Jvm.Cond.initialized C ∈ ATB)
    (hP : va_P D vwCl ws H) (hD : va_D (lxA s) ws) (hS : va_S (lxA s) s.heap H locs) (hw : ∀ q, s.heap.size ≤ q → q < base → ∃ (k : Nat) (x : Nat × va_E), ws[k]? = some x ∧ x.1 = q) (hb : base = s.heap.size + cells) (hdg : decode code pc = .ok (.new idx, 3)) (hc : cells + 1 ≤ R.cells) (hs : slots + N ≤ R.slots)
    (kk : ∀ (H1 : Heap), va_P D vwCl ws H1 → va_P D vwCl (sm_w base dA (sm_ad base adK) [.inr (ci, am_df ci)]) H1 → va_S (lxA s) s.heap H1 locs → H1.size = base + 1 → W p l e R s m args below meth c H1 locs (cells + 1) (slots + N) Q (F0 m (pc + 3) ls (.ref base :: rest))) :
    W p l e R s m args below meth c H locs cells slots Q (F0 m pc ls rest) := by
  obtain ⟨hx, hbb, hml, hown, hts, hK, hSW, hX⟩ := F
  obtain ⟨z1, ⟨ty0, z2, z3⟩, z4, z5, -⟩ := sm_cls hci
  refine va_new (ci := ci) (fs := am_df ci) hx hbb (Ts := ATB) hts z1 ty0 z2 hown (hts _ f2) (hts _ f3) (hts _ f4) hK hP hD hS (fun q hq => hq) hci z3 hc hs hdg fun q0 H1 hP1 hD1 hS1 => ?_
  refine W_size fun hz => ?_
  have hq0 : (ws ++ [(q0, Sum.inr (ci, am_df ci))])[ws.length]? = some (q0, Sum.inr (ci, am_df ci)) := by
    rw [List.getElem?_append_right (Nat.le_refl _), Nat.sub_self]
    rfl
  have g1 : q0 < H1.size := (hP1 _ _ hq0).lt
  have g2 : s.heap.size ≤ q0 := hD1.2 _ _ hq0
  have g3 : q0 = base := by
    rcases Nat.lt_or_ge q0 base with hlt | hge
    · exfalso
      obtain ⟨k, x, hk, hxq⟩ := hw q0 g2 hlt
      have hk2 : (ws ++ [(q0, Sum.inr (ci, am_df ci))])[k]? = some x := by
        rw [List.getElem?_append_left (List.getElem?_eq_some_iff.mp hk).1]
        exact hk
      have := hD1.1 _ _ _ _ hk2 hq0 hxq
      have := (List.getElem?_eq_some_iff.mp hk).1
      omega
    · omega
  subst g3
  have h1 : va_P D vwCl ws H1 := fun k x hk => hP1 k x (by
    rw [List.getElem?_append_left (List.getElem?_eq_some_iff.mp hk).1]
    exact hk)
  have h2 : va_P D vwCl (sm_w q0 dA (sm_ad q0 adK) [.inr (ci, am_df ci)]) H1 := fun k x hk => by
    obtain ⟨e, he, rfl⟩ := sm_w_inv hk
    have hk0 : k = 0 := by
      have := sm_lt he
      simp at this
      exact this
    subst hk0
    have he : e = .inr (ci, am_df ci) := (Option.some.inj he).symm
    subst he
    have hdf : (am_df ci).map (sm_v (sm_ad q0 adK)) = am_df ci := by
      unfold am_df
      split <;> rfl
    have := hP1 _ _ hq0
    show va_at D vwCl (q0 + 0, sm_e dA (sm_ad q0 adK) (.inr (ci, am_df ci))) H1
    unfold sm_e
    dsimp only
    rw [hdf]
    exact this
  exact kk H1 h1 h2 hS1 (by omega)
end
