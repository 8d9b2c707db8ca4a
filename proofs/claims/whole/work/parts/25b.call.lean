/-! a call from the law, into one of the two worlds -/
section
variable {p : Program} {l : Launch} {e : Env} {R : Room} {s : State} {m : MethodId} {args : Array Value} {below : List Frame} {meth : Method} {c : Code} {H : Heap} {locs : List Loc} {cells slots : Nat} {Q : State → Prop}
variable {D : va_G} {dA : Nat → ClassId} {base : Nat} {adK adV : Nat → Nat} {idx j : Nat} {M : MI} {ints : List Int32} {h h' : AH} {a : Int32} {pc : Nat} {ls : Array Slot} {rest : List Value}
def lxA (s : State) : Nat → Prop := fun q => s.heap.size ≤ q
/-- what the law knows all along -/
def LX (D : va_G) (dA : Nat → ClassId) (adK adV : Nat → Nat) (p : Program) (s : State) (m : MethodId) (args : Array Value) (c : Code) : Prop := p.tables.exec = Jvm.exec ∧ c.code = code ∧ c.maxLocals = 4 ∧ s.vm.findClass "SignTriplesLaw" = some m.cls ∧ (∀ w ∈ ATB, w.before args s = true) ∧ va_K D vwCl (tysA dA) s ∧ sm_SW adK adV (lxA s) s s.heap ∧ sm_X adK s
theorem lx_in (hS : va_S (lxA s) s.heap H locs) (hb : s.heap.size ≤ base) : ∀ q, sm_A base h.length H.size q → lxA s q := fun q hq => by
  unfold lxA
  have := hS.1
  rcases hq with ⟨h1, _⟩ | h1
  · omega
  · omega
theorem lx_ints : (Value.ref 0 :: ints.map Value.int).map (sm_v (sm_ad base adK)) = Value.ref base :: ints.map Value.int := by
  have e0 : sm_ad base adK 0 = base := by rw [sm_ad_lt (by decide)]; rfl
  rw [List.map_cons, List.map_map]
  show Value.ref (sm_ad base adK 0) :: _ = _
  rw [e0]
  rfl
theorem lx_cat : (Value.ref 0 :: ints.map Value.int).all (fun v => v.category == 1) = true := by
  rw [List.all_cons, List.all_map]
  simp [Value.category]
theorem lx_sl : am_sl (Value.ref 0 :: ints.map Value.int) = Value.ref 0 :: ints.map Value.int := by
  have : ∀ l : List Int32, am_sl (l.map Value.int) = l.map Value.int := by
    intro l
    induction l with
    | nil => rfl
    | cons a l ih =>
      rw [List.map_cons]
      simp [am_sl, ih, Value.category]
  simp [am_sl, this, Value.category]
set_option maxHeartbeats 16000000 in
theorem lx_call (F : LX D dA adK adV p s m args c) (hk : LKV idx j ints.length) (hj : mt j = some M) (hn : ints.length + 1 ≤ M.2.1) (E : ev 100 j 0 (am_locs M.2.1 (.ref 0 :: ints.map .int)) [] h = some (some (.int a), h')) (hlen : h'.length = h.length) (hsum : am_sum h' = am_sum h)
    (hP : va_P D vwCl (sm_w base dA (sm_ad base adK) h) H) (hS : va_S (lxA s) s.heap H locs) (hb1 : s.heap.size ≤ base) (hb2 : base ≤ H.size) (h0 : 0 < h.length) (h1 : h.length ≤ 1000) (hrec : am_recv j 0 h = true)
    (hdg : decode code pc = .ok (.invokevirtual idx, 3)) (hls : ls.size = 4) (hrest : (rest.map fun v => v.category).sum ≤ 8) (hc : cells ≤ R.cells) (hs : slots ≤ R.slots) (hf : 101 ≤ R.frames) (ho : 64 * 101 ≤ R.locals)
    (kk : ∀ (H1 : Heap) (locs1 : List Loc), va_P D vwCl (sm_w base dA (sm_ad base adK) h') H1 → H.size ≤ H1.size → (∀ q, q < H.size → ¬ sm_A base h.length H.size q → H1[q]? = H[q]?) → va_S (lxA s) s.heap H1 locs1 → W p l e R s m args below meth c H1 locs1 cells slots Q (F0 m (pc + 3) ls (.int a :: rest))) :
    W p l e R s m args below meth c H locs cells slots Q (F0 m pc ls ((ints.map Value.int).reverse ++ .ref base :: rest)) := by
  obtain ⟨hx, hb, hml, hown, hts, hK, hSW, hX⟩ := F
  obtain ⟨M2, hj2, e2, e3, e5, e6⟩ := hk
  obtain rfl : M = M2 := Option.some.inj (hj.symm.trans hj2)
  obtain ⟨n, En⟩ := ev_iff.mp E
  obtain ⟨k1, k2, k3, k4, k5, k6⟩ := mt_ok hj
  have hM := sm_met (sm_all n) hj (by rw [lx_sl, List.length_cons, List.length_map]; exact hn) (Or.inr lx_cat) En h0 h1 l D dA base adK adV H.size (Or.inl hlen) hb2
  rw [show h'.length - h.length = 0 by omega, show am_sum h' - am_sum h = 0 by omega] at hM
  have hfix : CallFix p m c code 4 s args ATB "SignTriplesLaw" := ⟨hx, hb, hml, hown, hts⟩
  have hPc : ∀ U : State, U.heap = H → s.WarmedH U.vm → sm_Pc D dA base adK adV h H.size (.ref 0 :: ints.map .int) ((Value.ref 0 :: ints.map Value.int).map (sm_v (sm_ad base adK))).toArray U := fun U hU hW =>
    ⟨rfl, by rw [hU], by rw [hU]; exact hP, va_K.moved hW.alike hK, by
      rw [hU]
      exact ((hSW.kept hS.2.1).narrow (lx_in hS hb1)).moved hW.alike, sm_X.warm hW hX⟩
  rw [lx_ints] at hPc
  have hrc : ∃ cell : Cell, H[base]? = some cell ∧ cell.vm.isStatics = false ∧ s.vm.findClass M.2.2.2.1.cls = some cell.cls := by
    unfold am_recv at hrec
    split at hrec
    · next ci fs ha =>
      simp only [Bool.and_eq_true, beq_iff_eq, decide_eq_true_eq] at hrec
      have hw := sm_w_get (base := base) (dA := dA) (ad := sm_ad base adK) ha
      rw [Nat.add_zero] at hw
      obtain ⟨q, hq, -⟩ := hP 0 _ hw
      obtain ⟨cell, f1, f2, f3⟩ := va_recv hK hP hq hw
      refine ⟨cell, f1, f2, ?_⟩
      rw [k2, ← f3]
      obtain ⟨-, -, -, -, hcn, -⟩ := sm_cls hq
      rw [← hcn, hrec.1]
      unfold am_own
      rw [hj]
    · cases hrec
  have hrun := va_runV (As := ints.map Value.int) (rest := rest) (H := H) (locs := locs) (cells := cells) (slots := slots) (p := p) (l := l) (e := e) (R := R) (below := below) (meth := meth) (C := M.2.2.2.1.cls) (g := F0 m pc ls ((ints.map Value.int).reverse ++ .ref base :: rest)) hfix hM
    ⟨sm_cb (na := ints.length) (d := 100) hts k3 (by rw [k2]; exact k4) e2 k5 e3 k6 hf ho, hts _ e5, hts _ e6⟩ ⟨sm_blind, hrc, fun U hU hW => hPc U hU hW⟩ rfl (by simp) hls rfl (lv_room hrest) hdg ⟨hc, hs⟩
  intro T hT X
  obtain ⟨v, st₀, t, T', L, g0, X', hL, g1, g2, ⟨⟨hv, hp⟩, hz, hkp⟩, st⟩ := hrun T hT X
  simp only [Outcome.returned.injEq] at hv
  subst hv
  rw [g0] at hz hkp
  have hS' : va_S (lxA s) s.heap T'.heap (locs ++ L) := ⟨Nat.le_trans hS.1 (by rw [g1]; exact hz), fun q q1 q2 => by
    rw [g1, hkp q (Nat.lt_of_lt_of_le q1 hS.1) (fun z => q2 (lx_in hS hb1 q z))]
    exact hS.2.1 q q1 q2, fun q hq => by
      rcases List.mem_append.mp hq with g | g
      · exact hS.2.2 q g
      · exact lx_in hS hb1 _ (hL q g)⟩
  obtain ⟨t2, a1, b1⟩ := kk T'.heap (locs ++ L) (by rw [g1]; exact hp) (by rw [g1]; exact hz) (fun q q1 q2 => by rw [g1]; exact hkp q q1 q2) hS' T' rfl X'
  exact ⟨t2, st t2 a1, b1⟩
end
