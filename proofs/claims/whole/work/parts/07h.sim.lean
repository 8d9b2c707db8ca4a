/-! THE SIMULATION: what the abstract machine answers, the machine answers -/
theorem sm_args {ad : Nat → Nat} : ∀ (as : List Value) (off i : Nat) (v : Value), (am_sl as)[i]? = some v → v ≠ .null → (off + i, sm_v ad v) ∈ lv_args off (as.map (sm_v ad))
  | [], _, i, v, h, _ => by simp [am_sl] at h
  | a :: as, off, 0, v, h, _ => by
    simp [am_sl] at h
    subst h
    exact List.mem_cons_self
  | a :: as, off, i + 1, v, h, hn => by
    simp only [am_sl, List.getElem?_cons_succ] at h
    simp only [List.map_cons, lv_args]
    refine List.mem_cons_of_mem _ ?_
    rw [sm_v_cat]
    by_cases hc : a.category = 2
    · rw [if_pos hc] at h ⊢
      cases i with
      | zero => simp at h; exact absurd h.symm hn
      | succ k =>
        simp only [List.getElem?_cons_succ] at h
        have := sm_args (ad := ad) as (off + 2) k v h hn
        rw [show off + (k + 1 + 1) = off + 2 + k by omega]
        exact this
    · rw [if_neg hc] at h ⊢
      have := sm_args (ad := ad) as (off + 1) i v h hn
      rw [show off + (i + 1) = off + 1 + i by omega]
      exact this
theorem sm_sl_len {ad : Nat → Nat} : ∀ as : List Value, (lg_sl (as.map (sm_v ad))).length = (am_sl as).length
  | [] => rfl
  | a :: as => by
    have ih := sm_sl_len (ad := ad) as
    simp only [List.map_cons, lg_sl, List.flatMap_cons, am_sl, sm_v_cat] at ih ⊢
    by_cases hc : a.category = 2
    · rw [if_pos hc, if_pos hc]
      simp only [List.length_append, List.length_cons, List.length_nil]
      omega
    · rw [if_neg hc, if_neg hc]
      simp only [List.length_append, List.length_cons, List.length_nil]
      omega
theorem am_sl_cat : ∀ {as : List Value}, (∀ v ∈ as, v.category = 1) → ∀ v ∈ am_sl as, v.category = 1
  | [], _, v, hv => by simp [am_sl] at hv
  | a :: as, h, v, hv => by
    have ha := h a List.mem_cons_self
    simp only [am_sl, ha] at hv
    rw [if_neg (by decide)] at hv
    rcases List.mem_cons.mp hv with rfl | h1
    · exact ha
    · exact am_sl_cat (fun w hw => h w (List.mem_cons_of_mem _ hw)) v h1
theorem sm_entry {lg : Bool} {ad : Nat → Nat} {as : List Value} {n : Nat} {ls : Array Slot} (hl : (am_sl as).length ≤ n) (hg : lg = true ∨ as.all (fun v => v.category == 1) = true) (h : lv_has ls n (lv_args 0 (as.map (sm_v ad)))) : sm_L lg ad ls n (am_locs n as) := by
  refine ⟨⟨h.1, h.2.1, fun q hq => ?_⟩, by simp [am_locs]; omega, fun hf v hv => ?_⟩
  rotate_left
  · rcases hg with hg | hg
    · rw [hf] at hg; cases hg
    · unfold am_locs at hv
      rcases List.mem_append.mp hv with h1 | h1
      · exact am_sl_cat (fun w hw => by simpa using List.all_eq_true.mp hg w hw) v h1
      · rw [(List.mem_replicate.mp h1).2]; rfl
  obtain ⟨v, h1, h2, h3, h4⟩ := sm_l_inv hq
  refine h.2.2 q ?_
  obtain ⟨q1, q2⟩ := q
  dsimp only at h1 h3 h4
  subst h3
  have h5 : (am_sl as)[q1]? = some v := by
    unfold am_locs at h1 h4
    rw [List.getD_eq_getElem?_getD] at h1
    rcases Nat.lt_or_ge q1 (am_sl as).length with hlt | hge
    · rw [List.getElem?_append_left hlt] at h1
      rw [List.getElem?_eq_getElem hlt] at h1 ⊢
      rw [← h1]
      rfl
    · rw [List.getElem?_append_right hge, List.getElem?_replicate] at h1
      split at h1 <;> exact absurd h1.symm h2
  have := sm_args (ad := ad) as 0 q1 v h5 h2
  rwa [Nat.zero_add] at this
def sm_A (base n sz : Nat) : Nat → Prop := fun q => (base ≤ q ∧ q < base + n) ∨ sz ≤ q
def sm_X (adK : Nat → Nat) (U : State) : Prop := (∀ (o x k : Nat), scl o x = some k → k < 5 ∧ ∃ tx, vk_R (cn o) x tx (adK k) U) ∧ (∀ t, t < 6 → 3 ≤ t → ∀ C, tyOf t = .object C → va_AO C U)
theorem sm_X.warm {adK : Nat → Nat} {s U : State} (hW : s.WarmedH U.vm) (h : sm_X adK s) : sm_X adK U :=
  ⟨fun o x k hk => by
    obtain ⟨h1, tx, h2⟩ := h.1 o x k hk
    exact ⟨h1, tx, h2.warm hW⟩, fun t h1 h2 C hC => (h.2 t h1 h2 C hC).moved hW.alike⟩
theorem sm_X.same {adK : Nat → Nat} {u U : State} (hv : U.vm = u.vm) (h : sm_X adK u) : sm_X adK U :=
  ⟨fun o x k hk => by
    obtain ⟨h1, tx, h2⟩ := h.1 o x k hk
    exact ⟨h1, tx, h2.same hv⟩, fun t h1 h2 C hC => (h.2 t h1 h2 C hC).moved (by rw [hv]; exact Vm.Alike.refl _)⟩
def sm_Pc (D : va_G) (dA : Nat → ClassId) (base : Nat) (adK adV : Nat → Nat) (h : AH) (sz : Nat) (as : List Value) : Array Value → State → Prop :=
  va_Pc (as.map (sm_v (sm_ad base adK))) (fun U => U.heap.size = sz ∧ va_P D vwCl (sm_w base dA (sm_ad base adK) h) U.heap ∧ va_K D vwCl (tysA dA) U ∧ sm_SW adK adV (sm_A base h.length sz) U U.heap ∧ sm_X adK U)
def sm_Qc (D : va_G) (dA : Nat → ClassId) (base : Nat) (adK : Nat → Nat) (n sz : Nat) (r : Option Value) (h' : AH) : Array Value → State → Outcome → State → Prop := fun _ st oc t =>
  (oc = .returned (r.map (sm_v (sm_ad base adK))) ∧ va_P D vwCl (sm_w base dA (sm_ad base adK) h') t.heap) ∧ va_F (sm_A base n sz) st t
theorem sm_blind {D : va_G} {dA : Nat → ClassId} {base : Nat} {adK adV : Nat → Nat} {h : AH} {sz : Nat} {as : List Value} : FrameBlind (sm_Pc D dA base adK adV h sz as) := fun a U g mk q => by
  obtain ⟨q0, q1, q2, q3, q4, q5⟩ := q
  exact ⟨q0, q1, q2, va_K.moved (u := U) (U := U.calling g mk a) (Vm.Alike.refl U.vm) q3, sm_SW.moved (u := U) (U := U.calling g mk a) (Vm.Alike.refl U.vm) q4, q5.same rfl⟩
def sm_stmt (n : Nat) : Prop := ∀ (d j : Nat) (M : MI) (pc : Nat) (vs st : List Value) (h : AH) (r : Option Value) (h' : AH), mt j = some M → am_run n d j pc vs st h = some (r, h') →
  ∀ (p : Program) (l : Launch) (e : Env) (R : Room) (s : State) (m : MethodId) (args : Array Value) (below : List Frame) (meth : Method) (c : Code) (H : Heap) (locs : List Loc) (cells slots : Nat) (ls : Array Slot) (D : va_G) (dA : Nat → ClassId) (base : Nat) (adK adV : Nat → Nat) (A : Nat → Prop) (grow : Prop) (Qc : Array Value → State → Outcome → State → Prop),
  sm_F D dA base adK adV A M.2.2.2.2 (M.2.2.2.1.name == "<init>") p s m args meth → c.code = M.1 → c.maxLocals = M.2.1 → meth.sig.returnType = M.2.2.1 → meth.locks = false → sm_L (am_lgs j) (sm_ad base adK) ls M.2.1 vs → sm_G D dA base adK A s h H locs cells grow → (h'.length = h.length ∨ grow) →
  cells + (h'.length - h.length) ≤ R.cells → slots + (am_sum h' - am_sum h) ≤ R.slots → d ≤ R.frames → 64 * d ≤ R.locals →
  (∀ (H' : Heap) (locs' : List Loc) (cells' : Nat), sm_G D dA base adK A s h' H' locs' cells' grow → ∀ t : State, t.heap = H' → s.WarmedH t.vm → Qc args s (.returned (r.map (sm_v (sm_ad base adK)))) t) →
  W p l e R s m args below meth c H locs cells slots (MQ below Qc args s (cells + (h'.length - h.length)) (slots + (am_sum h' - am_sum h)) A) (F0 m pc ls (st.map (sm_v (sm_ad base adK))))
theorem sm_A_in {A : Nat → Prop} {base : Nat} {H : Heap} {s : State} {h : AH} {locs : List Loc} (hS : va_S A s.heap H locs) (hAw : ∀ k, k < h.length → A (base + k)) (hA : ∀ q, s.heap.size ≤ q → A q) : ∀ q, sm_A base h.length H.size q → A q := by
  intro q hq
  rcases hq with ⟨h1, h2⟩ | h1
  · have := hAw (q - base) (by omega)
    rwa [show base + (q - base) = q by omega] at this
  · exact hA q (Nat.le_trans hS.1 h1)
set_option maxHeartbeats 16000000 in
/-- the contract of a method, out of the statement at its fuel -/
theorem sm_met {n : Nat} (IH : sm_stmt n) {d j : Nat} {M : MI} {as : List Value} {h : AH} {r : Option Value} {h' : AH} (hj : mt j = some M) (hn : (am_sl as).length ≤ M.2.1) (hg : am_lgs j = true ∨ as.all (fun v => v.category == 1) = true) (E : am_run n d j 0 (am_locs M.2.1 as) [] h = some (r, h')) (h0 : 0 < h.length) (h1 : h.length ≤ 1000)
    (l : Launch) (D : va_G) (dA : Nat → ClassId) (base : Nat) (adK adV : Nat → Nat) (sz : Nat) (hgr : h'.length = h.length ∨ sz = base + h.length) (hbs : base ≤ sz) :
    Met l M.2.2.2.1 (wsA M.2.2.2.1 M.1 M.2.1 M.2.2.1) (sm_rm d (h'.length - h.length) (am_sum h' - am_sum h)) (sm_Pc D dA base adK adV h sz as) (sm_Qc D dA base adK h.length sz r h') (h'.length - h.length) (am_sum h' - am_sum h) (sm_A base h.length sz) := by
  obtain ⟨k1, k2, k3, k4, k5, k6⟩ := mt_ok hj
  refine Met.ofW (cc := M.1) (maxL := M.2.1) (ret := M.2.2.1) k1 rfl ?_
  intro p e s m args below meth c s₁ B hml hv
  obtain ⟨rfl, hsz, hP, hK, hSW, hX⟩ := hv
  have hts0 := atoms_spec (ws := wsA M.2.2.2.1 M.1 M.2.1 M.2.2.1) B.pre
  have hown : s.vm.findClass (cn M.2.2.2.2) = some m.cls := by rw [← k2]; exact findClass_of_methodNamed B.named
  have hl := lv_entry (as.map (sm_v (sm_ad base adK))) (n := M.2.1) (by rw [sm_sl_len]; exact hn)
  rw [lg_entry_eq]
  generalize (lg_sl (as.map (sm_v (sm_ad base adK))) ++ List.replicate (M.2.1 - (lg_sl (as.map (sm_v (sm_ad base adK)))).length) Slot.unset).toArray = ls at hl ⊢
  have hW := IH d j M 0 (am_locs M.2.1 as) [] h r h' hj E p l e (headSpec (wsA M.2.2.2.1 M.1 M.2.1 M.2.2.1) (sm_rm d (h'.length - h.length) (am_sum h' - am_sum h))).room s m _ below meth c s.heap [] 0 0 ls D dA base adK adV (sm_A base h.length sz) (sz = base + h.length) (sm_Qc D dA base adK h.length sz r h')
    ⟨B.exec, fun w hw => hts0 w (List.mem_cons_of_mem _ hw), hown, hK, fun q hq => Or.inr (by rw [← hsz]; exact hq), fun q hq => by rcases hq with hq | hq <;> omega, fun hi => by
      rw [(name_of_methodNamed B.named B.method).1]
      exact beq_iff_eq.mp hi, hX.1, hX.2, hSW⟩ B.bytes hml B.returns B.notSynchronized (sm_entry hn hg hl)
    ⟨hP, va_S.rf, fun k hk => Or.inl ⟨by omega, by omega⟩, h0, h1, fun hg => by omega⟩ hgr (by simp [headSpec, sm_rm]) (by simp [headSpec, sm_rm]) (Nat.le_refl _) (Nat.le_refl _)
    (fun H' locs' cells' G' t ht hWm => ⟨⟨rfl, by rw [ht]; exact G'.1⟩, G'.2.1.F ht⟩)
  simpa using hW
set_option maxHeartbeats 16000000 in
theorem sm_step {p : Program} {l : Launch} {e : Env} {R : Room} {s : State} {m : MethodId} {args : Array Value} {below : List Frame} {meth : Method} {c : Code} {H : Heap} {locs : List Loc} {cells slots : Nat} {Q : State → Prop} {lg : Bool} {cc : ByteArray} {pc : Nat} {ls : Array Slot} {n : Nat} {vs st : List Value}
    {D : va_G} {dA : Nat → ClassId} {base : Nat} {adK adV : Nat → Nat} {A : Nat → Prop} {o : Nat} {ini : Bool} {grow : Prop} {i : Instr} {len pc' d : Nat} {vs' st' : List Value} {h h' : AH} (F : sm_F D dA base adK adV A o ini p s m args meth) (hb : c.code = cc) (hml : c.maxLocals = n) (hd : decode cc pc = .ok (i, len)) (hlen : am_lenok i len = true) (hL : sm_L lg (sm_ad base adK) ls n vs)
    (G : sm_G D dA base adK A s h H locs cells grow) (E : am_stp lg d o ini i pc vs st h = some (pc', vs', st', h')) (hgr : h'.length = h.length ∨ grow) (hc : cells + (h'.length - h.length) ≤ R.cells) (hs : slots + (am_sum h' - am_sum h) ≤ R.slots) (hf : d ≤ R.frames) (ho : 64 * d ≤ R.locals)
    (k : ∀ ls' H' locs', sm_L lg (sm_ad base adK) ls' n vs' → sm_G D dA base adK A s h' H' locs' (cells + (h'.length - h.length)) grow → W p l e R s m args below meth c H' locs' (cells + (h'.length - h.length)) (slots + (am_sum h' - am_sum h)) Q (F0 m pc' ls' (st'.map (sm_v (sm_ad base adK))))) : W p l e R s m args below meth c H locs cells slots Q (F0 m pc ls (st.map (sm_v (sm_ad base adK)))) := by
  have hx := F.1
  unfold am_stp at E
  cases h1 : am_num lg i pc vs st h with
  | some q =>
    rw [h1] at E
    simp only [am_first, Option.some.injEq] at E
    rw [E] at h1
    obtain rfl := am_num_h h1
    refine sm_num hx hb hd hlen hL h1 fun ls' hL' => ?_
    have k := k ls' H locs hL'
    rw [Nat.sub_self, Nat.sub_self] at k
    exact k G
  | none =>
    rw [h1] at E
    simp only [am_first] at E
    cases h2 : am_rck i pc vs st h with
    | some q =>
      rw [h2] at E
      simp only [Option.some.injEq] at E
      rw [E] at h2
      obtain rfl := am_rck_h h2
      refine sm_rck hx hb hd hlen hL h2 fun ls' hL' => ?_
      have k := k ls' H locs hL'
      rw [Nat.sub_self, Nat.sub_self] at k
      exact k G
    | none =>
      rw [h2] at E
      simp only at E
      cases h3 : am_mem o ini i pc vs st h with
      | some q =>
        rw [h3] at E
        simp only [Option.some.injEq] at E
        rw [E] at h3
        exact sm_mem F hb hd hlen hL G h3 hgr hc hs k
      | none =>
        rw [h3] at E
        simp only at E
        split at E
        · cases E
        · next hd0 => exact sm_prim F hb hml hd hlen hL G hd0 E hc hs hf ho k
