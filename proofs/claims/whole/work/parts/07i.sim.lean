/-! the simulation, by the fuel -/
section SMZ
variable {p : Program} {l : Launch} {e : Env} {R : Room} {s : State} {m : MethodId} {args : Array Value} {below : List Frame} {meth : Method} {c : Code} {H : Heap} {locs : List Loc} {cells slots : Nat} {Q : State → Prop}
/-- behind a call -/
theorem sm_after {D : va_G} {dA : Nat → ClassId} {base : Nat} {adK : Nat → Nat} {A : Nat → Prop} {grow : Prop} {h h1 : AH} {pc : Nat} {ls : Array Slot} {st0 rest : List Value} {a : Array Value} {rv : Option Value} (G : sm_G D dA base adK A s h H locs cells grow) (hA : ∀ q, s.heap.size ≤ q → A q) (hle : am_le h h1) (hgr : h1.length = h.length ∨ grow) (hsz : grow → H.size = base + h.length)
    (hr : va_Run p l e R s m args below meth c H locs cells slots (h1.length - h.length) (am_sum h1 - am_sum h) (F0 m pc ls st0) (rest.map (sm_v (sm_ad base adK))) (sm_Qc D dA base adK h.length H.size rv h1 a) (sm_A base h.length H.size))
    (kk : ∀ (H1 : Heap) (locs1 : List Loc), sm_G D dA base adK A s h1 H1 locs1 (cells + (h1.length - h.length)) grow → W p l e R s m args below meth c H1 locs1 (cells + (h1.length - h.length)) (slots + (am_sum h1 - am_sum h)) Q (F0 m (pc + 3) ls ((rv.toList ++ rest).map (sm_v (sm_ad base adK))))) : W p l e R s m args below meth c H locs cells slots Q (F0 m pc ls st0) := by
  obtain ⟨hP, hS, hAw, h0, h1000, hbook⟩ := id G
  have hAin := sm_A_in hS hAw hA
  intro T hT X
  obtain ⟨v, st₀, t, T', L, e0, X', hL, e1, e2, ⟨⟨hv, hp⟩, hz, hk⟩, st⟩ := hr T hT X
  simp only [Outcome.returned.injEq] at hv
  rw [e0] at hz hk
  have hS' : va_S A s.heap T'.heap (locs ++ L) := ⟨Nat.le_trans hS.1 (by rw [e1]; exact hz), fun q g1 g2 => by
    rw [e1, hk q (Nat.lt_of_lt_of_le g1 hS.1) (fun z => g2 (hAin q z))]
    exact hS.2.1 q g1 g2, fun q hq => by
      rcases List.mem_append.mp hq with g | g
      · exact hS.2.2 q g
      · exact hAin _ (hL q g)⟩
  have G1 : sm_G D dA base adK A s h1 T'.heap (locs ++ L) (cells + (h1.length - h.length)) grow := by
    refine ⟨by rw [e1]; exact hp, hS', fun k hk1 => ?_, Nat.lt_of_lt_of_le h0 hle.1, hle.2.2 h1000, fun hg => ?_⟩
    · rcases Nat.lt_or_ge k h.length with q | q
      · exact hAw k q
      · rcases hgr with hg | hg
        · omega
        · refine hA _ (Nat.le_trans hS.1 ?_)
          have := hsz hg
          omega
    · have := hbook hg
      have := hle.1
      omega
  obtain ⟨t2, a1, b1⟩ := kk T'.heap (locs ++ L) G1 T' rfl X'
  refine ⟨t2, st t2 ?_, b1⟩
  have e9 : (v.toList ++ rest.map (sm_v (sm_ad base adK))) = (rv.toList ++ rest).map (sm_v (sm_ad base adK)) := by
    rw [hv]
    cases rv <;> simp
  rw [← e9] at a1
  exact a1
end SMZ
set_option maxHeartbeats 32000000 in
theorem sm_all : ∀ n, sm_stmt n
  | 0 => fun d j M pc vs st h r h' hj E => by simp [am_run] at E
  | n + 1 => by
    have IH := sm_all n
    intro d j M pc vs st h r h' hj E p l e R s m args below meth c H locs cells slots ls D dA base adK adV A grow Qc F hb hml hr hlocks hL G hgr hc hs hf ho hQ
    unfold am_run at E
    rw [hj] at E
    dsimp only at E
    split at E
    · cases E
    next i len hd =>
    split at E
    rotate_left
    · cases E
    next hlen =>
    obtain ⟨hx, hts, hown, hK, hA, hAb, hini, hsc, hao, hSW⟩ := id F
    obtain ⟨hP, hS, hAw, h0, h1000, hbook⟩ := id G
    unfold am_one at E
    split at E
    · -- the end
      next r' hfin =>
      simp only [Option.some.injEq, Prod.mk.injEq] at E
      obtain ⟨rfl, rfl⟩ := E
      rw [Nat.sub_self, Nat.sub_self]
      have hq := hQ H locs cells G
      have hfl : ∀ q ∈ locs, A q.base := hS.2.2
      unfold am_fin at hfin
      split at hfin
      · obtain rfl : len = 1 := by simpa [am_lenok, am_len] using hlen
        split at hfin
        · next v hret =>
          simp only [Option.some.injEq] at hfin
          subst hfin
          exact W.iret hx hb (by rw [hr]; exact hret) hq hfl hd hlocks
        · next v hret =>
          split at hfin
          · next hbv =>
            simp only [Option.some.injEq] at hfin
            subst hfin
            refine W.zret (ty := .boolean) hx hb (by rw [hr]; exact hret) ?_ hq hfl hd hlocks
            simp only [am_bool, Bool.or_eq_true, decide_eq_true_eq] at hbv
            rcases hbv with rfl | rfl
            · exact (by decide : narrow .boolean (.int 0) = .int 0)
            · exact (by decide : narrow .boolean (.int 1) = .int 1)
          · cases hfin
        · cases hfin
      · obtain rfl : len = 1 := by simpa [am_lenok, am_len] using hlen
        split at hfin
        · next v hret =>
          simp only [Option.some.injEq] at hfin
          subst hfin
          exact W.lret hx hb (by rw [hr]; exact hret) hq hfl hd hlocks
        · cases hfin
      · obtain rfl : len = 1 := by simpa [am_lenok, am_len] using hlen
        split at hfin
        · next a nm hret =>
          simp only [Option.some.injEq] at hfin
          subst hfin
          exact W.aret (rt := .object nm) hx hb (by rw [hr]; exact hret) (Or.inl ⟨nm, rfl⟩) (Or.inr ⟨_, rfl⟩) hq hfl hd hlocks
        · cases hfin
      · obtain rfl : len = 1 := by simpa [am_lenok, am_len] using hlen
        split at hfin
        · next hret =>
          simp only [Option.some.injEq] at hfin
          subst hfin
          exact W.vret hx hb (by rw [hr]; exact hret) hq hfl hd hlocks
        · cases hfin
      · cases hfin
    split at E
    · -- a call
      next hfin0 cal as rest hcall =>
      split at E
      · cases E
      next d' =>
      split at E
      · cases E
      next N hN =>
      split at E
      rotate_left
      · cases E
      next hnl =>
      split at E
      · cases E
      next rv h1 hrun =>
      have hle1 := am_run_h hrun
      have hle2 := am_run_h E
      obtain ⟨k1, k2, k3, k4, k5, k6⟩ := mt_ok hN
      have hgr1 : h1.length = h.length ∨ grow := by
        rcases hgr with hg | hg
        · left
          have := hle1.1
          have := hle2.1
          omega
        · exact Or.inr hg
      have hgr2 : h'.length = h1.length ∨ grow := by
        rcases hgr with hg | hg
        · left
          have := hle1.1
          have := hle2.1
          omega
        · exact Or.inr hg
      intro T hT X
      have hsz : grow → H.size = base + h.length := fun hg => by
        have q1 := X.heapSize
        rw [hT] at q1
        have q2 := hbook hg
        have q3 := sm_size hP h0
        omega
      refine (show W p l e R s m args below meth c H locs cells slots (MQ below Qc args s (cells + (h'.length - h.length)) (slots + (am_sum h' - am_sum h)) A) (F0 m pc ls (st.map (sm_v (sm_ad base adK)))) from ?_) T hT X
      have hM := sm_met IH hN hnl.1 hnl.2 hrun h0 h1000 l D dA base adK adV H.size (hgr1.imp id hsz) (by have := sm_size hP h0; omega)
      have hPc : ∀ U : State, U.heap = H → s.WarmedH U.vm → sm_Pc D dA base adK adV h H.size as (as.map (sm_v (sm_ad base adK))).toArray U := fun U hU hW =>
        ⟨rfl, by rw [hU], by rw [hU]; exact hP, va_K.moved hW.alike hK, by
          rw [hU]
          exact ((hSW.kept hS.2.1).narrow (sm_A_in hS hAw hA)).moved hW.alike, sm_X.warm hW ⟨hsc, hao⟩⟩
      have hcl : cells + (h1.length - h.length) ≤ R.cells := by
        have := hle1.1
        have := hle2.1
        omega
      have hsl : slots + (am_sum h1 - am_sum h) ≤ R.slots := by
        have := hle1.2.1
        have := hle2.2.1
        omega
      have hfix : CallFix p m c M.1 M.2.1 s args ATB (cn M.2.2.2.2) := ⟨hx, hb, hml, hown, hts⟩
      have hgo : ∀ (H1 : Heap) (locs1 : List Loc), sm_G D dA base adK A s h1 H1 locs1 (cells + (h1.length - h.length)) grow → W p l e R s m args below meth c H1 locs1 (cells + (h1.length - h.length)) (slots + (am_sum h1 - am_sum h)) (MQ below Qc args s (cells + (h'.length - h.length)) (slots + (am_sum h' - am_sum h)) A) (F0 m (pc + 3) ls ((rv.toList ++ rest).map (sm_v (sm_ad base adK)))) := by
        intro H1 locs1 G1
        have := IH (d' + 1) j M (pc + 3) vs (rv.toList ++ rest) h1 r h' hj E p l e R s m args below meth c H1 locs1 (cells + (h1.length - h.length)) (slots + (am_sum h1 - am_sum h)) ls D dA base adK adV A grow Qc F hb hml hr hlocks hL G1 hgr2 (by
          have := hle1.1
          have := hle2.1
          omega) (by
          have := hle1.2.1
          have := hle2.2.1
          omega) hf ho hQ
        rw [show cells + (h1.length - h.length) + (h'.length - h1.length) = cells + (h'.length - h.length) by
          have := hle1.1
          have := hle2.1
          omega, show slots + (am_sum h1 - am_sum h) + (am_sum h' - am_sum h1) = slots + (am_sum h' - am_sum h) by
          have := hle1.2.1
          have := hle2.2.1
          omega] at this
        exact this
      have hls : ls.size = M.2.1 := hL.1.1
      unfold am_call at hcall
      split at hcall
      · next x => -- invokevirtual
        obtain rfl : len = 3 := by simpa [am_lenok, am_len] using hlen
        split at hcall
        · next c1 na hm =>
          split at hcall
          · next a rest1 hdr =>
            split at hcall
            · next hcd =>
              obtain ⟨hta, hrec, hpw⟩ := hcd
              simp only [Option.some.injEq, Prod.mk.injEq] at hcall
              obtain ⟨rfl, rfl, rfl⟩ := hcall
              obtain ⟨M2, e1, e2, e3, e4, -⟩ := (sm_ml hm).1 (by dsimp only; omega)
              dsimp only at e1 e2 e3 e4
              obtain rfl : M2 = N := Option.some.inj (e1.symm.trans hN)
              obtain ⟨e5, e6⟩ := e4 rfl
              have hst : st = (st.take na).reverse.reverse ++ .ref a :: rest1 := by
                rw [List.reverse_reverse, ← hdr, List.take_append_drop]
              have hrc : ∃ cell : Cell, H[sm_ad base adK a]? = some cell ∧ cell.vm.isStatics = false ∧ s.vm.findClass M2.2.2.2.1.cls = some cell.cls := by
                unfold am_recv at hrec
                split at hrec
                · next ci fs ha =>
                  simp only [Bool.and_eq_true, beq_iff_eq, decide_eq_true_eq] at hrec
                  have hw := sm_w_get (base := base) (dA := dA) (ad := sm_ad base adK) ha
                  rw [sm_ad_lt (by have := sm_lt ha; omega)]
                  obtain ⟨q, hq, -⟩ := hP a _ hw
                  obtain ⟨cell, f1, f2, f3⟩ := va_recv hK hP hq hw
                  refine ⟨cell, f1, f2, ?_⟩
                  rw [k2, ← f3]
                  obtain ⟨-, -, -, -, hcn, -⟩ := sm_cls hq
                  rw [← hcn, hrec.1]
                  unfold am_own
                  rw [hN]
                · cases hrec
              rw [show st.map (sm_v (sm_ad base adK)) = ((st.take na).reverse.map (sm_v (sm_ad base adK))).reverse ++ .ref (sm_ad base adK a) :: rest1.map (sm_v (sm_ad base adK)) by
                conv => lhs; rw [hst]
                simp [sm_v]]
              have hrun1 := va_runV (As := (st.take na).reverse.map (sm_v (sm_ad base adK))) (rest := rest1.map (sm_v (sm_ad base adK))) (H := H) (locs := locs) (cells := cells) (slots := slots) (p := p) (l := l) (e := e) (R := R) (below := below) (meth := meth) (C := M2.2.2.2.1.cls) (g := F0 m pc ls (((st.take na).reverse.map (sm_v (sm_ad base adK))).reverse ++ .ref (sm_ad base adK a) :: rest1.map (sm_v (sm_ad base adK)))) hfix hM
                ⟨sm_cb (na := na) (d := d') hts k3 (by rw [k2]; exact k4) e2 k5 e3 k6 hf ho, hts _ e5, hts _ e6⟩ ⟨sm_blind, hrc, fun U hU hW => by simpa [sm_v] using hPc U hU hW⟩ rfl (by simpa using hta) hls rfl (lv_room (by rw [sm_pw]; exact hpw)) hd ⟨hcl, hsl⟩
              exact sm_after G hA hle1 hgr1 hsz hrun1 hgo
            · cases hcall
          · cases hcall
        · cases hcall
      · next x => -- invokestatic
        obtain rfl : len = 3 := by simpa [am_lenok, am_len] using hlen
        split at hcall
        · next c1 na hm =>
          split at hcall
          · next hcd =>
            obtain ⟨hta, hpw⟩ := hcd
            simp only [Option.some.injEq, Prod.mk.injEq] at hcall
            obtain ⟨rfl, rfl, rfl⟩ := hcall
            obtain ⟨M2, e1, e2, e3, -, e4, -⟩ := (sm_ml hm).1 (by dsimp only; omega)
            dsimp only at e1 e2 e3 e4
            obtain rfl : M2 = N := Option.some.inj (e1.symm.trans hN)
            have e5 := e4 rfl
            have hst : st = (st.take na).reverse.reverse ++ st.drop na := by
              rw [List.reverse_reverse, List.take_append_drop]
            rw [show st.map (sm_v (sm_ad base adK)) = ((st.take na).reverse.map (sm_v (sm_ad base adK))).reverse ++ (st.drop na).map (sm_v (sm_ad base adK)) by
              conv => lhs; rw [hst]
              simp]
            have hrun1 := va_runS (As := (st.take na).reverse.map (sm_v (sm_ad base adK))) (rest := (st.drop na).map (sm_v (sm_ad base adK))) (H := H) (locs := locs) (cells := cells) (slots := slots) (p := p) (l := l) (e := e) (R := R) (below := below) (meth := meth) (g := F0 m pc ls (((st.take na).reverse.map (sm_v (sm_ad base adK))).reverse ++ (st.drop na).map (sm_v (sm_ad base adK)))) hfix hM
              ⟨sm_cb (na := na) (d := d') hts k3 (by rw [k2]; exact k4) e2 k5 e3 k6 hf ho, hts _ e5⟩ ⟨sm_blind, fun U hU hW => hPc U hU hW⟩ rfl (by simpa using hta) hls rfl (lv_room (by rw [sm_pw]; exact hpw)) hd ⟨hcl, hsl⟩
            exact sm_after G hA hle1 hgr1 hsz hrun1 hgo
          · cases hcall
        · cases hcall
      · next x => -- invokespecial
        obtain rfl : len = 3 := by simpa [am_lenok, am_len] using hlen
        split at hcall
        · next c1 na hm =>
          split at hcall
          · next a rest1 hdr =>
            split at hcall
            · next hcd =>
              obtain ⟨hta, hpw⟩ := hcd
              simp only [Option.some.injEq, Prod.mk.injEq] at hcall
              obtain ⟨rfl, rfl, rfl⟩ := hcall
              obtain ⟨M2, e1, e2, e3, -, -, e4⟩ := (sm_ml hm).1 (by dsimp only; omega)
              dsimp only at e1 e2 e3 e4
              obtain rfl : M2 = N := Option.some.inj (e1.symm.trans hN)
              obtain ⟨e5, e6, e7⟩ := e4 rfl
              have hst : st = (st.take na).reverse.reverse ++ .ref a :: rest1 := by
                rw [List.reverse_reverse, ← hdr, List.take_append_drop]
              rw [show st.map (sm_v (sm_ad base adK)) = ((st.take na).reverse.map (sm_v (sm_ad base adK))).reverse ++ .ref (sm_ad base adK a) :: rest1.map (sm_v (sm_ad base adK)) by
                conv => lhs; rw [hst]
                simp [sm_v]]
              rw [e7] at hM k3
              have hrun1 := va_runI (As := (st.take na).reverse.map (sm_v (sm_ad base adK))) (rest := rest1.map (sm_v (sm_ad base adK))) (H := H) (locs := locs) (cells := cells) (slots := slots) (p := p) (l := l) (e := e) (R := R) (below := below) (meth := meth) (g := F0 m pc ls (((st.take na).reverse.map (sm_v (sm_ad base adK))).reverse ++ .ref (sm_ad base adK a) :: rest1.map (sm_v (sm_ad base adK)))) hfix hM
                ⟨sm_cb (na := na) (d := d') hts k3 (by rw [k2]; exact k4) e2 k5 e3 k6 hf ho, e5, hts _ e6⟩ ⟨sm_blind, fun U hU hW => by simpa [sm_v] using hPc U hU hW⟩ rfl (by simpa using hta) hls rfl (lv_room (by rw [sm_pw]; exact hpw)) hd ⟨hcl, hsl⟩
              exact sm_after G hA hle1 hgr1 hsz hrun1 hgo
            · cases hcall
          · cases hcall
        · cases hcall
      · cases hcall
    · -- a step
      split at E
      · cases E
      next pc' vs' st' h1 hstp =>
      have hle1 := am_stp_h hstp
      have hle2 := am_run_h E
      have hgr1 : h1.length = h.length ∨ grow := by
        rcases hgr with hg | hg
        · left
          have := hle1.1
          have := hle2.1
          omega
        · exact Or.inr hg
      have hgr2 : h'.length = h1.length ∨ grow := by
        rcases hgr with hg | hg
        · left
          have := hle1.1
          have := hle2.1
          omega
        · exact Or.inr hg
      refine sm_step F hb hml hd hlen hL G hstp hgr1 (by
          have := hle1.1
          have := hle2.1
          omega) (by
          have := hle1.2.1
          have := hle2.2.1
          omega) hf ho fun ls' H1 locs1 hL1 G1 => ?_
      have := IH d j M pc' vs' st' h1 r h' hj E p l e R s m args below meth c H1 locs1 (cells + (h1.length - h.length)) (slots + (am_sum h1 - am_sum h)) ls' D dA base adK adV A grow Qc F hb hml hr hlocks hL1 G1 hgr2 (by
          have := hle1.1
          have := hle2.1
          omega) (by
          have := hle1.2.1
          have := hle2.2.1
          omega) hf ho hQ
      rw [show cells + (h1.length - h.length) + (h'.length - h1.length) = cells + (h'.length - h.length) by
          have := hle1.1
          have := hle2.1
          omega, show slots + (am_sum h1 - am_sum h) + (am_sum h' - am_sum h1) = slots + (am_sum h' - am_sum h) by
          have := hle1.2.1
          have := hle2.2.1
          omega] at this
      exact this
