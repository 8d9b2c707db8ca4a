/-! what the JDK does by itself -/
section SMP
variable {p : Program} {l : Launch} {e : Env} {R : Room} {s : State} {m : MethodId} {args : Array Value} {below : List Frame} {meth : Method} {c : Code} {H : Heap} {locs : List Loc} {cells slots : Nat} {Q : State → Prop}
variable {lg : Bool} {cc : ByteArray} {pc : Nat} {ls : Array Slot} {n : Nat} {vs st : List Value}
set_option maxHeartbeats 16000000 in
theorem sm_prim {D : va_G} {dA : Nat → ClassId} {base : Nat} {adK adV : Nat → Nat} {A : Nat → Prop} {o : Nat} {ini : Bool} {grow : Prop} {i : Instr} {len pc' d : Nat} {vs' st' : List Value} {h h' : AH} (F : sm_F D dA base adK adV A o ini p s m args meth) (hb : c.code = cc) (hml : c.maxLocals = n) (hd : decode cc pc = .ok (i, len)) (hlen : am_lenok i len = true) (hL : sm_L lg (sm_ad base adK) ls n vs)
    (G : sm_G D dA base adK A s h H locs cells grow) (hd0 : ¬ (d = 0 ∨ (d < 5 ∧ (am_tag o i = 5 ∨ am_tag o i = 6)))) (E : am_prim (am_tag o i) pc vs st h = some (pc', vs', st', h')) (hc : cells + (h'.length - h.length) ≤ R.cells) (hs : slots + (am_sum h' - am_sum h) ≤ R.slots) (hf : d ≤ R.frames) (ho : 64 * d ≤ R.locals)
    (k : ∀ ls' H' locs', sm_L lg (sm_ad base adK) ls' n vs' → sm_G D dA base adK A s h' H' locs' (cells + (h'.length - h.length)) grow → W p l e R s m args below meth c H' locs' (cells + (h'.length - h.length)) (slots + (am_sum h' - am_sum h)) Q (F0 m pc' ls' (st'.map (sm_v (sm_ad base adK))))) : W p l e R s m args below meth c H locs cells slots Q (F0 m pc ls (st.map (sm_v (sm_ad base adK)))) := by
  obtain ⟨hx, hts, hown, hK, hA, hAb, hini, hsc, hao, hSW⟩ := id F
  obtain ⟨hP, hS, hAw, h0, h1000, hbook⟩ := id G
  have hD : va_D A (sm_w base dA (sm_ad base adK) h) := sm_D hAw
  have hz : h.length - h.length = 0 := Nat.sub_self _
  have hz2 : am_sum h - am_sum h = 0 := Nat.sub_self _
  have AT : ∀ {a : Nat} {y : AE}, h[a]? = some y → sm_ad base adK a = base + a := fun ha => sm_ad_lt (by have := sm_lt ha; omega)
  have hd1 : 1 ≤ d := by omega
  have hls : ls.size = n := hL.1.1
  have hfix : CallFix p m c cc n s args ATB (cn o) := ⟨hx, hb, hml, hown, hts⟩
  unfold am_tag at E
  split at E
  · next x => -- invokevirtual
    obtain rfl : len = 3 := by simpa [am_lenok, am_len] using hlen
    split at E
    · next q1 q2 hm =>
      obtain ⟨-, -, -, c5, -⟩ := sm_ml hm
      have c5 := c5 rfl
      dsimp only at c5
      have hd5 : 5 ≤ d := by
        simp [am_tag, hm] at hd0
        omega
      simp only [am_prim] at E
      split at E
      · next kk st1 =>
        split at E
        · next hcd =>
          obtain ⟨hk1, hk2, hpw⟩ := hcd
          simp only [Option.some.injEq, Prod.mk.injEq] at E
          obtain ⟨rfl, rfl, rfl, rfl⟩ := E
          have k := k ls H locs hL
          rw [hz, hz2] at k
          have hi5 : kk - am_str < 5 := Nat.sub_lt_left_of_lt_add hk1 hk2
          have e1 : sm_ad base adK kk = adK (kk - am_str) := by unfold sm_ad; rw [if_neg (by omega)]
          simp only [List.map_cons, sm_vr, e1]
          refine sm_call0 (va_runV (As := []) (rest := st1.map (sm_v (sm_ad base adK))) hfix (c_len l adK adV A 3 hi5) ⟨sm_cb (na := 0) (d := 4) (mc := 0) (ms := 0) hts jc_len ji_S c5 ⟨by decide, by decide⟩ (by decide +kernel) (by decide) (by omega) (by omega), hts _ jl_len, hts _ js_len⟩ ⟨fun a U g mk q => ⟨q.1, sm_SW.moved (u := U) (U := U.calling g mk a) (Vm.Alike.refl U.vm) q.2⟩, vk_recv hSW.1 hi5 hS, fun U hU hW => ⟨rfl, by show sm_SW adK adV A U U.heap; rw [hU]; exact (hSW.kept hS.2.1).moved hW.alike⟩⟩ rfl rfl hls rfl (lv_room (by rw [sm_pw]; exact hpw)) hd ⟨by omega, by omega⟩) ?_
          exact k G
        · cases E
      · cases E
    · next q1 q2 hm =>
      obtain ⟨-, -, -, -, c6, -⟩ := sm_ml hm
      have c6 := c6 rfl
      dsimp only at c6
      have hd5 : 5 ≤ d := by
        simp [am_tag, hm] at hd0
        omega
      simp only [am_prim] at E
      split at E
      · next j kk st1 =>
        split at E
        · next hcd =>
          obtain ⟨hk1, hk2, hin, hpw⟩ := hcd
          simp only [Option.some.injEq, Prod.mk.injEq] at E
          obtain ⟨rfl, rfl, rfl, rfl⟩ := E
          have k := k ls H locs hL
          rw [hz, hz2] at k
          have hi5 : kk - am_str < 5 := Nat.sub_lt_left_of_lt_add hk1 hk2
          have e1 : sm_ad base adK kk = adK (kk - am_str) := by unfold sm_ad; rw [if_neg (by omega)]
          simp only [List.map_cons, sm_vr, sm_vi, e1]
          refine sm_call0 (va_runV (As := [.int j]) (rest := st1.map (sm_v (sm_ad base adK))) hfix (c_chr l adK adV A 1 hi5 j hin) ⟨sm_cb (na := 1) (d := 4) (mc := 0) (ms := 0) hts jc_chr ji_S c6 ⟨by decide, by decide⟩ (by decide +kernel) (by decide) (by omega) (by omega), hts _ jl_chr, hts _ js_chr⟩ ⟨fun a U g mk q => ⟨q.1, sm_SW.moved (u := U) (U := U.calling g mk a) (Vm.Alike.refl U.vm) q.2⟩, vk_recv hSW.1 hi5 hS, fun U hU hW => ⟨rfl, by show sm_SW adK adV A U U.heap; rw [hU]; exact (hSW.kept hS.2.1).moved hW.alike⟩⟩ rfl rfl hls rfl (lv_room (by rw [sm_pw]; exact hpw)) hd ⟨by omega, by omega⟩) ?_
          exact k G
        · cases E
      · cases E
    · simp [am_prim] at E
  · next x => -- invokestatic
    obtain rfl : len = 3 := by simpa [am_lenok, am_len] using hlen
    split at E
    · next q1 q2 hm =>
      obtain ⟨-, -, c4, -⟩ := sm_ml hm
      have c4 := c4 rfl
      dsimp only at c4
      simp only [am_prim] at E
      split at E
      · next nn dp b sp a st1 =>
        split at E
        · next n0 f n1 g ha0 ha1 =>
          split at E
          · next hcd =>
            obtain ⟨h1, h2, h3, h4, h5, hpw⟩ := hcd
            simp only [Option.some.injEq, Prod.mk.injEq] at E
            obtain ⟨rfl, rfl, rfl, rfl⟩ := E
            have k := k ls
            rw [List.length_set, hz, am_sum_set ha1 (by simp [am_cs]), hz2] at k
            have hw0 := sm_w_get (base := base) (dA := dA) (ad := sm_ad base adK) ha0
            have hw1 := sm_w_get (base := base) (dA := dA) (ad := sm_ad base adK) ha1
            simp only [List.map_cons, sm_vr, sm_vi, AT ha0, AT ha1]
            have hnw : nativeFrameWords "java/lang/System" "arraycopy" 5 ≤ 40 := by decide
            exact va_copyi hx hb (hml.trans hls.symm) hown (hts _ c4) (hts _ ac_n) (hts _ ac_s) (hts _ ac_i) hK hP hD hS a b 0 0 hw0 hw1 rfl rfl rfl h1 h2 h3 h4 h5 (fun _ _ => rfl) (by omega) (by rw [sm_pw]; omega) hd fun H1 locs1 hP1 hD1 hS1 => k H1 locs1 hL (G.set hP1 hS1)
          · cases E
        · cases E
      · cases E
    · next q1 q2 hm =>
      obtain ⟨-, -, -, -, -, c7, -⟩ := sm_ml hm
      have c7 := c7 rfl
      dsimp only at c7
      simp only [am_prim] at E
      split at E
      · next y x st1 =>
        split at E
        · next hpw =>
          simp only [Option.some.injEq, Prod.mk.injEq] at E
          obtain ⟨rfl, rfl, rfl, rfl⟩ := E
          have k := k ls H locs hL
          rw [hz, hz2] at k
          simp only [List.map_cons, sm_vi]
          exact va_mmax hx hb (hml.trans hls.symm) hown (hts _ c7) (hts _ mm_s7) (hts _ mm_i) (hts _ mm_c7) (by omega) (by rw [sm_pw]; omega) (by omega) (by omega) hd (k G)
        · cases E
      · cases E
    · next q1 q2 hm =>
      obtain ⟨-, -, -, -, -, -, c8⟩ := sm_ml hm
      have c8 := c8 rfl
      dsimp only at c8
      simp only [am_prim] at E
      split at E
      · next y x st1 =>
        split at E
        · next hpw =>
          simp only [Option.some.injEq, Prod.mk.injEq] at E
          obtain ⟨rfl, rfl, rfl, rfl⟩ := E
          have k := k ls H locs hL
          rw [hz, hz2] at k
          simp only [List.map_cons, sm_vi]
          exact va_mmin hx hb (hml.trans hls.symm) hown (hts _ c8) (hts _ mm_s8) (hts _ mm_i) (hts _ mm_c8) (by omega) (by rw [sm_pw]; omega) (by omega) (by omega) hd (k G)
        · cases E
      · cases E
    · simp [am_prim] at E
  · next x => -- invokespecial
    obtain rfl : len = 3 := by simpa [am_lenok, am_len] using hlen
    split at E
    · next q1 q2 hm =>
      obtain ⟨-, c3, -⟩ := sm_ml hm
      have c3 := c3 rfl
      dsimp only at c3
      simp only [am_prim] at E
      split at E
      · next a st1 =>
        split at E
        · next hpw =>
          simp only [Option.some.injEq, Prod.mk.injEq] at E
          obtain ⟨rfl, rfl, rfl, rfl⟩ := E
          have k := k ls H locs hL
          rw [hz, hz2] at k
          simp only [List.map_cons, sm_vr]
          refine W.objInit hx hb hown (hts _ c3) (hts _ obj_i) (hts _ obj_c) rfl (hls.trans hml.symm) rfl hd (by omega) (by show 2 * 0 + _ + 12 ≤ _; rw [sm_pw]; omega) ?_
          exact k G
        · cases E
      · cases E
    · simp [am_prim] at E
  · simp [am_prim] at E
end SMP
