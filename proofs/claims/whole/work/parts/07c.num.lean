/-! steps that touch no cell -/
section SMN
variable {p : Program} {l : Launch} {e : Env} {R : Room} {s : State} {m : MethodId} {args : Array Value} {below : List Frame} {meth : Method} {c : Code} {H : Heap} {locs : List Loc} {cells slots : Nat} {Q : State → Prop}
variable {lg : Bool} {cc : ByteArray} {pc : Nat} {ls : Array Slot} {ad : Nat → Nat} {n : Nat} {vs st : List Value}
set_option maxHeartbeats 8000000 in
theorem sm_num {i : Instr} {len pc' : Nat} {vs' st' : List Value} {h h' : AH} (hx : p.tables.exec = Jvm.exec) (hb : c.code = cc) (hd : decode cc pc = .ok (i, len)) (hlen : am_lenok i len = true) (hL : sm_L lg ad ls n vs) (E : am_num lg i pc vs st h = some (pc', vs', st', h'))
    (k : ∀ ls', sm_L lg ad ls' n vs' → W p l e R s m args below meth c H locs cells slots Q (F0 m pc' ls' (st'.map (sm_v ad)))) : W p l e R s m args below meth c H locs cells slots Q (F0 m pc ls (st.map (sm_v ad))) := by
  have hl2 : vs.length = n := hL.2.1
  have hl3 := hL.2.2
  unfold am_num at E
  split at E
  · simp only [Option.some.injEq, Prod.mk.injEq] at E
    obtain ⟨rfl, rfl, rfl, rfl⟩ := E
    obtain rfl : len = 1 := by simpa [am_lenok, am_len] using hlen
    exact lv_iconst hx hb hd rfl (k ls hL)
  · simp only [Option.some.injEq, Prod.mk.injEq] at E
    obtain ⟨rfl, rfl, rfl, rfl⟩ := E
    obtain rfl : len = 2 := by simpa [am_lenok, am_len] using hlen
    exact lv_bipush hx hb hd rfl (k ls hL)
  · simp only [Option.some.injEq, Prod.mk.injEq] at E
    obtain ⟨rfl, rfl, rfl, rfl⟩ := E
    obtain rfl : len = 3 := by simpa [am_lenok, am_len] using hlen
    exact lv_sipush hx hb hd rfl (k ls hL)
  · simp only [Option.some.injEq, Prod.mk.injEq] at E
    obtain ⟨rfl, rfl, rfl, rfl⟩ := E
    obtain rfl : len = 1 := by simpa [am_lenok, am_len] using hlen
    exact lv_lconst hx hb hd rfl (k ls hL)
  · split at E
    · next x hv =>
      simp only [Option.some.injEq, Prod.mk.injEq] at E
      obtain ⟨rfl, rfl, rfl, rfl⟩ := E
      obtain rfl : len = 1 := by simpa [am_lenok, am_len] using hlen
      exact lv_iload_n hx hb hd rfl (hL.at hv (by simp)) (k ls hL)
    · cases E
  · split at E
    · next x hv =>
      simp only [Option.some.injEq, Prod.mk.injEq] at E
      obtain ⟨rfl, rfl, rfl, rfl⟩ := E
      obtain rfl : len = 2 := by simpa [am_lenok, am_len] using hlen
      exact lv_iload hx hb hd (hL.at hv (by simp)) (k ls hL)
    · cases E
  · split at E
    · next x hv =>
      simp only [Option.some.injEq, Prod.mk.injEq] at E
      obtain ⟨rfl, rfl, rfl, rfl⟩ := E
      obtain rfl : len = 1 := by simpa [am_lenok, am_len] using hlen
      exact lv_lload_n hx hb hd rfl (hL.at hv (by simp)) (k ls hL)
    · cases E
  · split at E
    · next x hv =>
      simp only [Option.some.injEq, Prod.mk.injEq] at E
      obtain ⟨rfl, rfl, rfl, rfl⟩ := E
      obtain rfl : len = 2 := by simpa [am_lenok, am_len] using hlen
      exact lv_lload hx hb hd (hL.at hv (by simp)) (k ls hL)
    · cases E
  · split at E
    · next x hv =>
      simp only [Option.some.injEq, Prod.mk.injEq] at E
      obtain ⟨rfl, rfl, rfl, rfl⟩ := E
      obtain rfl : len = 1 := by simpa [am_lenok, am_len] using hlen
      exact lv_aload_n hx hb hd rfl (hL.at hv (by simp)) (k ls hL)
    · cases E
  · split at E
    · next x hv =>
      simp only [Option.some.injEq, Prod.mk.injEq] at E
      obtain ⟨rfl, rfl, rfl, rfl⟩ := E
      obtain rfl : len = 2 := by simpa [am_lenok, am_len] using hlen
      exact lv_aload hx hb hd (hL.at hv (by simp)) (k ls hL)
    · cases E
  · split at E
    · obtain ⟨vs2, e1, e2⟩ := am_sto_h E
      simp only [Prod.mk.injEq] at e2
      obtain ⟨rfl, rfl, rfl, rfl⟩ := e2
      obtain rfl : len = 1 := by simpa [am_lenok, am_len] using hlen
      exact lv_istore_n hx hb hd rfl hL.1 (by have := sm_st1_lt e1; omega) rfl (fun ls' h' => k ls' (sm_L.st1 hl2 hl3 rfl e1 h'))
    · cases E
  · split at E
    · obtain ⟨vs2, e1, e2⟩ := am_sto_h E
      simp only [Prod.mk.injEq] at e2
      obtain ⟨rfl, rfl, rfl, rfl⟩ := e2
      obtain rfl : len = 2 := by simpa [am_lenok, am_len] using hlen
      exact lv_istore hx hb hd hL.1 (by have := sm_st1_lt e1; omega) rfl (fun ls' h' => k ls' (sm_L.st1 hl2 hl3 rfl e1 h'))
    · cases E
  · split at E
    · obtain ⟨vs2, e1, e2⟩ := am_sto_h E
      simp only [Prod.mk.injEq] at e2
      obtain ⟨rfl, rfl, rfl, rfl⟩ := e2
      obtain rfl : len = 1 := by simpa [am_lenok, am_len] using hlen
      exact lv_astore_n hx hb hd rfl hL.1 (by have := sm_st1_lt e1; omega) rfl (fun ls' h' => k ls' (sm_L.st1 hl2 hl3 rfl e1 h'))
    · cases E
  · split at E
    · obtain ⟨vs2, e1, e2⟩ := am_sto_h E
      simp only [Prod.mk.injEq] at e2
      obtain ⟨rfl, rfl, rfl, rfl⟩ := e2
      obtain rfl : len = 2 := by simpa [am_lenok, am_len] using hlen
      exact lv_astore hx hb hd hL.1 (by have := sm_st1_lt e1; omega) rfl (fun ls' h' => k ls' (sm_L.st1 hl2 hl3 rfl e1 h'))
    · cases E
  · split at E
    · obtain ⟨vs2, e1, e2⟩ := am_sto_h E
      simp only [Prod.mk.injEq] at e2
      obtain ⟨rfl, rfl, rfl, rfl⟩ := e2
      obtain rfl : len = 1 := by simpa [am_lenok, am_len] using hlen
      exact lv_lstore_n hx hb hd rfl hL.1 (by have := sm_st2_lt e1; omega) rfl (fun ls' h' => k ls' (sm_L.st2 hl2 hl3 e1 h'))
    · cases E
  · split at E
    · next x hv =>
      obtain ⟨vs2, e1, e2⟩ := am_sto_h E
      simp only [Prod.mk.injEq] at e2
      obtain ⟨rfl, rfl, rfl, rfl⟩ := e2
      obtain rfl : len = 3 := by simpa [am_lenok, am_len] using hlen
      obtain ⟨kk, hk⟩ := List.getElem?_of_mem (sm_l_mem (ad := ad) hv (by simp))
      exact lv_iinc hx hb hd hL.1 hk rfl (by have := sm_st1_lt e1; omega) rfl (fun ls' h' => k ls' (sm_L.st1 hl2 hl3 rfl e1 h'))
    · cases E
  · split at E
    · next hj =>
      simp only [Option.some.injEq, Prod.mk.injEq] at E
      obtain ⟨rfl, rfl, rfl, rfl⟩ := E
      obtain rfl : len = 3 := by simpa [am_lenok, am_len] using hlen
      exact lv_goto hx hb hd (sm_jmp hj) (k ls hL)
    · cases E
  · next cnd off =>
    split at E
    · split at E
      · next hj =>
        simp only [Option.some.injEq, Prod.mk.injEq] at E
        obtain ⟨rfl, rfl, rfl, rfl⟩ := E
        obtain rfl : len = 3 := by simpa [am_lenok, am_len] using hlen
        have k := k ls hL
        cases cnd
        · exact lv_if_eq hx hb hd (sm_jmp hj) (fun hc => by simpa [am_cond, hc] using k) (fun hc => by simpa [am_cond, hc] using k)
        · exact lv_if_ne hx hb hd (sm_jmp hj) (fun hc => by simpa [am_cond, hc] using k) (fun hc => by simpa [am_cond, hc] using k)
        · exact lv_if_lt hx hb hd (sm_jmp hj) (fun hc => by simpa [am_cond, hc] using k) (fun hc => by simpa [am_cond, hc] using k)
        · exact lv_if_ge hx hb hd (sm_jmp hj) (fun hc => by simpa [am_cond, hc] using k) (fun hc => by simpa [am_cond, hc] using k)
        · exact lv_if_gt hx hb hd (sm_jmp hj) (fun hc => by simpa [am_cond, hc] using k) (fun hc => by simpa [am_cond, hc] using k)
        · exact lv_if_le hx hb hd (sm_jmp hj) (fun hc => by simpa [am_cond, hc] using k) (fun hc => by simpa [am_cond, hc] using k)
      · cases E
    · cases E
  · next cnd off =>
    split at E
    · split at E
      · next hj =>
        simp only [Option.some.injEq, Prod.mk.injEq] at E
        obtain ⟨rfl, rfl, rfl, rfl⟩ := E
        obtain rfl : len = 3 := by simpa [am_lenok, am_len] using hlen
        have k := k ls hL
        cases cnd
        · exact lv_icmp_eq hx hb hd (sm_jmp hj) (fun hc => by simpa [am_cond, hc] using k) (fun hc => by simpa [am_cond, hc] using k)
        · exact lv_icmp_ne hx hb hd (sm_jmp hj) (fun hc => by simpa [am_cond, hc] using k) (fun hc => by simpa [am_cond, hc] using k)
        · exact lv_icmp_lt hx hb hd (sm_jmp hj) (fun hc => by simpa [am_cond, hc] using k) (fun hc => by simpa [am_cond, hc] using k)
        · exact lv_icmp_ge hx hb hd (sm_jmp hj) (fun hc => by simpa [am_cond, hc] using k) (fun hc => by simpa [am_cond, hc] using k)
        · exact lv_icmp_gt hx hb hd (sm_jmp hj) (fun hc => by simpa [am_cond, hc] using k) (fun hc => by simpa [am_cond, hc] using k)
        · exact lv_icmp_le hx hb hd (sm_jmp hj) (fun hc => by simpa [am_cond, hc] using k) (fun hc => by simpa [am_cond, hc] using k)
      · cases E
    · cases E
  · split at E
    · split at E
      · next hout =>
        split at E
        · next hj =>
          simp only [Option.some.injEq, Prod.mk.injEq] at E
          obtain ⟨rfl, rfl, rfl, rfl⟩ := E
          exact lv_tableOut hx hb hd hout (sm_jmp hj) (k ls hL)
        · cases E
      · next hin =>
        split at E
        · next off ho =>
          split at E
          · next hj =>
            simp only [Option.some.injEq, Prod.mk.injEq] at E
            obtain ⟨rfl, rfl, rfl, rfl⟩ := E
            exact lv_tableIn hx hb hd (fun q => hin (Or.inl q)) (fun q => hin (Or.inr q)) ho (sm_jmp hj) (k ls hL)
          · cases E
        · cases E
    · cases E
  · split at E
    · split at E
      · next hc =>
        simp only [Option.some.injEq, Prod.mk.injEq] at E
        obtain ⟨rfl, rfl, rfl, rfl⟩ := E
        obtain rfl : len = 1 := by simpa [am_lenok, am_len] using hlen
        exact lv_dup hx hb hd (by rw [sm_v_cat]; exact hc) (k ls hL)
      · cases E
    · cases E
  · split at E
    · split at E
      · next hc =>
        simp only [Option.some.injEq, Prod.mk.injEq] at E
        obtain ⟨rfl, rfl, rfl, rfl⟩ := E
        obtain rfl : len = 1 := by simpa [am_lenok, am_len] using hlen
        exact lv_dup2_11 hx hb hd (by rw [sm_v_cat]; exact hc.1) (by rw [sm_v_cat]; exact hc.2) (k ls hL)
      · cases E
    · cases E
  · split at E
    · split at E
      · next hc =>
        simp only [Option.some.injEq, Prod.mk.injEq] at E
        obtain ⟨rfl, rfl, rfl, rfl⟩ := E
        obtain rfl : len = 1 := by simpa [am_lenok, am_len] using hlen
        exact lv_pop hx hb hd (by rw [sm_v_cat]; exact hc) (k ls hL)
      · cases E
    · cases E
  · cases E
set_option maxHeartbeats 8000000 in
theorem sm_rck {i : Instr} {len pc' : Nat} {vs' st' : List Value} {h h' : AH} (hx : p.tables.exec = Jvm.exec) (hb : c.code = cc) (hd : decode cc pc = .ok (i, len)) (hlen : am_lenok i len = true) (hL : sm_L lg ad ls n vs) (E : am_rck i pc vs st h = some (pc', vs', st', h'))
    (k : ∀ ls', sm_L lg ad ls' n vs' → W p l e R s m args below meth c H locs cells slots Q (F0 m pc' ls' (st'.map (sm_v ad)))) : W p l e R s m args below meth c H locs cells slots Q (F0 m pc ls (st.map (sm_v ad))) := by
  unfold am_rck at E
  split at E
  all_goals first
    | (cases E; done)
    | skip
  all_goals (try split at E)
  all_goals first
    | (cases E; done)
    | skip
  all_goals simp only [Option.some.injEq, Prod.mk.injEq] at E
  all_goals obtain ⟨rfl, rfl, rfl, rfl⟩ := E
  all_goals (obtain rfl : len = 1 := by simpa [am_lenok, am_len] using hlen)
  · exact lv_iadd hx hb hd (k ls hL)
  · exact lv_isub hx hb hd (k ls hL)
  · exact lv_imul hx hb hd (k ls hL)
  · exact lv_iand hx hb hd (k ls hL)
  · exact lv_ior hx hb hd (k ls hL)
  · exact lv_ixor hx hb hd (k ls hL)
  · exact lv_ishl hx hb hd (k ls hL)
  · exact lv_ishr hx hb hd (k ls hL)
  · exact lv_iushr hx hb hd rfl (k ls hL)
  · exact lv_idiv hx hb hd (by assumption) (k ls hL)
  · exact lv_irem hx hb hd (by assumption) (k ls hL)
  · exact lv_ineg hx hb hd (k ls hL)
  · exact lv_ladd hx hb hd (k ls hL)
  · exact lv_lsub hx hb hd (k ls hL)
  · exact lv_land hx hb hd (k ls hL)
  · exact lv_lor hx hb hd (k ls hL)
  · exact lv_lshl hx hb hd rfl (k ls hL)
  · exact lv_lshr hx hb hd rfl (k ls hL)
  · exact lv_lushr hx hb hd rfl (k ls hL)
  · exact W.lcmp hx hb hd (k ls hL)
  · exact lv_i2l hx hb hd rfl (k ls hL)
  · exact lv_l2i hx hb hd rfl (k ls hL)
end SMN
