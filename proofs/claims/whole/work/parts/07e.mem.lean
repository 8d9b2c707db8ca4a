section SME
theorem sm_vr {ad : Nat → Nat} {a : Nat} : sm_v ad (.ref a) = .ref (ad a) := rfl
theorem sm_vi {ad : Nat → Nat} {x : Int32} : sm_v ad (.int x) = .int x := rfl
theorem sm_vl {ad : Nat → Nat} {x : Int64} : sm_v ad (.long x) = .long x := rfl
variable {p : Program} {l : Launch} {e : Env} {R : Room} {s : State} {m : MethodId} {args : Array Value} {below : List Frame} {meth : Method} {c : Code} {H : Heap} {locs : List Loc} {cells slots : Nat} {Q : State → Prop}
variable {lg : Bool} {cc : ByteArray} {pc : Nat} {ls : Array Slot} {n : Nat} {vs st : List Value}
theorem sm_G.set {D : va_G} {dA : Nat → ClassId} {base : Nat} {adK : Nat → Nat} {A : Nat → Prop} {h : AH} {grow : Prop} {a : Nat} {y : AE} {H1 : Heap} {locs1 : List Loc} (G : sm_G D dA base adK A s h H locs cells grow)
    (hP : va_P D vwCl ((sm_w base dA (sm_ad base adK) h).set a (base + a, sm_e dA (sm_ad base adK) y)) H1) (hS : va_S A s.heap H1 locs1) : sm_G D dA base adK A s (h.set a y) H1 locs1 cells grow := by
  rw [sm_w_set] at hP
  obtain ⟨-, -, g3, g4, g5, g6⟩ := G
  exact ⟨hP, hS, fun k hk => g3 k (by simpa using hk), by simpa using g4, by simpa using g5, fun hg => by simpa using g6 hg⟩
theorem sm_fin {ci k : Nat} {q : vw_C} {fin : Bool} (h1 : (q.2.1 k).2.2.2 = fin) : fin = true ∨ fin = false := by cases fin <;> simp
set_option maxHeartbeats 16000000 in
theorem sm_mem {D : va_G} {dA : Nat → ClassId} {base : Nat} {adK adV : Nat → Nat} {A : Nat → Prop} {o : Nat} {ini : Bool} {grow : Prop} {i : Instr} {len pc' : Nat} {vs' st' : List Value} {h h' : AH} (F : sm_F D dA base adK adV A o ini p s m args meth) (hb : c.code = cc) (hd : decode cc pc = .ok (i, len)) (hlen : am_lenok i len = true) (hL : sm_L lg (sm_ad base adK) ls n vs)
    (G : sm_G D dA base adK A s h H locs cells grow) (E : am_mem o ini i pc vs st h = some (pc', vs', st', h')) (hgr : h'.length = h.length ∨ grow) (hc : cells + (h'.length - h.length) ≤ R.cells) (hs : slots + (am_sum h' - am_sum h) ≤ R.slots)
    (k : ∀ ls' H' locs', sm_L lg (sm_ad base adK) ls' n vs' → sm_G D dA base adK A s h' H' locs' (cells + (h'.length - h.length)) grow → W p l e R s m args below meth c H' locs' (cells + (h'.length - h.length)) (slots + (am_sum h' - am_sum h)) Q (F0 m pc' ls' (st'.map (sm_v (sm_ad base adK))))) : W p l e R s m args below meth c H locs cells slots Q (F0 m pc ls (st.map (sm_v (sm_ad base adK)))) := by
  obtain ⟨hx, hts, hown, hK, hA, hAb, hini, hsc, hao, hSW⟩ := id F
  obtain ⟨hP, hS, hAw, h0, h1000, hbook⟩ := id G
  have hD : va_D A (sm_w base dA (sm_ad base adK) h) := sm_D hAw
  have hz : h.length - h.length = 0 := Nat.sub_self _
  have hz2 : am_sum h - am_sum h = 0 := Nat.sub_self _
  have AT : ∀ {a : Nat} {y : AE}, h[a]? = some y → sm_ad base adK a = base + a := fun ha => sm_ad_lt (by have := sm_lt ha; omega)
  unfold am_mem at E
  split at E
  · next x => -- ldc
    split at E
    · next q hq =>
      simp only [Option.some.injEq, Prod.mk.injEq] at E
      obtain ⟨rfl, rfl, rfl, rfl⟩ := E
      obtain rfl : len = 2 := by simpa [am_lenok, am_len] using hlen
      obtain ⟨hq5, tx, hR⟩ := hsc o x q hq
      have k := k ls H locs hL
      rw [hz, hz2] at k
      refine va_ldcS hx hb hown hR hd ?_
      have e1 : sm_ad base adK (am_str + q) = adK q := by
        unfold sm_ad
        rw [if_neg (by omega), Nat.add_sub_cancel_left]
      have k := k G
      simp only [List.map_cons, sm_vr, e1] at k
      exact k
    · cases E
  · next x => -- ldc_w
    split at E
    · next v hv =>
      simp only [Option.some.injEq, Prod.mk.injEq] at E
      obtain ⟨rfl, rfl, rfl, rfl⟩ := E
      obtain rfl : len = 3 := by simpa [am_lenok, am_len] using hlen
      have k := k ls H locs hL
      rw [hz, hz2] at k
      exact lv_ldcw hx hb hown (hts _ (icT_all _ (am_find_mem hv))) hd (k G)
    · cases E
  · next x => -- ldc2_w
    split at E
    · next v hv =>
      simp only [Option.some.injEq, Prod.mk.injEq] at E
      obtain ⟨rfl, rfl, rfl, rfl⟩ := E
      obtain rfl : len = 3 := by simpa [am_lenok, am_len] using hlen
      have k := k ls H locs hL
      rw [hz, hz2] at k
      exact lv_ldc2 hx hb hown (hts _ (lcT_all _ (am_find_mem hv))) hd (k G)
    · cases E
  · next x => -- getfield
    split at E
    · next a st1 ci kf kd fin hfl =>
      split at E
      · next cj fs ha =>
        split at E
        · next v hv =>
          split at E
          · next hcj =>
            simp only [Option.some.injEq, Prod.mk.injEq] at E
            obtain ⟨rfl, rfl, rfl, rfl⟩ := E
            obtain rfl : len = 3 := by simpa [am_lenok, am_len] using hlen
            subst hcj
            obtain ⟨q, f1, f2, f3, f4, f5, ty, f6, f7⟩ := sm_fl hfl
            have k := k ls H locs hL
            rw [hz, hz2] at k
            have hw := sm_w_get (base := base) (dA := dA) (ad := sm_ad base adK) ha
            simp only [List.map_cons, sm_vr, sm_vi, sm_vl, AT ha]
            exact va_get hx hb (Ts := ATB) hts (sm_cls f1).1 hown hK hP a (fs := fs.map (sm_v (sm_ad base adK))) hw f1 kf f2 (hts _ f3) (fun _ h9 => h9) (v := sm_v (sm_ad base adK) v) (by simp [hv]) hd (k G)
          · cases E
        · cases E
      · cases E
    · cases E
  · next x => -- putfield
    split at E
    · next v a st1 ci kf kd fin hfl =>
      split at E
      · next cj fs ha =>
        split at E
        · next hcj =>
          obtain ⟨hcj, hkl, hfit, hfi⟩ := hcj
          simp only [Option.some.injEq, Prod.mk.injEq] at E
          obtain ⟨rfl, rfl, rfl, rfl⟩ := E
          obtain rfl : len = 3 := by simpa [am_lenok, am_len] using hlen
          subst hcj
          obtain ⟨q, f1, f2, f3, f4, f5, ty, f6, f7⟩ := sm_fl hfl
          dsimp only at f1 f2 f3 f4 f5 f6 f7
          obtain ⟨z1, ⟨ty0, z2, z3⟩, z4, -⟩ := sm_cls f1
          obtain ⟨g1, g2⟩ := sm_fit (ad := sm_ad base adK) hfit f7
          have hw := sm_w_get (base := base) (dA := dA) (ad := sm_ad base adK) ha
          have k := k ls
          rw [List.length_set, hz, am_sum_set ha (by simp [am_cs]), hz2] at k
          simp only [List.map_cons, sm_vr, sm_vi, sm_vl, AT ha]
          have fin_cases : fin = true ∨ fin = false := by cases fin <;> simp
          rcases fin_cases with hfn | hfn
          · subst hfn
            refine va_putF hx hb (Ts := ATB) hts z1 ty0 z2 z4 hown hK hP hD hS a (fs := fs.map (sm_v (sm_ad base adK))) hw f1 kf f2 (hts _ f3) (fun _ h9 => h9) f4 (hini (hfi rfl)) (f5 rfl) f6 g1 g2 (by simpa using hkl) hd fun H1 locs1 hP1 hD1 hS1 => ?_
            exact k H1 locs1 hL (G.set (by simpa [sm_e, List.map_set] using hP1) hS1)
          · subst hfn
            refine va_put hx hb (Ts := ATB) hts z1 ty0 z2 z4 hown hK hP hD hS a (fs := fs.map (sm_v (sm_ad base adK))) hw f1 kf f2 (hts _ f3) (fun _ h9 => h9) f4 f6 g1 g2 (by simpa using hkl) hd fun H1 locs1 hP1 hD1 hS1 => ?_
            exact k H1 locs1 hL (G.set (by simpa [sm_e, List.map_set] using hP1) hS1)
        · cases E
      · cases E
    · cases E
  · next x => -- new
    split at E
    · next ci hci =>
      split at E
      · next hlt =>
        simp only [Option.some.injEq, Prod.mk.injEq] at E
        obtain ⟨rfl, rfl, rfl, rfl⟩ := E
        obtain rfl : len = 3 := by simpa [am_lenok, am_len] using hlen
        obtain ⟨q, f1, f2, f3, f4⟩ := nwT_all _ (am_find_mem hci)
        dsimp only at f1 f2 f3 f4
        obtain ⟨z1, ⟨ty0, z2, z3⟩, z4, z5, -⟩ := sm_cls f1
        have hgrow : grow := hgr.resolve_left (by simp)
        have e1 : (h ++ [Sum.inr (ci, am_df ci)] : AH).length - h.length = 1 := by simp
        have e2 : am_sum (h ++ [Sum.inr (ci, am_df ci)] : AH) - am_sum h = q.2.2 := by rw [am_sum_app]; simp [am_cs, z5]
        rw [e1] at hc
        rw [e2] at hs
        rw [e1, e2] at k
        intro T hT X
        have hsz : H.size ≤ base + h.length := by have h9 := X.heapSize; rw [hT] at h9; have := hbook hgrow; omega
        refine (show W p l e R s m args below meth c H locs cells slots Q _ from ?_) T hT X
        refine va_new (ci := ci) (fs := am_df ci) hx hb (Ts := ATB) hts z1 ty0 z2 hown (hts _ f2) (hts _ f3) (hts _ f4) hK hP hD hS hA f1 z3 hc hs hd fun q0 H1 hP1 hD1 hS1 => ?_
        refine sm_new F G hgrow (y := .inr (ci, am_df ci)) hlt hsz (by simpa [sm_e, sm_df_map] using hP1) (by simpa [sm_e, sm_df_map] using hD1) hS1 fun G1 => ?_
        exact k ls H1 locs hL G1
      · cases E
    · cases E
  · next t => -- newarray
    split at E
    · next nn st1 =>
      split at E
      · next hcd =>
        obtain ⟨hn0, hn1, ht3, hlt⟩ := hcd
        simp only [Option.some.injEq, Prod.mk.injEq] at E
        obtain ⟨rfl, rfl, rfl, rfl⟩ := E
        obtain rfl : len = 2 := by simpa [am_lenok, am_len] using hlen
        have hgrow : grow := hgr.resolve_left (by simp)
        have e1 : (h ++ [Sum.inl (am_tc t, am_z (am_tc t) nn.toNatClampNeg)] : AH).length - h.length = 1 := by simp
        have e2 : am_sum (h ++ [Sum.inl (am_tc t, am_z (am_tc t) nn.toNatClampNeg)] : AH) - am_sum h = nn.toNatClampNeg := by
          rw [am_sum_app]
          have : am_cs (.inl (am_tc t, am_z (am_tc t) nn.toNatClampNeg)) = nn.toNatClampNeg := by
            unfold am_z
            split <;> rfl
          omega
        rw [e1] at hc
        rw [e2] at hs
        rw [e1, e2] at k
        have hty : newarray.typeOf t = tyOf (am_tc t) := by cases t <;> first | rfl | (exact absurd ht3 (by decide))
        have harr : (Jvm.Cond.arrayClass (newarray.typeOf t)).before args s = true := by
          cases t <;> first | exact hts _ arr_int | exact hts _ arr_boolean | exact hts _ arr_long | (exact absurd ht3 (by decide))
        have hby : nn.toNatClampNeg * componentBytes (tyOf (am_tc t)) ≤ 536870912 := by
          have : componentBytes (tyOf (am_tc t)) ≤ 8 := by cases t <;> decide
          calc nn.toNatClampNeg * componentBytes (tyOf (am_tc t)) ≤ 1000 * 8 := Nat.mul_le_mul hn1 this
            _ ≤ 536870912 := by decide
        intro T hT X
        have hsz : H.size ≤ base + h.length := by have h9 := X.heapSize; rw [hT] at h9; have := hbook hgrow; omega
        refine (show W p l e R s m args below meth c H locs cells slots Q _ from ?_) T hT X
        refine va_newa (a0 := am_z (am_tc t) nn.toNatClampNeg) hx hb harr hty hK hP hD hS hA ?_ hn0 rfl hby hc hs hd fun q0 cA H1 hK1 hP1 hD1 hS1 => ?_
        · intro cA
          cases t <;> first | rfl | (exact absurd ht3 (by decide))
        · obtain rfl := sm_cA (by omega) hK1
          refine sm_new F G hgrow (y := .inl (am_tc t, am_z (am_tc t) nn.toNatClampNeg)) hlt hsz (by simpa [sm_e, sm_z_map] using hP1) (by simpa [sm_e, sm_z_map] using hD1) hS1 fun G1 => ?_
          exact k ls H1 locs hL G1
      · cases E
    · cases E
  · next x => -- anewarray
    split at E
    · next nn st1 t han =>
      split at E
      · next hcd =>
        obtain ⟨hn0, hn1, hlt⟩ := hcd
        simp only [Option.some.injEq, Prod.mk.injEq] at E
        obtain ⟨rfl, rfl, rfl, rfl⟩ := E
        obtain rfl : len = 3 := by simpa [am_lenok, am_len] using hlen
        obtain ⟨C, ⟨f1, f2, f3⟩, f4⟩ := anT_all _ (am_find_mem han)
        dsimp only at f1 f2 f3 f4
        have hz : am_z t nn.toNatClampNeg = (nn.toNatClampNeg, .inr (.inr (.inr (.inr (fun _ => none))))) := by
          unfold am_z
          split <;> first | omega | rfl
        have hgrow : grow := hgr.resolve_left (by simp)
        have e1 : (h ++ [Sum.inl (t, am_z t nn.toNatClampNeg)] : AH).length - h.length = 1 := by simp
        have e2 : am_sum (h ++ [Sum.inl (t, am_z t nn.toNatClampNeg)] : AH) - am_sum h = nn.toNatClampNeg := by
          rw [am_sum_app, hz]
          simp [am_cs]
        rw [e1] at hc
        rw [e2] at hs
        rw [e1, e2] at k
        have hAO : va_AO C s := hao t f2 f3 C f1
        intro T hT X
        have hsz : H.size ≤ base + h.length := by have h9 := X.heapSize; rw [hT] at h9; have := hbook hgrow; omega
        refine (show W p l e R s m args below meth c H locs cells slots Q _ from ?_) T hT X
        refine va_newq hx hb hown (hts _ f4) hAO hK hP hD hS hA hn0 rfl (by omega) hc hs hd fun q0 cA H1 hK1 hP1 hD1 hS1 => ?_
        rw [← f1] at hK1
        obtain rfl := sm_cA f2 hK1
        refine sm_new F G hgrow (y := .inl (t, am_z t nn.toNatClampNeg)) hlt hsz (by simpa [sm_e, sm_a, hz] using hP1) (by simpa [sm_e, sm_a, hz] using hD1) hS1 fun G1 => ?_
        exact k ls H1 locs hL G1
      · cases E
    · cases E
  · -- arraylength
    split at E
    · next a st1 =>
      split at E
      · next t nn x ha =>
        split at E
        · next ht6 =>
          simp only [Option.some.injEq, Prod.mk.injEq] at E
          obtain ⟨rfl, rfl, rfl, rfl⟩ := E
          obtain rfl : len = 1 := by simpa [am_lenok, am_len] using hlen
          have k := k ls H locs hL
          rw [hz, hz2] at k
          have hw := sm_w_get (base := base) (dA := dA) (ad := sm_ad base adK) ha
          simp only [List.map_cons, sm_vr, sm_vi, sm_vl, AT ha]
          have hn9 : (sm_a (sm_ad base adK) (nn, x)).1 = nn := by
            rcases x with f | f | f | f | f <;> rfl
          exact va_alen hx hb hK hP a t hw (tysA_get ht6) (by rw [hn9]) hd (k G)
        · cases E
      · cases E
    · cases E
  · -- iaload
    split at E
    · next j a st1 =>
      split at E
      · next nn f ha =>
        split at E
        · next hin =>
          simp only [Option.some.injEq, Prod.mk.injEq] at E
          obtain ⟨rfl, rfl, rfl, rfl⟩ := E
          obtain rfl : len = 1 := by simpa [am_lenok, am_len] using hlen
          have k := k ls H locs hL
          rw [hz, hz2] at k
          have hw := sm_w_get (base := base) (dA := dA) (ad := sm_ad base adK) ha
          simp only [List.map_cons, sm_vr, sm_vi, sm_vl, AT ha]
          exact va_iald hx hb hK hP a 0 hw rfl (sm_in hin) hd (k G)
        · cases E
      · cases E
    · cases E
  · -- baload
    split at E
    · next j a st1 =>
      split at E
      · next nn f ha =>
        split at E
        · next hin =>
          simp only [Option.some.injEq, Prod.mk.injEq] at E
          obtain ⟨rfl, rfl, rfl, rfl⟩ := E
          obtain rfl : len = 1 := by simpa [am_lenok, am_len] using hlen
          have k := k ls H locs hL
          rw [hz, hz2] at k
          have hw := sm_w_get (base := base) (dA := dA) (ad := sm_ad base adK) ha
          simp only [List.map_cons, sm_vr, sm_vi, sm_vl, AT ha]
          exact va_zald hx hb hK hP a 1 hw rfl (sm_in hin) hd (k G)
        · cases E
      · cases E
    · cases E
  · -- laload
    split at E
    · next j a st1 =>
      split at E
      · next nn f ha =>
        split at E
        · next hin =>
          simp only [Option.some.injEq, Prod.mk.injEq] at E
          obtain ⟨rfl, rfl, rfl, rfl⟩ := E
          obtain rfl : len = 1 := by simpa [am_lenok, am_len] using hlen
          have k := k ls H locs hL
          rw [hz, hz2] at k
          have hw := sm_w_get (base := base) (dA := dA) (ad := sm_ad base adK) ha
          simp only [List.map_cons, sm_vr, sm_vi, sm_vl, AT ha]
          exact va_lald hx hb hK hP a 2 hw rfl (sm_in hin) hd (k G)
        · cases E
      · cases E
    · cases E
  · -- aaload
    split at E
    · next j a st1 =>
      split at E
      · next t nn f ha =>
        split at E
        · next hin =>
          obtain ⟨hin, ht3, ht6⟩ := hin
          simp only [Option.some.injEq, Prod.mk.injEq] at E
          obtain ⟨rfl, rfl, rfl, rfl⟩ := E
          obtain rfl : len = 1 := by simpa [am_lenok, am_len] using hlen
          have k := k ls H locs hL
          rw [hz, hz2] at k
          have hw := sm_w_get (base := base) (dA := dA) (ad := sm_ad base adK) ha
          simp only [List.map_cons, sm_vr, sm_vi, sm_vl, AT ha]
          obtain ⟨C, hC⟩ : ∃ C, tyOf t = .object C := by
            match t, ht3, ht6 with
            | 3, _, _ => exact ⟨_, rfl⟩
            | 4, _, _ => exact ⟨_, rfl⟩
            | 5, _, _ => exact ⟨_, rfl⟩
          refine va_aldq (C := C) hx hb hK hP a t hw (by rw [← hC]; exact tysA_get ht6) (sm_in hin) hd ?_
          have k := k G
          have e9 : va_rf ((f j.toNatClampNeg).map (sm_ad base adK)) = sm_v (sm_ad base adK) (am_rf (f j.toNatClampNeg)) := by
            cases f j.toNatClampNeg <;> rfl
          rw [e9]
          exact k
        · cases E
      · cases E
    · cases E
  · -- iastore
    split at E
    · next x j a st1 =>
      split at E
      · next nn f ha =>
        split at E
        · next hin =>
          simp only [Option.some.injEq, Prod.mk.injEq] at E
          obtain ⟨rfl, rfl, rfl, rfl⟩ := E
          obtain rfl : len = 1 := by simpa [am_lenok, am_len] using hlen
          have k := k ls
          rw [List.length_set, hz, am_sum_set ha (by simp [am_cs]), hz2] at k
          have hw := sm_w_get (base := base) (dA := dA) (ad := sm_ad base adK) ha
          simp only [List.map_cons, sm_vr, sm_vi, sm_vl, AT ha]
          exact va_iast hx hb hK hP hD hS a 0 hw rfl (sm_in hin) hd fun H1 locs1 hP1 hD1 hS1 => k H1 locs1 hL (G.set hP1 hS1)
        · cases E
      · cases E
    · cases E
  · -- bastore
    split at E
    · next x j a st1 =>
      split at E
      · next nn f ha =>
        split at E
        · next hin =>
          simp only [Option.some.injEq, Prod.mk.injEq] at E
          obtain ⟨rfl, rfl, rfl, rfl⟩ := E
          obtain rfl : len = 1 := by simpa [am_lenok, am_len] using hlen
          have k := k ls
          rw [List.length_set, hz, am_sum_set ha (by simp [am_cs]), hz2] at k
          have hw := sm_w_get (base := base) (dA := dA) (ad := sm_ad base adK) ha
          simp only [List.map_cons, sm_vr, sm_vi, sm_vl, AT ha]
          exact va_zast hx hb hK hP hD hS a 1 hw rfl (sm_in hin) hd fun H1 locs1 hP1 hD1 hS1 => k H1 locs1 hL (G.set hP1 hS1)
        · cases E
      · cases E
    · cases E
  · -- lastore
    split at E
    · next x j a st1 =>
      split at E
      · next nn f ha =>
        split at E
        · next hin =>
          simp only [Option.some.injEq, Prod.mk.injEq] at E
          obtain ⟨rfl, rfl, rfl, rfl⟩ := E
          obtain rfl : len = 1 := by simpa [am_lenok, am_len] using hlen
          have k := k ls
          rw [List.length_set, hz, am_sum_set ha (by simp [am_cs]), hz2] at k
          have hw := sm_w_get (base := base) (dA := dA) (ad := sm_ad base adK) ha
          simp only [List.map_cons, sm_vr, sm_vi, sm_vl, AT ha]
          exact va_last hx hb hK hP hD hS a 2 hw rfl (sm_in hin) hd fun H1 locs1 hP1 hD1 hS1 => k H1 locs1 hL (G.set hP1 hS1)
        · cases E
      · cases E
    · cases E
  · -- aastore
    split at E
    · next v j a st1 =>
      split at E
      · next t nn f ci vf ha hv =>
        split at E
        · next hin =>
          obtain ⟨hin, hec, ht6⟩ := hin
          simp only [Option.some.injEq, Prod.mk.injEq] at E
          obtain ⟨rfl, rfl, rfl, rfl⟩ := E
          obtain rfl : len = 1 := by simpa [am_lenok, am_len] using hlen
          have k := k ls
          rw [List.length_set, hz, am_sum_set ha (by simp [am_cs]), hz2] at k
          have hw := sm_w_get (base := base) (dA := dA) (ad := sm_ad base adK) ha
          have hwv := sm_w_get (base := base) (dA := dA) (ad := sm_ad base adK) hv
          simp only [List.map_cons, sm_vr, sm_vi, sm_vl, AT ha, AT hv]
          obtain ⟨r, hr1, hr2⟩ : ∃ r : vw_C, vwCl[ci]? = some r ∧ tyOf t = .object r.1 := by
            obtain ⟨h1, -⟩ : ∃ r, vwCl[am_ec t]? = some r := by
              obtain ⟨r', hr', -⟩ := hP v _ hwv
              exact ⟨r', by rw [hec]; exact hr'⟩
            match t, ht6, hec with
            | 3, _, hec => subst hec; exact ⟨_, rfl, rfl⟩
            | 4, _, hec => subst hec; exact ⟨_, rfl, rfl⟩
            | 5, _, hec => subst hec; exact ⟨_, rfl, rfl⟩
            | 0, _, hec => subst hec; obtain ⟨r', hr', -⟩ := hP v _ hwv; simp [vwCl, am_ec] at hr'
            | 1, _, hec => subst hec; obtain ⟨r', hr', -⟩ := hP v _ hwv; simp [vwCl, am_ec] at hr'
            | 2, _, hec => subst hec; obtain ⟨r', hr', -⟩ := hP v _ hwv; simp [vwCl, am_ec] at hr'
          refine va_astq hx hb hK hP hD hS a t v ci hw (by rw [← hr2]; exact tysA_get ht6) hwv hr1 (sm_in hin) hd fun H1 locs1 hP1 hD1 hS1 => k H1 locs1 hL (G.set ?_ hS1)
          have e9 : va_up (fun i => (f i).map (sm_ad base adK)) j.toNatClampNeg (some (base + v)) = fun i => (va_up f j.toNatClampNeg (some v) i).map (sm_ad base adK) := by
            funext i
            unfold va_up
            split
            · simp [AT hv]
            · rfl
          simp only [sm_e, sm_a] at hP1 ⊢
          rw [e9] at hP1
          exact hP1
        · cases E
      · cases E
    · cases E
  · cases E
end SME
