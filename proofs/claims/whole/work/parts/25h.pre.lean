/-! the law, from its first instruction to its end -/
section
variable {p : Program} {l : Launch} {e : Env} {R : Room} {s : State} {m : MethodId} {args : Array Value} {below : List Frame} {meth : Method} {c : Code} {H : Heap} {locs : List Loc} {Q : State → Prop}
variable {D : va_G} {dA : Nat → ClassId} {adK adV : Nat → Nat} {b L : Nat} {xs : Nat → Int32} {ls : Array Slot}
set_option maxHeartbeats 16000000 in
theorem lw_pre (F : LX D dA adK adV p s m args c) (hX : va_X b L xs s s.heap) (hbl : b < s.heap.size) (hL : L ≤ 3072) (hl : lv_has ls 4 [(0, .ref b)]) (hRc : 100 ≤ R.cells) (hRs : 100000 ≤ R.slots) (hf : 101 ≤ R.frames) (ho : 64 * 101 ≤ R.locals) (kx : ∀ (slots : Nat) (H1 : Heap) (locs1 : List Loc) (ls1 : Array Slot), slots ≤ 100000 → LJ D dA adK s H1 locs1 → W p l e R s m args below meth c H1 locs1 93 slots Q (F0 m 1161 ls1 [])) :
    W p l e R s m args below meth c s.heap [] 0 0 Q (F0 m 0 ls []) := by
  obtain ⟨hx, hb, hml, hown, hts, hK, hSW, hXX⟩ := id F
  obtain ⟨mc, qc, mm, qm, E1, E2, hJ⟩ := start_JJ
  have sC := @sumC mc qc
  have sM := @sumM mm qm
  refine lx_new (ci := 10) (ws := []) (base := s.heap.size) (dA := dA) (adK := adK) F (show vwCl[10]? = some (RX11, TX11, 8) from rfl) nl_7.1.1 nl_7.1.2 nl_7.2 (fun k q h => by simp at h) ⟨fun i j p q h => by simp at h, fun k q h => by simp at h⟩ va_S.rf (fun q h1 h2 => by omega) rfl dl_0 (by omega) (by omega) ?_
  intro H1 _ hP1 hS1 hz1
  refine lv_dup hx hb dl_3 rfl ?_
  refine lx_init (idx := 9) (j := 0) (n := 9000) (d := 60) (base := s.heap.size) (h' := mk shC mc qc) F lk_9 mt0 (by decide) E1 (by rw [lenC]; decide) (by decide) hP1 hS1 (Nat.le_refl _) hz1 (by decide) (by decide) dl_4 hl.1 (by simp [Value.category]) (by rw [lenC]; show 0 + 1 + (78 - 1) ≤ _; omega) (by omega) hf ho ?_
  intro H2 locs2 hP2 hz2 hk2 hS2
  rw [show 0 + 1 + ((mk shC mc qc).length - h0C.length) = 78 by rw [lenC]; rfl]
  have s2 : 0 + 8 + (am_sum (mk shC mc qc) - am_sum h0C) ≤ 30000 := by omega
  generalize 0 + 8 + (am_sum (mk shC mc qc) - am_sum h0C) = sl2 at s2
  refine lv_astore_n (lv' := [(1, .ref s.heap.size), (0, .ref b)]) hx hb dl_7 rfl hl (by decide) rfl (fun ls hl => ?_)
  refine lx_new (ci := 11) (ws := sm_w s.heap.size dA (sm_ad s.heap.size adK) (mk shC mc qc)) (base := s.heap.size + 78) (dA := dA) (adK := adK) F (show vwCl[11]? = some (RX12, TX12, 23) from rfl) nl_10.1.1 nl_10.1.2 nl_10.2 hP2 (sm_D fun k hk => Nat.le_add_right _ _) hS2 (fun q h1 h2 => ?_) rfl dl_8 (by omega) (by omega) ?_
  · have hk : q - s.heap.size < (mk shC mc qc).length := by rw [lenC]; omega
    exact ⟨q - s.heap.size, _, sm_w_get (List.getElem?_eq_getElem hk), by dsimp only; omega⟩
  intro H3 hP3 hQ3 hS3 hz3
  refine lv_dup hx hb dl_11 rfl ?_
  refine lx_init (idx := 12) (j := 163) (n := 9000) (d := 60) (base := s.heap.size + 78) (h' := mk shM mm qm) F lk_12 mt163 (by decide) E2 (by rw [lenM]; decide) (by decide) hQ3 hS3 (Nat.le_add_right _ _) hz3 (by decide) (by decide) dl_12 hl.1 (by simp [Value.category]) (by rw [lenM]; show 78 + 1 + (15 - 1) ≤ _; omega) (by omega) hf ho ?_
  intro H4 locs4 hQ4 hz4 hk4 hS4
  rw [show 78 + 1 + ((mk shM mm qm).length - h0M.length) = 93 by rw [lenM]; rfl]
  have s4 : sl2 + 23 + (am_sum (mk shM mm qm) - am_sum h0M) ≤ 100000 := by omega
  generalize sl2 + 23 + (am_sum (mk shM mm qm) - am_sum h0M) = sl4 at s4
  have hP4 : va_P D vwCl (sm_w s.heap.size dA (sm_ad s.heap.size adK) (mk shC mc qc)) H4 := lx_keep hP3 fun k q hq hlt => by
    refine hk4 _ hlt fun hA => ?_
    obtain ⟨e, he, rfl⟩ := sm_w_inv hq
    have := sm_lt he
    rw [lenC] at this
    unfold sm_A at hA
    rw [show h0M.length = 1 from rfl] at hA
    dsimp only at hA hlt
    omega
  refine lv_astore_n (lv' := [(2, .ref (s.heap.size + 78)), (1, .ref s.heap.size), (0, .ref b)]) hx hb dl_15 rfl hl (by decide) rfl (fun ls hl => ?_)
  refine lv_iconst (v := nI 0) hx hb dl_16 (by decide) ?_
  refine lv_istore_n (lv' := [(3, .int (nI (6 * 0))), (2, .ref (s.heap.size + 78)), (1, .ref s.heap.size), (0, .ref b)]) hx hb dl_17 rfl hl (by decide) rfl (fun ls hl => ?_)
  exact lw_loop F hX hbl hL (by omega) (by omega) hf ho (fun H1 locs1 ls1 hJ1 => kx sl4 H1 locs1 ls1 s4 hJ1) (L + 13) 0 H4 locs4 ls (by omega) (by omega) hl ⟨mc, qc, mm, qm, hP4, hQ4, hJ, hS4⟩
end
