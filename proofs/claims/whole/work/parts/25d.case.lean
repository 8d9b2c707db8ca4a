/-! one call of each, from the law -/
theorem cs_cell {m m' : Mem} {q q' : MemJ} {k : Nat} {s : Sh} : am_cs (am_cell m q k s) = am_cs (am_cell m' q' k s) := by
  unfold am_cell
  split <;> simp [am_cs]
theorem sum_mk {sh : List Sh} {m m' : Mem} {q q' : MemJ} : am_sum (mk sh m q) = am_sum (mk sh m' q') := by
  unfold am_sum mk
  congr 1
  apply List.ext_getElem?
  intro i
  simp only [List.getElem?_map, List.getElem?_mapIdx]
  cases sh[i]? with
  | none => rfl
  | some s => exact congrArg some cs_cell
section
variable {p : Program} {l : Launch} {e : Env} {R : Room} {s : State} {m : MethodId} {args : Array Value} {below : List Frame} {meth : Method} {c : Code} {H : Heap} {locs : List Loc} {cells slots : Nat} {Q : State → Prop}
variable {D : va_G} {dA : Nat → ClassId} {adK adV : Nat → Nat} {M N : MI} {pc b L : Nat} {xs : Nat → Int32} {ls : Array Slot} {st : List Value} {i : Int32}
/-- an argument's rows -/
def lxR (pc : Nat) : List Int → Prop
  | [] => True
  | k :: r => (decode code pc = .ok (.aload_n 0, 1) ∧ decode code (pc + 1) = .ok (.iload_n 3, 1) ∧ decode code (pc + 2) = .ok (.iconst k, 1) ∧ decode code (pc + 3) = .ok (.iadd, 1) ∧ decode code (pc + 4) = .ok (.iaload, 1)) ∧ lxR (pc + 5) r
def lxI (xs : Nat → Int32) (i : Int32) (k : Int) : Int32 := xs (i + Int32.ofInt k).toNatClampNeg
theorem lx_args (F : LX D dA adK adV p s m args c) (hX : va_X b L xs s s.heap) (hbl : b < s.heap.size) (hS : va_S (lxA s) s.heap H locs) (h0 : ls[0]? = some (.val (.ref b))) (h3 : ls[3]? = some (.val (.int i))) : ∀ (ks : List Int) (pc : Nat) (st : List Value), lxR pc ks → (∀ k ∈ ks, vp_in (i + Int32.ofInt k) L) →
    W p l e R s m args below meth c H locs cells slots Q (F0 m (pc + 5 * ks.length) ls ((ks.map (lxI xs i)).map Value.int |>.reverse |>.append st)) → W p l e R s m args below meth c H locs cells slots Q (F0 m pc ls st)
  | [], pc, st, _, _, kk => kk
  | k :: r, pc, st, ⟨⟨d0, d1, d2, d3, d4⟩, hr⟩, hin, kk => by
    obtain ⟨hx, hb, hml, hown, hts, hK, hSW, hXX⟩ := id F
    refine lv_aload_n hx hb d0 rfl h0 ?_
    refine lv_iload_n hx hb d1 rfl h3 ?_
    refine lv_iconst hx hb d2 rfl ?_
    refine lv_iadd hx hb d3 ?_
    refine va_sld hx hb hX hbl (A := lxA s) (Nat.not_le.mpr hbl) hS (hin k List.mem_cons_self) d4 ?_
    refine lx_args F hX hbl hS h0 h3 r (pc + 5) _ hr (fun k hk => hin k (List.mem_cons_of_mem _ hk)) ?_
    rw [show pc + 5 + 5 * r.length = pc + 5 * (k :: r).length by rw [List.length_cons]; omega]
    have e1 : (((r.map (lxI xs i)).map Value.int).reverse.append (.int (xs (i + Int32.ofInt k).toNatClampNeg) :: st)) = ((((k :: r).map (lxI xs i)).map Value.int).reverse.append st) := by
      simp [lxI]
    rw [e1]
    exact kk
theorem lx_keep {cl : List vw_C} {ws : va_W} {H1 : Heap} (h : va_P D cl ws H) (hk : ∀ (k : Nat) (q : Nat × va_E), ws[k]? = some q → q.1 < H.size → H1[q.1]? = H[q.1]?) : va_P D cl ws H1 := fun k q hq => (h k q hq).kept (hk k q hq (h k q hq).lt)
/-- both worlds, joined -/
def LJ (D : va_G) (dA : Nat → ClassId) (adK : Nat → Nat) (s : State) (H : Heap) (locs : List Loc) : Prop := ∃ mc qc mm qm, va_P D vwCl (sm_w s.heap.size dA (sm_ad s.heap.size adK) (mk shC mc qc)) H ∧ va_P D vwCl (sm_w (s.heap.size + 78) dA (sm_ad (s.heap.size + 78) adK) (mk shM mm qm)) H ∧ JJ mc qc mm ∧ va_S (lxA s) s.heap H locs
theorem lenC {m : Mem} {q : MemJ} : (mk shC m q).length = 78 := by rw [mk_len]; rfl
theorem lenM {m : Mem} {q : MemJ} : (mk shM m q).length = 15 := by rw [mk_len]; rfl
theorem recC {m : Mem} {q : MemJ} {j : Nat} (h : am_own j = 11) : am_recv j 0 (mk shC m q) = true := by
  unfold am_recv
  rw [mk_get (s := (0, 10, [some 1, some 4, some 7, some 33, some 34, some 41, some 43, some 68])) rfl]
  show ((am_oc 10 == am_own j) && decide (10 < 12)) = true
  rw [h]
  rfl
theorem recM {m : Mem} {q : MemJ} {j : Nat} (h : am_own j = 12) : am_recv j 0 (mk shM m q) = true := by
  unfold am_recv
  obtain ⟨t, ht⟩ : ∃ t, shM[0]? = some (0, 11, t) := ⟨_, rfl⟩
  rw [mk_get ht]
  show ((am_oc 11 == am_own j) && decide (11 < 12)) = true
  rw [h]
  rfl
set_option maxHeartbeats 16000000 in
/-- a case of the law: both calls, the answers alike -/
theorem lx_case {jc jm ic im pm pi : Nat} {ks : List Int} {off : Int} (F : LX D dA adK adV p s m args c) (hX : va_X b L xs s s.heap) (hbl : b < s.heap.size) (hl : ls.size = 4 ∧ ls[0]? = some (.val (.ref b)) ∧ ls[1]? = some (.val (.ref s.heap.size)) ∧ ls[2]? = some (.val (.ref (s.heap.size + 78))) ∧ ls[3]? = some (.val (.int i)))
    (hin : ∀ k ∈ ks, vp_in (i + Int32.ofInt k) L) (hk5 : ks.length ≤ 5) (hjc : mt jc = some M) (hjm : mt jm = some N) (hnc : ks.length + 1 ≤ M.2.1) (hnm : ks.length + 1 ≤ N.2.1) (hoc : am_own jc = 11) (hom : am_own jm = 12) (kc : LKV ic jc ks.length) (km : LKV im jm ks.length)
    (d1 : decode code pc = .ok (.aload_n 1, 1)) (r1 : lxR (pc + 1) ks) (d2 : decode code (pc + 1 + 5 * ks.length) = .ok (.invokevirtual ic, 3)) (hpm : pm = pc + 1 + 5 * ks.length + 3) (d3 : decode code pm = .ok (.aload_n 2, 1)) (r2 : lxR (pm + 1) ks) (d4 : decode code (pm + 1 + 5 * ks.length) = .ok (.invokevirtual im, 3)) (hpi : pi = pm + 1 + 5 * ks.length + 3) (d5 : decode code pi = .ok (.if_icmp .eq off, 3)) (ht : (pi : Int) + off = ((1155 : Nat) : Int))
    (hst : ∀ mc qc mm qm, JJ mc qc mm → STp jc jm (am_locs M.2.1 (.ref 0 :: (ks.map (lxI xs i)).map Value.int)) (am_locs N.2.1 (.ref 0 :: (ks.map (lxI xs i)).map Value.int)) mc qc mm qm)
    (hJ : LJ D dA adK s H locs) (hc : cells ≤ R.cells) (hs : slots ≤ R.slots) (hf : 101 ≤ R.frames) (ho : 64 * 101 ≤ R.locals)
    (kk : ∀ (H1 : Heap) (locs1 : List Loc), LJ D dA adK s H1 locs1 → W p l e R s m args below meth c H1 locs1 cells slots Q (F0 m 1155 ls [])) :
    W p l e R s m args below meth c H locs cells slots Q (F0 m pc ls []) := by
  obtain ⟨hx, hb, hml, hown, hts, hK, hSW, hXX⟩ := id F
  obtain ⟨mc, qc, mm, qm, hP0, hP1, hJJ, hS⟩ := hJ
  obtain ⟨a, mc', qc', mm', E1, E2, hJ'⟩ := hst mc qc mm qm hJJ
  have z0 := sm_size hP0 (by rw [lenC]; decide)
  have z1 := sm_size hP1 (by rw [lenM]; decide)
  rw [lenC] at z0
  rw [lenM] at z1
  have hlen : ((ks.map (lxI xs i)).length) = ks.length := List.length_map _
  refine lv_aload_n hx hb d1 rfl hl.2.2.1 ?_
  refine lx_args F hX hbl hS hl.2.1 hl.2.2.2.2 ks (pc + 1) _ r1 hin ?_
  refine lx_call (h' := mk shC mc' qc') (a := a) (ints := ks.map (lxI xs i)) (base := s.heap.size) (rest := []) F (by rw [hlen]; exact kc) hjc (by rw [hlen]; exact hnc) E1 (by rw [lenC, lenC]) sum_mk hP0 hS (Nat.le_refl _) (by omega) (by rw [lenC]; decide) (by rw [lenC]; decide) (recC hoc) d2 hl.1 (by simp) hc hs hf ho ?_
  intro H1 locs1 hP0' hz1 hk1 hS1
  have hP1' : va_P D vwCl (sm_w (s.heap.size + 78) dA (sm_ad (s.heap.size + 78) adK) (mk shM mm qm)) H1 := lx_keep hP1 fun k q hq hlt => by
    refine hk1 _ hlt fun hA => ?_
    obtain ⟨e, _, rfl⟩ := sm_w_inv hq
    unfold sm_A at hA
    rw [lenC] at hA
    dsimp only at hA hlt
    omega
  rw [← hpm]
  refine lv_aload_n hx hb d3 rfl hl.2.2.2.1 ?_
  refine lx_args F hX hbl hS1 hl.2.1 hl.2.2.2.2 ks (pm + 1) _ r2 hin ?_
  refine lx_call (h' := mk shM mm' qm) (a := a) (ints := ks.map (lxI xs i)) (base := s.heap.size + 78) (rest := [.int a]) F (by rw [hlen]; exact km) hjm (by rw [hlen]; exact hnm) E2 (by rw [lenM, lenM]) sum_mk hP1' hS1 (Nat.le_add_right _ _) (by omega) (by rw [lenM]; decide) (by rw [lenM]; decide) (recM hom) d4 hl.1 (by simp [Value.category]) hc hs hf ho ?_
  intro H2 locs2 hP1'' hz2 hk2 hS2
  have hP0'' : va_P D vwCl (sm_w s.heap.size dA (sm_ad s.heap.size adK) (mk shC mc' qc')) H2 := lx_keep hP0' fun k q hq hlt => by
    refine hk2 _ hlt fun hA => ?_
    obtain ⟨e, he, rfl⟩ := sm_w_inv hq
    have := sm_lt he
    unfold sm_A at hA
    rw [lenM] at hA
    rw [lenC] at this
    dsimp only at hA hlt
    omega
  rw [← hpi]
  refine lv_icmp_eq hx hb d5 ht (fun _ => ?_) (fun h => absurd rfl h)
  exact kk H2 locs2 ⟨mc', qc', mm', qm, hP0'', hP1'', hJ', hS2⟩
end
