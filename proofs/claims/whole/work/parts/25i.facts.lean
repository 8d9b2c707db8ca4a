/-! the law's facts, from its entry -/
theorem fx_in : ∀ w ∈ vwCl, Jvm.Cond.instantiable w.1 w.2.2 ∈ lw_tbl := List.forall_mem_cons.mpr ⟨List.mem_of_getElem? (i := 114) (by decide +kernel), List.forall_mem_cons.mpr ⟨List.mem_of_getElem? (i := 302) (by decide +kernel), List.forall_mem_cons.mpr ⟨List.mem_of_getElem? (i := 192) (by decide +kernel), List.forall_mem_cons.mpr ⟨List.mem_of_getElem? (i := 258) (by decide +kernel), List.forall_mem_cons.mpr ⟨List.mem_of_getElem? (i := 147) (by decide +kernel), List.forall_mem_cons.mpr ⟨List.mem_of_getElem? (i := 198) (by decide +kernel), List.forall_mem_cons.mpr ⟨List.mem_of_getElem? (i := 166) (by decide +kernel), List.forall_mem_cons.mpr ⟨List.mem_of_getElem? (i := 244) (by decide +kernel), List.forall_mem_cons.mpr ⟨List.mem_of_getElem? (i := 221) (by decide +kernel), List.forall_mem_cons.mpr ⟨List.mem_of_getElem? (i := 214) (by decide +kernel), List.forall_mem_cons.mpr ⟨List.mem_of_getElem? (i := 106) (by decide +kernel), List.forall_mem_cons.mpr ⟨List.mem_of_getElem? (i := 1031) (by decide +kernel), fun _ h => absurd h List.not_mem_nil⟩⟩⟩⟩⟩⟩⟩⟩⟩⟩⟩⟩
theorem fx_s0 : Jvm.Cond.stringRef (cn 7) 35 "signs" ∈ lw_tbl := List.mem_of_getElem? (i := 401) (by decide +kernel)
theorem fx_s1 : Jvm.Cond.stringRef (cn 7) 44 "point" ∈ lw_tbl := List.mem_of_getElem? (i := 474) (by decide +kernel)
theorem fx_s2 : Jvm.Cond.stringRef (cn 7) 49 "flip" ∈ lw_tbl := List.mem_of_getElem? (i := 488) (by decide +kernel)
theorem fx_s3 : Jvm.Cond.stringRef (cn 7) 54 "swap" ∈ lw_tbl := List.mem_of_getElem? (i := 505) (by decide +kernel)
theorem fx_s4 : Jvm.Cond.stringRef (cn 7) 107 "draw" ∈ lw_tbl := List.mem_of_getElem? (i := 526) (by decide +kernel)
def fxT (i : Nat) : Term := Term.string "SignTriples$Text" (match i with | 0 => 35 | 1 => 44 | 2 => 49 | 3 => 54 | _ => 107)
def fxL : List Jvm.Cond := flatC (Jvm.Cond.and given_1 narrow_1)
theorem fx_ex : ∀ i : Nat, i < 5 → Cond.exactly (fxT i) "java/lang/String" ∈ fxL := by decide +kernel
theorem fx_co : ∀ i : Nat, i < 5 → Cond.eq (.field (fxT i) "java/lang/String" "coder" "B") (.int 0) ∈ fxL := by decide +kernel
theorem fx_ar : ∀ i : Nat, i < 5 → Cond.arrayOf (.field (fxT i) "java/lang/String" "value" "[B") .byte ∈ fxL := by decide +kernel
theorem fx_le : ∀ i : Nat, i < 5 → Cond.eq (.length (.field (fxT i) "java/lang/String" "value" "[B")) (.int (Int32.ofNat (sLen.getD i 0))) ∈ fxL := by decide +kernel
theorem fx_el : ∀ i : Nat, i < 5 → ∀ j : Nat, j < sLen.getD i 0 → Cond.eq (.elem (.field (fxT i) "java/lang/String" "value" "[B") (.int (Int32.ofNat j))) (.int ((sByt.getD i []).getD j 0)) ∈ fxL := by decide +kernel
theorem fx_ne : ∀ i : Nat, i < 5 → ∀ j : Nat, j < 5 → i ≠ j → (Cond.not (Cond.eq (fxT i) (fxT j)) ∈ fxL ∨ Cond.not (Cond.eq (fxT j) (fxT i)) ∈ fxL) := by decide +kernel
theorem fx_n : ∀ i : Nat, i < 5 → sLen.getD i 0 < 2 ^ 31 := by decide +kernel
theorem fx_cs : Cond.eq (.static "java/lang/String" "COMPACT_STRINGS" "Z") (.int 1) ∈ fxL := by decide +kernel
theorem fx_sf : Cond.isRef (.static "jdk/internal/util/Preconditions" "SIOOBE_FORMATTER" "Ljava/util/function/BiFunction;") ∈ fxL := by decide +kernel
theorem fx_l0 : Cond.laysStatic "java/lang/String" "COMPACT_STRINGS" "Z" ∈ lw_tbl := List.mem_of_getElem? (i := 415) (by decide +kernel)
theorem fx_l1 : Cond.laysStatic "jdk/internal/util/Preconditions" "SIOOBE_FORMATTER" "Ljava/util/function/BiFunction;" ∈ lw_tbl := List.mem_of_getElem? (i := 431) (by decide +kernel)
theorem fx_i0 : Cond.initialized "java/lang/String" ∈ lw_tbl := List.mem_of_getElem? (i := 96) (by decide +kernel)
theorem fx_i1 : Cond.initialized "jdk/internal/util/Preconditions" ∈ lw_tbl := List.mem_of_getElem? (i := 98) (by decide +kernel)
theorem fx_arr {s : State} {ty : FieldType} {args : Array Value} (hty : ty = .int ∨ ty = .boolean ∨ ty = .long) (h : (Cond.arrayClass ty).before args s = true) : ∃ cA, ArrOfT s cA ty ∧ va_RA s cA ty := by
  obtain ⟨c, k, comp, h1, h2, h3⟩ := Cond.arrayClass_spec h
  exact ⟨c, fun n z => ⟨(fun k h => by cases h), k, h2, comp, h3⟩, by rcases hty with rfl | rfl | rfl <;> exact h1⟩
theorem fx_over {s : State} {C : String} {args : Array Value} (h : (Cond.arrayOver (.object C)).before args s = true) : ∃ cA, ArrOfT s cA (.object C) ∧ va_RA s cA (.object C) := by
  obtain ⟨comp, c, k, h1, h2, h3, h4, h5⟩ := Cond.arrayOver_spec h
  exact ⟨c, fun n z => ⟨(fun k h => by cases h), k, h3, comp, h4⟩, k, comp, h3, h4, h1, h5⟩
theorem fx_ty {s : State} {args : Array Value} (hts : ∀ w ∈ lw_tbl, w.before args s = true) : ∀ t : Nat, ∃ cA, t < 6 → ArrOfT s cA (tyOf t) ∧ va_RA s cA (tyOf t) := by
  have ha : ∀ w ∈ ATB, w.before args s = true := fun w hw => hts w (List.mem_filter.mp hw).1
  intro t
  match t with
  | 0 => exact (fx_arr (ty := .int) (Or.inl rfl) (ha _ arr_int)).imp fun _ h _ => h
  | 1 => exact (fx_arr (ty := .boolean) (Or.inr (Or.inl rfl)) (ha _ arr_boolean)).imp fun _ h _ => h
  | 2 => exact (fx_arr (ty := .long) (Or.inr (Or.inr rfl)) (ha _ arr_long)).imp fun _ h _ => h
  | 3 => exact (fx_over (hts _ arr_3)).imp fun _ h _ => h
  | 4 => exact (fx_over (hts _ arr_4)).imp fun _ h _ => h
  | 5 => exact (fx_over (hts _ arr_5)).imp fun _ h _ => h
  | t + 6 => exact ⟨0, fun h => absurd h (by omega)⟩
theorem fx_K {s : State} {args : Array Value} (hts : ∀ w ∈ lw_tbl, w.before args s = true) : ∃ (D : va_G) (dA : Nat → ClassId), va_K D vwCl (tysA dA) s := by
  have ha : ∀ w ∈ ATB, w.before args s = true := fun w hw => hts w (List.mem_filter.mp hw).1
  have h1 : ∀ k : Nat, ∃ q : ClassId × (Nat → Nat), ∀ w : vw_C, vwCl[k]? = some w → u_Kn s w.1 w.2.1 w.2.2 q.1 q.2 := by
    intro k
    cases hk : vwCl[k]? with
    | none => exact ⟨(0, fun _ => 0), fun w h => by cases h⟩
    | some w =>
      obtain ⟨cC, iS, hq⟩ := u_known (ws := ATB) ha (sm_cls hk).1 (hts _ (fx_in w (List.mem_of_getElem? hk)))
      exact ⟨(cC, iS), fun w1 h => by cases h; exact hq⟩
  obtain ⟨f, hf⟩ := Classical.axiomOfChoice h1
  obtain ⟨dA, hd⟩ := Classical.axiomOfChoice (fx_ty hts)
  refine ⟨(fun k => (f k).1, fun k => (f k).2), dA, fun c q h => hf c q h, fun k q h => ?_⟩
  by_cases hk : k < 6
  · rw [tysA_get hk] at h
    cases h
    exact hd k hk
  · rw [List.getElem?_eq_none (by simp; omega)] at h
    cases h
theorem fx_SW {s : State} {args : Array Value} (hts : ∀ w ∈ lw_tbl, w.before args s = true) (hgv : (Jvm.Cond.and given_1 narrow_1).before args s = true) : ∃ adK adV : Nat → Nat, sm_SW adK adV (lxA s) s s.heap ∧ sm_X adK s := by
  have hs : ∀ w ∈ fxL, w.before args s = true := flat_of_before _ hgv
  have hA : ∀ a : Nat, a < s.heap.size → ¬ lxA s a := fun a h => Nat.not_le.mpr h
  obtain ⟨adK, adV, h1, h2⟩ := vk_Sof (args := args) (s := s) (N := 5) (tm := fxT) (len := sLen) (byt := sByt) (A := lxA s) fx_n (fun i hi => hs _ (fx_ex i hi)) (fun i hi => hs _ (fx_co i hi)) (fun i hi => hs _ (fx_ar i hi)) (fun i hi => hs _ (fx_le i hi)) (fun i hi j hj => hs _ (fx_el i hi j hj)) (fun i j hi hj hne => (fx_ne i hi j hj hne).imp (hs _) (hs _)) hA
  refine ⟨adK, adV, ⟨h1, va_Zof (hts _ fx_l0) (hts _ fx_i0) (va_eqt (hs _ fx_cs)) hA, va_Zqof (hts _ fx_l1) (hts _ fx_i1) (hs _ fx_sf) hA⟩, ?_, ?_⟩
  · intro o x k hk
    have hm := am_find_mem hk
    unfold scT at hm
    simp only [List.mem_cons, Prod.mk.injEq, List.not_mem_nil, or_false] at hm
    rcases hm with ⟨rfl, rfl, rfl⟩ | ⟨rfl, rfl, rfl⟩ | ⟨rfl, rfl, rfl⟩ | ⟨rfl, rfl, rfl⟩ | ⟨rfl, rfl, rfl⟩
    · exact ⟨by decide, _, vk_R.of (hts _ fx_s0) (h2 0 (by decide))⟩
    · exact ⟨by decide, _, vk_R.of (hts _ fx_s1) (h2 1 (by decide))⟩
    · exact ⟨by decide, _, vk_R.of (hts _ fx_s2) (h2 2 (by decide))⟩
    · exact ⟨by decide, _, vk_R.of (hts _ fx_s3) (h2 3 (by decide))⟩
    · exact ⟨by decide, _, vk_R.of (hts _ fx_s4) (h2 4 (by decide))⟩
  · intro t ht ht3 C hC
    obtain rfl | rfl | rfl : t = 3 ∨ t = 4 ∨ t = 5 := by omega
    · cases hC
      exact va_AO.of (hts _ arr_3)
    · cases hC
      exact va_AO.of (hts _ arr_4)
    · cases hC
      exact va_AO.of (hts _ arr_5)
