/-! calls that ask: alike -/
section
variable {n s k c d : Nat} {mc mc' mm mm' : Mem} {qc qc' qm : MemJ} {F G R R' : Nat → Int32} {x y z w v : Int32}
theorem el3_lt (h : (elB n x && elB n y && elB n z) = true) (hn : n ≤ 6) : eN x < n ∧ eN y < n ∧ eN z < n := by
  rw [Bool.and_eq_true_iff, Bool.and_eq_true_iff] at h
  exact ⟨(elB_t (by omega) h.1.1).1, (elB_t (by omega) h.1.2).1, (elB_t (by omega) h.2).1⟩
theorem JJ_n (h : JJ mc qc mm) : ∃ n, mc 1 0 = nI n ∧ AX n (mc 2) (mc 3) (mm 1) ∧ FI mc qc n (mc 2) ∧ NI mc n ∧ mm 1 0 = nI n ∧ 1 ≤ n ∧ n ≤ 6 := by
  obtain ⟨⟨n, a1, a2, a3⟩, _⟩ := h
  exact ⟨n, a1, a2, a3, NI_AX a1 a2, a2.2.2.2.2.1, by have := a2.1; omega, a2.2.1⟩
theorem J_sign (h : JJ mc qc mm) : STp 54 199 [.ref 0, .int x, .int y, .int z] [.ref 0, .int x, .int y, .int z] mc qc mm qm := by
  obtain ⟨n, a1, a2, a3, aN, am, n1, n6⟩ := JJ_n h
  refine STp_i (x_S_sign (d := 99) a1 n6) (x_M_sign (d := 97) am n6) ?_ h
  cases hb : elB n x && elB n y && elB n z with
  | false => rfl
  | true =>
    obtain ⟨k1, k2, k3⟩ := el3_lt hb n6
    rw [if_pos rfl, if_pos rfl]
    exact AR_F a2.2.2.2.2 a2.2.2.1.2.2.2 n6 k1 k2 k3
theorem J_turn (h : JJ mc qc mm) : STp 56 202 [.ref 0, .int x, .int y, .int z] [.ref 0, .int x, .int y, .int z] mc qc mm qm := by
  obtain ⟨n, a1, a2, a3, aN, am, n1, n6⟩ := JJ_n h
  refine STp_i (x_S_turn (d := 97) a1 n6) (x_M_turn (d := 97) am n6) ?_ h
  cases hb : elB n x && elB n y && elB n z with
  | false => rfl
  | true =>
    obtain ⟨k1, k2, k3⟩ := el3_lt hb n6
    rw [if_pos rfl, if_pos rfl, sgn_sgM, trn_mtn a2.2.2.2.2.2.2 k1 k2 k3]
theorem J_point (h : JJ mc qc mm) : STp 57 203 [.ref 0, .int x, .int y] [.ref 0, .int x, .int y] mc qc mm qm := by
  obtain ⟨n, a1, a2, a3, aN, am, n1, n6⟩ := JJ_n h
  refine STp_i (x_S_point (d := 99) a1 n6) (x_M_point (d := 98) am n6) ?_ h
  cases hx : elB n x with
  | false => rfl
  | true =>
    cases hy : elB 3 y with
    | false => rfl
    | true => exact a2.2.2.2.2.2.2 _ _ (elB_t (by omega) hx).1 (elB_t (by omega) hy).1
theorem J_five (h : JJ mc qc mm) : STp 76 217 [.ref 0, .int x, .int y, .int z, .int w, .int v, .null] [.ref 0, .int x, .int y, .int z, .int w, .int v, .null, .null] mc qc mm qm := by
  obtain ⟨n, a1, a2, a3, aN, am, n1, n6⟩ := JJ_n h
  exact STp_i (x_S_five (d := 94) a1 n6) (x_M_five (d := 97) am n6) (fv_ans a2.2.2.2.2 a2.2.2.1 n6) h
theorem J_is (h : JJ mc qc mm) : STp 80 219 [.ref 0, .int x] [.ref 0, .int x] mc qc mm qm := by
  obtain ⟨n, a1, a2, a3, aN, am, n1, n6⟩ := JJ_n h
  obtain ⟨m', e, f, F'⟩ := x_S_is (d := 91) (x := x) aN a3
  refine STp_i e (x_M_is (d := 92) am n6) ?_ (JJ_q h a1 a2 f F' rfl rfl fun _ _ _ => rfl)
  rw [is_eq a2.2.2.2.2 a2.2.2.1 n6]
theorem up18 {v : Int32} : upd (mm 0) 18 v 1 = mm 0 1 ∧ upd (mm 0) 18 v 4 = mm 0 4 := ⟨by simp [upd], by simp [upd]⟩
theorem up0 {K : Nat} (h0 : mm' 0 = mm 0 ∨ mm' 0 = upd (mm 0) 18 (nI K)) : mm' 0 1 = mm 0 1 ∧ mm' 0 4 = mm 0 4 := by
  rcases h0 with h0 | h0
  · rw [h0]; exact ⟨rfl, rfl⟩
  · rw [h0]; exact up18
theorem up1 {K L : Nat} (h0 : mm' 0 = mm 0 ∨ mm' 0 = upd (upd (mm 0) 18 (nI K)) 21 (nI L)) : mm' 0 1 = mm 0 1 ∧ mm' 0 4 = mm 0 4 := by
  rcases h0 with h0 | h0
  · rw [h0]; exact ⟨rfl, rfl⟩
  · rw [h0]; exact ⟨by simp [upd], by simp [upd]⟩
theorem J_vector (h : JJ mc qc mm) : STp 92 230 [.ref 0, .int x, .int y, .int z, .null] [.ref 0, .int x, .int y, .int z, .null] mc qc mm qm := by
  obtain ⟨n, a1, a2, a3, aN, am, n1, n6⟩ := JJ_n h
  obtain ⟨m', e, f, F'⟩ := x_S_vector (d := 90) (x := x) (i := y) (e := z) aN a3
  obtain ⟨m2, e2, f2, g2⟩ := x_M_vector (d := 91) (m := mm) (q := qm) (z := x) (i := y) (w := z) am n1 n6 (AX_M a2)
  exact STp_i e e2 (vc_ans a2.2.2.2.2 a2.2.2.1 n6) (JJ_q h a1 a2 f F' (up0 g2).1 (up0 g2).2 fun c h1 h2 => f2 c (by simp only [List.mem_cons, List.not_mem_nil, or_false]; omega))
theorem AX_T (a2 : AX n F G R) : orO n F = true → (vkL n F 3).length ≤ 64 := fun ho => by
  rw [or_eq a2.2.2.2.2 a2.2.2.1 a2.2.1] at ho
  obtain ⟨e1, _, e3⟩ := toL_eq a2.2.2.2.2 a2.2.2.1 a2.2.1 ho
  rw [e1, List.length_map]
  exact e3
theorem J_beside (h : JJ mc qc mm) : STp 116 245 [.ref 0, .int x] [.ref 0, .int x, .null, .null] mc qc mm qm := by
  obtain ⟨n, a1, a2, a3, aN, am, n1, n6⟩ := JJ_n h
  obtain ⟨m', q', e, f, F'⟩ := x_S_beside (d := 91) (t := x) aN a3 (AX_T a2)
  obtain ⟨m2, e2, f2, g2⟩ := x_M_beside (d := 91) (m := mm) (q := qm) (x := x) am n1 n6 (AX_M a2) fun ho => tope_64 a2.2.2.2.2 a2.2.2.1 n6 ho
  exact STp_i e e2 (bs_ans a2.2.2.2.2 a2.2.2.1 n6) (JJ_q h a1 a2 f F' (up1 g2).1 (up1 g2).2 fun c h1 h2 => f2 c (by simp only [List.mem_cons, List.not_mem_nil, or_false]; omega))
theorem J_between (h : JJ mc qc mm) : STp 124 249 [.ref 0, .int x, .int y, .int z, .null, .null] [.ref 0, .int x, .int y, .int z] mc qc mm qm := by
  obtain ⟨n, a1, a2, a3, aN, am, n1, n6⟩ := JJ_n h
  obtain ⟨m', q', e, f, F'⟩ := x_S_between (d := 91) (t := x) (u := y) (w := z) aN a3 (AX_T a2)
  obtain ⟨m2, Fm, hFm, e2, f2, g2⟩ := x_M_between (d := 91) (m := mm) (q := qm) (x := x) (y := y) (z := z) am n1 n6 (AX_M a2) fun ho => tope_64 a2.2.2.2.2 a2.2.2.1 n6 ho
  exact STp_i e e2 (bt_ans a2.2.2.2.2 a2.2.2.1 n6 hFm) (JJ_q h a1 a2 f F' (up1 g2).1 (up1 g2).2 fun c h1 h2 => f2 c (by simp only [List.mem_cons, List.not_mem_nil, or_false]; omega))
theorem J_mutation (h : JJ mc qc mm) : STp 128 252 [.ref 0, .int x, .null] [.ref 0, .int x, .null, .null, .null, .null, .null, .null] mc qc mm qm := by
  obtain ⟨n, a1, a2, a3, aN, am, n1, n6⟩ := JJ_n h
  obtain ⟨m', e, f, F'⟩ := x_S_mutation (d := 90) (t := x) aN a3
  exact STp_i e (x_M_mutation (d := 91) am n6) (mt_ans a2.2.2.2.2 a2.2.2.1 a2.1 n6) (JJ_q h a1 a2 f F' rfl rfl fun _ _ _ => rfl)
theorem J_extensions (h : JJ mc qc mm) : STp 132 254 [.ref 0] [.ref 0, .null, .null, .null, .null, .null, .null, .null] mc qc mm qm := by
  obtain ⟨n, a1, a2, a3, aN, am, n1, n6⟩ := JJ_n h
  obtain ⟨m', e, f, F'⟩ := x_S_extensions (d := 25) aN a3
  obtain ⟨W, e2⟩ := x_M_extensions (d := 92) (m := mm) (q := qm) am n1 n6
  exact STp_i e e2 (ext_ans a2.2.2.2.2 a2.2.2.1 n1 n6) (JJ_q h a1 a2 f F' (by rw [mu_ne (by decide)]) (by rw [mu_ne (by decide)]) fun c h1 h2 => mu_ne (by omega))
theorem kiP_lt (h : kiP n R k c = true) : c < 3 ^ n := by
  have k0 : ∀ y, cocP n R fP y = true → y < 3 ^ n := fun y hy => by
    obtain ⟨t, _, _, e⟩ := coc_m.mp hy
    have := @cocC_lt n R t
    omega
  have k1 : ∀ y, cirP n R fP y = true → y < 3 ^ n := fun y hy => by
    have hm := mbP_f (n := n) (y := y) (C := cirC n R) (l := quad n) (P := fP)
    rcases hm.mp hy with h | ⟨t, _, _, e⟩
    · cases h
    · have := @cirC_lt n R t
      omega
  have k2 : ∀ y, covP n (cirP n R fP) y = true → y < 3 ^ n := fun y hy => by
    unfold covP at hy
    split at hy
    · assumption
    · exact k1 y hy
  unfold kiP at h
  split at h
  · exact k0 c h
  · split at h
    · exact k1 c h
    · split at h
      · exact k2 c h
      · unfold topP at h
        split at h
        · assumption
        · exact k2 c h
theorem J_find (h : JJ mc qc mm) : STp 151 261 [.ref 0, .int x, .int y, .int z, .null] [.ref 0, .int x, .int y, .int z, .null, .null, .null, .null] mc qc mm qm := by
  obtain ⟨n, a1, a2, a3, aN, am, n1, n6⟩ := JJ_n h
  obtain ⟨B, C, b1, b2, b3⟩ := h.2.2.2.2
  obtain ⟨m', e, f, F'⟩ := x_S_find (d := 90) (b := x) (i := y) (x := z) aN a3 b1
  obtain ⟨m2, e2, f2, g2⟩ := x_M_find (d := 91) (m := mm) (q := qm) (x := x) (y := y) (z := z) am n1 n6 (AX_M a2) b2 fun k c _ hc => kiP_lt hc
  exact STp_i e e2 (fi_ans a2.2.2.2.2 a2.2.2.1 n6 b3) (JJ_q h a1 a2 f F' (up0 g2).1 (up0 g2).2 fun c h1 h2 => f2 c (by simp only [List.mem_cons, List.not_mem_nil, or_false]; omega))
theorem J_seen (h : JJ mc qc mm) : STp 149 260 [.ref 0, .int x, .int y, .int z, .null, .null] [.ref 0, .int x, .int y, .int z, .null, .null, .null] mc qc mm qm := by
  obtain ⟨B, C, b1, b2, b3⟩ := h.2.2.2.2
  exact STp_i (x_S_seen (d := 98) b1) (x_M_seen (d := 98) b2) (sn_ans b3) h
theorem J_count (h : JJ mc qc mm) : STp 156 264 [.ref 0, .int x] [.ref 0, .int x] mc qc mm qm := by
  obtain ⟨n, a1, a2, a3, aN, am, n1, n6⟩ := JJ_n h
  obtain ⟨_, ⟨u, s, hh⟩, _, ⟨t0, f, L, t1, t2⟩, B, C, b1, b2, b3⟩ := id h
  obtain ⟨m', e, g, F'⟩ := x_S_count (d := 93) (x := x) aN a3 b1 hh.2.2.2.1 t1.1
  refine STp_i e (x_M_count (d := 95) am n6 b2 hh.2.2.2.2.1 t2.1) ?_ (JJ_q h a1 a2 g F' rfl rfl fun _ _ _ => rfl)
  rw [co_ans a2.2.2.2.2 a2.2.2.1 n6 b3]
theorem J_lay (h : JJ mc qc mm) : STp 140 257 [.ref 0, .int x, .int y, .int z, .int w, .null, .null] [.ref 0, .int x, .int y, .int z, .int w, .null, .null, .null] mc qc mm qm := by
  obtain ⟨n, a1, a2, a3, aN, am, n1, n6⟩ := JJ_n h
  obtain ⟨B, C, b1, b2, b3⟩ := h.2.2.2.2
  obtain ⟨m', e, bs, f, F'⟩ := x_S_lay (d := 90) (b := x) (i := y) (x := z) (k := w) aN a3 b1
  obtain ⟨m2, e2, bm, f2, g2⟩ := x_M_lay (d := 91) (m := mm) (q := qm) (x := x) (y := y) (z := z) (w := w) am n1 n6 (AX_M a2) b2
  obtain ⟨k1, k2⟩ := ly_ans (x := x) (y := y) (z := z) (w := w) a2.2.2.2.2 a2.2.2.1 n1 n6 b3
  exact STp_i e e2 k1 (JJ_g h a1 a2 f F' ⟨_, _, bs, bm, k2⟩ (up0 g2).1 (up0 g2).2 (f2 1 (by decide)) (f2 2 (by decide)) (f2 3 (by decide)))
theorem J_compose (h : JJ mc qc mm) : STp 145 259 [.ref 0, .int x, .int y, .int z, .null, .null] [.ref 0, .int x, .int y, .int z, .null, .null, .null, .null, .null, .null] mc qc mm qm := by
  obtain ⟨n, a1, a2, a3, aN, am, n1, n6⟩ := JJ_n h
  obtain ⟨B, C, b1, b2, b3⟩ := h.2.2.2.2
  obtain ⟨m', e, bs, f⟩ := x_S_compose (d := 97) (q := qc) (b := x) (i := y) (j := z) b1
  obtain ⟨m2, e2, bm, f2⟩ := x_M_compose (d := 97) (m := mm) (q := qm) (x := x) (y := y) (z := z) b2
  obtain ⟨k1, k2⟩ := cm_ans (x := x) (y := y) (z := z) b3
  exact STp_i e e2 k1 (JJ_g h a1 a2 (fr_wk f fun c hc => List.mem_append_right _ hc) (FI_bC a3 f) ⟨_, _, bs, bm, k2⟩ (by rw [f2 0 (by decide)]) (by rw [f2 0 (by decide)]) (f2 1 (by decide)) (f2 2 (by decide)) (f2 3 (by decide)))
theorem J_away (h : JJ mc qc mm) : STp 153 262 [.ref 0, .int x, .null] [.ref 0, .int x, .null] mc qc mm qm := by
  obtain ⟨n, a1, a2, a3, aN, am, n1, n6⟩ := JJ_n h
  obtain ⟨B, C, b1, b2, b3⟩ := h.2.2.2.2
  obtain ⟨m', e, bs, f⟩ := x_S_away (d := 98) (q := qc) (b := x) b1
  obtain ⟨m2, e2, bm, f2⟩ := x_M_away (d := 98) (m := mm) (q := qm) (x := x) b2
  obtain ⟨k1, k2⟩ := aw_ans (x := x) b3
  exact STp_i e e2 k1 (JJ_g h a1 a2 (fr_wk f fun c hc => List.mem_append_right _ hc) (FI_bC a3 f) ⟨_, _, bs, bm, k2⟩ (by rw [f2 0 (by decide)]) (by rw [f2 0 (by decide)]) (f2 1 (by decide)) (f2 2 (by decide)) (f2 3 (by decide)))
theorem J_box (h : JJ mc qc mm) : STp 137 255 [.ref 0, .int x, .int y, .int z] [.ref 0, .int x, .int y, .int z, .null] mc qc mm qm := by
  obtain ⟨n, a1, a2, a3, aN, am, n1, n6⟩ := JJ_n h
  obtain ⟨B, C, b1, b2, b3⟩ := h.2.2.2.2
  obtain ⟨m', e, bs, f⟩ := x_S_box (d := 98) (q := qc) (x := x) (y := y) (z := z) b1
  obtain ⟨m2, e2, bm, f2⟩ := x_M_box (d := 98) (m := mm) (q := qm) (x := x) (y := y) (z := z) b2
  obtain ⟨k1, k2⟩ := bx_ans (x := x) (y := y) (z := z) b3
  exact STp_i e e2 k1 (JJ_g h a1 a2 (fr_wk f fun c hc => List.mem_append_right _ hc) (FI_bC a3 f) ⟨_, _, bs, bm, k2⟩ (by rw [f2 0 (by decide)]) (by rw [f2 0 (by decide)]) (f2 1 (by decide)) (f2 2 (by decide)) (f2 3 (by decide)))
end
