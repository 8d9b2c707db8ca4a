/-! the rows of vectors of each kind -/
def cocL (n : Nat) (F : Nat → Int32) : List Nat := (prs n).foldl (fun l t => insB n l (cocV n F t.1 t.2)) []
def cirL (n : Nat) (F : Nat → Int32) : List Nat := (quad n).foldl (fun l t => insB n l (cirV n F t.1 t.2.1 t.2.2.1 t.2.2.2)) []
/-- one row composed with all -/
def covS (C : List Nat) (x : Nat) (l : List Nat) : List Nat := (rg 0 C.length).foldl (fun l c => insK l (cpK x (C.getD c 0))) l
def covW (C : List Nat) : Nat → Nat → List Nat → List Nat
  | 0, _, l => l
  | f + 1, i, l => if i < l.length then covW C f (i + 1) (covS C (l.getD i 0) l) else l
def zrK (k : Nat) : Nat := ons 12 (k &&& 1365)
def covL (n : Nat) (F : Nat → Int32) : List Nat := covW (srt (cocL n F)) 729 0 (insK [] (kO (zeV n)))
def fewO (V : List Nat) (n : Nat) : Nat := (rg 0 V.length).foldl (fun x k => min x (zrK (V.getD k 0))) n
def topO (V : List Nat) (w : Nat) : List Nat := (rg 0 V.length).foldl (fun l k => if zrK (V.getD k 0) = w then insK l (V.getD k 0) else l) []
def vkL (n : Nat) (F : Nat → Int32) (i : Nat) : List Nat := if i = 0 then srt (cocL n F) else if i = 1 then srt (cirL n F) else if i = 2 then srt (covL n F) else topO (srt (covL n F)) (fewO (srt (covL n F)) n)
/-- what the rows hold that are known -/
def VI (m : Mem) (n : Nat) (F : Nat → Int32) : Prop := ∀ i, i < 4 → m 49 i = nI 0 ∨ (m 49 i = nI 1 ∧ WR m (50 + 3 * i) (vkL n F i))
theorem WR_fr {m m' : Mem} {a : Nat} {l : List Nat} (h : WR m a l) (h0 : m' a = m a) (h1 : m' (a + 1) = m (a + 1)) (h2 : m' (a + 2) = m (a + 2)) : WR m' a l := by
  unfold WR
  rw [h0, h1, h2]
  exact h
theorem VI_set {m m' : Mem} {n i : Nat} {F : Nat → Int32} (h : VI m n F) (hi : i < 4) (hw : WR m' (50 + 3 * i) (vkL n F i)) (h9 : m' 49 = upd (m 49) i (nI 1)) (hf : ∀ j, j < 4 → j ≠ i → m' (50 + 3 * j) = m (50 + 3 * j) ∧ m' (50 + 3 * j + 1) = m (50 + 3 * j + 1) ∧ m' (50 + 3 * j + 2) = m (50 + 3 * j + 2)) : VI m' n F := by
  intro j hj
  by_cases e : j = i
  · subst e
    exact Or.inr ⟨by rw [h9]; simp [upd], hw⟩
  · have := hf j hj e
    rw [h9]
    simp only [upd, if_neg e]
    rcases h j hj with h | ⟨h, w⟩
    · exact Or.inl h
    · exact Or.inr ⟨h, WR_fr w this.1 this.2.1 this.2.2⟩
section
variable {d k n : Nat} {m : Mem} {q : MemJ}
theorem r96 {h1 h2 : Nat} {v2 v3 v4 v5 : Value} : ev d 96 5 [.ref h1, .ref h2, v2, v3, v4, v5] [.int (nI 0), .ref 48] (mk shC m q) = ev d 96 6 [.ref h1, .ref h2, v2, v3, v4, v5] [.ref 50] (mk shC m q) := s96_5 (t := 2) shC_48 (by decide) (by decide) (by decide) rfl
theorem r106 {h1 h2 : Nat} {v2 v3 v4 v5 v6 v7 : Value} : ev d 106 5 [.ref h1, .ref h2, v2, v3, v4, v5, v6, v7] [.int (nI 1), .ref 48] (mk shC m q) = ev d 106 6 [.ref h1, .ref h2, v2, v3, v4, v5, v6, v7] [.ref 53] (mk shC m q) := s106_5 (t := 2) shC_48 (by decide) (by decide) (by decide) rfl
theorem r108 {h1 h2 : Nat} {v2 v3 v4 v5 : Value} : ev d 108 5 [.ref h1, .ref h2, v2, v3, v4, v5] [.int (nI 2), .ref 48] (mk shC m q) = ev d 108 6 [.ref h1, .ref h2, v2, v3, v4, v5] [.ref 56] (mk shC m q) := s108_5 (t := 2) shC_48 (by decide) (by decide) (by decide) rfl
theorem r112 {h1 h2 : Nat} {v2 v3 v4 v5 : Value} : ev d 112 5 [.ref h1, .ref h2, v2, v3, v4, v5] [.int (nI 3), .ref 48] (mk shC m q) = ev d 112 6 [.ref h1, .ref h2, v2, v3, v4, v5] [.ref 59] (mk shC m q) := s112_5 (t := 2) shC_48 (by decide) (by decide) (by decide) rfl
theorem sm3_at {a c : Nat} {m m' : Mem} (h : sm3 a m m') (hc : c < a ∨ a + 2 < c) : m' c = m c := h c (by omega) (by omega) (by omega)
theorem x_V_cocircuits (ho : oC0 k) (hn : m k 0 = nI n) (hn6 : n ≤ 6) (hF : isSF (m (k + 1))) (hV : VI m n (m (k + 1))) : ∃ m', ev (d + 3) 96 0 [.ref 47, .ref k, .null, .null, .null, .null] [] (mk shC m q) = some (some (.ref 50), mk shC m' q) ∧ WR m' 50 (vkL n (m (k + 1)) 0) ∧ VI m' n (m (k + 1)) ∧ fr [49, 50, 51, 52] m m' := by
  have hr := oC0_rng ho
  have hV0 := hV 0 (by decide)
  rcases hV0 with h0 | ⟨h1, w⟩
  · obtain ⟨m1, e1, w1, s1⟩ := x_W_clear (d := d + 1) (m := m) (q := q) oC8_50
    have k0 : ∀ {m'}, sm3 50 m m' → m' k = m k ∧ m' (k + 1) = m (k + 1) ∧ m' 49 = m 49 := fun h => ⟨sm3_at h (by omega), sm3_at h (by omega), sm3_at h (by omega)⟩
    obtain ⟨⟨m2, x4, v⟩, ⟨w2, s2⟩, e2⟩ := ev_rel2 (fun l (v : Mem × Int32 × Value) => WR v.1 50 l ∧ sm3 50 m v.1) (fun a v => ev (d + 3) 96 33 [.ref 47, .ref k, .ref 50, .int (nI (kO (zeV n))), .int (nI a), v.2.2] [] (mk shC v.1 q))
      (fun a b v => ev (d + 3) 96 48 [.ref 47, .ref k, .ref 50, .int (nI (kO (zeV n))), .int (nI a), .int (nI b)] [] (mk shC v.1 q))
      (fun v => ev (d + 3) 96 82 [.ref 47, .ref k, .ref 50, .int (nI (kO (zeV n))), .int v.2.1, v.2.2] [] (mk shC v.1 q)) (fun a b l => insB n l (cocV n (m (k + 1)) a b)) n
      (fun l v h => ⟨(v.1, nI n, v.2.2), h, by
        rw [s96_33]
        simp only [s96_35, s96_36, s96_39, s96_42, s96_44, s96_45, s96_46, s96_50, s96_51, s96_54, s96_57, s96_58, s96_59, s96_61, s96_63, s96_66, s96_67, s96_70, s96_73, s96_76, s96_79, ho, x_A_size ho, (k0 h.2).1, hn, Option.bind_some, Option.toList_some, Option.toList_none, List.nil_append, List.cons_append, nI_irr, if_false]⟩)
      (fun a l v ha h => ⟨v, h, by
        rw [s96_33]
        simp only [s96_35, s96_36, s96_39, s96_42, s96_44, s96_45, s96_46, s96_50, s96_51, s96_54, s96_57, s96_58, s96_59, s96_61, s96_63, s96_66, s96_67, s96_70, s96_73, s96_76, s96_79, ho, x_A_size ho, (k0 h.2).1, hn, Option.bind_some, Option.toList_some, Option.toList_none, List.nil_append, List.cons_append, nI_lt ha (show n < 2 ^ 31 by omega), if_true, nI_add]⟩)
      (fun a l v ha h => ⟨(v.1, v.2.1, .int (nI n)), h, by
        rw [s96_48]
        simp only [s96_35, s96_36, s96_39, s96_42, s96_44, s96_45, s96_46, s96_50, s96_51, s96_54, s96_57, s96_58, s96_59, s96_61, s96_63, s96_66, s96_67, s96_70, s96_73, s96_76, s96_79, ho, x_A_size ho, (k0 h.2).1, hn, Option.bind_some, Option.toList_some, Option.toList_none, List.nil_append, List.cons_append, nI_irr, if_false, nI_add]⟩)
      (fun a b l v hab hb h => by
        have hF' : isSF (v.1 (k + 1)) := by rw [(k0 h.2).2.1]; exact hF
        obtain ⟨m3, e3, w3, s3⟩ := x_V_insertBoth (d := d + 1) (q := q) oC8_50 h.1 hn6 (cocV_isV hF' (show a < 6 by omega) (show b < 6 by omega) hn6)
        refine ⟨(m3, v.2.1, v.2.2), ⟨by rw [← (k0 h.2).2.1]; exact w3, sm3_tr h.2 s3⟩, ?_⟩
        have hn' : v.1 k 0 = nI n := by rw [(k0 h.2).1]; exact hn
        rw [s96_48]
        simp only [s96_35, s96_36, s96_39, s96_42, s96_44, s96_45, s96_46, s96_50, s96_51, s96_54, s96_57, s96_58, s96_59, s96_61, s96_63, s96_66, s96_67, s96_70, s96_73, s96_76, s96_79, ho, x_A_size ho, hn', Option.bind_some, Option.toList_some, Option.toList_none, List.nil_append, List.cons_append, nI_lt hb (show n < 2 ^ 31 by omega), if_true, x_V_cocircuit ho hn' hn6 hF' (show a < 6 by omega) (show b < 6 by omega), e3, nI_add]) [] (m1, nI 0, .null) ⟨w1, s1⟩
    obtain ⟨m3, e3, w3, s3⟩ := x_W_sort (d := d + 2) (q := q) oC8_50 w2
    have s13 := sm3_tr s2 s3
    refine ⟨mu m3 49 (upd (m 49) 0 (nI 1)), ?_, ?_, ?_, ?_⟩
    · simp only [s96_0, s96_1, s96_4, s96_5, s96_6, s96_7, s96_8, s96_11, s96_12, s96_13, s96_16, s96_17, s96_18, s96_19, s96_22, s96_23, s96_26, s96_29, s96_30, s96_31, r96, tC49, nC49, show 0 < 4 by decide, h0, nI00, if_true, oC8_50, e1, Option.bind_some, Option.toList_some, Option.toList_none, List.nil_append, List.cons_append, ho, x_A_size ho, (k0 s1).1, hn, x_K_zero hn6]
      refine e2.trans ?_
      simp only [s96_0, s96_1, s96_4, s96_5, s96_6, s96_7, s96_8, s96_11, s96_12, s96_13, s96_16, s96_17, s96_18, s96_19, s96_22, s96_23, s96_26, s96_29, s96_30, s96_31, s96_35, s96_36, s96_39, s96_42, s96_44, s96_45, s96_46, s96_50, s96_51, s96_54, s96_57, s96_58, s96_59, s96_61, s96_63, s96_66, s96_67, s96_70, s96_73, s96_76, s96_79, s96_82, s96_83, s96_86, s96_87, s96_90, s96_91, s96_92, s96_93, s96_94, oC8_50, e3, Option.bind_some, Option.toList_some, Option.toList_none, List.nil_append, List.cons_append, tC49, nC49, show 0 < 4 by decide, nar1, (k0 s13).2.2]
    · exact WR_fr w3 (mu_ne (by decide)) (mu_ne (by decide)) (mu_ne (by decide))
    · refine VI_set hV (by decide) (WR_fr w3 (mu_ne (by decide)) (mu_ne (by decide)) (mu_ne (by decide))) mu_same fun j hj hj0 => ?_
      refine ⟨?_, ?_, ?_⟩ <;> rw [mu_ne (by omega), sm3_at s13 (by omega)]
    · intro c hc
      simp only [List.mem_cons, List.not_mem_nil, or_false, not_or] at hc
      rw [mu_ne hc.1, sm3_at s13 (by omega)]
  · refine ⟨m, ?_, w, hV, fr_rfl⟩
    simp only [s96_0, s96_1, s96_4, s96_5, s96_6, s96_7, s96_8, s96_11, s96_12, s96_13, s96_16, s96_17, s96_18, s96_19, s96_22, s96_23, s96_26, s96_29, s96_30, s96_31, r96, tC49, nC49, show 0 < 4 by decide, h1, nI10, if_false]
end
