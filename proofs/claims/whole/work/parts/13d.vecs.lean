/-! circuits, covectors, topes -/
section
variable {d k n : Nat} {m : Mem} {q : MemJ}
theorem x_V_circuits (ho : oC0 k) (hn : m k 0 = nI n) (hn6 : n ≤ 6) (hF : isSF (m (k + 1))) (hV : VI m n (m (k + 1))) : ∃ m', ev (d + 3) 106 0 [.ref 47, .ref k, .null, .null, .null, .null, .null, .null] [] (mk shC m q) = some (some (.ref 53), mk shC m' q) ∧ WR m' 53 (vkL n (m (k + 1)) 1) ∧ VI m' n (m (k + 1)) ∧ fr [49, 53, 54, 55] m m' := by
  have hr := oC0_rng ho
  have hV0 := hV 1 (by decide)
  rcases hV0 with h0 | ⟨h1, w⟩
  · obtain ⟨m1, e1, w1, s1⟩ := x_W_clear (d := d + 1) (m := m) (q := q) oC8_53
    have k0 : ∀ {m'}, sm3 53 m m' → m' k = m k ∧ m' (k + 1) = m (k + 1) ∧ m' 49 = m 49 := fun h => ⟨sm3_at h (by omega), sm3_at h (by omega), sm3_at h (by omega)⟩
    obtain ⟨⟨m2, x4, v⟩, ⟨w2, s2⟩, e2⟩ := ev_rel4 (fun l (v : Mem × Int32 × Value × Value × Value) => WR v.1 53 l ∧ sm3 53 m v.1) (fun a v => ev (d + 3) 106 33 [.ref 47, .ref k, .ref 53, .int (nI (kO (zeV n))), .int (nI a), v.2.2.1, v.2.2.2.1, v.2.2.2.2] [] (mk shC v.1 q))
      (fun a b v => ev (d + 3) 106 48 [.ref 47, .ref k, .ref 53, .int (nI (kO (zeV n))), .int (nI a), .int (nI b), v.2.2.2.1, v.2.2.2.2] [] (mk shC v.1 q))
      (fun a b c v => ev (d + 3) 106 63 [.ref 47, .ref k, .ref 53, .int (nI (kO (zeV n))), .int (nI a), .int (nI b), .int (nI c), v.2.2.2.2] [] (mk shC v.1 q))
      (fun a b c e v => ev (d + 3) 106 78 [.ref 47, .ref k, .ref 53, .int (nI (kO (zeV n))), .int (nI a), .int (nI b), .int (nI c), .int (nI e)] [] (mk shC v.1 q))
      (fun v => ev (d + 3) 106 128 [.ref 47, .ref k, .ref 53, .int (nI (kO (zeV n))), .int v.2.1, v.2.2.1, v.2.2.2.1, v.2.2.2.2] [] (mk shC v.1 q)) (fun a b c e l => insB n l (cirV n (m (k + 1)) a b c e)) n
      (fun l v h => ⟨(v.1, nI n, v.2.2), h, by
        rw [s106_33]
        simp only [s106_35, s106_36, s106_39, s106_42, s106_44, s106_45, s106_46, s106_50, s106_51, s106_54, s106_57, s106_59, s106_60, s106_61, s106_65, s106_66, s106_69, s106_72, s106_74, s106_75, s106_76, s106_80, s106_81, s106_84, s106_87, s106_88, s106_89, s106_91, s106_93, s106_95, s106_97, s106_100, s106_101, s106_104, s106_107, s106_110, s106_113, s106_116, s106_119, s106_122, s106_125, ho, x_A_size ho, (k0 h.2).1, hn, Option.bind_some, Option.toList_some, Option.toList_none, List.nil_append, List.cons_append, nI_irr, if_false]⟩)
      (fun a l v ha h => ⟨v, h, by
        rw [s106_33]
        simp only [s106_35, s106_36, s106_39, s106_42, s106_44, s106_45, s106_46, s106_50, s106_51, s106_54, s106_57, s106_59, s106_60, s106_61, s106_65, s106_66, s106_69, s106_72, s106_74, s106_75, s106_76, s106_80, s106_81, s106_84, s106_87, s106_88, s106_89, s106_91, s106_93, s106_95, s106_97, s106_100, s106_101, s106_104, s106_107, s106_110, s106_113, s106_116, s106_119, s106_122, s106_125, ho, x_A_size ho, (k0 h.2).1, hn, Option.bind_some, Option.toList_some, Option.toList_none, List.nil_append, List.cons_append, nI_lt ha (show n < 2 ^ 31 by omega), if_true, nI_add]⟩)
      (fun a l v ha h => ⟨(v.1, v.2.1, .int (nI n), v.2.2.2), h, by
        rw [s106_48]
        simp only [s106_35, s106_36, s106_39, s106_42, s106_44, s106_45, s106_46, s106_50, s106_51, s106_54, s106_57, s106_59, s106_60, s106_61, s106_65, s106_66, s106_69, s106_72, s106_74, s106_75, s106_76, s106_80, s106_81, s106_84, s106_87, s106_88, s106_89, s106_91, s106_93, s106_95, s106_97, s106_100, s106_101, s106_104, s106_107, s106_110, s106_113, s106_116, s106_119, s106_122, s106_125, ho, x_A_size ho, (k0 h.2).1, hn, Option.bind_some, Option.toList_some, Option.toList_none, List.nil_append, List.cons_append, nI_irr, if_false, nI_add]⟩)
      (fun a b l v hab hb h => ⟨v, h, by
        rw [s106_48]
        simp only [s106_35, s106_36, s106_39, s106_42, s106_44, s106_45, s106_46, s106_50, s106_51, s106_54, s106_57, s106_59, s106_60, s106_61, s106_65, s106_66, s106_69, s106_72, s106_74, s106_75, s106_76, s106_80, s106_81, s106_84, s106_87, s106_88, s106_89, s106_91, s106_93, s106_95, s106_97, s106_100, s106_101, s106_104, s106_107, s106_110, s106_113, s106_116, s106_119, s106_122, s106_125, ho, x_A_size ho, (k0 h.2).1, hn, Option.bind_some, Option.toList_some, Option.toList_none, List.nil_append, List.cons_append, nI_lt hb (show n < 2 ^ 31 by omega), if_true, nI_add]⟩)
      (fun a b l v hab hb h => ⟨(v.1, v.2.1, v.2.2.1, .int (nI n), v.2.2.2.2), h, by
        rw [s106_63]
        simp only [s106_35, s106_36, s106_39, s106_42, s106_44, s106_45, s106_46, s106_50, s106_51, s106_54, s106_57, s106_59, s106_60, s106_61, s106_65, s106_66, s106_69, s106_72, s106_74, s106_75, s106_76, s106_80, s106_81, s106_84, s106_87, s106_88, s106_89, s106_91, s106_93, s106_95, s106_97, s106_100, s106_101, s106_104, s106_107, s106_110, s106_113, s106_116, s106_119, s106_122, s106_125, ho, x_A_size ho, (k0 h.2).1, hn, Option.bind_some, Option.toList_some, Option.toList_none, List.nil_append, List.cons_append, nI_irr, if_false, nI_add]⟩)
      (fun a b c l v hab hbc hc h => ⟨v, h, by
        rw [s106_63]
        simp only [s106_35, s106_36, s106_39, s106_42, s106_44, s106_45, s106_46, s106_50, s106_51, s106_54, s106_57, s106_59, s106_60, s106_61, s106_65, s106_66, s106_69, s106_72, s106_74, s106_75, s106_76, s106_80, s106_81, s106_84, s106_87, s106_88, s106_89, s106_91, s106_93, s106_95, s106_97, s106_100, s106_101, s106_104, s106_107, s106_110, s106_113, s106_116, s106_119, s106_122, s106_125, ho, x_A_size ho, (k0 h.2).1, hn, Option.bind_some, Option.toList_some, Option.toList_none, List.nil_append, List.cons_append, nI_lt hc (show n < 2 ^ 31 by omega), if_true, nI_add]⟩)
      (fun a b c l v hab hbc hc h => ⟨(v.1, v.2.1, v.2.2.1, v.2.2.2.1, .int (nI n)), h, by
        rw [s106_78]
        simp only [s106_35, s106_36, s106_39, s106_42, s106_44, s106_45, s106_46, s106_50, s106_51, s106_54, s106_57, s106_59, s106_60, s106_61, s106_65, s106_66, s106_69, s106_72, s106_74, s106_75, s106_76, s106_80, s106_81, s106_84, s106_87, s106_88, s106_89, s106_91, s106_93, s106_95, s106_97, s106_100, s106_101, s106_104, s106_107, s106_110, s106_113, s106_116, s106_119, s106_122, s106_125, ho, x_A_size ho, (k0 h.2).1, hn, Option.bind_some, Option.toList_some, Option.toList_none, List.nil_append, List.cons_append, nI_irr, if_false, nI_add]⟩)
      (fun a b c e l v hab hbc hce he h => by
        have hF' : isSF (v.1 (k + 1)) := by rw [(k0 h.2).2.1]; exact hF
        obtain ⟨m3, e3, w3, s3⟩ := x_V_insertBoth (d := d + 1) (q := q) oC8_53 h.1 hn6 (cirV_isV (n := n) (a := a) (b := b) (c := c) (d := e) hF' (by omega) (by omega) (by omega) (by omega))
        refine ⟨(m3, v.2), ⟨by rw [← (k0 h.2).2.1]; exact w3, sm3_tr h.2 s3⟩, ?_⟩
        have hn' : v.1 k 0 = nI n := by rw [(k0 h.2).1]; exact hn
        rw [s106_78]
        simp only [s106_35, s106_36, s106_39, s106_42, s106_44, s106_45, s106_46, s106_50, s106_51, s106_54, s106_57, s106_59, s106_60, s106_61, s106_65, s106_66, s106_69, s106_72, s106_74, s106_75, s106_76, s106_80, s106_81, s106_84, s106_87, s106_88, s106_89, s106_91, s106_93, s106_95, s106_97, s106_100, s106_101, s106_104, s106_107, s106_110, s106_113, s106_116, s106_119, s106_122, s106_125, ho, x_A_size ho, hn', Option.bind_some, Option.toList_some, Option.toList_none, List.nil_append, List.cons_append, nI_lt he (show n < 2 ^ 31 by omega), if_true, x_V_circuit ho hn' hn6 hF' (show a < 6 by omega) (show b < 6 by omega) (show c < 6 by omega) (show e < 6 by omega), e3, nI_add]) [] (m1, nI 0, .null, .null, .null) ⟨w1, s1⟩
    obtain ⟨m3, e3, w3, s3⟩ := x_W_sort (d := d + 2) (q := q) oC8_53 w2
    have s13 := sm3_tr s2 s3
    refine ⟨mu m3 49 (upd (m 49) 1 (nI 1)), ?_, ?_, ?_, ?_⟩
    · simp only [s106_0, s106_1, s106_4, s106_5, s106_6, s106_7, s106_8, s106_11, s106_12, s106_13, s106_16, s106_17, s106_18, s106_19, s106_22, s106_23, s106_26, s106_29, s106_30, s106_31, r106, tC49, nC49, show 1 < 4 by decide, h0, nI00, if_true, oC8_53, e1, Option.bind_some, Option.toList_some, Option.toList_none, List.nil_append, List.cons_append, ho, x_A_size ho, (k0 s1).1, hn, x_K_zero hn6]
      refine e2.trans ?_
      simp only [s106_0, s106_1, s106_4, s106_5, s106_6, s106_7, s106_8, s106_11, s106_12, s106_13, s106_16, s106_17, s106_18, s106_19, s106_22, s106_23, s106_26, s106_29, s106_30, s106_31, s106_35, s106_36, s106_39, s106_42, s106_44, s106_45, s106_46, s106_50, s106_51, s106_54, s106_57, s106_59, s106_60, s106_61, s106_65, s106_66, s106_69, s106_72, s106_74, s106_75, s106_76, s106_80, s106_81, s106_84, s106_87, s106_88, s106_89, s106_91, s106_93, s106_95, s106_97, s106_100, s106_101, s106_104, s106_107, s106_110, s106_113, s106_116, s106_119, s106_122, s106_125, s106_128, s106_129, s106_132, s106_133, s106_136, s106_137, s106_138, s106_139, s106_140, oC8_53, e3, Option.bind_some, Option.toList_some, Option.toList_none, List.nil_append, List.cons_append, tC49, nC49, show 1 < 4 by decide, nar1, (k0 s13).2.2]
    · exact WR_fr w3 (mu_ne (by decide)) (mu_ne (by decide)) (mu_ne (by decide))
    · refine VI_set hV (by decide) (WR_fr w3 (mu_ne (by decide)) (mu_ne (by decide)) (mu_ne (by decide))) mu_same fun j hj hj0 => ?_
      refine ⟨?_, ?_, ?_⟩ <;> rw [mu_ne (by omega), sm3_at s13 (by omega)]
    · intro c hc
      simp only [List.mem_cons, List.not_mem_nil, or_false, not_or] at hc
      rw [mu_ne hc.1, sm3_at s13 (by omega)]
  · refine ⟨m, ?_, w, hV, fr_rfl⟩
    simp only [s106_0, s106_1, s106_4, s106_5, s106_6, s106_7, s106_8, s106_11, s106_12, s106_13, s106_16, s106_17, s106_18, s106_19, s106_22, s106_23, s106_26, s106_29, s106_30, s106_31, r106, tC49, nC49, show 1 < 4 by decide, h1, nI10, if_false]
theorem cpK_lt {x y : Nat} (hx : x < 4096) (hy : y < 4096) : cpK x y < 4096 := by
  unfold cpK
  exact Nat.or_lt_two_pow (n := 12) (Nat.lt_of_le_of_lt Nat.and_le_left hx) (Nat.lt_of_le_of_lt Nat.and_le_left hy)
theorem insK_at {l : List Nat} {k i : Nat} (h : i < l.length) : i < (insK l k).length ∧ (insK l k).getD i 0 = l.getD i 0 := by
  unfold insK
  split
  · exact ⟨h, rfl⟩
  · refine ⟨by simp; omega, ?_⟩
    rw [List.getD_eq_getElem?_getD, List.getD_eq_getElem?_getD, List.getElem?_append_left h]
theorem WR_at {m : Mem} {a i : Nat} {l : List Nat} (h : WR m a l) (hi : i < l.length) : m (a + 1) i = nI (l.getD i 0) ∧ l.getD i 0 < 4096 := by
  obtain ⟨_, _, _, h4, h5, _⟩ := h
  have e : l.getD i 0 = l[i] := by rw [List.getD_eq_getElem?_getD, List.getElem?_eq_getElem hi]; rfl
  rw [e]
  exact ⟨h5 i hi, h4 _ (List.getElem_mem hi)⟩
theorem x_V_covectors (ho : oC0 k) (hn : m k 0 = nI n) (hn6 : n ≤ 6) (hF : isSF (m (k + 1))) (hV : VI m n (m (k + 1))) : ∃ m', ev (d + 4) 108 0 [.ref 47, .ref k, .null, .null, .null, .null] [] (mk shC m q) = some (some (.ref 56), mk shC m' q) ∧ WR m' 56 (vkL n (m (k + 1)) 2) ∧ VI m' n (m (k + 1)) ∧ fr [49, 50, 51, 52, 56, 57, 58] m m' := by
  have hr := oC0_rng ho
  have hV0 := hV 2 (by decide)
  rcases hV0 with h0 | ⟨h1, w⟩
  · obtain ⟨m0, e0, w0, V0, f0⟩ := x_V_cocircuits (d := d) (q := q) ho hn hn6 hF hV
    have f0k : m0 k = m k ∧ m0 (k + 1) = m (k + 1) := ⟨f0 k (by simp; omega), f0 (k + 1) (by simp; omega)⟩
    generalize hC : vkL n (m (k + 1)) 0 = C at w0
    obtain ⟨m1, e1, w1, s1⟩ := x_W_clear (d := d + 2) (m := m0) (q := q) oC8_56
    have hz := kO_V (zeV_isV (n := n)) hn6
    obtain ⟨m2, e2, w2, s2⟩ := x_W_insert (d := d + 3) (q := q) oC8_56 w1 hz
    have s02 := sm3_tr s1 s2
    have wC : ∀ {m'}, sm3 56 m0 m' → WR m' 50 C := fun h => WR_fr w0 (sm3_at h (by decide)) (sm3_at h (by decide)) (sm3_at h (by decide))
    have lp : ∀ f i (l : List Nat) (mm : Mem) (v : Value), i + f = 729 → WR mm 56 l → sm3 56 m0 mm → ∃ mm' v' x', WR mm' 56 (covW C f i l) ∧ sm3 56 m0 mm' ∧ ev (d + 4) 108 42 [.ref 47, .ref k, .ref 56, .ref 50, .int (nI i), v] [] (mk shC mm q) = ev (d + 4) 108 102 [.ref 47, .ref k, .ref 56, .ref 50, .int x', v'] [] (mk shC mm' q) := by
      intro f
      induction f with
      | zero =>
        intro i l mm v hi hw hs
        obtain rfl : i = 729 := by omega
        refine ⟨mm, v, nI 729, hw, hs, ?_⟩
        rw [s108_42]
        simp only [s108_44, s108_45, s108_48, s108_51, s108_53, s108_56, s108_59, s108_60, s108_64, s108_65, s108_68, s108_71, s108_72, s108_73, s108_75, s108_78, s108_79, s108_81, s108_84, s108_87, s108_90, s108_93, s108_96, s108_99, oC8_56, x_W_length oC8_56, Option.bind_some, Option.toList_some, Option.toList_none, List.nil_append, List.cons_append, nI_irr, if_false, ite_self]
      | succ f ih =>
        intro i l mm v hi hw hs
        have hl := hw.1
        have hl2 := hw.2.1
        unfold covW
        by_cases hil : i < l.length
        · rw [if_pos hil]
          have wCC := wC hs
          have hCl := wCC.2.1
          obtain ⟨⟨m3, v3⟩, ⟨⟨w3, g3⟩, s3⟩, e3⟩ := ev_rel1' (fun l' (v : Mem × Value) => (WR v.1 56 l' ∧ i < l'.length ∧ l'.getD i 0 = l.getD i 0) ∧ sm3 56 m0 v.1) (fun c v => ev (d + 4) 108 62 [.ref 47, .ref k, .ref 56, .ref 50, .int (nI i), .int (nI c)] [] (mk shC v.1 q)) (fun _ v => ev (d + 4) 108 42 [.ref 47, .ref k, .ref 56, .ref 50, .int (nI (i + 1)), v.2] [] (mk shC v.1 q)) (fun c l' => insK l' (cpK (l.getD i 0) (C.getD c 0))) 0 C.length 0 (Nat.zero_le _)
            (fun l' v h => ⟨(v.1, .int (nI C.length)), h, by
              rw [s108_62]
              simp only [s108_44, s108_45, s108_48, s108_51, s108_53, s108_56, s108_59, s108_60, s108_64, s108_65, s108_68, s108_71, s108_72, s108_73, s108_75, s108_78, s108_79, s108_81, s108_84, s108_87, s108_90, s108_93, s108_96, s108_99, oC8_50, x_W_length oC8_50, (wC h.2).1, Option.bind_some, Option.toList_some, Option.toList_none, List.nil_append, List.cons_append, nI_irr, if_false, nI_add]⟩)
            (fun c l' v _ hc h => by
              have a1 := WR_at h.1.1 h.1.2.1
              rw [h.1.2.2] at a1
              have a2 := WR_at (wC h.2) hc
              obtain ⟨m4, e4, w4, s4⟩ := x_W_insert (d := d + 3) (q := q) oC8_56 h.1.1 (cpK_lt a1.2 a2.2)
              refine ⟨(m4, v.2), ⟨⟨w4, (insK_at h.1.2.1).1, (insK_at h.1.2.1).2.trans h.1.2.2⟩, sm3_tr h.2 s4⟩, ?_⟩
              rw [s108_62]
              simp only [s108_44, s108_45, s108_48, s108_51, s108_53, s108_56, s108_59, s108_60, s108_64, s108_65, s108_68, s108_71, s108_72, s108_73, s108_75, s108_78, s108_79, s108_81, s108_84, s108_87, s108_90, s108_93, s108_96, s108_99, oC8_50, oC8_56, x_W_length oC8_50, (wC h.2).1, Option.bind_some, Option.toList_some, Option.toList_none, List.nil_append, List.cons_append, nI_lt hc (show C.length < 2 ^ 31 by omega), if_true, x_W_at oC8_56 (show i < 729 by omega), x_W_at oC8_50 (show c < 729 by omega), a1.1, a2.1, x_K_composed, e4, nI_add]) l (mm, v) ⟨⟨hw, hil, rfl⟩, hs⟩
          obtain ⟨m5, v5, x5, w5, s5, e5⟩ := ih (i + 1) _ m3 v3 (by omega) w3 s3
          refine ⟨m5, v5, x5, w5, s5, ?_⟩
          rw [← e5, ← e3, s108_42]
          simp only [s108_44, s108_45, s108_48, s108_51, s108_53, s108_56, s108_59, s108_60, s108_64, s108_65, s108_68, s108_71, s108_72, s108_73, s108_75, s108_78, s108_79, s108_81, s108_84, s108_87, s108_90, s108_93, s108_96, s108_99, oC8_56, x_W_length oC8_56, hl, Option.bind_some, Option.toList_some, Option.toList_none, List.nil_append, List.cons_append, nI_lt hil (show l.length < 2 ^ 31 by omega), nI_lt (show i < 729 by omega) (show 729 < 2 ^ 31 by decide), if_true]
        · rw [if_neg hil]
          refine ⟨mm, v, nI i, hw, hs, ?_⟩
          rw [s108_42]
          simp only [s108_44, s108_45, s108_48, s108_51, s108_53, s108_56, s108_59, s108_60, s108_64, s108_65, s108_68, s108_71, s108_72, s108_73, s108_75, s108_78, s108_79, s108_81, s108_84, s108_87, s108_90, s108_93, s108_96, s108_99, oC8_56, x_W_length oC8_56, hl, Option.bind_some, Option.toList_some, Option.toList_none, List.nil_append, List.cons_append, show ¬ nI i < nI l.length by rw [nI_ltI (by omega) (by omega)]; exact hil, if_false]
    obtain ⟨m3, v3, x3, w3, s3, e3⟩ := lp 729 0 _ m2 .null rfl w2 s02
    obtain ⟨m4, e4, w4, s4⟩ := x_W_sort (d := d + 3) (q := q) oC8_56 w3
    have s14 := sm3_tr s3 s4
    have fin : srt (covW C 729 0 (insK [] (kO (zeV n)))) = vkL n (m (k + 1)) 2 := by rw [← hC]; rfl
    rw [fin] at w4
    have h49 : m4 49 = m0 49 := sm3_at s14 (by decide)
    refine ⟨mu m4 49 (upd (m0 49) 2 (nI 1)), ?_, ?_, ?_, ?_⟩
    · simp only [s108_0, s108_1, s108_4, s108_5, s108_6, s108_7, s108_8, s108_11, s108_12, s108_13, s108_16, s108_17, s108_18, s108_19, s108_20, s108_23, s108_24, s108_25, s108_28, s108_29, s108_30, s108_33, s108_36, s108_39, s108_40, r108, tC49, nC49, show 2 < 4 by decide, h0, nI00, if_true, e0, oC8_56, e1, Option.bind_some, Option.toList_some, Option.toList_none, List.nil_append, List.cons_append, ho, x_A_size ho, (sm3_at s1 (show k < 56 ∨ 56 + 2 < k by omega)), f0k.1, hn, x_K_zero hn6, show List.replicate n 1 = zeV n from rfl, e2]
      refine e3.trans ?_
      simp only [s108_0, s108_1, s108_4, s108_5, s108_6, s108_7, s108_8, s108_11, s108_12, s108_13, s108_16, s108_17, s108_18, s108_19, s108_20, s108_23, s108_24, s108_25, s108_28, s108_29, s108_30, s108_33, s108_36, s108_39, s108_40, s108_44, s108_45, s108_48, s108_51, s108_53, s108_56, s108_59, s108_60, s108_64, s108_65, s108_68, s108_71, s108_72, s108_73, s108_75, s108_78, s108_79, s108_81, s108_84, s108_87, s108_90, s108_93, s108_96, s108_99, s108_102, s108_103, s108_106, s108_107, s108_110, s108_111, s108_112, s108_113, s108_114, oC8_56, e4, Option.bind_some, Option.toList_some, Option.toList_none, List.nil_append, List.cons_append, tC49, nC49, show 2 < 4 by decide, nar1, h49]
    · exact WR_fr w4 (mu_ne (by decide)) (mu_ne (by decide)) (mu_ne (by decide))
    · refine VI_set V0 (by decide) (WR_fr w4 (mu_ne (by decide)) (mu_ne (by decide)) (mu_ne (by decide))) mu_same fun j hj hj0 => ?_
      refine ⟨?_, ?_, ?_⟩ <;> rw [mu_ne (by omega), sm3_at s14 (by omega)]
    · intro c hc
      simp only [List.mem_cons, List.not_mem_nil, or_false, not_or] at hc
      rw [mu_ne hc.1, sm3_at s14 (by omega), f0 c (by simp only [List.mem_cons, List.not_mem_nil, or_false, not_or]; omega)]
  · refine ⟨m, ?_, w, hV, fr_rfl⟩
    simp only [s108_0, s108_1, s108_4, s108_5, s108_6, s108_7, s108_8, s108_11, s108_12, s108_13, s108_16, s108_17, s108_18, s108_19, s108_20, s108_23, s108_24, s108_25, s108_28, s108_29, s108_30, s108_33, s108_36, s108_39, s108_40, r108, tC49, nC49, show 2 < 4 by decide, h1, nI10, if_false]
end
