/-! topes -/
theorem nI_min {a b : Nat} (ha : a < 2 ^ 31) (hb : b < 2 ^ 31) : (if nI a < nI b then nI a else nI b) = nI (min a b) := by
  have e := nI_ltI ha hb
  by_cases h : a < b
  · rw [if_pos (e.mpr h), Nat.min_eq_left (by omega)]
  · rw [if_neg (fun x => h (e.mp x)), Nat.min_eq_right (by omega)]
theorem nI_min' {a b : Nat} (ha : a < 2 ^ 31) (hb : b < 2 ^ 31) : (if nI a < nI b then nI a else nI b) = nI (min b a) := by
  rw [nI_min ha hb, Nat.min_comm]
theorem ons_le : ∀ {r x : Nat}, ons r x ≤ r
  | 0, _ => Nat.le_refl _
  | r + 1, x => by
    have := ons_le (r := r) (x := x / 2)
    unfold ons
    omega
theorem zrK_le {k : Nat} : zrK k ≤ 12 := ons_le
theorem topO_mem {V : List Nat} {w : Nat} : ∀ x ∈ topO V w, x < 4096 → x < 4096 := fun _ _ h => h
section
variable {d k n : Nat} {m : Mem} {q : MemJ}
theorem x_V_topes (ho : oC0 k) (hn : m k 0 = nI n) (hn6 : n ≤ 6) (hF : isSF (m (k + 1))) (hV : VI m n (m (k + 1))) : ∃ m', ev (d + 5) 112 0 [.ref 47, .ref k, .null, .null, .null, .null] [] (mk shC m q) = some (some (.ref 59), mk shC m' q) ∧ WR m' 59 (vkL n (m (k + 1)) 3) ∧ VI m' n (m (k + 1)) ∧ fr [49, 50, 51, 52, 56, 57, 58, 59, 60, 61] m m' := by
  have hr := oC0_rng ho
  have hV0 := hV 3 (by decide)
  rcases hV0 with h0 | ⟨h1, w⟩
  · obtain ⟨m0, e0, w0, V0, f0⟩ := x_V_covectors (d := d) (q := q) ho hn hn6 hF hV
    have f0k : m0 k = m k := f0 k (by simp; omega)
    generalize hC : vkL n (m (k + 1)) 2 = C at w0
    have hCl := w0.2.1
    have A := ev_rel1' (fun (x : Nat) (v : Nat) => x = v ∧ x ≤ 12) (fun i v => ev (d + 5) 112 33 [.ref 47, .ref k, .ref 59, .ref 56, .int (nI v), .int (nI i)] [] (mk shC m0 q)) (fun _ v => ev (d + 5) 112 64 [.ref 47, .ref k, .ref 59, .ref 56, .int (nI v), .int (nI C.length)] [] (mk shC m0 q)) (fun i x => min x (zrK (C.getD i 0))) 0 C.length 0 (Nat.zero_le _)
      (fun x v h => ⟨v, h, by
        rw [s112_33]
        simp only [s112_35, s112_36, s112_39, s112_42, s112_44, s112_45, s112_47, s112_50, s112_53, s112_56, s112_58, s112_61, oC8_56, x_W_length oC8_56, w0.1, Option.bind_some, Option.toList_some, Option.toList_none, List.nil_append, List.cons_append, nI_irr, if_false]⟩)
      (fun i x v _ hi h => ⟨min v (zrK (C.getD i 0)), ⟨by rw [h.1], by have := h.2; omega⟩, by
        have a1 := WR_at w0 hi
        have hx := h.2
        have hxv := h.1
        have hz := zrK_le (k := C.getD i 0)
        rw [s112_33]
        simp only [s112_35, s112_36, s112_39, s112_42, s112_44, s112_45, s112_47, s112_50, s112_53, s112_56, s112_58, s112_61, oC8_56, x_W_length oC8_56, w0.1, Option.bind_some, Option.toList_some, Option.toList_none, List.nil_append, List.cons_append, nI_lt hi (show C.length < 2 ^ 31 by omega), if_true, x_W_at oC8_56 (show i < 729 by omega), a1.1, x_K_zeros, nI_add]
        rw [show ons 12 (C.getD i 0 &&& 1365) = zrK (C.getD i 0) from rfl]
        first
          | rw [nI_min' (by omega) (by omega)]
          | rw [nI_min (by omega) (by omega)]⟩) n n ⟨rfl, by omega⟩
    obtain ⟨w, ⟨hw1, hw2⟩, e1⟩ := A
    subst hw1
    obtain ⟨m1, e2, w1, s1⟩ := x_W_clear (d := d + 3) (m := m0) (q := q) oC8_59
    have wC : ∀ {m'}, sm3 59 m0 m' → WR m' 56 C := fun h => WR_fr w0 (sm3_at h (by decide)) (sm3_at h (by decide)) (sm3_at h (by decide))
    obtain ⟨⟨m2, x2⟩, ⟨w2, s2⟩, e3⟩ := ev_rel1' (fun l (v : Mem × Int32) => WR v.1 59 l ∧ sm3 59 m0 v.1) (fun i v => ev (d + 5) 112 71 [.ref 47, .ref k, .ref 59, .ref 56, .int (nI (fewO C n)), .int (nI i)] [] (mk shC v.1 q)) (fun _ v => ev (d + 5) 112 110 [.ref 47, .ref k, .ref 59, .ref 56, .int (nI (fewO C n)), .int v.2] [] (mk shC v.1 q)) (fun i l => if zrK (C.getD i 0) = fewO C n then insK l (C.getD i 0) else l) 0 C.length 0 (Nat.zero_le _)
      (fun l v h => ⟨(v.1, nI C.length), h, by
        rw [s112_71]
        simp only [s112_73, s112_74, s112_77, s112_80, s112_81, s112_83, s112_86, s112_89, s112_91, s112_94, s112_95, s112_96, s112_98, s112_101, s112_104, s112_107, oC8_56, x_W_length oC8_56, (wC h.2).1, Option.bind_some, Option.toList_some, Option.toList_none, List.nil_append, List.cons_append, nI_irr, if_false]⟩)
      (fun i l v _ hi h => by
        have a1 := WR_at (wC h.2) hi
        have hz := zrK_le (k := C.getD i 0)
        have hfw : fewO C n ≤ 12 := hw2
        obtain ⟨m3, e3, w3, s3⟩ := x_W_insert (d := d + 4) (q := q) oC8_59 h.1 a1.2
        by_cases hq : zrK (C.getD i 0) = fewO C n
        · refine ⟨(m3, v.2), ⟨by rw [if_pos hq]; exact w3, sm3_tr h.2 s3⟩, ?_⟩
          rw [s112_71]
          simp only [s112_73, s112_74, s112_77, s112_80, s112_81, s112_83, s112_86, s112_89, s112_91, s112_94, s112_95, s112_96, s112_98, s112_101, s112_104, s112_107, oC8_56, oC8_59, x_W_length oC8_56, (wC h.2).1, Option.bind_some, Option.toList_some, Option.toList_none, List.nil_append, List.cons_append, nI_lt hi (show C.length < 2 ^ 31 by omega), if_true, x_W_at oC8_56 (show i < 729 by omega), a1.1, x_K_zeros, show ons 12 (C.getD i 0 &&& 1365) = zrK (C.getD i 0) from rfl, hq, e3, nI_add]
        · refine ⟨v, ⟨by rw [if_neg hq]; exact h.1, h.2⟩, ?_⟩
          rw [s112_71]
          simp only [s112_73, s112_74, s112_77, s112_80, s112_81, s112_83, s112_86, s112_89, s112_91, s112_94, s112_95, s112_96, s112_98, s112_101, s112_104, s112_107, oC8_56, x_W_length oC8_56, (wC h.2).1, Option.bind_some, Option.toList_some, Option.toList_none, List.nil_append, List.cons_append, nI_lt hi (show C.length < 2 ^ 31 by omega), if_true, x_W_at oC8_56 (show i < 729 by omega), a1.1, x_K_zeros, show ons 12 (C.getD i 0 &&& 1365) = zrK (C.getD i 0) from rfl, nI_eq (show zrK (C.getD i 0) < 2 ^ 31 by omega) (show fewO C n < 2 ^ 31 by omega), hq, if_false, nI_add]) [] (m1, nI 0) ⟨w1, s1⟩
    have fin : topO C (fewO C n) = vkL n (m (k + 1)) 3 := by rw [← hC]; rfl
    change WR m2 59 (topO C (fewO C n)) at w2
    change sm3 59 m0 m2 at s2
    rw [fin] at w2
    have h49 : m2 49 = m0 49 := sm3_at s2 (by decide)
    refine ⟨mu m2 49 (upd (m0 49) 3 (nI 1)), ?_, ?_, ?_, ?_⟩
    · simp only [s112_0, s112_1, s112_4, s112_5, s112_6, s112_7, s112_8, s112_11, s112_12, s112_13, s112_16, s112_17, s112_18, s112_19, s112_20, s112_23, s112_24, s112_25, s112_28, s112_30, s112_31, r112, tC49, nC49, show 3 < 4 by decide, h0, nI00, if_true, e0, Option.bind_some, Option.toList_some, Option.toList_none, List.nil_append, List.cons_append, ho, x_A_size ho, f0k, hn]
      refine e1.trans ?_
      simp only [s112_64, s112_65, s112_68, s112_69, oC8_59, e2, Option.bind_some, Option.toList_some, Option.toList_none, List.nil_append, List.cons_append]
      refine e3.trans ?_
      simp only [s112_110, s112_111, s112_114, s112_115, s112_116, s112_117, s112_118, tC49, nC49, show 3 < 4 by decide, nar1, h49]
    · exact WR_fr w2 (mu_ne (by decide)) (mu_ne (by decide)) (mu_ne (by decide))
    · refine VI_set V0 (by decide) (WR_fr w2 (mu_ne (by decide)) (mu_ne (by decide)) (mu_ne (by decide))) mu_same fun j hj hj0 => ?_
      refine ⟨?_, ?_, ?_⟩ <;> rw [mu_ne (by omega), sm3_at s2 (by omega)]
    · intro c hc
      simp only [List.mem_cons, List.not_mem_nil, or_false, not_or] at hc
      rw [mu_ne hc.1, sm3_at s2 (by omega), f0 c (by simp only [List.mem_cons, List.not_mem_nil, or_false, not_or]; omega)]
  · refine ⟨m, ?_, w, hV, fr_rfl⟩
    simp only [s112_0, s112_1, s112_4, s112_5, s112_6, s112_7, s112_8, s112_11, s112_12, s112_13, s112_16, s112_17, s112_18, s112_19, s112_20, s112_23, s112_24, s112_25, s112_28, s112_30, s112_31, r112, tC49, nC49, show 3 < 4 by decide, h1, nI10, if_false]
end
