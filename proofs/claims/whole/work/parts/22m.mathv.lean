/-! the lists of vectors alike; how many -/
section
variable {a b c d e n x y z k p q r s f i w : Nat} {F G R : Nat → Int32} {D E : Nat → Nat} {P : Nat → Bool} {l C V L : List Nat} {X Y : Nat → Nat}
theorem min_f {g : Nat → Nat} : ∀ {l : List Nat} {s : Nat}, l.foldl (fun x c => min x (g c)) s ≤ s ∧ (∀ c ∈ l, l.foldl (fun x c => min x (g c)) s ≤ g c) ∧ (l.foldl (fun x c => min x (g c)) s = s ∨ ∃ c ∈ l, l.foldl (fun x c => min x (g c)) s = g c)
  | [], s => ⟨Nat.le_refl _, fun c h => (by cases h), Or.inl rfl⟩
  | a :: l, s => by
    rw [List.foldl_cons]
    obtain ⟨h1, h2, h3⟩ := min_f (g := g) (l := l) (s := min s (g a))
    refine ⟨by omega, fun c hc => ?_, ?_⟩
    · rcases List.mem_cons.mp hc with rfl | hc
      · omega
      · exact h2 c hc
    · rcases h3 with h3 | ⟨c, hc, h3⟩
      · by_cases hs : s ≤ g a
        · left; omega
        · right; exact ⟨a, List.mem_cons_self, by omega⟩
      · right; exact ⟨c, List.mem_cons_of_mem _ hc, h3⟩
theorem few_f {P : Nat → Bool} {g : Nat → Nat} : ∀ {l : List Nat} {s : Nat}, l.foldl (fun x c => if P c = true ∧ g c < x then g c else x) s = (l.filter P).foldl (fun x c => min x (g c)) s
  | [], s => rfl
  | a :: l, s => by
    rw [List.foldl_cons, few_f, List.filter_cons]
    cases hp : P a with
    | false => rw [if_neg (show ¬ (false = true ∧ g a < s) by simp), if_neg (show ¬ false = true by decide)]
    | true =>
      rw [if_pos (show true = true from rfl), List.foldl_cons]
      congr 1
      by_cases h : g a < s
      · rw [if_pos ⟨rfl, h⟩]; omega
      · rw [if_neg (fun h' => h h'.2)]; omega
theorem zr_0 (hn : n ≤ 6) : zrN n (c0 n) = n := by
  have h1 := zr_c hn (c := c0 n) c0_lt
  have h2 : ¬ zrN n (c0 n) < n := fun h => h1.mp h rfl
  have h3 := @zrN_le n (c0 n)
  omega
theorem topO_f : ∀ {V l : List Nat}, (l ++ V).Nodup → (l ++ V).length ≤ 729 → V.foldl (fun l x => if zrK x = w then insK l x else l) l = l ++ V.filter fun x => decide (zrK x = w)
  | [], l, _, _ => by simp
  | v :: V, l, h, hl => by
    have hv : v ∉ l := fun hv => (List.nodup_append.mp h).2.2 v hv v List.mem_cons_self rfl
    have hlen : l.length < 729 := by
      rw [List.length_append, List.length_cons] at hl
      omega
    rw [List.foldl_cons, List.filter_cons]
    by_cases hw : zrK v = w
    · rw [if_pos hw, show insK l v = l ++ [v] from if_neg (by rintro (h | h); exact hv h; omega), topO_f (by rw [List.append_assoc]; exact h) (by rw [List.append_assoc]; exact hl), if_pos (decide_eq_true hw), List.append_assoc]
      rfl
    · rw [if_neg hw, if_neg (show ¬ decide (zrK v = w) = true by simp [hw])]
      refine topO_f ?_ ?_
      · rw [List.nodup_append] at h ⊢
        exact ⟨h.1, (List.nodup_cons.mp h.2.1).2, fun a ha b hb => h.2.2 a ha b (List.mem_cons_of_mem _ hb)⟩
      · rw [List.length_append] at hl ⊢
        rw [List.length_cons] at hl
        omega
theorem map_nd : ∀ {l : List Nat} {g : Nat → Nat}, l.Nodup → (∀ a ∈ l, ∀ b ∈ l, g a = g b → a = b) → (l.map g).Nodup
  | [], _, _, _ => List.nodup_nil
  | a :: l, g, h, hg => by
    rw [List.nodup_cons] at h
    rw [List.map_cons, List.nodup_cons]
    refine ⟨fun hm => ?_, map_nd h.2 fun a ha b hb => hg a (List.mem_cons_of_mem _ ha) b (List.mem_cons_of_mem _ hb)⟩
    obtain ⟨b, hb, e⟩ := List.mem_map.mp hm
    have := hg b (List.mem_cons_of_mem _ hb) a List.mem_cons_self e
    exact h.1 (this ▸ hb)
theorem mlD_nd {N : Nat} : (mlD N P).Nodup := List.Pairwise.filter _ dsc_nd
theorem cov_srt (h : AR n F G R) (hF : AI F) (hn : n ≤ 6) (ho : orM n R = true) : srt (covL n F) = (mlD (3 ^ n) (covP n (cirP n R fP))).map (kK n) := srt_CP hn (cov_CP h hF hn ho)
theorem few_eq (h : AR n F G R) (hF : AI F) (hn : n ≤ 6) (ho : orM n R = true) : fewO (srt (covL n F)) n = fewM n (covP n (cirP n R fP)) := by
  have q0 : covP n (cirP n R fP) (c0 n) = true := (covP_iff h hF hn ho c0_lt).mpr fun p q r s => by
    rw [dX_c0]
    unfold oqO
    rw [oqPd_1, oqPd_1, oqPd_1, oqPd_1]
    rfl
  have e1 : fewO (srt (covL n F)) n = (mlD (3 ^ n) (covP n (cirP n R fP))).foldl (fun x c => min x (zrN n c)) n := by
    unfold fewO
    have hh := congrArg (fun L => L.foldl (fun x k => min x (zrK k)) n) (rg_get (srt (covL n F)))
    rw [List.foldl_map] at hh
    rw [hh, cov_srt h hF hn ho, List.foldl_map]
    refine fold_rel2 (R := fun (x y : Nat) => x = y) (fun c hc x y hxy => ?_) rfl
    rw [hxy, zrK_k hn (mlD_mem.mp hc).1]
  have e2 : fewM n (covP n (cirP n R fP)) = ((rg 0 (3 ^ n)).filter (covP n (cirP n R fP))).foldl (fun x c => min x (zrN n c)) 6 := few_f
  generalize covP n (cirP n R fP) = P at q0 e1 e2
  have m1 : ∀ c, c ∈ mlD (3 ^ n) P ↔ c < 3 ^ n ∧ P c = true := fun c => mlD_mem
  have m2 : ∀ c, c ∈ (rg 0 (3 ^ n)).filter P ↔ c < 3 ^ n ∧ P c = true := fun c => by
    rw [List.mem_filter, rg_mem]
    exact ⟨fun h => ⟨h.1.2, h.2⟩, fun h => ⟨⟨Nat.zero_le _, h.1⟩, h.2⟩⟩
  obtain ⟨a1, a2, a3⟩ := min_f (g := zrN n) (l := mlD (3 ^ n) P) (s := n)
  obtain ⟨b1, b2, b3⟩ := min_f (g := zrN n) (l := (rg 0 (3 ^ n)).filter P) (s := 6)
  rw [← e1] at a1 a2 a3
  rw [← e2] at b1 b2 b3
  have z0 := zr_0 hn
  have b0 := b2 (c0 n) ((m2 _).mpr ⟨c0_lt, q0⟩)
  have a0 := a2 (c0 n) ((m1 _).mpr ⟨c0_lt, q0⟩)
  have h1 : fewM n P ≤ fewO (srt (covL n F)) n := by
    rcases a3 with e | ⟨c, hc, e⟩
    · omega
    · have := b2 c ((m2 c).mpr ((m1 c).mp hc)); omega
  have h2 : fewO (srt (covL n F)) n ≤ fewM n P := by
    rcases b3 with e | ⟨c, hc, e⟩
    · omega
    · have := a2 c ((m1 c).mpr ((m2 c).mp hc)); omega
  omega
/-- the rows of vectors are the marked codes' keys -/
theorem vk_eq (h : AR n F G R) (hF : AI F) (hn : n ≤ 6) (hk : k < 4) (ho : k < 2 ∨ orM n R = true) : vkL n F k = (mlD (3 ^ n) (kiP n R k)).map (kK n) := by
  match k, hk, ho with
  | 0, _, _ => exact srt_CP hn (coc_CP h hF hn)
  | 1, _, _ => exact srt_CP hn (cir_CP h hF hn)
  | 2, _, ho => exact cov_srt h hF hn (ho.resolve_left (by decide))
  | 3, _, ho =>
    have ho := ho.resolve_left (by decide)
    show topO (srt (covL n F)) (fewO (srt (covL n F)) n) = (mlD (3 ^ n) (topP n (covP n (cirP n R fP)))).map (kK n)
    have hh := congrArg (fun L => L.foldl (fun l x => if zrK x = fewO (srt (covL n F)) n then insK l x else l) []) (rg_get (srt (covL n F)))
    rw [List.foldl_map] at hh
    have hlen : (srt (covL n F)).length ≤ 729 := by
      rw [cov_srt h hF hn ho, List.length_map]
      have h1 := nd_len (mlD_nd (N := 3 ^ n) (P := covP n (cirP n R fP))) (l2 := rg 0 (3 ^ n)) fun c hc => rg_mem.mpr ⟨Nat.zero_le _, (mlD_mem.mp hc).1⟩
      rw [rg_len] at h1
      have := p3_le n hn
      omega
    unfold topO
    rw [hh, topO_f (w := fewO (srt (covL n F)) n) (V := srt (covL n F)) (l := []) (by rw [List.nil_append]; exact srt_nd) (by rw [List.nil_append]; exact hlen), List.nil_append, few_eq h hF hn ho, cov_srt h hF hn ho, List.filter_map]
    congr 1
    unfold mlD
    rw [List.filter_filter]
    refine List.filter_congr fun c hc => ?_
    have hc := dsc_mem.mp hc
    unfold topP
    rw [if_pos hc, Bool.and_comm]
    congr 1
    show decide (zrK (kK n c) = _) = _
    rw [zrK_k hn hc]
theorem cir_30 (hn : n ≤ 6) : (mlU (3 ^ n) (cirP n R fP)).length ≤ 30 := by
  have hq : ∀ n, n < 7 → (quad n).length ≤ 15 := by decide +kernel
  have := nd_len (l := mlU (3 ^ n) (cirP n R fP)) (l2 := (quad n).map (cirC n R) ++ (quad n).map fun t => 3 ^ n - 1 - cirC n R t) (List.Pairwise.filter _ (show (rg 0 (3 ^ n)).Nodup from List.nodup_range')) fun y hy => by
    obtain ⟨_, hy⟩ := List.mem_filter.mp hy
    have hm := mbP_f (n := n) (y := y) (C := cirC n R) (l := quad n) (P := fP)
    rcases hm.mp hy with h | ⟨t, ht, _, e | e⟩
    · cases h
    · exact List.mem_append_left _ (List.mem_map.mpr ⟨t, ht, e.symm⟩)
    · exact List.mem_append_right _ (List.mem_map.mpr ⟨t, ht, e.symm⟩)
  rw [List.length_append, List.length_map, List.length_map] at this
  have := hq n (by omega)
  omega
/-- zeros fewer -/
theorem zr_le : ∀ {l : List Nat} {s t : Nat}, (∀ e ∈ l, dgN n x e = 1 → dgN n y e = 1) → s ≤ t → l.foldl (fun u e => if dgN n x e = 1 then u + 1 else u) s ≤ l.foldl (fun u e => if dgN n y e = 1 then u + 1 else u) t ∧ ((s < t ∨ ∃ e ∈ l, dgN n x e ≠ 1 ∧ dgN n y e = 1) → l.foldl (fun u e => if dgN n x e = 1 then u + 1 else u) s < l.foldl (fun u e => if dgN n y e = 1 then u + 1 else u) t)
  | [], s, t, _, h => ⟨h, fun h => h.elim id fun ⟨_, h, _⟩ => (by cases h)⟩
  | a :: l, s, t, hl, h => by
    rw [List.foldl_cons, List.foldl_cons]
    have ha := hl a List.mem_cons_self
    have ih := fun {s t} (h : s ≤ t) => zr_le (l := l) (s := s) (t := t) (fun e he => hl e (List.mem_cons_of_mem _ he)) h
    by_cases hx : dgN n x a = 1
    · rw [if_pos hx, if_pos (ha hx)]
      obtain ⟨h1, h2⟩ := ih (s := s + 1) (t := t + 1) (by omega)
      refine ⟨h1, fun hh => h2 ?_⟩
      rcases hh with hh | ⟨e, he, k1, k2⟩
      · left; omega
      · rcases List.mem_cons.mp he with rfl | he
        · exact absurd hx k1
        · exact Or.inr ⟨e, he, k1, k2⟩
    · rw [if_neg hx]
      by_cases hy : dgN n y a = 1
      · rw [if_pos hy]
        obtain ⟨h1, h2⟩ := ih (s := s) (t := t + 1) (by omega)
        exact ⟨h1, fun _ => h2 (Or.inl (by omega))⟩
      · rw [if_neg hy]
        obtain ⟨h1, h2⟩ := ih (s := s) (t := t) h
        refine ⟨h1, fun hh => h2 ?_⟩
        rcases hh with hh | ⟨e, he, k1, k2⟩
        · exact Or.inl hh
        · rcases List.mem_cons.mp he with rfl | he
          · exact absurd k2 hy
          · exact Or.inr ⟨e, he, k1, k2⟩
def bvN (n c : Nat) : Nat := (rg 0 n).foldl (fun x e => 2 * x + dgN n c e / 2) 0
theorem bv_l : ∀ {l : List Nat} {s t : Nat}, l.foldl (fun u e => 2 * u + dgN n x e / 2) s = l.foldl (fun u e => 2 * u + dgN n y e / 2) t → s = t ∧ ∀ e ∈ l, dgN n x e / 2 = dgN n y e / 2
  | [], s, t, h => ⟨h, fun e he => (by cases he)⟩
  | a :: l, s, t, h => by
    rw [List.foldl_cons, List.foldl_cons] at h
    obtain ⟨h1, h2⟩ := bv_l h
    have := @dgN_lt n x a
    have := @dgN_lt n y a
    refine ⟨by omega, fun e he => ?_⟩
    rcases List.mem_cons.mp he with rfl | he
    · omega
    · exact h2 e he
theorem bv_lt : ∀ {l : List Nat} {s : Nat}, l.foldl (fun u e => 2 * u + dgN n x e / 2) s < (s + 1) * 2 ^ l.length
  | [], s => by simp
  | a :: l, s => by
    rw [List.foldl_cons, List.length_cons, Nat.pow_succ, Nat.mul_comm (2 ^ l.length) 2, ← Nat.mul_assoc]
    have := @dgN_lt n x a
    exact Nat.lt_of_lt_of_le bv_lt (Nat.mul_le_mul_right _ (by omega))
/-- all topes have their zeros at the same places -/
theorem tope_z (h : AR n F G R) (hF : AI F) (hn : n ≤ 6) (ho : orM n R = true) (hx : x ∈ mlD (3 ^ n) (kiP n R 3)) (hy : y ∈ mlD (3 ^ n) (kiP n R 3)) (he : e < n) (h1 : dgN n x e = 1) : dgN n y e = 1 := by
  have T : ∀ {x}, x ∈ mlD (3 ^ n) (kiP n R 3) → x < 3 ^ n ∧ covP n (cirP n R fP) x = true ∧ zrN n x = fewM n (covP n (cirP n R fP)) := fun {x} hx => by
    obtain ⟨k1, k2⟩ := mlD_mem.mp hx
    have k2 : topP n (covP n (cirP n R fP)) x = true := k2
    unfold topP at k2
    rw [if_pos k1, Bool.and_eq_true_iff] at k2
    exact ⟨k1, k2.1, of_decide_eq_true k2.2⟩
  obtain ⟨x1, x2, x3⟩ := T hx
  obtain ⟨y1, y2, y3⟩ := T hy
  refine Classical.byContradiction fun h2 => ?_
  have hX := xiM_X h hF hn ho
  have hz : covP n (cirP n R fP) (cmC n x y) = true := (covP_iff h hF hn ho cmC_lt).mpr fun p q r s => by
    rw [dX_cm]
    exact oqO_cm hX (fun _ => dX_lt) (fun _ => dX_lt) ((covP_iff h hF hn ho x1).mp x2 p q r s) ((covP_iff h hF hn ho y1).mp y2 p q r s)
  have e2 : fewM n (covP n (cirP n R fP)) = ((rg 0 (3 ^ n)).filter (covP n (cirP n R fP))).foldl (fun x c => min x (zrN n c)) 6 := few_f
  have b2 := (min_f (g := zrN n) (l := (rg 0 (3 ^ n)).filter (covP n (cirP n R fP))) (s := 6)).2.1 (cmC n x y) (List.mem_filter.mpr ⟨rg_mem.mpr ⟨Nat.zero_le _, cmC_lt⟩, hz⟩)
  rw [← e2] at b2
  have := (zr_le (n := n) (x := cmC n x y) (y := x) (l := rg 0 n) (s := 0) (t := 0) (fun e he k => by
    rw [dg_cm (rg_mem.mp he).2] at k
    by_cases hx : dgN n x e = 1
    · exact hx
    · rw [if_neg hx] at k
      exact k) (Nat.le_refl 0)).2 (Or.inr ⟨e, rg_mem.mpr ⟨Nat.zero_le _, he⟩, by rw [dg_cm he, if_pos h1]; exact h2, h1⟩)
  have this : zrN n (cmC n x y) < zrN n x := this
  omega
theorem tope_64 (h : AR n F G R) (hF : AI F) (hn : n ≤ 6) (ho : orM n R = true) : (mlD (3 ^ n) (kiP n R 3)).length ≤ 64 := by
  have hnd := map_nd (g := bvN n) (mlD_nd (N := 3 ^ n) (P := kiP n R 3)) fun x hx y hy hxy => by
    have hb := (bv_l hxy).2
    refine cd_inj (mlD_mem.mp hx).1 (mlD_mem.mp hy).1 fun e he => ?_
    have h1 := tope_z h hF hn ho hx hy he
    have h2 := tope_z h hF hn ho hy hx he
    have h3 := hb e (rg_mem.mpr ⟨Nat.zero_le _, he⟩)
    have := @dgN_lt n x e
    have := @dgN_lt n y e
    omega
  have hl := nd_len (l2 := rg 0 64) hnd fun v hv => by
    obtain ⟨c, _, rfl⟩ := List.mem_map.mp hv
    have h1 := bv_lt (n := n) (x := c) (l := rg 0 n) (s := 0)
    rw [rg_len] at h1
    have h2 : 2 ^ (n - 0) ≤ 2 ^ 6 := Nat.pow_le_pow_right (by decide) (by omega)
    refine rg_mem.mpr ⟨Nat.zero_le _, ?_⟩
    unfold bvN
    omega
  rw [List.length_map, rg_len] at hl
  exact hl
end
