/-! vectors: by threes, and by fours -/
section
variable {a b c d e n x y z k : Nat} {F G R : Nat → Int32} {D E : Nat → Nat} {P Q : Nat → Bool} {l : List Nat}
def vN (n : Nat) (D : Nat → Nat) : List Nat := (rg 0 n).map D
theorem vN_s : vN (n + 1) D = vN n D ++ [D n] := by
  unfold vN
  rw [rg_snoc, List.map_append]
  rfl
theorem vN_c (h : ∀ e, e < n → D e = E e) : vN n D = vN n E := List.map_congr_left fun e he => h e (rg_mem.mp he).2
theorem cdF_s : cdF (n + 1) D = 3 * cdF n D + D n := by
  unfold cdF
  rw [rg_snoc, List.foldl_append]
  rfl
theorem cdF_c : ∀ {n : Nat}, (∀ e, e < n → D e = E e) → cdF n D = cdF n E
  | 0, _ => rfl
  | n + 1, h => by rw [cdF_s, cdF_s, cdF_c fun e he => h e (by omega), h n (by omega)]
theorem dgN_n : dgN (n + 1) c n = c % 3 := by
  unfold dgN
  rw [show n + 1 - 1 - n = 0 by omega, Nat.pow_zero, Nat.div_one]
theorem dgN_s (h : e < n) : dgN (n + 1) c e = dgN n (c / 3) e := by
  unfold dgN
  rw [show n + 1 - 1 - e = (n - 1 - e) + 1 by omega, Nat.pow_succ, Nat.mul_comm, ← Nat.div_div_eq_div_mul]
theorem dg_cd : ∀ {n : Nat}, (∀ e, e < n → D e < 3) → ∀ {e : Nat}, e < n → dgN n (cdF n D) e = D e
  | 0, _, _, h => absurd h (Nat.not_lt_zero _)
  | n + 1, hD, e, he => by
    have h3 := hD n (by omega)
    rw [cdF_s]
    by_cases h : e = n
    · subst h
      rw [dgN_n]
      omega
    · rw [dgN_s (by omega), show (3 * cdF n D + D n) / 3 = cdF n D by omega]
      exact dg_cd (fun e he => hD e (by omega)) (by omega)
theorem cd_dg : ∀ {n c : Nat}, c < 3 ^ n → cdF n (dgN n c) = c
  | 0, c, h => by
    rw [Nat.pow_zero] at h
    rw [show cdF 0 (dgN 0 c) = 0 from rfl]
    omega
  | n + 1, c, h => by
    rw [Nat.pow_succ] at h
    rw [cdF_s, dgN_n, cdF_c (E := dgN n (c / 3)) fun e he => dgN_s he, cd_dg (show c / 3 < 3 ^ n by omega)]
    omega
theorem cd_op : ∀ {n : Nat}, (∀ e, e < n → D e < 3) → cdF n (fun e => 2 - D e) + cdF n D + 1 = 3 ^ n
  | 0, _ => rfl
  | n + 1, hD => by
    have := cd_op (n := n) fun e he => hD e (by omega)
    have := hD n (by omega)
    rw [cdF_s, cdF_s, Nat.pow_succ]
    omega
theorem cdF_lt (hD : ∀ e, e < n → D e < 3) : cdF n D < 3 ^ n := cdF_lt' n hD
theorem cd_inj (hc : c < 3 ^ n) (hd : d < 3 ^ n) (h : ∀ e, e < n → dgN n c e = dgN n d e) : c = d := by
  rw [← cd_dg hc, ← cd_dg hd]
  exact cdF_c h
/-- a code's key -/
def kK (n c : Nat) : Nat := kO (vN n (dgN n c))
theorem kK_s : kK (n + 1) c = 4 * kK n (c / 3) + c % 3 := by
  unfold kK
  rw [vN_s, kO_sn, dgN_n, vN_c (E := dgN n (c / 3)) fun e he => dgN_s he]
theorem kK_mono : ∀ {n c d : Nat}, c < d → d < 3 ^ n → kK n c < kK n d
  | 0, c, d, h, h' => by rw [Nat.pow_zero] at h'; omega
  | n + 1, c, d, h, h' => by
    rw [Nat.pow_succ] at h'
    rw [kK_s, kK_s]
    by_cases e : c / 3 = d / 3
    · rw [e]; omega
    · have := kK_mono (n := n) (c := c / 3) (d := d / 3) (by omega) (by omega)
      omega
theorem kK_inj (hc : c < 3 ^ n) (hd : d < 3 ^ n) (h : kK n c = kK n d) : c = d := by
  by_cases h1 : c < d
  · have := kK_mono h1 hd; omega
  · by_cases h2 : d < c
    · have := kK_mono h2 hc; omega
    · omega
theorem kK_cd (hD : ∀ e, e < n → D e < 3) : kO (vN n D) = kK n (cdF n D) := by
  unfold kK
  rw [vN_c fun e he => (dg_cd hD he)]
theorem vN_V (hD : ∀ e, e < n → D e < 3) : isV n (vN n D) := by
  refine ⟨by simp [vN, rg_len], fun e he => ?_⟩
  obtain ⟨x, hx, rfl⟩ := List.mem_map.mp he
  exact hD x (rg_mem.mp hx).2
theorem kK_lt (hn : n ≤ 6) : kK n c < 4096 := kO_V (vN_V fun _ _ => dgN_lt) hn
theorem vN_op : opV (vN n D) = vN n fun e => 2 - D e := by
  unfold opV vN
  rw [List.map_map]
  rfl
theorem vN_ze : zeV n = vN n fun _ => 1 := by
  unfold zeV vN
  rw [List.map_const', rg_len, Nat.sub_zero]
def c0 (n : Nat) : Nat := cdF n fun _ => 1
theorem c0_lt : c0 n < 3 ^ n := cdF_lt fun _ _ => by decide
theorem zr_c0 : ∀ n, n < 7 → ((rg 0 (3 ^ n)).all fun c => decide (zrN n c < n) == !decide (c = c0 n)) = true := by decide +kernel
theorem zr_c (hn : n ≤ 6) (hc : c < 3 ^ n) : zrN n c < n ↔ c ≠ c0 n := by
  have h := List.all_eq_true.mp (zr_c0 n (by omega)) c (rg_mem.mpr ⟨Nat.zero_le _, hc⟩)
  rw [beq_iff_eq] at h
  by_cases e : c = c0 n
  · rw [decide_eq_true e] at h
    exact ⟨fun h' => absurd h' (of_decide_eq_false h), fun h' => absurd e h'⟩
  · rw [decide_eq_false e] at h
    exact ⟨fun _ => e, fun _ => of_decide_eq_true h⟩
theorem zr_k : ∀ n, n < 7 → ((rg 0 (3 ^ n)).all fun c => decide (zrK (kK n c) = zrN n c)) = true := by decide +kernel
theorem zrK_k (hn : n ≤ 6) (hc : c < 3 ^ n) : zrK (kK n c) = zrN n c := of_decide_eq_true (List.all_eq_true.mp (zr_k n (by omega)) c (rg_mem.mpr ⟨Nat.zero_le _, hc⟩))
/-- a list of keys holds just the codes marked -/
def CP (n : Nat) (l : List Nat) (P : Nat → Bool) : Prop := l.Nodup ∧ ∀ k, k ∈ l ↔ ∃ c, c < 3 ^ n ∧ P c = true ∧ k = kK n c
theorem CP_nil : CP n [] fP := ⟨List.nodup_nil, fun k => ⟨fun h => (by cases h), fun h => (by obtain ⟨_, _, h, _⟩ := h; cases h)⟩⟩
theorem keys_len (hn : n ≤ 6) {l : List Nat} (h : l.Nodup) (hl : ∀ k ∈ l, ∃ c, c < 3 ^ n ∧ k = kK n c) : l.length ≤ 729 := by
  have hp := p3_le n hn
  have := nd_len (l2 := (rg 0 (3 ^ n)).map (kK n)) h fun k hk => by
    obtain ⟨c, hc, e⟩ := hl k hk
    exact List.mem_map.mpr ⟨c, rg_mem.mpr ⟨Nat.zero_le _, hc⟩, e.symm⟩
  rw [List.length_map, rg_len] at this
  omega
/-- a key is set beside the others -/
theorem insK_m (hn : n ≤ 6) (h : l.Nodup) (hl : ∀ k ∈ l, ∃ c, c < 3 ^ n ∧ k = kK n c) (hc : c < 3 ^ n) : (insK l (kK n c)).Nodup ∧ ∀ k, k ∈ insK l (kK n c) ↔ k ∈ l ∨ k = kK n c := by
  by_cases hm : kK n c ∈ l
  · rw [show insK l (kK n c) = l from if_pos (Or.inl hm)]
    exact ⟨h, fun k => ⟨Or.inl, fun h => h.elim id fun e => e ▸ hm⟩⟩
  · have hlen : l.length < 729 := by
      have := keys_len (l := kK n c :: l) hn (List.nodup_cons.mpr ⟨hm, h⟩) fun k hk => by
        rcases List.mem_cons.mp hk with rfl | hk
        · exact ⟨c, hc, rfl⟩
        · exact hl k hk
      rw [List.length_cons] at this
      omega
    rw [show insK l (kK n c) = l ++ [kK n c] from if_neg (by rintro (h | h); exact hm h; omega)]
    refine ⟨List.nodup_append.mpr ⟨h, by simp, fun a ha b hb => ?_⟩, fun k => by simp⟩
    rw [List.mem_singleton] at hb
    rintro rfl
    exact hm (hb ▸ ha)
theorem CP_k (h : CP n l P) : ∀ k ∈ l, ∃ c, c < 3 ^ n ∧ k = kK n c := fun k hk => by
  obtain ⟨c, h1, _, h2⟩ := (h.2 k).mp hk
  exact ⟨c, h1, h2⟩
theorem CP_ins (hn : n ≤ 6) (h : CP n l P) (hc : c < 3 ^ n) : CP n (insK l (kK n c)) (setB P c true) := by
  obtain ⟨h1, h2⟩ := insK_m hn h.1 (CP_k h) hc
  refine ⟨h1, fun k => ?_⟩
  rw [h2, h.2]
  constructor
  · rintro (⟨d, hd, hP, rfl⟩ | rfl)
    · refine ⟨d, hd, ?_, rfl⟩
      unfold setB
      split
      · rfl
      · exact hP
    · exact ⟨c, hc, if_pos rfl, rfl⟩
  · rintro ⟨d, hd, hP, rfl⟩
    unfold setB at hP
    by_cases e : d = c
    · exact Or.inr (by rw [e])
    · rw [if_neg e] at hP
      exact Or.inl ⟨d, hd, hP, rfl⟩
theorem CP_both (hn : n ≤ 6) (h : CP n l P) (hD : ∀ e, e < n → D e < 3) : CP n (insB n l (vN n D)) (mbP n (cdF n D) P) := by
  have hc := cdF_lt hD
  have ho := cd_op hD
  unfold insB mbP
  rw [vN_op, vN_ze, kK_cd hD, kK_cd (D := fun _ => 1) fun _ _ => by decide, kK_cd (D := fun e => 2 - D e) fun e he => by omega, show cdF n (fun e => 2 - D e) = 3 ^ n - 1 - cdF n D by omega, show (cdF n fun _ => 1) = c0 n from rfl]
  by_cases e : cdF n D = c0 n
  · rw [if_pos (show kK n (cdF n D) = kK n (c0 n) by rw [e]), if_neg (fun h' => (zr_c hn hc).mp h' e)]
    exact h
  · rw [if_neg (fun h' => e (kK_inj hc c0_lt h')), if_pos ((zr_c hn hc).mpr e)]
    exact CP_ins hn (CP_ins hn h hc) (by omega)
theorem coc_CP (h : AR n F G R) (hF : AI F) (hn : n ≤ 6) : CP n (cocL n F) (cocP n R fP) := by
  unfold cocL cocP
  refine fold_rel2 (R := CP n) (fun t ht l P hl => ?_) CP_nil
  have ht := prs_mem.mp ht
  have e : cocV n F t.1 t.2 = vN n fun e => sd (mS R t.1 t.2 e) := by
    unfold cocV
    exact vN_c (D := fun e => sd (F ((t.1 * 6 + t.2) * 6 + e))) fun e he => by
      show sd (F (i6 t.1 t.2 e)) = _
      rw [AR_F h hF.2.2.2 hn (by omega) ht.2 he]
  rw [e]
  exact CP_both hn hl fun _ _ => sd_lt
theorem cir_CP (h : AR n F G R) (hF : AI F) (hn : n ≤ 6) : CP n (cirL n F) (cirP n R fP) := by
  unfold cirL cirP
  refine fold_rel2 (R := CP n) (fun t ht l P hl => ?_) CP_nil
  have ht := quad_mem.mp ht
  have e : cirV n F t.1 t.2.1 t.2.2.1 t.2.2.2 = vN n fun e => sd (cirM R t.1 t.2.1 t.2.2.1 t.2.2.2 e) := by
    unfold cirV
    refine vN_c (D := fun e => sd (cirS F t.1 t.2.1 t.2.2.1 t.2.2.2 e)) fun e he => ?_
    have k : ∀ {a b c}, a < n → b < n → c < n → F ((a * 6 + b) * 6 + c) = mS R a b c := fun ha hb hc => AR_F h hF.2.2.2 hn ha hb hc
    unfold cirS cirM
    rw [k (show t.2.1 < n by omega) (show t.2.2.1 < n by omega) ht.2.2.2, k (show t.1 < n by omega) (show t.2.2.1 < n by omega) ht.2.2.2, k (show t.1 < n by omega) (show t.2.1 < n by omega) ht.2.2.2, k (show t.1 < n by omega) (show t.2.1 < n by omega) (show t.2.2.1 < n by omega)]
    by_cases h1 : e = t.1
    · rw [if_pos h1, if_neg (show ¬ e = t.2.2.2 by omega), if_neg (show ¬ e = t.2.2.1 by omega), if_neg (show ¬ e = t.2.1 by omega), if_pos h1]
    · by_cases h2 : e = t.2.1
      · rw [if_neg h1, if_pos h2, if_neg (show ¬ e = t.2.2.2 by omega), if_neg (show ¬ e = t.2.2.1 by omega), if_pos h2]
      · by_cases h3 : e = t.2.2.1
        · rw [if_neg h1, if_neg h2, if_pos h3, if_neg (show ¬ e = t.2.2.2 by omega), if_pos h3]
        · by_cases h4 : e = t.2.2.2
          · rw [if_neg h1, if_neg h2, if_neg h3, if_pos h4, if_pos h4]
          · rw [if_neg h1, if_neg h2, if_neg h3, if_neg h4, if_neg h4, if_neg h3, if_neg h2, if_neg h1]
            rfl
  rw [e]
  exact CP_both hn hl fun _ _ => sd_lt
theorem desc_eq : ∀ {l r : List Nat}, l.Pairwise (· > ·) → r.Pairwise (· > ·) → (∀ x, x ∈ l ↔ x ∈ r) → l = r
  | [], [], _, _, _ => rfl
  | [], b :: r, _, _, h => by have := (h b).mpr List.mem_cons_self; cases this
  | a :: l, [], _, _, h => by have := (h a).mp List.mem_cons_self; cases this
  | a :: l, b :: r, h1, h2, h => by
    rw [List.pairwise_cons] at h1 h2
    have e : a = b := by
      rcases List.mem_cons.mp ((h a).mp List.mem_cons_self) with e | h3
      · exact e
      · rcases List.mem_cons.mp ((h b).mpr List.mem_cons_self) with e | h4
        · exact e.symm
        · have := h2.1 a h3
          have := h1.1 b h4
          omega
    subst e
    rw [desc_eq h1.2 h2.2 fun x => ?_]
    constructor
    · intro hx
      rcases List.mem_cons.mp ((h x).mp (List.mem_cons_of_mem _ hx)) with e | hx'
      · have := h1.1 x hx; omega
      · exact hx'
    · intro hx
      rcases List.mem_cons.mp ((h x).mpr (List.mem_cons_of_mem _ hx)) with e | hx'
      · have := h2.1 x hx; omega
      · exact hx'
theorem dsc_pw : ∀ {n : Nat}, (dsc n).Pairwise (· > ·)
  | 0 => List.Pairwise.nil
  | n + 1 => List.pairwise_cons.mpr ⟨fun _ hx => dsc_mem.mp hx, dsc_pw⟩
theorem mlD_mem {N : Nat} : x ∈ mlD N P ↔ x < N ∧ P x = true := by
  unfold mlD
  rw [List.mem_filter, dsc_mem]
theorem mlD_pw {N : Nat} : (mlD N P).Pairwise (· > ·) := List.Pairwise.filter _ dsc_pw
theorem map_pw : ∀ {l : List Nat}, (∀ c ∈ l, c < 3 ^ n) → l.Pairwise (· > ·) → (l.map (kK n)).Pairwise (· > ·)
  | [], _, _ => List.Pairwise.nil
  | a :: l, hl, h => by
    rw [List.pairwise_cons] at h
    rw [List.map_cons, List.pairwise_cons]
    refine ⟨fun k hk => ?_, map_pw (fun c hc => hl c (List.mem_cons_of_mem _ hc)) h.2⟩
    obtain ⟨c, hc, rfl⟩ := List.mem_map.mp hk
    exact kK_mono (h.1 c hc) (hl a List.mem_cons_self)
/-- sorted keys are the marked codes' keys -/
theorem srt_CP (hn : n ≤ 6) (h : CP n l P) : srt l = (mlD (3 ^ n) P).map (kK n) := by
  refine desc_eq (List.Pairwise.filter _ dsc_pw) (map_pw (fun c hc => (mlD_mem.mp hc).1) mlD_pw) fun k => ?_
  rw [srt_mem fun k hk => by obtain ⟨c, _, rfl⟩ := CP_k h k hk; exact kK_lt hn, h.2, List.mem_map]
  constructor
  · rintro ⟨c, hc, hP, rfl⟩
    exact ⟨c, mlD_mem.mpr ⟨hc, hP⟩, rfl⟩
  · rintro ⟨c, hc, rfl⟩
    have := mlD_mem.mp hc
    exact ⟨c, this.1, this.2, rfl⟩
end
