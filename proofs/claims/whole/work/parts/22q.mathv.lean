/-! steps from tope to tope; the answers of vectors alike -/
section
variable {a b c d e n x y z k f i j t u w v L s r : Nat} {F G R : Nat → Int32} {T : List Nat} {X : Nat → Nat} {P : Nat → Bool}
theorem nI_mm (h : d < 1000) : nI d ≠ -1 := fun e => by
  have h2 : ¬ nI d < 0 := by
    rw [show (0 : Int32) = nI 0 from rfl, nI_ltI (by omega) (by decide)]
    omega
  rw [e] at h2
  exact h2 (by decide)
theorem nI_ii (hd : d < 1000) (he : e < 1000) (h : nI d = nI e) : d = e := (nI_eq (show d < 2 ^ 31 by omega) (show e < 2 ^ 31 by omega)).mp h
theorem nt_tb : (ntA X L r).testBit j = (rg 0 L).any fun i => r.testBit i && (X i).testBit j := by
  unfold ntA
  have : ∀ (l : List Nat) (s : Nat), (l.foldl (fun s i => if r.testBit i = true then s ||| X i else s) s).testBit j = (s.testBit j || l.any fun i => r.testBit i && (X i).testBit j) := by
    intro l
    induction l with
    | nil => intro s; simp
    | cons a l ih =>
      intro s
      rw [List.foldl_cons, ih, List.any_cons]
      cases h : r.testBit a with
      | true => rw [if_pos rfl, Nat.testBit_or, Bool.true_and, Bool.or_assoc]
      | false => rw [if_neg (by decide), Bool.false_and, Bool.false_or]
  rw [this, Nat.zero_testBit, Bool.false_or]
/-- where nothing more is reached -/
theorem stp_no (hu : u < L) : ∀ (f s r : Nat), (∀ i, i < L → r.testBit i = true → ∀ j, j < L → (X i).testBit j = true → r.testBit j = true) → r.testBit u = false → stpO X L u f s r = -1
  | 0, _, _, _, _ => rfl
  | f + 1, s, r, hc, hn => by
    have e : ∀ j, j < L → (r ||| ntA X L r).testBit j = r.testBit j := fun j hj => by
      rw [Nat.testBit_or, nt_tb]
      cases hr : r.testBit j with
      | true => rfl
      | false =>
        rw [Bool.false_or, List.any_eq_false]
        intro i hi h
        rw [Bool.and_eq_true_iff] at h
        have := hc i (rg_mem.mp hi).2 h.1 j hj h.2
        rw [hr] at this
        cases this
    unfold stpO
    rw [if_neg (by rw [hn]; decide)]
    exact stp_no hu f (s + 1) _ (fun i hi h j hj hx => by rw [e j hj]; rw [e i hi] at h; exact hc i hi h j hj hx) (by rw [e u hu]; exact hn)
theorem stB_f (hs : s < 900) {F : Nat → Int32} (ha : F a = nI s) : ∀ N, ∀ k, ((rg 0 N).foldl (fun F b => upd F b (if F b = -1 ∧ nxM n T b a = true then nI (s + 1) else F b)) F) k = if k < N ∧ F k = -1 ∧ nxM n T k a = true then nI (s + 1) else F k
  | 0, k => by rw [if_neg (fun h => absurd h.1 (Nat.not_lt_zero k))]; rfl
  | N + 1, k => by
    rw [rg_snoc, List.foldl_append, List.foldl_cons, List.foldl_nil]
    have ih := stB_f hs ha N
    generalize (rg 0 N).foldl (fun F b => upd F b (if F b = -1 ∧ nxM n T b a = true then nI (s + 1) else F b)) F = H at ih
    simp only [upd]
    by_cases h : k = N
    · subst h
      have hk := ih k
      rw [if_neg (fun h => absurd h.1 (Nat.lt_irrefl k))] at hk
      rw [if_pos rfl, hk]
      by_cases h2 : F k = -1 ∧ nxM n T k a = true
      · rw [if_pos h2, if_pos ⟨Nat.lt_succ_self k, h2⟩]
      · rw [if_neg h2, if_neg (fun h => h2 h.2)]
    · rw [if_neg h, ih k]
      by_cases h2 : k < N ∧ F k = -1 ∧ nxM n T k a = true
      · rw [if_pos h2, if_pos ⟨by omega, h2.2⟩]
      · rw [if_neg h2, if_neg (fun h3 => h2 ⟨by omega, h3.2⟩)]
/-- a round marks what is next to the last marked -/
theorem stA_f (hs : s < 900) {F : Nat → Int32} : ∀ N, N ≤ T.length → ∀ k, k < T.length → ((rg 0 N).foldl (fun F a => stB n T s a F) F) k = if F k = -1 ∧ ((rg 0 N).any fun a => decide (F a = nI s) && nxM n T k a) = true then nI (s + 1) else F k
  | 0, _, k, _ => by rw [if_neg (fun h => by cases h.2)]; rfl
  | N + 1, hN, k, hk => by
    rw [rg_snoc, List.foldl_append, List.foldl_cons, List.foldl_nil, List.any_append, List.any_cons, List.any_nil, Bool.or_false]
    have ihN := stA_f hs (F := F) N (by omega)
    have hFN := ihN N (by omega)
    generalize (rg 0 N).foldl (fun F a => stB n T s a F) F = H at ihN hFN
    have ih := ihN k hk
    have eN : H N = nI s ↔ F N = nI s := by
      by_cases h : F N = -1 ∧ ((rg 0 N).any fun a => decide (F a = nI s) && nxM n T N a) = true
      · rw [if_pos h] at hFN
        rw [hFN, h.1]
        exact ⟨fun h => by have := nI_ii (show s + 1 < 1000 by omega) (show s < 1000 by omega) h; omega, fun h => absurd h.symm (nI_mm (show s < 1000 by omega))⟩
      · rw [if_neg h] at hFN
        rw [hFN]
    generalize ((rg 0 N).any fun a => decide (F a = nI s) && nxM n T k a) = C at ih
    have hm : nI (s + 1) ≠ -1 := nI_mm (show s + 1 < 1000 by omega)
    unfold stB
    by_cases hH : H N = nI s
    · rw [if_pos hH, stB_f hs hH, decide_eq_true (eN.mp hH), Bool.true_and]
      generalize nxM n T k N = q
      by_cases h1 : F k = -1
      · cases C with
        | true =>
          rw [if_pos ⟨h1, rfl⟩] at ih
          rw [ih, if_neg (fun h => hm h.2.1), if_pos ⟨h1, rfl⟩]
        | false =>
          rw [if_neg (fun h => by cases h.2)] at ih
          rw [ih, Bool.false_or]
          cases q with
          | true => rw [if_pos ⟨hk, h1, rfl⟩, if_pos ⟨h1, rfl⟩]
          | false => rw [if_neg (fun h => by cases h.2.2), if_neg (fun h => by cases h.2)]
      · rw [if_neg (fun h => h1 h.1)] at ih
        rw [ih, if_neg (fun h => h1 h.2.1), if_neg (fun h => h1 h.1)]
    · rw [if_neg hH, decide_eq_false (fun h => hH (eN.mpr h)), Bool.false_and, Bool.or_false]
      exact ih
/-- the class's set and the model's numbers after s rounds -/
def stI (n : Nat) (T : List Nat) (s : Nat) (F : Nat → Int32) (r : Nat) : Prop := (∀ k, k < T.length → (F k = -1 ∧ r.testBit k = false) ∨ ∃ d, d ≤ s ∧ F k = nI d ∧ r.testBit k = true) ∧ (∀ a d k, a < T.length → k < T.length → d < s → F a = nI d → nxM n T k a = true → r.testBit k = true) ∧ ∀ a, a < T.length → F a = nI s → ∀ d, d ≤ s → ∃ a, a < T.length ∧ F a = nI d
theorem stI_s {F : Nat → Int32} (hX : ∀ a k, a < T.length → k < T.length → (X a).testBit k = nxM n T k a) (hs : s < 900) (h : stI n T s F r) : stI n T (s + 1) (stA n T s F) (r ||| ntA X T.length r) := by
  obtain ⟨h1, h2, h3⟩ := h
  have hm : nI (s + 1) ≠ -1 := nI_mm (show s + 1 < 1000 by omega)
  have hF : ∀ k, k < T.length → stA n T s F k = if F k = -1 ∧ ((rg 0 T.length).any fun a => decide (F a = nI s) && nxM n T k a) = true then nI (s + 1) else F k := fun k hk => stA_f hs T.length (Nat.le_refl _) k hk
  have hR : ∀ k, k < T.length → (r ||| ntA X T.length r).testBit k = (r.testBit k || (rg 0 T.length).any fun a => decide (F a = nI s) && nxM n T k a) := fun k hk => by
    rw [Nat.testBit_or, nt_tb]
    cases hr : r.testBit k with
    | true => rfl
    | false =>
      rw [Bool.false_or, Bool.false_or]
      refine any_congr fun a ha => ?_
      have ha := (rg_mem.mp ha).2
      rw [hX a k ha hk]
      rcases h1 a ha with ⟨g1, g2⟩ | ⟨d, g0, g1, g2⟩
      · rw [g2, g1, decide_eq_false (fun h => nI_mm (show s < 1000 by omega) h.symm)]
      · rw [g2, Bool.true_and]
        by_cases hd : d = s
        · rw [g1, hd, decide_eq_true rfl, Bool.true_and]
        · rw [decide_eq_false (fun h => hd (nI_ii (show d < 1000 by omega) (show s < 1000 by omega) (g1.symm.trans h))), Bool.false_and]
          cases hn : nxM n T k a with
          | false => rfl
          | true =>
            have := h2 a d k ha hk (by omega) g1 hn
            rw [hr] at this
            cases this
  refine ⟨fun k hk => ?_, fun a d k ha hk hd hFa hn => ?_, fun a ha hFa d hd => ?_⟩
  · rw [hF k hk, hR k hk]
    rcases h1 k hk with ⟨g1, g2⟩ | ⟨d, g0, g1, g2⟩
    · rw [g2, g1, Bool.false_or]
      cases (rg 0 T.length).any fun a => decide (F a = nI s) && nxM n T k a with
      | true => exact Or.inr ⟨s + 1, Nat.le_refl _, if_pos ⟨rfl, rfl⟩, rfl⟩
      | false => exact Or.inl ⟨if_neg (fun h => by cases h.2), rfl⟩
    · rw [g2, Bool.true_or, if_neg (fun h => nI_mm (show d < 1000 by omega) (g1.symm.trans h.1))]
      exact Or.inr ⟨d, by omega, g1, rfl⟩
  · rw [hF a ha] at hFa
    rw [hR k hk]
    by_cases hc : F a = -1 ∧ ((rg 0 T.length).any fun b => decide (F b = nI s) && nxM n T a b) = true
    · rw [if_pos hc] at hFa
      have := nI_ii (show s + 1 < 1000 by omega) (show d < 1000 by omega) hFa
      omega
    · rw [if_neg hc] at hFa
      by_cases hds : d = s
      · rw [Bool.or_eq_true]
        exact Or.inr (List.any_eq_true.mpr ⟨a, rg_mem.mpr ⟨Nat.zero_le _, ha⟩, by rw [hFa, hds, decide_eq_true rfl, hn]; rfl⟩)
      · rw [h2 a d k ha hk (by omega) hFa hn, Bool.true_or]
  · have keep : ∀ {b d}, b < T.length → F b = nI d → d < 1000 → stA n T s F b = nI d := fun {b d} hb hFb hd => by
      rw [hF b hb, if_neg (fun h => nI_mm hd (hFb.symm.trans h.1)), hFb]
    by_cases hds : d = s + 1
    · exact ⟨a, ha, by rw [hds]; exact hFa⟩
    · rw [hF a ha] at hFa
      by_cases hc : F a = -1 ∧ ((rg 0 T.length).any fun b => decide (F b = nI s) && nxM n T a b) = true
      · obtain ⟨b, hb, hb2⟩ := List.any_eq_true.mp hc.2
        rw [Bool.and_eq_true_iff] at hb2
        obtain ⟨c, hc1, hc2⟩ := h3 b (rg_mem.mp hb).2 (of_decide_eq_true hb2.1) d (by omega)
        exact ⟨c, hc1, keep hc1 hc2 (by omega)⟩
      · rw [if_neg hc] at hFa
        rcases h1 a ha with ⟨g1, _⟩ | ⟨d', g0, g1, _⟩
        · exact absurd (hFa.symm.trans g1) hm
        · have := nI_ii (show s + 1 < 1000 by omega) (show d' < 1000 by omega) (hFa.symm.trans g1)
          omega
theorem st_eq (hX : ∀ a k, a < T.length → k < T.length → (X a).testBit k = nxM n T k a) (hL : T.length ≤ 64) (hu : u < T.length) : ∀ (k s : Nat) (F : Nat → Int32) (r f : Nat), k + s = T.length → f + s = 64 → stI n T s F r → (F u = -1 ∨ F u = nI s) → stpO X T.length u f s r = stW n T u k s F u
  | 0, s, F, r, f, hk, hf, h, hFu => by
    show _ = F u
    obtain ⟨h1, h2, h3⟩ := h
    rcases hFu with hFu | hFu
    · rw [hFu]
      have hr : r.testBit u = false := by
        rcases h1 u hu with ⟨_, g⟩ | ⟨d, g0, g1, g2⟩
        · exact g
        · exact absurd (g1.symm.trans hFu) (nI_mm (by omega))
      -- the last round marked nothing
      have hno : ∀ a, a < T.length → F a ≠ nI s := fun a ha hFa => by
        have hex := h3 a ha hFa
        obtain ⟨g, hg⟩ : ∃ g : Nat → Nat, ∀ d, d ≤ s → g d < T.length ∧ F (g d) = nI d := ⟨fun d => if hd : d ≤ s then Classical.choose (hex d hd) else 0, fun d hd => by
          dsimp only
          rw [dif_pos hd]
          exact Classical.choose_spec (hex d hd)⟩
        have hnd := map_nd (g := g) (l := rg 0 (s + 1)) List.nodup_range' fun x hx y hy hxy => by
          have hx := (rg_mem.mp hx).2
          have hy := (rg_mem.mp hy).2
          have e1 := (hg x (by omega)).2
          have e2 := (hg y (by omega)).2
          rw [hxy, e2] at e1
          exact (nI_ii (by omega) (by omega) e1).symm
        have hl := nd_len (l2 := rg 0 T.length) hnd fun v hv => by
          obtain ⟨d, hd, rfl⟩ := List.mem_map.mp hv
          exact rg_mem.mpr ⟨Nat.zero_le _, (hg d (by have := (rg_mem.mp hd).2; omega)).1⟩
        rw [List.length_map, rg_len, rg_len] at hl
        omega
      refine stp_no hu f s r (fun i hi hr j hj hx => ?_) hr
      rw [hX i j hi hj] at hx
      rcases h1 i hi with ⟨_, g⟩ | ⟨d, g0, g1, g2⟩
      · rw [g] at hr
        cases hr
      · by_cases hd : d = s
        · exact absurd (hd ▸ g1) (hno i hi)
        · exact h2 i d j hi hj (by omega) g1 hx
    · -- marked in the very last round: too many
      rcases h1 u hu with ⟨g, _⟩ | ⟨d, g0, g1, g2⟩
      · exact absurd (hFu.symm.trans g) (nI_mm (by omega))
      · obtain ⟨g, hg⟩ : ∃ g : Nat → Nat, ∀ d, d ≤ s → g d < T.length ∧ F (g d) = nI d := ⟨fun d => if hd : d ≤ s then Classical.choose (h3 u hu hFu d hd) else 0, fun d hd => by
          dsimp only
          rw [dif_pos hd]
          exact Classical.choose_spec (h3 u hu hFu d hd)⟩
        have hnd := map_nd (g := g) (l := rg 0 (s + 1)) List.nodup_range' fun x hx y hy hxy => by
          have hx := (rg_mem.mp hx).2
          have hy := (rg_mem.mp hy).2
          have e1 := (hg x (by omega)).2
          have e2 := (hg y (by omega)).2
          rw [hxy, e2] at e1
          exact (nI_ii (by omega) (by omega) e1).symm
        have hl := nd_len (l2 := rg 0 T.length) hnd fun v hv => by
          obtain ⟨d, hd, rfl⟩ := List.mem_map.mp hv
          exact rg_mem.mpr ⟨Nat.zero_le _, (hg d (by have := (rg_mem.mp hd).2; omega)).1⟩
        rw [List.length_map, rg_len, rg_len] at hl
        omega
  | k + 1, s, F, r, 0, hk, hf, h, hFu => by omega
  | k + 1, s, F, r, f + 1, hk, hf, h, hFu => by
    have h1 := h.1 u hu
    unfold stpO stW
    rcases hFu with hFu | hFu
    · have hr : r.testBit u = false := by
        rcases h1 with ⟨_, g⟩ | ⟨d, g0, g1, g2⟩
        · exact g
        · exact absurd (g1.symm.trans hFu) (nI_mm (by omega))
      rw [if_neg (by rw [hr]; decide), if_pos hFu]
      refine st_eq hX hL hu k (s + 1) _ _ f (by omega) (by omega) (stI_s hX (by omega) h) ?_
      have hF : stA n T s F u = if F u = -1 ∧ ((rg 0 T.length).any fun a => decide (F a = nI s) && nxM n T u a) = true then nI (s + 1) else F u := stA_f (by omega) T.length (Nat.le_refl _) u hu
      rw [hF]
      split
      · exact Or.inr rfl
      · exact Or.inl hFu
    · have hr : r.testBit u = true := by
        rcases h1 with ⟨g, _⟩ | ⟨d, g0, g1, g2⟩
        · exact absurd (hFu.symm.trans g) (nI_mm (by omega))
        · exact g2
      rw [if_pos hr, if_neg (fun h => nI_mm (show s < 1000 by omega) (hFu.symm.trans h)), hFu]
theorem stI_0 {F : Nat → Int32} (hL : T.length ≤ 64) (ht : t < T.length) (hF : ∀ k, k < 64 → F k = far0 t k) : stI n T 0 F (2 ^ t) := by
  refine ⟨fun k hk => ?_, fun a d k _ _ hd => absurd hd (Nat.not_lt_zero d), fun a ha hFa d hd => ⟨a, ha, by rw [hFa, show d = 0 by omega]⟩⟩
  rw [hF k (by omega), Nat.testBit_two_pow]
  unfold far0
  by_cases h : k = t
  · rw [if_pos h, decide_eq_true h.symm]
    exact Or.inr ⟨0, Nat.le_refl _, rfl, rfl⟩
  · rw [if_neg h, decide_eq_false (fun h' => h h'.symm)]
    exact Or.inl ⟨rfl, rfl⟩
end
