/-! composing, closed -/
theorem m341 : ((rg 0 1024).all fun a => decide (a &&& 341 = a &&& 1365)) = true := by decide +kernel
theorem cpD : ∀ d, d < 3 → ∀ e, e < 3 → ((d &&& (3 * (d &&& 1) ^^^ 3)) ||| (e &&& 3 * (d &&& 1)) = if d = 1 then e else d) ∧ 3 * (d &&& 1) < 4 ∧ (3 * (d &&& 1) ^^^ 3) < 4 ∧ (d &&& (3 * (d &&& 1) ^^^ 3)) < 4 ∧ (e &&& 3 * (d &&& 1)) < 4 := by decide
theorem o4_c : ∀ x, x < 3 → ∀ y, y < 3 → ∀ z, z < 3 → ∀ w, w < 3 → (!oqO4 x y z w || ((rg 0 3).all fun a => (rg 0 3).all fun b => (rg 0 3).all fun c => (rg 0 3).all fun d => !oqO4 a b c d || oqO4 (if x = 1 then a else x) (if y = 1 then b else y) (if z = 1 then c else z) (if w = 1 then d else w))) = true := by decide +kernel
section
variable {a b c d e n x y z k p q r s f i : Nat} {F G R : Nat → Int32} {D E : Nat → Nat} {P : Nat → Bool} {l C : List Nat} {χ : Nat → Nat → Nat → Nat} {X Y : Nat → Nat} {Q S : Nat → Prop}
theorem cpK_4 (ha : a < 1024) (hd : d < 3) (he : e < 3) : cpK (4 * a + d) (4 * b + e) = 4 * cpK a b + if d = 1 then e else d := by
  obtain ⟨h1, h2, h3, h4, h5⟩ := cpD d hd e he
  have m1 : (4 * a + d) &&& 1365 = 4 * (a &&& 1365) + (d &&& 1) := by
    rw [show (1365 : Nat) = 4 * 341 + 1 from rfl, ad_and (by omega) (by decide), of_decide_eq_true (List.all_eq_true.mp m341 a (rg_mem.mpr ⟨Nat.zero_le _, ha⟩))]
  have m2 : 3 * ((4 * a + d) &&& 1365) = 4 * (3 * (a &&& 1365)) + 3 * (d &&& 1) := by rw [m1]; omega
  have m3 : ∀ m, a &&& (m ^^^ 1073741823) = a &&& (m ^^^ 4294967295) := fun m => by
    have k1 : a &&& 1073741823 = a := Nat.and_two_pow_sub_one_of_lt_two_pow (n := 30) (by omega)
    have k2 : a &&& 4294967295 = a := Nat.and_two_pow_sub_one_of_lt_two_pow (n := 32) (by omega)
    rw [Nat.and_xor_distrib_left, Nat.and_xor_distrib_left, k1, k2]
  unfold cpK
  rw [m2, show (4294967295 : Nat) = 4 * 1073741823 + 3 from rfl, ad_xor h2 (by decide), ad_and (by omega) h3, ad_and (by omega) h2, ad_or h4 h5, h1, m3]
theorem cmC_lt : cmC n x y < 3 ^ n := cdF_lt fun _ _ => by
  split
  · exact dgN_lt
  · exact dgN_lt
theorem dg_cm (he : e < n) : dgN n (cmC n x y) e = if dgN n x e = 1 then dgN n y e else dgN n x e := dg_cd (fun _ _ => by
  split
  · exact dgN_lt
  · exact dgN_lt) he
theorem cmC_s : cmC (n + 1) x y = 3 * cmC n (x / 3) (y / 3) + if x % 3 = 1 then y % 3 else x % 3 := by
  unfold cmC
  rw [cdF_s, dgN_n, dgN_n, cdF_c (E := fun e => if dgN n (x / 3) e = 1 then dgN n (y / 3) e else dgN n (x / 3) e) fun e he => by rw [dgN_s he, dgN_s he]]
/-- keys composed -/
theorem cpK_k : ∀ {n x y : Nat}, n ≤ 6 → cpK (kK n x) (kK n y) = kK n (cmC n x y)
  | 0, x, y, _ => (show cpK 0 0 = 0 from by decide)
  | n + 1, x, y, hn => by
    have hl : kK n (x / 3) < 1024 := by
      have h1 : kK n (x / 3) < 4 ^ n := by
        have := kO_lt' (l := vN n (dgN n (x / 3))) (k := 0) fun e he => by
          have := (vN_V (n := n) (D := dgN n (x / 3)) fun _ _ => dgN_lt).2 e he
          omega
        rw [(vN_V (n := n) (D := dgN n (x / 3)) fun _ _ => dgN_lt).1] at this
        unfold kK kO
        omega
      have h2 : 4 ^ n ≤ 4 ^ 5 := Nat.pow_le_pow_right (by decide) (by omega)
      omega
    have h3 : (if x % 3 = 1 then y % 3 else x % 3) < 3 := by split <;> omega
    rw [kK_s, kK_s, cpK_4 hl (Nat.mod_lt _ (by decide)) (Nat.mod_lt _ (by decide)), cpK_k (by omega), kK_s, cmC_s]
    rw [show (3 * cmC n (x / 3) (y / 3) + if x % 3 = 1 then y % 3 else x % 3) / 3 = cmC n (x / 3) (y / 3) by omega, show (3 * cmC n (x / 3) (y / 3) + if x % 3 = 1 then y % 3 else x % 3) % 3 = if x % 3 = 1 then y % 3 else x % 3 by omega]
/-- a list of keys of codes that keep Q -/
def NQ (n : Nat) (Q : Nat → Prop) (l : List Nat) : Prop := l.Nodup ∧ ∀ k ∈ l, ∃ c, c < 3 ^ n ∧ Q c ∧ k = kK n c
theorem insK_pre : l <+: insK l k := by
  unfold insK
  split
  · exact List.prefix_rfl
  · exact List.prefix_append _ _
theorem NQ_ins (hn : n ≤ 6) (h : NQ n Q l) (hc : c < 3 ^ n) (hq : Q c) : NQ n Q (insK l (kK n c)) ∧ kK n c ∈ insK l (kK n c) := by
  obtain ⟨h1, h2⟩ := insK_m hn h.1 (fun k hk => by obtain ⟨c, h1, _, h2⟩ := h.2 k hk; exact ⟨c, h1, h2⟩) hc
  refine ⟨⟨h1, fun k hk => ?_⟩, (h2 _).mpr (Or.inr rfl)⟩
  rcases (h2 k).mp hk with hk | rfl
  · exact h.2 k hk
  · exact ⟨c, hc, hq, rfl⟩
theorem rg_get : ∀ (C : List Nat), (rg 0 C.length).map (fun i => C.getD i 0) = C := fun C => by
  apply List.ext_getElem
  · simp [rg]
  · intro i h1 h2
    simp [rg, h2]
theorem covS_f : covS C x l = C.foldl (fun l c => insK l (cpK x c)) l := by
  have h := congrArg (fun L => L.foldl (fun l c => insK l (cpK x c)) l) (rg_get C)
  rw [List.foldl_map] at h
  exact h
theorem covS_ok (hn : n ≤ 6) (hS : ∀ x y, Q x → S y → Q (cmC n x y)) (hx : Q x) : ∀ {C l : List Nat}, (∀ k ∈ C, ∃ y, y < 3 ^ n ∧ S y ∧ k = kK n y) → NQ n Q l → NQ n Q (C.foldl (fun l c => insK l (cpK (kK n x) c)) l) ∧ l <+: C.foldl (fun l c => insK l (cpK (kK n x) c)) l ∧ ∀ k ∈ C, cpK (kK n x) k ∈ C.foldl (fun l c => insK l (cpK (kK n x) c)) l
  | [], l, _, h => ⟨h, List.prefix_rfl, fun k hk => by cases hk⟩
  | c :: C, l, hC, h => by
    obtain ⟨y, hy, sy, e⟩ := hC c List.mem_cons_self
    have ec : cpK (kK n x) c = kK n (cmC n x y) := by rw [e, cpK_k hn]
    obtain ⟨h1, h2⟩ := NQ_ins hn h cmC_lt (hS x y hx sy)
    obtain ⟨g1, g2, g3⟩ := covS_ok hn hS hx (C := C) (fun k hk => hC k (List.mem_cons_of_mem _ hk)) h1
    rw [List.foldl_cons, ec]
    refine ⟨g1, List.IsPrefix.trans insK_pre g2, fun k hk => ?_⟩
    rcases List.mem_cons.mp hk with rfl | hk
    · rw [ec]
      exact g2.subset h2
    · exact g3 k hk
theorem pre_at {l r : List Nat} (h : l <+: r) (hi : i < l.length) : r.getD i 0 = l.getD i 0 ∧ i < r.length := by
  obtain ⟨t, rfl⟩ := h
  refine ⟨?_, by rw [List.length_append]; omega⟩
  rw [List.getD_eq_getElem?_getD, List.getD_eq_getElem?_getD, List.getElem?_append_left hi]
theorem at_mem (hi : i < l.length) : l.getD i 0 ∈ l := by
  rw [List.getD_eq_getElem?_getD, List.getElem?_eq_getElem hi]
  exact List.getElem_mem hi
theorem covW_ok (hn : n ≤ 6) (hS : ∀ x y, Q x → S y → Q (cmC n x y)) (hC : ∀ k ∈ C, ∃ y, y < 3 ^ n ∧ S y ∧ k = kK n y) : ∀ (f i : Nat) (l : List Nat), NQ n Q l → 729 ≤ f + i → (∀ j, j < i → j < l.length → ∀ k ∈ C, cpK (l.getD j 0) k ∈ l) → NQ n Q (covW C f i l) ∧ l <+: covW C f i l ∧ ∀ j, j < (covW C f i l).length → ∀ k ∈ C, cpK ((covW C f i l).getD j 0) k ∈ covW C f i l
  | 0, i, l, h, hf, hj => by
    have := keys_len hn h.1 fun k hk => by obtain ⟨c, h1, _, h2⟩ := h.2 k hk; exact ⟨c, h1, h2⟩
    exact ⟨h, List.prefix_rfl, fun j hjl k hk => hj j (by have hjl : j < l.length := hjl; omega) hjl k hk⟩
  | f + 1, i, l, h, hf, hj => by
    unfold covW
    by_cases hi : i < l.length
    · rw [if_pos hi, covS_f]
      obtain ⟨c, hc, qc, e⟩ := h.2 _ (at_mem hi)
      obtain ⟨g1, g2, g3⟩ := covS_ok hn hS qc hC h
      rw [← e] at g1 g2 g3
      obtain ⟨k1, k2, k3⟩ := covW_ok hn hS hC f (i + 1) _ g1 (by omega) fun j hj1 hjl k hk => by
        by_cases hji : j < i
        · rw [(pre_at g2 (by omega)).1]
          exact g2.subset (hj j hji (by omega) k hk)
        · obtain rfl : j = i := by omega
          rw [(pre_at g2 hi).1]
          exact g3 k hk
      exact ⟨k1, List.IsPrefix.trans g2 k2, k3⟩
    · rw [if_neg hi]
      exact ⟨h, List.prefix_rfl, fun j hjl k hk => hj j (by omega) hjl k hk⟩
/-- composing keeps right angles -/
theorem oqO_cm (hX : oqX χ) (hXl : ∀ f, X f < 3) (hYl : ∀ f, Y f < 3) (h1 : oqO X χ p q r s = true) (h2 : oqO Y χ p q r s = true) : oqO (fun f => if X f = 1 then Y f else X f) χ p q r s = true := by
  have L := oqX_lt hX
  have T : ∀ (u : Nat) {c}, c < 3 → oqPd (if X u = 1 then Y u else X u) c = if oqPd (X u) c = 1 then oqPd (Y u) c else oqPd (X u) c := fun u c hc => by
    have := hXl u
    have := hYl u
    generalize X u = a at *
    generalize Y u = b at *
    have D : ∀ a, a < 3 → ∀ b, b < 3 → ∀ c, c < 3 → oqPd (if a = 1 then b else a) c = if oqPd a c = 1 then oqPd b c else oqPd a c := by decide
    exact D a (by assumption) b (by assumption) c hc
  have T2 : ∀ a b : Nat, a < 3 → b < 3 → 2 - (if a = 1 then b else a) = if 2 - a = 1 then 2 - b else 2 - a := fun a b ha hb => by
    by_cases h : a = 1
    · rw [if_pos h, if_pos (by omega)]
    · rw [if_neg h, if_neg (by omega)]
  unfold oqO at h1 h2 ⊢
  rw [T p (L _ _ _), T q (L _ _ _), T r (L _ _ _), T s (L _ _ _), T2 _ _ oqPd_lt oqPd_lt, T2 _ _ oqPd_lt oqPd_lt]
  have P : ∀ a b, oqPd a b < 3 := fun _ _ => oqPd_lt
  have k := o4_c _ (P (X p) (χ q r s)) (2 - oqPd (X q) (χ p r s)) (by have := P (X q) (χ p r s); omega) _ (P (X r) (χ p q s)) (2 - oqPd (X s) (χ p q r)) (by have := P (X s) (χ p q r); omega)
  rw [h1, Bool.not_true, Bool.false_or] at k
  have M : ∀ {v}, v < 3 → v ∈ rg 0 3 := fun h => rg_mem.mpr ⟨Nat.zero_le _, h⟩
  have k := List.all_eq_true.mp (List.all_eq_true.mp (List.all_eq_true.mp (List.all_eq_true.mp k _ (M (P (Y p) (χ q r s)))) (2 - oqPd (Y q) (χ p r s)) (M (by omega))) _ (M (P (Y r) (χ p q s)))) (2 - oqPd (Y s) (χ p q r)) (M (by omega))
  rw [h2, Bool.not_true, Bool.false_or] at k
  exact k
end
