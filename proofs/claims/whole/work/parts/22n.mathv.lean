/-! in how many ways one more: alike -/
abbrev exW : Type := Nat → Nat → Int32
def exV (V : exW) (p : Nat × Nat) (s : Int32) : exW := fun x y => if (x, y) = p then s else V x y
def exG (g : exW → Int32) : List (Nat × Nat) → exW → Int32
  | [], V => g V
  | p :: l, V => ((nI 0 + exG g l (exV V p (-1))) + exG g l (exV V p (nI 0))) + exG g l (exV V p (nI 1))
def exT : List (Nat × Nat) → Nat → exW → exW
  | [], _, V => V
  | p :: l, c, V => exT l (c / 3) (exV V p (nI (c % 3) - nI 1))
theorem pTi_b : ((trip 6).all fun t => (trip 6).all fun u => !decide (pT t.1 t.2.1 t.2.2 = pT u.1 u.2.1 u.2.2) || decide (t = u)) = true := by decide +kernel
section
variable {a b c d e n x y z k v w f : Nat} {F G R R1 R2 : Nat → Int32} {V W : exW} {l : List (Nat × Nat)} {p : Nat × Nat} {s : Int32}
theorem pT_i (h1 : a < b) (h2 : b < c) (h3 : c < 6) (g1 : x < y) (g2 : y < z) (g3 : z < 6) : pT x y z = pT a b c ↔ x = a ∧ y = b ∧ z = c := by
  constructor
  · intro h
    have h := List.all_eq_true.mp (List.all_eq_true.mp pTi_b (x, y, z) (trip_mem.mpr ⟨g1, g2, g3⟩)) (a, b, c) (trip_mem.mpr ⟨h1, h2, h3⟩)
    dsimp only at h
    rw [decide_eq_true (by assumption), Bool.not_true, Bool.false_or] at h
    have h := of_decide_eq_true h
    simp only [Prod.mk.injEq] at h
    exact h
  · rintro ⟨rfl, rfl, rfl⟩
    rfl
theorem sumC_3 {h : Nat → Int32} : ∀ N, (rg 0 (3 * N)).foldl (fun x c => x + h c) (nI 0) = ((nI 0 + (rg 0 N).foldl (fun x c => x + h (3 * c)) (nI 0)) + (rg 0 N).foldl (fun x c => x + h (3 * c + 1)) (nI 0)) + (rg 0 N).foldl (fun x c => x + h (3 * c + 2)) (nI 0)
  | 0 => rfl
  | N + 1 => by
    rw [show 3 * (N + 1) = 3 * N + 2 + 1 from rfl, rg_snoc, rg_snoc, rg_snoc, rg_snoc]
    simp only [List.foldl_append, List.foldl_cons, List.foldl_nil]
    rw [sumC_3 N]
    ac_rfl
theorem sumC_x {h : Nat → Int32} {l : List Nat} : ∀ {x : Int32}, l.foldl (fun x c => x + h c) x = x + l.foldl (fun x c => x + h c) (nI 0) := by
  induction l with
  | nil => exact fun {x} => (Int32.add_zero x).symm
  | cons a l ih =>
    intro x
    rw [List.foldl_cons, List.foldl_cons, ih, ih (x := nI 0 + h a), show nI 0 + h a = h a from Int32.zero_add _, Int32.add_assoc]
theorem exG_s {g : exW → Int32} : ∀ {l : List (Nat × Nat)} {V : exW}, (rg 0 (3 ^ l.length)).foldl (fun x c => x + g (exT l c V)) (nI 0) = exG g l V
  | [], V => by
    show (nI 0 + g V) = g V
    exact Int32.zero_add _
  | p :: l, V => by
    have e : ∀ s, s < 3 → (rg 0 (3 ^ l.length)).foldl (fun x c => x + g (exT (p :: l) (3 * c + s) V)) (nI 0) = exG g l (exV V p (nI s - nI 1)) := fun s hs => by
      rw [← exG_s (l := l)]
      congr 1
      funext x c
      rw [show exT (p :: l) (3 * c + s) V = exT l ((3 * c + s) / 3) (exV V p (nI ((3 * c + s) % 3) - nI 1)) from rfl, show (3 * c + s) / 3 = c by omega, show (3 * c + s) % 3 = s by omega]
    have e0 := e 0 (by decide)
    have e1 := e 1 (by decide)
    have e2 := e 2 (by decide)
    rw [List.length_cons, Nat.pow_succ, Nat.mul_comm, sumC_3, e1, e2]
    rw [show (fun (x : Int32) c => x + g (exT (p :: l) (3 * c) V)) = fun x c => x + g (exT (p :: l) (3 * c + 0) V) from rfl, e0]
    rfl
theorem exT_n : ∀ {l : List (Nat × Nat)} {c : Nat} {V : exW}, ¬ (x, y) ∈ l → exT l c V x y = V x y
  | [], _, _, _ => rfl
  | p :: l, c, V, h => by
    rw [List.mem_cons, not_or] at h
    rw [show exT (p :: l) c V = exT l (c / 3) (exV V p (nI (c % 3) - nI 1)) from rfl, exT_n h.2]
    exact if_neg h.1
theorem exT_i : ∀ {l : List (Nat × Nat)} {c : Nat} {V W : exW}, (x, y) ∈ l → exT l c V x y = exT l c W x y
  | [], _, _, _, h => by cases h
  | p :: l, c, V, W, h => by
    show exT l (c / 3) (exV V p _) x y = exT l (c / 3) (exV W p _) x y
    by_cases hl : (x, y) ∈ l
    · exact exT_i hl
    · rw [exT_n hl, exT_n hl]
      have := (List.mem_cons.mp h).resolve_right hl
      unfold exV
      rw [if_pos this, if_pos this]
theorem exT_sg : ∀ {l : List (Nat × Nat)} {c : Nat} {V : exW}, (∀ x y, isSg (V x y)) → ∀ x y, isSg (exT l c V x y)
  | [], _, _, h, x, y => h x y
  | p :: l, c, V, h, x, y => by
    refine exT_sg (l := l) (fun x y => ?_) x y
    unfold exV
    split
    · have : ∀ a, a < 3 → isSg (nI a - nI 1) := fun a ha => by
        unfold isSg
        match a, ha with
        | 0, _ => exact Or.inl (by decide)
        | 1, _ => exact Or.inr (Or.inl (by decide))
        | 2, _ => exact Or.inr (Or.inr (by decide))
      exact this _ (Nat.mod_lt _ (by decide))
    · exact h x y
/-- the class's signs that a row tells -/
def clF (R : Nat → Int32) (i : Nat) : Int32 := if i < 216 then mS R (i / 36) (i / 6 % 6) (i % 6) else 0
theorem clF_at (ha : a < 6) (hb : b < 6) (hc : c < 6) : clF R (i6 a b c) = mS R a b c := by
  unfold clF i6
  rw [if_pos (by omega), show ((a * 6 + b) * 6 + c) / 36 = a by omega, show ((a * 6 + b) * 6 + c) / 6 % 6 = b by omega, show ((a * 6 + b) * 6 + c) % 6 = c by omega]
theorem clF_AI (h : isSR R) : AI (clF R) := by
  refine ⟨fun i hi => ?_, ⟨R, fun a b c ha hb hc _ _ => clF_at ha hb hc⟩, fun i hi => if_neg (by omega), fun a b c ha hb hc hd => ?_⟩
  · unfold clF
    rw [if_pos hi]
    exact h _ _ _ (by omega) (by omega) (by omega)
  · rw [clF_at ha hb hc]
    unfold mS
    rw [(tO_0 a ha b hb c hc).mpr hd, Int32.zero_mul]
/-- what is orderly hangs on the signs alone -/
theorem orM_c (hn : n ≤ 6) (h1 : R1 0 = nI n) (h2 : R2 0 = nI n) (hs : isSR R1) (h : ∀ a b c, a < b → b < c → c < n → mS R1 a b c = mS R2 a b c) : orM n R1 = orM n R2 := by
  have A := clF_AI hs
  have k : ∀ {R}, R 0 = nI n → (∀ a b c, a < b → b < c → c < n → mS R1 a b c = mS R a b c) → ∃ G, AR n (clF R1) G R := fun {R} h0 h => ⟨fun k => mco R (k / 3) (k % 3), AR_rise h0 hn A.2.1 (fun a b c g1 g2 g3 => by rw [clF_at (by omega) (by omega) (by omega)]; exact h a b c g1 g2 g3) fun e i _ hi => by
    show mco R ((e * 3 + i) / 3) ((e * 3 + i) % 3) = _
    rw [show (e * 3 + i) / 3 = e by omega, show (e * 3 + i) % 3 = i by omega]⟩
  obtain ⟨G1, g1⟩ := k h1 fun _ _ _ _ _ _ => rfl
  obtain ⟨G2, g2⟩ := k h2 h
  rw [← or_eq g1 A hn, ← or_eq g2 A hn]
/-- the row with one more, told -/
def exRV (n : Nat) (R : Nat → Int32) (V : exW) : Nat → Int32 := (prs n).foldl (fun R t => sgU R t.1 t.2 n (V t.1 t.2)) (upd R 0 (nI (n + 1)))
theorem mS_u0 {v : Int32} : mS (upd R 0 v) a b c = mS R a b c := by
  unfold mS
  simp only [upd]
  rw [if_neg (by omega)]
theorem mS_sgs (hab : a < b) (hbn : b < n) (hn : n < 6) (hxy : x < y) (hyz : y < z) (hz : z < 6) {v : Int32} : mS (sgU R a b n v) x y z = if x = a ∧ y = b ∧ z = n then v else mS R x y z := by
  rw [mS_sgU]
  by_cases h : x = a ∧ y = b ∧ z = n
  · rw [if_pos h, if_pos ((pT_i hab hbn hn hxy hyz hz).mpr h), tO_1 hab hbn, tO_1 hxy hyz]
    rw [show v * nI 1 = v from Int32.mul_one v, show nI 1 * v = v from Int32.one_mul v]
  · rw [if_neg h, if_neg fun h' => h ((pT_i hab hbn hn hxy hyz hz).mp h')]
theorem exRV_f (hn : n < 6) : ∀ {l : List (Nat × Nat)} {R : Nat → Int32}, (∀ t ∈ l, t.1 < t.2 ∧ t.2 < n) → (l.foldl (fun R t => sgU R t.1 t.2 n (V t.1 t.2)) R) 0 = R 0 ∧ ∀ x y z, x < y → y < z → z < 6 → mS (l.foldl (fun R t => sgU R t.1 t.2 n (V t.1 t.2)) R) x y z = if z = n ∧ (x, y) ∈ l then V x y else mS R x y z
  | [], R, _ => ⟨rfl, fun x y z _ _ _ => by rw [if_neg (fun h => by cases h.2)]; rfl⟩
  | t :: l, R, h => by
    have ht := h t List.mem_cons_self
    obtain ⟨g1, g2⟩ := exRV_f hn (l := l) (R := sgU R t.1 t.2 n (V t.1 t.2)) fun u hu => h u (List.mem_cons_of_mem _ hu)
    rw [List.foldl_cons]
    refine ⟨g1.trans sgU_0, fun x y z h1 h2 h3 => ?_⟩
    rw [g2 x y z h1 h2 h3, mS_sgs ht.1 ht.2 hn h1 h2 h3]
    by_cases k1 : z = n ∧ (x, y) ∈ l
    · rw [if_pos k1, if_pos ⟨k1.1, List.mem_cons_of_mem _ k1.2⟩]
    · rw [if_neg k1]
      by_cases k2 : x = t.1 ∧ y = t.2 ∧ z = n
      · rw [if_pos k2, if_pos ⟨k2.2.2, by rw [k2.1, k2.2.1]; exact List.mem_cons_self⟩, k2.1, k2.2.1]
      · rw [if_neg k2, if_neg]
        rintro ⟨k3, k4⟩
        rcases List.mem_cons.mp k4 with k4 | k4
        · exact k2 ⟨congrArg Prod.fst k4, congrArg Prod.snd k4, k3⟩
        · exact k1 ⟨k3, k4⟩
theorem exRV_at (hn : n < 6) : exRV n R V 0 = nI (n + 1) ∧ ∀ x y z, x < y → y < z → z < 6 → mS (exRV n R V) x y z = if z = n then V x y else mS R x y z := by
  obtain ⟨h1, h2⟩ := exRV_f (V := V) hn (l := prs n) (R := upd R 0 (nI (n + 1))) fun t ht => prs_mem.mp ht
  refine ⟨h1.trans (by simp [upd]), fun x y z k1 k2 k3 => ?_⟩
  unfold exRV
  rw [h2 x y z k1 k2 k3, mS_u0]
  by_cases k : z = n
  · rw [if_pos k, if_pos ⟨k, prs_mem.mpr ⟨k1, by omega⟩⟩]
  · rw [if_neg k, if_neg fun h => k h.1]
theorem isSR_s (h : ∀ a b c, a < b → b < c → c < 6 → isSg (mS R a b c)) : isSR R := fun a b c ha hb hc => by
  by_cases hd : a = b ∨ a = c ∨ b = c
  · unfold mS
    rw [(tO_0 a ha b hb c hc).mpr hd, Int32.zero_mul]
    exact Or.inr (Or.inl rfl)
  obtain ⟨m1, m2, m3, m4, m5⟩ := mS_g (R := R) ha hb hc
  have ng : ∀ {s t : Int32}, s = -t → isSg s → isSg t := fun {s t} e h => by
    have := isSg_neg h
    rwa [e, Int32.neg_neg] at this
  by_cases h1 : a < b <;> by_cases h2 : b < c <;> by_cases h3 : a < c
  · exact h a b c h1 h2 hc
  · omega
  · exact ng m3 (h a c b h3 (by omega) hb)
  · exact m4 ▸ h c a b (by omega) h1 hb
  · exact ng m1 (h b a c (by omega) h3 hc)
  · exact m5 ▸ h b c a h2 (by omega) ha
  · omega
  · exact ng m2 (h c b a (by omega) (by omega) ha)
theorem exRV_SR (hn : n < 6) (h : isSR R) (hV : ∀ x y, isSg (V x y)) : isSR (exRV n R V) := isSR_s fun a b c h1 h2 h3 => by
  rw [(exRV_at hn).2 a b c h1 h2 h3]
  split
  · exact hV a b
  · exact h a b c (by omega) (by omega) h3
def exL (n : Nat) (R : Nat → Int32) (V : exW) : Int32 := bI (orM (n + 1) (exRV n R V))
/-- the model's rows, filled -/
theorem exS_f (hn : n < 6) {R0 : Nat → Int32} : ∀ {l : List (Nat × Nat)} {R : Nat → Int32} {c : Nat} {V : exW}, (∀ t ∈ l, t.1 < t.2 ∧ t.2 < n) → R 0 = nI (n + 1) → (∀ x y z, x < y → y < z → z ≤ n → mS R x y z = if z = n then V x y else mS R0 x y z) → (l.foldl (fun y t => exS n y t.1 t.2) (R, c)).1 0 = nI (n + 1) ∧ ∀ x y z, x < y → y < z → z ≤ n → mS (l.foldl (fun y t => exS n y t.1 t.2) (R, c)).1 x y z = if z = n then exT l c V x y else mS R0 x y z
  | [], R, c, V, _, h0, h => ⟨h0, h⟩
  | t :: l, R, c, V, hl, h0, h => by
    have ht := hl t List.mem_cons_self
    rw [List.foldl_cons]
    refine exS_f hn (l := l) (R := sgU R t.1 t.2 n (nI (c % 3) - nI 1)) (c := c / 3) (V := exV V t (nI (c % 3) - nI 1)) (fun u hu => hl u (List.mem_cons_of_mem _ hu)) (sgU_0.trans h0) fun x y z h1 h2 h3 => ?_
    rw [mS_sgs ht.1 ht.2 hn h1 h2 (by omega), h x y z h1 h2 h3]
    unfold exV
    by_cases k : z = n
    · by_cases k2 : (x, y) = t
      · rw [if_pos ⟨congrArg Prod.fst k2, congrArg Prod.snd k2, k⟩, if_pos k, if_pos k2]
      · rw [if_pos k, if_pos k, if_neg k2, if_neg]
        rintro ⟨k3, k4, _⟩
        exact k2 (Prod.ext k3 k4)
    · rw [if_neg k, if_neg k, if_neg fun h => k h.2.2]
def exQ (n : Nat) (R : Nat → Int32) (x : (Nat → Int32) × Int32) (y : Int32) : Prop := (x.1 0 = nI (n + 1) ∧ ∀ a b c, a < b → b < c → c < n → mS x.1 a b c = mS R a b c) ∧ x.2 = y
theorem exQ_s (hn : n < 6) (hR : isSR R) {V0 : exW} (hV : ∀ x y, isSg (V0 x y)) {x : (Nat → Int32) × Int32} {y : Int32} (hxy : exQ n R x y) : exQ n R (exR n c x.1, x.2 + if orM (n + 1) (exR n c x.1) = true then nI 1 else nI 0) (y + exL n R (exT (prs n) c V0)) := by
  obtain ⟨⟨h0, h1⟩, h2⟩ := hxy
  obtain ⟨k0, k1⟩ := exS_f hn (R0 := R) (l := prs n) (R := x.1) (c := c) (V := fun a b => mS x.1 a b n) (fun t ht => prs_mem.mp ht) h0 fun a b c g1 g2 g3 => by
    by_cases k : c = n
    · rw [if_pos k, k]
    · rw [if_neg k, h1 a b c g1 g2 (by omega)]
  have k1 : ∀ a b c', a < b → b < c' → c' ≤ n → mS (exR n c x.1) a b c' = if c' = n then exT (prs n) c (fun a b => mS x.1 a b n) a b else mS R a b c' := k1
  have k0 : exR n c x.1 0 = nI (n + 1) := k0
  refine ⟨⟨k0, fun a b c' g1 g2 g3 => (k1 a b c' g1 g2 (by omega)).trans (if_neg (by omega))⟩, ?_⟩
  have hsg : ∀ x y, isSg (exT (prs n) c V0 x y) := exT_sg hV
  have e : orM (n + 1) (exRV n R (exT (prs n) c V0)) = orM (n + 1) (exR n c x.1) := orM_c (by omega) (exRV_at hn).1 k0 (exRV_SR hn hR hsg) fun a b c' g1 g2 g3 => by
    rw [(exRV_at hn).2 a b c' g1 g2 (by omega), k1 a b c' g1 g2 (by omega)]
    by_cases k : c' = n
    · rw [if_pos k, if_pos k]
      exact exT_i (prs_mem.mpr ⟨g1, by omega⟩)
    · rw [if_neg k, if_neg k]
  show x.2 + (if orM (n + 1) (exR n c x.1) = true then nI 1 else nI 0) = y + exL n R (exT (prs n) c V0)
  rw [h2, ← e]
  rfl
theorem exQ_f (hn : n < 6) (hR : isSR R) {V0 : exW} (hV : ∀ x y, isSg (V0 x y)) : ∀ {l : List Nat} {x : (Nat → Int32) × Int32} {y : Int32}, exQ n R x y → exQ n R (l.foldl (fun x c => (exR n c x.1, x.2 + if orM (n + 1) (exR n c x.1) = true then nI 1 else nI 0)) x) (l.foldl (fun x c => x + exL n R (exT (prs n) c V0)) y)
  | [], _, _, h => h
  | c :: l, x, y, h => exQ_f hn hR hV (l := l) (exQ_s (c := c) hn hR hV h)
theorem exF_eq (hn : n < 6) {R0 : Nat → Int32} (hR : isSR R0) (h : ∀ a b c, a < b → b < c → c < n → mS R a b c = mS R0 a b c) {V0 : exW} (hV : ∀ x y, isSg (V0 x y)) : (exF n R).2 = exG (exL n R0) (prs n) V0 := by
  have hlen : ∀ n, n < 6 → (prs n).length = n * (n - 1) / 2 := by decide +kernel
  rw [← exG_s, hlen n hn]
  exact (exQ_f (l := rg 0 (3 ^ (n * (n - 1) / 2))) (x := (upd R 0 (nI (n + 1)), nI 0)) (y := nI 0) hn hR hV ⟨⟨by simp [upd], fun a b c g1 g2 g3 => mS_u0.trans (h a b c g1 g2 g3)⟩, rfl⟩).2
end
