/-! swap alike -/
abbrev Trm : Type := Tok × Option Tok
def tvV (F : Nat → Int32) (t : Trm) : Int32 := match t.2 with
  | none => if tkV F t.1 ≠ 0 then 1 else 0
  | some u => if tkV F t.1 = tkV F u then 0 else 2
def cnV (F : Nat → Int32) (l : List Trm) : Int32 := l.foldl (fun x t => x + tvV F t) 0
theorem cnV_sn {F : Nat → Int32} {l : List Trm} {t : Trm} : cnV F (l ++ [t]) = cnV F l + tvV F t := by simp [cnV]
abbrev TS : Type := (Nat → Tok) × List Trm
def trI (e f a : Nat) (x : TS) (b : Nat) : TS := if b ≠ e ∧ b ≠ f then (sg6T (sg6T x.1 e a b (x.1 (i6 f a b))) f a b (x.1 (i6 e a b)), x.2 ++ [(x.1 (i6 e a b), some (x.1 (i6 f a b)))]) else x
def trO (n e f : Nat) (x : TS) (a : Nat) : TS := if a = e ∨ a = f then x else (rg (a + 1) n).foldl (trI e f a) (sg6T x.1 e f a (tkN (x.1 (i6 e f a))), x.2 ++ [(x.1 (i6 e f a), none)])
def trT (n e f : Nat) : TS := (rg 0 n).foldl (trO n e f) (fun i => (false, i), [])
/-- what is asked of two places: alike up to a sign -/
abbrev Atm : Type := Nat × Nat × Bool
def nAt (p q : Nat) (s : Bool) : Atm := if p ≤ q then (p, q, s) else (q, p, s)
def avV (R : Nat → Int32) (t : Atm) : Int32 := if R (1 + t.1) = (if t.2.2 = true then -(R (1 + t.2.1)) else R (1 + t.2.1)) then 0 else 1
def tAt (t : Trm) : List Atm := match t.2 with
  | none => [nAt (tkP t.1).1 (tkP t.1).1 true]
  | some u => [nAt (tkP t.1).1 (tkP u).1 (xor (tkP t.1).2 (tkP u).2), nAt (tkP t.1).1 (tkP u).1 (xor (tkP t.1).2 (tkP u).2)]
def tOk (n : Nat) (t : Trm) : Bool := tkO n t.1 && match t.2 with
  | none => true
  | some u => tkO n u
def mAt (e f : Nat) (t : T3) : Atm := nAt (p3 t) (pT (und t.1 e f) (und t.2.1 e f) (und t.2.2 e f)) (pr3 (und t.1 e f) (und t.2.1 e f) (und t.2.2 e f))
def ntAt (t : Atm) : Bool := !(decide (t.1 = t.2.1) && !t.2.2)
def ckW (n e f : Nat) : Bool := (trT n e f).2.all (tOk n) && (((trT n e f).2.flatMap tAt).isPerm (((trip n).map (mAt e f)).filter ntAt) && (trip n).all fun t => tkO n ((trT n e f).1 (i6 t.1 t.2.1 t.2.2)) && decide (tkP ((trT n e f).1 (i6 t.1 t.2.1 t.2.2)) = (pT (und t.1 e f) (und t.2.1 e f) (und t.2.2 e f), pr3 (und t.1 e f) (und t.2.1 e f) (und t.2.2 e f))))
theorem ckW_b : ∀ n, n < 7 → ∀ e, e < 6 → ∀ f, f < 6 → (!(decide (e < n) && (decide (f < n) && !decide (e = f))) || ckW n e f) = true := by decide +kernel
section
variable {a b c x y z n e f : Nat} {F G R W : Nat → Int32} {v : Int32}
theorem trd_T (hF : AI F) (hn : n ≤ 6) (he : e < n) (hf : f < n) (hef : e ≠ f) : (trd n e f F).1 = (fun i => tkV F ((trT n e f).1 i)) ∧ (trd n e f F).2 = cnV F (trT n e f).2 ∧ AI (trd n e f F).1 := by
  unfold trd trT
  refine fold_rel2 (R := fun (x : (Nat → Int32) × Int32) (y : TS) => x.1 = (fun i => tkV F (y.1 i)) ∧ x.2 = cnV F y.2 ∧ AI x.1) (fun a ha x y hxy => ?_) ⟨rfl, rfl, hF⟩
  have ha := (rg_mem.mp ha).2
  unfold trdO trO
  by_cases hae : a = e ∨ a = f
  · rw [if_pos hae, if_pos hae]
    exact hxy
  rw [if_neg hae, if_neg hae]
  have hd : ¬ (e = f ∨ e = a ∨ f = a) := by omega
  refine fold_rel2 (R := fun (x : (Nat → Int32) × Int32) (y : TS) => x.1 = (fun i => tkV F (y.1 i)) ∧ x.2 = cnV F y.2 ∧ AI x.1) (fun b hb x y hxy => ?_) ?_
  · have hb := rg_mem.mp hb
    obtain ⟨h1, h2, h3⟩ := hxy
    unfold trdI trI
    by_cases hbe : b ≠ e ∧ b ≠ f
    · rw [if_pos hbe, if_pos hbe]
      have d1 : ¬ (e = a ∨ e = b ∨ a = b) := by omega
      have d2 : ¬ (f = a ∨ f = b ∨ a = b) := by omega
      refine ⟨?_, ?_, AI_sg (AI_sg h3 (AI_F h3 (by omega) (by omega) (by omega)) (by omega) (by omega) (by omega) d1) (AI_F h3 (by omega) (by omega) (by omega)) (by omega) (by omega) (by omega) d2⟩
      · show sg6 (sg6 x.1 e a b (x.1 (i6 f a b))) f a b (x.1 (i6 e a b)) = _
        rw [← sg6T_v, ← sg6T_v, ← h1]
        rw [h1]
      · show x.2 + (if x.1 (i6 e a b) = x.1 (i6 f a b) then 0 else 2) = cnV F (y.2 ++ [(y.1 (i6 e a b), some (y.1 (i6 f a b)))])
        rw [cnV_sn, h2, h1]
        rfl
    · rw [if_neg hbe, if_neg hbe]
      exact ⟨h1, h2, h3⟩
  · obtain ⟨h1, h2, h3⟩ := hxy
    by_cases hz : x.1 ((e * 6 + f) * 6 + a) ≠ 0
    · rw [if_pos hz]
      refine ⟨?_, ?_, AI_sg h3 (isSg_neg (AI_F h3 (by omega) (by omega) (by omega))) (by omega) (by omega) (by omega) hd⟩
      · show sg6 x.1 e f a (-(x.1 (i6 e f a))) = _
        rw [← sg6T_v, ← h1, tkV_N]
        rw [h1]
      · show x.2 + 1 = cnV F (y.2 ++ [(y.1 (i6 e f a), none)])
        rw [cnV_sn, h2]
        have : tkV F (y.1 (i6 e f a)) ≠ 0 := by
          have := hz
          rw [h1] at this
          exact this
        show _ = _ + (if tkV F (y.1 (i6 e f a)) ≠ 0 then 1 else 0)
        rw [if_pos this]
    · rw [if_neg hz]
      have hz0 : x.1 (i6 e f a) = 0 := by simpa using hz
      have hs := sg6_same h3.2.1 (show e < 6 by omega) (show f < 6 by omega) (show a < 6 by omega) hd
      refine ⟨?_, ?_, h3⟩
      · show x.1 = fun i => tkV F (sg6T y.1 e f a (tkN (y.1 (i6 e f a))) i)
        rw [← sg6T_v, ← h1, tkV_N]
        have hv : tkV F (y.1 (i6 e f a)) = x.1 (i6 e f a) := by rw [h1]
        rw [hv, hz0, neg0, ← hz0, hs]
      · show x.2 = cnV F (y.2 ++ [(y.1 (i6 e f a), none)])
        rw [cnV_sn, h2]
        have : ¬ tkV F (y.1 (i6 e f a)) ≠ 0 := by
          rw [h1] at hz
          exact hz
        show _ = _ + (if tkV F (y.1 (i6 e f a)) ≠ 0 then 1 else 0)
        rw [if_neg this, Int32.add_zero]
theorem avV_n {p q : Nat} {s : Bool} : avV R (nAt p q s) = if R (1 + p) = (if s = true then -(R (1 + q)) else R (1 + q)) then 0 else 1 := by
  unfold nAt
  split
  · rfl
  · show (if R (1 + q) = (if s = true then -(R (1 + p)) else R (1 + p)) then (0 : Int32) else 1) = _
    cases s with
    | false =>
      simp only [Bool.false_eq_true, if_false]
      by_cases h : R (1 + p) = R (1 + q)
      · rw [if_pos h, if_pos h.symm]
      · rw [if_neg h, if_neg (fun g => h g.symm)]
    | true =>
      simp only [if_true]
      by_cases h : R (1 + p) = -(R (1 + q))
      · rw [if_pos h, if_pos (by rw [h, Int32.neg_neg])]
      · rw [if_neg h, if_neg (fun g => h (by rw [g, Int32.neg_neg]))]
theorem sgd_eq {z w : Nat × Bool} : (sgd R z = sgd R w) ↔ R (1 + z.1) = (if xor z.2 w.2 = true then -(R (1 + w.1)) else R (1 + w.1)) := by
  unfold sgd
  have hn : ∀ {a b : Int32}, -a = b ↔ a = -b := fun {a b} => ⟨fun h => by rw [← h, Int32.neg_neg], fun h => by rw [h, Int32.neg_neg]⟩
  cases z.2 <;> cases w.2 <;> simp [hn, Int32.neg_inj]
theorem neg_self {s : Int32} (h : isSg s) : s = -s ↔ s = 0 := by
  rcases h with h | h | h <;> subst h <;> decide
/-- the sum of what is asked -/
def smV (R : Nat → Int32) (l : List Atm) (x : Int32) : Int32 := l.foldl (fun x t => x + avV R t) x
theorem cnV_sm (h : AR n F G R) (hF : AI F) (hn : n ≤ 6) : ∀ (l : List Trm) (x : Int32), l.all (tOk n) = true → l.foldl (fun x t => x + tvV F t) x = smV R (l.flatMap tAt) x
  | [], _, _ => rfl
  | t :: l, x, hl => by
    rw [List.all_cons, Bool.and_eq_true] at hl
    rw [List.foldl_cons, List.flatMap_cons]
    unfold smV
    rw [List.foldl_append]
    rw [cnV_sm h hF hn l _ hl.2]
    unfold smV
    congr 1
    have ht := hl.1
    obtain ⟨t, u⟩ := t
    cases u with
    | none =>
      have ht : tkO n t = true := by simpa [tOk] using ht
      have e := tkV_sgd h hn ht
      have hr : isSg (R (1 + (tkP t).1)) := by
        have hs : isSg (tkV F t) := by
          unfold tkO at ht
          simp only [Bool.and_eq_true, decide_eq_true_eq] at ht
          have := hF.1 t.2 (by omega)
          unfold tkV
          split
          · exact isSg_neg this
          · exact this
        rw [e] at hs
        unfold sgd at hs
        split at hs
        · have := isSg_neg hs
          rwa [Int32.neg_neg] at this
        · exact hs
      show x + (if tkV F t ≠ 0 then 1 else 0) = x + avV R (nAt (tkP t).1 (tkP t).1 true)
      rw [avV_n, e]
      simp only [if_true, neg_self hr]
      have hz : sgd R (tkP t) = 0 ↔ R (1 + (tkP t).1) = 0 := by
        unfold sgd
        split
        · constructor
          · intro h
            have := congrArg (fun s => -s) h
            simpa [Int32.neg_neg] using this
          · intro h; rw [h, neg0]
        · exact Iff.rfl
      by_cases h0 : R (1 + (tkP t).1) = 0
      · rw [if_pos h0, if_neg (fun g => g (hz.mpr h0))]
      · rw [if_neg h0, if_pos (fun g => h0 (hz.mp g))]
    | some u =>
      have ht : tkO n t = true ∧ tkO n u = true := by simpa [tOk] using ht
      show x + (if tkV F t = tkV F u then 0 else 2) = x + avV R (nAt (tkP t).1 (tkP u).1 (xor (tkP t).2 (tkP u).2)) + avV R (nAt (tkP t).1 (tkP u).1 (xor (tkP t).2 (tkP u).2))
      rw [avV_n, tkV_sgd h hn ht.1, tkV_sgd h hn ht.2]
      by_cases hq : sgd R (tkP t) = sgd R (tkP u)
      · rw [if_pos hq, if_pos (sgd_eq.mp hq), Int32.add_zero, Int32.add_zero]
      · rw [if_neg hq, if_neg (fun g => hq (sgd_eq.mpr g)), Int32.add_assoc]
        rfl
theorem sm_perm {l l' : List Atm} {x : Int32} (h : l.Perm l') : smV R l x = smV R l' x := by
  unfold smV
  refine h.foldl_eq' (fun a _ b _ z => ?_) x
  rw [Int32.add_assoc, Int32.add_assoc, Int32.add_comm (avV R a)]
theorem sm_nt : ∀ (l : List Atm) (x : Int32), smV R (l.filter ntAt) x = smV R l x
  | [], _ => rfl
  | t :: l, x => by
    rw [List.filter_cons]
    cases ht : ntAt t with
    | true =>
      rw [if_pos rfl]
      unfold smV
      rw [List.foldl_cons, List.foldl_cons]
      exact sm_nt l _
    | false =>
      rw [if_neg (by decide), sm_nt l x]
      unfold smV
      rw [List.foldl_cons]
      congr 1
      unfold ntAt at ht
      simp only [Bool.not_eq_false', Bool.and_eq_true, decide_eq_true_eq, Bool.not_eq_true'] at ht
      unfold avV
      rw [ht.1, ht.2]
      simp only [Bool.false_eq_true, if_false, if_true, Int32.add_zero]
theorem trip_nd : ∀ n, n < 7 → ((trip n).map p3).Nodup := by decide +kernel
/-- the model's fold: each sign written once -/
theorem swM_sm (hW : ∀ i, i < 39 → W i = R i) (hn : n ≤ 6) (he : e < n) (hf : f < n) : ∀ (l : List T3), (∀ t ∈ l, ris n t) → (l.map p3).Nodup → ∀ (x : (Nat → Int32) × Int32), (∀ t ∈ l, x.1 (1 + p3 t) = R (1 + p3 t)) → (l.foldl (fun x t => swS W e f x t.1 t.2.1 t.2.2) x).2 = smV R (l.map (mAt e f)) x.2
  | [], _, _, _, _ => rfl
  | t :: l, hr, hnd, x, hx => by
    have ht := hr t List.mem_cons_self
    rw [List.map_cons, List.nodup_cons] at hnd
    rw [List.foldl_cons, List.map_cons]
    have ha := und_lt (show t.1 < n by have := ht.1; have := ht.2.1; have := ht.2.2; omega) he hf
    have hb := und_lt (show t.2.1 < n by have := ht.2.1; have := ht.2.2; omega) he hf
    have hc := und_lt ht.2.2 he hf
    have hd : ¬ (und t.1 e f = und t.2.1 e f ∨ und t.1 e f = und t.2.2 e f ∨ und t.2.1 e f = und t.2.2 e f) := by
      have := ht.1
      have := ht.2.1
      rintro (h | h | h)
      · exact und_ne (show t.1 ≠ t.2.1 by omega) h
      · exact und_ne (show t.1 ≠ t.2.2 by omega) h
      · exact und_ne (show t.2.1 ≠ t.2.2 by omega) h
    rw [swM_sm hW hn he hf l (fun u hu => hr u (List.mem_cons_of_mem _ hu)) hnd.2 _ (fun u hu => ?_)]
    · unfold smV
      rw [List.foldl_cons]
      congr 1
      show x.2 + (if mS W (und t.1 e f) (und t.2.1 e f) (und t.2.2 e f) = mS x.1 t.1 t.2.1 t.2.2 then nI 0 else nI 1) = x.2 + avV R (mAt e f t)
      unfold mAt
      rw [avV_n, mS_W hW (by omega) (by omega) (by omega) hd, mS_sgd (by omega) (by omega) (by omega) hd, mS_s ht.1 ht.2.1, show x.1 (1 + pT t.1 t.2.1 t.2.2) = R (1 + p3 t) from hx t List.mem_cons_self]
      unfold sgd
      congr 1
      by_cases hq : (if pr3 (und t.1 e f) (und t.2.1 e f) (und t.2.2 e f) = true then -(R (1 + pT (und t.1 e f) (und t.2.1 e f) (und t.2.2 e f))) else R (1 + pT (und t.1 e f) (und t.2.1 e f) (und t.2.2 e f))) = R (1 + p3 t)
      · rw [if_pos hq, if_pos hq.symm]; rfl
      · rw [if_neg hq, if_neg (fun g => hq g.symm)]; rfl
    · show sgU x.1 t.1 t.2.1 t.2.2 _ (1 + p3 u) = _
      rw [sgU_s ht.1 ht.2.1]
      simp only [upd]
      have : p3 u ≠ p3 t := fun h => hnd.1 (h ▸ List.mem_map_of_mem hu)
      rw [if_neg (show ¬ 1 + p3 u = 1 + pT t.1 t.2.1 t.2.2 from fun h => this (by unfold p3 at h ⊢; omega))]
      exact hx u (List.mem_cons_of_mem _ hu)
theorem swM_at (hn : n ≤ 6) : ∀ t ∈ trip n, (swM W n e f R).1 (1 + p3 t) = mS W (und t.1 e f) (und t.2.1 e f) (und t.2.2 e f) := by
  unfold swM
  refine ops_inv (step := fun (x : (Nat → Int32) × Int32) (t : T3) => swS W e f x t.1 t.2.1 t.2.2) (ok := fun t x => x.1 (1 + p3 t) = mS W (und t.1 e f) (und t.2.1 e f) (und t.2.2 e f)) (V := ris 6) (fun t x ht => ?_) (fun t u x ht hu h => ?_) (trip n) (R, nI 0) (fun t ht => by
    have := trip_mem.mp ht
    exact ⟨this.1, this.2.1, by omega⟩)
  · show sgU x.1 t.1 t.2.1 t.2.2 _ (1 + p3 t) = _
    rw [sgU_s ht.1 ht.2.1]
    simp [upd, p3]
  · show sgU x.1 u.1 u.2.1 u.2.2 _ (1 + p3 t) = _
    rw [sgU_s hu.1 hu.2.1]
    simp only [upd]
    by_cases hp : p3 t = p3 u
    · have := p3_inj ht hu hp
      subst this
      rw [if_pos (show 1 + p3 t = 1 + pT t.1 t.2.1 t.2.2 from rfl)]
    · rw [if_neg (show ¬ 1 + p3 t = 1 + pT u.1 u.2.1 u.2.2 from fun h => hp (by unfold p3 at h ⊢; omega))]
      exact h
theorem swM_0 : (swM W n e f R).1 0 = R 0 := by
  unfold swM
  exact fold_inv (P := fun x : (Nat → Int32) × Int32 => x.1 0 = R 0) (fun t _ x hx => sgU_0.trans hx) rfl
theorem swM_co {i : Nat} (hn : n ≤ 6) : mco (swM W n e f R).1 x i = mco R x i := by
  unfold swM
  refine fold_inv (P := fun y : (Nat → Int32) × Int32 => mco y.1 x i = mco R x i) (fun t ht y hy => ?_) rfl
  have := trip_mem.mp ht
  show mco (sgU y.1 t.1 t.2.1 t.2.2 _) x i = _
  rw [mco_sgU (by omega) (by omega) (by omega) (by omega)]
  exact hy
theorem swP_at (hef : e ≠ f) : (∀ j, j < 21 → swP W e f R j = R j) ∧ ∀ i, i < 3 → mco (swP W e f R) x i = if x = f then W (21 + 3 * e + i) else if x = e then W (21 + 3 * f + i) else mco R x i := by
  have e3 : swP W e f R = upd (upd (upd (upd (upd (upd R (21 + 3 * e + 0) (W (21 + 3 * f + 0))) (21 + 3 * f + 0) (W (21 + 3 * e + 0))) (21 + 3 * e + 1) (W (21 + 3 * f + 1))) (21 + 3 * f + 1) (W (21 + 3 * e + 1))) (21 + 3 * e + 2) (W (21 + 3 * f + 2))) (21 + 3 * f + 2) (W (21 + 3 * e + 2)) := rfl
  rw [e3]
  constructor
  · intro j hj
    simp only [upd]
    rw [if_neg (by omega), if_neg (by omega), if_neg (by omega), if_neg (by omega), if_neg (by omega), if_neg (by omega)]
  · intro i hi
    unfold mco
    simp only [upd]
    by_cases hf : x = f
    · subst hf
      match i, hi with
      | 0, _ => rw [if_neg (by omega), if_neg (by omega), if_neg (by omega), if_neg (by omega), if_pos (by omega), if_pos rfl]
      | 1, _ => rw [if_neg (by omega), if_neg (by omega), if_pos (by omega), if_pos rfl]
      | 2, _ => rw [if_pos (by omega), if_pos rfl]
    · rw [if_neg hf]
      by_cases he : x = e
      · subst he
        match i, hi with
        | 0, _ => rw [if_neg (by omega), if_neg (by omega), if_neg (by omega), if_neg (by omega), if_neg (by omega), if_pos (by omega), if_pos rfl]
        | 1, _ => rw [if_neg (by omega), if_neg (by omega), if_neg (by omega), if_pos (by omega), if_pos rfl]
        | 2, _ => rw [if_neg (by omega), if_pos (by omega), if_pos rfl]
      · rw [if_neg he, if_neg (by omega), if_neg (by omega), if_neg (by omega), if_neg (by omega), if_neg (by omega), if_neg (by omega)]
/-- swap -/
theorem AR_swap (h : AR n F G R) (hF : AI F) (hn : n ≤ 6) (he : e < n) (hf : f < n) (hef : e ≠ f) (hW : ∀ i, i < 39 → W i = R i) : AR n (trd n e f F).1 (tdP G e f) (swP W e f (swM W n e f R).1) ∧ AI (trd n e f F).1 ∧ (trd n e f F).2 = (swM W n e f R).2 := by
  obtain ⟨t1, t2, t3⟩ := trd_T hF hn he hf hef
  have hb := ckW_b n (by omega) e (by omega) f (by omega)
  rw [decide_eq_true he, decide_eq_true hf, decide_eq_false hef] at hb
  simp only [Bool.not_false, Bool.and_self, Bool.not_true, Bool.false_or] at hb
  unfold ckW at hb
  rw [Bool.and_eq_true, Bool.and_eq_true, List.isPerm_iff, List.all_eq_true (l := trip n)] at hb
  obtain ⟨b1, b2, b3⟩ := hb
  obtain ⟨q1, q2⟩ := swP_at (W := W) (R := (swM W n e f R).1) (x := 0) hef
  refine ⟨AR_rise ?_ hn t3.2.1 (fun a b c hab hbc hc => ?_) (fun x i hx hi => ?_), t3, ?_⟩
  · rw [q1 0 (by decide), swM_0]
    exact h.1
  · have hm : (a, b, c) ∈ trip n := trip_mem.mpr ⟨hab, hbc, hc⟩
    have b3 := b3 (a, b, c) hm
    simp only [Bool.and_eq_true, decide_eq_true_eq] at b3
    have pl := pT_lt (show a < 6 by omega) (show b < 6 by omega) (show c < 6 by omega) (by omega)
    have ha' := und_lt (show a < n by omega) he hf
    have hb' := und_lt (show b < n by omega) he hf
    have hc' := und_lt hc he hf
    have hd : ¬ (und a e f = und b e f ∨ und a e f = und c e f ∨ und b e f = und c e f) := by
      rintro (h | h | h)
      · exact und_ne (show a ≠ b by omega) h
      · exact und_ne (show a ≠ c by omega) h
      · exact und_ne (show b ≠ c by omega) h
    have e1 := swM_at (W := W) (R := R) (e := e) (f := f) hn (a, b, c) hm
    rw [mS_s hab hbc, q1 _ (by omega)]
    have e1 : (swM W n e f R).1 (1 + pT a b c) = mS W (und a e f) (und b e f) (und c e f) := e1
    rw [e1, t1]
    show tkV F ((trT n e f).1 (i6 a b c)) = _
    rw [tkV_sgd h hn b3.1, b3.2, mS_W hW (by omega) (by omega) (by omega) hd, mS_sgd (by omega) (by omega) (by omega) hd]
  · have q2 := (swP_at (W := W) (R := (swM W n e f R).1) (x := x) hef).2 i hi
    rw [q2, swM_co hn]
    unfold tdP
    rw [pt3_at hi]
    have k := h.2.2
    by_cases hxf : x = f
    · rw [if_pos hxf, if_pos hxf, hW _ (by omega)]
      match i, hi with
      | 0, _ => rw [if_pos rfl]; exact k e 0 he (by decide)
      | 1, _ => rw [if_neg (by decide), if_pos rfl]; exact k e 1 he (by decide)
      | 2, _ => rw [if_neg (by decide), if_neg (by decide)]; exact k e 2 he (by decide)
    · rw [if_neg hxf, if_neg hxf, pt3_at hi]
      by_cases hxe : x = e
      · rw [if_pos hxe, if_pos hxe, hW _ (by omega)]
        match i, hi with
        | 0, _ => rw [if_pos rfl]; exact k f 0 hf (by decide)
        | 1, _ => rw [if_neg (by decide), if_pos rfl]; exact k f 1 hf (by decide)
        | 2, _ => rw [if_neg (by decide), if_neg (by decide)]; exact k f 2 hf (by decide)
      · rw [if_neg hxe, if_neg hxe]
        exact k x i hx hi
  · rw [t2]
    unfold cnV
    rw [cnV_sm h hF hn _ _ b1, sm_perm b2, sm_nt]
    have := swM_sm hW hn he hf (trip n) (fun t ht => trip_mem.mp ht) (trip_nd n (by omega)) (R, nI 0) (fun _ _ => rfl)
    rw [show ((trip n).foldl (fun x t => swS W e f x t.1 t.2.1 t.2.2) (R, nI 0)) = swM W n e f R from rfl] at this
    rw [this]
    rfl
end
