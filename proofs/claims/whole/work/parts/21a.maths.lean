/-! the two reckonings alike: bases, drawn, fives -/
section
variable {a b c d e n k x y z : Nat} {F G R : Nat → Int32}
theorem bs_eq (h : AR n F G R) (hF : AI F) (hn : n ≤ 6) : bsO n F = bsM n R := by
  unfold bsO bsM
  refine fold_rel2 (R := fun (x y : Int32) => x = y) (fun t ht x y hxy => ?_) rfl
  have ht := trip_mem.mp ht
  have e2 : F ((t.1 * 6 + t.2.1) * 6 + t.2.2) = mS R t.1 t.2.1 t.2.2 := AR_F h hF.2.2.2 hn (by omega) (by omega) (by omega)
  rw [e2, hxy]
  rfl
theorem dr_eq (h : AR n F G R) (hF : AI F) (hn : n ≤ 6) : drB n G F = dwB n R := by
  unfold drB dwB
  refine all_congr fun t ht => ?_
  have ht := trip_mem.mp ht
  have e2 : F ((t.1 * 6 + t.2.1) * 6 + t.2.2) = mS R t.1 t.2.1 t.2.2 := AR_F h hF.2.2.2 hn (by omega) (by omega) (by omega)
  rw [e2, sgn_sgM, trn_mtn h.2.2 (by omega) (by omega) (by omega)]
  by_cases h : sgM (mtn R t.1 t.2.1 t.2.2) = mS R t.1 t.2.1 t.2.2
  · rw [beq_iff_eq.mpr h, decide_eq_true h.symm]
  · rw [beq_false_of_ne h, decide_eq_false fun h' => h h'.symm]
theorem isSg_mul {s t : Int32} (h : isSg s) (h' : isSg t) : isSg (s * t) := by
  rcases h with rfl | rfl | rfl <;> rcases h' with rfl | rfl | rfl <;> unfold isSg <;> decide
theorem gdC_M {s t u : Int32} (h : isSg s) (h' : isSg t) (h'' : isSg u) : gdC s t u = gdM s t u := by
  rcases h with rfl | rfl | rfl <;> rcases h' with rfl | rfl | rfl <;> rcases h'' with rfl | rfl | rfl <;> decide
theorem AR_mS (h : AR n F G R) (hF : AI F) (hn : n ≤ 6) (ha : a < n) (hb : b < n) (hc : c < n) : isSg (mS R a b c) := by
  rw [← AR_F h hF.2.2.2 hn ha hb hc]
  exact AI_F hF (by omega) (by omega) (by omega)
theorem gd_eq (h : AR n F G R) (hF : AI F) (hn : n ≤ 6) (ha : a < n) (hb : b < n) (hc : c < n) (hd : d < n) (he : e < n) : gd5 F a b c d e = gM5 R a b c d e := by
  unfold gd5 gM5
  have k : ∀ {b c}, b < n → c < n → F (i6 a b c) = mS R a b c := fun hb hc => AR_F h hF.2.2.2 hn ha hb hc
  have s : ∀ {b c}, b < n → c < n → isSg (mS R a b c) := fun hb hc => AR_mS h hF hn ha hb hc
  rw [k hb hc, k hd he, k hb hd, k hc he, k hb he, k hc hd]
  exact gdC_M (isSg_mul (s hb hc) (s hd he)) (isSg_mul (isSg_neg (s hb hd)) (s hc he)) (isSg_mul (s hb he) (s hc hd))
abbrev T4 : Type := Nat × Nat × Nat × Nat
theorem fold_ft {α : Type} {p : α → Bool} {g : α → Bool} : ∀ {l : List α} {x : Int32}, l.foldl (fun x t => x + if p t = true ∧ g t = false then nI 1 else nI 0) x = (l.filter p).foldl (fun x t => x + if g t = true then nI 0 else nI 1) x
  | [], _ => rfl
  | a :: l, x => by
    rw [List.foldl_cons, fold_ft, List.filter_cons]
    cases hp : p a with
    | false => rw [if_neg (show ¬ (false = true ∧ g a = false) by simp), if_neg (show ¬ false = true by decide), show x + nI 0 = x from Int32.add_zero x]
    | true =>
      rw [if_pos (show true = true from rfl), List.foldl_cons]
      cases g a <;> rfl
theorem fold_fm {q : Nat → T4} {g : T4 → Bool} : ∀ {l : List Nat} {x : Int32}, l.foldl (fun x o => if o ≠ a then x + (if g (q o) = true then nI 0 else nI 1) else x) x = ((l.filter fun o => decide (o ≠ a)).map q).foldl (fun x t => x + if g t = true then nI 0 else nI 1) x
  | [], _ => rfl
  | o :: l, x => by
    rw [List.foldl_cons, fold_fm, List.filter_cons]
    by_cases h : o = a
    · rw [if_neg (show ¬ o ≠ a from fun h' => h' h), if_neg (show ¬ decide (o ≠ a) = true by simp [h])]
    · rw [if_pos (show o ≠ a from h), if_pos (show decide (o ≠ a) = true by simp [h]), List.map_cons, List.foldl_cons]
def nq4 (a : Nat) (t : T4) : Bool := decide (a ≠ t.1 ∧ a ≠ t.2.1 ∧ a ≠ t.2.2.1 ∧ a ≠ t.2.2.2)
def oq4 (a o : Nat) : T4 := (bsd a o 0, bsd a o 1, bsd a o 2, bsd a o 3)
def ol4 (n a : Nat) : List T4 := if 4 < n then ((rg (if n = 5 then 5 else 0) (if n = 5 then 6 else n)).filter fun o => decide (o ≠ a)).map (oq4 a) else []
theorem ol4_b : ∀ n, n < 7 → ∀ a, a < 6 → (!decide (a < n) || decide ((quad n).filter (nq4 a) = (ol4 n a).reverse)) = true := by decide +kernel
theorem fold_rev {g : T4 → Int32} {l : List T4} {x : Int32} : l.reverse.foldl (fun x t => x + g t) x = l.foldl (fun x t => x + g t) x := List.Perm.foldl_eq' (List.reverse_perm l) (fun s _ t _ z => by rw [Int32.add_assoc, Int32.add_comm (g s), ← Int32.add_assoc]) x
theorem quad_lt : ∀ n, n < 7 → ((quad n).all fun t => decide (t.1 < n ∧ t.2.1 < n ∧ t.2.2.1 < n ∧ t.2.2.2 < n)) = true := by decide +kernel
theorem bd_eq (h : AR n F G R) (hF : AI F) (hn : n ≤ 6) : bdF n F 0 n = bfM n R := by
  have key : ∀ a, a < n → ∀ x, bdI n F a x = (ol4 n a).foldl (fun x t => x + if gM5 R a t.1 t.2.1 t.2.2.1 t.2.2.2 = true then nI 0 else nI 1) x := fun a ha x => by
    have e1 : bdI n F a x = (quad n).foldl (fun x t => x + if nq4 a t = true ∧ gM5 R a t.1 t.2.1 t.2.2.1 t.2.2.2 = false then nI 1 else nI 0) x := by
      unfold bdI
      refine fold_rel2 (R := fun (x y : Int32) => x = y) (fun t ht x y hxy => ?_) rfl
      have hq := List.all_eq_true.mp (quad_lt n (by omega)) t ht
      have hq := of_decide_eq_true hq
      rw [gd_eq h hF hn ha hq.1 hq.2.1 hq.2.2.1 hq.2.2.2, hxy]
      unfold nq4
      simp only [decide_eq_true_eq]
    have hb := ol4_b n (by omega) a (by omega)
    rw [decide_eq_true ha] at hb
    have hb := of_decide_eq_true (show decide ((quad n).filter (nq4 a) = (ol4 n a).reverse) = true from hb)
    rw [e1, fold_ft (p := nq4 a) (g := fun t => gM5 R a t.1 t.2.1 t.2.2.1 t.2.2.2), hb, fold_rev (g := fun t : T4 => if gM5 R a t.1 t.2.1 t.2.2.1 t.2.2.2 = true then nI 0 else nI 1)]
  have e2 : bdF n F 0 n = (rg 0 n).foldl (fun x a => (ol4 n a).foldl (fun x t => x + if gM5 R a t.1 t.2.1 t.2.2.1 t.2.2.2 = true then nI 0 else nI 1) x) (nI 0) := by
    unfold bdF
    refine fold_rel2 (R := fun (x y : Int32) => x = y) (fun a ha x y hxy => ?_) rfl
    rw [hxy]
    exact key a (rg_mem.mp ha).2 y
  rw [e2]
  unfold bfM
  by_cases h4 : 4 < n
  · rw [if_pos h4]
    refine fold_rel2 (R := fun (x y : Int32) => x = y) (fun a ha x y hxy => ?_) rfl
    rw [hxy]
    unfold bfI ol4
    rw [if_pos h4]
    exact (fold_fm (a := a) (q := oq4 a) (g := fun t => gM5 R a t.1 t.2.1 t.2.2.1 t.2.2.2)).symm
  · rw [if_neg h4]
    unfold ol4
    exact fold_inv (P := fun x : Int32 => x = nI 0) (fun a _ x hx => by rw [if_neg h4]; exact hx) rfl
end
