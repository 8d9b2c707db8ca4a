/-! what is orderly doesn't hang on what the rules' rows held before -/
def gEq (x y : GX) : Prop := (∀ s, s < 64 → x.1 s = y.1 s) ∧ x.2.2 = y.2.2 ∧ ∀ i, i < x.2.2 → x.2.1 i = y.2.1 i
theorem gthF_eq {f : Nat → Int32} {x y : GX} {a b c : Nat} (h : gEq x y) : gEq (gthF f x a b c) (gthF f y a b c) := by
  obtain ⟨h1, h2, h3⟩ := h
  unfold gthF
  rw [← h2]
  split
  · refine ⟨fun s hs => ?_, by simp, fun i hi => ?_⟩
    · simp only [upd]
      split
      · rfl
      · exact h1 s hs
    · simp only [upd]
      split
      · rfl
      · next hne =>
        dsimp only at hi
        exact h3 i (by omega)
  · exact ⟨h1, h2, h3⟩
theorem gth0_z : ∀ (k j : Nat) (β : Nat → Int32), j + k = 64 → (∀ s, s < j → β s = nI 0) → ∀ s, s < 64 → ((rg j 64).foldl (fun β s => upd β s (nI 0)) β) s = nI 0 := by
  intro k
  induction k with
  | zero =>
    intro j β hj hβ
    obtain rfl : j = 64 := by omega
    rw [rg_end]
    exact hβ
  | succ k ih =>
    intro j β hj hβ
    rw [rg_cons (show j < 64 by omega)]
    apply ih (j + 1) _ (by omega)
    intro s hs
    simp only [upd]
    split
    · rfl
    · exact hβ s (by omega)
theorem fold_rel {α X : Type} {R : X → X → Prop} {g : X → α → X} : ∀ {l : List α} {x y : X}, (∀ a ∈ l, ∀ x y, R x y → R (g x a) (g y a)) → R x y → R (l.foldl g x) (l.foldl g y)
  | [], _, _, _, h => h
  | a :: l, x, y, hs, h => fold_rel (l := l) (fun b hb => hs b (List.mem_cons_of_mem _ hb)) (hs a List.mem_cons_self x y h)
theorem gth_eq {n : Nat} {f β bs β' bs' : Nat → Int32} : gEq (gth n f β bs) (gth n f β' bs') := by
  unfold gth
  refine fold_rel (R := gEq) (fun t _ x y h => gthF_eq h) ⟨fun s hs => ?_, rfl, fun i hi => absurd hi (Nat.not_lt_zero i)⟩
  exact (gth0_z 64 0 β rfl (fun s h => absurd h (Nat.not_lt_zero s)) s hs).trans (gth0_z 64 0 β' rfl (fun s h => absurd h (Nat.not_lt_zero s)) s hs).symm
theorem all_congr {α : Type} {l : List α} {p q : α → Bool} (h : ∀ a ∈ l, p a = q a) : l.all p = l.all q := by
  induction l with
  | nil => rfl
  | cons a l ih => rw [List.all_cons, List.all_cons, h a List.mem_cons_self, ih fun b hb => h b (List.mem_cons_of_mem _ hb)]
theorem mdC_eq {β β' : Nat → Int32} {r c : Nat} (h : ∀ s, s < 64 → β s = β' s) (hr : r < 64) : mdC β r c = mdC β' r c := by
  unfold mdC
  congr 1
  apply all_congr
  intro i hi
  have hi := rg_mem.mp hi
  rw [h _ (bt_orlt _ hr _ (bt_lt i (by omega)))]
theorem cxC_eq {β β' : Nat → Int32} {r c : Nat} (h : ∀ s, s < 64 → β s = β' s) (hr : r < 64) : cxC β r c = cxC β' r c := by
  unfold cxC
  apply all_congr
  intro i hi
  have hi := rg_mem.mp hi
  rw [mdC_eq h (bt_andlt _ hr _ (bt_xlt _ (bt_lt i (by omega))))]
theorem hxC_eq {x y : GX} (h : gEq x y) (hx : GOK x) : hxC x = hxC y := by
  obtain ⟨h1, h2, h3⟩ := h
  unfold hxC
  rw [← h2]
  apply all_congr
  intro i hi
  apply all_congr
  intro j hj
  have hi := rg_mem.mp hi
  have hj := rg_mem.mp hj
  have e1 : bN y.2.1 i = bN x.2.1 i := by unfold bN; rw [h3 i hi.2]
  have e2 : bN y.2.1 j = bN x.2.1 j := by unfold bN; rw [h3 j hj.2]
  rw [e1, e2]
  exact cxC_eq h1 (hx.2 i hi.2).2
def gzZ : Nat → Int32 := fun _ => 0
/-- the exchange holds -/
def exO (n : Nat) (F : Nat → Int32) : Bool := hxC (gth n F gzZ gzZ) && decide (0 < (gth n F gzZ gzZ).2.2)
def orO (n : Nat) (F : Nat → Int32) : Bool := decide (bdF n F 0 n = 0) && exO n F
theorem exO_eq {n : Nat} {F β bs : Nat → Int32} (hn6 : n ≤ 6) : (hxC (gth n F β bs) && decide (0 < (gth n F β bs).2.2)) = exO n F := by
  have h := gth_eq (n := n) (f := F) (β := β) (bs := bs) (β' := gzZ) (bs' := gzZ)
  unfold exO
  rw [hxC_eq h (gth_ok hn6 F β bs), h.2.1]
section
variable {d k n : Nat} {m : Mem} {q : MemJ}
theorem gH_fr {β bs : Nat → Int32} {len : Nat} : fr [44, 45, 46] m (gH m β bs len) := fun c hc => by
  simp only [List.mem_cons, List.not_mem_nil, or_false, not_or] at hc
  exact gH_ne hc.1 hc.2.1 hc.2.2
theorem x_R_hx (ho : oC0 k) (hn : m k 0 = nI n) (hn6 : n ≤ 6) : ∃ m', ev (d + 2) 82 0 [.ref 44, .ref k, .null, .null] [] (mk shC m q) = some (some (.int (bI (exO n (m (k + 1))))), mk shC m' q) ∧ fr [44, 45, 46] m m' :=
  ⟨_, (x_R_haveExchange ho hn hn6 rfl).trans (by rw [exO_eq hn6]; rfl), gH_fr⟩
theorem x_R_or (ho : oC0 k) (hn : m k 0 = nI n) (hn6 : n ≤ 6) : ∃ m', ev (d + 7) 87 0 [.ref 44, .ref k] [] (mk shC m q) = some (some (.int (bI (orO n (m (k + 1))))), mk shC m' q) ∧ fr [44, 45, 46] m m' := by
  have X := x_R_areOrderly (d := d) (q := q) ho hn hn6 rfl
  rw [exO_eq hn6] at X
  have e : (if bdF n (m (k + 1)) 0 n = 0 ∧ exO n (m (k + 1)) = true then nI 1 else nI 0) = bI (orO n (m (k + 1))) := by
    unfold orO bI
    by_cases h : bdF n (m (k + 1)) 0 n = 0 <;> simp [h]
  rw [e] at X
  by_cases h : bdF n (m (k + 1)) 0 n = 0
  · rw [if_pos h] at X
    exact ⟨_, X, gH_fr⟩
  · rw [if_neg h] at X
    exact ⟨_, X, fr_rfl⟩
end
