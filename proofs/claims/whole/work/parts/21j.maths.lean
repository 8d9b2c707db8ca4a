/-! answers alike: what is, fives -/
section
variable {n : Nat} {F G R : Nat → Int32} {x y z u v : Int32}
theorem is_eq (h : AR n F G R) (hF : AI F) (hn : n ≤ 6) : ∀ k, isA n F G k = ismA n R k
  | 0 => congrArg bI (ex_eq h hF hn)
  | 1 => congrArg bI (or_eq h hF hn)
  | 2 => congrArg bI (dr_eq h hF hn)
  | k + 3 => by
    show bI (decide (bsO n F = _)) = bI (decide (bsM n R = _))
    rw [bs_eq h hF hn]
theorem fv_eq (hx : elB n x = true) (hy : elB n y = true) (hz : elB n z = true) (hu : elB n u = true) (hv : elB n v = true) (hn : n ≤ 6) : ad5 (eN x) (eN y) (eN z) (eN u) (eN v) = tw5 x y z u v ∧ eN x < n ∧ eN y < n ∧ eN z < n ∧ eN u < n ∧ eN v < n := by
  have k : ∀ w : Int32, elB n w = true → ∃ a, a < n ∧ w = nI a := fun w hw => by
    rcases elB_or n w (by omega) with ⟨h1, _⟩ | ⟨a, ha, h2⟩
    · rw [h1] at hw
      cases hw
    · exact ⟨a, ha, h2⟩
  obtain ⟨a, ha, rfl⟩ := k x hx
  obtain ⟨b, hb, rfl⟩ := k y hy
  obtain ⟨c, hc, rfl⟩ := k z hz
  obtain ⟨d, hd, rfl⟩ := k u hu
  obtain ⟨e, he, rfl⟩ := k v hv
  rw [eN_nI (by omega), eN_nI (by omega), eN_nI (by omega), eN_nI (by omega), eN_nI (by omega)]
  refine ⟨?_, ha, hb, hc, hd, he⟩
  have q : ∀ a b, a < n → b < n → decide (nI a = nI b) = decide (a = b) := fun a b ha hb => by simp only [nI_eq (show a < 2 ^ 31 by omega) (show b < 2 ^ 31 by omega)]
  unfold ad5 tw5
  rw [q a b ha hb, q a c ha hc, q a d ha hd, q a e ha he, q b c hb hc, q b d hb hd, q b e hb he, q c d hc hd, q c e hc he, q d e hd he]
  refine Bool.eq_iff_iff.mpr ?_
  simp only [decide_eq_true_eq, Bool.not_eq_true', Bool.or_eq_false_iff, decide_eq_false_iff_not, ne_eq]
theorem fv_ans (h : AR n F G R) (hF : AI F) (hn : n ≤ 6) : (if (elB n x && elB n y && elB n z && elB n u && elB n v && ad5 (eN x) (eN y) (eN z) (eN u) (eN v)) = true then bI (gd5 F (eN x) (eN y) (eN z) (eN u) (eN v)) else -1001) = (if (elB n x && elB n y && elB n z && elB n u && elB n v && tw5 x y z u v) = true then bI (gM5 R (eN x) (eN y) (eN z) (eN u) (eN v)) else -1001) := by
  cases hx : elB n x with
  | false => rfl
  | true =>
    cases hy : elB n y with
    | false => rfl
    | true =>
      cases hz : elB n z with
      | false => rfl
      | true =>
        cases hu : elB n u with
        | false => rfl
        | true =>
          cases hv : elB n v with
          | false => rfl
          | true =>
            obtain ⟨e, a1, a2, a3, a4, a5⟩ := fv_eq hx hy hz hu hv hn
            rw [e, gd_eq h hF hn a1 a2 a3 a4 a5]
end
