/-! a heap of a fixed shape: only numbers change -/
abbrev Mem : Type := Nat → Nat → Int32
abbrev MemJ : Type := Nat → Int64
/-- a cell's shape: 0 an object (class, fields: none a number, some a reference); 1 ints, 2 booleans, 3 longs; from 4 on references -/
abbrev Sh : Type := Nat × Nat × List (Option Nat)
def am_fv (m : Mem) (k i : Nat) (x : Option Nat) : Value := match x with
  | none => .int (m k i)
  | some r => .ref r
def am_cell (m : Mem) (q : MemJ) (k : Nat) (s : Sh) : AE := match s with
  | (0, ci, t) => .inr (ci, t.mapIdx (fun i x => am_fv m k i x))
  | (1, n, _) => .inl (0, n, .inl (m k))
  | (2, n, _) => .inl (1, n, .inl (m k))
  | (3, n, _) => .inl (2, n, .inr (.inl q))
  | (tg + 1, n, t) => .inl (tg, n, .inr (.inr (.inr (.inr (fun i => t.getD i none)))))
def mk (sh : List Sh) (m : Mem) (q : MemJ) : AH := sh.mapIdx (fun k s => am_cell m q k s)
def mu (m : Mem) (k : Nat) (f : Nat → Int32) : Mem := fun i => if i = k then f else m i
theorem mk_len {sh : List Sh} {m : Mem} {q : MemJ} : (mk sh m q).length = sh.length := by simp [mk]
theorem mk_get {sh : List Sh} {m : Mem} {q : MemJ} {a : Nat} {s : Sh} (h : sh[a]? = some s) : (mk sh m q)[a]? = some (am_cell m q a s) := by simp [mk, h]
theorem mu_same {m : Mem} {k : Nat} {f : Nat → Int32} : mu m k f k = f := by simp [mu]
theorem mu_ne {m : Mem} {k j : Nat} {f : Nat → Int32} (h : j ≠ k) : mu m k f j = m j := by simp [mu, h]
theorem mk_set {sh : List Sh} {m m' : Mem} {q q' : MemJ} {a : Nat} {s : Sh} {y : AE} (h : sh[a]? = some s) (ha : am_cell m' q' a s = y) (ho : ∀ k s', k ≠ a → sh[k]? = some s' → am_cell m' q' k s' = am_cell m q k s') : (mk sh m q).set a y = mk sh m' q' := by
  apply List.ext_getElem?
  intro i
  by_cases hi : a = i
  · subst hi
    rw [mk_get h, ha, List.getElem?_set_self (by rw [mk_len]; exact (List.getElem?_eq_some_iff.mp h).1)]
  · rw [List.getElem?_set_ne hi]
    simp only [mk, List.getElem?_mapIdx]
    cases hs : sh[i]? with
    | none => rfl
    | some s' =>
      simp only [Option.map_some]
      rw [ho i s' (fun e => hi e.symm) hs]
theorem am_cell_mu {m : Mem} {q : MemJ} {a k : Nat} {f : Nat → Int32} {s : Sh} (h : k ≠ a) : am_cell (mu m a f) q k s = am_cell m q k s := by
  unfold am_cell
  split <;> simp only [mu_ne h, am_fv]
theorem mk_set1 {sh : List Sh} {m : Mem} {q : MemJ} {a n : Nat} {t : List (Option Nat)} {f : Nat → Int32} (h : sh[a]? = some (1, n, t)) : (mk sh m q).set a (.inl (0, n, .inl f)) = mk sh (mu m a f) q :=
  mk_set h (by simp [am_cell, mu_same]) fun k s' hk _ => am_cell_mu hk
theorem mk_set2 {sh : List Sh} {m : Mem} {q : MemJ} {a n : Nat} {t : List (Option Nat)} {f : Nat → Int32} (h : sh[a]? = some (2, n, t)) : (mk sh m q).set a (.inl (1, n, .inl f)) = mk sh (mu m a f) q :=
  mk_set h (by simp [am_cell, mu_same]) fun k s' hk _ => am_cell_mu hk
/-- one row of longs alone -/
def sh_one (sh : List Sh) : Prop := ∀ (k k' n n' : Nat) (t t' : List (Option Nat)), sh[k]? = some (3, n, t) → sh[k']? = some (3, n', t') → k = k'
theorem mk_set3 {sh : List Sh} {m : Mem} {q q' : MemJ} {a n : Nat} {t : List (Option Nat)} (h1 : sh_one sh) (h : sh[a]? = some (3, n, t)) : (mk sh m q).set a (.inl (2, n, .inr (.inl q'))) = mk sh m q' :=
  mk_set h rfl fun k s' hk hs => by
    unfold am_cell
    split
    · rfl
    · rfl
    · rfl
    · exact absurd (h1 _ _ _ _ _ _ hs h) hk
    · rfl
theorem mk_set0 {sh : List Sh} {m : Mem} {q : MemJ} {a ci k : Nat} {t : List (Option Nat)} {x : Int32} (h : sh[a]? = some (0, ci, t)) (hk : t[k]? = some none) : (mk sh m q).set a (.inr (ci, (t.mapIdx (fun i x => am_fv m a i x)).set k (.int x))) = mk sh (mu m a (upd (m a) k x)) q := by
  refine mk_set h ?_ fun k s' hk _ => am_cell_mu hk
  simp only [am_cell]
  congr 2
  apply List.ext_getElem?
  intro i
  by_cases hi : k = i
  · subst hi
    have hl : k < t.length := (List.getElem?_eq_some_iff.mp hk).1
    rw [List.getElem?_set_self (by simpa using hl)]
    simp [hk, am_fv, mu_same, upd]
  · rw [List.getElem?_set_ne hi]
    simp only [List.getElem?_mapIdx]
    cases hs : t[i]? with
    | none => rfl
    | some z =>
      cases z with
      | none =>
        simp only [am_fv, mu_same, upd, Option.map_some]
        rw [if_neg (fun e => hi (Eq.symm e))]
      | some r => rfl
/-! the steps that read and write cells, on such heaps -/
def sh_tg (sh : List Sh) (a : Nat) : Nat := match sh[a]? with
  | some s => s.1
  | none => 99
def sh_ln (sh : List Sh) (a : Nat) : Nat := match sh[a]? with
  | some s => s.2.1
  | none => 0
theorem sh_of {sh : List Sh} {a t : Nat} (h : sh_tg sh a = t) (ht : t ≠ 99) : ∃ l, sh[a]? = some (t, sh_ln sh a, l) := by
  unfold sh_tg at h
  unfold sh_ln
  split at h
  · next s hs =>
    rw [hs]
    exact ⟨s.2.2, by rw [← h]⟩
  · exact absurd h.symm ht
section EVM
variable {d j pc : Nat} {vs st : List Value} {h : AH} {b : ByteArray} {nl : Nat} {rt : Option FieldType} {y : MethodName} {o : Nat} {sh : List Sh} {m : Mem} {q : MemJ} {a : Nat}
theorem ev_getI {x ci k kd : Nat} {fin : Bool} {t : List (Option Nat)} (hm : mt j = some (b, nl, rt, y, o)) (hd : decode b pc = .ok (.getfield x, 3)) (hf : fl o x = some (ci, k, kd, fin)) (hs : sh[a]? = some (0, ci, t)) (ht : t[k]? = some none) : ev d j pc vs (.ref a :: st) (mk sh m q) = ev d j (pc + 3) vs (.int (m a k) :: st) (mk sh m q) := by
  refine ev_mem hm hd rfl rfl rfl ?_
  simp only [am_mem, hf, mk_get hs, am_cell, List.getElem?_mapIdx, ht, Option.map_some, am_fv, if_true]
theorem ev_getR {x ci k kd r : Nat} {fin : Bool} {t : List (Option Nat)} (hm : mt j = some (b, nl, rt, y, o)) (hd : decode b pc = .ok (.getfield x, 3)) (hf : fl o x = some (ci, k, kd, fin)) (hs : sh[a]? = some (0, ci, t)) (ht : t[k]? = some (some r)) : ev d j pc vs (.ref a :: st) (mk sh m q) = ev d j (pc + 3) vs (.ref r :: st) (mk sh m q) := by
  refine ev_mem hm hd rfl rfl rfl ?_
  simp only [am_mem, hf, mk_get hs, am_cell, List.getElem?_mapIdx, ht, Option.map_some, am_fv, if_true]
theorem ev_putI {x ci k kd : Nat} {v : Int32} {t : List (Option Nat)} (hm : mt j = some (b, nl, rt, y, o)) (hd : decode b pc = .ok (.putfield x, 3)) (hf : fl o x = some (ci, k, kd, false)) (hs : sh[a]? = some (0, ci, t)) (ht : t[k]? = some none) (hk : am_fit kd (.int v) = true) : ev d j pc vs (.int v :: .ref a :: st) (mk sh m q) = ev d j (pc + 3) vs st (mk sh (mu m a (upd (m a) k v)) q) := by
  refine ev_mem hm hd rfl rfl rfl ?_
  have hl : k < t.length := (List.getElem?_eq_some_iff.mp ht).1
  simp only [am_mem, hf, mk_get hs, am_cell, List.length_mapIdx]
  rw [if_pos ⟨trivial, hl, hk, fun h => by cases h⟩, mk_set0 hs ht]
theorem ev_alen {t : Nat} (hm : mt j = some (b, nl, rt, y, o)) (hd : decode b pc = .ok (.arraylength, 1)) (hs : sh_tg sh a = t) (ht : t ≠ 0 ∧ t < 7) : ev d j pc vs (.ref a :: st) (mk sh m q) = ev d j (pc + 1) vs (.int (Int32.ofNat (sh_ln sh a)) :: st) (mk sh m q) := by
  obtain ⟨l, hs⟩ := sh_of hs (by omega)
  refine ev_mem hm hd rfl rfl rfl ?_
  obtain ⟨h1, h2⟩ := ht
  simp only [am_mem, mk_get hs]
  match t, h1, h2 with
  | 1, _, _ => rfl
  | 2, _, _ => rfl
  | 3, _, _ => rfl
  | 4, _, _ => rfl
  | 5, _, _ => rfl
  | 6, _, _ => rfl
theorem ev_ild {i : Int32} (hm : mt j = some (b, nl, rt, y, o)) (hd : decode b pc = .ok (.iaload, 1)) (hs : sh_tg sh a = 1) (hi : am_in i (sh_ln sh a) = true) : ev d j pc vs (.int i :: .ref a :: st) (mk sh m q) = ev d j (pc + 1) vs (.int (m a i.toNatClampNeg) :: st) (mk sh m q) := by
  obtain ⟨l, hs⟩ := sh_of hs (by decide)
  refine ev_mem hm hd rfl rfl rfl ?_
  simp only [am_mem, mk_get hs, am_cell, hi, if_true]
theorem ev_zld {i : Int32} (hm : mt j = some (b, nl, rt, y, o)) (hd : decode b pc = .ok (.baload, 1)) (hs : sh_tg sh a = 2) (hi : am_in i (sh_ln sh a) = true) : ev d j pc vs (.int i :: .ref a :: st) (mk sh m q) = ev d j (pc + 1) vs (.int (m a i.toNatClampNeg) :: st) (mk sh m q) := by
  obtain ⟨l, hs⟩ := sh_of hs (by decide)
  refine ev_mem hm hd rfl rfl rfl ?_
  simp only [am_mem, mk_get hs, am_cell, hi, if_true]
theorem ev_jld {i : Int32} (hm : mt j = some (b, nl, rt, y, o)) (hd : decode b pc = .ok (.laload, 1)) (hs : sh_tg sh a = 3) (hi : am_in i (sh_ln sh a) = true) : ev d j pc vs (.int i :: .ref a :: st) (mk sh m q) = ev d j (pc + 1) vs (.long (q i.toNatClampNeg) :: st) (mk sh m q) := by
  obtain ⟨l, hs⟩ := sh_of hs (by decide)
  refine ev_mem hm hd rfl rfl rfl ?_
  simp only [am_mem, mk_get hs, am_cell, hi, if_true]
theorem ev_ald {i : Int32} {t n r : Nat} {l : List (Option Nat)} (hm : mt j = some (b, nl, rt, y, o)) (hd : decode b pc = .ok (.aaload, 1)) (hs : sh[a]? = some (t + 4, n, l)) (ht : t < 3) (hi : am_in i n = true) (hr : l.getD i.toNatClampNeg none = some r) : ev d j pc vs (.int i :: .ref a :: st) (mk sh m q) = ev d j (pc + 1) vs (.ref r :: st) (mk sh m q) := by
  refine ev_mem hm hd rfl rfl rfl ?_
  simp only [am_mem, mk_get hs, am_cell, hi, hr, am_rf]
  rw [if_pos ⟨trivial, by omega, by omega⟩]
theorem ev_ist {i x : Int32} (hm : mt j = some (b, nl, rt, y, o)) (hd : decode b pc = .ok (.iastore, 1)) (hs : sh_tg sh a = 1) (hi : am_in i (sh_ln sh a) = true) : ev d j pc vs (.int x :: .int i :: .ref a :: st) (mk sh m q) = ev d j (pc + 1) vs st (mk sh (mu m a (upd (m a) i.toNatClampNeg x)) q) := by
  obtain ⟨l, hs⟩ := sh_of hs (by decide)
  refine ev_mem hm hd rfl rfl rfl ?_
  simp only [am_mem, mk_get hs, am_cell, hi, if_true, mk_set1 hs]
theorem ev_zst {i x : Int32} (hm : mt j = some (b, nl, rt, y, o)) (hd : decode b pc = .ok (.bastore, 1)) (hs : sh_tg sh a = 2) (hi : am_in i (sh_ln sh a) = true) : ev d j pc vs (.int x :: .int i :: .ref a :: st) (mk sh m q) = ev d j (pc + 1) vs st (mk sh (mu m a (upd (m a) i.toNatClampNeg (vp_nar .boolean x))) q) := by
  obtain ⟨l, hs⟩ := sh_of hs (by decide)
  refine ev_mem hm hd rfl rfl rfl ?_
  simp only [am_mem, mk_get hs, am_cell, hi, if_true, mk_set2 hs]
theorem ev_jst {i : Int32} {x : Int64} (h1 : sh_one sh) (hm : mt j = some (b, nl, rt, y, o)) (hd : decode b pc = .ok (.lastore, 1)) (hs : sh_tg sh a = 3) (hi : am_in i (sh_ln sh a) = true) : ev d j pc vs (.long x :: .int i :: .ref a :: st) (mk sh m q) = ev d j (pc + 1) vs st (mk sh m (vp_updL q i.toNatClampNeg x)) := by
  obtain ⟨l, hs⟩ := sh_of hs (by decide)
  refine ev_mem hm hd rfl rfl rfl ?_
  simp only [am_mem, mk_get hs, am_cell, hi, if_true, mk_set3 h1 hs]
theorem ev_cpy {x bb q1 q2 : Nat} {sp dp n : Int32} (hm : mt j = some (b, nl, rt, y, o)) (hd : decode b pc = .ok (.invokestatic x, 3)) (hl : ml o x = some (4, q1, q2)) (hs : sh_tg sh a = 1) (hs' : sh_tg sh bb = 1) (h1 : ¬ sp < 0) (h2 : ¬ dp < 0) (h3 : ¬ n < 0) (h4 : sp.toNatClampNeg + n.toNatClampNeg ≤ sh_ln sh a) (h5 : dp.toNatClampNeg + n.toNatClampNeg ≤ sh_ln sh bb) (hp : am_pw st ≤ 8) :
    ev (d + 5) j pc vs (.int n :: .int dp :: .ref bb :: .int sp :: .ref a :: st) (mk sh m q) = ev (d + 5) j (pc + 3) vs st (mk sh (mu m bb (va_cpy (m a) (m bb) sp.toNatClampNeg dp.toNatClampNeg n.toNatClampNeg)) q) := by
  obtain ⟨l, hs⟩ := sh_of hs (by decide)
  obtain ⟨l', hs'⟩ := sh_of hs' (by decide)
  refine ev_prim hm hd rfl rfl (by simp [am_call, hl]) rfl rfl rfl ?_
  simp only [am_tag, hl, am_prim, mk_get hs, mk_get hs', am_cell]
  rw [if_pos ⟨h1, h2, h3, h4, h5, hp⟩, mk_set1 hs']
/-- a call of an object's method -/
theorem ev_calV {x c n ci : Nat} {N : MI} {as rest : List Value} {t : List (Option Nat)} (hm : mt j = some (b, nl, rt, y, o)) (hd : decode b pc = .ok (.invokevirtual x, 3)) (hl : ml o x = some (0, c, n)) (hN : mt c = some N) (hn : (am_sl (.ref a :: as.reverse)).length ≤ N.2.1) (hg : am_lgs c = true ∨ (.ref a :: as.reverse).all (fun v => v.category == 1) = true) (ha : as.length = n) (hs : sh[a]? = some (0, ci, t)) (ho : am_oc ci = N.2.2.2.2) (hc : ci < 12) (hp : am_pw rest ≤ 8) :
    ev (d + 1) j pc vs (as ++ .ref a :: rest) (mk sh m q) = (ev d c 0 (am_locs N.2.1 (.ref a :: as.reverse)) [] (mk sh m q)).bind fun z => ev (d + 1) j (pc + 3) vs (z.1.toList ++ rest) z.2 := by
  refine ev_call hm hd rfl rfl ?_ hN hn hg
  have hr : am_recv c a (mk sh m q) = true := by
    simp only [am_recv, mk_get hs, am_cell, am_own, hN, ho]
    simp [hc]
  simp only [am_call, hl]
  rw [List.drop_append_of_le_length (by omega), List.drop_of_length_le (by omega), List.take_append_of_le_length (by omega), List.take_of_length_le (by omega)]
  simp [ha, hr, hp]
theorem ev_calS {x c n : Nat} {N : MI} {as rest : List Value} (hm : mt j = some (b, nl, rt, y, o)) (hd : decode b pc = .ok (.invokestatic x, 3)) (hl : ml o x = some (1, c, n)) (hN : mt c = some N) (hn : (am_sl as.reverse).length ≤ N.2.1) (hg : am_lgs c = true ∨ as.reverse.all (fun v => v.category == 1) = true) (ha : as.length = n) (hp : am_pw rest ≤ 8) :
    ev (d + 1) j pc vs (as ++ rest) h = (ev d c 0 (am_locs N.2.1 as.reverse) [] h).bind fun z => ev (d + 1) j (pc + 3) vs (z.1.toList ++ rest) z.2 := by
  refine ev_call hm hd rfl rfl ?_ hN hn hg
  simp only [am_call, hl]
  rw [List.drop_append_of_le_length (by omega), List.drop_of_length_le (by omega), List.take_append_of_le_length (by omega), List.take_of_length_le (by omega)]
  simp [ha, hp]
end EVM
