/-! the shape of what the constructors leave -/
def mO (h : AH) (k i : Nat) : Int32 := match h[k]? with
  | some (.inl (_, _, .inl f)) => f i
  | some (.inr (_, fs)) => (match fs[i]? with
    | some (.int x) => x
    | _ => 0)
  | _ => 0
def qE (e : Option AE) (i : Nat) : Int64 := match e with
  | some (.inl (_, _, .inr (.inl f))) => f i
  | _ => 0
def qO (h : AH) (i : Nat) : Int64 := qE h[63]? i
def shF (x : Option (Option Nat)) (v : Option Value) : Bool := match x, v with
  | some none, some (.int _) => true
  | some (some r), some (.ref r') => r == r'
  | _, _ => false
def shB (k : Nat) (s : Sh) (e : AE) : Bool := match s, e with
  | (0, ci, t), .inr (cj, fs) => ci == cj && (t.length == fs.length && (rg 0 t.length).all fun i => shF t[i]? fs[i]?)
  | (1, n, _), .inl (0, n', .inl _) => n == n'
  | (2, n, _), .inl (1, n', .inl _) => n == n'
  | (3, n, _), .inl (2, n', .inr (.inl _)) => n == n' && k == 63
  | (tg + 4, n, t), .inl (tg', n', .inr (.inr (.inr (.inr f)))) => (tg + 3 == tg' && n == n') && (t.length == n && (rg 0 n).all fun i => f i == t.getD i none)
  | _, _ => false
def shA (sh : List Sh) (h : AH) : Bool := sh.length == h.length && (rg 0 sh.length).all fun k => match sh[k]?, h[k]? with
  | some s, some e => shB k s e
  | _, _ => false
section
variable {h : AH} {k : Nat} {s : Sh} {e : AE} {sh : List Sh}
theorem shF_n {v : Value} (hb : shF (some none) (some v) = true) : ∃ z, v = .int z := by
  cases v with
  | int z => exact ⟨z, rfl⟩
  | _ => cases hb
theorem shF_r {v : Value} {r : Nat} (hb : shF (some (some r)) (some v) = true) : v = .ref r := by
  cases v with
  | ref r' =>
    have : r = r' := eq_of_beq (show (r == r') = true from hb)
    rw [this]
  | _ => cases hb
theorem shB_ok (hk : h[k]? = some e) (hw : wfE e) (hb : shB k s e = true) : am_cell (mO h) (qO h) k s = e := by
  unfold shB at hb
  split at hb
  · next ci t cj fs =>
    rw [Bool.and_eq_true_iff, Bool.and_eq_true_iff] at hb
    obtain ⟨h1, h2, h3⟩ := hb
    have h1 := eq_of_beq h1
    have h2 := eq_of_beq h2
    subst h1
    show Sum.inr (ci, t.mapIdx (fun i x => am_fv (mO h) k i x)) = Sum.inr (ci, fs)
    congr 2
    apply List.ext_getElem?
    intro i
    rw [List.getElem?_mapIdx]
    by_cases hi : i < t.length
    · have h3 := List.all_eq_true.mp h3 i (rg_mem.mpr ⟨Nat.zero_le _, hi⟩)
      rw [List.getElem?_eq_getElem hi, List.getElem?_eq_getElem (show i < fs.length by omega)] at h3 ⊢
      rw [Option.map_some]
      congr 1
      cases hx : t[i] with
      | none =>
        rw [hx] at h3
        obtain ⟨z, hz⟩ := shF_n h3
        unfold am_fv
        rw [hz]
        unfold mO
        rw [hk]
        show Value.int (match fs[i]? with
          | some (.int x) => x
          | _ => 0) = .int z
        rw [List.getElem?_eq_getElem (show i < fs.length by omega), hz]
      | some r =>
        rw [hx] at h3
        rw [shF_r h3]
        rfl
    · rw [List.getElem?_eq_none (show t.length ≤ i by omega), List.getElem?_eq_none (show fs.length ≤ i by omega)]
      rfl
  · next n t n' f =>
    have h1 := eq_of_beq hb
    subst h1
    have : mO h k = f := by
      funext i
      unfold mO
      rw [hk]
    show Sum.inl (0, n, Sum.inl (mO h k)) = _
    rw [this]
  · next n t n' f =>
    have h1 := eq_of_beq hb
    subst h1
    have : mO h k = f := by
      funext i
      unfold mO
      rw [hk]
    show Sum.inl (1, n, Sum.inl (mO h k)) = _
    rw [this]
  · next n t n' f =>
    rw [Bool.and_eq_true_iff] at hb
    have h1 := eq_of_beq hb.1
    have h2 := eq_of_beq hb.2
    subst h1
    subst h2
    have : qO h = f := by
      funext i
      unfold qO
      rw [hk]
      rfl
    show Sum.inl (2, n, Sum.inr (Sum.inl (qO h))) = _
    rw [this]
  · next tg n t tg' n' f =>
    rw [Bool.and_eq_true_iff, Bool.and_eq_true_iff, Bool.and_eq_true_iff] at hb
    obtain ⟨⟨h1, h2⟩, h3, h4⟩ := hb
    have h1 := eq_of_beq h1
    have h2 := eq_of_beq h2
    have h3 := eq_of_beq h3
    subst h1
    subst h2
    have hw : ∀ i, n ≤ i → f i = none := hw
    have : (fun i => t.getD i none) = f := by
      funext i
      by_cases hi : i < n
      · exact (eq_of_beq (List.all_eq_true.mp h4 i (rg_mem.mpr ⟨Nat.zero_le _, hi⟩))).symm
      · rw [hw i (by omega), List.getD_eq_getElem?_getD, List.getElem?_eq_none (by omega)]
        rfl
    show Sum.inl (tg + 3, n, Sum.inr (Sum.inr (Sum.inr (Sum.inr (fun i => t.getD i none))))) = _
    rw [this]
  · cases hb
theorem shA_ok (hw : wfH h) (hb : shA sh h = true) : h = mk sh (mO h) (qO h) := by
  unfold shA at hb
  rw [Bool.and_eq_true_iff] at hb
  have hl := eq_of_beq hb.1
  apply List.ext_getElem?
  intro k
  by_cases hk : k < sh.length
  · have h2 := List.all_eq_true.mp hb.2 k (rg_mem.mpr ⟨Nat.zero_le _, hk⟩)
    have e1 := List.getElem?_eq_getElem hk
    have e2 := List.getElem?_eq_getElem (show k < h.length by omega)
    rw [e1, e2] at h2
    rw [mk_get e1, e2, shB_ok e2 (wf_at hw e2) h2]
  · rw [List.getElem?_eq_none (show h.length ≤ k by omega), List.getElem?_eq_none (by rw [mk_len]; omega)]
end
/-- all that is to be seen at the start -/
def eqI (x y : Int32) : Bool := decide (x = y)
def iniA (m mm : Mem) : Bool := ((rg 0 216).all fun i => eqI (m 2 i) 0 || (eqI (m 2 i) 1 || eqI (m 2 i) (-1))) && (rg 0 6).all fun a => (rg 0 6).all fun b => (rg 0 6).all fun c => if a = b ∨ a = c ∨ b = c then eqI (m 2 (i6 a b c)) 0 else eqI (m 2 (i6 a b c)) (mS (mm 1) a b c)
def iniP (m mm : Mem) : Bool := (rg 0 3).all fun e => (rg 0 3).all fun i => eqI (m 3 (e * 3 + i)) (mco (mm 1) e i)
def iniF (m mm : Mem) : Bool := (((eqI (m 1 0) (nI 3) && eqI (mm 1 0) (nI 3)) && (eqI (m 43 5) (nI 0) && eqI (m 43 7) (nI 0))) && ((eqI (m 43 8) (-1) && eqI (m 43 9) (-1)) && (rg 0 4).all fun i => eqI (m 49 i) (nI 0))) && (((eqI (m 7 1) (nI 0) && eqI (m 7 2) (nI 0)) && (eqI (mm 0 1) (nI 0) && (rg 0 2).all fun k => eqI (m 34 k) (nI 0) && eqI (mm 2 k) (nI 0))) && ((eqI (m 41 1) (nI 0) && eqI (mm 0 4) (nI 0)) && (rg 0 3).all fun b => (((rg 0 3).all fun i => eqI (m (69 + 3 * b) i) (nI 0)) && eqI (mm 4 b) (-1)) && (rg 0 6).all fun i => eqI (m (69 + 3 * b + 1) i) (nI 0) && eqI (m (69 + 3 * b + 2) i) (nI 0)))
theorem ini_s : (shA shC hC1 && shA shM hM1) = true := by decide +kernel
theorem ini_t : (iniA (mO hC1) (mO hM1) && (iniP (mO hC1) (mO hM1) && iniF (mO hC1) (mO hM1))) = true := by decide +kernel
