/-! keys -/
def kO (l : List Nat) : Nat := l.foldl (fun k e => 4 * k + e) 0
theorem kO_sn {l : List Nat} {e : Nat} : kO (l ++ [e]) = 4 * kO l + e := by simp [kO]
def cpK (x y : Nat) : Nat := (x &&& (3 * (x &&& 1365) ^^^ 4294967295)) ||| (y &&& 3 * (x &&& 1365))
def spK (x y : Nat) : Nat := ((x ^^^ y) ||| ((x ^^^ y) >>> 1)) &&& 1365
def pcI (x : Int32) : Int32 :=
  let a := x - ((x.toUInt32 >>> ((nI 1).toUInt32 &&& Int32.toUInt32 31)).toInt32 &&& 1431655765)
  let b := (a &&& 858993459) + ((a.toUInt32 >>> ((nI 2).toUInt32 &&& Int32.toUInt32 31)).toInt32 &&& 858993459)
  let c := (b + (b.toUInt32 >>> ((nI 4).toUInt32 &&& Int32.toUInt32 31)).toInt32) &&& 252645135
  let e := c + (c.toUInt32 >>> ((nI 8).toUInt32 &&& Int32.toUInt32 31)).toInt32
  let g := e + (e.toUInt32 >>> ((nI 16).toUInt32 &&& Int32.toUInt32 31)).toInt32
  g &&& nI 63
/-- ones of the last r bits -/
def ons : Nat → Nat → Nat
  | 0, _ => 0
  | r + 1, x => x % 2 + ons r (x / 2)
theorem pcI_sq : ∀ a, a < 64 → ∀ b, b < 64 → pcI (nI (64 * a + b)) = nI (ons 12 (64 * a + b)) := by decide +kernel
theorem pcI_4096 (x : Nat) (hx : x < 4096) : pcI (nI x) = nI (ons 12 x) := by
  have := pcI_sq (x / 64) (by omega) (x % 64) (by omega)
  rwa [show 64 * (x / 64) + x % 64 = x by omega] at this
theorem x_I_bitCount {d : Nat} {x : Int32} {h : AH} : ev d 78 0 [.int x] [] h = some (some (.int (pcI x)), h) := by
  simp only [s78_0, s78_1, s78_2, s78_3, s78_4, s78_7, s78_8, s78_9, s78_10, s78_11, s78_14, s78_15, s78_16, s78_17, s78_18, s78_21, s78_22, s78_23, s78_24, s78_25, s78_26, s78_27, s78_28, s78_29, s78_32, s78_33, s78_34, s78_35, s78_36, s78_38, s78_39, s78_40, s78_41, s78_42, s78_43, s78_45, s78_46, s78_47, s78_48, s78_49, s78_51, s78_52]
  rfl
theorem x_K_zero {d n : Nat} {h : AH} (hn : n ≤ 6) : ev d 99 0 [.int (nI n)] [] h = some (some (.int (nI (kO (List.replicate n 1)))), h) := by
  simp only [s99_0, s99_3, s99_4, s99_5, s99_6, s99_7, s99_8, s99_9, s99_10, s99_11]
  match n, hn with
  | 0, _ => rfl
  | 1, _ => rfl
  | 2, _ => rfl
  | 3, _ => rfl
  | 4, _ => rfl
  | 5, _ => rfl
  | 6, _ => rfl
theorem x_K_withNumber {d k e : Nat} {s : Int32} {h : AH} (hs : s + nI 1 = nI e) (he : e < 4) : ev d 101 0 [.int (nI k), .int s] [] h = some (some (.int (nI (4 * k + e))), h) := by
  simp only [s101_0, s101_1, s101_2, s101_3, s101_4, s101_5, s101_6, s101_7, hs, nI_shl (show 2 < 32 by decide), nI_or]
  have := ad_or (x := k) (y := 0) (show 0 < 4 by decide) he
  simp only [Nat.mul_zero, Nat.zero_add, Nat.add_zero, Nat.or_zero, Nat.zero_or] at this
  rw [show k * 2 ^ 2 = 4 * k by omega, this]
theorem x_K_opposite {d k z : Nat} {h : AH} (hk : k ≤ 2 * z) : ev d 104 0 [.int (nI k), .int (nI z)] [] h = some (some (.int (nI (2 * z - k))), h) := by
  simp only [s104_0, s104_1, s104_2, s104_3, s104_4, s104_5, pk_mul, nI_sub hk]
theorem x_K_composed {d x y : Nat} {h : AH} : ev d 111 0 [.int (nI x), .int (nI y), .null] [] h = some (some (.int (nI (cpK x y))), h) := by
  simp only [s111_0, s111_1, s111_2, s111_5, s111_6, s111_7, s111_8, s111_9, s111_10, s111_11, s111_12, s111_13, s111_14, s111_15, s111_16, s111_17, nI_neg1, nI_and, nI_or, nI_xor, pk_mul]
  rfl
theorem x_K_separation {d x y : Nat} {h : AH} (hx : x < 4096) (hy : y < 4096) : ev d 120 0 [.int (nI x), .int (nI y), .null] [] h = some (some (.int (nI (spK x y))), h) := by
  have hxy : x ^^^ y < 2 ^ 12 := Nat.xor_lt_two_pow (show x < 2 ^ 12 from hx) (show y < 2 ^ 12 from hy)
  simp only [s120_0, s120_1, s120_2, s120_3, s120_4, s120_5, s120_6, s120_7, s120_8, s120_9, s120_12, s120_13, nI_xor, nI_shr (show x ^^^ y < 2 ^ 31 by omega) (show 1 < 32 by decide), nI_or, nI_and]
  rfl
theorem x_K_zeros {d x : Nat} {h : AH} : ev (d + 1) 113 0 [.int (nI x)] [] h = some (some (.int (nI (ons 12 (x &&& 1365)))), h) := by
  have hx : x &&& 1365 < 2 ^ 12 := Nat.and_lt_two_pow x (show 1365 < 2 ^ 12 by decide)
  simp only [s113_0, s113_1, s113_4, s113_5, s113_8, nI_and, x_I_bitCount, pcI_4096 (x &&& 1365) hx, Option.bind_some, Option.toList_some, Option.toList_none, List.nil_append, List.cons_append]
theorem x_K_numberAt {d k n e : Nat} {h : AH} (hk : k < 4096) (hn : n ≤ 6) (he : e < n) : ev d 115 0 [.int (nI k), .int (nI n), .int (nI e)] [] h = some (some (.int (nI ((k >>> (2 * (n - 1 - e))) &&& 3) - nI 1)), h) := by
  simp only [s115_0, s115_1, s115_2, s115_3, s115_4, s115_5, s115_6, s115_7, s115_8, s115_9, s115_10, s115_11, s115_12, s115_13, nI_sub (show 1 ≤ n by omega), nI_sub (show e ≤ n - 1 by omega), pk_mul, nI_shr (show k < 2 ^ 31 by omega) (show 2 * (n - 1 - e) < 32 by omega), nI_and]
/-! rows of vectors -/
theorem x_W_length {d a : Nat} {m : Mem} {q : MemJ} (ho : oC8 a) : ev d 109 0 [.ref a] [] (mk shC m q) = some (some (.int (m a 2)), mk shC m q) := by
  simp only [s109_0, s109_1, s109_4, ho]
theorem x_W_at {d a k : Nat} {m : Mem} {q : MemJ} (ho : oC8 a) (hk : k < 729) : ev d 110 0 [.ref a, .int (nI k)] [] (mk shC m q) = some (some (.int (m (a + 1) k)), mk shC m q) := by
  simp only [s110_0, s110_1, s110_4, s110_5, s110_6, ho, oC8_t1 ho, oC8_n1 ho, hk]
theorem x_W_has_t {d a k l : Nat} {m : Mem} {q : MemJ} (ho : oC8 a) (hl : m a 2 = nI l) (hl2 : l < 2 ^ 31) (hk : k < l) : ev d 114 0 [.ref a, .int (nI k)] [] (mk shC m q) = some (some (.int (nI 1)), mk shC m q) := by
  simp only [s114_0, s114_1, s114_4, s114_5, s114_6, s114_9, s114_12, s114_13, s114_16, s114_17, ho, hl, show ¬ nI k < 0 by rw [show (0 : Int32) = nI 0 from rfl, nI_ltI (by omega) (by decide)]; omega, nI_lt hk hl2, if_true, if_false, am_b1]
theorem x_W_has_f {d a l : Nat} {x : Int32} {m : Mem} {q : MemJ} (ho : oC8 a) (hl : m a 2 = nI l) (hx : nel l x) : ev d 114 0 [.ref a, .int x] [] (mk shC m q) = some (some (.int (nI 0)), mk shC m q) := by
  rcases hx with h | h
  · simp only [s114_0, s114_1, s114_4, s114_5, s114_6, s114_9, s114_12, s114_13, s114_16, s114_17, h, if_true, am_b0]
  · have h2 : ¬ x < nI l := Int32.not_lt.mpr h
    simp only [s114_0, s114_1, s114_4, s114_5, s114_6, s114_9, s114_12, s114_13, s114_16, s114_17, ho, hl, h2, if_false, am_b0, ite_self]
theorem x_Y_fill {d a l : Nat} {x : Int32} {m : Mem} {q : MemJ} (ht : sh_tg shC a = 1) (hl : sh_ln shC a = l) (hl2 : l < 1000) : ∃ f, (∀ i, i < l → f i = x) ∧ ev d 98 0 [.ref a, .int x, .null, .null] [] (mk shC m q) = some (none, mk shC (mu m a f) q) := by
  have L := ev_for1 (fun _ => True) (fun i (f : Nat → Int32) (_ : Unit) => ev d 98 5 [.ref a, .int x, .int (nI i), .int (nI l)] [] (mk shC (mu m a f) q)) (fun f => some (none, mk shC (mu m a f) q)) (fun i f => upd f i x) l
    (fun f _ _ => by rw [s98_5]; simp only [s98_0, s98_1, s98_2, s98_3, s98_4, s98_6, s98_7, s98_10, s98_11, s98_12, s98_13, s98_14, s98_17, s98_20, nI_irr, if_false])
    (fun _ _ _ _ => trivial)
    (fun i f _ hi _ => ⟨(), by
      rw [s98_5]
      simp only [s98_0, s98_1, s98_2, s98_3, s98_4, s98_6, s98_7, s98_10, s98_11, s98_12, s98_13, s98_14, s98_17, s98_20, nI_lt hi (show l < 2 ^ 31 by omega), if_true, ht, hl, hi, mu_same, mu_mu, nI_add]⟩) 0 (Nat.zero_le _) (m a) () trivial
  rw [mu_self] at L
  refine ⟨(rg 0 l).foldl (fun f i => upd f i x) (m a), ?_, by
    simp only [s98_0, s98_1, s98_2, s98_3, s98_4, s98_6, s98_7, s98_10, s98_11, s98_12, s98_13, s98_14, s98_17, s98_20, ht, hl]
    exact L⟩
  · intro i hi
    have : ∀ k j f, j + k = l → (∀ i, i < j → f i = x) → ∀ i, i < l → ((rg j l).foldl (fun f i => upd f i x) f) i = x := by
      intro k
      induction k with
      | zero =>
        intro j f hj hf
        obtain rfl : j = l := by omega
        rw [rg_end]
        exact hf
      | succ k ih =>
        intro j f hj hf
        rw [rg_cons (show j < l by omega)]
        apply ih (j + 1) _ (by omega)
        intro i hi
        simp only [upd]
        split
        · rfl
        · exact hf i (by omega)
    exact this l 0 (m a) (by omega) (fun i hi => absurd hi (Nat.not_lt_zero i)) i hi
