/-! THE ABSTRACT MACHINE: references are places in a list of cells; the code is the bytecode itself, by the kit's decode -/
abbrev AE : Type := (Nat × vp_A) ⊕ (Nat × List Value)
abbrev AH : Type := List AE
def am_bool (x : Int32) : Bool := decide (x = 0) || decide (x = 1)
def am_in (i : Int32) (n : Nat) : Bool := !(decide (i < 0) || decide (n ≤ i.toNatClampNeg))
def am_rf : Option Nat → Value
  | none => .null
  | some a => .ref a
def am_jmp (pc : Nat) (off : Int) : Nat := ((pc : Int) + off).toNat
def am_jok (pc : Nat) (off : Int) : Bool := decide (0 ≤ (pc : Int) + off)
/-- arguments as locals: a long takes two places -/
def am_sl : List Value → List Value
  | [] => []
  | v :: vs => v :: (if v.category = 2 then .null :: am_sl vs else am_sl vs)
def am_locs (n : Nat) (as : List Value) : List Value := am_sl as ++ List.replicate (n - (am_sl as).length) .null
/-- is the place behind a long's first half -/
def am_half (vs : List Value) (i : Nat) : Bool := match i with
  | 0 => false
  | k + 1 => (vs.getD k .null).category == 2
/-- the methods that keep longs in their locals -/
def am_lgs (j : Nat) : Bool := [123, 126, 127, 166].contains j
def am_st1 (lg : Bool) (vs : List Value) (i : Nat) (v : Value) : Option (List Value) :=
  if i < vs.length then (if (lg && am_half vs i) = true then none else some (vs.set i v)) else none
def am_st2 (lg : Bool) (vs : List Value) (i : Nat) (v : Value) : Option (List Value) :=
  if i + 1 < vs.length then (if am_half vs i = true ∨ lg = false then none else some ((vs.set i v).set (i + 1) .null)) else none
/-- may a field of this kind (0 int, 1 boolean, 2 a reference) hold the value -/
def am_fit (k : Nat) (v : Value) : Bool := match k, v with
  | 0, .int _ => true
  | 1, .int x => am_bool x
  | 2, .ref _ => true
  | _, _ => false
abbrev AS : Type := Nat × List Value × List Value × AH
def am_cond (c : ClassFile.Cond) (x : Int32) (y : Int32) : Bool := match c with
  | .eq => decide (x = y)
  | .ne => decide (¬ x = y)
  | .lt => decide (x < y)
  | .ge => decide (y ≤ x)
  | .gt => decide (y < x)
  | .le => decide (x ≤ y)
def am_ld (vs : List Value) (i : Nat) : Value := vs.getD i .null
def am_sto (o : Option (List Value)) (pc : Nat) (st : List Value) (h : AH) : Option AS := match o with
  | some vs => some (pc, vs, st, h)
  | none => none
def am_pw (st : List Value) : Nat := (st.map fun v => v.category).sum
/-- the class's number behind a place of vwCl -/
def am_oc (ci : Nat) : Nat := match ci with
  | 0 => 0 | 1 => 1 | 2 => 2 | 3 => 3 | 4 => 4 | 5 => 6 | 6 => 7 | 7 => 8 | 8 => 9 | 9 => 10 | 10 => 11 | 11 => 12 | _ => 99
def am_own (c : Nat) : Nat := match mt c with
  | some M => M.2.2.2.2
  | none => 98
def am_recv (c a : Nat) (h : AH) : Bool := match h[a]? with
  | some (.inr (ci, _)) => am_oc ci == am_own c && decide (ci < 12)
  | _ => false
/-- default fields of a class -/
def am_df (ci : Nat) : List Value := match ci with
  | 0 => [.int 0, .null, .null]
  | 1 => [.int 0, .int 0, .int 0, .null, .null]
  | 2 => [.null, .null, .null, .null, .null, .int 0, .int 0, .int 0, .int 0, .int 0]
  | 3 => [.null]
  | 4 => [.null, .int 0, .int 0]
  | 5 => [.null, .null, .int 0]
  | 6 => [.null, .int 0, .int 0, .int 0, .int 0, .int 0]
  | 7 => [.null, .int 0]
  | 8 => [.null, .null, .int 0]
  | 9 => [.null, .null]
  | 10 => [.null, .null, .null, .null, .null, .null, .null, .null]
  | 11 => [.null, .int 0, .null, .null, .int 0, .null, .null, .null, .null, .int 0, .int 0, .int 0, .int 0, .int 0, .null, .null, .null, .null, .int 0, .null, .null, .int 0, .null]
  | _ => []
def am_tc (a : ArrayType) : Nat := match a with
  | .int => 0
  | .boolean => 1
  | .long => 2
  | _ => 9
def am_z (t n : Nat) : vp_A := match t with
  | 0 => (n, .inl (fun _ => 0))
  | 1 => (n, .inl (fun _ => 0))
  | 2 => (n, .inr (.inl (fun _ => 0)))
  | _ => (n, .inr (.inr (.inr (.inr (fun _ => none)))))
def am_ec (t : Nat) : Nat := match t with
  | 3 => 0 | 4 => 1 | 5 => 8 | _ => 99
def am_str : Nat := 1000000
/-- what a method answers -/
def am_fin (ret : Option FieldType) (i : Instr) (st : List Value) : Option (Option Value) := match i with
  | .ireturn => (match st, ret with
    | [.int v], some .int => some (some (.int v))
    | [.int v], some .boolean => if am_bool v = true then some (some (.int v)) else none
    | _, _ => none)
  | .lreturn => (match st, ret with
    | [.long v], some .long => some (some (.long v))
    | _, _ => none)
  | .areturn => (match st, ret with
    | [.ref a], some (.object _) => some (some (.ref a))
    | _, _ => none)
  | .return_ => (match st, ret with
    | [], none => some none
    | _, _ => none)
  | _ => none
/-- a call: whom, with what, what stays on the stack -/
def am_call (o : Nat) (i : Instr) (st : List Value) (h : AH) : Option (Nat × List Value × List Value) := match i with
  | .invokevirtual x => (match ml o x with
    | some (0, c, n) => (match st.drop n with
      | .ref a :: rest => if (st.take n).length = n ∧ am_recv c a h = true ∧ am_pw rest ≤ 8 then some (c, .ref a :: (st.take n).reverse, rest) else none
      | _ => none)
    | _ => none)
  | .invokestatic x => (match ml o x with
    | some (1, c, n) => if (st.take n).length = n ∧ am_pw (st.drop n) ≤ 8 then some (c, (st.take n).reverse, st.drop n) else none
    | _ => none)
  | .invokespecial x => (match ml o x with
    | some (2, c, n) => (match st.drop n with
      | .ref a :: rest => if (st.take n).length = n ∧ am_pw rest ≤ 8 then some (c, .ref a :: (st.take n).reverse, rest) else none
      | _ => none)
    | _ => none)
  | _ => none
/-- what the JDK does by itself -/
def am_prim (t pc : Nat) (vs st : List Value) (h : AH) : Option AS := match t with
  | 3 => (match st with
    | .ref _ :: st => if am_pw st ≤ 8 then some (pc + 3, vs, st, h) else none
    | _ => none)
  | 4 => (match st with
    | .int n :: .int dp :: .ref b :: .int sp :: .ref a :: st => (match h[a]?, h[b]? with
      | some (.inl (0, n0, .inl f)), some (.inl (0, n1, .inl g)) =>
        if ¬ sp < 0 ∧ ¬ dp < 0 ∧ ¬ n < 0 ∧ sp.toNatClampNeg + n.toNatClampNeg ≤ n0 ∧ dp.toNatClampNeg + n.toNatClampNeg ≤ n1 ∧ am_pw st ≤ 8 then
          some (pc + 3, vs, st, h.set b (.inl (0, n1, .inl (va_cpy f g sp.toNatClampNeg dp.toNatClampNeg n.toNatClampNeg)))) else none
      | _, _ => none)
    | _ => none)
  | 5 => (match st with
    | .ref k :: st => if am_str ≤ k ∧ k < am_str + 5 ∧ am_pw st ≤ 8 then some (pc + 3, vs, .int (Int32.ofNat (sByt.getD (k - am_str) []).length) :: st, h) else none
    | _ => none)
  | 6 => (match st with
    | .int j :: .ref k :: st => if am_str ≤ k ∧ k < am_str + 5 ∧ am_in j (sByt.getD (k - am_str) []).length = true ∧ am_pw st ≤ 8 then some (pc + 3, vs, .int ((sByt.getD (k - am_str) []).getD j.toNatClampNeg 0) :: st, h) else none
    | _ => none)
  | 7 => (match st with
    | .int y :: .int x :: st => if am_pw st ≤ 8 then some (pc + 3, vs, .int (if x < y then y else x) :: st, h) else none
    | _ => none)
  | 8 => (match st with
    | .int y :: .int x :: st => if am_pw st ≤ 8 then some (pc + 3, vs, .int (if y < x then y else x) :: st, h) else none
    | _ => none)
  | _ => none
/-- loads, stores, numbers, jumps -/
def am_num (lg : Bool) (i : Instr) (pc : Nat) (vs st : List Value) (h : AH) : Option AS := match i with
  | .iconst n => some (pc + 1, vs, .int (Int32.ofInt n) :: st, h)
  | .bipush n => some (pc + 2, vs, .int (Int8.ofInt n).toInt32 :: st, h)
  | .sipush n => some (pc + 3, vs, .int (Int16.ofInt n).toInt32 :: st, h)
  | .lconst n => some (pc + 1, vs, .long (Int64.ofNat (n : Nat)) :: st, h)
  | .iload_n k => (match am_ld vs k with
    | .int x => some (pc + 1, vs, .int x :: st, h)
    | _ => none)
  | .iload k => (match am_ld vs k with
    | .int x => some (pc + 2, vs, .int x :: st, h)
    | _ => none)
  | .lload_n k => (match am_ld vs k with
    | .long x => some (pc + 1, vs, .long x :: st, h)
    | _ => none)
  | .lload k => (match am_ld vs k with
    | .long x => some (pc + 2, vs, .long x :: st, h)
    | _ => none)
  | .aload_n k => (match am_ld vs k with
    | .ref x => some (pc + 1, vs, .ref x :: st, h)
    | _ => none)
  | .aload k => (match am_ld vs k with
    | .ref x => some (pc + 2, vs, .ref x :: st, h)
    | _ => none)
  | .istore_n k => (match st with
    | .int x :: st => am_sto (am_st1 lg vs k (.int x)) (pc + 1) st h
    | _ => none)
  | .istore k => (match st with
    | .int x :: st => am_sto (am_st1 lg vs k (.int x)) (pc + 2) st h
    | _ => none)
  | .astore_n k => (match st with
    | .ref x :: st => am_sto (am_st1 lg vs k (.ref x)) (pc + 1) st h
    | _ => none)
  | .astore k => (match st with
    | .ref x :: st => am_sto (am_st1 lg vs k (.ref x)) (pc + 2) st h
    | _ => none)
  | .lstore_n k => (match st with
    | .long x :: st => am_sto (am_st2 lg vs k (.long x)) (pc + 1) st h
    | _ => none)
  | .iinc k n => (match am_ld vs k with
    | .int x => am_sto (am_st1 lg vs k (.int (x + Int32.ofInt n))) (pc + 3) st h
    | _ => none)
  | .goto off => if am_jok pc off = true then some (am_jmp pc off, vs, st, h) else none
  | .ifCond c off => (match st with
    | .int x :: st => if am_jok pc off = true then some (if am_cond c x 0 = true then am_jmp pc off else pc + 3, vs, st, h) else none
    | _ => none)
  | .if_icmp c off => (match st with
    | .int y :: .int x :: st => if am_jok pc off = true then some (if am_cond c x y = true then am_jmp pc off else pc + 3, vs, st, h) else none
    | _ => none)
  | .tableswitch d lo hi offs => (match st with
    | .int x :: st => if x.toInt < lo ∨ hi < x.toInt then (if am_jok pc d = true then some (am_jmp pc d, vs, st, h) else none)
      else (match offs[(x.toInt - lo).toNat]? with
        | some off => if am_jok pc off = true then some (am_jmp pc off, vs, st, h) else none
        | none => none)
    | _ => none)
  | .dup => (match st with
    | v :: st => if v.category = 1 then some (pc + 1, vs, v :: v :: st, h) else none
    | _ => none)
  | .dup2 => (match st with
    | v :: w :: st => if v.category = 1 ∧ w.category = 1 then some (pc + 1, vs, v :: w :: v :: w :: st, h) else none
    | _ => none)
  | .pop => (match st with
    | v :: st => if v.category = 1 then some (pc + 1, vs, st, h) else none
    | _ => none)
  | _ => none
/-- reckoning -/
def am_rck (i : Instr) (pc : Nat) (vs st : List Value) (h : AH) : Option AS := match i, st with
  | .iadd, .int y :: .int x :: st => some (pc + 1, vs, .int (x + y) :: st, h)
  | .isub, .int y :: .int x :: st => some (pc + 1, vs, .int (x - y) :: st, h)
  | .imul, .int y :: .int x :: st => some (pc + 1, vs, .int (x * y) :: st, h)
  | .iand, .int y :: .int x :: st => some (pc + 1, vs, .int (x &&& y) :: st, h)
  | .ior, .int y :: .int x :: st => some (pc + 1, vs, .int (x ||| y) :: st, h)
  | .ixor, .int y :: .int x :: st => some (pc + 1, vs, .int (x ^^^ y) :: st, h)
  | .ishl, .int y :: .int x :: st => some (pc + 1, vs, .int (x <<< (y &&& 31)) :: st, h)
  | .ishr, .int y :: .int x :: st => some (pc + 1, vs, .int (x >>> (y &&& 31)) :: st, h)
  | .iushr, .int y :: .int x :: st => some (pc + 1, vs, .int (x.toUInt32 >>> (y.toUInt32 &&& Int32.toUInt32 31)).toInt32 :: st, h)
  | .idiv, .int y :: .int x :: st => if y = 0 then none else some (pc + 1, vs, .int (x / y) :: st, h)
  | .irem, .int y :: .int x :: st => if y = 0 then none else some (pc + 1, vs, .int (x - x / y * y) :: st, h)
  | .ineg, .int x :: st => some (pc + 1, vs, .int (-x) :: st, h)
  | .ladd, .long y :: .long x :: st => some (pc + 1, vs, .long (x + y) :: st, h)
  | .lsub, .long y :: .long x :: st => some (pc + 1, vs, .long (x - y) :: st, h)
  | .land, .long y :: .long x :: st => some (pc + 1, vs, .long (x &&& y) :: st, h)
  | .lor, .long y :: .long x :: st => some (pc + 1, vs, .long (x ||| y) :: st, h)
  | .lshl, .int y :: .long x :: st => some (pc + 1, vs, .long (x <<< (y.toInt64 &&& 63)) :: st, h)
  | .lshr, .int y :: .long x :: st => some (pc + 1, vs, .long (x >>> (y.toInt64 &&& 63)) :: st, h)
  | .lushr, .int y :: .long x :: st => some (pc + 1, vs, .long (x.toUInt64 >>> (y.toInt64.toUInt64 &&& Int64.toUInt64 63)).toInt64 :: st, h)
  | .lcmp, .long y :: .long x :: st => some (pc + 1, vs, .int (lg_cmp x y) :: st, h)
  | .i2l, .int x :: st => some (pc + 1, vs, .long x.toInt64 :: st, h)
  | .l2i, .long x :: st => some (pc + 1, vs, .int x.toInt32 :: st, h)
  | _, _ => none
/-- constants, fields, arrays -/
def am_mem (o : Nat) (ini : Bool) (i : Instr) (pc : Nat) (vs st : List Value) (h : AH) : Option AS := match i with
  | .ldc x => (match scl o x with
    | some k => some (pc + 2, vs, .ref (am_str + k) :: st, h)
    | none => none)
  | .ldc_w x => (match icl o x with
    | some v => some (pc + 3, vs, .int v :: st, h)
    | none => none)
  | .ldc2_w x => (match lcl o x with
    | some v => some (pc + 3, vs, .long v :: st, h)
    | none => none)
  | .getfield x => (match st, fl o x with
    | .ref a :: st, some (ci, k, _, _) => (match h[a]? with
      | some (.inr (cj, fs)) => (match fs[k]? with
        | some v => if cj = ci then some (pc + 3, vs, v :: st, h) else none
        | none => none)
      | _ => none)
    | _, _ => none)
  | .putfield x => (match st, fl o x with
    | v :: .ref a :: st, some (ci, k, kd, fin) => (match h[a]? with
      | some (.inr (cj, fs)) => if cj = ci ∧ k < fs.length ∧ am_fit kd v = true ∧ (fin = true → ini = true) then some (pc + 3, vs, st, h.set a (.inr (cj, fs.set k v))) else none
      | _ => none)
    | _, _ => none)
  | .new x => (match nwl o x with
    | some ci => if h.length < 1000 then some (pc + 3, vs, .ref h.length :: st, h ++ [.inr (ci, am_df ci)]) else none
    | none => none)
  | .newarray t => (match st with
    | .int n :: st => if ¬ n < 0 ∧ n.toNatClampNeg ≤ 1000 ∧ am_tc t < 3 ∧ h.length < 1000 then some (pc + 2, vs, .ref h.length :: st, h ++ [.inl (am_tc t, am_z (am_tc t) n.toNatClampNeg)]) else none
    | _ => none)
  | .anewarray x => (match st, anl o x with
    | .int n :: st, some t => if ¬ n < 0 ∧ n.toNatClampNeg ≤ 1000 ∧ h.length < 1000 then some (pc + 3, vs, .ref h.length :: st, h ++ [.inl (t, am_z t n.toNatClampNeg)]) else none
    | _, _ => none)
  | .arraylength => (match st with
    | .ref a :: st => (match h[a]? with
      | some (.inl (t, n, _)) => if t < 6 then some (pc + 1, vs, .int (Int32.ofNat n) :: st, h) else none
      | _ => none)
    | _ => none)
  | .iaload => (match st with
    | .int j :: .ref a :: st => (match h[a]? with
      | some (.inl (0, n, .inl f)) => if am_in j n = true then some (pc + 1, vs, .int (f j.toNatClampNeg) :: st, h) else none
      | _ => none)
    | _ => none)
  | .baload => (match st with
    | .int j :: .ref a :: st => (match h[a]? with
      | some (.inl (1, n, .inl f)) => if am_in j n = true then some (pc + 1, vs, .int (f j.toNatClampNeg) :: st, h) else none
      | _ => none)
    | _ => none)
  | .laload => (match st with
    | .int j :: .ref a :: st => (match h[a]? with
      | some (.inl (2, n, .inr (.inl f))) => if am_in j n = true then some (pc + 1, vs, .long (f j.toNatClampNeg) :: st, h) else none
      | _ => none)
    | _ => none)
  | .aaload => (match st with
    | .int j :: .ref a :: st => (match h[a]? with
      | some (.inl (t, n, .inr (.inr (.inr (.inr f))))) => if am_in j n = true ∧ 3 ≤ t ∧ t < 6 then some (pc + 1, vs, am_rf (f j.toNatClampNeg) :: st, h) else none
      | _ => none)
    | _ => none)
  | .iastore => (match st with
    | .int x :: .int j :: .ref a :: st => (match h[a]? with
      | some (.inl (0, n, .inl f)) => if am_in j n = true then some (pc + 1, vs, st, h.set a (.inl (0, n, .inl (upd f j.toNatClampNeg x)))) else none
      | _ => none)
    | _ => none)
  | .bastore => (match st with
    | .int x :: .int j :: .ref a :: st => (match h[a]? with
      | some (.inl (1, n, .inl f)) => if am_in j n = true then some (pc + 1, vs, st, h.set a (.inl (1, n, .inl (upd f j.toNatClampNeg (vp_nar .boolean x))))) else none
      | _ => none)
    | _ => none)
  | .lastore => (match st with
    | .long x :: .int j :: .ref a :: st => (match h[a]? with
      | some (.inl (2, n, .inr (.inl f))) => if am_in j n = true then some (pc + 1, vs, st, h.set a (.inl (2, n, .inr (.inl (vp_updL f j.toNatClampNeg x))))) else none
      | _ => none)
    | _ => none)
  | .aastore => (match st with
    | .ref v :: .int j :: .ref a :: st => (match h[a]?, h[v]? with
      | some (.inl (t, n, .inr (.inr (.inr (.inr f))))), some (.inr (ci, _)) => if am_in j n = true ∧ am_ec t = ci ∧ t < 6 then some (pc + 1, vs, st, h.set a (.inl (t, n, .inr (.inr (.inr (.inr (va_up f j.toNatClampNeg (some v)))))))) else none
      | _, _ => none)
    | _ => none)
  | _ => none
/-- the instruction's tag, where the JDK does it -/
def am_tag (o : Nat) (i : Instr) : Nat := match i with
  | .invokevirtual x => (match ml o x with | some (5, _, _) => 5 | some (6, _, _) => 6 | _ => 0)
  | .invokestatic x => (match ml o x with | some (4, _, _) => 4 | some (7, _, _) => 7 | some (8, _, _) => 8 | _ => 0)
  | .invokespecial x => (match ml o x with | some (3, _, _) => 3 | _ => 0)
  | _ => 0
def am_first {α : Type} (a b : Option α) : Option α := match a with
  | some x => some x
  | none => b
def am_stp (lg : Bool) (d o : Nat) (ini : Bool) (i : Instr) (pc : Nat) (vs st : List Value) (h : AH) : Option AS :=
  am_first (am_num lg i pc vs st h) (am_first (am_rck i pc vs st h) (am_first (am_mem o ini i pc vs st h) (if d = 0 ∨ (d < 5 ∧ (am_tag o i = 5 ∨ am_tag o i = 6)) then none else am_prim (am_tag o i) pc vs st h)))
/-- one step of a method, the rest and callees by 'rec' (depth, method, pc, locals, stack, cells) -/
def am_one (rec : Nat → Nat → Nat → List Value → List Value → AH → Option (Option Value × AH)) (d j : Nat) (M : MI) (i : Instr) (pc : Nat) (vs st : List Value) (h : AH) : Option (Option Value × AH) :=
  match am_fin M.2.2.1 i st with
  | some r => some (r, h)
  | none =>
    match am_call M.2.2.2.2 i st h with
    | some (c, as, rest) =>
      (match d with
      | 0 => none
      | d' + 1 =>
        match mt c with
        | none => none
        | some N =>
          if (am_sl as).length ≤ N.2.1 ∧ (am_lgs c = true ∨ as.all (fun v => v.category == 1) = true) then
            (match rec d' c 0 (am_locs N.2.1 as) [] h with
            | none => none
            | some (rv, h') => rec (d' + 1) j (pc + 3) vs (rv.toList ++ rest) h')
          else none)
    | none =>
      match am_stp (am_lgs j) d M.2.2.2.2 (M.2.2.2.1.name == "<init>") i pc vs st h with
      | none => none
      | some (pc', vs', st', h') => rec d j pc' vs' st' h'
def am_len (i : Instr) : Nat := match i with
  | .bipush _ | .ldc _ | .iload _ | .lload _ | .aload _ | .istore _ | .astore _ | .lstore _ | .newarray _ => 2
  | .sipush _ | .ldc_w _ | .ldc2_w _ | .iinc _ _ | .goto _ | .ifCond _ _ | .if_icmp _ _ | .getfield _ | .putfield _ | .new _ | .anewarray _ | .invokevirtual _ | .invokestatic _ | .invokespecial _ => 3
  | _ => 1
def am_lenok (i : Instr) (len : Nat) : Bool := match i with
  | .tableswitch _ _ _ _ => true
  | _ => len == am_len i
def am_run : Nat → Nat → Nat → Nat → List Value → List Value → AH → Option (Option Value × AH)
  | 0, _, _, _, _, _, _ => none
  | n + 1, d, j, pc, vs, st, h =>
    match mt j with
    | none => none
    | some M =>
      match decode M.1 pc with
      | .error _ => none
      | .ok (i, len) => if am_lenok i len = true then am_one (am_run n) d j M i pc vs st h else none
