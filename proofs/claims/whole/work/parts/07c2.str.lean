/-! the JDK's String.length and String.charAt, on String constants of the class -/
abbrev wsA (y : MethodName) (b : ByteArray) (n : Nat) (ret : Option FieldType) : List Jvm.Cond := Jvm.Cond.code y b n ret :: ATB
def sm_rm (d mc ms : Nat) : Room := { frames := d, cells := mc, slots := ms, locals := 64 * d }
theorem sm_gd {y : MethodName} {b : ByteArray} {n : Nat} {ret : Option FieldType} (hc : Jvm.Cond.code y b n ret ∈ ATB) : GoodIn ATB (wsA y b n ret) := fun w hw => by
  rcases List.mem_cons.mp hw with rfl | hw
  · exact ⟨hc, atb_good hc⟩
  · exact ⟨hw, atb_good hw⟩
theorem sm_cb {R : Room} {s : State} {args : Array Value} {own : String} {index : Nat} {y : MethodName} {b : ByteArray} {n : Nat} {ret : Option FieldType} {d mc ms na : Nat} (hts : ∀ w ∈ ATB, w.before args s = true) (hc : Jvm.Cond.code y b n ret ∈ ATB) (hini : Jvm.Cond.initialized y.cls ∈ ATB) (hl : Jvm.Cond.methodLink own index y ∈ ATB)
    (hy : y.cls ≠ "java/lang/invoke/MethodHandle" ∧ y.cls ≠ "java/lang/invoke/VarHandle") (hp : (parseMethodDescriptor y.desc).map (fun d => d.parameters.length) = some na) (hn : n ≤ 40) (hf : d + 1 ≤ R.frames) (ho : 64 * (d + 1) ≤ R.locals) : CallB R s args own index y b n ret (wsA y b n ret) (sm_rm d mc ms) mc ms na :=
  callB_of (Ts := ATB) na hts (sm_gd hc) rfl rfl rfl (hts _ hini) (hts _ hl) ⟨hy.1, hy.2, hp⟩ ⟨hf, by simp only [sm_rm]; omega⟩
def sLen : List Nat := sByt.map (fun b => b.length)
/-- the String constants, and the statics that the JDK reads on them -/
def sm_SW (adK adV : Nat → Nat) (A : Nat → Prop) (U : State) (H : Heap) : Prop := vk_S 5 sLen sByt adK adV A U H ∧ va_Z "java/lang/String" "COMPACT_STRINGS" "Z" (.int 1) A U H ∧ va_Zq "jdk/internal/util/Preconditions" "SIOOBE_FORMATTER" "Ljava/util/function/BiFunction;" A U H
theorem sm_SW.moved {adK adV : Nat → Nat} {A : Nat → Prop} {u U : State} {H : Heap} (hvm : u.vm.Alike U.vm) (h : sm_SW adK adV A u H) : sm_SW adK adV A U H := ⟨h.1.moved hvm, h.2.1.moved hvm, h.2.2.moved hvm⟩
theorem sm_SW.kept {adK adV : Nat → Nat} {A : Nat → Prop} {U : State} {H H1 : Heap} (h : sm_SW adK adV A U H) (hq : ∀ a : Nat, a < H.size → ¬ A a → H1[a]? = H[a]?) : sm_SW adK adV A U H1 := ⟨h.1.kept hq, h.2.1.kept hq, h.2.2.kept hq⟩
theorem sm_SW.narrow {adK adV : Nat → Nat} {A B : Nat → Prop} {U : State} {H : Heap} (h : sm_SW adK adV A U H) (hAB : ∀ q, B q → A q) : sm_SW adK adV B U H := ⟨h.1.narrow hAB, h.2.1.narrow hAB, by
  rcases h.2.2 with h | ⟨t, h⟩
  · exact Or.inl (h.narrow hAB)
  · exact Or.inr ⟨t, h.narrow hAB⟩⟩
theorem st_a : ∀ i : Nat, i < 5 → Int32.ofNat (sLen.getD i 0) >>> ((0 : Int32) &&& 31) = Int32.ofNat (sByt.getD i []).length ∧ sLen.getD i 0 = (sByt.getD i []).length ∧ sLen.getD i 0 ≤ 5 := by decide +kernel
theorem st_b : ∀ i : Nat, i < 5 → ∀ k : Nat, k < 6 → ((((sByt.getD i []).getD k 0) &&& 255).toUInt32 % 65536).toInt32 = (sByt.getD i []).getD k 0 ∧ narrow .char (.int ((sByt.getD i []).getD k 0)) = .int ((sByt.getD i []).getD k 0) := by decide +kernel
/-- a method that changes nothing: its answer -/
def sm_Q0 (v : Option Value) : Array Value → State → Outcome → State → Prop := fun _ st o t => o = .returned v ∧ t.heap = st.heap
section SMC
variable {p : Program} {l : Launch} {e : Env} {R : Room} {s : State} {m : MethodId} {args : Array Value} {below : List Frame} {meth : Method} {c : Code} {H : Heap} {locs : List Loc} {cells slots : Nat} {Q : State → Prop}
theorem sm_call0 {pc : Nat} {ls : Array Slot} {st0 : List Value} {rest : List Value} {a : Array Value} {v : Option Value} (hr : va_Run p l e R s m args below meth c H locs cells slots 0 0 (F0 m pc ls st0) rest (sm_Q0 v a) (fun _ => False))
    (kk : W p l e R s m args below meth c H locs cells slots Q (F0 m (pc + 3) ls (v.toList ++ rest))) : W p l e R s m args below meth c H locs cells slots Q (F0 m pc ls st0) := by
  intro T hT X
  obtain ⟨v', st₀, t, T', L, h0, X', hL, e1, e2, ⟨hv, hh⟩, st⟩ := hr T hT X
  cases hv
  have hL0 : L = [] := by
    cases L with
    | nil => rfl
    | cons q r => exact (hL q List.mem_cons_self).elim
  subst hL0
  rw [List.append_nil] at X'
  obtain ⟨t2, a1, b1⟩ := kk T' (by rw [e1, hh, h0]) X'
  exact ⟨t2, st t2 a1, b1⟩
end SMC
theorem jc_len : Jvm.Cond.code yJ0_length_8abf5 cJ0_length_8abf5 1 (some .int) ∈ ATB := (atb_mem 409 (by decide +kernel) (by decide +kernel))
theorem jl_len : Jvm.Cond.instanceMethod yJ0_length_8abf5 ∈ ATB := (atb_mem 407 (by decide +kernel) (by decide +kernel))
theorem js_len : Jvm.Cond.selects yJ0_length_8abf5.cls yJ0_length_8abf5 yJ0_length_8abf5 ∈ ATB := (atb_mem 408 (by decide +kernel) (by decide +kernel))
theorem jc_cod : Jvm.Cond.code yJ0_coder_7d493 cJ0_coder_7d493 1 (some .byte) ∈ ATB := (atb_mem 413 (by decide +kernel) (by decide +kernel))
theorem jl_cod : Jvm.Cond.instanceMethod yJ0_coder_7d493 ∈ ATB := (atb_mem 411 (by decide +kernel) (by decide +kernel))
theorem js_cod : Jvm.Cond.selects yJ0_coder_7d493.cls yJ0_coder_7d493 yJ0_coder_7d493 ∈ ATB := (atb_mem 412 (by decide +kernel) (by decide +kernel))
theorem jc_chr : Jvm.Cond.code yJ0_charAt_5068e cJ0_charAt_5068e 2 (some .char) ∈ ATB := (atb_mem 419 (by decide +kernel) (by decide +kernel))
theorem jl_chr : Jvm.Cond.instanceMethod yJ0_charAt_5068e ∈ ATB := (atb_mem 417 (by decide +kernel) (by decide +kernel))
theorem js_chr : Jvm.Cond.selects yJ0_charAt_5068e.cls yJ0_charAt_5068e yJ0_charAt_5068e ∈ ATB := (atb_mem 418 (by decide +kernel) (by decide +kernel))
theorem jc_lat : Jvm.Cond.code yJ0_isLatin1_aae02 cJ0_isLatin1_aae02 1 (some .boolean) ∈ ATB := (atb_mem 423 (by decide +kernel) (by decide +kernel))
theorem jl_lat : Jvm.Cond.instanceMethod yJ0_isLatin1_aae02 ∈ ATB := (atb_mem 421 (by decide +kernel) (by decide +kernel))
theorem js_lat : Jvm.Cond.selects yJ0_isLatin1_aae02.cls yJ0_isLatin1_aae02 yJ0_isLatin1_aae02 ∈ ATB := (atb_mem 422 (by decide +kernel) (by decide +kernel))
theorem jc_chk : Jvm.Cond.code yJ0_checkIndex_df160 cJ0_checkIndex_df160 2 none ∈ ATB := (atb_mem 429 (by decide +kernel) (by decide +kernel))
theorem jl_chk : Jvm.Cond.static yJ0_checkIndex_df160 ∈ ATB := (atb_mem 428 (by decide +kernel) (by decide +kernel))
theorem jc_ch1 : Jvm.Cond.code yJ1_charAt_3b067 cJ1_charAt_3b067 2 (some .char) ∈ ATB := (atb_mem 426 (by decide +kernel) (by decide +kernel))
theorem jl_ch1 : Jvm.Cond.static yJ1_charAt_3b067 ∈ ATB := (atb_mem 425 (by decide +kernel) (by decide +kernel))
theorem jc_pre : Jvm.Cond.code yJ3_checkIndex_8e157 cJ3_checkIndex_8e157 3 (some .int) ∈ ATB := (atb_mem 434 (by decide +kernel) (by decide +kernel))
theorem jl_pre : Jvm.Cond.static yJ3_checkIndex_8e157 ∈ ATB := (atb_mem 433 (by decide +kernel) (by decide +kernel))
theorem ji_S : Jvm.Cond.initialized "java/lang/String" ∈ ATB := (atb_mem 96 (by decide +kernel) (by decide +kernel))
theorem ji_S1 : Jvm.Cond.initialized "java/lang/StringLatin1" ∈ ATB := (atb_mem 97 (by decide +kernel) (by decide +kernel))
theorem ji_P : Jvm.Cond.initialized "jdk/internal/util/Preconditions" ∈ ATB := (atb_mem 98 (by decide +kernel) (by decide +kernel))
theorem jk_cod : Jvm.Cond.methodLink "java/lang/String" 335 yJ0_coder_7d493 ∈ ATB := (atb_mem 410 (by decide +kernel) (by decide +kernel))
theorem jk_lat : Jvm.Cond.methodLink "java/lang/String" 492 yJ0_isLatin1_aae02 ∈ ATB := (atb_mem 420 (by decide +kernel) (by decide +kernel))
theorem jk_ch1 : Jvm.Cond.methodLink "java/lang/String" 495 yJ1_charAt_3b067 ∈ ATB := (atb_mem 424 (by decide +kernel) (by decide +kernel))
theorem jk_chk : Jvm.Cond.methodLink "java/lang/StringLatin1" 9 yJ0_checkIndex_df160 ∈ ATB := (atb_mem 427 (by decide +kernel) (by decide +kernel))
theorem jk_pre : Jvm.Cond.methodLink "java/lang/String" 1059 yJ3_checkIndex_8e157 ∈ ATB := (atb_mem 432 (by decide +kernel) (by decide +kernel))
theorem jf_val : Jvm.Cond.fieldLink "java/lang/String" 9 "java/lang/String" "value" "[B" ∈ ATB := (atb_mem 1512 (by decide +kernel) (by decide +kernel))
theorem jf_cod : Jvm.Cond.fieldLink "java/lang/String" 15 "java/lang/String" "coder" "B" ∈ ATB := (atb_mem 1513 (by decide +kernel) (by decide +kernel))
theorem jf_cmp : Jvm.Cond.fieldLink "java/lang/String" 38 "java/lang/String" "COMPACT_STRINGS" "Z" ∈ ATB := (atb_mem 414 (by decide +kernel) (by decide +kernel))
theorem jf_sio : Jvm.Cond.fieldLink "java/lang/String" 1053 "jdk/internal/util/Preconditions" "SIOOBE_FORMATTER" "Ljava/util/function/BiFunction;" ∈ ATB := (atb_mem 430 (by decide +kernel) (by decide +kernel))
set_option maxHeartbeats 4000000 in
set_option maxRecDepth 20000 in
theorem c_cod (l : Launch) (adK adV : Nat → Nat) (A : Nat → Prop) (d : Nat) {i : Nat} (hi : i < 5) : Met l yJ0_coder_7d493 (wsA yJ0_coder_7d493 cJ0_coder_7d493 1 (some .byte)) (sm_rm (d + 0) 0 0) (va_Pc [.ref (adK i)] (fun U => sm_SW adK adV A U U.heap)) (sm_Q0 (some (.int 0))) 0 0 (fun _ => False) := by
  refine Met.ofW (cc := cJ0_coder_7d493) (maxL := 1) (ret := (some .byte)) (by decide) rfl ?_
  intro p e s m args below meth c s₁ B hml hv
  obtain ⟨rfl, hSW⟩ := hv
  have hx := B.exec
  have hb := B.bytes
  have hr := B.returns
  have hts0 := atoms_spec (ws := wsA yJ0_coder_7d493 cJ0_coder_7d493 1 (some .byte)) B.pre
  have hts : ∀ w ∈ ATB, w.before _ s = true := fun w h => hts0 w (List.mem_cons_of_mem _ h)
  have hown : s.vm.findClass "java/lang/String" = some m.cls := findClass_of_methodNamed B.named
  have hlocks := B.notSynchronized
  have hS : va_S A s.heap s.heap [] := va_S.rf
  have hl := lv_entry ([.ref (adK i)]) (n := 1) (Nat.le_of_ble_eq_true rfl)
  rw [lg_entry_eq]
  generalize (lg_sl ([.ref (adK i)]) ++ List.replicate (1 - (lg_sl ([.ref (adK i)])).length) Slot.unset).toArray = ls at hl ⊢
  have hfix : CallFix p m c cJ0_coder_7d493 1 s _ ATB "java/lang/String" := ⟨hx, hb, hml, hown, hts⟩
  refine va_gets hx hb hSW.2.1 hS hown (hts _ jf_cmp) (fun _ h => h) dJ0_coder_7d493_0 ?_
  refine lv_if_eq (tgt := 13) hx hb dJ0_coder_7d493_3 (by decide) (fun h => absurd h (by decide)) (fun _ => ?_)
  refine lv_aload_n hx hb dJ0_coder_7d493_6 rfl (lv_at hl 0 rfl) ?_
  refine vk_getf hx hb (hSW.1.1 i hi).2.1 hS hown (hts _ jf_cod) (fun _ h => h) dJ0_coder_7d493_7 ?_
  refine lv_goto (tgt := 14) hx hb dJ0_coder_7d493_10 (by decide) ?_
  exact W.zret hx hb hr (by first | rfl | decide) (fun t ht _ => ⟨rfl, ht⟩) (fun _ h => by cases h) dJ0_coder_7d493_14
set_option maxHeartbeats 4000000 in
set_option maxRecDepth 20000 in
theorem c_len (l : Launch) (adK adV : Nat → Nat) (A : Nat → Prop) (d : Nat) {i : Nat} (hi : i < 5) : Met l yJ0_length_8abf5 (wsA yJ0_length_8abf5 cJ0_length_8abf5 1 (some .int)) (sm_rm (d + 1) 0 0) (va_Pc [.ref (adK i)] (fun U => sm_SW adK adV A U U.heap)) (sm_Q0 (some (.int (Int32.ofNat (sByt.getD i []).length)))) 0 0 (fun _ => False) := by
  refine Met.ofW (cc := cJ0_length_8abf5) (maxL := 1) (ret := (some .int)) (by decide) rfl ?_
  intro p e s m args below meth c s₁ B hml hv
  obtain ⟨rfl, hSW⟩ := hv
  have hx := B.exec
  have hb := B.bytes
  have hr := B.returns
  have hts0 := atoms_spec (ws := wsA yJ0_length_8abf5 cJ0_length_8abf5 1 (some .int)) B.pre
  have hts : ∀ w ∈ ATB, w.before _ s = true := fun w h => hts0 w (List.mem_cons_of_mem _ h)
  have hown : s.vm.findClass "java/lang/String" = some m.cls := findClass_of_methodNamed B.named
  have hlocks := B.notSynchronized
  have hS : va_S A s.heap s.heap [] := va_S.rf
  have hl := lv_entry ([.ref (adK i)]) (n := 1) (Nat.le_of_ble_eq_true rfl)
  rw [lg_entry_eq]
  generalize (lg_sl ([.ref (adK i)]) ++ List.replicate (1 - (lg_sl ([.ref (adK i)])).length) Slot.unset).toArray = ls at hl ⊢
  have hfix : CallFix p m c cJ0_length_8abf5 1 s _ ATB "java/lang/String" := ⟨hx, hb, hml, hown, hts⟩
  refine lv_aload_n hx hb dJ0_length_8abf5_0 rfl (lv_at hl 0 rfl) ?_
  refine vk_getf hx hb (hSW.1.1 i hi).2.2.1 hS hown (hts _ jf_val) (fun _ h => h) dJ0_length_8abf5_1 ?_
  refine va_tlen hx hb (hSW.1.1 i hi).2.2.2 hS rfl dJ0_length_8abf5_4 ?_
  refine lv_aload_n hx hb dJ0_length_8abf5_5 rfl (lv_at hl 0 rfl) ?_
  refine sm_call0 (va_runV (As := []) (rest := [.int (Int32.ofNat (sLen.getD i 0))]) hfix (c_cod l adK adV A d hi) ⟨sm_cb (na := 0) (d := d) (mc := 0) (ms := 0) hts jc_cod ji_S jk_cod ⟨by decide, by decide⟩ (by decide +kernel) (by decide) (by show _ ≤ _; simp [headSpec, sm_rm]) (by show _ ≤ _; simp [headSpec, sm_rm]; try omega), hts _ jl_cod, hts _ js_cod⟩ ⟨fun a U g mk q => ⟨q.1, sm_SW.moved (u := U) (U := U.calling g mk a) (Vm.Alike.refl U.vm) q.2⟩, vk_recv hSW.1 hi hS, fun U hU hW => ⟨rfl, by show sm_SW adK adV A U U.heap; rw [hU]; exact hSW.moved hW.alike⟩⟩ rfl rfl hl.1 rfl (lv_room (Nat.le_of_ble_eq_true rfl)) dJ0_length_8abf5_6 ⟨by show _ ≤ _; simp [headSpec, sm_rm], by show _ ≤ _; simp [headSpec, sm_rm]⟩) ?_
  refine lv_ishr hx hb dJ0_length_8abf5_9 ?_
  rw [(st_a i hi).1]
  exact W.iret hx hb hr (fun t ht _ => ⟨rfl, ht⟩) (fun _ h => by cases h) dJ0_length_8abf5_10
set_option maxHeartbeats 4000000 in
set_option maxRecDepth 20000 in
theorem c_lat (l : Launch) (adK adV : Nat → Nat) (A : Nat → Prop) (d : Nat) {i : Nat} (hi : i < 5) : Met l yJ0_isLatin1_aae02 (wsA yJ0_isLatin1_aae02 cJ0_isLatin1_aae02 1 (some .boolean)) (sm_rm (d + 0) 0 0) (va_Pc [.ref (adK i)] (fun U => sm_SW adK adV A U U.heap)) (sm_Q0 (some (.int 1))) 0 0 (fun _ => False) := by
  refine Met.ofW (cc := cJ0_isLatin1_aae02) (maxL := 1) (ret := (some .boolean)) (by decide) rfl ?_
  intro p e s m args below meth c s₁ B hml hv
  obtain ⟨rfl, hSW⟩ := hv
  have hx := B.exec
  have hb := B.bytes
  have hr := B.returns
  have hts0 := atoms_spec (ws := wsA yJ0_isLatin1_aae02 cJ0_isLatin1_aae02 1 (some .boolean)) B.pre
  have hts : ∀ w ∈ ATB, w.before _ s = true := fun w h => hts0 w (List.mem_cons_of_mem _ h)
  have hown : s.vm.findClass "java/lang/String" = some m.cls := findClass_of_methodNamed B.named
  have hlocks := B.notSynchronized
  have hS : va_S A s.heap s.heap [] := va_S.rf
  have hl := lv_entry ([.ref (adK i)]) (n := 1) (Nat.le_of_ble_eq_true rfl)
  rw [lg_entry_eq]
  generalize (lg_sl ([.ref (adK i)]) ++ List.replicate (1 - (lg_sl ([.ref (adK i)])).length) Slot.unset).toArray = ls at hl ⊢
  have hfix : CallFix p m c cJ0_isLatin1_aae02 1 s _ ATB "java/lang/String" := ⟨hx, hb, hml, hown, hts⟩
  refine va_gets hx hb hSW.2.1 hS hown (hts _ jf_cmp) (fun _ h => h) dJ0_isLatin1_aae02_0 ?_
  refine lv_if_eq (tgt := 17) hx hb dJ0_isLatin1_aae02_3 (by decide) (fun h => absurd h (by decide)) (fun _ => ?_)
  refine lv_aload_n hx hb dJ0_isLatin1_aae02_6 rfl (lv_at hl 0 rfl) ?_
  refine vk_getf hx hb (hSW.1.1 i hi).2.1 hS hown (hts _ jf_cod) (fun _ h => h) dJ0_isLatin1_aae02_7 ?_
  refine lv_if_ne (tgt := 17) hx hb dJ0_isLatin1_aae02_10 (by decide) (fun h => absurd rfl h) (fun _ => ?_)
  refine lv_iconst (v := 1) hx hb dJ0_isLatin1_aae02_13 (by decide) ?_
  refine lv_goto (tgt := 18) hx hb dJ0_isLatin1_aae02_14 (by decide) ?_
  exact W.zret hx hb hr (by first | rfl | decide) (fun t ht _ => ⟨rfl, ht⟩) (fun _ h => by cases h) dJ0_isLatin1_aae02_18
set_option maxHeartbeats 4000000 in
set_option maxRecDepth 20000 in
theorem c_pre (l : Launch) (adK adV : Nat → Nat) (A : Nat → Prop) (d : Nat) (x n : Int32) (w : Value) (h1 : ¬ x < 0) (h2 : x < n) (hw : w.category = 1) : Met l yJ3_checkIndex_8e157 (wsA yJ3_checkIndex_8e157 cJ3_checkIndex_8e157 3 (some .int)) (sm_rm (d + 0) 0 0) (va_Pc [.int x, .int n, w] (fun U => sm_SW adK adV A U U.heap)) (sm_Q0 (some (.int x))) 0 0 (fun _ => False) := by
  refine Met.ofW (cc := cJ3_checkIndex_8e157) (maxL := 3) (ret := (some .int)) (by decide) rfl ?_
  intro p e s m args below meth c s₁ B hml hv
  obtain ⟨rfl, hSW⟩ := hv
  have hx := B.exec
  have hb := B.bytes
  have hr := B.returns
  have hts0 := atoms_spec (ws := wsA yJ3_checkIndex_8e157 cJ3_checkIndex_8e157 3 (some .int)) B.pre
  have hts : ∀ w ∈ ATB, w.before _ s = true := fun w h => hts0 w (List.mem_cons_of_mem _ h)
  have hown : s.vm.findClass "jdk/internal/util/Preconditions" = some m.cls := findClass_of_methodNamed B.named
  have hlocks := B.notSynchronized
  have hS : va_S A s.heap s.heap [] := va_S.rf
  have hl := lv_entry ([.int x, .int n, w]) (n := 3) (by cases w <;> first | exact Nat.le_of_ble_eq_true rfl | (simp [Value.category] at hw))
  rw [lg_entry_eq]
  generalize (lg_sl ([.int x, .int n, w]) ++ List.replicate (3 - (lg_sl ([.int x, .int n, w])).length) Slot.unset).toArray = ls at hl ⊢
  have hfix : CallFix p m c cJ3_checkIndex_8e157 3 s _ ATB "jdk/internal/util/Preconditions" := ⟨hx, hb, hml, hown, hts⟩
  have hl : lv_has ls 3 [(0, .int x), (1, .int n), (2, w)] := hl
  refine lv_iload_n hx hb dJ3_checkIndex_8e157_0 rfl (lv_at hl 0 rfl) ?_
  refine lv_if_lt (tgt := 9) hx hb dJ3_checkIndex_8e157_1 (by decide) (fun h => absurd h h1) (fun _ => ?_)
  refine lv_iload_n hx hb dJ3_checkIndex_8e157_4 rfl (lv_at hl 0 rfl) ?_
  refine lv_iload_n hx hb dJ3_checkIndex_8e157_5 rfl (lv_at hl 1 rfl) ?_
  refine lv_icmp_lt (tgt := 16) hx hb dJ3_checkIndex_8e157_6 (by decide) (fun _ => ?_) (fun h => absurd h2 h)
  refine lv_iload_n hx hb dJ3_checkIndex_8e157_16 rfl (lv_at hl 0 rfl) ?_
  exact W.iret hx hb hr (fun t ht _ => ⟨rfl, ht⟩) (fun _ h => by cases h) dJ3_checkIndex_8e157_17
set_option maxHeartbeats 4000000 in
set_option maxRecDepth 20000 in
theorem c_chk (l : Launch) (adK adV : Nat → Nat) (A : Nat → Prop) (d : Nat) (x n : Int32) (h1 : ¬ x < 0) (h2 : x < n) : Met l yJ0_checkIndex_df160 (wsA yJ0_checkIndex_df160 cJ0_checkIndex_df160 2 none) (sm_rm (d + 1) 0 0) (va_Pc [.int x, .int n] (fun U => sm_SW adK adV A U U.heap)) (sm_Q0 none) 0 0 (fun _ => False) := by
  refine Met.ofW (cc := cJ0_checkIndex_df160) (maxL := 2) (ret := none) (by decide) rfl ?_
  intro p e s m args below meth c s₁ B hml hv
  obtain ⟨rfl, hSW⟩ := hv
  have hx := B.exec
  have hb := B.bytes
  have hr := B.returns
  have hts0 := atoms_spec (ws := wsA yJ0_checkIndex_df160 cJ0_checkIndex_df160 2 none) B.pre
  have hts : ∀ w ∈ ATB, w.before _ s = true := fun w h => hts0 w (List.mem_cons_of_mem _ h)
  have hown : s.vm.findClass "java/lang/String" = some m.cls := findClass_of_methodNamed B.named
  have hlocks := B.notSynchronized
  have hS : va_S A s.heap s.heap [] := va_S.rf
  have hl := lv_entry ([.int x, .int n]) (n := 2) (Nat.le_of_ble_eq_true rfl)
  rw [lg_entry_eq]
  generalize (lg_sl ([.int x, .int n]) ++ List.replicate (2 - (lg_sl ([.int x, .int n])).length) Slot.unset).toArray = ls at hl ⊢
  have hfix : CallFix p m c cJ0_checkIndex_df160 2 s _ ATB "java/lang/String" := ⟨hx, hb, hml, hown, hts⟩
  have hl : lv_has ls 2 [(0, .int x), (1, .int n)] := hl
  refine lv_iload_n hx hb dJ0_checkIndex_df160_0 rfl (lv_at hl 0 rfl) ?_
  refine lv_iload_n hx hb dJ0_checkIndex_df160_1 rfl (lv_at hl 1 rfl) ?_
  have hz : ∃ w : Value, w.category = 1 ∧ va_Z "jdk/internal/util/Preconditions" "SIOOBE_FORMATTER" "Ljava/util/function/BiFunction;" w A s s.heap := by
    rcases hSW.2.2 with h | ⟨t, h⟩
    · exact ⟨_, rfl, h⟩
    · exact ⟨_, rfl, h⟩
  obtain ⟨w, hw, hz⟩ := hz
  refine va_gets hx hb hz hS hown (hts _ jf_sio) (fun _ h => h) dJ0_checkIndex_df160_2 ?_
  refine sm_call0 (va_runS (As := [.int x, .int n, w]) (rest := []) hfix (c_pre l adK adV A d x n w h1 h2 hw) ⟨sm_cb (na := 3) (d := d) (mc := 0) (ms := 0) hts jc_pre ji_P jk_pre ⟨by decide, by decide⟩ (by decide +kernel) (by decide) (by show _ ≤ _; simp [headSpec, sm_rm]) (by show _ ≤ _; simp [headSpec, sm_rm]; try omega), hts _ jl_pre⟩ ⟨fun a U g mk q => ⟨q.1, sm_SW.moved (u := U) (U := U.calling g mk a) (Vm.Alike.refl U.vm) q.2⟩, fun U hU hW => ⟨rfl, by show sm_SW adK adV A U U.heap; rw [hU]; exact hSW.moved hW.alike⟩⟩ rfl rfl hl.1 rfl (lv_room (Nat.le_of_ble_eq_true rfl)) dJ0_checkIndex_df160_5 ⟨by show _ ≤ _; simp [headSpec, sm_rm], by show _ ≤ _; simp [headSpec, sm_rm]⟩) ?_
  refine lv_pop hx hb dJ0_checkIndex_df160_8 rfl ?_
  exact W.vret hx hb hr (fun t ht _ => ⟨rfl, ht⟩) (fun _ h => by cases h) dJ0_checkIndex_df160_9
set_option maxHeartbeats 4000000 in
set_option maxRecDepth 20000 in
theorem c_ch1 (l : Launch) (adK adV : Nat → Nat) (A : Nat → Prop) (d : Nat) {i : Nat} (hi : i < 5) (j : Int32) (hj : am_in j (sByt.getD i []).length = true) : Met l yJ1_charAt_3b067 (wsA yJ1_charAt_3b067 cJ1_charAt_3b067 2 (some .char)) (sm_rm (d + 2) 0 0) (va_Pc [.ref (adV i), .int j] (fun U => sm_SW adK adV A U U.heap)) (sm_Q0 (some (.int ((sByt.getD i []).getD j.toNatClampNeg 0)))) 0 0 (fun _ => False) := by
  refine Met.ofW (cc := cJ1_charAt_3b067) (maxL := 2) (ret := (some .char)) (by decide) rfl ?_
  intro p e s m args below meth c s₁ B hml hv
  obtain ⟨rfl, hSW⟩ := hv
  have hx := B.exec
  have hb := B.bytes
  have hr := B.returns
  have hts0 := atoms_spec (ws := wsA yJ1_charAt_3b067 cJ1_charAt_3b067 2 (some .char)) B.pre
  have hts : ∀ w ∈ ATB, w.before _ s = true := fun w h => hts0 w (List.mem_cons_of_mem _ h)
  have hown : s.vm.findClass "java/lang/StringLatin1" = some m.cls := findClass_of_methodNamed B.named
  have hlocks := B.notSynchronized
  have hS : va_S A s.heap s.heap [] := va_S.rf
  have hl := lv_entry ([.ref (adV i), .int j]) (n := 2) (Nat.le_of_ble_eq_true rfl)
  rw [lg_entry_eq]
  generalize (lg_sl ([.ref (adV i), .int j]) ++ List.replicate (2 - (lg_sl ([.ref (adV i), .int j])).length) Slot.unset).toArray = ls at hl ⊢
  have hfix : CallFix p m c cJ1_charAt_3b067 2 s _ ATB "java/lang/StringLatin1" := ⟨hx, hb, hml, hown, hts⟩
  have hl : lv_has ls 2 [(0, .ref (adV i)), (1, .int j)] := hl
  have hlen : sLen.getD i 0 = (sByt.getD i []).length := (st_a i hi).2.1
  have hjj : ¬ j < 0 ∧ j < Int32.ofNat (sLen.getD i 0) ∧ j.toNatClampNeg < sLen.getD i 0 := by
    have h9 : vp_in j (sLen.getD i 0) := by
      rw [hlen]
      simpa [am_in, vp_in] using hj
    obtain ⟨k, hk, rfl⟩ := vp_in_of h9 (by have := (st_a i hi).2.2; omega)
    have hs : sLen.getD i 0 < 2 ^ 31 := by have := (st_a i hi).2.2; omega
    exact ⟨fun q => h9 (Or.inl q), nI_lt hk hs, by rw [nI_clamp (by omega)]; exact hk⟩
  have hin9 : vp_in j (sLen.getD i 0) := fun q => q.elim hjj.1 (fun q => by have := hjj.2.2; omega)
  refine lv_iload_n hx hb dJ1_charAt_3b067_0 rfl (lv_at hl 1 rfl) ?_
  refine lv_aload_n hx hb dJ1_charAt_3b067_1 rfl (lv_at hl 0 rfl) ?_
  refine va_tlen hx hb (hSW.1.1 i hi).2.2.2 hS rfl dJ1_charAt_3b067_2 ?_
  refine sm_call0 (va_runS (As := [.int j, .int (Int32.ofNat (sLen.getD i 0))]) (rest := []) hfix (c_chk l adK adV A d j (Int32.ofNat (sLen.getD i 0)) hjj.1 hjj.2.1) ⟨sm_cb (na := 2) (d := d + 1) (mc := 0) (ms := 0) hts jc_chk ji_S jk_chk ⟨by decide, by decide⟩ (by decide +kernel) (by decide) (by show _ ≤ _; simp [headSpec, sm_rm]) (by show _ ≤ _; simp [headSpec, sm_rm]; try omega), hts _ jl_chk⟩ ⟨fun a U g mk q => ⟨q.1, sm_SW.moved (u := U) (U := U.calling g mk a) (Vm.Alike.refl U.vm) q.2⟩, fun U hU hW => ⟨rfl, by show sm_SW adK adV A U U.heap; rw [hU]; exact hSW.moved hW.alike⟩⟩ rfl rfl hl.1 rfl (lv_room (Nat.le_of_ble_eq_true rfl)) dJ1_charAt_3b067_3 ⟨by show _ ≤ _; simp [headSpec, sm_rm], by show _ ≤ _; simp [headSpec, sm_rm]⟩) ?_
  refine lv_aload_n hx hb dJ1_charAt_3b067_6 rfl (lv_at hl 0 rfl) ?_
  refine lv_iload_n hx hb dJ1_charAt_3b067_7 rfl (lv_at hl 1 rfl) ?_
  refine va_tb hx hb (hSW.1.1 i hi).2.2.2 hS hin9 rfl dJ1_charAt_3b067_8 ?_
  refine lv_sipush (v := 255) hx hb dJ1_charAt_3b067_9 (by decide) ?_
  refine lv_iand hx hb dJ1_charAt_3b067_12 ?_
  refine lv_i2c hx hb dJ1_charAt_3b067_13 rfl ?_
  have hb9 := st_b i hi
  have hk6 : j.toNatClampNeg < 6 := by
    have h8 := (st_a i hi).2.2
    have := hjj.2.2
    omega
  rw [(hb9 _ hk6).1]
  exact W.zret hx hb hr (hb9 _ hk6).2 (fun t ht _ => ⟨rfl, ht⟩) (fun _ h => by cases h) dJ1_charAt_3b067_14
set_option maxHeartbeats 4000000 in
set_option maxRecDepth 20000 in
theorem c_chr (l : Launch) (adK adV : Nat → Nat) (A : Nat → Prop) (d : Nat) {i : Nat} (hi : i < 5) (j : Int32) (hj : am_in j (sByt.getD i []).length = true) : Met l yJ0_charAt_5068e (wsA yJ0_charAt_5068e cJ0_charAt_5068e 2 (some .char)) (sm_rm (d + 3) 0 0) (va_Pc [.ref (adK i), .int j] (fun U => sm_SW adK adV A U U.heap)) (sm_Q0 (some (.int ((sByt.getD i []).getD j.toNatClampNeg 0)))) 0 0 (fun _ => False) := by
  refine Met.ofW (cc := cJ0_charAt_5068e) (maxL := 2) (ret := (some .char)) (by decide) rfl ?_
  intro p e s m args below meth c s₁ B hml hv
  obtain ⟨rfl, hSW⟩ := hv
  have hx := B.exec
  have hb := B.bytes
  have hr := B.returns
  have hts0 := atoms_spec (ws := wsA yJ0_charAt_5068e cJ0_charAt_5068e 2 (some .char)) B.pre
  have hts : ∀ w ∈ ATB, w.before _ s = true := fun w h => hts0 w (List.mem_cons_of_mem _ h)
  have hown : s.vm.findClass "java/lang/String" = some m.cls := findClass_of_methodNamed B.named
  have hlocks := B.notSynchronized
  have hS : va_S A s.heap s.heap [] := va_S.rf
  have hl := lv_entry ([.ref (adK i), .int j]) (n := 2) (Nat.le_of_ble_eq_true rfl)
  rw [lg_entry_eq]
  generalize (lg_sl ([.ref (adK i), .int j]) ++ List.replicate (2 - (lg_sl ([.ref (adK i), .int j])).length) Slot.unset).toArray = ls at hl ⊢
  have hfix : CallFix p m c cJ0_charAt_5068e 2 s _ ATB "java/lang/String" := ⟨hx, hb, hml, hown, hts⟩
  have hl : lv_has ls 2 [(0, .ref (adK i)), (1, .int j)] := hl
  refine lv_aload_n hx hb dJ0_charAt_5068e_0 rfl (lv_at hl 0 rfl) ?_
  refine sm_call0 (va_runV (As := []) (rest := []) hfix (c_lat l adK adV A d hi) ⟨sm_cb (na := 0) (d := d) (mc := 0) (ms := 0) hts jc_lat ji_S jk_lat ⟨by decide, by decide⟩ (by decide +kernel) (by decide) (by show _ ≤ _; simp [headSpec, sm_rm]; try omega) (by show _ ≤ _; simp [headSpec, sm_rm]; try omega), hts _ jl_lat, hts _ js_lat⟩ ⟨fun a U g mk q => ⟨q.1, sm_SW.moved (u := U) (U := U.calling g mk a) (Vm.Alike.refl U.vm) q.2⟩, vk_recv hSW.1 hi hS, fun U hU hW => ⟨rfl, by show sm_SW adK adV A U U.heap; rw [hU]; exact hSW.moved hW.alike⟩⟩ rfl rfl hl.1 rfl (lv_room (Nat.le_of_ble_eq_true rfl)) dJ0_charAt_5068e_1 ⟨by show _ ≤ _; simp [headSpec, sm_rm], by show _ ≤ _; simp [headSpec, sm_rm]⟩) ?_
  refine lv_if_eq (tgt := 16) hx hb dJ0_charAt_5068e_4 (by decide) (fun h => absurd h (by decide)) (fun _ => ?_)
  refine lv_aload_n hx hb dJ0_charAt_5068e_7 rfl (lv_at hl 0 rfl) ?_
  refine vk_getf hx hb (hSW.1.1 i hi).2.2.1 hS hown (hts _ jf_val) (fun _ h => h) dJ0_charAt_5068e_8 ?_
  refine lv_iload_n hx hb dJ0_charAt_5068e_11 rfl (lv_at hl 1 rfl) ?_
  refine sm_call0 (va_runS (As := [.ref (adV i), .int j]) (rest := []) hfix (c_ch1 l adK adV A d hi j hj) ⟨sm_cb (na := 2) (d := d + 2) (mc := 0) (ms := 0) hts jc_ch1 ji_S1 jk_ch1 ⟨by decide, by decide⟩ (by decide +kernel) (by decide) (by show _ ≤ _; simp [headSpec, sm_rm]) (by show _ ≤ _; simp [headSpec, sm_rm]; try omega), hts _ jl_ch1⟩ ⟨fun a U g mk q => ⟨q.1, sm_SW.moved (u := U) (U := U.calling g mk a) (Vm.Alike.refl U.vm) q.2⟩, fun U hU hW => ⟨rfl, by show sm_SW adK adV A U U.heap; rw [hU]; exact hSW.moved hW.alike⟩⟩ rfl rfl hl.1 rfl (lv_room (Nat.le_of_ble_eq_true rfl)) dJ0_charAt_5068e_12 ⟨by show _ ≤ _; simp [headSpec, sm_rm], by show _ ≤ _; simp [headSpec, sm_rm]⟩) ?_
  have hb9 := st_b i hi
  have hk6 : j.toNatClampNeg < 6 := by
    have h8 := (st_a i hi).2.2
    have h7 := (st_a i hi).2.1
    simp only [am_in, Bool.not_eq_true', Bool.or_eq_false_iff, decide_eq_false_iff_not] at hj
    omega
  exact W.zret hx hb hr (hb9 _ hk6).2 (fun t ht _ => ⟨rfl, ht⟩) (fun _ h => by cases h) dJ0_charAt_5068e_15
