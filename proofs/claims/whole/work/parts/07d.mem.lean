/-! steps that read and write cells -/
abbrev tysA (dA : Nat → ClassId) : List (ClassId × FieldType) := [(dA 0, tyOf 0), (dA 1, tyOf 1), (dA 2, tyOf 2), (dA 3, tyOf 3), (dA 4, tyOf 4), (dA 5, tyOf 5)]
theorem tysA_get {dA : Nat → ClassId} {t : Nat} (h : t < 6) : (tysA dA)[t]? = some (dA t, tyOf t) := by
  match t, h with
  | 0, _ => rfl
  | 1, _ => rfl
  | 2, _ => rfl
  | 3, _ => rfl
  | 4, _ => rfl
  | 5, _ => rfl
theorem va_RA.name {U : State} {cA : ClassId} {ty : FieldType} (h : va_RA U cA ty) : U.vm.findClass ("[" ++ ty.toString) = some cA := by
  cases ty with
  | object C =>
    obtain ⟨_, _, _, _, _, h4⟩ := h
    exact h4
  | _ => exact h
theorem sm_cA {D : va_G} {dA : Nat → ClassId} {cA : ClassId} {t : Nat} {s : State} (ht : t < 6) (hK : va_K D vwCl (tysA dA ++ [(cA, tyOf t)]) s) : cA = dA t := by
  have h1 := (hK.2 t (dA t, tyOf t) (by rw [List.getElem?_append_left (by simpa using ht)]; exact tysA_get ht)).2.name
  have h2 := (hK.2 6 (cA, tyOf t) (by simp)).2.name
  exact Option.some.inj (h2.symm.trans h1)
theorem sm_size {D : va_G} {base : Nat} {dA : Nat → ClassId} {ad : Nat → Nat} {h : AH} {H : Heap} (hP : va_P D vwCl (sm_w base dA ad h) H) (h0 : 0 < h.length) : base + h.length ≤ H.size := by
  obtain ⟨e, he⟩ : ∃ e, h[h.length - 1]? = some e := ⟨_, List.getElem?_eq_getElem (by omega)⟩
  have := (hP (h.length - 1) _ (sm_w_get he)).lt
  dsimp only at this
  omega
theorem sm_fl {o x ci k kd : Nat} {fin : Bool} (h : fl o x = some (ci, k, kd, fin)) : FOK (o, x, ci, k, kd, fin) := flT_all _ (am_find_mem h)
theorem sm_ml {o x t c n : Nat} (h : ml o x = some (t, c, n)) : COK (o, x, t, c, n) := mlT_all _ (am_find_mem h)
/-- what the class tables say of a place of vwCl -/
theorem sm_cls {ci : Nat} {q : vw_C} (h : vwCl[ci]? = some q) : (∀ w ∈ u_ws q.1 q.2.1 q.2.2, w ∈ ATB) ∧ (∃ ty : Nat → FieldType, (∀ k, k < q.2.2 → parseFieldDescriptor (q.2.1 k).2.2.1 = some (ty k)) ∧ ∀ j, j < q.2.2 → defaultValue (ty j) = vp_V (am_df ci) j) ∧ (∀ a, a < q.2.2 → ∀ b, b < q.2.2 → a ≠ b → (q.2.1 a).2.1 ≠ (q.2.1 b).2.1) ∧ (am_df ci).length = q.2.2 ∧ cn (am_oc ci) = q.1 ∧ ci < 12 := by
  match ci, h with
  | 0, h => cases h; exact ⟨uw_0, ⟨tyX0, tyX0_ok, by decide +kernel⟩, nmX0, rfl, rfl, by decide⟩
  | 1, h => cases h; exact ⟨uw_1, ⟨tyX1, tyX1_ok, by decide +kernel⟩, nmX1, rfl, rfl, by decide⟩
  | 2, h => cases h; exact ⟨uw_2, ⟨tyX2, tyX2_ok, by decide +kernel⟩, nmX2, rfl, rfl, by decide⟩
  | 3, h => cases h; exact ⟨uw_3, ⟨tyX3, tyX3_ok, by decide +kernel⟩, nmX3, rfl, rfl, by decide⟩
  | 4, h => cases h; exact ⟨uw_4, ⟨tyX4, tyX4_ok, by decide +kernel⟩, nmX4, rfl, rfl, by decide⟩
  | 5, h => cases h; exact ⟨uw_5, ⟨tyX6, tyX6_ok, by decide +kernel⟩, nmX6, rfl, rfl, by decide⟩
  | 6, h => cases h; exact ⟨uw_6, ⟨tyX7, tyX7_ok, by decide +kernel⟩, nmX7, rfl, rfl, by decide⟩
  | 7, h => cases h; exact ⟨uw_7, ⟨tyX8, tyX8_ok, by decide +kernel⟩, nmX8, rfl, rfl, by decide⟩
  | 8, h => cases h; exact ⟨uw_8, ⟨tyX9, tyX9_ok, by decide +kernel⟩, nmX9, rfl, rfl, by decide⟩
  | 9, h => cases h; exact ⟨uw_9, ⟨tyX10, tyX10_ok, by decide +kernel⟩, nmX10, rfl, rfl, by decide⟩
  | 10, h => cases h; exact ⟨uw_10, ⟨tyX11, tyX11_ok, by decide +kernel⟩, nmX11, rfl, rfl, by decide⟩
  | 11, h => cases h; exact ⟨uw_11, ⟨tyX12, tyX12_ok, by decide +kernel⟩, nmX12, rfl, rfl, by decide⟩
  | k + 12, h => simp [vwCl] at h
theorem sm_df_map {ad : Nat → Nat} {ci : Nat} : (am_df ci).map (sm_v ad) = am_df ci := by
  unfold am_df
  split <;> rfl
theorem sm_z_map {ad : Nat → Nat} {t n : Nat} : sm_a ad (am_z t n) = am_z t n := by
  unfold am_z
  split <;> rfl
theorem sm_fit {ad : Nat → Nat} {kd : Nat} {v : Value} {ty : FieldType} (h : am_fit kd v = true) (ht : (kd = 0 ∧ ty = .int) ∨ (kd = 1 ∧ ty = .boolean) ∨ (kd = 2 ∧ ((∃ C, ty = .object C) ∨ ∃ t, ty = .array t))) : narrow ty (sm_v ad v) = sm_v ad v ∧ fits ty (sm_v ad v) = true := by
  rcases ht with ⟨rfl, rfl⟩ | ⟨rfl, rfl⟩ | ⟨rfl, ⟨C, rfl⟩ | ⟨t, rfl⟩⟩
  · cases v <;> simp [am_fit] at h
    exact ⟨rfl, rfl⟩
  · cases v <;> simp [am_fit, am_bool] at h
    rcases h with rfl | rfl
    · exact ⟨(by decide : narrow .boolean (.int 0) = .int 0), (by decide : fits .boolean (.int 0) = true)⟩
    · exact ⟨(by decide : narrow .boolean (.int 1) = .int 1), (by decide : fits .boolean (.int 1) = true)⟩
  · cases v <;> simp [am_fit] at h
    exact ⟨rfl, rfl⟩
  · cases v <;> simp [am_fit] at h
    exact ⟨rfl, rfl⟩
section SMM
variable {p : Program} {l : Launch} {e : Env} {R : Room} {s : State} {m : MethodId} {args : Array Value} {below : List Frame} {meth : Method} {c : Code} {H : Heap} {locs : List Loc} {cells slots : Nat} {Q : State → Prop}
variable {lg : Bool} {cc : ByteArray} {pc : Nat} {ls : Array Slot} {n : Nat} {vs st : List Value}
/-- what a method knows of the machine, whatever it does -/
def sm_F (D : va_G) (dA : Nat → ClassId) (base : Nat) (adK adV : Nat → Nat) (A : Nat → Prop) (o : Nat) (ini : Bool) (p : Program) (s : State) (m : MethodId) (args : Array Value) (meth : Method) : Prop :=
  p.tables.exec = Jvm.exec ∧ (∀ w ∈ ATB, w.before args s = true) ∧ s.vm.findClass (cn o) = some m.cls ∧ va_K D vwCl (tysA dA) s ∧ (∀ q, s.heap.size ≤ q → A q) ∧ (∀ q, A q → base ≤ q) ∧ (ini = true → meth.name = "<init>") ∧
  (∀ (o x k : Nat), scl o x = some k → k < 5 ∧ ∃ tx, vk_R (cn o) x tx (adK k) s) ∧ (∀ t, t < 6 → 3 ≤ t → ∀ C, tyOf t = .object C → va_AO C s) ∧ sm_SW adK adV A s s.heap
/-- what holds at a step: the cells are there, nothing else has changed, and the book of new cells -/
def sm_G (D : va_G) (dA : Nat → ClassId) (base : Nat) (adK : Nat → Nat) (A : Nat → Prop) (s : State) (h : AH) (H : Heap) (locs : List Loc) (cells : Nat) (grow : Prop) : Prop :=
  va_P D vwCl (sm_w base dA (sm_ad base adK) h) H ∧ va_S A s.heap H locs ∧ (∀ k, k < h.length → A (base + k)) ∧ 0 < h.length ∧ h.length ≤ 1000 ∧ (grow → s.heap.size + cells = base + h.length)
set_option maxHeartbeats 8000000 in
theorem sm_new {D : va_G} {dA : Nat → ClassId} {base : Nat} {adK adV : Nat → Nat} {A : Nat → Prop} {o : Nat} {ini : Bool} {h : AH} {grow : Prop} (F : sm_F D dA base adK adV A o ini p s m args meth) (G : sm_G D dA base adK A s h H locs cells grow) (hg : grow) {y : AE} {q : Nat} {H1 : Heap} {locs1 : List Loc} {sl pc' : Nat} {ls' : Array Slot} {rest : List Value} (hl : h.length < 1000)
    (hz : H.size ≤ base + h.length) (hP1 : va_P D vwCl (sm_w base dA (sm_ad base adK) h ++ [(q, sm_e dA (sm_ad base adK) y)]) H1) (hD1 : va_D A (sm_w base dA (sm_ad base adK) h ++ [(q, sm_e dA (sm_ad base adK) y)])) (hS1 : va_S A s.heap H1 locs1)
    (k : sm_G D dA base adK A s (h ++ [y]) H1 locs1 (cells + 1) grow → W p l e R s m args below meth c H1 locs1 (cells + 1) sl Q (F0 m pc' ls' (.ref (sm_ad base adK h.length) :: rest))) : W p l e R s m args below meth c H1 locs1 (cells + 1) sl Q (F0 m pc' ls' (.ref q :: rest)) := by
  intro T hT X
  have h1 : T.heap.size ≤ s.heap.size + (cells + 1) := X.heapSize
  rw [hT] at h1
  have h2 := G.2.2.2.2.2 hg
  have hq1 : (sm_w base dA (sm_ad base adK) h ++ [(q, sm_e dA (sm_ad base adK) y)])[h.length]? = some (q, sm_e dA (sm_ad base adK) y) := by
    rw [List.getElem?_append_right (by simp [sm_w])]
    simp [sm_w]
  have h3 : q < H1.size := (hP1 _ _ hq1).lt
  have h4 : base ≤ q := F.2.2.2.2.2.1 q (hD1.2 _ _ hq1)
  have h5 : q = base + h.length := by
    rcases Nat.lt_or_ge q (base + h.length) with hlt | hge
    · exfalso
      obtain ⟨e1, he1⟩ : ∃ e1, h[q - base]? = some e1 := ⟨_, List.getElem?_eq_getElem (by omega)⟩
      have hq2 : (sm_w base dA (sm_ad base adK) h ++ [(q, sm_e dA (sm_ad base adK) y)])[q - base]? = some (base + (q - base), sm_e dA (sm_ad base adK) e1) := by
        rw [List.getElem?_append_left (by simp [sm_w]; omega)]
        exact sm_w_get he1
      have := hD1.1 _ _ _ _ hq1 hq2 (by dsimp only; omega)
      omega
    · omega
  subst h5
  have hA1 : A (base + h.length) := hD1.2 _ _ hq1
  rw [sm_w_app] at hP1
  have := k ⟨hP1, hS1, fun i hi => by
    simp only [List.length_append, List.length_cons, List.length_nil] at hi
    rcases Nat.lt_or_ge i h.length with q | q
    · exact G.2.2.1 i q
    · rw [show i = h.length by omega]; exact hA1, by simp, by simp; omega, fun _ => by simp; omega⟩
  rw [sm_ad_lt (by omega)] at this
  exact this T hT X
end SMM
