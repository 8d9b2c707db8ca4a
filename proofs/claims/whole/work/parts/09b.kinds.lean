/-! the steps by kind, as the rows below want them (a program writes this part) -/
section EVI
variable {d j pc tgt : Nat} {vs st : List Value} {h : AH} {b : ByteArray} {nl : Nat} {rt : Option FieldType} {y : MethodName} {o : Nat} {x z : Int32} {off : Int}
theorem ev_ifeq (hm : mt j = some (b, nl, rt, y, o)) (hd : decode b pc = .ok (.ifCond .eq off, 3)) (hj : am_jok pc off = true) (ht : am_jmp pc off = tgt) : ev d j pc vs (.int x :: st) h = if x = 0 then ev d j tgt vs st h else ev d j (pc + 3) vs st h := by
  subst ht
  by_cases hc : x = 0
  · rw [if_pos hc]
    exact ev_num hm hd rfl (by simp only [am_num, hj, am_cond, if_true]; first | (simp [Int32.not_le.mpr hc]; done) | (simp [Int32.not_lt.mp hc]; done) | (simp [hc]; done))
  · rw [if_neg hc]
    exact ev_num hm hd rfl (by simp only [am_num, hj, am_cond, if_true]; first | (simp [Int32.not_le.mpr hc]; done) | (simp [Int32.not_lt.mp hc]; done) | (simp [hc]; done))
theorem ev_ifne (hm : mt j = some (b, nl, rt, y, o)) (hd : decode b pc = .ok (.ifCond .ne off, 3)) (hj : am_jok pc off = true) (ht : am_jmp pc off = tgt) : ev d j pc vs (.int x :: st) h = if x = 0 then ev d j (pc + 3) vs st h else ev d j tgt vs st h := by
  subst ht
  by_cases hc : x = 0
  · rw [if_pos hc]
    exact ev_num hm hd rfl (by simp only [am_num, hj, am_cond, if_true]; first | (simp [Int32.not_le.mpr hc]; done) | (simp [Int32.not_lt.mp hc]; done) | (simp [hc]; done))
  · rw [if_neg hc]
    exact ev_num hm hd rfl (by simp only [am_num, hj, am_cond, if_true]; first | (simp [Int32.not_le.mpr hc]; done) | (simp [Int32.not_lt.mp hc]; done) | (simp [hc]; done))
theorem ev_iflt (hm : mt j = some (b, nl, rt, y, o)) (hd : decode b pc = .ok (.ifCond .lt off, 3)) (hj : am_jok pc off = true) (ht : am_jmp pc off = tgt) : ev d j pc vs (.int x :: st) h = if x < 0 then ev d j tgt vs st h else ev d j (pc + 3) vs st h := by
  subst ht
  by_cases hc : x < 0
  · rw [if_pos hc]
    exact ev_num hm hd rfl (by simp only [am_num, hj, am_cond, if_true]; first | (simp [Int32.not_le.mpr hc]; done) | (simp [Int32.not_lt.mp hc]; done) | (simp [hc]; done))
  · rw [if_neg hc]
    exact ev_num hm hd rfl (by simp only [am_num, hj, am_cond, if_true]; first | (simp [Int32.not_le.mpr hc]; done) | (simp [Int32.not_lt.mp hc]; done) | (simp [hc]; done))
theorem ev_ifge (hm : mt j = some (b, nl, rt, y, o)) (hd : decode b pc = .ok (.ifCond .ge off, 3)) (hj : am_jok pc off = true) (ht : am_jmp pc off = tgt) : ev d j pc vs (.int x :: st) h = if x < 0 then ev d j (pc + 3) vs st h else ev d j tgt vs st h := by
  subst ht
  by_cases hc : x < 0
  · rw [if_pos hc]
    exact ev_num hm hd rfl (by simp only [am_num, hj, am_cond, if_true]; first | (simp [Int32.not_le.mpr hc]; done) | (simp [Int32.not_lt.mp hc]; done) | (simp [hc]; done))
  · rw [if_neg hc]
    exact ev_num hm hd rfl (by simp only [am_num, hj, am_cond, if_true]; first | (simp [Int32.not_le.mpr hc]; done) | (simp [Int32.not_lt.mp hc]; done) | (simp [hc]; done))
theorem ev_ifgt (hm : mt j = some (b, nl, rt, y, o)) (hd : decode b pc = .ok (.ifCond .gt off, 3)) (hj : am_jok pc off = true) (ht : am_jmp pc off = tgt) : ev d j pc vs (.int x :: st) h = if 0 < x then ev d j tgt vs st h else ev d j (pc + 3) vs st h := by
  subst ht
  by_cases hc : 0 < x
  · rw [if_pos hc]
    exact ev_num hm hd rfl (by simp only [am_num, hj, am_cond, if_true]; first | (simp [Int32.not_le.mpr hc]; done) | (simp [Int32.not_lt.mp hc]; done) | (simp [hc]; done))
  · rw [if_neg hc]
    exact ev_num hm hd rfl (by simp only [am_num, hj, am_cond, if_true]; first | (simp [Int32.not_le.mpr hc]; done) | (simp [Int32.not_lt.mp hc]; done) | (simp [hc]; done))
theorem ev_ifle (hm : mt j = some (b, nl, rt, y, o)) (hd : decode b pc = .ok (.ifCond .le off, 3)) (hj : am_jok pc off = true) (ht : am_jmp pc off = tgt) : ev d j pc vs (.int x :: st) h = if 0 < x then ev d j (pc + 3) vs st h else ev d j tgt vs st h := by
  subst ht
  by_cases hc : 0 < x
  · rw [if_pos hc]
    exact ev_num hm hd rfl (by simp only [am_num, hj, am_cond, if_true]; first | (simp [Int32.not_le.mpr hc]; done) | (simp [Int32.not_lt.mp hc]; done) | (simp [hc]; done))
  · rw [if_neg hc]
    exact ev_num hm hd rfl (by simp only [am_num, hj, am_cond, if_true]; first | (simp [Int32.not_le.mpr hc]; done) | (simp [Int32.not_lt.mp hc]; done) | (simp [hc]; done))
theorem ev_iceq (hm : mt j = some (b, nl, rt, y, o)) (hd : decode b pc = .ok (.if_icmp .eq off, 3)) (hj : am_jok pc off = true) (ht : am_jmp pc off = tgt) : ev d j pc vs (.int z :: .int x :: st) h = if x = z then ev d j tgt vs st h else ev d j (pc + 3) vs st h := by
  subst ht
  by_cases hc : x = z
  · rw [if_pos hc]
    exact ev_num hm hd rfl (by simp only [am_num, hj, am_cond, if_true]; first | (simp [Int32.not_le.mpr hc]; done) | (simp [Int32.not_lt.mp hc]; done) | (simp [hc]; done))
  · rw [if_neg hc]
    exact ev_num hm hd rfl (by simp only [am_num, hj, am_cond, if_true]; first | (simp [Int32.not_le.mpr hc]; done) | (simp [Int32.not_lt.mp hc]; done) | (simp [hc]; done))
theorem ev_icne (hm : mt j = some (b, nl, rt, y, o)) (hd : decode b pc = .ok (.if_icmp .ne off, 3)) (hj : am_jok pc off = true) (ht : am_jmp pc off = tgt) : ev d j pc vs (.int z :: .int x :: st) h = if x = z then ev d j (pc + 3) vs st h else ev d j tgt vs st h := by
  subst ht
  by_cases hc : x = z
  · rw [if_pos hc]
    exact ev_num hm hd rfl (by simp only [am_num, hj, am_cond, if_true]; first | (simp [Int32.not_le.mpr hc]; done) | (simp [Int32.not_lt.mp hc]; done) | (simp [hc]; done))
  · rw [if_neg hc]
    exact ev_num hm hd rfl (by simp only [am_num, hj, am_cond, if_true]; first | (simp [Int32.not_le.mpr hc]; done) | (simp [Int32.not_lt.mp hc]; done) | (simp [hc]; done))
theorem ev_iclt (hm : mt j = some (b, nl, rt, y, o)) (hd : decode b pc = .ok (.if_icmp .lt off, 3)) (hj : am_jok pc off = true) (ht : am_jmp pc off = tgt) : ev d j pc vs (.int z :: .int x :: st) h = if x < z then ev d j tgt vs st h else ev d j (pc + 3) vs st h := by
  subst ht
  by_cases hc : x < z
  · rw [if_pos hc]
    exact ev_num hm hd rfl (by simp only [am_num, hj, am_cond, if_true]; first | (simp [Int32.not_le.mpr hc]; done) | (simp [Int32.not_lt.mp hc]; done) | (simp [hc]; done))
  · rw [if_neg hc]
    exact ev_num hm hd rfl (by simp only [am_num, hj, am_cond, if_true]; first | (simp [Int32.not_le.mpr hc]; done) | (simp [Int32.not_lt.mp hc]; done) | (simp [hc]; done))
theorem ev_icge (hm : mt j = some (b, nl, rt, y, o)) (hd : decode b pc = .ok (.if_icmp .ge off, 3)) (hj : am_jok pc off = true) (ht : am_jmp pc off = tgt) : ev d j pc vs (.int z :: .int x :: st) h = if x < z then ev d j (pc + 3) vs st h else ev d j tgt vs st h := by
  subst ht
  by_cases hc : x < z
  · rw [if_pos hc]
    exact ev_num hm hd rfl (by simp only [am_num, hj, am_cond, if_true]; first | (simp [Int32.not_le.mpr hc]; done) | (simp [Int32.not_lt.mp hc]; done) | (simp [hc]; done))
  · rw [if_neg hc]
    exact ev_num hm hd rfl (by simp only [am_num, hj, am_cond, if_true]; first | (simp [Int32.not_le.mpr hc]; done) | (simp [Int32.not_lt.mp hc]; done) | (simp [hc]; done))
theorem ev_icgt (hm : mt j = some (b, nl, rt, y, o)) (hd : decode b pc = .ok (.if_icmp .gt off, 3)) (hj : am_jok pc off = true) (ht : am_jmp pc off = tgt) : ev d j pc vs (.int z :: .int x :: st) h = if z < x then ev d j tgt vs st h else ev d j (pc + 3) vs st h := by
  subst ht
  by_cases hc : z < x
  · rw [if_pos hc]
    exact ev_num hm hd rfl (by simp only [am_num, hj, am_cond, if_true]; first | (simp [Int32.not_le.mpr hc]; done) | (simp [Int32.not_lt.mp hc]; done) | (simp [hc]; done))
  · rw [if_neg hc]
    exact ev_num hm hd rfl (by simp only [am_num, hj, am_cond, if_true]; first | (simp [Int32.not_le.mpr hc]; done) | (simp [Int32.not_lt.mp hc]; done) | (simp [hc]; done))
theorem ev_icle (hm : mt j = some (b, nl, rt, y, o)) (hd : decode b pc = .ok (.if_icmp .le off, 3)) (hj : am_jok pc off = true) (ht : am_jmp pc off = tgt) : ev d j pc vs (.int z :: .int x :: st) h = if z < x then ev d j (pc + 3) vs st h else ev d j tgt vs st h := by
  subst ht
  by_cases hc : z < x
  · rw [if_pos hc]
    exact ev_num hm hd rfl (by simp only [am_num, hj, am_cond, if_true]; first | (simp [Int32.not_le.mpr hc]; done) | (simp [Int32.not_lt.mp hc]; done) | (simp [hc]; done))
  · rw [if_neg hc]
    exact ev_num hm hd rfl (by simp only [am_num, hj, am_cond, if_true]; first | (simp [Int32.not_le.mpr hc]; done) | (simp [Int32.not_lt.mp hc]; done) | (simp [hc]; done))
theorem ev_cpyN {x q1 q2 i0 i1 i3 a bb : Nat} {sh : List Sh} {m : Mem} {q : MemJ} (hm : mt j = some (b, nl, rt, y, o)) (hd : decode b pc = .ok (.invokestatic x, 3)) (hl : ml o x = some (4, q1, q2)) (hs : sh_tg sh a = 1) (hs' : sh_tg sh bb = 1) (h4 : i3 + i0 ≤ sh_ln sh a) (h5 : i1 + i0 ≤ sh_ln sh bb) (hp : am_pw st ≤ 8) (k1 : sh_ln sh a < 1000) (k2 : sh_ln sh bb < 1000) :
    ev (d + 5) j pc vs (.int (nI i0) :: .int (nI i1) :: .ref bb :: .int (nI i3) :: .ref a :: st) (mk sh m q) = ev (d + 5) j (pc + 3) vs st (mk sh (mu m bb (va_cpy (m a) (m bb) i3 i1 i0)) q) := by
  have e0 := nI_c (show i0 < 1000 by omega)
  have e1 := nI_c (show i1 < 1000 by omega)
  have e3 := nI_c (show i3 < 1000 by omega)
  have := ev_cpy (d := d) (m := m) (q := q) (vs := vs) hm hd hl hs hs' (nI_pos (n := i3) (by omega)) (nI_pos (n := i1) (by omega)) (nI_pos (n := i0) (by omega)) (by rw [e3, e0]; exact h4) (by rw [e1, e0]; exact h5) hp
  rw [e0, e1, e3] at this
  exact this
end EVI
