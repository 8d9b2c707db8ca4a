/-! the steps by kind, as the rows below want them (a program writes this part) -/
section EVI
variable {d j pc tgt : Nat} {vs st : List Value} {h : AH} {b : ByteArray} {nl : Nat} {rt : Option FieldType} {y : MethodName} {o : Nat} {x z : Int32} {off : Int}
theorem ev_ifeq (hm : mt j = some (b, nl, rt, y, o)) (hd : decode b pc = .ok (.ifCond .eq off, 3)) (hj : am_jok pc off = true) (ht : am_jmp pc off = tgt) : ev d j pc vs (.int x :: st) h = if x = 0 then ev d j tgt vs st h else ev d j (pc + 3) vs st h := by
  subst ht
  by_cases hc : x = 0
  · rw [if_pos hc]
    exact ev_num hm hd rfl (by simp only [am_num, hj, am_cond, if_true]; first | (simp [Int32.not_le.mpr hc]; done) | (simp [Int32.not_lt.mp hc]; done) | (simp [hc]; done))
  · rw [if_neg hc]
    exact ev_num hm hd rfl (by simp only [am_num, hj, am_cond, if_true]; first | (simp [Int32.not_le.mpr hc]; done) | (simp [Int32.not_lt.mp hc]; done) | (simp [hc]; done))
theorem ev_ifne (hm : mt j = some (b, nl, rt, y, o)) (hd : decode b pc = .ok (.ifCond .ne off, 3)) (hj : am_jok pc off = true) (ht : am_jmp pc off = tgt) : ev d j pc vs (.int x :: st) h = if x = 0 then ev d j (pc + 3) vs st h else ev d j tgt vs st h := by
  subst ht
  by_cases hc : x = 0
  · rw [if_pos hc]
    exact ev_num hm hd rfl (by simp only [am_num, hj, am_cond, if_true]; first | (simp [Int32.not_le.mpr hc]; done) | (simp [Int32.not_lt.mp hc]; done) | (simp [hc]; done))
  · rw [if_neg hc]
    exact ev_num hm hd rfl (by simp only [am_num, hj, am_cond, if_true]; first | (simp [Int32.not_le.mpr hc]; done) | (simp [Int32.not_lt.mp hc]; done) | (simp [hc]; done))
theorem ev_iflt (hm : mt j = some (b, nl, rt, y, o)) (hd : decode b pc = .ok (.ifCond .lt off, 3)) (hj : am_jok pc off = true) (ht : am_jmp pc off = tgt) : ev d j pc vs (.int x :: st) h = if x < 0 then ev d j tgt vs st h else ev d j (pc + 3) vs st h := by
  subst ht
  by_cases hc : x < 0
  · rw [if_pos hc]
    exact ev_num hm hd rfl (by simp only [am_num, hj, am_cond, if_true]; first | (simp [Int32.not_le.mpr hc]; done) | (simp [Int32.not_lt.mp hc]; done) | (simp [hc]; done))
  · rw [if_neg hc]
    exact ev_num hm hd rfl (by simp only [am_num, hj, am_cond, if_true]; first | (simp [Int32.not_le.mpr hc]; done) | (simp [Int32.not_lt.mp hc]; done) | (simp [hc]; done))
theorem ev_ifge (hm : mt j = some (b, nl, rt, y, o)) (hd : decode b pc = .ok (.ifCond .ge off, 3)) (hj : am_jok pc off = true) (ht : am_jmp pc off = tgt) : ev d j pc vs (.int x :: st) h = if x < 0 then ev d j (pc + 3) vs st h else ev d j tgt vs st h := by
  subst ht
  by_cases hc : x < 0
  · rw [if_pos hc]
    exact ev_num hm hd rfl (by simp only [am_num, hj, am_cond, if_true]; first | (simp [Int32.not_le.mpr hc]; done) | (simp [Int32.not_lt.mp hc]; done) | (simp [hc]; done))
  · rw [if_neg hc]
    exact ev_num hm hd rfl (by simp only [am_num, hj, am_cond, if_true]; first | (simp [Int32.not_le.mpr hc]; done) | (simp [Int32.not_lt.mp hc]; done) | (simp [hc]; done))
theorem ev_ifgt (hm : mt j = some (b, nl, rt, y, o)) (hd : decode b pc = .ok (.ifCond .gt off, 3)) (hj : am_jok pc off = true) (ht : am_jmp pc off = tgt) : ev d j pc vs (.int x :: st) h = if 0 < x then ev d j tgt vs st h else ev d j (pc + 3) vs st h := by
  subst ht
  by_cases hc : 0 < x
  · rw [if_pos hc]
    exact ev_num hm hd rfl (by simp only [am_num, hj, am_cond, if_true]; first | (simp [Int32.not_le.mpr hc]; done) | (simp [Int32.not_lt.mp hc]; done) | (simp [hc]; done))
  · rw [if_neg hc]
    exact ev_num hm hd rfl (by simp only [am_num, hj, am_cond, if_true]; first | (simp [Int32.not_le.mpr hc]; done) | (simp [Int32.not_lt.mp hc]; done) | (simp [hc]; done))
theorem ev_ifle (hm : mt j = some (b, nl, rt, y, o)) (hd : decode b pc = .ok (.ifCond .le off, 3)) (hj : am_jok pc off = true) (ht : am_jmp pc off = tgt) : ev d j pc vs (.int x :: st) h = if 0 < x then ev d j (pc + 3) vs st h else ev d j tgt vs st h := by
  subst ht
  by_cases hc : 0 < x
  · rw [if_pos hc]
    exact ev_num hm hd rfl (by simp only [am_num, hj, am_cond, if_true]; first | (simp [Int32.not_le.mpr hc]; done) | (simp [Int32.not_lt.mp hc]; done) | (simp [hc]; done))
  · rw [if_neg hc]
    exact ev_num hm hd rfl (by simp only [am_num, hj, am_cond, if_true]; first | (simp [Int32.not_le.mpr hc]; done) | (simp [Int32.not_lt.mp hc]; done) | (simp [hc]; done))
theorem ev_iceq (hm : mt j = some (b, nl, rt, y, o)) (hd : decode b pc = .ok (.if_icmp .eq off, 3)) (hj : am_jok pc off = true) (ht : am_jmp pc off = tgt) : ev d j pc vs (.int z :: .int x :: st) h = if x = z then ev d j tgt vs st h else ev d j (pc + 3) vs st h := by
  subst ht
  by_cases hc : x = z
  · rw [if_pos hc]
    exact ev_num hm hd rfl (by simp only [am_num, hj, am_cond, if_true]; first | (simp [Int32.not_le.mpr hc]; done) | (simp [Int32.not_lt.mp hc]; done) | (simp [hc]; done))
  · rw [if_neg hc]
    exact ev_num hm hd rfl (by simp only [am_num, hj, am_cond, if_true]; first | (simp [Int32.not_le.mpr hc]; done) | (simp [Int32.not_lt.mp hc]; done) | (simp [hc]; done))
theorem ev_icne (hm : mt j = some (b, nl, rt, y, o)) (hd : decode b pc = .ok (.if_icmp .ne off, 3)) (hj : am_jok pc off = true) (ht : am_jmp pc off = tgt) : ev d j pc vs (.int z :: .int x :: st) h = if x = z then ev d j (pc + 3) vs st h else ev d j tgt vs st h := by
  subst ht
  by_cases hc : x = z
  · rw [if_pos hc]
    exact ev_num hm hd rfl (by simp only [am_num, hj, am_cond, if_true]; first | (simp [Int32.not_le.mpr hc]; done) | (simp [Int32.not_lt.mp hc]; done) | (simp [hc]; done))
  · rw [if_neg hc]
    exact ev_num hm hd rfl (by simp only [am_num, hj, am_cond, if_true]; first | (simp [Int32.not_le.mpr hc]; done) | (simp [Int32.not_lt.mp hc]; done) | (simp [hc]; done))
theorem ev_iclt (hm : mt j = some (b, nl, rt, y, o)) (hd : decode b pc = .ok (.if_icmp .lt off, 3)) (hj : am_jok pc off = true) (ht : am_jmp pc off = tgt) : ev d j pc vs (.int z :: .int x :: st) h = if x < z then ev d j tgt vs st h else ev d j (pc + 3) vs st h := by
  subst ht
  by_cases hc : x < z
  · rw [if_pos hc]
    exact ev_num hm hd rfl (by simp only [am_num, hj, am_cond, if_true]; first | (simp [Int32.not_le.mpr hc]; done) | (simp [Int32.not_lt.mp hc]; done) | (simp [hc]; done))
  · rw [if_neg hc]
    exact ev_num hm hd rfl (by simp only [am_num, hj, am_cond, if_true]; first | (simp [Int32.not_le.mpr hc]; done) | (simp [Int32.not_lt.mp hc]; done) | (simp [hc]; done))
theorem ev_icge (hm : mt j = some (b, nl, rt, y, o)) (hd : decode b pc = .ok (.if_icmp .ge off, 3)) (hj : am_jok pc off = true) (ht : am_jmp pc off = tgt) : ev d j pc vs (.int z :: .int x :: st) h = if x < z then ev d j (pc + 3) vs st h else ev d j tgt vs st h := by
  subst ht
  by_cases hc : x < z
  · rw [if_pos hc]
    exact ev_num hm hd rfl (by simp only [am_num, hj, am_cond, if_true]; first | (simp [Int32.not_le.mpr hc]; done) | (simp [Int32.not_lt.mp hc]; done) | (simp [hc]; done))
  · rw [if_neg hc]
    exact ev_num hm hd rfl (by simp only [am_num, hj, am_cond, if_true]; first | (simp [Int32.not_le.mpr hc]; done) | (simp [Int32.not_lt.mp hc]; done) | (simp [hc]; done))
theorem ev_icgt (hm : mt j = some (b, nl, rt, y, o)) (hd : decode b pc = .ok (.if_icmp .gt off, 3)) (hj : am_jok pc off = true) (ht : am_jmp pc off = tgt) : ev d j pc vs (.int z :: .int x :: st) h = if z < x then ev d j tgt vs st h else ev d j (pc + 3) vs st h := by
  subst ht
  by_cases hc : z < x
  · rw [if_pos hc]
    exact ev_num hm hd rfl (by simp only [am_num, hj, am_cond, if_true]; first | (simp [Int32.not_le.mpr hc]; done) | (simp [Int32.not_lt.mp hc]; done) | (simp [hc]; done))
  · rw [if_neg hc]
    exact ev_num hm hd rfl (by simp only [am_num, hj, am_cond, if_true]; first | (simp [Int32.not_le.mpr hc]; done) | (simp [Int32.not_lt.mp hc]; done) | (simp [hc]; done))
theorem ev_icle (hm : mt j = some (b, nl, rt, y, o)) (hd : decode b pc = .ok (.if_icmp .le off, 3)) (hj : am_jok pc off = true) (ht : am_jmp pc off = tgt) : ev d j pc vs (.int z :: .int x :: st) h = if z < x then ev d j (pc + 3) vs st h else ev d j tgt vs st h := by
  subst ht
  by_cases hc : z < x
  · rw [if_pos hc]
    exact ev_num hm hd rfl (by simp only [am_num, hj, am_cond, if_true]; first | (simp [Int32.not_le.mpr hc]; done) | (simp [Int32.not_lt.mp hc]; done) | (simp [hc]; done))
  · rw [if_neg hc]
    exact ev_num hm hd rfl (by simp only [am_num, hj, am_cond, if_true]; first | (simp [Int32.not_le.mpr hc]; done) | (simp [Int32.not_lt.mp hc]; done) | (simp [hc]; done))
theorem ev_cpyN {x q1 q2 i0 i1 i3 a bb : Nat} {sh : List Sh} {m : Mem} {q : MemJ} (hm : mt j = some (b, nl, rt, y, o)) (hd : decode b pc = .ok (.invokestatic x, 3)) (hl : ml o x = some (4, q1, q2)) (hs : sh_tg sh a = 1) (hs' : sh_tg sh bb = 1) (h4 : i3 + i0 ≤ sh_ln sh a) (h5 : i1 + i0 ≤ sh_ln sh bb) (hp : am_pw st ≤ 8) (k1 : sh_ln sh a < 1000) (k2 : sh_ln sh bb < 1000) :
    ev (d + 5) j pc vs (.int (nI i0) :: .int (nI i1) :: .ref bb :: .int (nI i3) :: .ref a :: st) (mk sh m q) = ev (d + 5) j (pc + 3) vs st (mk sh (mu m bb (va_cpy (m a) (m bb) i3 i1 i0)) q) := by
  have e0 := nI_c (show i0 < 1000 by omega)
  have e1 := nI_c (show i1 < 1000 by omega)
  have e3 := nI_c (show i3 < 1000 by omega)
  have := ev_cpy (d := d) (m := m) (q := q) (vs := vs) hm hd hl hs hs' (nI_pos (n := i3) (by omega)) (nI_pos (n := i1) (by omega)) (nI_pos (n := i0) (by omega)) (by rw [e3, e0]; exact h4) (by rw [e1, e0]; exact h5) hp
  rw [e0, e1, e3] at this
  exact this
end EVI
theorem lk_0_3 : ml 0 3 = some (3, 0, 0) := by decide +kernel
theorem lk_0_18 : ml 0 18 = some (0, 2, 1) := by decide +kernel
theorem lk_0_22 : ml 0 22 = some (0, 4, 4) := by decide +kernel
theorem lk_0_30 : ml 0 30 = some (0, 3, 4) := by decide +kernel
theorem lk_0_33 : ml 0 33 = some (4, 0, 0) := by decide +kernel
theorem lk_0_39 : ml 0 39 = some (1, 31, 1) := by decide +kernel
theorem lk_0_43 : ml 0 43 = some (0, 5, 4) := by decide +kernel
theorem lk_0_46 : ml 0 46 = some (0, 39, 2) := by decide +kernel
theorem lk_0_50 : ml 0 50 = some (0, 48, 4) := by decide +kernel
theorem lk_0_54 : ml 0 54 = some (0, 40, 3) := by decide +kernel
theorem lk_0_58 : ml 0 58 = some (0, 43, 2) := by decide +kernel
theorem lk_0_62 : ml 0 62 = some (0, 44, 4) := by decide +kernel
theorem lk_0_65 : ml 0 65 = some (0, 47, 3) := by decide +kernel
theorem lk_1_3 : ml 1 3 = some (3, 0, 0) := by decide +kernel
theorem lk_1_29 : ml 1 29 = some (1, 98, 2) := by decide +kernel
theorem lk_1_35 : ml 1 35 = some (1, 113, 1) := by decide +kernel
theorem lk_1_41 : ml 1 41 = some (0, 146, 1) := by decide +kernel
theorem lk_2_3 : ml 2 3 = some (3, 0, 0) := by decide +kernel
theorem lk_2_17 : ml 2 17 = some (2, 9, 0) := by decide +kernel
theorem lk_2_24 : ml 2 24 = some (2, 10, 0) := by decide +kernel
theorem lk_2_31 : ml 2 31 = some (2, 12, 0) := by decide +kernel
theorem lk_2_38 : ml 2 38 = some (2, 13, 0) := by decide +kernel
theorem lk_2_57 : ml 2 57 = some (0, 52, 0) := by decide +kernel
theorem lk_2_60 : ml 2 60 = some (0, 82, 1) := by decide +kernel
theorem lk_2_64 : ml 2 64 = some (0, 87, 1) := by decide +kernel
theorem lk_2_70 : ml 2 70 = some (0, 158, 1) := by decide +kernel
theorem lk_2_74 : ml 2 74 = some (0, 160, 1) := by decide +kernel
theorem lk_2_77 : ml 2 77 = some (0, 86, 0) := by decide +kernel
theorem lk_2_80 : ml 2 80 = some (0, 96, 1) := by decide +kernel
theorem lk_2_84 : ml 2 84 = some (0, 106, 1) := by decide +kernel
theorem lk_2_87 : ml 2 87 = some (0, 108, 1) := by decide +kernel
theorem lk_2_90 : ml 2 90 = some (0, 112, 1) := by decide +kernel
theorem lk_2_93 : ml 2 93 = some (0, 95, 1) := by decide +kernel
theorem lk_2_97 : ml 2 97 = some (0, 118, 1) := by decide +kernel
theorem lk_2_101 : ml 2 101 = some (0, 130, 1) := by decide +kernel
theorem lk_2_103 : ml 2 103 = some (0, 134, 2) := by decide +kernel
theorem lk_3_1 : ml 3 1 = some (3, 0, 0) := by decide +kernel
theorem lk_3_9 : ml 3 9 = some (2, 1, 0) := by decide +kernel
theorem lk_3_16 : ml 3 16 = some (0, 22, 1) := by decide +kernel
theorem lk_3_20 : ml 3 20 = some (0, 35, 0) := by decide +kernel
theorem lk_3_24 : ml 3 24 = some (0, 131, 3) := by decide +kernel
theorem lk_3_28 : ml 3 28 = some (0, 40, 3) := by decide +kernel
theorem lk_3_32 : ml 3 32 = some (0, 4, 4) := by decide +kernel
theorem lk_3_36 : ml 3 36 = some (1, 88, 3) := by decide +kernel
theorem lk_3_42 : ml 3 42 = some (0, 135, 0) := by decide +kernel
theorem lk_3_45 : ml 3 45 = some (1, 136, 4) := by decide +kernel
theorem lk_3_49 : ml 3 49 = some (0, 87, 1) := by decide +kernel
theorem lk_4_1 : ml 4 1 = some (3, 0, 0) := by decide +kernel
theorem lk_4_15 : ml 4 15 = some (2, 1, 0) := by decide +kernel
theorem lk_4_23 : ml 4 23 = some (0, 22, 1) := by decide +kernel
theorem lk_5_9 : ml 5 9 = some (1, 78, 1) := by decide +kernel
theorem lk_6_3 : ml 6 3 = some (3, 0, 0) := by decide +kernel
theorem lk_6_19 : ml 6 19 = some (0, 35, 0) := by decide +kernel
theorem lk_6_25 : ml 6 25 = some (1, 88, 3) := by decide +kernel
theorem lk_6_29 : ml 6 29 = some (0, 82, 1) := by decide +kernel
theorem lk_6_33 : ml 6 33 = some (0, 83, 1) := by decide +kernel
theorem lk_6_41 : ml 6 41 = some (0, 84, 2) := by decide +kernel
theorem lk_6_45 : ml 6 45 = some (0, 40, 3) := by decide +kernel
theorem lk_6_49 : ml 6 49 = some (0, 85, 2) := by decide +kernel
theorem lk_6_52 : ml 6 52 = some (0, 158, 1) := by decide +kernel
theorem lk_6_56 : ml 6 56 = some (0, 161, 1) := by decide +kernel
theorem lk_6_60 : ml 6 60 = some (7, 0, 0) := by decide +kernel
theorem lk_6_66 : ml 6 66 = some (8, 0, 0) := by decide +kernel
theorem lk_6_69 : ml 6 69 = some (1, 79, 6) := by decide +kernel
theorem lk_7_3 : ml 7 3 = some (3, 0, 0) := by decide +kernel
theorem lk_7_25 : ml 7 25 = some (0, 24, 0) := by decide +kernel
theorem lk_7_28 : ml 7 28 = some (0, 27, 1) := by decide +kernel
theorem lk_7_37 : ml 7 37 = some (0, 28, 1) := by decide +kernel
theorem lk_7_41 : ml 7 41 = some (0, 29, 1) := by decide +kernel
theorem lk_7_46 : ml 7 46 = some (0, 34, 1) := by decide +kernel
theorem lk_7_51 : ml 7 51 = some (0, 37, 1) := by decide +kernel
theorem lk_7_56 : ml 7 56 = some (0, 41, 1) := by decide +kernel
theorem lk_7_59 : ml 7 59 = some (0, 45, 1) := by decide +kernel
theorem lk_7_62 : ml 7 62 = some (0, 30, 2) := by decide +kernel
theorem lk_7_69 : ml 7 69 = some (1, 31, 1) := by decide +kernel
theorem lk_7_75 : ml 7 75 = some (0, 32, 1) := by decide +kernel
theorem lk_7_79 : ml 7 79 = some (0, 2, 1) := by decide +kernel
theorem lk_7_82 : ml 7 82 = some (1, 33, 1) := by decide +kernel
theorem lk_7_85 : ml 7 85 = some (0, 4, 4) := by decide +kernel
theorem lk_7_89 : ml 7 89 = some (0, 35, 0) := by decide +kernel
theorem lk_7_93 : ml 7 93 = some (0, 36, 0) := by decide +kernel
theorem lk_7_97 : ml 7 97 = some (0, 3, 4) := by decide +kernel
theorem lk_7_100 : ml 7 100 = some (0, 38, 1) := by decide +kernel
theorem lk_7_103 : ml 7 103 = some (0, 42, 2) := by decide +kernel
theorem lk_7_109 : ml 7 109 = some (0, 46, 0) := by decide +kernel
theorem lk_7_112 : ml 7 112 = some (1, 26, 1) := by decide +kernel
theorem lk_7_115 : ml 7 115 = some (5, 0, 0) := by decide +kernel
theorem lk_7_119 : ml 7 119 = some (6, 0, 0) := by decide +kernel
theorem lk_7_123 : ml 7 123 = some (1, 25, 1) := by decide +kernel
theorem lk_8_3 : ml 8 3 = some (3, 0, 0) := by decide +kernel
theorem lk_8_15 : ml 8 15 = some (0, 109, 0) := by decide +kernel
theorem lk_8_21 : ml 8 21 = some (8, 0, 0) := by decide +kernel
theorem lk_8_30 : ml 8 30 = some (0, 119, 3) := by decide +kernel
theorem lk_8_34 : ml 8 34 = some (0, 110, 1) := by decide +kernel
theorem lk_8_38 : ml 8 38 = some (1, 120, 2) := by decide +kernel
theorem lk_8_43 : ml 8 43 = some (0, 122, 1) := by decide +kernel
theorem lk_8_47 : ml 8 47 = some (1, 123, 1) := by decide +kernel
theorem lk_8_53 : ml 8 53 = some (0, 127, 1) := by decide +kernel
theorem lk_9_3 : ml 9 3 = some (3, 0, 0) := by decide +kernel
theorem lk_9_22 : ml 9 22 = some (1, 98, 2) := by decide +kernel
theorem lk_10_3 : ml 10 3 = some (3, 0, 0) := by decide +kernel
theorem lk_10_21 : ml 10 21 = some (2, 11, 0) := by decide +kernel
theorem lk_10_22 : ml 10 22 = some (0, 97, 0) := by decide +kernel
theorem lk_10_25 : ml 10 25 = some (0, 35, 0) := by decide +kernel
theorem lk_10_31 : ml 10 31 = some (1, 99, 1) := by decide +kernel
theorem lk_10_37 : ml 10 37 = some (1, 100, 3) := by decide +kernel
theorem lk_10_41 : ml 10 41 = some (1, 102, 3) := by decide +kernel
theorem lk_10_45 : ml 10 45 = some (0, 105, 0) := by decide +kernel
theorem lk_10_48 : ml 10 48 = some (0, 40, 3) := by decide +kernel
theorem lk_10_52 : ml 10 52 = some (1, 101, 2) := by decide +kernel
theorem lk_10_56 : ml 10 56 = some (1, 107, 5) := by decide +kernel
theorem lk_10_60 : ml 10 60 = some (0, 103, 1) := by decide +kernel
theorem lk_10_64 : ml 10 64 = some (1, 104, 2) := by decide +kernel
theorem lk_10_67 : ml 10 67 = some (0, 96, 1) := by decide +kernel
theorem lk_10_71 : ml 10 71 = some (0, 109, 0) := by decide +kernel
theorem lk_10_74 : ml 10 74 = some (0, 110, 1) := by decide +kernel
theorem lk_10_77 : ml 10 77 = some (1, 111, 2) := by decide +kernel
theorem lk_10_80 : ml 10 80 = some (0, 108, 1) := by decide +kernel
theorem lk_10_83 : ml 10 83 = some (1, 113, 1) := by decide +kernel
theorem lk_10_86 : ml 10 86 = some (8, 0, 0) := by decide +kernel
theorem lk_11_1 : ml 11 1 = some (3, 0, 0) := by decide +kernel
theorem lk_11_9 : ml 11 9 = some (2, 1, 0) := by decide +kernel
theorem lk_11_21 : ml 11 21 = some (2, 6, 0) := by decide +kernel
theorem lk_11_36 : ml 11 36 = some (2, 7, 0) := by decide +kernel
theorem lk_11_43 : ml 11 43 = some (2, 8, 1) := by decide +kernel
theorem lk_11_56 : ml 11 56 = some (2, 14, 0) := by decide +kernel
theorem lk_11_57 : ml 11 57 = some (0, 16, 0) := by decide +kernel
theorem lk_11_61 : ml 11 61 = some (0, 17, 1) := by decide +kernel
theorem lk_11_65 : ml 11 65 = some (0, 18, 0) := by decide +kernel
theorem lk_11_69 : ml 11 69 = some (0, 20, 0) := by decide +kernel
theorem lk_11_72 : ml 11 72 = some (0, 22, 1) := by decide +kernel
theorem lk_11_75 : ml 11 75 = some (0, 23, 1) := by decide +kernel
theorem lk_11_79 : ml 11 79 = some (0, 50, 0) := by decide +kernel
theorem lk_11_80 : ml 11 80 = some (0, 51, 0) := by decide +kernel
theorem lk_11_83 : ml 11 83 = some (0, 53, 0) := by decide +kernel
theorem lk_11_86 : ml 11 86 = some (0, 55, 1) := by decide +kernel
theorem lk_11_90 : ml 11 90 = some (0, 40, 3) := by decide +kernel
theorem lk_11_94 : ml 11 94 = some (0, 47, 3) := by decide +kernel
theorem lk_11_97 : ml 11 97 = some (0, 39, 2) := by decide +kernel
theorem lk_11_101 : ml 11 101 = some (0, 59, 0) := by decide +kernel
theorem lk_11_104 : ml 11 104 = some (0, 4, 4) := by decide +kernel
theorem lk_11_108 : ml 11 108 = some (1, 62, 1) := by decide +kernel
theorem lk_11_111 : ml 11 111 = some (0, 63, 4) := by decide +kernel
theorem lk_11_115 : ml 11 115 = some (0, 3, 4) := by decide +kernel
theorem lk_11_118 : ml 11 118 = some (0, 38, 1) := by decide +kernel
theorem lk_11_122 : ml 11 122 = some (0, 42, 2) := by decide +kernel
theorem lk_11_125 : ml 11 125 = some (0, 35, 0) := by decide +kernel
theorem lk_11_128 : ml 11 128 = some (0, 67, 3) := by decide +kernel
theorem lk_11_131 : ml 11 131 = some (0, 69, 1) := by decide +kernel
theorem lk_11_134 : ml 11 134 = some (0, 46, 0) := by decide +kernel
theorem lk_11_137 : ml 11 137 = some (0, 72, 0) := by decide +kernel
theorem lk_11_138 : ml 11 138 = some (0, 73, 1) := by decide +kernel
theorem lk_11_141 : ml 11 141 = some (1, 77, 5) := by decide +kernel
theorem lk_11_145 : ml 11 145 = some (1, 79, 6) := by decide +kernel
theorem lk_11_151 : ml 11 151 = some (0, 81, 0) := by decide +kernel
theorem lk_11_154 : ml 11 154 = some (0, 86, 0) := by decide +kernel
theorem lk_11_157 : ml 11 157 = some (0, 89, 0) := by decide +kernel
theorem lk_11_160 : ml 11 160 = some (0, 90, 0) := by decide +kernel
theorem lk_11_163 : ml 11 163 = some (0, 91, 0) := by decide +kernel
theorem lk_11_166 : ml 11 166 = some (1, 93, 1) := by decide +kernel
theorem lk_11_169 : ml 11 169 = some (0, 94, 1) := by decide +kernel
theorem lk_11_172 : ml 11 172 = some (0, 95, 1) := by decide +kernel
theorem lk_11_176 : ml 11 176 = some (0, 109, 0) := by decide +kernel
theorem lk_11_179 : ml 11 179 = some (0, 114, 1) := by decide +kernel
theorem lk_11_180 : ml 11 180 = some (0, 110, 1) := by decide +kernel
theorem lk_11_183 : ml 11 183 = some (1, 115, 3) := by decide +kernel
theorem lk_11_188 : ml 11 188 = some (0, 117, 0) := by decide +kernel
theorem lk_11_192 : ml 11 192 = some (0, 121, 1) := by decide +kernel
theorem lk_11_197 : ml 11 197 = some (1, 120, 2) := by decide +kernel
theorem lk_11_200 : ml 11 200 = some (1, 78, 1) := by decide +kernel
theorem lk_11_205 : ml 11 205 = some (0, 125, 2) := by decide +kernel
theorem lk_11_209 : ml 11 209 = some (0, 126, 2) := by decide +kernel
theorem lk_11_212 : ml 11 212 = some (0, 129, 0) := by decide +kernel
theorem lk_11_217 : ml 11 217 = some (0, 133, 0) := by decide +kernel
theorem lk_11_220 : ml 11 220 = some (1, 138, 1) := by decide +kernel
theorem lk_11_223 : ml 11 223 = some (0, 139, 2) := by decide +kernel
theorem lk_11_227 : ml 11 227 = some (0, 141, 0) := by decide +kernel
theorem lk_11_230 : ml 11 230 = some (0, 142, 1) := by decide +kernel
theorem lk_11_233 : ml 11 233 = some (0, 143, 1) := by decide +kernel
theorem lk_11_236 : ml 11 236 = some (0, 144, 3) := by decide +kernel
theorem lk_11_239 : ml 11 239 = some (1, 113, 1) := by decide +kernel
theorem lk_11_242 : ml 11 242 = some (0, 146, 1) := by decide +kernel
theorem lk_11_245 : ml 11 245 = some (0, 147, 1) := by decide +kernel
theorem lk_11_248 : ml 11 248 = some (0, 148, 1) := by decide +kernel
theorem lk_11_251 : ml 11 251 = some (1, 111, 2) := by decide +kernel
theorem lk_11_254 : ml 11 254 = some (0, 150, 2) := by decide +kernel
theorem lk_11_257 : ml 11 257 = some (0, 152, 1) := by decide +kernel
theorem lk_11_260 : ml 11 260 = some (0, 154, 0) := by decide +kernel
theorem lk_11_263 : ml 11 263 = some (0, 155, 0) := by decide +kernel
theorem lk_11_266 : ml 11 266 = some (1, 88, 3) := by decide +kernel
theorem lk_11_270 : ml 11 270 = some (0, 157, 0) := by decide +kernel
theorem lk_11_273 : ml 11 273 = some (0, 159, 0) := by decide +kernel
theorem lk_11_276 : ml 11 276 = some (0, 162, 0) := by decide +kernel
theorem lk_11_279 : ml 11 279 = some (0, 60, 1) := by decide +kernel
theorem lk_12_1 : ml 12 1 = some (3, 0, 0) := by decide +kernel
theorem lk_12_53 : ml 12 53 = some (0, 164, 0) := by decide +kernel
theorem lk_12_56 : ml 12 56 = some (1, 184, 3) := by decide +kernel
theorem lk_12_60 : ml 12 60 = some (1, 181, 3) := by decide +kernel
theorem lk_12_63 : ml 12 63 = some (1, 182, 3) := by decide +kernel
theorem lk_12_66 : ml 12 66 = some (1, 183, 3) := by decide +kernel
theorem lk_12_69 : ml 12 69 = some (0, 189, 2) := by decide +kernel
theorem lk_12_73 : ml 12 73 = some (0, 170, 0) := by decide +kernel
theorem lk_12_77 : ml 12 77 = some (1, 166, 3) := by decide +kernel
theorem lk_12_81 : ml 12 81 = some (0, 201, 1) := by decide +kernel
theorem lk_12_105 : ml 12 105 = some (1, 172, 1) := by decide +kernel
theorem lk_12_108 : ml 12 108 = some (1, 173, 1) := by decide +kernel
theorem lk_12_111 : ml 12 111 = some (0, 171, 0) := by decide +kernel
theorem lk_12_114 : ml 12 114 = some (0, 177, 3) := by decide +kernel
theorem lk_12_118 : ml 12 118 = some (1, 178, 1) := by decide +kernel
theorem lk_12_129 : ml 12 129 = some (0, 179, 1) := by decide +kernel
theorem lk_12_133 : ml 12 133 = some (0, 180, 4) := by decide +kernel
theorem lk_12_137 : ml 12 137 = some (0, 186, 1) := by decide +kernel
theorem lk_12_140 : ml 12 140 = some (0, 192, 0) := by decide +kernel
theorem lk_12_143 : ml 12 143 = some (0, 193, 2) := by decide +kernel
theorem lk_12_146 : ml 12 146 = some (0, 175, 5) := by decide +kernel
theorem lk_12_150 : ml 12 150 = some (0, 176, 0) := by decide +kernel
theorem lk_12_154 : ml 12 154 = some (0, 185, 0) := by decide +kernel
theorem lk_12_157 : ml 12 157 = some (0, 187, 1) := by decide +kernel
theorem lk_12_160 : ml 12 160 = some (0, 191, 0) := by decide +kernel
theorem lk_12_163 : ml 12 163 = some (0, 196, 0) := by decide +kernel
theorem lk_12_169 : ml 12 169 = some (0, 174, 0) := by decide +kernel
theorem lk_12_172 : ml 12 172 = some (0, 169, 1) := by decide +kernel
theorem lk_12_179 : ml 12 179 = some (0, 200, 3) := by decide +kernel
theorem lk_12_182 : ml 12 182 = some (0, 188, 3) := by decide +kernel
theorem lk_12_185 : ml 12 185 = some (0, 197, 3) := by decide +kernel
theorem lk_12_190 : ml 12 190 = some (0, 206, 2) := by decide +kernel
theorem lk_12_196 : ml 12 196 = some (0, 205, 0) := by decide +kernel
theorem lk_12_203 : ml 12 203 = some (1, 208, 1) := by decide +kernel
theorem lk_12_206 : ml 12 206 = some (0, 190, 4) := by decide +kernel
theorem lk_12_209 : ml 12 209 = some (1, 194, 3) := by decide +kernel
theorem lk_12_212 : ml 12 212 = some (0, 195, 3) := by decide +kernel
theorem lk_12_215 : ml 12 215 = some (0, 222, 3) := by decide +kernel
theorem lk_12_218 : ml 12 218 = some (0, 225, 7) := by decide +kernel
theorem lk_12_222 : ml 12 222 = some (0, 224, 6) := by decide +kernel
theorem lk_12_226 : ml 12 226 = some (0, 221, 0) := by decide +kernel
theorem lk_12_229 : ml 12 229 = some (0, 223, 3) := by decide +kernel
theorem lk_12_232 : ml 12 232 = some (1, 228, 3) := by decide +kernel
theorem lk_12_235 : ml 12 235 = some (0, 218, 5) := by decide +kernel
theorem lk_12_238 : ml 12 238 = some (0, 220, 0) := by decide +kernel
theorem lk_12_241 : ml 12 241 = some (0, 227, 0) := by decide +kernel
theorem lk_12_244 : ml 12 244 = some (0, 226, 0) := by decide +kernel
theorem lk_12_247 : ml 12 247 = some (0, 229, 0) := by decide +kernel
theorem lk_12_250 : ml 12 250 = some (1, 233, 1) := by decide +kernel
theorem lk_12_253 : ml 12 253 = some (1, 238, 3) := by decide +kernel
theorem lk_12_256 : ml 12 256 = some (0, 236, 0) := by decide +kernel
theorem lk_12_259 : ml 12 259 = some (1, 237, 2) := by decide +kernel
theorem lk_12_262 : ml 12 262 = some (0, 235, 0) := by decide +kernel
theorem lk_12_265 : ml 12 265 = some (0, 239, 0) := by decide +kernel
theorem lk_12_271 : ml 12 271 = some (0, 241, 2) := by decide +kernel
theorem lk_12_275 : ml 12 275 = some (0, 240, 0) := by decide +kernel
theorem lk_12_278 : ml 12 278 = some (0, 234, 0) := by decide +kernel
theorem lk_12_281 : ml 12 281 = some (0, 242, 0) := by decide +kernel
theorem lk_12_286 : ml 12 286 = some (0, 231, 1) := by decide +kernel
theorem lk_12_289 : ml 12 289 = some (0, 232, 1) := by decide +kernel
theorem lk_12_292 : ml 12 292 = some (0, 243, 0) := by decide +kernel
theorem lk_12_295 : ml 12 295 = some (0, 244, 1) := by decide +kernel
theorem lk_12_301 : ml 12 301 = some (0, 248, 2) := by decide +kernel
theorem lk_12_304 : ml 12 304 = some (0, 246, 0) := by decide +kernel
theorem lk_12_307 : ml 12 307 = some (0, 247, 2) := by decide +kernel
theorem lk_12_310 : ml 12 310 = some (1, 250, 1) := by decide +kernel
theorem lk_12_313 : ml 12 313 = some (0, 251, 2) := by decide +kernel
theorem lk_12_316 : ml 12 316 = some (0, 253, 3) := by decide +kernel
theorem lk_12_319 : ml 12 319 = some (1, 256, 1) := by decide +kernel
theorem lk_12_322 : ml 12 322 = some (0, 258, 2) := by decide +kernel
theorem lk_12_325 : ml 12 325 = some (0, 263, 1) := by decide +kernel
theorem lk_12_328 : ml 12 328 = some (0, 265, 0) := by decide +kernel
theorem lk_12_331 : ml 12 331 = some (0, 266, 0) := by decide +kernel
theorem fk_0_11 : fl 0 11 = some (0, 1, 2, true) := by decide +kernel
theorem fk_0_15 : fl 0 15 = some (0, 2, 2, true) := by decide +kernel
theorem fk_0_26 : fl 0 26 = some (0, 0, 0, false) := by decide +kernel
theorem fk_1_9 : fl 1 9 = some (1, 3, 2, true) := by decide +kernel
theorem fk_1_15 : fl 1 15 = some (1, 4, 2, true) := by decide +kernel
theorem fk_1_18 : fl 1 18 = some (1, 0, 1, false) := by decide +kernel
theorem fk_1_22 : fl 1 22 = some (1, 1, 1, false) := by decide +kernel
theorem fk_1_25 : fl 1 25 = some (1, 2, 0, false) := by decide +kernel
theorem fk_2_9 : fl 2 9 = some (2, 0, 2, true) := by decide +kernel
theorem fk_2_18 : fl 2 18 = some (2, 1, 2, true) := by decide +kernel
theorem fk_2_25 : fl 2 25 = some (2, 2, 2, true) := by decide +kernel
theorem fk_2_32 : fl 2 32 = some (2, 3, 2, true) := by decide +kernel
theorem fk_2_39 : fl 2 39 = some (2, 4, 2, true) := by decide +kernel
theorem fk_2_43 : fl 2 43 = some (2, 8, 0, false) := by decide +kernel
theorem fk_2_47 : fl 2 47 = some (2, 9, 0, false) := by decide +kernel
theorem fk_2_50 : fl 2 50 = some (2, 5, 1, false) := by decide +kernel
theorem fk_2_54 : fl 2 54 = some (2, 7, 1, false) := by decide +kernel
theorem fk_2_67 : fl 2 67 = some (2, 6, 1, false) := by decide +kernel
theorem fk_3_10 : fl 3 10 = some (3, 0, 2, true) := by decide +kernel
theorem fk_4_11 : fl 4 11 = some (4, 0, 2, true) := by decide +kernel
theorem fk_4_16 : fl 4 16 = some (4, 2, 0, false) := by decide +kernel
theorem fk_4_20 : fl 4 20 = some (4, 1, 0, false) := by decide +kernel
theorem fk_6_11 : fl 6 11 = some (5, 0, 2, true) := by decide +kernel
theorem fk_6_15 : fl 6 15 = some (5, 1, 2, true) := by decide +kernel
theorem fk_6_37 : fl 6 37 = some (5, 2, 0, false) := by decide +kernel
theorem fk_7_11 : fl 7 11 = some (6, 0, 2, true) := by decide +kernel
theorem fk_7_15 : fl 7 15 = some (6, 1, 0, false) := by decide +kernel
theorem fk_7_19 : fl 7 19 = some (6, 5, 0, false) := by decide +kernel
theorem fk_7_22 : fl 7 22 = some (6, 3, 0, false) := by decide +kernel
theorem fk_7_32 : fl 7 32 = some (6, 2, 0, false) := by decide +kernel
theorem fk_7_66 : fl 7 66 = some (6, 4, 0, false) := by decide +kernel
theorem fk_8_11 : fl 8 11 = some (7, 0, 2, true) := by decide +kernel
theorem fk_8_27 : fl 8 27 = some (7, 1, 0, false) := by decide +kernel
theorem fk_9_11 : fl 9 11 = some (8, 0, 2, true) := by decide +kernel
theorem fk_9_15 : fl 9 15 = some (8, 1, 2, true) := by decide +kernel
theorem fk_9_18 : fl 9 18 = some (8, 2, 0, false) := by decide +kernel
theorem fk_10_11 : fl 10 11 = some (9, 0, 2, true) := by decide +kernel
theorem fk_10_17 : fl 10 17 = some (9, 1, 2, true) := by decide +kernel
theorem fk_11_10 : fl 11 10 = some (10, 0, 2, true) := by decide +kernel
theorem fk_11_16 : fl 11 16 = some (10, 1, 2, true) := by decide +kernel
theorem fk_11_22 : fl 11 22 = some (10, 2, 2, true) := by decide +kernel
theorem fk_11_26 : fl 11 26 = some (10, 3, 2, true) := by decide +kernel
theorem fk_11_30 : fl 11 30 = some (10, 4, 2, true) := by decide +kernel
theorem fk_11_37 : fl 11 37 = some (10, 5, 2, true) := by decide +kernel
theorem fk_11_46 : fl 11 46 = some (10, 6, 2, true) := by decide +kernel
theorem fk_11_52 : fl 11 52 = some (10, 7, 2, true) := by decide +kernel
theorem fk_12_7 : fl 12 7 = some (11, 0, 2, true) := by decide +kernel
theorem fk_12_13 : fl 12 13 = some (11, 2, 2, true) := by decide +kernel
theorem fk_12_17 : fl 12 17 = some (11, 3, 2, true) := by decide +kernel
theorem fk_12_20 : fl 12 20 = some (11, 5, 2, true) := by decide +kernel
theorem fk_12_23 : fl 12 23 = some (11, 6, 2, true) := by decide +kernel
theorem fk_12_26 : fl 12 26 = some (11, 7, 2, true) := by decide +kernel
theorem fk_12_29 : fl 12 29 = some (11, 8, 2, true) := by decide +kernel
theorem fk_12_32 : fl 12 32 = some (11, 14, 2, true) := by decide +kernel
theorem fk_12_35 : fl 12 35 = some (11, 15, 2, true) := by decide +kernel
theorem fk_12_38 : fl 12 38 = some (11, 16, 2, true) := by decide +kernel
theorem fk_12_41 : fl 12 41 = some (11, 17, 2, true) := by decide +kernel
theorem fk_12_44 : fl 12 44 = some (11, 19, 2, true) := by decide +kernel
theorem fk_12_47 : fl 12 47 = some (11, 20, 2, true) := by decide +kernel
theorem fk_12_50 : fl 12 50 = some (11, 22, 2, true) := by decide +kernel
theorem fk_12_87 : fl 12 87 = some (11, 4, 0, false) := by decide +kernel
theorem fk_12_99 : fl 12 99 = some (11, 10, 0, false) := by decide +kernel
theorem fk_12_102 : fl 12 102 = some (11, 9, 0, false) := by decide +kernel
theorem fk_12_122 : fl 12 122 = some (11, 11, 0, false) := by decide +kernel
theorem fk_12_125 : fl 12 125 = some (11, 13, 1, false) := by decide +kernel
theorem fk_12_166 : fl 12 166 = some (11, 12, 0, false) := by decide +kernel
theorem fk_12_176 : fl 12 176 = some (11, 1, 0, false) := by decide +kernel
theorem fk_12_268 : fl 12 268 = some (11, 18, 0, false) := by decide +kernel
theorem fk_12_298 : fl 12 298 = some (11, 21, 0, false) := by decide +kernel
