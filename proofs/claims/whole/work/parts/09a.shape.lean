/-! the shapes of the class's cells and of the reference's, as the constructors leave them (a program writes this part) -/
def shC : List Sh := [(0, 10, [some 1, some 4, some 7, some 33, some 34, some 41, some 43, some 68]), (0, 0, [none, some 2, some 3]), (1, 216, []), (1, 18, []), (0, 0, [none, some 5, some 6]), (1, 216, []), (1, 18, []), (0, 4, [some 8, none, none]), (4, 8, [some 9, some 12, some 15, some 18, some 21, some 24, some 27, some 30]), (0, 0, [none, some 10, some 11]), (1, 216, []), (1, 18, []), (0, 0, [none, some 13, some 14]), (1, 216, []), (1, 18, []), (0, 0, [none, some 16, some 17]), (1, 216, []), (1, 18, []), (0, 0, [none, some 19, some 20]), (1, 216, []), (1, 18, []), (0, 0, [none, some 22, some 23]), (1, 216, []), (1, 18, []), (0, 0, [none, some 25, some 26]), (1, 216, []), (1, 18, []), (0, 0, [none, some 28, some 29]), (1, 216, []), (1, 18, []), (0, 0, [none, some 31, some 32]), (1, 216, []), (1, 18, []), (4, 2, [some 35, some 38]), (2, 2, []), (0, 0, [none, some 36, some 37]), (1, 216, []), (1, 18, []), (0, 0, [none, some 39, some 40]), (1, 216, []), (1, 18, []), (0, 6, [some 42, none, none, none, none, none]), (1, 200, []), (0, 2, [some 1, some 44, some 47, some 62, some 64, none, none, none, none, none]), (0, 5, [some 45, some 46, none]), (2, 64, []), (1, 20, []), (0, 9, [some 48, some 49]), (6, 4, [some 50, some 53, some 56, some 59]), (2, 4, []), (0, 8, [some 51, some 52, none]), (1, 729, []), (1, 128, []), (0, 8, [some 54, some 55, none]), (1, 729, []), (1, 128, []), (0, 8, [some 57, some 58, none]), (1, 729, []), (1, 128, []), (0, 8, [some 60, some 61, none]), (1, 729, []), (1, 128, []), (0, 7, [some 63, none]), (3, 64, []), (0, 3, [some 65]), (0, 0, [none, some 66, some 67]), (1, 216, []), (1, 18, []), (5, 3, [some 69, some 72, some 75]), (0, 1, [none, none, none, some 70, some 71]), (1, 6, []), (1, 6, []), (0, 1, [none, none, none, some 73, some 74]), (1, 6, []), (1, 6, []), (0, 1, [none, none, none, some 76, some 77]), (1, 6, []), (1, 6, [])]
theorem shC_0 : shC[0]? = some (0, 10, [some 1, some 4, some 7, some 33, some 34, some 41, some 43, some 68]) := rfl
theorem shC_t0 : sh_tg shC 0 = 0 := rfl
theorem shC_n0 : sh_ln shC 0 = 10 := rfl
theorem shC_1 : shC[1]? = some (0, 0, [none, some 2, some 3]) := rfl
theorem shC_t1 : sh_tg shC 1 = 0 := rfl
theorem shC_n1 : sh_ln shC 1 = 0 := rfl
theorem shC_2 : shC[2]? = some (1, 216, []) := rfl
theorem shC_t2 : sh_tg shC 2 = 1 := rfl
theorem shC_n2 : sh_ln shC 2 = 216 := rfl
theorem shC_3 : shC[3]? = some (1, 18, []) := rfl
theorem shC_t3 : sh_tg shC 3 = 1 := rfl
theorem shC_n3 : sh_ln shC 3 = 18 := rfl
theorem shC_4 : shC[4]? = some (0, 0, [none, some 5, some 6]) := rfl
theorem shC_t4 : sh_tg shC 4 = 0 := rfl
theorem shC_n4 : sh_ln shC 4 = 0 := rfl
theorem shC_5 : shC[5]? = some (1, 216, []) := rfl
theorem shC_t5 : sh_tg shC 5 = 1 := rfl
theorem shC_n5 : sh_ln shC 5 = 216 := rfl
theorem shC_6 : shC[6]? = some (1, 18, []) := rfl
theorem shC_t6 : sh_tg shC 6 = 1 := rfl
theorem shC_n6 : sh_ln shC 6 = 18 := rfl
theorem shC_7 : shC[7]? = some (0, 4, [some 8, none, none]) := rfl
theorem shC_t7 : sh_tg shC 7 = 0 := rfl
theorem shC_n7 : sh_ln shC 7 = 4 := rfl
theorem shC_8 : shC[8]? = some (4, 8, [some 9, some 12, some 15, some 18, some 21, some 24, some 27, some 30]) := rfl
theorem shC_t8 : sh_tg shC 8 = 4 := rfl
theorem shC_n8 : sh_ln shC 8 = 8 := rfl
theorem shC_9 : shC[9]? = some (0, 0, [none, some 10, some 11]) := rfl
theorem shC_t9 : sh_tg shC 9 = 0 := rfl
theorem shC_n9 : sh_ln shC 9 = 0 := rfl
theorem shC_10 : shC[10]? = some (1, 216, []) := rfl
theorem shC_t10 : sh_tg shC 10 = 1 := rfl
theorem shC_n10 : sh_ln shC 10 = 216 := rfl
theorem shC_11 : shC[11]? = some (1, 18, []) := rfl
theorem shC_t11 : sh_tg shC 11 = 1 := rfl
theorem shC_n11 : sh_ln shC 11 = 18 := rfl
theorem shC_12 : shC[12]? = some (0, 0, [none, some 13, some 14]) := rfl
theorem shC_t12 : sh_tg shC 12 = 0 := rfl
theorem shC_n12 : sh_ln shC 12 = 0 := rfl
theorem shC_13 : shC[13]? = some (1, 216, []) := rfl
theorem shC_t13 : sh_tg shC 13 = 1 := rfl
theorem shC_n13 : sh_ln shC 13 = 216 := rfl
theorem shC_14 : shC[14]? = some (1, 18, []) := rfl
theorem shC_t14 : sh_tg shC 14 = 1 := rfl
theorem shC_n14 : sh_ln shC 14 = 18 := rfl
theorem shC_15 : shC[15]? = some (0, 0, [none, some 16, some 17]) := rfl
theorem shC_t15 : sh_tg shC 15 = 0 := rfl
theorem shC_n15 : sh_ln shC 15 = 0 := rfl
theorem shC_16 : shC[16]? = some (1, 216, []) := rfl
theorem shC_t16 : sh_tg shC 16 = 1 := rfl
theorem shC_n16 : sh_ln shC 16 = 216 := rfl
theorem shC_17 : shC[17]? = some (1, 18, []) := rfl
theorem shC_t17 : sh_tg shC 17 = 1 := rfl
theorem shC_n17 : sh_ln shC 17 = 18 := rfl
theorem shC_18 : shC[18]? = some (0, 0, [none, some 19, some 20]) := rfl
theorem shC_t18 : sh_tg shC 18 = 0 := rfl
theorem shC_n18 : sh_ln shC 18 = 0 := rfl
theorem shC_19 : shC[19]? = some (1, 216, []) := rfl
theorem shC_t19 : sh_tg shC 19 = 1 := rfl
theorem shC_n19 : sh_ln shC 19 = 216 := rfl
theorem shC_20 : shC[20]? = some (1, 18, []) := rfl
theorem shC_t20 : sh_tg shC 20 = 1 := rfl
theorem shC_n20 : sh_ln shC 20 = 18 := rfl
theorem shC_21 : shC[21]? = some (0, 0, [none, some 22, some 23]) := rfl
theorem shC_t21 : sh_tg shC 21 = 0 := rfl
theorem shC_n21 : sh_ln shC 21 = 0 := rfl
theorem shC_22 : shC[22]? = some (1, 216, []) := rfl
theorem shC_t22 : sh_tg shC 22 = 1 := rfl
theorem shC_n22 : sh_ln shC 22 = 216 := rfl
theorem shC_23 : shC[23]? = some (1, 18, []) := rfl
theorem shC_t23 : sh_tg shC 23 = 1 := rfl
theorem shC_n23 : sh_ln shC 23 = 18 := rfl
theorem shC_24 : shC[24]? = some (0, 0, [none, some 25, some 26]) := rfl
theorem shC_t24 : sh_tg shC 24 = 0 := rfl
theorem shC_n24 : sh_ln shC 24 = 0 := rfl
theorem shC_25 : shC[25]? = some (1, 216, []) := rfl
theorem shC_t25 : sh_tg shC 25 = 1 := rfl
theorem shC_n25 : sh_ln shC 25 = 216 := rfl
theorem shC_26 : shC[26]? = some (1, 18, []) := rfl
theorem shC_t26 : sh_tg shC 26 = 1 := rfl
theorem shC_n26 : sh_ln shC 26 = 18 := rfl
theorem shC_27 : shC[27]? = some (0, 0, [none, some 28, some 29]) := rfl
theorem shC_t27 : sh_tg shC 27 = 0 := rfl
theorem shC_n27 : sh_ln shC 27 = 0 := rfl
theorem shC_28 : shC[28]? = some (1, 216, []) := rfl
theorem shC_t28 : sh_tg shC 28 = 1 := rfl
theorem shC_n28 : sh_ln shC 28 = 216 := rfl
theorem shC_29 : shC[29]? = some (1, 18, []) := rfl
theorem shC_t29 : sh_tg shC 29 = 1 := rfl
theorem shC_n29 : sh_ln shC 29 = 18 := rfl
theorem shC_30 : shC[30]? = some (0, 0, [none, some 31, some 32]) := rfl
theorem shC_t30 : sh_tg shC 30 = 0 := rfl
theorem shC_n30 : sh_ln shC 30 = 0 := rfl
theorem shC_31 : shC[31]? = some (1, 216, []) := rfl
theorem shC_t31 : sh_tg shC 31 = 1 := rfl
theorem shC_n31 : sh_ln shC 31 = 216 := rfl
theorem shC_32 : shC[32]? = some (1, 18, []) := rfl
theorem shC_t32 : sh_tg shC 32 = 1 := rfl
theorem shC_n32 : sh_ln shC 32 = 18 := rfl
theorem shC_33 : shC[33]? = some (4, 2, [some 35, some 38]) := rfl
theorem shC_t33 : sh_tg shC 33 = 4 := rfl
theorem shC_n33 : sh_ln shC 33 = 2 := rfl
theorem shC_34 : shC[34]? = some (2, 2, []) := rfl
theorem shC_t34 : sh_tg shC 34 = 2 := rfl
theorem shC_n34 : sh_ln shC 34 = 2 := rfl
theorem shC_35 : shC[35]? = some (0, 0, [none, some 36, some 37]) := rfl
theorem shC_t35 : sh_tg shC 35 = 0 := rfl
theorem shC_n35 : sh_ln shC 35 = 0 := rfl
theorem shC_36 : shC[36]? = some (1, 216, []) := rfl
theorem shC_t36 : sh_tg shC 36 = 1 := rfl
theorem shC_n36 : sh_ln shC 36 = 216 := rfl
theorem shC_37 : shC[37]? = some (1, 18, []) := rfl
theorem shC_t37 : sh_tg shC 37 = 1 := rfl
theorem shC_n37 : sh_ln shC 37 = 18 := rfl
theorem shC_38 : shC[38]? = some (0, 0, [none, some 39, some 40]) := rfl
theorem shC_t38 : sh_tg shC 38 = 0 := rfl
theorem shC_n38 : sh_ln shC 38 = 0 := rfl
theorem shC_39 : shC[39]? = some (1, 216, []) := rfl
theorem shC_t39 : sh_tg shC 39 = 1 := rfl
theorem shC_n39 : sh_ln shC 39 = 216 := rfl
theorem shC_40 : shC[40]? = some (1, 18, []) := rfl
theorem shC_t40 : sh_tg shC 40 = 1 := rfl
theorem shC_n40 : sh_ln shC 40 = 18 := rfl
theorem shC_41 : shC[41]? = some (0, 6, [some 42, none, none, none, none, none]) := rfl
theorem shC_t41 : sh_tg shC 41 = 0 := rfl
theorem shC_n41 : sh_ln shC 41 = 6 := rfl
theorem shC_42 : shC[42]? = some (1, 200, []) := rfl
theorem shC_t42 : sh_tg shC 42 = 1 := rfl
theorem shC_n42 : sh_ln shC 42 = 200 := rfl
theorem shC_43 : shC[43]? = some (0, 2, [some 1, some 44, some 47, some 62, some 64, none, none, none, none, none]) := rfl
theorem shC_t43 : sh_tg shC 43 = 0 := rfl
theorem shC_n43 : sh_ln shC 43 = 2 := rfl
theorem shC_44 : shC[44]? = some (0, 5, [some 45, some 46, none]) := rfl
theorem shC_t44 : sh_tg shC 44 = 0 := rfl
theorem shC_n44 : sh_ln shC 44 = 5 := rfl
theorem shC_45 : shC[45]? = some (2, 64, []) := rfl
theorem shC_t45 : sh_tg shC 45 = 2 := rfl
theorem shC_n45 : sh_ln shC 45 = 64 := rfl
theorem shC_46 : shC[46]? = some (1, 20, []) := rfl
theorem shC_t46 : sh_tg shC 46 = 1 := rfl
theorem shC_n46 : sh_ln shC 46 = 20 := rfl
theorem shC_47 : shC[47]? = some (0, 9, [some 48, some 49]) := rfl
theorem shC_t47 : sh_tg shC 47 = 0 := rfl
theorem shC_n47 : sh_ln shC 47 = 9 := rfl
theorem shC_48 : shC[48]? = some (6, 4, [some 50, some 53, some 56, some 59]) := rfl
theorem shC_t48 : sh_tg shC 48 = 6 := rfl
theorem shC_n48 : sh_ln shC 48 = 4 := rfl
theorem shC_49 : shC[49]? = some (2, 4, []) := rfl
theorem shC_t49 : sh_tg shC 49 = 2 := rfl
theorem shC_n49 : sh_ln shC 49 = 4 := rfl
theorem shC_50 : shC[50]? = some (0, 8, [some 51, some 52, none]) := rfl
theorem shC_t50 : sh_tg shC 50 = 0 := rfl
theorem shC_n50 : sh_ln shC 50 = 8 := rfl
theorem shC_51 : shC[51]? = some (1, 729, []) := rfl
theorem shC_t51 : sh_tg shC 51 = 1 := rfl
theorem shC_n51 : sh_ln shC 51 = 729 := rfl
theorem shC_52 : shC[52]? = some (1, 128, []) := rfl
theorem shC_t52 : sh_tg shC 52 = 1 := rfl
theorem shC_n52 : sh_ln shC 52 = 128 := rfl
theorem shC_53 : shC[53]? = some (0, 8, [some 54, some 55, none]) := rfl
theorem shC_t53 : sh_tg shC 53 = 0 := rfl
theorem shC_n53 : sh_ln shC 53 = 8 := rfl
theorem shC_54 : shC[54]? = some (1, 729, []) := rfl
theorem shC_t54 : sh_tg shC 54 = 1 := rfl
theorem shC_n54 : sh_ln shC 54 = 729 := rfl
theorem shC_55 : shC[55]? = some (1, 128, []) := rfl
theorem shC_t55 : sh_tg shC 55 = 1 := rfl
theorem shC_n55 : sh_ln shC 55 = 128 := rfl
theorem shC_56 : shC[56]? = some (0, 8, [some 57, some 58, none]) := rfl
theorem shC_t56 : sh_tg shC 56 = 0 := rfl
theorem shC_n56 : sh_ln shC 56 = 8 := rfl
theorem shC_57 : shC[57]? = some (1, 729, []) := rfl
theorem shC_t57 : sh_tg shC 57 = 1 := rfl
theorem shC_n57 : sh_ln shC 57 = 729 := rfl
theorem shC_58 : shC[58]? = some (1, 128, []) := rfl
theorem shC_t58 : sh_tg shC 58 = 1 := rfl
theorem shC_n58 : sh_ln shC 58 = 128 := rfl
theorem shC_59 : shC[59]? = some (0, 8, [some 60, some 61, none]) := rfl
theorem shC_t59 : sh_tg shC 59 = 0 := rfl
theorem shC_n59 : sh_ln shC 59 = 8 := rfl
theorem shC_60 : shC[60]? = some (1, 729, []) := rfl
theorem shC_t60 : sh_tg shC 60 = 1 := rfl
theorem shC_n60 : sh_ln shC 60 = 729 := rfl
theorem shC_61 : shC[61]? = some (1, 128, []) := rfl
theorem shC_t61 : sh_tg shC 61 = 1 := rfl
theorem shC_n61 : sh_ln shC 61 = 128 := rfl
theorem shC_62 : shC[62]? = some (0, 7, [some 63, none]) := rfl
theorem shC_t62 : sh_tg shC 62 = 0 := rfl
theorem shC_n62 : sh_ln shC 62 = 7 := rfl
theorem shC_63 : shC[63]? = some (3, 64, []) := rfl
theorem shC_t63 : sh_tg shC 63 = 3 := rfl
theorem shC_n63 : sh_ln shC 63 = 64 := rfl
theorem shC_64 : shC[64]? = some (0, 3, [some 65]) := rfl
theorem shC_t64 : sh_tg shC 64 = 0 := rfl
theorem shC_n64 : sh_ln shC 64 = 3 := rfl
theorem shC_65 : shC[65]? = some (0, 0, [none, some 66, some 67]) := rfl
theorem shC_t65 : sh_tg shC 65 = 0 := rfl
theorem shC_n65 : sh_ln shC 65 = 0 := rfl
theorem shC_66 : shC[66]? = some (1, 216, []) := rfl
theorem shC_t66 : sh_tg shC 66 = 1 := rfl
theorem shC_n66 : sh_ln shC 66 = 216 := rfl
theorem shC_67 : shC[67]? = some (1, 18, []) := rfl
theorem shC_t67 : sh_tg shC 67 = 1 := rfl
theorem shC_n67 : sh_ln shC 67 = 18 := rfl
theorem shC_68 : shC[68]? = some (5, 3, [some 69, some 72, some 75]) := rfl
theorem shC_t68 : sh_tg shC 68 = 5 := rfl
theorem shC_n68 : sh_ln shC 68 = 3 := rfl
theorem shC_69 : shC[69]? = some (0, 1, [none, none, none, some 70, some 71]) := rfl
theorem shC_t69 : sh_tg shC 69 = 0 := rfl
theorem shC_n69 : sh_ln shC 69 = 1 := rfl
theorem shC_70 : shC[70]? = some (1, 6, []) := rfl
theorem shC_t70 : sh_tg shC 70 = 1 := rfl
theorem shC_n70 : sh_ln shC 70 = 6 := rfl
theorem shC_71 : shC[71]? = some (1, 6, []) := rfl
theorem shC_t71 : sh_tg shC 71 = 1 := rfl
theorem shC_n71 : sh_ln shC 71 = 6 := rfl
theorem shC_72 : shC[72]? = some (0, 1, [none, none, none, some 73, some 74]) := rfl
theorem shC_t72 : sh_tg shC 72 = 0 := rfl
theorem shC_n72 : sh_ln shC 72 = 1 := rfl
theorem shC_73 : shC[73]? = some (1, 6, []) := rfl
theorem shC_t73 : sh_tg shC 73 = 1 := rfl
theorem shC_n73 : sh_ln shC 73 = 6 := rfl
theorem shC_74 : shC[74]? = some (1, 6, []) := rfl
theorem shC_t74 : sh_tg shC 74 = 1 := rfl
theorem shC_n74 : sh_ln shC 74 = 6 := rfl
theorem shC_75 : shC[75]? = some (0, 1, [none, none, none, some 76, some 77]) := rfl
theorem shC_t75 : sh_tg shC 75 = 0 := rfl
theorem shC_n75 : sh_ln shC 75 = 1 := rfl
theorem shC_76 : shC[76]? = some (1, 6, []) := rfl
theorem shC_t76 : sh_tg shC 76 = 1 := rfl
theorem shC_n76 : sh_ln shC 76 = 6 := rfl
theorem shC_77 : shC[77]? = some (1, 6, []) := rfl
theorem shC_t77 : sh_tg shC 77 = 1 := rfl
theorem shC_n77 : sh_ln shC 77 = 6 := rfl
theorem shC_one : sh_one shC := by
  have h : ∀ k : Nat, ∀ n t, shC[k]? = some (3, n, t) → k = 63 := by
    intro k n t hk
    have hl : k < shC.length := (List.getElem?_eq_some_iff.mp hk).1
    have h2 : sh_tg shC k = 3 := by unfold sh_tg; rw [hk]
    have h3 : ∀ k, k < shC.length → sh_tg shC k = 3 → k = 63 := by decide +kernel
    exact h3 k hl h2
  intro k k' n n' t t' h1 h2
  rw [h _ _ _ h1, h _ _ _ h2]
def shM : List Sh := [(0, 11, [some 1, none, some 2, some 3, none, some 4, some 5, some 6, some 7, none, none, none, none, none, some 8, some 9, some 10, some 11, none, some 12, some 13, none, some 14]), (1, 429, []), (2, 2, []), (1, 200, []), (1, 3, []), (1, 3, []), (1, 18, []), (1, 18, []), (1, 4, []), (1, 39, []), (2, 729, []), (1, 6, []), (1, 30, []), (1, 64, []), (1, 64, [])]
theorem shM_0 : shM[0]? = some (0, 11, [some 1, none, some 2, some 3, none, some 4, some 5, some 6, some 7, none, none, none, none, none, some 8, some 9, some 10, some 11, none, some 12, some 13, none, some 14]) := rfl
theorem shM_t0 : sh_tg shM 0 = 0 := rfl
theorem shM_n0 : sh_ln shM 0 = 11 := rfl
theorem shM_1 : shM[1]? = some (1, 429, []) := rfl
theorem shM_t1 : sh_tg shM 1 = 1 := rfl
theorem shM_n1 : sh_ln shM 1 = 429 := rfl
theorem shM_2 : shM[2]? = some (2, 2, []) := rfl
theorem shM_t2 : sh_tg shM 2 = 2 := rfl
theorem shM_n2 : sh_ln shM 2 = 2 := rfl
theorem shM_3 : shM[3]? = some (1, 200, []) := rfl
theorem shM_t3 : sh_tg shM 3 = 1 := rfl
theorem shM_n3 : sh_ln shM 3 = 200 := rfl
theorem shM_4 : shM[4]? = some (1, 3, []) := rfl
theorem shM_t4 : sh_tg shM 4 = 1 := rfl
theorem shM_n4 : sh_ln shM 4 = 3 := rfl
theorem shM_5 : shM[5]? = some (1, 3, []) := rfl
theorem shM_t5 : sh_tg shM 5 = 1 := rfl
theorem shM_n5 : sh_ln shM 5 = 3 := rfl
theorem shM_6 : shM[6]? = some (1, 18, []) := rfl
theorem shM_t6 : sh_tg shM 6 = 1 := rfl
theorem shM_n6 : sh_ln shM 6 = 18 := rfl
theorem shM_7 : shM[7]? = some (1, 18, []) := rfl
theorem shM_t7 : sh_tg shM 7 = 1 := rfl
theorem shM_n7 : sh_ln shM 7 = 18 := rfl
theorem shM_8 : shM[8]? = some (1, 4, []) := rfl
theorem shM_t8 : sh_tg shM 8 = 1 := rfl
theorem shM_n8 : sh_ln shM 8 = 4 := rfl
theorem shM_9 : shM[9]? = some (1, 39, []) := rfl
theorem shM_t9 : sh_tg shM 9 = 1 := rfl
theorem shM_n9 : sh_ln shM 9 = 39 := rfl
theorem shM_10 : shM[10]? = some (2, 729, []) := rfl
theorem shM_t10 : sh_tg shM 10 = 2 := rfl
theorem shM_n10 : sh_ln shM 10 = 729 := rfl
theorem shM_11 : shM[11]? = some (1, 6, []) := rfl
theorem shM_t11 : sh_tg shM 11 = 1 := rfl
theorem shM_n11 : sh_ln shM 11 = 6 := rfl
theorem shM_12 : shM[12]? = some (1, 30, []) := rfl
theorem shM_t12 : sh_tg shM 12 = 1 := rfl
theorem shM_n12 : sh_ln shM 12 = 30 := rfl
theorem shM_13 : shM[13]? = some (1, 64, []) := rfl
theorem shM_t13 : sh_tg shM 13 = 1 := rfl
theorem shM_n13 : sh_ln shM 13 = 64 := rfl
theorem shM_14 : shM[14]? = some (1, 64, []) := rfl
theorem shM_t14 : sh_tg shM 14 = 1 := rfl
theorem shM_n14 : sh_ln shM 14 = 64 := rfl
theorem shM_one : sh_one shM := by
  have h : ∀ k : Nat, ∀ n t, shM[k]? = some (3, n, t) → k = 0 := by
    intro k n t hk
    have hl : k < shM.length := (List.getElem?_eq_some_iff.mp hk).1
    have h2 : sh_tg shM k = 3 := by unfold sh_tg; rw [hk]
    have h3 : ∀ k, k < shM.length → sh_tg shM k = 3 → k = 0 := by decide +kernel
    exact h3 k hl h2
  intro k k' n n' t t' h1 h2
  rw [h _ _ _ h1, h _ _ _ h2]
/-- an object of class 0 of vwCl -/
def oC0 (a : Nat) : Prop := shC[a]? = some (0, 0, [none, some (a + 1), some (a + 2)])
theorem oC0_1 : oC0 1 := rfl
theorem oC0_4 : oC0 4 := rfl
theorem oC0_9 : oC0 9 := rfl
theorem oC0_12 : oC0 12 := rfl
theorem oC0_15 : oC0 15 := rfl
theorem oC0_18 : oC0 18 := rfl
theorem oC0_21 : oC0 21 := rfl
theorem oC0_24 : oC0 24 := rfl
theorem oC0_27 : oC0 27 := rfl
theorem oC0_30 : oC0 30 := rfl
theorem oC0_35 : oC0 35 := rfl
theorem oC0_38 : oC0 38 := rfl
theorem oC0_65 : oC0 65 := rfl
theorem oC0_t1 {a : Nat} (h : oC0 a) : sh_tg shC (a + 1) = 1 := by
  have hl : a < shC.length := (List.getElem?_eq_some_iff.mp h).1
  have h3 : ∀ a, a < shC.length → shC[a]? = some (0, 0, [none, some (a + 1), some (a + 2)]) → sh_tg shC (a + 1) = 1 := by decide +kernel
  exact h3 a hl h
theorem oC0_n1 {a : Nat} (h : oC0 a) : sh_ln shC (a + 1) = 216 := by
  have hl : a < shC.length := (List.getElem?_eq_some_iff.mp h).1
  have h3 : ∀ a, a < shC.length → shC[a]? = some (0, 0, [none, some (a + 1), some (a + 2)]) → sh_ln shC (a + 1) = 216 := by decide +kernel
  exact h3 a hl h
theorem oC0_t2 {a : Nat} (h : oC0 a) : sh_tg shC (a + 2) = 1 := by
  have hl : a < shC.length := (List.getElem?_eq_some_iff.mp h).1
  have h3 : ∀ a, a < shC.length → shC[a]? = some (0, 0, [none, some (a + 1), some (a + 2)]) → sh_tg shC (a + 2) = 1 := by decide +kernel
  exact h3 a hl h
theorem oC0_n2 {a : Nat} (h : oC0 a) : sh_ln shC (a + 2) = 18 := by
  have hl : a < shC.length := (List.getElem?_eq_some_iff.mp h).1
  have h3 : ∀ a, a < shC.length → shC[a]? = some (0, 0, [none, some (a + 1), some (a + 2)]) → sh_ln shC (a + 2) = 18 := by decide +kernel
  exact h3 a hl h
/-- an object of class 1 of vwCl -/
def oC1 (a : Nat) : Prop := shC[a]? = some (0, 1, [none, none, none, some (a + 1), some (a + 2)])
theorem oC1_69 : oC1 69 := rfl
theorem oC1_72 : oC1 72 := rfl
theorem oC1_75 : oC1 75 := rfl
theorem oC1_t1 {a : Nat} (h : oC1 a) : sh_tg shC (a + 1) = 1 := by
  have hl : a < shC.length := (List.getElem?_eq_some_iff.mp h).1
  have h3 : ∀ a, a < shC.length → shC[a]? = some (0, 1, [none, none, none, some (a + 1), some (a + 2)]) → sh_tg shC (a + 1) = 1 := by decide +kernel
  exact h3 a hl h
theorem oC1_n1 {a : Nat} (h : oC1 a) : sh_ln shC (a + 1) = 6 := by
  have hl : a < shC.length := (List.getElem?_eq_some_iff.mp h).1
  have h3 : ∀ a, a < shC.length → shC[a]? = some (0, 1, [none, none, none, some (a + 1), some (a + 2)]) → sh_ln shC (a + 1) = 6 := by decide +kernel
  exact h3 a hl h
theorem oC1_t2 {a : Nat} (h : oC1 a) : sh_tg shC (a + 2) = 1 := by
  have hl : a < shC.length := (List.getElem?_eq_some_iff.mp h).1
  have h3 : ∀ a, a < shC.length → shC[a]? = some (0, 1, [none, none, none, some (a + 1), some (a + 2)]) → sh_tg shC (a + 2) = 1 := by decide +kernel
  exact h3 a hl h
theorem oC1_n2 {a : Nat} (h : oC1 a) : sh_ln shC (a + 2) = 6 := by
  have hl : a < shC.length := (List.getElem?_eq_some_iff.mp h).1
  have h3 : ∀ a, a < shC.length → shC[a]? = some (0, 1, [none, none, none, some (a + 1), some (a + 2)]) → sh_ln shC (a + 2) = 6 := by decide +kernel
  exact h3 a hl h
/-- an object of class 8 of vwCl -/
def oC8 (a : Nat) : Prop := shC[a]? = some (0, 8, [some (a + 1), some (a + 2), none])
theorem oC8_50 : oC8 50 := rfl
theorem oC8_53 : oC8 53 := rfl
theorem oC8_56 : oC8 56 := rfl
theorem oC8_59 : oC8 59 := rfl
theorem oC8_t1 {a : Nat} (h : oC8 a) : sh_tg shC (a + 1) = 1 := by
  have hl : a < shC.length := (List.getElem?_eq_some_iff.mp h).1
  have h3 : ∀ a, a < shC.length → shC[a]? = some (0, 8, [some (a + 1), some (a + 2), none]) → sh_tg shC (a + 1) = 1 := by decide +kernel
  exact h3 a hl h
theorem oC8_n1 {a : Nat} (h : oC8 a) : sh_ln shC (a + 1) = 729 := by
  have hl : a < shC.length := (List.getElem?_eq_some_iff.mp h).1
  have h3 : ∀ a, a < shC.length → shC[a]? = some (0, 8, [some (a + 1), some (a + 2), none]) → sh_ln shC (a + 1) = 729 := by decide +kernel
  exact h3 a hl h
theorem oC8_t2 {a : Nat} (h : oC8 a) : sh_tg shC (a + 2) = 1 := by
  have hl : a < shC.length := (List.getElem?_eq_some_iff.mp h).1
  have h3 : ∀ a, a < shC.length → shC[a]? = some (0, 8, [some (a + 1), some (a + 2), none]) → sh_tg shC (a + 2) = 1 := by decide +kernel
  exact h3 a hl h
theorem oC8_n2 {a : Nat} (h : oC8 a) : sh_ln shC (a + 2) = 128 := by
  have hl : a < shC.length := (List.getElem?_eq_some_iff.mp h).1
  have h3 : ∀ a, a < shC.length → shC[a]? = some (0, 8, [some (a + 1), some (a + 2), none]) → sh_ln shC (a + 2) = 128 := by decide +kernel
  exact h3 a hl h
theorem sh_small : ∀ a, sh_ln shC a < 1000 := by
  intro a
  have h3 : ∀ a, a < shC.length → sh_ln shC a < 1000 := by decide +kernel
  by_cases h : a < shC.length
  · exact h3 a h
  · unfold sh_ln
    rw [List.getElem?_eq_none (by omega)]
    decide
theorem sh_smallM : ∀ a, sh_ln shM a < 1000 := by
  intro a
  have h3 : ∀ a, a < shM.length → sh_ln shM a < 1000 := by decide +kernel
  by_cases h : a < shM.length
  · exact h3 a h
  · unfold sh_ln
    rw [List.getElem?_eq_none (by omega)]
    decide
theorem am_in_nI {k n : Nat} (h : k < n) (hn : n < 1000) : am_in (nI k) n = true := by
  have h1 := nI_in h (show n < 2 ^ 31 by omega)
  simpa [am_in] using h1
theorem nI_c {k : Nat} (h : k < 1000) : (nI k).toNatClampNeg = k := nI_clamp (by omega)
