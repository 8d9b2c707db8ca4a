theorem dX9_indexOf_1 : decode cX9_indexOf 1 = .ok (.istore_n 2, 1) := by decide +kernel
theorem dX9_indexOf_2 : decode cX9_indexOf 2 = .ok (.iload_n 2, 1) := by decide +kernel
theorem dX9_indexOf_3 : decode cX9_indexOf 3 = .ok (.aload_n 0, 1) := by decide +kernel
theorem dX9_indexOf_4 : decode cX9_indexOf 4 = .ok (.getfield 18, 3) := by decide +kernel
theorem dX9_indexOf_7 : decode cX9_indexOf 7 = .ok (.if_icmp .ge 21, 3) := by decide +kernel
theorem dX9_indexOf_10 : decode cX9_indexOf 10 = .ok (.aload_n 0, 1) := by decide +kernel
theorem dX9_indexOf_11 : decode cX9_indexOf 11 = .ok (.getfield 11, 3) := by decide +kernel
theorem dX9_indexOf_14 : decode cX9_indexOf 14 = .ok (.iload_n 2, 1) := by decide +kernel
theorem dX9_indexOf_15 : decode cX9_indexOf 15 = .ok (.iaload, 1) := by decide +kernel
theorem dX9_indexOf_16 : decode cX9_indexOf 16 = .ok (.iload_n 1, 1) := by decide +kernel
theorem dX9_indexOf_17 : decode cX9_indexOf 17 = .ok (.if_icmp .ne 5, 3) := by decide +kernel
theorem dX9_indexOf_20 : decode cX9_indexOf 20 = .ok (.iload_n 2, 1) := by decide +kernel
theorem dX9_indexOf_21 : decode cX9_indexOf 21 = .ok (.ireturn, 1) := by decide +kernel
theorem dX9_indexOf_22 : decode cX9_indexOf 22 = .ok (.iinc 2 1, 3) := by decide +kernel
theorem dX9_indexOf_25 : decode cX9_indexOf 25 = .ok (.goto (-23), 3) := by decide +kernel
theorem dX9_indexOf_28 : decode cX9_indexOf 28 = .ok (.iconst (-1), 1) := by decide +kernel
theorem dX9_indexOf_29 : decode cX9_indexOf 29 = .ok (.ireturn, 1) := by decide +kernel
theorem dX10_init_0 : decode cX10_init 0 = .ok (.aload_n 0, 1) := by decide +kernel
theorem dX10_init_1 : decode cX10_init 1 = .ok (.invokespecial 3, 3) := by decide +kernel
theorem dX10_init_4 : decode cX10_init 4 = .ok (.aload_n 0, 1) := by decide +kernel
theorem dX10_init_5 : decode cX10_init 5 = .ok (.iconst 4, 1) := by decide +kernel
theorem dX10_init_6 : decode cX10_init 6 = .ok (.anewarray 9, 3) := by decide +kernel
theorem dX10_init_9 : decode cX10_init 9 = .ok (.putfield 11, 3) := by decide +kernel
theorem dX10_init_12 : decode cX10_init 12 = .ok (.aload_n 0, 1) := by decide +kernel
theorem dX10_init_13 : decode cX10_init 13 = .ok (.iconst 4, 1) := by decide +kernel
theorem dX10_init_14 : decode cX10_init 14 = .ok (.newarray .boolean, 2) := by decide +kernel
theorem dX10_init_16 : decode cX10_init 16 = .ok (.putfield 17, 3) := by decide +kernel
theorem dX10_init_19 : decode cX10_init 19 = .ok (.iconst 0, 1) := by decide +kernel
theorem dX10_init_20 : decode cX10_init 20 = .ok (.istore_n 1, 1) := by decide +kernel
theorem dX10_init_21 : decode cX10_init 21 = .ok (.iload_n 1, 1) := by decide +kernel
theorem dX10_init_22 : decode cX10_init 22 = .ok (.iconst 4, 1) := by decide +kernel
theorem dX10_init_23 : decode cX10_init 23 = .ok (.if_icmp .ge 22, 3) := by decide +kernel
theorem dX10_init_26 : decode cX10_init 26 = .ok (.aload_n 0, 1) := by decide +kernel
theorem dX10_init_27 : decode cX10_init 27 = .ok (.getfield 11, 3) := by decide +kernel
theorem dX10_init_30 : decode cX10_init 30 = .ok (.iload_n 1, 1) := by decide +kernel
theorem dX10_init_31 : decode cX10_init 31 = .ok (.new 9, 3) := by decide +kernel
theorem dX10_init_34 : decode cX10_init 34 = .ok (.dup, 1) := by decide +kernel
theorem dX10_init_35 : decode cX10_init 35 = .ok (.invokespecial 21, 3) := by decide +kernel
theorem dX10_init_38 : decode cX10_init 38 = .ok (.aastore, 1) := by decide +kernel
theorem dX10_init_39 : decode cX10_init 39 = .ok (.iinc 1 1, 3) := by decide +kernel
theorem dX10_init_42 : decode cX10_init 42 = .ok (.goto (-21), 3) := by decide +kernel
theorem dX10_init_45 : decode cX10_init 45 = .ok (.return_, 1) := by decide +kernel
theorem dX10_forget_0 : decode cX10_forget 0 = .ok (.iconst 0, 1) := by decide +kernel
theorem dX10_forget_1 : decode cX10_forget 1 = .ok (.istore_n 1, 1) := by decide +kernel
theorem dX10_forget_2 : decode cX10_forget 2 = .ok (.iload_n 1, 1) := by decide +kernel
theorem dX10_forget_3 : decode cX10_forget 3 = .ok (.iconst 4, 1) := by decide +kernel
theorem dX10_forget_4 : decode cX10_forget 4 = .ok (.if_icmp .ge 16, 3) := by decide +kernel
theorem dX10_forget_7 : decode cX10_forget 7 = .ok (.aload_n 0, 1) := by decide +kernel
theorem dX10_forget_8 : decode cX10_forget 8 = .ok (.getfield 17, 3) := by decide +kernel
theorem dX10_forget_11 : decode cX10_forget 11 = .ok (.iload_n 1, 1) := by decide +kernel
theorem dX10_forget_12 : decode cX10_forget 12 = .ok (.iconst 0, 1) := by decide +kernel
theorem dX10_forget_13 : decode cX10_forget 13 = .ok (.bastore, 1) := by decide +kernel
theorem dX10_forget_14 : decode cX10_forget 14 = .ok (.iinc 1 1, 3) := by decide +kernel
theorem dX10_forget_17 : decode cX10_forget 17 = .ok (.goto (-15), 3) := by decide +kernel
theorem dX10_forget_20 : decode cX10_forget 20 = .ok (.return_, 1) := by decide +kernel
theorem dX10_cocircuits_0 : decode cX10_cocircuits 0 = .ok (.aload_n 0, 1) := by decide +kernel
theorem dX10_cocircuits_1 : decode cX10_cocircuits 1 = .ok (.getfield 11, 3) := by decide +kernel
theorem dX10_cocircuits_4 : decode cX10_cocircuits 4 = .ok (.iconst 0, 1) := by decide +kernel
theorem dX10_cocircuits_5 : decode cX10_cocircuits 5 = .ok (.aaload, 1) := by decide +kernel
theorem dX10_cocircuits_6 : decode cX10_cocircuits 6 = .ok (.astore_n 2, 1) := by decide +kernel
theorem dX10_cocircuits_7 : decode cX10_cocircuits 7 = .ok (.aload_n 0, 1) := by decide +kernel
theorem dX10_cocircuits_8 : decode cX10_cocircuits 8 = .ok (.getfield 17, 3) := by decide +kernel
theorem dX10_cocircuits_11 : decode cX10_cocircuits 11 = .ok (.iconst 0, 1) := by decide +kernel
theorem dX10_cocircuits_12 : decode cX10_cocircuits 12 = .ok (.baload, 1) := by decide +kernel
theorem dX10_cocircuits_13 : decode cX10_cocircuits 13 = .ok (.ifCond .eq 5, 3) := by decide +kernel
theorem dX10_cocircuits_16 : decode cX10_cocircuits 16 = .ok (.aload_n 2, 1) := by decide +kernel
theorem dX10_cocircuits_17 : decode cX10_cocircuits 17 = .ok (.areturn, 1) := by decide +kernel
theorem dX10_cocircuits_18 : decode cX10_cocircuits 18 = .ok (.aload_n 2, 1) := by decide +kernel
theorem dX10_cocircuits_19 : decode cX10_cocircuits 19 = .ok (.invokevirtual 22, 3) := by decide +kernel
theorem dX10_cocircuits_22 : decode cX10_cocircuits 22 = .ok (.aload_n 1, 1) := by decide +kernel
theorem dX10_cocircuits_23 : decode cX10_cocircuits 23 = .ok (.invokevirtual 25, 3) := by decide +kernel
theorem dX10_cocircuits_26 : decode cX10_cocircuits 26 = .ok (.invokestatic 31, 3) := by decide +kernel
theorem dX10_cocircuits_29 : decode cX10_cocircuits 29 = .ok (.istore_n 3, 1) := by decide +kernel
theorem dX10_cocircuits_30 : decode cX10_cocircuits 30 = .ok (.iconst 0, 1) := by decide +kernel
theorem dX10_cocircuits_31 : decode cX10_cocircuits 31 = .ok (.istore 4, 2) := by decide +kernel
theorem dX10_cocircuits_33 : decode cX10_cocircuits 33 = .ok (.iload 4, 2) := by decide +kernel
theorem dX10_cocircuits_35 : decode cX10_cocircuits 35 = .ok (.aload_n 1, 1) := by decide +kernel
theorem dX10_cocircuits_36 : decode cX10_cocircuits 36 = .ok (.invokevirtual 25, 3) := by decide +kernel
theorem dX10_cocircuits_39 : decode cX10_cocircuits 39 = .ok (.if_icmp .ge 43, 3) := by decide +kernel
theorem dX10_cocircuits_42 : decode cX10_cocircuits 42 = .ok (.iload 4, 2) := by decide +kernel
theorem dX10_cocircuits_44 : decode cX10_cocircuits 44 = .ok (.iconst 1, 1) := by decide +kernel
theorem dX10_cocircuits_45 : decode cX10_cocircuits 45 = .ok (.iadd, 1) := by decide +kernel
theorem dX10_cocircuits_46 : decode cX10_cocircuits 46 = .ok (.istore 5, 2) := by decide +kernel
theorem dX10_cocircuits_48 : decode cX10_cocircuits 48 = .ok (.iload 5, 2) := by decide +kernel
theorem dX10_cocircuits_50 : decode cX10_cocircuits 50 = .ok (.aload_n 1, 1) := by decide +kernel
theorem dX10_cocircuits_51 : decode cX10_cocircuits 51 = .ok (.invokevirtual 25, 3) := by decide +kernel
theorem dX10_cocircuits_54 : decode cX10_cocircuits 54 = .ok (.if_icmp .ge 22, 3) := by decide +kernel
theorem dX10_cocircuits_57 : decode cX10_cocircuits 57 = .ok (.aload_n 2, 1) := by decide +kernel
theorem dX10_cocircuits_58 : decode cX10_cocircuits 58 = .ok (.aload_n 1, 1) := by decide +kernel
theorem dX10_cocircuits_59 : decode cX10_cocircuits 59 = .ok (.iload 4, 2) := by decide +kernel
theorem dX10_cocircuits_61 : decode cX10_cocircuits 61 = .ok (.iload 5, 2) := by decide +kernel
theorem dX10_cocircuits_63 : decode cX10_cocircuits 63 = .ok (.invokestatic 37, 3) := by decide +kernel
theorem dX10_cocircuits_66 : decode cX10_cocircuits 66 = .ok (.iload_n 3, 1) := by decide +kernel
theorem dX10_cocircuits_67 : decode cX10_cocircuits 67 = .ok (.invokestatic 41, 3) := by decide +kernel
theorem dX10_cocircuits_70 : decode cX10_cocircuits 70 = .ok (.iinc 5 1, 3) := by decide +kernel
theorem dX10_cocircuits_73 : decode cX10_cocircuits 73 = .ok (.goto (-25), 3) := by decide +kernel
theorem dX10_cocircuits_76 : decode cX10_cocircuits 76 = .ok (.iinc 4 1, 3) := by decide +kernel
theorem dX10_cocircuits_79 : decode cX10_cocircuits 79 = .ok (.goto (-46), 3) := by decide +kernel
theorem dX10_cocircuits_82 : decode cX10_cocircuits 82 = .ok (.aload_n 2, 1) := by decide +kernel
theorem dX10_cocircuits_83 : decode cX10_cocircuits 83 = .ok (.invokevirtual 45, 3) := by decide +kernel
theorem dX10_cocircuits_86 : decode cX10_cocircuits 86 = .ok (.aload_n 0, 1) := by decide +kernel
theorem dX10_cocircuits_87 : decode cX10_cocircuits 87 = .ok (.getfield 17, 3) := by decide +kernel
theorem dX10_cocircuits_90 : decode cX10_cocircuits 90 = .ok (.iconst 0, 1) := by decide +kernel
theorem dX10_cocircuits_91 : decode cX10_cocircuits 91 = .ok (.iconst 1, 1) := by decide +kernel
theorem dX10_cocircuits_92 : decode cX10_cocircuits 92 = .ok (.bastore, 1) := by decide +kernel
theorem dX10_cocircuits_93 : decode cX10_cocircuits 93 = .ok (.aload_n 2, 1) := by decide +kernel
theorem dX10_cocircuits_94 : decode cX10_cocircuits 94 = .ok (.areturn, 1) := by decide +kernel
theorem dX10_cocircuit_0 : decode cX10_cocircuit 0 = .ok (.iconst 0, 1) := by decide +kernel
theorem dX10_cocircuit_1 : decode cX10_cocircuit 1 = .ok (.istore_n 3, 1) := by decide +kernel
theorem dX10_cocircuit_2 : decode cX10_cocircuit 2 = .ok (.iconst 0, 1) := by decide +kernel
theorem dX10_cocircuit_3 : decode cX10_cocircuit 3 = .ok (.istore 4, 2) := by decide +kernel
theorem dX10_cocircuit_5 : decode cX10_cocircuit 5 = .ok (.iload 4, 2) := by decide +kernel
theorem dX10_cocircuit_7 : decode cX10_cocircuit 7 = .ok (.aload_n 0, 1) := by decide +kernel
theorem dX10_cocircuit_8 : decode cX10_cocircuit 8 = .ok (.invokevirtual 25, 3) := by decide +kernel
theorem dX10_cocircuit_11 : decode cX10_cocircuit 11 = .ok (.if_icmp .ge 22, 3) := by decide +kernel
theorem dX10_cocircuit_14 : decode cX10_cocircuit 14 = .ok (.iload_n 3, 1) := by decide +kernel
theorem dX10_cocircuit_15 : decode cX10_cocircuit 15 = .ok (.aload_n 0, 1) := by decide +kernel
theorem dX10_cocircuit_16 : decode cX10_cocircuit 16 = .ok (.iload_n 1, 1) := by decide +kernel
theorem dX10_cocircuit_17 : decode cX10_cocircuit 17 = .ok (.iload_n 2, 1) := by decide +kernel
theorem dX10_cocircuit_18 : decode cX10_cocircuit 18 = .ok (.iload 4, 2) := by decide +kernel
theorem dX10_cocircuit_20 : decode cX10_cocircuit 20 = .ok (.invokevirtual 48, 3) := by decide +kernel
theorem dX10_cocircuit_23 : decode cX10_cocircuit 23 = .ok (.invokestatic 52, 3) := by decide +kernel
theorem dX10_cocircuit_26 : decode cX10_cocircuit 26 = .ok (.istore_n 3, 1) := by decide +kernel
theorem dX10_cocircuit_27 : decode cX10_cocircuit 27 = .ok (.iinc 4 1, 3) := by decide +kernel
theorem dX10_cocircuit_30 : decode cX10_cocircuit 30 = .ok (.goto (-25), 3) := by decide +kernel
theorem dX10_cocircuit_33 : decode cX10_cocircuit 33 = .ok (.iload_n 3, 1) := by decide +kernel
theorem dX10_cocircuit_34 : decode cX10_cocircuit 34 = .ok (.ireturn, 1) := by decide +kernel
theorem dX10_circuits_0 : decode cX10_circuits 0 = .ok (.aload_n 0, 1) := by decide +kernel
theorem dX10_circuits_1 : decode cX10_circuits 1 = .ok (.getfield 11, 3) := by decide +kernel
theorem dX10_circuits_4 : decode cX10_circuits 4 = .ok (.iconst 1, 1) := by decide +kernel
theorem dX10_circuits_5 : decode cX10_circuits 5 = .ok (.aaload, 1) := by decide +kernel
theorem dX10_circuits_6 : decode cX10_circuits 6 = .ok (.astore_n 2, 1) := by decide +kernel
theorem dX10_circuits_7 : decode cX10_circuits 7 = .ok (.aload_n 0, 1) := by decide +kernel
theorem dX10_circuits_8 : decode cX10_circuits 8 = .ok (.getfield 17, 3) := by decide +kernel
theorem dX10_circuits_11 : decode cX10_circuits 11 = .ok (.iconst 1, 1) := by decide +kernel
theorem dX10_circuits_12 : decode cX10_circuits 12 = .ok (.baload, 1) := by decide +kernel
theorem dX10_circuits_13 : decode cX10_circuits 13 = .ok (.ifCond .eq 5, 3) := by decide +kernel
theorem dX10_circuits_16 : decode cX10_circuits 16 = .ok (.aload_n 2, 1) := by decide +kernel
theorem dX10_circuits_17 : decode cX10_circuits 17 = .ok (.areturn, 1) := by decide +kernel
theorem dX10_circuits_18 : decode cX10_circuits 18 = .ok (.aload_n 2, 1) := by decide +kernel
theorem dX10_circuits_19 : decode cX10_circuits 19 = .ok (.invokevirtual 22, 3) := by decide +kernel
theorem dX10_circuits_22 : decode cX10_circuits 22 = .ok (.aload_n 1, 1) := by decide +kernel
theorem dX10_circuits_23 : decode cX10_circuits 23 = .ok (.invokevirtual 25, 3) := by decide +kernel
theorem dX10_circuits_26 : decode cX10_circuits 26 = .ok (.invokestatic 31, 3) := by decide +kernel
theorem dX10_circuits_29 : decode cX10_circuits 29 = .ok (.istore_n 3, 1) := by decide +kernel
theorem dX10_circuits_30 : decode cX10_circuits 30 = .ok (.iconst 0, 1) := by decide +kernel
theorem dX10_circuits_31 : decode cX10_circuits 31 = .ok (.istore 4, 2) := by decide +kernel
theorem dX10_circuits_33 : decode cX10_circuits 33 = .ok (.iload 4, 2) := by decide +kernel
theorem dX10_circuits_35 : decode cX10_circuits 35 = .ok (.aload_n 1, 1) := by decide +kernel
theorem dX10_circuits_36 : decode cX10_circuits 36 = .ok (.invokevirtual 25, 3) := by decide +kernel
theorem dX10_circuits_39 : decode cX10_circuits 39 = .ok (.if_icmp .ge 89, 3) := by decide +kernel
theorem dX10_circuits_42 : decode cX10_circuits 42 = .ok (.iload 4, 2) := by decide +kernel
theorem dX10_circuits_44 : decode cX10_circuits 44 = .ok (.iconst 1, 1) := by decide +kernel
theorem dX10_circuits_45 : decode cX10_circuits 45 = .ok (.iadd, 1) := by decide +kernel
theorem dX10_circuits_46 : decode cX10_circuits 46 = .ok (.istore 5, 2) := by decide +kernel
theorem dX10_circuits_48 : decode cX10_circuits 48 = .ok (.iload 5, 2) := by decide +kernel
theorem dX10_circuits_50 : decode cX10_circuits 50 = .ok (.aload_n 1, 1) := by decide +kernel
theorem dX10_circuits_51 : decode cX10_circuits 51 = .ok (.invokevirtual 25, 3) := by decide +kernel
theorem dX10_circuits_54 : decode cX10_circuits 54 = .ok (.if_icmp .ge 68, 3) := by decide +kernel
theorem dX10_circuits_57 : decode cX10_circuits 57 = .ok (.iload 5, 2) := by decide +kernel
theorem dX10_circuits_59 : decode cX10_circuits 59 = .ok (.iconst 1, 1) := by decide +kernel
theorem dX10_circuits_60 : decode cX10_circuits 60 = .ok (.iadd, 1) := by decide +kernel
theorem dX10_circuits_61 : decode cX10_circuits 61 = .ok (.istore 6, 2) := by decide +kernel
theorem dX10_circuits_63 : decode cX10_circuits 63 = .ok (.iload 6, 2) := by decide +kernel
theorem dX10_circuits_65 : decode cX10_circuits 65 = .ok (.aload_n 1, 1) := by decide +kernel
theorem dX10_circuits_66 : decode cX10_circuits 66 = .ok (.invokevirtual 25, 3) := by decide +kernel
theorem dX10_circuits_69 : decode cX10_circuits 69 = .ok (.if_icmp .ge 47, 3) := by decide +kernel
theorem dX10_circuits_72 : decode cX10_circuits 72 = .ok (.iload 6, 2) := by decide +kernel
theorem dX10_circuits_74 : decode cX10_circuits 74 = .ok (.iconst 1, 1) := by decide +kernel
theorem dX10_circuits_75 : decode cX10_circuits 75 = .ok (.iadd, 1) := by decide +kernel
theorem dX10_circuits_76 : decode cX10_circuits 76 = .ok (.istore 7, 2) := by decide +kernel
theorem dX10_circuits_78 : decode cX10_circuits 78 = .ok (.iload 7, 2) := by decide +kernel
theorem dX10_circuits_80 : decode cX10_circuits 80 = .ok (.aload_n 1, 1) := by decide +kernel
theorem dX10_circuits_81 : decode cX10_circuits 81 = .ok (.invokevirtual 25, 3) := by decide +kernel
theorem dX10_circuits_84 : decode cX10_circuits 84 = .ok (.if_icmp .ge 26, 3) := by decide +kernel
theorem dX10_circuits_87 : decode cX10_circuits 87 = .ok (.aload_n 2, 1) := by decide +kernel
theorem dX10_circuits_88 : decode cX10_circuits 88 = .ok (.aload_n 1, 1) := by decide +kernel
theorem dX10_circuits_89 : decode cX10_circuits 89 = .ok (.iload 4, 2) := by decide +kernel
theorem dX10_circuits_91 : decode cX10_circuits 91 = .ok (.iload 5, 2) := by decide +kernel
theorem dX10_circuits_93 : decode cX10_circuits 93 = .ok (.iload 6, 2) := by decide +kernel
theorem dX10_circuits_95 : decode cX10_circuits 95 = .ok (.iload 7, 2) := by decide +kernel
theorem dX10_circuits_97 : decode cX10_circuits 97 = .ok (.invokestatic 56, 3) := by decide +kernel
theorem dX10_circuits_100 : decode cX10_circuits 100 = .ok (.iload_n 3, 1) := by decide +kernel
theorem dX10_circuits_101 : decode cX10_circuits 101 = .ok (.invokestatic 41, 3) := by decide +kernel
theorem dX10_circuits_104 : decode cX10_circuits 104 = .ok (.iinc 7 1, 3) := by decide +kernel
theorem dX10_circuits_107 : decode cX10_circuits 107 = .ok (.goto (-29), 3) := by decide +kernel
theorem dX10_circuits_110 : decode cX10_circuits 110 = .ok (.iinc 6 1, 3) := by decide +kernel
theorem dX10_circuits_113 : decode cX10_circuits 113 = .ok (.goto (-50), 3) := by decide +kernel
theorem dX10_circuits_116 : decode cX10_circuits 116 = .ok (.iinc 5 1, 3) := by decide +kernel
theorem dX10_circuits_119 : decode cX10_circuits 119 = .ok (.goto (-71), 3) := by decide +kernel
theorem dX10_circuits_122 : decode cX10_circuits 122 = .ok (.iinc 4 1, 3) := by decide +kernel
theorem dX10_circuits_125 : decode cX10_circuits 125 = .ok (.goto (-92), 3) := by decide +kernel
theorem dX10_circuits_128 : decode cX10_circuits 128 = .ok (.aload_n 2, 1) := by decide +kernel
theorem dX10_circuits_129 : decode cX10_circuits 129 = .ok (.invokevirtual 45, 3) := by decide +kernel
theorem dX10_circuits_132 : decode cX10_circuits 132 = .ok (.aload_n 0, 1) := by decide +kernel
theorem dX10_circuits_133 : decode cX10_circuits 133 = .ok (.getfield 17, 3) := by decide +kernel
theorem dX10_circuits_136 : decode cX10_circuits 136 = .ok (.iconst 1, 1) := by decide +kernel
theorem dX10_circuits_137 : decode cX10_circuits 137 = .ok (.iconst 1, 1) := by decide +kernel
theorem dX10_circuits_138 : decode cX10_circuits 138 = .ok (.bastore, 1) := by decide +kernel
theorem dX10_circuits_139 : decode cX10_circuits 139 = .ok (.aload_n 2, 1) := by decide +kernel
theorem dX10_circuits_140 : decode cX10_circuits 140 = .ok (.areturn, 1) := by decide +kernel
theorem dX10_circuit_0 : decode cX10_circuit 0 = .ok (.iconst 0, 1) := by decide +kernel
theorem dX10_circuit_1 : decode cX10_circuit 1 = .ok (.istore 5, 2) := by decide +kernel
theorem dX10_circuit_3 : decode cX10_circuit 3 = .ok (.iconst 0, 1) := by decide +kernel
theorem dX10_circuit_4 : decode cX10_circuit 4 = .ok (.istore 6, 2) := by decide +kernel
theorem dX10_circuit_6 : decode cX10_circuit 6 = .ok (.iload 6, 2) := by decide +kernel
theorem dX10_circuit_8 : decode cX10_circuit 8 = .ok (.aload_n 0, 1) := by decide +kernel
theorem dX10_circuit_9 : decode cX10_circuit 9 = .ok (.invokevirtual 25, 3) := by decide +kernel
theorem dX10_circuit_12 : decode cX10_circuit 12 = .ok (.if_icmp .ge 96, 3) := by decide +kernel
theorem dX10_circuit_15 : decode cX10_circuit 15 = .ok (.iconst 0, 1) := by decide +kernel
theorem dX10_circuit_16 : decode cX10_circuit 16 = .ok (.istore 7, 2) := by decide +kernel
theorem dX10_circuit_18 : decode cX10_circuit 18 = .ok (.iload 6, 2) := by decide +kernel
theorem dX10_circuit_20 : decode cX10_circuit 20 = .ok (.iload_n 1, 1) := by decide +kernel
theorem dX10_circuit_21 : decode cX10_circuit 21 = .ok (.if_icmp .ne 16, 3) := by decide +kernel
theorem dX10_circuit_24 : decode cX10_circuit 24 = .ok (.aload_n 0, 1) := by decide +kernel
theorem dX10_circuit_25 : decode cX10_circuit 25 = .ok (.iload_n 2, 1) := by decide +kernel
theorem dX10_circuit_26 : decode cX10_circuit 26 = .ok (.iload_n 3, 1) := by decide +kernel
theorem dX10_circuit_27 : decode cX10_circuit 27 = .ok (.iload 4, 2) := by decide +kernel
theorem dX10_circuit_29 : decode cX10_circuit 29 = .ok (.invokevirtual 48, 3) := by decide +kernel
theorem dX10_circuit_32 : decode cX10_circuit 32 = .ok (.istore 7, 2) := by decide +kernel
theorem dX10_circuit_34 : decode cX10_circuit 34 = .ok (.goto 59, 3) := by decide +kernel
theorem dX10_circuit_37 : decode cX10_circuit 37 = .ok (.iload 6, 2) := by decide +kernel
theorem dX10_circuit_39 : decode cX10_circuit 39 = .ok (.iload_n 2, 1) := by decide +kernel
theorem dX10_circuit_40 : decode cX10_circuit 40 = .ok (.if_icmp .ne 17, 3) := by decide +kernel
theorem dX10_circuit_43 : decode cX10_circuit 43 = .ok (.aload_n 0, 1) := by decide +kernel
theorem dX10_circuit_44 : decode cX10_circuit 44 = .ok (.iload_n 1, 1) := by decide +kernel
theorem dX10_circuit_45 : decode cX10_circuit 45 = .ok (.iload_n 3, 1) := by decide +kernel
theorem dX10_circuit_46 : decode cX10_circuit 46 = .ok (.iload 4, 2) := by decide +kernel
theorem dX10_circuit_48 : decode cX10_circuit 48 = .ok (.invokevirtual 48, 3) := by decide +kernel
theorem dX10_circuit_51 : decode cX10_circuit 51 = .ok (.ineg, 1) := by decide +kernel
theorem dX10_circuit_52 : decode cX10_circuit 52 = .ok (.istore 7, 2) := by decide +kernel
theorem dX10_circuit_54 : decode cX10_circuit 54 = .ok (.goto 39, 3) := by decide +kernel
theorem dX10_circuit_57 : decode cX10_circuit 57 = .ok (.iload 6, 2) := by decide +kernel
theorem dX10_circuit_59 : decode cX10_circuit 59 = .ok (.iload_n 3, 1) := by decide +kernel
theorem dX10_circuit_60 : decode cX10_circuit 60 = .ok (.if_icmp .ne 16, 3) := by decide +kernel
theorem dX10_circuit_63 : decode cX10_circuit 63 = .ok (.aload_n 0, 1) := by decide +kernel
theorem dX10_circuit_64 : decode cX10_circuit 64 = .ok (.iload_n 1, 1) := by decide +kernel
theorem dX10_circuit_65 : decode cX10_circuit 65 = .ok (.iload_n 2, 1) := by decide +kernel
theorem dX10_circuit_66 : decode cX10_circuit 66 = .ok (.iload 4, 2) := by decide +kernel
theorem dX10_circuit_68 : decode cX10_circuit 68 = .ok (.invokevirtual 48, 3) := by decide +kernel
theorem dX10_circuit_71 : decode cX10_circuit 71 = .ok (.istore 7, 2) := by decide +kernel
theorem dX10_circuit_73 : decode cX10_circuit 73 = .ok (.goto 20, 3) := by decide +kernel
theorem dX10_circuit_76 : decode cX10_circuit 76 = .ok (.iload 6, 2) := by decide +kernel
theorem dX10_circuit_78 : decode cX10_circuit 78 = .ok (.iload 4, 2) := by decide +kernel
theorem dX10_circuit_80 : decode cX10_circuit 80 = .ok (.if_icmp .ne 13, 3) := by decide +kernel
theorem dX10_circuit_83 : decode cX10_circuit 83 = .ok (.aload_n 0, 1) := by decide +kernel
theorem dX10_circuit_84 : decode cX10_circuit 84 = .ok (.iload_n 1, 1) := by decide +kernel
theorem dX10_circuit_85 : decode cX10_circuit 85 = .ok (.iload_n 2, 1) := by decide +kernel
theorem dX10_circuit_86 : decode cX10_circuit 86 = .ok (.iload_n 3, 1) := by decide +kernel
theorem dX10_circuit_87 : decode cX10_circuit 87 = .ok (.invokevirtual 48, 3) := by decide +kernel
theorem dX10_circuit_90 : decode cX10_circuit 90 = .ok (.ineg, 1) := by decide +kernel
theorem dX10_circuit_91 : decode cX10_circuit 91 = .ok (.istore 7, 2) := by decide +kernel
theorem dX10_circuit_93 : decode cX10_circuit 93 = .ok (.iload 5, 2) := by decide +kernel
theorem dX10_circuit_95 : decode cX10_circuit 95 = .ok (.iload 7, 2) := by decide +kernel
theorem dX10_circuit_97 : decode cX10_circuit 97 = .ok (.invokestatic 52, 3) := by decide +kernel
theorem dX10_circuit_100 : decode cX10_circuit 100 = .ok (.istore 5, 2) := by decide +kernel
theorem dX10_circuit_102 : decode cX10_circuit 102 = .ok (.iinc 6 1, 3) := by decide +kernel
theorem dX10_circuit_105 : decode cX10_circuit 105 = .ok (.goto (-99), 3) := by decide +kernel
theorem dX10_circuit_108 : decode cX10_circuit 108 = .ok (.iload 5, 2) := by decide +kernel
theorem dX10_circuit_110 : decode cX10_circuit 110 = .ok (.ireturn, 1) := by decide +kernel
theorem dX10_insertBoth_0 : decode cX10_insertBoth 0 = .ok (.iload_n 1, 1) := by decide +kernel
theorem dX10_insertBoth_1 : decode cX10_insertBoth 1 = .ok (.iload_n 2, 1) := by decide +kernel
theorem dX10_insertBoth_2 : decode cX10_insertBoth 2 = .ok (.if_icmp .eq 17, 3) := by decide +kernel
theorem dX10_insertBoth_5 : decode cX10_insertBoth 5 = .ok (.aload_n 0, 1) := by decide +kernel
theorem dX10_insertBoth_6 : decode cX10_insertBoth 6 = .ok (.iload_n 1, 1) := by decide +kernel
theorem dX10_insertBoth_7 : decode cX10_insertBoth 7 = .ok (.invokevirtual 60, 3) := by decide +kernel
theorem dX10_insertBoth_10 : decode cX10_insertBoth 10 = .ok (.aload_n 0, 1) := by decide +kernel
theorem dX10_insertBoth_11 : decode cX10_insertBoth 11 = .ok (.iload_n 1, 1) := by decide +kernel
theorem dX10_insertBoth_12 : decode cX10_insertBoth 12 = .ok (.iload_n 2, 1) := by decide +kernel
theorem dX10_insertBoth_13 : decode cX10_insertBoth 13 = .ok (.invokestatic 64, 3) := by decide +kernel
theorem dX10_insertBoth_16 : decode cX10_insertBoth 16 = .ok (.invokevirtual 60, 3) := by decide +kernel
theorem dX10_insertBoth_19 : decode cX10_insertBoth 19 = .ok (.return_, 1) := by decide +kernel
theorem dX10_covectors_0 : decode cX10_covectors 0 = .ok (.aload_n 0, 1) := by decide +kernel
theorem dX10_covectors_1 : decode cX10_covectors 1 = .ok (.getfield 11, 3) := by decide +kernel
theorem dX10_covectors_4 : decode cX10_covectors 4 = .ok (.iconst 2, 1) := by decide +kernel
theorem dX10_covectors_5 : decode cX10_covectors 5 = .ok (.aaload, 1) := by decide +kernel
theorem dX10_covectors_6 : decode cX10_covectors 6 = .ok (.astore_n 2, 1) := by decide +kernel
theorem dX10_covectors_7 : decode cX10_covectors 7 = .ok (.aload_n 0, 1) := by decide +kernel
theorem dX10_covectors_8 : decode cX10_covectors 8 = .ok (.getfield 17, 3) := by decide +kernel
theorem dX10_covectors_11 : decode cX10_covectors 11 = .ok (.iconst 2, 1) := by decide +kernel
theorem dX10_covectors_12 : decode cX10_covectors 12 = .ok (.baload, 1) := by decide +kernel
theorem dX10_covectors_13 : decode cX10_covectors 13 = .ok (.ifCond .eq 5, 3) := by decide +kernel
theorem dX10_covectors_16 : decode cX10_covectors 16 = .ok (.aload_n 2, 1) := by decide +kernel
theorem dX10_covectors_17 : decode cX10_covectors 17 = .ok (.areturn, 1) := by decide +kernel
theorem dX10_covectors_18 : decode cX10_covectors 18 = .ok (.aload_n 0, 1) := by decide +kernel
theorem dX10_covectors_19 : decode cX10_covectors 19 = .ok (.aload_n 1, 1) := by decide +kernel
theorem dX10_covectors_20 : decode cX10_covectors 20 = .ok (.invokevirtual 67, 3) := by decide +kernel
theorem dX10_covectors_23 : decode cX10_covectors 23 = .ok (.astore_n 3, 1) := by decide +kernel
theorem dX10_covectors_24 : decode cX10_covectors 24 = .ok (.aload_n 2, 1) := by decide +kernel
theorem dX10_covectors_25 : decode cX10_covectors 25 = .ok (.invokevirtual 22, 3) := by decide +kernel
theorem dX10_covectors_28 : decode cX10_covectors 28 = .ok (.aload_n 2, 1) := by decide +kernel
theorem dX10_covectors_29 : decode cX10_covectors 29 = .ok (.aload_n 1, 1) := by decide +kernel
theorem dX10_covectors_30 : decode cX10_covectors 30 = .ok (.invokevirtual 25, 3) := by decide +kernel
theorem dX10_covectors_33 : decode cX10_covectors 33 = .ok (.invokestatic 31, 3) := by decide +kernel
theorem dX10_covectors_36 : decode cX10_covectors 36 = .ok (.invokevirtual 60, 3) := by decide +kernel
theorem dX10_covectors_39 : decode cX10_covectors 39 = .ok (.iconst 0, 1) := by decide +kernel
theorem dX10_covectors_40 : decode cX10_covectors 40 = .ok (.istore 4, 2) := by decide +kernel
theorem dX10_covectors_42 : decode cX10_covectors 42 = .ok (.iload 4, 2) := by decide +kernel
theorem dX10_covectors_44 : decode cX10_covectors 44 = .ok (.aload_n 2, 1) := by decide +kernel
theorem dX10_covectors_45 : decode cX10_covectors 45 = .ok (.invokevirtual 71, 3) := by decide +kernel
theorem dX10_covectors_48 : decode cX10_covectors 48 = .ok (.if_icmp .ge 54, 3) := by decide +kernel
theorem dX10_covectors_51 : decode cX10_covectors 51 = .ok (.iload 4, 2) := by decide +kernel
theorem dX10_covectors_53 : decode cX10_covectors 53 = .ok (.sipush 729, 3) := by decide +kernel
theorem dX10_covectors_56 : decode cX10_covectors 56 = .ok (.if_icmp .ge 46, 3) := by decide +kernel
theorem dX10_covectors_59 : decode cX10_covectors 59 = .ok (.iconst 0, 1) := by decide +kernel
theorem dX10_covectors_60 : decode cX10_covectors 60 = .ok (.istore 5, 2) := by decide +kernel
theorem dX10_covectors_62 : decode cX10_covectors 62 = .ok (.iload 5, 2) := by decide +kernel
theorem dX10_covectors_64 : decode cX10_covectors 64 = .ok (.aload_n 3, 1) := by decide +kernel
theorem dX10_covectors_65 : decode cX10_covectors 65 = .ok (.invokevirtual 71, 3) := by decide +kernel
theorem dX10_covectors_68 : decode cX10_covectors 68 = .ok (.if_icmp .ge 28, 3) := by decide +kernel
theorem dX10_covectors_71 : decode cX10_covectors 71 = .ok (.aload_n 2, 1) := by decide +kernel
theorem dX10_covectors_72 : decode cX10_covectors 72 = .ok (.aload_n 2, 1) := by decide +kernel
theorem dX10_covectors_73 : decode cX10_covectors 73 = .ok (.iload 4, 2) := by decide +kernel
theorem dX10_covectors_75 : decode cX10_covectors 75 = .ok (.invokevirtual 74, 3) := by decide +kernel
theorem dX10_covectors_78 : decode cX10_covectors 78 = .ok (.aload_n 3, 1) := by decide +kernel
theorem dX10_covectors_79 : decode cX10_covectors 79 = .ok (.iload 5, 2) := by decide +kernel
theorem dX10_covectors_81 : decode cX10_covectors 81 = .ok (.invokevirtual 74, 3) := by decide +kernel
theorem dX10_covectors_84 : decode cX10_covectors 84 = .ok (.invokestatic 77, 3) := by decide +kernel
theorem dX10_covectors_87 : decode cX10_covectors 87 = .ok (.invokevirtual 60, 3) := by decide +kernel
theorem dX10_covectors_90 : decode cX10_covectors 90 = .ok (.iinc 5 1, 3) := by decide +kernel
theorem dX10_covectors_93 : decode cX10_covectors 93 = .ok (.goto (-31), 3) := by decide +kernel
theorem dX10_covectors_96 : decode cX10_covectors 96 = .ok (.iinc 4 1, 3) := by decide +kernel
theorem dX10_covectors_99 : decode cX10_covectors 99 = .ok (.goto (-57), 3) := by decide +kernel
theorem dX10_covectors_102 : decode cX10_covectors 102 = .ok (.aload_n 2, 1) := by decide +kernel
theorem dX10_covectors_103 : decode cX10_covectors 103 = .ok (.invokevirtual 45, 3) := by decide +kernel
theorem dX10_covectors_106 : decode cX10_covectors 106 = .ok (.aload_n 0, 1) := by decide +kernel
theorem dX10_covectors_107 : decode cX10_covectors 107 = .ok (.getfield 17, 3) := by decide +kernel
theorem dX10_covectors_110 : decode cX10_covectors 110 = .ok (.iconst 2, 1) := by decide +kernel
theorem dX10_covectors_111 : decode cX10_covectors 111 = .ok (.iconst 1, 1) := by decide +kernel
theorem dX10_covectors_112 : decode cX10_covectors 112 = .ok (.bastore, 1) := by decide +kernel
theorem dX10_covectors_113 : decode cX10_covectors 113 = .ok (.aload_n 2, 1) := by decide +kernel
theorem dX10_covectors_114 : decode cX10_covectors 114 = .ok (.areturn, 1) := by decide +kernel
theorem dX10_topes_0 : decode cX10_topes 0 = .ok (.aload_n 0, 1) := by decide +kernel
theorem dX10_topes_1 : decode cX10_topes 1 = .ok (.getfield 11, 3) := by decide +kernel
theorem dX10_topes_4 : decode cX10_topes 4 = .ok (.iconst 3, 1) := by decide +kernel
theorem dX10_topes_5 : decode cX10_topes 5 = .ok (.aaload, 1) := by decide +kernel
theorem dX10_topes_6 : decode cX10_topes 6 = .ok (.astore_n 2, 1) := by decide +kernel
theorem dX10_topes_7 : decode cX10_topes 7 = .ok (.aload_n 0, 1) := by decide +kernel
theorem dX10_topes_8 : decode cX10_topes 8 = .ok (.getfield 17, 3) := by decide +kernel
theorem dX10_topes_11 : decode cX10_topes 11 = .ok (.iconst 3, 1) := by decide +kernel
theorem dX10_topes_12 : decode cX10_topes 12 = .ok (.baload, 1) := by decide +kernel
theorem dX10_topes_13 : decode cX10_topes 13 = .ok (.ifCond .eq 5, 3) := by decide +kernel
theorem dX10_topes_16 : decode cX10_topes 16 = .ok (.aload_n 2, 1) := by decide +kernel
theorem dX10_topes_17 : decode cX10_topes 17 = .ok (.areturn, 1) := by decide +kernel
theorem dX10_topes_18 : decode cX10_topes 18 = .ok (.aload_n 0, 1) := by decide +kernel
theorem dX10_topes_19 : decode cX10_topes 19 = .ok (.aload_n 1, 1) := by decide +kernel
theorem dX10_topes_20 : decode cX10_topes 20 = .ok (.invokevirtual 80, 3) := by decide +kernel
theorem dX10_topes_23 : decode cX10_topes 23 = .ok (.astore_n 3, 1) := by decide +kernel
theorem dX10_topes_24 : decode cX10_topes 24 = .ok (.aload_n 1, 1) := by decide +kernel
theorem dX10_topes_25 : decode cX10_topes 25 = .ok (.invokevirtual 25, 3) := by decide +kernel
theorem dX10_topes_28 : decode cX10_topes 28 = .ok (.istore 4, 2) := by decide +kernel
theorem dX10_topes_30 : decode cX10_topes 30 = .ok (.iconst 0, 1) := by decide +kernel
theorem dX10_topes_31 : decode cX10_topes 31 = .ok (.istore 5, 2) := by decide +kernel
theorem dX10_topes_33 : decode cX10_topes 33 = .ok (.iload 5, 2) := by decide +kernel
theorem dX10_topes_35 : decode cX10_topes 35 = .ok (.aload_n 3, 1) := by decide +kernel
theorem dX10_topes_36 : decode cX10_topes 36 = .ok (.invokevirtual 71, 3) := by decide +kernel
theorem dX10_topes_39 : decode cX10_topes 39 = .ok (.if_icmp .ge 25, 3) := by decide +kernel
theorem dX10_topes_42 : decode cX10_topes 42 = .ok (.iload 4, 2) := by decide +kernel
theorem dX10_topes_44 : decode cX10_topes 44 = .ok (.aload_n 3, 1) := by decide +kernel
theorem dX10_topes_45 : decode cX10_topes 45 = .ok (.iload 5, 2) := by decide +kernel
theorem dX10_topes_47 : decode cX10_topes 47 = .ok (.invokevirtual 74, 3) := by decide +kernel
theorem dX10_topes_50 : decode cX10_topes 50 = .ok (.invokestatic 83, 3) := by decide +kernel
theorem dX10_topes_53 : decode cX10_topes 53 = .ok (.invokestatic 86, 3) := by decide +kernel
theorem dX10_topes_56 : decode cX10_topes 56 = .ok (.istore 4, 2) := by decide +kernel
theorem dX10_topes_58 : decode cX10_topes 58 = .ok (.iinc 5 1, 3) := by decide +kernel
theorem dX10_topes_61 : decode cX10_topes 61 = .ok (.goto (-28), 3) := by decide +kernel
theorem dX10_topes_64 : decode cX10_topes 64 = .ok (.aload_n 2, 1) := by decide +kernel
theorem dX10_topes_65 : decode cX10_topes 65 = .ok (.invokevirtual 22, 3) := by decide +kernel
theorem dX10_topes_68 : decode cX10_topes 68 = .ok (.iconst 0, 1) := by decide +kernel
theorem dX10_topes_69 : decode cX10_topes 69 = .ok (.istore 5, 2) := by decide +kernel
theorem dX10_topes_71 : decode cX10_topes 71 = .ok (.iload 5, 2) := by decide +kernel
theorem dX10_topes_73 : decode cX10_topes 73 = .ok (.aload_n 3, 1) := by decide +kernel
theorem dX10_topes_74 : decode cX10_topes 74 = .ok (.invokevirtual 71, 3) := by decide +kernel
theorem dX10_topes_77 : decode cX10_topes 77 = .ok (.if_icmp .ge 33, 3) := by decide +kernel
theorem dX10_topes_80 : decode cX10_topes 80 = .ok (.aload_n 3, 1) := by decide +kernel
theorem dX10_topes_81 : decode cX10_topes 81 = .ok (.iload 5, 2) := by decide +kernel
theorem dX10_topes_83 : decode cX10_topes 83 = .ok (.invokevirtual 74, 3) := by decide +kernel
theorem dX10_topes_86 : decode cX10_topes 86 = .ok (.invokestatic 83, 3) := by decide +kernel
theorem dX10_topes_89 : decode cX10_topes 89 = .ok (.iload 4, 2) := by decide +kernel
theorem dX10_topes_91 : decode cX10_topes 91 = .ok (.if_icmp .ne 13, 3) := by decide +kernel
theorem dX10_topes_94 : decode cX10_topes 94 = .ok (.aload_n 2, 1) := by decide +kernel
theorem dX10_topes_95 : decode cX10_topes 95 = .ok (.aload_n 3, 1) := by decide +kernel
theorem dX10_topes_96 : decode cX10_topes 96 = .ok (.iload 5, 2) := by decide +kernel
theorem dX10_topes_98 : decode cX10_topes 98 = .ok (.invokevirtual 74, 3) := by decide +kernel
theorem dX10_topes_101 : decode cX10_topes 101 = .ok (.invokevirtual 60, 3) := by decide +kernel
theorem dX10_topes_104 : decode cX10_topes 104 = .ok (.iinc 5 1, 3) := by decide +kernel
theorem dX10_topes_107 : decode cX10_topes 107 = .ok (.goto (-36), 3) := by decide +kernel
theorem dX10_topes_110 : decode cX10_topes 110 = .ok (.aload_n 0, 1) := by decide +kernel
theorem dX10_topes_111 : decode cX10_topes 111 = .ok (.getfield 17, 3) := by decide +kernel
theorem dX10_topes_114 : decode cX10_topes 114 = .ok (.iconst 3, 1) := by decide +kernel
theorem dX10_topes_115 : decode cX10_topes 115 = .ok (.iconst 1, 1) := by decide +kernel
theorem dX10_topes_116 : decode cX10_topes 116 = .ok (.bastore, 1) := by decide +kernel
theorem dX10_topes_117 : decode cX10_topes 117 = .ok (.aload_n 2, 1) := by decide +kernel
theorem dX10_topes_118 : decode cX10_topes 118 = .ok (.areturn, 1) := by decide +kernel
theorem dX11_init_0 : decode cX11_init 0 = .ok (.aload_n 0, 1) := by decide +kernel
theorem dX11_init_1 : decode cX11_init 1 = .ok (.invokespecial 1, 3) := by decide +kernel
theorem dX11_init_4 : decode cX11_init 4 = .ok (.aload_n 0, 1) := by decide +kernel
theorem dX11_init_5 : decode cX11_init 5 = .ok (.new 7, 3) := by decide +kernel
theorem dX11_init_8 : decode cX11_init 8 = .ok (.dup, 1) := by decide +kernel
theorem dX11_init_9 : decode cX11_init 9 = .ok (.invokespecial 9, 3) := by decide +kernel
theorem dX11_init_12 : decode cX11_init 12 = .ok (.putfield 10, 3) := by decide +kernel
theorem dX11_init_15 : decode cX11_init 15 = .ok (.aload_n 0, 1) := by decide +kernel
theorem dX11_init_16 : decode cX11_init 16 = .ok (.new 7, 3) := by decide +kernel
theorem dX11_init_19 : decode cX11_init 19 = .ok (.dup, 1) := by decide +kernel
theorem dX11_init_20 : decode cX11_init 20 = .ok (.invokespecial 9, 3) := by decide +kernel
theorem dX11_init_23 : decode cX11_init 23 = .ok (.putfield 16, 3) := by decide +kernel
theorem dX11_init_26 : decode cX11_init 26 = .ok (.aload_n 0, 1) := by decide +kernel
theorem dX11_init_27 : decode cX11_init 27 = .ok (.new 19, 3) := by decide +kernel
theorem dX11_init_30 : decode cX11_init 30 = .ok (.dup, 1) := by decide +kernel
theorem dX11_init_31 : decode cX11_init 31 = .ok (.invokespecial 21, 3) := by decide +kernel
theorem dX11_init_34 : decode cX11_init 34 = .ok (.putfield 22, 3) := by decide +kernel
theorem dX11_init_37 : decode cX11_init 37 = .ok (.aload_n 0, 1) := by decide +kernel
theorem dX11_init_38 : decode cX11_init 38 = .ok (.iconst 2, 1) := by decide +kernel
theorem dX11_init_39 : decode cX11_init 39 = .ok (.anewarray 7, 3) := by decide +kernel
theorem dX11_init_42 : decode cX11_init 42 = .ok (.putfield 26, 3) := by decide +kernel
theorem dX11_init_45 : decode cX11_init 45 = .ok (.aload_n 0, 1) := by decide +kernel
theorem dX11_init_46 : decode cX11_init 46 = .ok (.iconst 2, 1) := by decide +kernel
theorem dX11_init_47 : decode cX11_init 47 = .ok (.newarray .boolean, 2) := by decide +kernel
theorem dX11_init_49 : decode cX11_init 49 = .ok (.putfield 30, 3) := by decide +kernel
theorem dX11_init_52 : decode cX11_init 52 = .ok (.iconst 0, 1) := by decide +kernel
theorem dX11_init_53 : decode cX11_init 53 = .ok (.istore_n 1, 1) := by decide +kernel
theorem dX11_init_54 : decode cX11_init 54 = .ok (.iload_n 1, 1) := by decide +kernel
theorem dX11_init_55 : decode cX11_init 55 = .ok (.iconst 2, 1) := by decide +kernel
theorem dX11_init_56 : decode cX11_init 56 = .ok (.if_icmp .ge 22, 3) := by decide +kernel
theorem dX11_init_59 : decode cX11_init 59 = .ok (.aload_n 0, 1) := by decide +kernel
theorem dX11_init_60 : decode cX11_init 60 = .ok (.getfield 26, 3) := by decide +kernel
theorem dX11_init_63 : decode cX11_init 63 = .ok (.iload_n 1, 1) := by decide +kernel
theorem dX11_init_64 : decode cX11_init 64 = .ok (.new 7, 3) := by decide +kernel
theorem dX11_init_67 : decode cX11_init 67 = .ok (.dup, 1) := by decide +kernel
theorem dX11_init_68 : decode cX11_init 68 = .ok (.invokespecial 9, 3) := by decide +kernel
theorem dX11_init_71 : decode cX11_init 71 = .ok (.aastore, 1) := by decide +kernel
theorem dX11_init_72 : decode cX11_init 72 = .ok (.iinc 1 1, 3) := by decide +kernel
theorem dX11_init_75 : decode cX11_init 75 = .ok (.goto (-21), 3) := by decide +kernel
theorem dX11_init_78 : decode cX11_init 78 = .ok (.aload_n 0, 1) := by decide +kernel
theorem dX11_init_79 : decode cX11_init 79 = .ok (.new 34, 3) := by decide +kernel
theorem dX11_init_82 : decode cX11_init 82 = .ok (.dup, 1) := by decide +kernel
theorem dX11_init_83 : decode cX11_init 83 = .ok (.invokespecial 36, 3) := by decide +kernel
theorem dX11_init_86 : decode cX11_init 86 = .ok (.putfield 37, 3) := by decide +kernel
theorem dX11_init_89 : decode cX11_init 89 = .ok (.aload_n 0, 1) := by decide +kernel
theorem dX11_init_90 : decode cX11_init 90 = .ok (.new 41, 3) := by decide +kernel
theorem dX11_init_93 : decode cX11_init 93 = .ok (.dup, 1) := by decide +kernel
theorem dX11_init_94 : decode cX11_init 94 = .ok (.aload_n 0, 1) := by decide +kernel
theorem dX11_init_95 : decode cX11_init 95 = .ok (.getfield 10, 3) := by decide +kernel
theorem dX11_init_98 : decode cX11_init 98 = .ok (.invokespecial 43, 3) := by decide +kernel
theorem dX11_init_101 : decode cX11_init 101 = .ok (.putfield 46, 3) := by decide +kernel
theorem dX11_init_104 : decode cX11_init 104 = .ok (.aload_n 0, 1) := by decide +kernel
theorem dX11_init_105 : decode cX11_init 105 = .ok (.iconst 3, 1) := by decide +kernel
theorem dX11_init_106 : decode cX11_init 106 = .ok (.anewarray 50, 3) := by decide +kernel
theorem dX11_init_109 : decode cX11_init 109 = .ok (.putfield 52, 3) := by decide +kernel
theorem dX11_init_112 : decode cX11_init 112 = .ok (.iconst 0, 1) := by decide +kernel
theorem dX11_init_113 : decode cX11_init 113 = .ok (.istore_n 1, 1) := by decide +kernel
theorem dX11_init_114 : decode cX11_init 114 = .ok (.iload_n 1, 1) := by decide +kernel
theorem dX11_init_115 : decode cX11_init 115 = .ok (.iconst 3, 1) := by decide +kernel
theorem dX11_init_116 : decode cX11_init 116 = .ok (.if_icmp .ge 22, 3) := by decide +kernel
theorem dX11_init_119 : decode cX11_init 119 = .ok (.aload_n 0, 1) := by decide +kernel
theorem dX11_init_120 : decode cX11_init 120 = .ok (.getfield 52, 3) := by decide +kernel
theorem dX11_init_123 : decode cX11_init 123 = .ok (.iload_n 1, 1) := by decide +kernel
theorem dX11_init_124 : decode cX11_init 124 = .ok (.new 50, 3) := by decide +kernel
theorem dX11_init_127 : decode cX11_init 127 = .ok (.dup, 1) := by decide +kernel
theorem dX11_init_128 : decode cX11_init 128 = .ok (.invokespecial 56, 3) := by decide +kernel
theorem dX11_init_131 : decode cX11_init 131 = .ok (.aastore, 1) := by decide +kernel
theorem dX11_init_132 : decode cX11_init 132 = .ok (.iinc 1 1, 3) := by decide +kernel
theorem dX11_init_135 : decode cX11_init 135 = .ok (.goto (-21), 3) := by decide +kernel
theorem dX11_init_138 : decode cX11_init 138 = .ok (.return_, 1) := by decide +kernel
theorem dX11_write_0 : decode cX11_write 0 = .ok (.iload_n 1, 1) := by decide +kernel
theorem dX11_write_1 : decode cX11_write 1 = .ok (.ifCond .lt 10, 3) := by decide +kernel
theorem dX11_write_4 : decode cX11_write 4 = .ok (.iload_n 1, 1) := by decide +kernel
theorem dX11_write_5 : decode cX11_write 5 = .ok (.sipush 255, 3) := by decide +kernel
theorem dX11_write_8 : decode cX11_write 8 = .ok (.if_icmp .le 7, 3) := by decide +kernel
theorem dX11_write_11 : decode cX11_write 11 = .ok (.sipush (-1002), 3) := by decide +kernel
theorem dX11_write_14 : decode cX11_write 14 = .ok (.ireturn, 1) := by decide +kernel
theorem dX11_write_15 : decode cX11_write 15 = .ok (.aload_n 0, 1) := by decide +kernel
theorem dX11_write_16 : decode cX11_write 16 = .ok (.getfield 37, 3) := by decide +kernel
theorem dX11_write_19 : decode cX11_write 19 = .ok (.invokevirtual 57, 3) := by decide +kernel
theorem dX11_write_22 : decode cX11_write 22 = .ok (.ifCond .eq 7, 3) := by decide +kernel
theorem dX11_write_25 : decode cX11_write 25 = .ok (.sipush (-1004), 3) := by decide +kernel
theorem dX11_write_28 : decode cX11_write 28 = .ok (.ireturn, 1) := by decide +kernel
theorem dX11_write_29 : decode cX11_write 29 = .ok (.aload_n 0, 1) := by decide +kernel
theorem dX11_write_30 : decode cX11_write 30 = .ok (.getfield 37, 3) := by decide +kernel
theorem dX11_write_33 : decode cX11_write 33 = .ok (.iload_n 1, 1) := by decide +kernel
theorem dX11_write_34 : decode cX11_write 34 = .ok (.invokevirtual 61, 3) := by decide +kernel
theorem dX11_write_37 : decode cX11_write 37 = .ok (.aload_n 0, 1) := by decide +kernel
theorem dX11_write_38 : decode cX11_write 38 = .ok (.getfield 37, 3) := by decide +kernel
theorem dX11_write_41 : decode cX11_write 41 = .ok (.invokevirtual 65, 3) := by decide +kernel
theorem dX11_write_44 : decode cX11_write 44 = .ok (.ireturn, 1) := by decide +kernel
theorem dX11_erase_0 : decode cX11_erase 0 = .ok (.aload_n 0, 1) := by decide +kernel
theorem dX11_erase_1 : decode cX11_erase 1 = .ok (.getfield 37, 3) := by decide +kernel
theorem dX11_erase_4 : decode cX11_erase 4 = .ok (.invokevirtual 65, 3) := by decide +kernel
theorem dX11_erase_7 : decode cX11_erase 7 = .ok (.istore_n 1, 1) := by decide +kernel
theorem dX11_erase_8 : decode cX11_erase 8 = .ok (.aload_n 0, 1) := by decide +kernel
theorem dX11_erase_9 : decode cX11_erase 9 = .ok (.getfield 37, 3) := by decide +kernel
theorem dX11_erase_12 : decode cX11_erase 12 = .ok (.invokevirtual 69, 3) := by decide +kernel
theorem dX11_erase_15 : decode cX11_erase 15 = .ok (.iload_n 1, 1) := by decide +kernel
theorem dX11_erase_16 : decode cX11_erase 16 = .ok (.ireturn, 1) := by decide +kernel
theorem dX11_fault_0 : decode cX11_fault 0 = .ok (.aload_n 0, 1) := by decide +kernel
theorem dX11_fault_1 : decode cX11_fault 1 = .ok (.getfield 16, 3) := by decide +kernel
theorem dX11_fault_4 : decode cX11_fault 4 = .ok (.aload_n 0, 1) := by decide +kernel
theorem dX11_fault_5 : decode cX11_fault 5 = .ok (.getfield 10, 3) := by decide +kernel
theorem dX11_fault_8 : decode cX11_fault 8 = .ok (.invokevirtual 72, 3) := by decide +kernel
theorem dX11_fault_11 : decode cX11_fault 11 = .ok (.aload_n 0, 1) := by decide +kernel
theorem dX11_fault_12 : decode cX11_fault 12 = .ok (.getfield 37, 3) := by decide +kernel
theorem dX11_fault_15 : decode cX11_fault 15 = .ok (.aload_n 0, 1) := by decide +kernel
theorem dX11_fault_16 : decode cX11_fault 16 = .ok (.getfield 16, 3) := by decide +kernel
theorem dX11_fault_19 : decode cX11_fault 19 = .ok (.invokevirtual 75, 3) := by decide +kernel
theorem dX11_fault_22 : decode cX11_fault 22 = .ok (.ireturn, 1) := by decide +kernel
theorem dX11_tell_0 : decode cX11_tell 0 = .ok (.aload_n 0, 1) := by decide +kernel
theorem dX11_tell_1 : decode cX11_tell 1 = .ok (.getfield 16, 3) := by decide +kernel
theorem dX11_tell_4 : decode cX11_tell 4 = .ok (.aload_n 0, 1) := by decide +kernel
theorem dX11_tell_5 : decode cX11_tell 5 = .ok (.getfield 10, 3) := by decide +kernel
theorem dX11_tell_8 : decode cX11_tell 8 = .ok (.invokevirtual 72, 3) := by decide +kernel
theorem dX11_tell_11 : decode cX11_tell 11 = .ok (.aload_n 0, 1) := by decide +kernel
theorem dX11_tell_12 : decode cX11_tell 12 = .ok (.getfield 37, 3) := by decide +kernel
theorem dX11_tell_15 : decode cX11_tell 15 = .ok (.aload_n 0, 1) := by decide +kernel
theorem dX11_tell_16 : decode cX11_tell 16 = .ok (.getfield 16, 3) := by decide +kernel
theorem dX11_tell_19 : decode cX11_tell 19 = .ok (.invokevirtual 75, 3) := by decide +kernel
theorem dX11_tell_22 : decode cX11_tell 22 = .ok (.iconst (-1), 1) := by decide +kernel
theorem dX11_tell_23 : decode cX11_tell 23 = .ok (.if_icmp .eq 7, 3) := by decide +kernel
theorem dX11_tell_26 : decode cX11_tell 26 = .ok (.sipush (-1003), 3) := by decide +kernel
theorem dX11_tell_29 : decode cX11_tell 29 = .ok (.ireturn, 1) := by decide +kernel
theorem dX11_tell_30 : decode cX11_tell 30 = .ok (.aload_n 0, 1) := by decide +kernel
theorem dX11_tell_31 : decode cX11_tell 31 = .ok (.getfield 37, 3) := by decide +kernel
theorem dX11_tell_34 : decode cX11_tell 34 = .ok (.invokevirtual 69, 3) := by decide +kernel
theorem dX11_tell_37 : decode cX11_tell 37 = .ok (.aload_n 0, 1) := by decide +kernel
theorem dX11_tell_38 : decode cX11_tell 38 = .ok (.getfield 10, 3) := by decide +kernel
theorem dX11_tell_41 : decode cX11_tell 41 = .ok (.aload_n 0, 1) := by decide +kernel
theorem dX11_tell_42 : decode cX11_tell 42 = .ok (.getfield 16, 3) := by decide +kernel
theorem dX11_tell_45 : decode cX11_tell 45 = .ok (.invokevirtual 72, 3) := by decide +kernel
theorem dX11_tell_48 : decode cX11_tell 48 = .ok (.aload_n 0, 1) := by decide +kernel
theorem dX11_tell_49 : decode cX11_tell 49 = .ok (.getfield 22, 3) := by decide +kernel
theorem dX11_tell_52 : decode cX11_tell 52 = .ok (.invokevirtual 79, 3) := by decide +kernel
theorem dX11_tell_55 : decode cX11_tell 55 = .ok (.iconst 0, 1) := by decide +kernel
theorem dX11_tell_56 : decode cX11_tell 56 = .ok (.istore_n 1, 1) := by decide +kernel
theorem dX11_tell_57 : decode cX11_tell 57 = .ok (.iload_n 1, 1) := by decide +kernel
theorem dX11_tell_58 : decode cX11_tell 58 = .ok (.iconst 2, 1) := by decide +kernel
theorem dX11_tell_59 : decode cX11_tell 59 = .ok (.if_icmp .ge 16, 3) := by decide +kernel
theorem dX11_tell_62 : decode cX11_tell 62 = .ok (.aload_n 0, 1) := by decide +kernel
theorem dX11_tell_63 : decode cX11_tell 63 = .ok (.getfield 30, 3) := by decide +kernel
theorem dX11_tell_66 : decode cX11_tell 66 = .ok (.iload_n 1, 1) := by decide +kernel
theorem dX11_tell_67 : decode cX11_tell 67 = .ok (.iconst 0, 1) := by decide +kernel
theorem dX11_tell_68 : decode cX11_tell 68 = .ok (.bastore, 1) := by decide +kernel
theorem dX11_tell_69 : decode cX11_tell 69 = .ok (.iinc 1 1, 3) := by decide +kernel
theorem dX11_tell_72 : decode cX11_tell 72 = .ok (.goto (-15), 3) := by decide +kernel
theorem dX11_tell_75 : decode cX11_tell 75 = .ok (.aload_n 0, 1) := by decide +kernel
theorem dX11_tell_76 : decode cX11_tell 76 = .ok (.getfield 46, 3) := by decide +kernel
theorem dX11_tell_79 : decode cX11_tell 79 = .ok (.invokevirtual 80, 3) := by decide +kernel
theorem dX11_tell_82 : decode cX11_tell 82 = .ok (.aload_n 0, 1) := by decide +kernel
theorem dX11_tell_83 : decode cX11_tell 83 = .ok (.getfield 37, 3) := by decide +kernel
theorem dX11_tell_86 : decode cX11_tell 86 = .ok (.invokevirtual 83, 3) := by decide +kernel
theorem dX11_tell_89 : decode cX11_tell 89 = .ok (.ireturn, 1) := by decide +kernel
theorem dX11_sign_0 : decode cX11_sign 0 = .ok (.aload_n 0, 1) := by decide +kernel
theorem dX11_sign_1 : decode cX11_sign 1 = .ok (.getfield 10, 3) := by decide +kernel
theorem dX11_sign_4 : decode cX11_sign 4 = .ok (.iload_n 1, 1) := by decide +kernel
theorem dX11_sign_5 : decode cX11_sign 5 = .ok (.invokevirtual 86, 3) := by decide +kernel
theorem dX11_sign_8 : decode cX11_sign 8 = .ok (.ifCond .eq 25, 3) := by decide +kernel
theorem dX11_sign_11 : decode cX11_sign 11 = .ok (.aload_n 0, 1) := by decide +kernel
theorem dX11_sign_12 : decode cX11_sign 12 = .ok (.getfield 10, 3) := by decide +kernel
theorem dX11_sign_15 : decode cX11_sign 15 = .ok (.iload_n 2, 1) := by decide +kernel
theorem dX11_sign_16 : decode cX11_sign 16 = .ok (.invokevirtual 86, 3) := by decide +kernel
theorem dX11_sign_19 : decode cX11_sign 19 = .ok (.ifCond .eq 14, 3) := by decide +kernel
theorem dX11_sign_22 : decode cX11_sign 22 = .ok (.aload_n 0, 1) := by decide +kernel
theorem dX11_sign_23 : decode cX11_sign 23 = .ok (.getfield 10, 3) := by decide +kernel
theorem dX11_sign_26 : decode cX11_sign 26 = .ok (.iload_n 3, 1) := by decide +kernel
theorem dX11_sign_27 : decode cX11_sign 27 = .ok (.invokevirtual 86, 3) := by decide +kernel
theorem dX11_sign_30 : decode cX11_sign 30 = .ok (.ifCond .ne 7, 3) := by decide +kernel
theorem dX11_sign_33 : decode cX11_sign 33 = .ok (.sipush (-1001), 3) := by decide +kernel
theorem dX11_sign_36 : decode cX11_sign 36 = .ok (.ireturn, 1) := by decide +kernel
theorem dX11_sign_37 : decode cX11_sign 37 = .ok (.aload_n 0, 1) := by decide +kernel
theorem dX11_sign_38 : decode cX11_sign 38 = .ok (.getfield 10, 3) := by decide +kernel
theorem dX11_sign_41 : decode cX11_sign 41 = .ok (.iload_n 1, 1) := by decide +kernel
theorem dX11_sign_42 : decode cX11_sign 42 = .ok (.iload_n 2, 1) := by decide +kernel
theorem dX11_sign_43 : decode cX11_sign 43 = .ok (.iload_n 3, 1) := by decide +kernel
theorem dX11_sign_44 : decode cX11_sign 44 = .ok (.invokevirtual 90, 3) := by decide +kernel
theorem dX11_sign_47 : decode cX11_sign 47 = .ok (.ireturn, 1) := by decide +kernel
theorem dX11_turn_0 : decode cX11_turn 0 = .ok (.aload_n 0, 1) := by decide +kernel
theorem dX11_turn_1 : decode cX11_turn 1 = .ok (.getfield 10, 3) := by decide +kernel
theorem dX11_turn_4 : decode cX11_turn 4 = .ok (.iload_n 1, 1) := by decide +kernel
theorem dX11_turn_5 : decode cX11_turn 5 = .ok (.invokevirtual 86, 3) := by decide +kernel
theorem dX11_turn_8 : decode cX11_turn 8 = .ok (.ifCond .eq 25, 3) := by decide +kernel
theorem dX11_turn_11 : decode cX11_turn 11 = .ok (.aload_n 0, 1) := by decide +kernel
theorem dX11_turn_12 : decode cX11_turn 12 = .ok (.getfield 10, 3) := by decide +kernel
theorem dX11_turn_15 : decode cX11_turn 15 = .ok (.iload_n 2, 1) := by decide +kernel
theorem dX11_turn_16 : decode cX11_turn 16 = .ok (.invokevirtual 86, 3) := by decide +kernel
theorem dX11_turn_19 : decode cX11_turn 19 = .ok (.ifCond .eq 14, 3) := by decide +kernel
theorem dX11_turn_22 : decode cX11_turn 22 = .ok (.aload_n 0, 1) := by decide +kernel
theorem dX11_turn_23 : decode cX11_turn 23 = .ok (.getfield 10, 3) := by decide +kernel
theorem dX11_turn_26 : decode cX11_turn 26 = .ok (.iload_n 3, 1) := by decide +kernel
theorem dX11_turn_27 : decode cX11_turn 27 = .ok (.invokevirtual 86, 3) := by decide +kernel
theorem dX11_turn_30 : decode cX11_turn 30 = .ok (.ifCond .ne 7, 3) := by decide +kernel
theorem dX11_turn_33 : decode cX11_turn 33 = .ok (.sipush (-1001), 3) := by decide +kernel
theorem dX11_turn_36 : decode cX11_turn 36 = .ok (.ireturn, 1) := by decide +kernel
theorem dX11_turn_37 : decode cX11_turn 37 = .ok (.aload_n 0, 1) := by decide +kernel
theorem dX11_turn_38 : decode cX11_turn 38 = .ok (.getfield 10, 3) := by decide +kernel
theorem dX11_turn_41 : decode cX11_turn 41 = .ok (.iload_n 1, 1) := by decide +kernel
theorem dX11_turn_42 : decode cX11_turn 42 = .ok (.iload_n 2, 1) := by decide +kernel
theorem dX11_turn_43 : decode cX11_turn 43 = .ok (.iload_n 3, 1) := by decide +kernel
theorem dX11_turn_44 : decode cX11_turn 44 = .ok (.invokevirtual 94, 3) := by decide +kernel
theorem dX11_turn_47 : decode cX11_turn 47 = .ok (.ireturn, 1) := by decide +kernel
theorem dX11_point_0 : decode cX11_point 0 = .ok (.aload_n 0, 1) := by decide +kernel
theorem dX11_point_1 : decode cX11_point 1 = .ok (.getfield 10, 3) := by decide +kernel
theorem dX11_point_4 : decode cX11_point 4 = .ok (.iload_n 1, 1) := by decide +kernel
theorem dX11_point_5 : decode cX11_point 5 = .ok (.invokevirtual 86, 3) := by decide +kernel
theorem dX11_point_8 : decode cX11_point 8 = .ok (.ifCond .ne 7, 3) := by decide +kernel
theorem dX11_point_11 : decode cX11_point 11 = .ok (.sipush (-1001), 3) := by decide +kernel
theorem dX11_point_14 : decode cX11_point 14 = .ok (.ireturn, 1) := by decide +kernel
theorem dX11_point_15 : decode cX11_point 15 = .ok (.iload_n 2, 1) := by decide +kernel
theorem dX11_point_16 : decode cX11_point 16 = .ok (.ifCond .lt 8, 3) := by decide +kernel
theorem dX11_point_19 : decode cX11_point 19 = .ok (.iload_n 2, 1) := by decide +kernel
theorem dX11_point_20 : decode cX11_point 20 = .ok (.iconst 3, 1) := by decide +kernel
theorem dX11_point_21 : decode cX11_point 21 = .ok (.if_icmp .lt 7, 3) := by decide +kernel
theorem dX11_point_24 : decode cX11_point 24 = .ok (.sipush (-1002), 3) := by decide +kernel
theorem dX11_point_27 : decode cX11_point 27 = .ok (.ireturn, 1) := by decide +kernel
theorem dX11_point_28 : decode cX11_point 28 = .ok (.aload_n 0, 1) := by decide +kernel
theorem dX11_point_29 : decode cX11_point 29 = .ok (.getfield 10, 3) := by decide +kernel
theorem dX11_point_32 : decode cX11_point 32 = .ok (.iload_n 1, 1) := by decide +kernel
theorem dX11_point_33 : decode cX11_point 33 = .ok (.iload_n 2, 1) := by decide +kernel
theorem dX11_point_34 : decode cX11_point 34 = .ok (.invokevirtual 97, 3) := by decide +kernel
theorem dX11_point_37 : decode cX11_point 37 = .ok (.ireturn, 1) := by decide +kernel
theorem dX11_set_0 : decode cX11_set 0 = .ok (.aload_n 0, 1) := by decide +kernel
theorem dX11_set_1 : decode cX11_set 1 = .ok (.getfield 10, 3) := by decide +kernel
theorem dX11_set_4 : decode cX11_set 4 = .ok (.iload_n 1, 1) := by decide +kernel
theorem dX11_set_5 : decode cX11_set 5 = .ok (.invokevirtual 86, 3) := by decide +kernel
theorem dX11_set_8 : decode cX11_set 8 = .ok (.ifCond .eq 40, 3) := by decide +kernel
theorem dX11_set_11 : decode cX11_set 11 = .ok (.aload_n 0, 1) := by decide +kernel
theorem dX11_set_12 : decode cX11_set 12 = .ok (.getfield 10, 3) := by decide +kernel
theorem dX11_set_15 : decode cX11_set 15 = .ok (.iload_n 2, 1) := by decide +kernel
theorem dX11_set_16 : decode cX11_set 16 = .ok (.invokevirtual 86, 3) := by decide +kernel
theorem dX11_set_19 : decode cX11_set 19 = .ok (.ifCond .eq 29, 3) := by decide +kernel
theorem dX11_set_22 : decode cX11_set 22 = .ok (.aload_n 0, 1) := by decide +kernel
theorem dX11_set_23 : decode cX11_set 23 = .ok (.getfield 10, 3) := by decide +kernel
theorem dX11_set_26 : decode cX11_set 26 = .ok (.iload_n 3, 1) := by decide +kernel
theorem dX11_set_27 : decode cX11_set 27 = .ok (.invokevirtual 86, 3) := by decide +kernel
theorem dX11_set_30 : decode cX11_set 30 = .ok (.ifCond .eq 18, 3) := by decide +kernel
theorem dX11_set_33 : decode cX11_set 33 = .ok (.iload_n 1, 1) := by decide +kernel
theorem dX11_set_34 : decode cX11_set 34 = .ok (.iload_n 2, 1) := by decide +kernel
theorem dX11_set_35 : decode cX11_set 35 = .ok (.if_icmp .eq 13, 3) := by decide +kernel
theorem dX11_set_38 : decode cX11_set 38 = .ok (.iload_n 1, 1) := by decide +kernel
theorem dX11_set_39 : decode cX11_set 39 = .ok (.iload_n 3, 1) := by decide +kernel
theorem dX11_set_40 : decode cX11_set 40 = .ok (.if_icmp .eq 8, 3) := by decide +kernel
theorem dX11_set_43 : decode cX11_set 43 = .ok (.iload_n 2, 1) := by decide +kernel
theorem dX11_set_44 : decode cX11_set 44 = .ok (.iload_n 3, 1) := by decide +kernel
theorem dX11_set_45 : decode cX11_set 45 = .ok (.if_icmp .ne 7, 3) := by decide +kernel
theorem dX11_set_48 : decode cX11_set 48 = .ok (.sipush (-1001), 3) := by decide +kernel
theorem dX11_set_51 : decode cX11_set 51 = .ok (.ireturn, 1) := by decide +kernel
theorem dX11_set_52 : decode cX11_set 52 = .ok (.iload 4, 2) := by decide +kernel
theorem dX11_set_54 : decode cX11_set 54 = .ok (.iconst (-1), 1) := by decide +kernel
theorem dX11_set_55 : decode cX11_set 55 = .ok (.if_icmp .lt 9, 3) := by decide +kernel
theorem dX11_set_58 : decode cX11_set 58 = .ok (.iload 4, 2) := by decide +kernel
theorem dX11_set_60 : decode cX11_set 60 = .ok (.iconst 1, 1) := by decide +kernel
theorem dX11_set_61 : decode cX11_set 61 = .ok (.if_icmp .le 7, 3) := by decide +kernel
theorem dX11_set_64 : decode cX11_set 64 = .ok (.sipush (-1002), 3) := by decide +kernel
theorem dX11_set_67 : decode cX11_set 67 = .ok (.ireturn, 1) := by decide +kernel
theorem dX11_set_68 : decode cX11_set 68 = .ok (.aload_n 0, 1) := by decide +kernel
theorem dX11_set_69 : decode cX11_set 69 = .ok (.invokevirtual 101, 3) := by decide +kernel
theorem dX11_set_72 : decode cX11_set 72 = .ok (.aload_n 0, 1) := by decide +kernel
theorem dX11_set_73 : decode cX11_set 73 = .ok (.getfield 10, 3) := by decide +kernel
theorem dX11_set_76 : decode cX11_set 76 = .ok (.iload_n 1, 1) := by decide +kernel
theorem dX11_set_77 : decode cX11_set 77 = .ok (.iload_n 2, 1) := by decide +kernel
theorem dX11_set_78 : decode cX11_set 78 = .ok (.iload_n 3, 1) := by decide +kernel
theorem dX11_set_79 : decode cX11_set 79 = .ok (.invokevirtual 90, 3) := by decide +kernel
theorem dX11_set_82 : decode cX11_set 82 = .ok (.istore 5, 2) := by decide +kernel
theorem dX11_set_84 : decode cX11_set 84 = .ok (.aload_n 0, 1) := by decide +kernel
theorem dX11_set_85 : decode cX11_set 85 = .ok (.getfield 10, 3) := by decide +kernel
theorem dX11_set_88 : decode cX11_set 88 = .ok (.iload_n 1, 1) := by decide +kernel
theorem dX11_set_89 : decode cX11_set 89 = .ok (.iload_n 2, 1) := by decide +kernel
theorem dX11_set_90 : decode cX11_set 90 = .ok (.iload_n 3, 1) := by decide +kernel
theorem dX11_set_91 : decode cX11_set 91 = .ok (.iload 4, 2) := by decide +kernel
theorem dX11_set_93 : decode cX11_set 93 = .ok (.invokevirtual 104, 3) := by decide +kernel
theorem dX11_set_96 : decode cX11_set 96 = .ok (.iload 5, 2) := by decide +kernel
theorem dX11_set_98 : decode cX11_set 98 = .ok (.ireturn, 1) := by decide +kernel
theorem dX11_place_0 : decode cX11_place 0 = .ok (.aload_n 0, 1) := by decide +kernel
theorem dX11_place_1 : decode cX11_place 1 = .ok (.getfield 10, 3) := by decide +kernel
theorem dX11_place_4 : decode cX11_place 4 = .ok (.iload_n 1, 1) := by decide +kernel
theorem dX11_place_5 : decode cX11_place 5 = .ok (.invokevirtual 86, 3) := by decide +kernel
theorem dX11_place_8 : decode cX11_place 8 = .ok (.ifCond .ne 7, 3) := by decide +kernel
theorem dX11_place_11 : decode cX11_place 11 = .ok (.sipush (-1001), 3) := by decide +kernel
theorem dX11_place_14 : decode cX11_place 14 = .ok (.ireturn, 1) := by decide +kernel
theorem dX11_place_15 : decode cX11_place 15 = .ok (.iload_n 2, 1) := by decide +kernel
theorem dX11_place_16 : decode cX11_place 16 = .ok (.invokestatic 108, 3) := by decide +kernel
theorem dX11_place_19 : decode cX11_place 19 = .ok (.ifCond .ne 18, 3) := by decide +kernel
theorem dX11_place_22 : decode cX11_place 22 = .ok (.iload_n 3, 1) := by decide +kernel
theorem dX11_place_23 : decode cX11_place 23 = .ok (.invokestatic 108, 3) := by decide +kernel
theorem dX11_place_26 : decode cX11_place 26 = .ok (.ifCond .ne 11, 3) := by decide +kernel
theorem dX11_place_29 : decode cX11_place 29 = .ok (.iload 4, 2) := by decide +kernel
theorem dX11_place_31 : decode cX11_place 31 = .ok (.invokestatic 108, 3) := by decide +kernel
theorem dX11_place_34 : decode cX11_place 34 = .ok (.ifCond .eq 7, 3) := by decide +kernel
theorem dX11_place_37 : decode cX11_place 37 = .ok (.sipush (-1002), 3) := by decide +kernel
theorem dX11_place_40 : decode cX11_place 40 = .ok (.ireturn, 1) := by decide +kernel
theorem dX11_place_41 : decode cX11_place 41 = .ok (.aload_n 0, 1) := by decide +kernel
theorem dX11_place_42 : decode cX11_place 42 = .ok (.invokevirtual 101, 3) := by decide +kernel
theorem dX11_place_45 : decode cX11_place 45 = .ok (.aload_n 0, 1) := by decide +kernel
theorem dX11_place_46 : decode cX11_place 46 = .ok (.getfield 10, 3) := by decide +kernel
theorem dX11_place_49 : decode cX11_place 49 = .ok (.iload_n 1, 1) := by decide +kernel
theorem dX11_place_50 : decode cX11_place 50 = .ok (.iload_n 2, 1) := by decide +kernel
theorem dX11_place_51 : decode cX11_place 51 = .ok (.iload_n 3, 1) := by decide +kernel
theorem dX11_place_52 : decode cX11_place 52 = .ok (.iload 4, 2) := by decide +kernel
theorem dX11_place_54 : decode cX11_place 54 = .ok (.invokevirtual 111, 3) := by decide +kernel
theorem dX11_place_57 : decode cX11_place 57 = .ok (.istore 5, 2) := by decide +kernel
theorem dX11_place_59 : decode cX11_place 59 = .ok (.aload_n 0, 1) := by decide +kernel
theorem dX11_place_60 : decode cX11_place 60 = .ok (.getfield 10, 3) := by decide +kernel
theorem dX11_place_63 : decode cX11_place 63 = .ok (.iload_n 1, 1) := by decide +kernel
theorem dX11_place_64 : decode cX11_place 64 = .ok (.iload_n 2, 1) := by decide +kernel
theorem dX11_place_65 : decode cX11_place 65 = .ok (.iload_n 3, 1) := by decide +kernel
theorem dX11_place_66 : decode cX11_place 66 = .ok (.iload 4, 2) := by decide +kernel
theorem dX11_place_68 : decode cX11_place 68 = .ok (.invokevirtual 115, 3) := by decide +kernel
theorem dX11_place_71 : decode cX11_place 71 = .ok (.iload 5, 2) := by decide +kernel
theorem dX11_place_73 : decode cX11_place 73 = .ok (.ifCond .eq 7, 3) := by decide +kernel
theorem dX11_place_76 : decode cX11_place 76 = .ok (.iconst 0, 1) := by decide +kernel
theorem dX11_place_77 : decode cX11_place 77 = .ok (.goto 4, 3) := by decide +kernel
theorem dX11_place_80 : decode cX11_place 80 = .ok (.iconst 1, 1) := by decide +kernel
theorem dX11_place_81 : decode cX11_place 81 = .ok (.ireturn, 1) := by decide +kernel
theorem dX11_flip_0 : decode cX11_flip 0 = .ok (.aload_n 0, 1) := by decide +kernel
theorem dX11_flip_1 : decode cX11_flip 1 = .ok (.getfield 10, 3) := by decide +kernel
theorem dX11_flip_4 : decode cX11_flip 4 = .ok (.iload_n 1, 1) := by decide +kernel
theorem dX11_flip_5 : decode cX11_flip 5 = .ok (.invokevirtual 86, 3) := by decide +kernel
theorem dX11_flip_8 : decode cX11_flip 8 = .ok (.ifCond .ne 7, 3) := by decide +kernel
theorem dX11_flip_11 : decode cX11_flip 11 = .ok (.sipush (-1001), 3) := by decide +kernel
theorem dX11_flip_14 : decode cX11_flip 14 = .ok (.ireturn, 1) := by decide +kernel
theorem dX11_flip_15 : decode cX11_flip 15 = .ok (.aload_n 0, 1) := by decide +kernel
theorem dX11_flip_16 : decode cX11_flip 16 = .ok (.invokevirtual 101, 3) := by decide +kernel
theorem dX11_flip_19 : decode cX11_flip 19 = .ok (.aload_n 0, 1) := by decide +kernel
theorem dX11_flip_20 : decode cX11_flip 20 = .ok (.getfield 10, 3) := by decide +kernel
theorem dX11_flip_23 : decode cX11_flip 23 = .ok (.iload_n 1, 1) := by decide +kernel
theorem dX11_flip_24 : decode cX11_flip 24 = .ok (.invokevirtual 118, 3) := by decide +kernel
theorem dX11_flip_27 : decode cX11_flip 27 = .ok (.ireturn, 1) := by decide +kernel
theorem dX11_swap_0 : decode cX11_swap 0 = .ok (.aload_n 0, 1) := by decide +kernel
theorem dX11_swap_1 : decode cX11_swap 1 = .ok (.getfield 10, 3) := by decide +kernel
theorem dX11_swap_4 : decode cX11_swap 4 = .ok (.iload_n 1, 1) := by decide +kernel
theorem dX11_swap_5 : decode cX11_swap 5 = .ok (.invokevirtual 86, 3) := by decide +kernel
theorem dX11_swap_8 : decode cX11_swap 8 = .ok (.ifCond .eq 19, 3) := by decide +kernel
theorem dX11_swap_11 : decode cX11_swap 11 = .ok (.aload_n 0, 1) := by decide +kernel
theorem dX11_swap_12 : decode cX11_swap 12 = .ok (.getfield 10, 3) := by decide +kernel
theorem dX11_swap_15 : decode cX11_swap 15 = .ok (.iload_n 2, 1) := by decide +kernel
theorem dX11_swap_16 : decode cX11_swap 16 = .ok (.invokevirtual 86, 3) := by decide +kernel
theorem dX11_swap_19 : decode cX11_swap 19 = .ok (.ifCond .eq 8, 3) := by decide +kernel
theorem dX11_swap_22 : decode cX11_swap 22 = .ok (.iload_n 1, 1) := by decide +kernel
theorem dX11_swap_23 : decode cX11_swap 23 = .ok (.iload_n 2, 1) := by decide +kernel
theorem dX11_swap_24 : decode cX11_swap 24 = .ok (.if_icmp .ne 7, 3) := by decide +kernel
theorem dX11_swap_27 : decode cX11_swap 27 = .ok (.sipush (-1001), 3) := by decide +kernel
theorem dX11_swap_30 : decode cX11_swap 30 = .ok (.ireturn, 1) := by decide +kernel
theorem dX11_swap_31 : decode cX11_swap 31 = .ok (.aload_n 0, 1) := by decide +kernel
theorem dX11_swap_32 : decode cX11_swap 32 = .ok (.invokevirtual 101, 3) := by decide +kernel
theorem dX11_swap_35 : decode cX11_swap 35 = .ok (.aload_n 0, 1) := by decide +kernel
theorem dX11_swap_36 : decode cX11_swap 36 = .ok (.getfield 10, 3) := by decide +kernel
theorem dX11_swap_39 : decode cX11_swap 39 = .ok (.iload_n 1, 1) := by decide +kernel
theorem dX11_swap_40 : decode cX11_swap 40 = .ok (.iload_n 2, 1) := by decide +kernel
theorem dX11_swap_41 : decode cX11_swap 41 = .ok (.invokevirtual 122, 3) := by decide +kernel
theorem dX11_swap_44 : decode cX11_swap 44 = .ok (.ireturn, 1) := by decide +kernel
theorem dX11_add_0 : decode cX11_add 0 = .ok (.iload_n 1, 1) := by decide +kernel
theorem dX11_add_1 : decode cX11_add 1 = .ok (.invokestatic 108, 3) := by decide +kernel
theorem dX11_add_4 : decode cX11_add 4 = .ok (.ifCond .ne 17, 3) := by decide +kernel
theorem dX11_add_7 : decode cX11_add 7 = .ok (.iload_n 2, 1) := by decide +kernel
theorem dX11_add_8 : decode cX11_add 8 = .ok (.invokestatic 108, 3) := by decide +kernel
theorem dX11_add_11 : decode cX11_add 11 = .ok (.ifCond .ne 10, 3) := by decide +kernel
theorem dX11_add_14 : decode cX11_add 14 = .ok (.iload_n 3, 1) := by decide +kernel
theorem dX11_add_15 : decode cX11_add 15 = .ok (.invokestatic 108, 3) := by decide +kernel
theorem dX11_add_18 : decode cX11_add 18 = .ok (.ifCond .eq 7, 3) := by decide +kernel
theorem dX11_add_21 : decode cX11_add 21 = .ok (.sipush (-1002), 3) := by decide +kernel
theorem dX11_add_24 : decode cX11_add 24 = .ok (.ireturn, 1) := by decide +kernel
theorem dX11_add_25 : decode cX11_add 25 = .ok (.aload_n 0, 1) := by decide +kernel
theorem dX11_add_26 : decode cX11_add 26 = .ok (.getfield 10, 3) := by decide +kernel
theorem dX11_add_29 : decode cX11_add 29 = .ok (.invokevirtual 125, 3) := by decide +kernel
theorem dX11_add_32 : decode cX11_add 32 = .ok (.bipush 6, 2) := by decide +kernel
theorem dX11_add_34 : decode cX11_add 34 = .ok (.if_icmp .lt 7, 3) := by decide +kernel
theorem dX11_add_37 : decode cX11_add 37 = .ok (.sipush (-1004), 3) := by decide +kernel
theorem dX11_add_40 : decode cX11_add 40 = .ok (.ireturn, 1) := by decide +kernel
theorem dX11_add_41 : decode cX11_add 41 = .ok (.aload_n 0, 1) := by decide +kernel
theorem dX11_add_42 : decode cX11_add 42 = .ok (.invokevirtual 101, 3) := by decide +kernel
theorem dX11_add_45 : decode cX11_add 45 = .ok (.aload_n 0, 1) := by decide +kernel
theorem dX11_add_46 : decode cX11_add 46 = .ok (.getfield 10, 3) := by decide +kernel
theorem dX11_add_49 : decode cX11_add 49 = .ok (.iload_n 1, 1) := by decide +kernel
theorem dX11_add_50 : decode cX11_add 50 = .ok (.iload_n 2, 1) := by decide +kernel
theorem dX11_add_51 : decode cX11_add 51 = .ok (.iload_n 3, 1) := by decide +kernel
theorem dX11_add_52 : decode cX11_add 52 = .ok (.invokevirtual 128, 3) := by decide +kernel
theorem dX11_add_55 : decode cX11_add 55 = .ok (.aload_n 0, 1) := by decide +kernel
theorem dX11_add_56 : decode cX11_add 56 = .ok (.getfield 10, 3) := by decide +kernel
theorem dX11_add_59 : decode cX11_add 59 = .ok (.invokevirtual 125, 3) := by decide +kernel
theorem dX11_add_62 : decode cX11_add 62 = .ok (.ireturn, 1) := by decide +kernel
theorem dX11_drop_0 : decode cX11_drop 0 = .ok (.aload_n 0, 1) := by decide +kernel
theorem dX11_drop_1 : decode cX11_drop 1 = .ok (.getfield 10, 3) := by decide +kernel
theorem dX11_drop_4 : decode cX11_drop 4 = .ok (.iload_n 1, 1) := by decide +kernel
theorem dX11_drop_5 : decode cX11_drop 5 = .ok (.invokevirtual 86, 3) := by decide +kernel
theorem dX11_drop_8 : decode cX11_drop 8 = .ok (.ifCond .ne 7, 3) := by decide +kernel
theorem dX11_drop_11 : decode cX11_drop 11 = .ok (.sipush (-1001), 3) := by decide +kernel
theorem dX11_drop_14 : decode cX11_drop 14 = .ok (.ireturn, 1) := by decide +kernel
theorem dX11_drop_15 : decode cX11_drop 15 = .ok (.aload_n 0, 1) := by decide +kernel
theorem dX11_drop_16 : decode cX11_drop 16 = .ok (.getfield 10, 3) := by decide +kernel
theorem dX11_drop_19 : decode cX11_drop 19 = .ok (.invokevirtual 125, 3) := by decide +kernel
theorem dX11_drop_22 : decode cX11_drop 22 = .ok (.iconst 3, 1) := by decide +kernel
theorem dX11_drop_23 : decode cX11_drop 23 = .ok (.if_icmp .gt 7, 3) := by decide +kernel
theorem dX11_drop_26 : decode cX11_drop 26 = .ok (.sipush (-1003), 3) := by decide +kernel
theorem dX11_drop_29 : decode cX11_drop 29 = .ok (.ireturn, 1) := by decide +kernel
theorem dX11_drop_30 : decode cX11_drop 30 = .ok (.aload_n 0, 1) := by decide +kernel
theorem dX11_drop_31 : decode cX11_drop 31 = .ok (.invokevirtual 101, 3) := by decide +kernel
theorem dX11_drop_34 : decode cX11_drop 34 = .ok (.aload_n 0, 1) := by decide +kernel
theorem dX11_drop_35 : decode cX11_drop 35 = .ok (.getfield 10, 3) := by decide +kernel
theorem dX11_drop_38 : decode cX11_drop 38 = .ok (.iload_n 1, 1) := by decide +kernel
theorem dX11_drop_39 : decode cX11_drop 39 = .ok (.invokevirtual 131, 3) := by decide +kernel
theorem dX11_drop_42 : decode cX11_drop 42 = .ok (.aload_n 0, 1) := by decide +kernel
theorem dX11_drop_43 : decode cX11_drop 43 = .ok (.getfield 10, 3) := by decide +kernel
theorem dX11_drop_46 : decode cX11_drop 46 = .ok (.invokevirtual 125, 3) := by decide +kernel
theorem dX11_drop_49 : decode cX11_drop 49 = .ok (.ireturn, 1) := by decide +kernel
theorem dX11_draw_0 : decode cX11_draw 0 = .ok (.aload_n 0, 1) := by decide +kernel
theorem dX11_draw_1 : decode cX11_draw 1 = .ok (.invokevirtual 101, 3) := by decide +kernel
theorem dX11_draw_4 : decode cX11_draw 4 = .ok (.aload_n 0, 1) := by decide +kernel
theorem dX11_draw_5 : decode cX11_draw 5 = .ok (.getfield 10, 3) := by decide +kernel
theorem dX11_draw_8 : decode cX11_draw 8 = .ok (.invokevirtual 134, 3) := by decide +kernel
theorem dX11_draw_11 : decode cX11_draw 11 = .ok (.ireturn, 1) := by decide +kernel
theorem dX11_undo_0 : decode cX11_undo 0 = .ok (.aload_n 0, 1) := by decide +kernel
theorem dX11_undo_1 : decode cX11_undo 1 = .ok (.getfield 22, 3) := by decide +kernel
theorem dX11_undo_4 : decode cX11_undo 4 = .ok (.invokevirtual 137, 3) := by decide +kernel
theorem dX11_undo_7 : decode cX11_undo 7 = .ok (.ifCond .ne 7, 3) := by decide +kernel
theorem dX11_undo_10 : decode cX11_undo 10 = .ok (.sipush (-1003), 3) := by decide +kernel
theorem dX11_undo_13 : decode cX11_undo 13 = .ok (.ireturn, 1) := by decide +kernel
theorem dX11_undo_14 : decode cX11_undo 14 = .ok (.aload_n 0, 1) := by decide +kernel
theorem dX11_undo_15 : decode cX11_undo 15 = .ok (.getfield 22, 3) := by decide +kernel
theorem dX11_undo_18 : decode cX11_undo 18 = .ok (.aload_n 0, 1) := by decide +kernel
theorem dX11_undo_19 : decode cX11_undo 19 = .ok (.getfield 10, 3) := by decide +kernel
theorem dX11_undo_22 : decode cX11_undo 22 = .ok (.invokevirtual 138, 3) := by decide +kernel
theorem dX11_undo_25 : decode cX11_undo 25 = .ok (.aload_n 0, 1) := by decide +kernel
theorem dX11_undo_26 : decode cX11_undo 26 = .ok (.getfield 46, 3) := by decide +kernel
theorem dX11_undo_29 : decode cX11_undo 29 = .ok (.invokevirtual 80, 3) := by decide +kernel
theorem dX11_undo_32 : decode cX11_undo 32 = .ok (.aload_n 0, 1) := by decide +kernel
theorem dX11_undo_33 : decode cX11_undo 33 = .ok (.getfield 22, 3) := by decide +kernel
theorem dX11_undo_36 : decode cX11_undo 36 = .ok (.invokevirtual 137, 3) := by decide +kernel
theorem dX11_undo_39 : decode cX11_undo 39 = .ok (.ireturn, 1) := by decide +kernel
theorem dX11_keep_0 : decode cX11_keep 0 = .ok (.iload_n 1, 1) := by decide +kernel
theorem dX11_keep_1 : decode cX11_keep 1 = .ok (.ifCond .lt 8, 3) := by decide +kernel
theorem dX11_keep_4 : decode cX11_keep 4 = .ok (.iload_n 1, 1) := by decide +kernel
theorem dX11_keep_5 : decode cX11_keep 5 = .ok (.iconst 2, 1) := by decide +kernel
theorem dX11_keep_6 : decode cX11_keep 6 = .ok (.if_icmp .lt 7, 3) := by decide +kernel
theorem dX11_keep_9 : decode cX11_keep 9 = .ok (.sipush (-1002), 3) := by decide +kernel
theorem dX11_keep_12 : decode cX11_keep 12 = .ok (.ireturn, 1) := by decide +kernel
theorem dX11_keep_13 : decode cX11_keep 13 = .ok (.aload_n 0, 1) := by decide +kernel
theorem dX11_keep_14 : decode cX11_keep 14 = .ok (.getfield 26, 3) := by decide +kernel
theorem dX11_keep_17 : decode cX11_keep 17 = .ok (.iload_n 1, 1) := by decide +kernel
theorem dX11_keep_18 : decode cX11_keep 18 = .ok (.aaload, 1) := by decide +kernel
theorem dX11_keep_19 : decode cX11_keep 19 = .ok (.aload_n 0, 1) := by decide +kernel
theorem dX11_keep_20 : decode cX11_keep 20 = .ok (.getfield 10, 3) := by decide +kernel
theorem dX11_keep_23 : decode cX11_keep 23 = .ok (.invokevirtual 72, 3) := by decide +kernel
theorem dX11_keep_26 : decode cX11_keep 26 = .ok (.aload_n 0, 1) := by decide +kernel
theorem dX11_keep_27 : decode cX11_keep 27 = .ok (.getfield 30, 3) := by decide +kernel
theorem dX11_keep_30 : decode cX11_keep 30 = .ok (.iload_n 1, 1) := by decide +kernel
theorem dX11_keep_31 : decode cX11_keep 31 = .ok (.iconst 1, 1) := by decide +kernel
theorem dX11_keep_32 : decode cX11_keep 32 = .ok (.bastore, 1) := by decide +kernel
theorem dX11_keep_33 : decode cX11_keep 33 = .ok (.aload_n 0, 1) := by decide +kernel
theorem dX11_keep_34 : decode cX11_keep 34 = .ok (.getfield 10, 3) := by decide +kernel
theorem dX11_keep_37 : decode cX11_keep 37 = .ok (.invokevirtual 125, 3) := by decide +kernel
theorem dX11_keep_40 : decode cX11_keep 40 = .ok (.ireturn, 1) := by decide +kernel
theorem dX11_back_0 : decode cX11_back 0 = .ok (.iload_n 1, 1) := by decide +kernel
theorem dX11_back_1 : decode cX11_back 1 = .ok (.ifCond .lt 8, 3) := by decide +kernel
theorem dX11_back_4 : decode cX11_back 4 = .ok (.iload_n 1, 1) := by decide +kernel
theorem dX11_back_5 : decode cX11_back 5 = .ok (.iconst 2, 1) := by decide +kernel
theorem dX11_back_6 : decode cX11_back 6 = .ok (.if_icmp .lt 7, 3) := by decide +kernel
theorem dX11_back_9 : decode cX11_back 9 = .ok (.sipush (-1002), 3) := by decide +kernel
theorem dX11_back_12 : decode cX11_back 12 = .ok (.ireturn, 1) := by decide +kernel
theorem dX11_back_13 : decode cX11_back 13 = .ok (.aload_n 0, 1) := by decide +kernel
theorem dX11_back_14 : decode cX11_back 14 = .ok (.getfield 30, 3) := by decide +kernel
theorem dX11_back_17 : decode cX11_back 17 = .ok (.iload_n 1, 1) := by decide +kernel
theorem dX11_back_18 : decode cX11_back 18 = .ok (.baload, 1) := by decide +kernel
theorem dX11_back_19 : decode cX11_back 19 = .ok (.ifCond .ne 7, 3) := by decide +kernel
theorem dX11_back_22 : decode cX11_back 22 = .ok (.sipush (-1003), 3) := by decide +kernel
theorem dX11_back_25 : decode cX11_back 25 = .ok (.ireturn, 1) := by decide +kernel
theorem dX11_back_26 : decode cX11_back 26 = .ok (.aload_n 0, 1) := by decide +kernel
theorem dX11_back_27 : decode cX11_back 27 = .ok (.getfield 10, 3) := by decide +kernel
theorem dX11_back_30 : decode cX11_back 30 = .ok (.aload_n 0, 1) := by decide +kernel
theorem dX11_back_31 : decode cX11_back 31 = .ok (.getfield 26, 3) := by decide +kernel
theorem dX11_back_34 : decode cX11_back 34 = .ok (.iload_n 1, 1) := by decide +kernel
theorem dX11_back_35 : decode cX11_back 35 = .ok (.aaload, 1) := by decide +kernel
theorem dX11_back_36 : decode cX11_back 36 = .ok (.invokevirtual 72, 3) := by decide +kernel
theorem dX11_back_39 : decode cX11_back 39 = .ok (.aload_n 0, 1) := by decide +kernel
theorem dX11_back_40 : decode cX11_back 40 = .ok (.getfield 22, 3) := by decide +kernel
theorem dX11_back_43 : decode cX11_back 43 = .ok (.invokevirtual 79, 3) := by decide +kernel
theorem dX11_back_46 : decode cX11_back 46 = .ok (.aload_n 0, 1) := by decide +kernel
theorem dX11_back_47 : decode cX11_back 47 = .ok (.getfield 46, 3) := by decide +kernel
theorem dX11_back_50 : decode cX11_back 50 = .ok (.invokevirtual 80, 3) := by decide +kernel
theorem dX11_back_53 : decode cX11_back 53 = .ok (.aload_n 0, 1) := by decide +kernel
theorem dX11_back_54 : decode cX11_back 54 = .ok (.getfield 10, 3) := by decide +kernel
theorem dX11_back_57 : decode cX11_back 57 = .ok (.invokevirtual 125, 3) := by decide +kernel
theorem dX11_back_60 : decode cX11_back 60 = .ok (.ireturn, 1) := by decide +kernel
theorem dX11_five_0 : decode cX11_five 0 = .ok (.aload_n 0, 1) := by decide +kernel
theorem dX11_five_1 : decode cX11_five 1 = .ok (.getfield 10, 3) := by decide +kernel
theorem dX11_five_4 : decode cX11_five 4 = .ok (.iload_n 1, 1) := by decide +kernel
theorem dX11_five_5 : decode cX11_five 5 = .ok (.invokevirtual 86, 3) := by decide +kernel
theorem dX11_five_8 : decode cX11_five 8 = .ok (.ifCond .eq 53, 3) := by decide +kernel
theorem dX11_five_11 : decode cX11_five 11 = .ok (.aload_n 0, 1) := by decide +kernel
theorem dX11_five_12 : decode cX11_five 12 = .ok (.getfield 10, 3) := by decide +kernel
theorem dX11_five_15 : decode cX11_five 15 = .ok (.iload_n 2, 1) := by decide +kernel
theorem dX11_five_16 : decode cX11_five 16 = .ok (.invokevirtual 86, 3) := by decide +kernel
theorem dX11_five_19 : decode cX11_five 19 = .ok (.ifCond .eq 42, 3) := by decide +kernel
theorem dX11_five_22 : decode cX11_five 22 = .ok (.aload_n 0, 1) := by decide +kernel
theorem dX11_five_23 : decode cX11_five 23 = .ok (.getfield 10, 3) := by decide +kernel
theorem dX11_five_26 : decode cX11_five 26 = .ok (.iload_n 3, 1) := by decide +kernel
theorem dX11_five_27 : decode cX11_five 27 = .ok (.invokevirtual 86, 3) := by decide +kernel
theorem dX11_five_30 : decode cX11_five 30 = .ok (.ifCond .eq 31, 3) := by decide +kernel
theorem dX11_five_33 : decode cX11_five 33 = .ok (.aload_n 0, 1) := by decide +kernel
theorem dX11_five_34 : decode cX11_five 34 = .ok (.getfield 10, 3) := by decide +kernel
theorem dX11_five_37 : decode cX11_five 37 = .ok (.iload 4, 2) := by decide +kernel
theorem dX11_five_39 : decode cX11_five 39 = .ok (.invokevirtual 86, 3) := by decide +kernel
theorem dX11_five_42 : decode cX11_five 42 = .ok (.ifCond .eq 19, 3) := by decide +kernel
theorem dX11_five_45 : decode cX11_five 45 = .ok (.aload_n 0, 1) := by decide +kernel
theorem dX11_five_46 : decode cX11_five 46 = .ok (.getfield 10, 3) := by decide +kernel
theorem dX11_five_49 : decode cX11_five 49 = .ok (.iload 5, 2) := by decide +kernel
theorem dX11_five_51 : decode cX11_five 51 = .ok (.invokevirtual 86, 3) := by decide +kernel
theorem dX11_five_54 : decode cX11_five 54 = .ok (.ifCond .eq 7, 3) := by decide +kernel
theorem dX11_five_57 : decode cX11_five 57 = .ok (.iconst 1, 1) := by decide +kernel
theorem dX11_five_58 : decode cX11_five 58 = .ok (.goto 4, 3) := by decide +kernel
theorem dX11_five_61 : decode cX11_five 61 = .ok (.iconst 0, 1) := by decide +kernel
theorem dX11_five_62 : decode cX11_five 62 = .ok (.istore 6, 2) := by decide +kernel
theorem dX11_five_64 : decode cX11_five 64 = .ok (.iload 6, 2) := by decide +kernel
theorem dX11_five_66 : decode cX11_five 66 = .ok (.ifCond .eq 16, 3) := by decide +kernel
theorem dX11_five_69 : decode cX11_five 69 = .ok (.iload_n 1, 1) := by decide +kernel
theorem dX11_five_70 : decode cX11_five 70 = .ok (.iload_n 2, 1) := by decide +kernel
theorem dX11_five_71 : decode cX11_five 71 = .ok (.iload_n 3, 1) := by decide +kernel
theorem dX11_five_72 : decode cX11_five 72 = .ok (.iload 4, 2) := by decide +kernel
theorem dX11_five_74 : decode cX11_five 74 = .ok (.iload 5, 2) := by decide +kernel
theorem dX11_five_76 : decode cX11_five 76 = .ok (.invokestatic 141, 3) := by decide +kernel
theorem dX11_five_79 : decode cX11_five 79 = .ok (.ifCond .ne 7, 3) := by decide +kernel
theorem dX11_five_82 : decode cX11_five 82 = .ok (.sipush (-1001), 3) := by decide +kernel
theorem dX11_five_85 : decode cX11_five 85 = .ok (.ireturn, 1) := by decide +kernel
theorem dX11_five_86 : decode cX11_five 86 = .ok (.aload_n 0, 1) := by decide +kernel
theorem dX11_five_87 : decode cX11_five 87 = .ok (.getfield 10, 3) := by decide +kernel
theorem dX11_five_90 : decode cX11_five 90 = .ok (.iload_n 1, 1) := by decide +kernel
theorem dX11_five_91 : decode cX11_five 91 = .ok (.iload_n 2, 1) := by decide +kernel
theorem dX11_five_92 : decode cX11_five 92 = .ok (.iload_n 3, 1) := by decide +kernel
theorem dX11_five_93 : decode cX11_five 93 = .ok (.iload 4, 2) := by decide +kernel
theorem dX11_five_95 : decode cX11_five 95 = .ok (.iload 5, 2) := by decide +kernel
theorem dX11_five_97 : decode cX11_five 97 = .ok (.invokestatic 145, 3) := by decide +kernel
theorem dX11_five_100 : decode cX11_five 100 = .ok (.ifCond .eq 7, 3) := by decide +kernel
theorem dX11_five_103 : decode cX11_five 103 = .ok (.iconst 1, 1) := by decide +kernel
theorem dX11_five_104 : decode cX11_five 104 = .ok (.goto 4, 3) := by decide +kernel
theorem dX11_five_107 : decode cX11_five 107 = .ok (.iconst 0, 1) := by decide +kernel
theorem dX11_five_108 : decode cX11_five 108 = .ok (.ireturn, 1) := by decide +kernel
theorem dX11_is_0 : decode cX11_is 0 = .ok (.iload_n 1, 1) := by decide +kernel
theorem dX11_is_1 : decode cX11_is 1 = .ok (.tableswitch 102 0 3 #[31, 47, 63, 79], 31) := by decide +kernel
theorem dX11_is_32 : decode cX11_is 32 = .ok (.aload_n 0, 1) := by decide +kernel
theorem dX11_is_33 : decode cX11_is 33 = .ok (.getfield 46, 3) := by decide +kernel
theorem dX11_is_36 : decode cX11_is 36 = .ok (.invokevirtual 151, 3) := by decide +kernel
theorem dX11_is_39 : decode cX11_is 39 = .ok (.ifCond .eq 7, 3) := by decide +kernel
theorem dX11_is_42 : decode cX11_is 42 = .ok (.iconst 1, 1) := by decide +kernel
theorem dX11_is_43 : decode cX11_is 43 = .ok (.goto 4, 3) := by decide +kernel
theorem dX11_is_46 : decode cX11_is 46 = .ok (.iconst 0, 1) := by decide +kernel
theorem dX11_is_47 : decode cX11_is 47 = .ok (.ireturn, 1) := by decide +kernel
theorem dX11_is_48 : decode cX11_is 48 = .ok (.aload_n 0, 1) := by decide +kernel
theorem dX11_is_49 : decode cX11_is 49 = .ok (.getfield 46, 3) := by decide +kernel
theorem dX11_is_52 : decode cX11_is 52 = .ok (.invokevirtual 154, 3) := by decide +kernel
theorem dX11_is_55 : decode cX11_is 55 = .ok (.ifCond .eq 7, 3) := by decide +kernel
theorem dX11_is_58 : decode cX11_is 58 = .ok (.iconst 1, 1) := by decide +kernel
theorem dX11_is_59 : decode cX11_is 59 = .ok (.goto 4, 3) := by decide +kernel
theorem dX11_is_62 : decode cX11_is 62 = .ok (.iconst 0, 1) := by decide +kernel
theorem dX11_is_63 : decode cX11_is 63 = .ok (.ireturn, 1) := by decide +kernel
theorem dX11_is_64 : decode cX11_is 64 = .ok (.aload_n 0, 1) := by decide +kernel
theorem dX11_is_65 : decode cX11_is 65 = .ok (.getfield 10, 3) := by decide +kernel
theorem dX11_is_68 : decode cX11_is 68 = .ok (.invokevirtual 157, 3) := by decide +kernel
theorem dX11_is_71 : decode cX11_is 71 = .ok (.ifCond .eq 7, 3) := by decide +kernel
theorem dX11_is_74 : decode cX11_is 74 = .ok (.iconst 1, 1) := by decide +kernel
theorem dX11_is_75 : decode cX11_is 75 = .ok (.goto 4, 3) := by decide +kernel
theorem dX11_is_78 : decode cX11_is 78 = .ok (.iconst 0, 1) := by decide +kernel
theorem dX11_is_79 : decode cX11_is 79 = .ok (.ireturn, 1) := by decide +kernel
theorem dX11_is_80 : decode cX11_is 80 = .ok (.aload_n 0, 1) := by decide +kernel
theorem dX11_is_81 : decode cX11_is 81 = .ok (.getfield 10, 3) := by decide +kernel
theorem dX11_is_84 : decode cX11_is 84 = .ok (.invokevirtual 160, 3) := by decide +kernel
theorem dX11_is_87 : decode cX11_is 87 = .ok (.aload_n 0, 1) := by decide +kernel
theorem dX11_is_88 : decode cX11_is 88 = .ok (.getfield 10, 3) := by decide +kernel
theorem dX11_is_91 : decode cX11_is 91 = .ok (.invokevirtual 163, 3) := by decide +kernel
theorem dX11_is_94 : decode cX11_is 94 = .ok (.if_icmp .ne 7, 3) := by decide +kernel
theorem dX11_is_97 : decode cX11_is 97 = .ok (.iconst 1, 1) := by decide +kernel
theorem dX11_is_98 : decode cX11_is 98 = .ok (.goto 4, 3) := by decide +kernel
theorem dX11_is_101 : decode cX11_is 101 = .ok (.iconst 0, 1) := by decide +kernel
theorem dX11_is_102 : decode cX11_is 102 = .ok (.ireturn, 1) := by decide +kernel
theorem dX11_is_103 : decode cX11_is 103 = .ok (.sipush (-1002), 3) := by decide +kernel
theorem dX11_is_106 : decode cX11_is 106 = .ok (.ireturn, 1) := by decide +kernel
theorem dX11_vector_0 : decode cX11_vector 0 = .ok (.iload_n 1, 1) := by decide +kernel
theorem dX11_vector_1 : decode cX11_vector 1 = .ok (.invokestatic 166, 3) := by decide +kernel
theorem dX11_vector_4 : decode cX11_vector 4 = .ok (.ifCond .eq 8, 3) := by decide +kernel
theorem dX11_vector_7 : decode cX11_vector 7 = .ok (.iload_n 2, 1) := by decide +kernel
theorem dX11_vector_8 : decode cX11_vector 8 = .ok (.iconst (-1), 1) := by decide +kernel
theorem dX11_vector_9 : decode cX11_vector 9 = .ok (.if_icmp .ge 7, 3) := by decide +kernel
theorem dX11_vector_12 : decode cX11_vector 12 = .ok (.sipush (-1002), 3) := by decide +kernel
theorem dX11_vector_15 : decode cX11_vector 15 = .ok (.ireturn, 1) := by decide +kernel
theorem dX11_vector_16 : decode cX11_vector 16 = .ok (.aload_n 0, 1) := by decide +kernel
theorem dX11_vector_17 : decode cX11_vector 17 = .ok (.getfield 46, 3) := by decide +kernel
theorem dX11_vector_20 : decode cX11_vector 20 = .ok (.iload_n 1, 1) := by decide +kernel
theorem dX11_vector_21 : decode cX11_vector 21 = .ok (.invokevirtual 169, 3) := by decide +kernel
theorem dX11_vector_24 : decode cX11_vector 24 = .ok (.ifCond .ne 7, 3) := by decide +kernel
theorem dX11_vector_27 : decode cX11_vector 27 = .ok (.sipush (-1003), 3) := by decide +kernel
theorem dX11_vector_30 : decode cX11_vector 30 = .ok (.ireturn, 1) := by decide +kernel
theorem dX11_vector_31 : decode cX11_vector 31 = .ok (.aload_n 0, 1) := by decide +kernel
theorem dX11_vector_32 : decode cX11_vector 32 = .ok (.getfield 46, 3) := by decide +kernel
theorem dX11_vector_35 : decode cX11_vector 35 = .ok (.iload_n 1, 1) := by decide +kernel
theorem dX11_vector_36 : decode cX11_vector 36 = .ok (.invokevirtual 172, 3) := by decide +kernel
theorem dX11_vector_39 : decode cX11_vector 39 = .ok (.astore 4, 2) := by decide +kernel
theorem dX11_vector_41 : decode cX11_vector 41 = .ok (.iload_n 2, 1) := by decide +kernel
theorem dX11_vector_42 : decode cX11_vector 42 = .ok (.iconst (-1), 1) := by decide +kernel
theorem dX11_vector_43 : decode cX11_vector 43 = .ok (.if_icmp .ne 9, 3) := by decide +kernel
theorem dX11_vector_46 : decode cX11_vector 46 = .ok (.aload 4, 2) := by decide +kernel
theorem dX11_vector_48 : decode cX11_vector 48 = .ok (.invokevirtual 176, 3) := by decide +kernel
theorem dX11_vector_51 : decode cX11_vector 51 = .ok (.ireturn, 1) := by decide +kernel
theorem dX11_vector_52 : decode cX11_vector 52 = .ok (.aload 4, 2) := by decide +kernel
theorem dX11_vector_54 : decode cX11_vector 54 = .ok (.iload_n 2, 1) := by decide +kernel
theorem dX11_vector_55 : decode cX11_vector 55 = .ok (.invokevirtual 179, 3) := by decide +kernel
theorem dX11_vector_58 : decode cX11_vector 58 = .ok (.ifCond .eq 14, 3) := by decide +kernel
theorem dX11_vector_61 : decode cX11_vector 61 = .ok (.aload_n 0, 1) := by decide +kernel
theorem dX11_vector_62 : decode cX11_vector 62 = .ok (.getfield 10, 3) := by decide +kernel
theorem dX11_vector_65 : decode cX11_vector 65 = .ok (.iload_n 3, 1) := by decide +kernel
theorem dX11_vector_66 : decode cX11_vector 66 = .ok (.invokevirtual 86, 3) := by decide +kernel
theorem dX11_vector_69 : decode cX11_vector 69 = .ok (.ifCond .ne 7, 3) := by decide +kernel
theorem dX11_vector_72 : decode cX11_vector 72 = .ok (.sipush (-1001), 3) := by decide +kernel
theorem dX11_vector_75 : decode cX11_vector 75 = .ok (.ireturn, 1) := by decide +kernel
theorem dX11_vector_76 : decode cX11_vector 76 = .ok (.aload 4, 2) := by decide +kernel
theorem dX11_vector_78 : decode cX11_vector 78 = .ok (.iload_n 2, 1) := by decide +kernel
theorem dX11_vector_79 : decode cX11_vector 79 = .ok (.invokevirtual 180, 3) := by decide +kernel
theorem dX11_vector_82 : decode cX11_vector 82 = .ok (.aload_n 0, 1) := by decide +kernel
theorem dX11_vector_83 : decode cX11_vector 83 = .ok (.getfield 10, 3) := by decide +kernel
theorem dX11_vector_86 : decode cX11_vector 86 = .ok (.invokevirtual 125, 3) := by decide +kernel
theorem dX11_vector_89 : decode cX11_vector 89 = .ok (.iload_n 3, 1) := by decide +kernel
theorem dX11_vector_90 : decode cX11_vector 90 = .ok (.invokestatic 183, 3) := by decide +kernel
theorem dX11_vector_93 : decode cX11_vector 93 = .ok (.ireturn, 1) := by decide +kernel
theorem dX11_beside_0 : decode cX11_beside 0 = .ok (.aload_n 0, 1) := by decide +kernel
theorem dX11_beside_1 : decode cX11_beside 1 = .ok (.getfield 46, 3) := by decide +kernel
theorem dX11_beside_4 : decode cX11_beside 4 = .ok (.invokevirtual 154, 3) := by decide +kernel
theorem dX11_beside_7 : decode cX11_beside 7 = .ok (.ifCond .ne 7, 3) := by decide +kernel
theorem dX11_beside_10 : decode cX11_beside 10 = .ok (.sipush (-1003), 3) := by decide +kernel
theorem dX11_beside_13 : decode cX11_beside 13 = .ok (.ireturn, 1) := by decide +kernel
theorem dX11_beside_14 : decode cX11_beside 14 = .ok (.aload_n 0, 1) := by decide +kernel
theorem dX11_beside_15 : decode cX11_beside 15 = .ok (.getfield 46, 3) := by decide +kernel
theorem dX11_beside_18 : decode cX11_beside 18 = .ok (.iconst 3, 1) := by decide +kernel
theorem dX11_beside_19 : decode cX11_beside 19 = .ok (.invokevirtual 172, 3) := by decide +kernel
theorem dX11_beside_22 : decode cX11_beside 22 = .ok (.iload_n 1, 1) := by decide +kernel
theorem dX11_beside_23 : decode cX11_beside 23 = .ok (.invokevirtual 179, 3) := by decide +kernel
theorem dX11_beside_26 : decode cX11_beside 26 = .ok (.ifCond .ne 7, 3) := by decide +kernel
theorem dX11_beside_29 : decode cX11_beside 29 = .ok (.sipush (-1001), 3) := by decide +kernel
theorem dX11_beside_32 : decode cX11_beside 32 = .ok (.ireturn, 1) := by decide +kernel
theorem dX11_beside_33 : decode cX11_beside 33 = .ok (.aload_n 0, 1) := by decide +kernel
theorem dX11_beside_34 : decode cX11_beside 34 = .ok (.getfield 46, 3) := by decide +kernel
theorem dX11_beside_37 : decode cX11_beside 37 = .ok (.invokevirtual 188, 3) := by decide +kernel
theorem dX11_beside_40 : decode cX11_beside 40 = .ok (.iload_n 1, 1) := by decide +kernel
theorem dX11_beside_41 : decode cX11_beside 41 = .ok (.invokevirtual 192, 3) := by decide +kernel
theorem dX11_beside_44 : decode cX11_beside 44 = .ok (.ireturn, 1) := by decide +kernel
theorem dX11_between_0 : decode cX11_between 0 = .ok (.iload_n 3, 1) := by decide +kernel
theorem dX11_between_1 : decode cX11_between 1 = .ok (.ifCond .lt 8, 3) := by decide +kernel
theorem dX11_between_4 : decode cX11_between 4 = .ok (.iload_n 3, 1) := by decide +kernel
theorem dX11_between_5 : decode cX11_between 5 = .ok (.iconst 2, 1) := by decide +kernel
theorem dX11_between_6 : decode cX11_between 6 = .ok (.if_icmp .le 7, 3) := by decide +kernel
theorem dX11_between_9 : decode cX11_between 9 = .ok (.sipush (-1002), 3) := by decide +kernel
theorem dX11_between_12 : decode cX11_between 12 = .ok (.ireturn, 1) := by decide +kernel
theorem dX11_between_13 : decode cX11_between 13 = .ok (.aload_n 0, 1) := by decide +kernel
theorem dX11_between_14 : decode cX11_between 14 = .ok (.getfield 46, 3) := by decide +kernel
theorem dX11_between_17 : decode cX11_between 17 = .ok (.invokevirtual 154, 3) := by decide +kernel
theorem dX11_between_20 : decode cX11_between 20 = .ok (.ifCond .ne 7, 3) := by decide +kernel
theorem dX11_between_23 : decode cX11_between 23 = .ok (.sipush (-1003), 3) := by decide +kernel
theorem dX11_between_26 : decode cX11_between 26 = .ok (.ireturn, 1) := by decide +kernel
theorem dX11_between_27 : decode cX11_between 27 = .ok (.aload_n 0, 1) := by decide +kernel
theorem dX11_between_28 : decode cX11_between 28 = .ok (.getfield 46, 3) := by decide +kernel
theorem dX11_between_31 : decode cX11_between 31 = .ok (.iconst 3, 1) := by decide +kernel
theorem dX11_between_32 : decode cX11_between 32 = .ok (.invokevirtual 172, 3) := by decide +kernel
theorem dX11_between_35 : decode cX11_between 35 = .ok (.astore 4, 2) := by decide +kernel
theorem dX11_between_37 : decode cX11_between 37 = .ok (.aload 4, 2) := by decide +kernel
theorem dX11_between_39 : decode cX11_between 39 = .ok (.iload_n 1, 1) := by decide +kernel
theorem dX11_between_40 : decode cX11_between 40 = .ok (.invokevirtual 179, 3) := by decide +kernel
theorem dX11_between_43 : decode cX11_between 43 = .ok (.ifCond .eq 12, 3) := by decide +kernel
theorem dX11_between_46 : decode cX11_between 46 = .ok (.aload 4, 2) := by decide +kernel
theorem dX11_between_48 : decode cX11_between 48 = .ok (.iload_n 2, 1) := by decide +kernel
theorem dX11_between_49 : decode cX11_between 49 = .ok (.invokevirtual 179, 3) := by decide +kernel
theorem dX11_between_52 : decode cX11_between 52 = .ok (.ifCond .ne 7, 3) := by decide +kernel
theorem dX11_between_55 : decode cX11_between 55 = .ok (.sipush (-1001), 3) := by decide +kernel
theorem dX11_between_58 : decode cX11_between 58 = .ok (.ireturn, 1) := by decide +kernel
theorem dX11_between_59 : decode cX11_between 59 = .ok (.iload_n 3, 1) := by decide +kernel
theorem dX11_between_60 : decode cX11_between 60 = .ok (.ifCond .ne 22, 3) := by decide +kernel
theorem dX11_between_63 : decode cX11_between 63 = .ok (.aload 4, 2) := by decide +kernel
theorem dX11_between_65 : decode cX11_between 65 = .ok (.iload_n 1, 1) := by decide +kernel
theorem dX11_between_66 : decode cX11_between 66 = .ok (.invokevirtual 180, 3) := by decide +kernel
theorem dX11_between_69 : decode cX11_between 69 = .ok (.aload 4, 2) := by decide +kernel
theorem dX11_between_71 : decode cX11_between 71 = .ok (.iload_n 2, 1) := by decide +kernel
theorem dX11_between_72 : decode cX11_between 72 = .ok (.invokevirtual 180, 3) := by decide +kernel
theorem dX11_between_75 : decode cX11_between 75 = .ok (.invokestatic 197, 3) := by decide +kernel
theorem dX11_between_78 : decode cX11_between 78 = .ok (.invokestatic 200, 3) := by decide +kernel
theorem dX11_between_81 : decode cX11_between 81 = .ok (.ireturn, 1) := by decide +kernel
theorem dX11_between_82 : decode cX11_between 82 = .ok (.aload_n 0, 1) := by decide +kernel
theorem dX11_between_83 : decode cX11_between 83 = .ok (.getfield 46, 3) := by decide +kernel
theorem dX11_between_86 : decode cX11_between 86 = .ok (.invokevirtual 188, 3) := by decide +kernel
theorem dX11_between_89 : decode cX11_between 89 = .ok (.astore 5, 2) := by decide +kernel
theorem dX11_between_91 : decode cX11_between 91 = .ok (.iload_n 3, 1) := by decide +kernel
theorem dX11_between_92 : decode cX11_between 92 = .ok (.iconst 1, 1) := by decide +kernel
theorem dX11_between_93 : decode cX11_between 93 = .ok (.if_icmp .ne 19, 3) := by decide +kernel
theorem dX11_between_96 : decode cX11_between 96 = .ok (.aload 5, 2) := by decide +kernel
theorem dX11_between_98 : decode cX11_between 98 = .ok (.iload_n 1, 1) := by decide +kernel
theorem dX11_between_99 : decode cX11_between 99 = .ok (.iload_n 2, 1) := by decide +kernel
theorem dX11_between_100 : decode cX11_between 100 = .ok (.invokevirtual 205, 3) := by decide +kernel
theorem dX11_between_103 : decode cX11_between 103 = .ok (.ifCond .eq 7, 3) := by decide +kernel
theorem dX11_between_106 : decode cX11_between 106 = .ok (.iconst 1, 1) := by decide +kernel
theorem dX11_between_107 : decode cX11_between 107 = .ok (.goto 4, 3) := by decide +kernel
theorem dX11_between_110 : decode cX11_between 110 = .ok (.iconst 0, 1) := by decide +kernel
theorem dX11_between_111 : decode cX11_between 111 = .ok (.ireturn, 1) := by decide +kernel
theorem dX11_between_112 : decode cX11_between 112 = .ok (.aload 5, 2) := by decide +kernel
theorem dX11_between_114 : decode cX11_between 114 = .ok (.iload_n 1, 1) := by decide +kernel
theorem dX11_between_115 : decode cX11_between 115 = .ok (.iload_n 2, 1) := by decide +kernel
theorem dX11_between_116 : decode cX11_between 116 = .ok (.invokevirtual 209, 3) := by decide +kernel
theorem dX11_between_119 : decode cX11_between 119 = .ok (.ireturn, 1) := by decide +kernel
theorem dX11_mutation_0 : decode cX11_mutation 0 = .ok (.aload_n 0, 1) := by decide +kernel
theorem dX11_mutation_1 : decode cX11_mutation 1 = .ok (.getfield 46, 3) := by decide +kernel
theorem dX11_mutation_4 : decode cX11_mutation 4 = .ok (.invokevirtual 154, 3) := by decide +kernel
theorem dX11_mutation_7 : decode cX11_mutation 7 = .ok (.ifCond .ne 7, 3) := by decide +kernel
theorem dX11_mutation_10 : decode cX11_mutation 10 = .ok (.sipush (-1003), 3) := by decide +kernel
theorem dX11_mutation_13 : decode cX11_mutation 13 = .ok (.ireturn, 1) := by decide +kernel
theorem dX11_mutation_14 : decode cX11_mutation 14 = .ok (.iload_n 1, 1) := by decide +kernel
theorem dX11_mutation_15 : decode cX11_mutation 15 = .ok (.iconst (-1), 1) := by decide +kernel
theorem dX11_mutation_16 : decode cX11_mutation 16 = .ok (.if_icmp .lt 14, 3) := by decide +kernel
theorem dX11_mutation_19 : decode cX11_mutation 19 = .ok (.iload_n 1, 1) := by decide +kernel
theorem dX11_mutation_20 : decode cX11_mutation 20 = .ok (.aload_n 0, 1) := by decide +kernel
theorem dX11_mutation_21 : decode cX11_mutation 21 = .ok (.getfield 10, 3) := by decide +kernel
theorem dX11_mutation_24 : decode cX11_mutation 24 = .ok (.invokevirtual 163, 3) := by decide +kernel
theorem dX11_mutation_27 : decode cX11_mutation 27 = .ok (.if_icmp .lt 7, 3) := by decide +kernel
theorem dX11_mutation_30 : decode cX11_mutation 30 = .ok (.sipush (-1001), 3) := by decide +kernel
theorem dX11_mutation_33 : decode cX11_mutation 33 = .ok (.ireturn, 1) := by decide +kernel
theorem dX11_mutation_34 : decode cX11_mutation 34 = .ok (.aload_n 0, 1) := by decide +kernel
theorem dX11_mutation_35 : decode cX11_mutation 35 = .ok (.getfield 46, 3) := by decide +kernel
theorem dX11_mutation_38 : decode cX11_mutation 38 = .ok (.invokevirtual 212, 3) := by decide +kernel
theorem dX11_mutation_41 : decode cX11_mutation 41 = .ok (.istore_n 2, 1) := by decide +kernel
theorem dX11_mutation_42 : decode cX11_mutation 42 = .ok (.iload_n 1, 1) := by decide +kernel
theorem dX11_mutation_43 : decode cX11_mutation 43 = .ok (.iconst (-1), 1) := by decide +kernel
theorem dX11_mutation_44 : decode cX11_mutation 44 = .ok (.if_icmp .ne 10, 3) := by decide +kernel
theorem dX11_mutation_47 : decode cX11_mutation 47 = .ok (.iload_n 2, 1) := by decide +kernel
theorem dX11_mutation_48 : decode cX11_mutation 48 = .ok (.invokestatic 200, 3) := by decide +kernel
theorem dX11_mutation_51 : decode cX11_mutation 51 = .ok (.goto 8, 3) := by decide +kernel
theorem dX11_mutation_54 : decode cX11_mutation 54 = .ok (.iload_n 2, 1) := by decide +kernel
theorem dX11_mutation_55 : decode cX11_mutation 55 = .ok (.iload_n 1, 1) := by decide +kernel
theorem dX11_mutation_56 : decode cX11_mutation 56 = .ok (.ishr, 1) := by decide +kernel
theorem dX11_mutation_57 : decode cX11_mutation 57 = .ok (.iconst 1, 1) := by decide +kernel
theorem dX11_mutation_58 : decode cX11_mutation 58 = .ok (.iand, 1) := by decide +kernel
theorem dX11_mutation_59 : decode cX11_mutation 59 = .ok (.ireturn, 1) := by decide +kernel
theorem dX11_extensions_0 : decode cX11_extensions 0 = .ok (.aload_n 0, 1) := by decide +kernel
theorem dX11_extensions_1 : decode cX11_extensions 1 = .ok (.getfield 46, 3) := by decide +kernel
theorem dX11_extensions_4 : decode cX11_extensions 4 = .ok (.invokevirtual 154, 3) := by decide +kernel
theorem dX11_extensions_7 : decode cX11_extensions 7 = .ok (.ifCond .eq 14, 3) := by decide +kernel
theorem dX11_extensions_10 : decode cX11_extensions 10 = .ok (.aload_n 0, 1) := by decide +kernel
theorem dX11_extensions_11 : decode cX11_extensions 11 = .ok (.getfield 10, 3) := by decide +kernel
theorem dX11_extensions_14 : decode cX11_extensions 14 = .ok (.invokevirtual 125, 3) := by decide +kernel
theorem dX11_extensions_17 : decode cX11_extensions 17 = .ok (.iconst 4, 1) := by decide +kernel
theorem dX11_extensions_18 : decode cX11_extensions 18 = .ok (.if_icmp .le 7, 3) := by decide +kernel
theorem dX11_extensions_21 : decode cX11_extensions 21 = .ok (.sipush (-1003), 3) := by decide +kernel
theorem dX11_extensions_24 : decode cX11_extensions 24 = .ok (.ireturn, 1) := by decide +kernel
theorem dX11_extensions_25 : decode cX11_extensions 25 = .ok (.aload_n 0, 1) := by decide +kernel
theorem dX11_extensions_26 : decode cX11_extensions 26 = .ok (.getfield 46, 3) := by decide +kernel
theorem dX11_extensions_29 : decode cX11_extensions 29 = .ok (.invokevirtual 217, 3) := by decide +kernel
theorem dX11_extensions_32 : decode cX11_extensions 32 = .ok (.ireturn, 1) := by decide +kernel
theorem dX11_box_0 : decode cX11_box 0 = .ok (.iload_n 1, 1) := by decide +kernel
theorem dX11_box_1 : decode cX11_box 1 = .ok (.invokestatic 220, 3) := by decide +kernel
theorem dX11_box_4 : decode cX11_box 4 = .ok (.ifCond .ne 7, 3) := by decide +kernel
theorem dX11_box_7 : decode cX11_box 7 = .ok (.sipush (-1001), 3) := by decide +kernel
theorem dX11_box_10 : decode cX11_box 10 = .ok (.ireturn, 1) := by decide +kernel
theorem dX11_box_11 : decode cX11_box 11 = .ok (.iload_n 2, 1) := by decide +kernel
theorem dX11_box_12 : decode cX11_box 12 = .ok (.ifCond .lt 14, 3) := by decide +kernel
theorem dX11_box_15 : decode cX11_box 15 = .ok (.iload_n 2, 1) := by decide +kernel
theorem dX11_box_16 : decode cX11_box 16 = .ok (.iconst 1, 1) := by decide +kernel
theorem dX11_box_17 : decode cX11_box 17 = .ok (.if_icmp .gt 9, 3) := by decide +kernel
theorem dX11_box_20 : decode cX11_box 20 = .ok (.iload_n 3, 1) := by decide +kernel
theorem dX11_box_21 : decode cX11_box 21 = .ok (.bipush 6, 2) := by decide +kernel
theorem dX11_box_23 : decode cX11_box 23 = .ok (.if_icmp .le 7, 3) := by decide +kernel
theorem dX11_box_26 : decode cX11_box 26 = .ok (.sipush (-1002), 3) := by decide +kernel
theorem dX11_box_29 : decode cX11_box 29 = .ok (.ireturn, 1) := by decide +kernel
theorem dX11_box_30 : decode cX11_box 30 = .ok (.iload_n 3, 1) := by decide +kernel
theorem dX11_box_31 : decode cX11_box 31 = .ok (.ifCond .ge 7, 3) := by decide +kernel
theorem dX11_box_34 : decode cX11_box 34 = .ok (.sipush (-1012), 3) := by decide +kernel
theorem dX11_box_37 : decode cX11_box 37 = .ok (.ireturn, 1) := by decide +kernel
theorem dX11_box_38 : decode cX11_box 38 = .ok (.aload_n 0, 1) := by decide +kernel
theorem dX11_box_39 : decode cX11_box 39 = .ok (.getfield 52, 3) := by decide +kernel
theorem dX11_box_42 : decode cX11_box 42 = .ok (.iload_n 1, 1) := by decide +kernel
theorem dX11_box_43 : decode cX11_box 43 = .ok (.aaload, 1) := by decide +kernel
theorem dX11_box_44 : decode cX11_box 44 = .ok (.iload_n 2, 1) := by decide +kernel
theorem dX11_box_45 : decode cX11_box 45 = .ok (.iconst 1, 1) := by decide +kernel
theorem dX11_box_46 : decode cX11_box 46 = .ok (.if_icmp .ne 7, 3) := by decide +kernel
theorem dX11_box_49 : decode cX11_box 49 = .ok (.iconst 1, 1) := by decide +kernel
theorem dX11_box_50 : decode cX11_box 50 = .ok (.goto 4, 3) := by decide +kernel
theorem dX11_box_53 : decode cX11_box 53 = .ok (.iconst 0, 1) := by decide +kernel
theorem dX11_box_54 : decode cX11_box 54 = .ok (.iload_n 3, 1) := by decide +kernel
theorem dX11_box_55 : decode cX11_box 55 = .ok (.invokevirtual 223, 3) := by decide +kernel
theorem dX11_box_58 : decode cX11_box 58 = .ok (.iload_n 3, 1) := by decide +kernel
theorem dX11_box_59 : decode cX11_box 59 = .ok (.ireturn, 1) := by decide +kernel
theorem dX11_lay_0 : decode cX11_lay 0 = .ok (.iload_n 3, 1) := by decide +kernel
theorem dX11_lay_1 : decode cX11_lay 1 = .ok (.invokestatic 166, 3) := by decide +kernel
theorem dX11_lay_4 : decode cX11_lay 4 = .ok (.ifCond .ne 7, 3) := by decide +kernel
theorem dX11_lay_7 : decode cX11_lay 7 = .ok (.sipush (-1002), 3) := by decide +kernel
theorem dX11_lay_10 : decode cX11_lay 10 = .ok (.ireturn, 1) := by decide +kernel
theorem dX11_lay_11 : decode cX11_lay 11 = .ok (.aload_n 0, 1) := by decide +kernel
theorem dX11_lay_12 : decode cX11_lay 12 = .ok (.getfield 46, 3) := by decide +kernel
theorem dX11_lay_15 : decode cX11_lay 15 = .ok (.iload_n 3, 1) := by decide +kernel
theorem dX11_lay_16 : decode cX11_lay 16 = .ok (.invokevirtual 169, 3) := by decide +kernel
theorem dX11_lay_19 : decode cX11_lay 19 = .ok (.ifCond .ne 7, 3) := by decide +kernel
theorem dX11_lay_22 : decode cX11_lay 22 = .ok (.sipush (-1003), 3) := by decide +kernel
theorem dX11_lay_25 : decode cX11_lay 25 = .ok (.ireturn, 1) := by decide +kernel
theorem dX11_lay_26 : decode cX11_lay 26 = .ok (.aload_n 0, 1) := by decide +kernel
theorem dX11_lay_27 : decode cX11_lay 27 = .ok (.getfield 46, 3) := by decide +kernel
theorem dX11_lay_30 : decode cX11_lay 30 = .ok (.iload_n 3, 1) := by decide +kernel
theorem dX11_lay_31 : decode cX11_lay 31 = .ok (.invokevirtual 172, 3) := by decide +kernel
theorem dX11_lay_34 : decode cX11_lay 34 = .ok (.astore 5, 2) := by decide +kernel
theorem dX11_lay_36 : decode cX11_lay 36 = .ok (.aload 5, 2) := by decide +kernel
theorem dX11_lay_38 : decode cX11_lay 38 = .ok (.iload 4, 2) := by decide +kernel
theorem dX11_lay_40 : decode cX11_lay 40 = .ok (.invokevirtual 179, 3) := by decide +kernel
theorem dX11_lay_43 : decode cX11_lay 43 = .ok (.ifCond .eq 10, 3) := by decide +kernel
theorem dX11_lay_46 : decode cX11_lay 46 = .ok (.iload_n 1, 1) := by decide +kernel
theorem dX11_lay_47 : decode cX11_lay 47 = .ok (.invokestatic 220, 3) := by decide +kernel
theorem dX11_lay_50 : decode cX11_lay 50 = .ok (.ifCond .ne 7, 3) := by decide +kernel
theorem dX11_lay_53 : decode cX11_lay 53 = .ok (.sipush (-1001), 3) := by decide +kernel
theorem dX11_lay_56 : decode cX11_lay 56 = .ok (.ireturn, 1) := by decide +kernel
theorem dX11_lay_57 : decode cX11_lay 57 = .ok (.aload_n 0, 1) := by decide +kernel
theorem dX11_lay_58 : decode cX11_lay 58 = .ok (.getfield 52, 3) := by decide +kernel
theorem dX11_lay_61 : decode cX11_lay 61 = .ok (.iload_n 1, 1) := by decide +kernel
theorem dX11_lay_62 : decode cX11_lay 62 = .ok (.aaload, 1) := by decide +kernel
theorem dX11_lay_63 : decode cX11_lay 63 = .ok (.invokevirtual 227, 3) := by decide +kernel
theorem dX11_lay_66 : decode cX11_lay 66 = .ok (.ifCond .eq 7, 3) := by decide +kernel
theorem dX11_lay_69 : decode cX11_lay 69 = .ok (.sipush (-1011), 3) := by decide +kernel
theorem dX11_lay_72 : decode cX11_lay 72 = .ok (.ireturn, 1) := by decide +kernel
theorem dX11_lay_73 : decode cX11_lay 73 = .ok (.aload_n 0, 1) := by decide +kernel
theorem dX11_lay_74 : decode cX11_lay 74 = .ok (.getfield 52, 3) := by decide +kernel
theorem dX11_lay_77 : decode cX11_lay 77 = .ok (.iload_n 1, 1) := by decide +kernel
theorem dX11_lay_78 : decode cX11_lay 78 = .ok (.aaload, 1) := by decide +kernel
theorem dX11_lay_79 : decode cX11_lay 79 = .ok (.iload_n 2, 1) := by decide +kernel
theorem dX11_lay_80 : decode cX11_lay 80 = .ok (.invokevirtual 230, 3) := by decide +kernel
theorem dX11_lay_83 : decode cX11_lay 83 = .ok (.ifCond .ne 7, 3) := by decide +kernel
theorem dX11_lay_86 : decode cX11_lay 86 = .ok (.sipush (-1013), 3) := by decide +kernel
theorem dX11_lay_89 : decode cX11_lay 89 = .ok (.ireturn, 1) := by decide +kernel
theorem dX11_lay_90 : decode cX11_lay 90 = .ok (.aload 5, 2) := by decide +kernel
theorem dX11_lay_92 : decode cX11_lay 92 = .ok (.iload 4, 2) := by decide +kernel
theorem dX11_lay_94 : decode cX11_lay 94 = .ok (.invokevirtual 180, 3) := by decide +kernel
theorem dX11_lay_97 : decode cX11_lay 97 = .ok (.istore 6, 2) := by decide +kernel
theorem dX11_lay_99 : decode cX11_lay 99 = .ok (.aload_n 0, 1) := by decide +kernel
theorem dX11_lay_100 : decode cX11_lay 100 = .ok (.getfield 52, 3) := by decide +kernel
theorem dX11_lay_103 : decode cX11_lay 103 = .ok (.iload_n 1, 1) := by decide +kernel
theorem dX11_lay_104 : decode cX11_lay 104 = .ok (.aaload, 1) := by decide +kernel
theorem dX11_lay_105 : decode cX11_lay 105 = .ok (.iload 6, 2) := by decide +kernel
theorem dX11_lay_107 : decode cX11_lay 107 = .ok (.invokevirtual 233, 3) := by decide +kernel
theorem dX11_lay_110 : decode cX11_lay 110 = .ok (.ifCond .ne 7, 3) := by decide +kernel
theorem dX11_lay_113 : decode cX11_lay 113 = .ok (.sipush (-1014), 3) := by decide +kernel
theorem dX11_lay_116 : decode cX11_lay 116 = .ok (.ireturn, 1) := by decide +kernel
theorem dX11_lay_117 : decode cX11_lay 117 = .ok (.aload_n 0, 1) := by decide +kernel
theorem dX11_lay_118 : decode cX11_lay 118 = .ok (.getfield 52, 3) := by decide +kernel
theorem dX11_lay_121 : decode cX11_lay 121 = .ok (.iload_n 1, 1) := by decide +kernel
theorem dX11_lay_122 : decode cX11_lay 122 = .ok (.aaload, 1) := by decide +kernel
theorem dX11_lay_123 : decode cX11_lay 123 = .ok (.iload_n 2, 1) := by decide +kernel
theorem dX11_lay_124 : decode cX11_lay 124 = .ok (.iload 6, 2) := by decide +kernel
theorem dX11_lay_126 : decode cX11_lay 126 = .ok (.aload_n 0, 1) := by decide +kernel
theorem dX11_lay_127 : decode cX11_lay 127 = .ok (.getfield 10, 3) := by decide +kernel
theorem dX11_lay_130 : decode cX11_lay 130 = .ok (.invokevirtual 125, 3) := by decide +kernel
theorem dX11_lay_133 : decode cX11_lay 133 = .ok (.invokevirtual 236, 3) := by decide +kernel
theorem dX11_lay_136 : decode cX11_lay 136 = .ok (.iload 6, 2) := by decide +kernel
theorem dX11_lay_138 : decode cX11_lay 138 = .ok (.invokestatic 239, 3) := by decide +kernel
theorem dX11_lay_141 : decode cX11_lay 141 = .ok (.ireturn, 1) := by decide +kernel
theorem dX11_compose_0 : decode cX11_compose 0 = .ok (.iload_n 1, 1) := by decide +kernel
theorem dX11_compose_1 : decode cX11_compose 1 = .ok (.invokestatic 220, 3) := by decide +kernel
theorem dX11_compose_4 : decode cX11_compose 4 = .ok (.ifCond .ne 7, 3) := by decide +kernel
theorem dX11_compose_7 : decode cX11_compose 7 = .ok (.sipush (-1001), 3) := by decide +kernel
theorem dX11_compose_10 : decode cX11_compose 10 = .ok (.ireturn, 1) := by decide +kernel
theorem dX11_compose_11 : decode cX11_compose 11 = .ok (.aload_n 0, 1) := by decide +kernel
theorem dX11_compose_12 : decode cX11_compose 12 = .ok (.getfield 52, 3) := by decide +kernel
theorem dX11_compose_15 : decode cX11_compose 15 = .ok (.iload_n 1, 1) := by decide +kernel
theorem dX11_compose_16 : decode cX11_compose 16 = .ok (.aaload, 1) := by decide +kernel
theorem dX11_compose_17 : decode cX11_compose 17 = .ok (.astore 4, 2) := by decide +kernel
theorem dX11_compose_19 : decode cX11_compose 19 = .ok (.aload 4, 2) := by decide +kernel
theorem dX11_compose_21 : decode cX11_compose 21 = .ok (.invokevirtual 227, 3) := by decide +kernel
theorem dX11_compose_24 : decode cX11_compose 24 = .ok (.ifCond .eq 7, 3) := by decide +kernel
theorem dX11_compose_27 : decode cX11_compose 27 = .ok (.sipush (-1011), 3) := by decide +kernel
theorem dX11_compose_30 : decode cX11_compose 30 = .ok (.ireturn, 1) := by decide +kernel
theorem dX11_compose_31 : decode cX11_compose 31 = .ok (.aload 4, 2) := by decide +kernel
theorem dX11_compose_33 : decode cX11_compose 33 = .ok (.iload_n 2, 1) := by decide +kernel
theorem dX11_compose_34 : decode cX11_compose 34 = .ok (.invokevirtual 230, 3) := by decide +kernel
theorem dX11_compose_37 : decode cX11_compose 37 = .ok (.ifCond .eq 12, 3) := by decide +kernel
theorem dX11_compose_40 : decode cX11_compose 40 = .ok (.aload 4, 2) := by decide +kernel
theorem dX11_compose_42 : decode cX11_compose 42 = .ok (.iload_n 3, 1) := by decide +kernel
theorem dX11_compose_43 : decode cX11_compose 43 = .ok (.invokevirtual 230, 3) := by decide +kernel
theorem dX11_compose_46 : decode cX11_compose 46 = .ok (.ifCond .ne 7, 3) := by decide +kernel
theorem dX11_compose_49 : decode cX11_compose 49 = .ok (.sipush (-1013), 3) := by decide +kernel
theorem dX11_compose_52 : decode cX11_compose 52 = .ok (.ireturn, 1) := by decide +kernel
theorem dX11_compose_53 : decode cX11_compose 53 = .ok (.aload 4, 2) := by decide +kernel
theorem dX11_compose_55 : decode cX11_compose 55 = .ok (.iload_n 2, 1) := by decide +kernel
theorem dX11_compose_56 : decode cX11_compose 56 = .ok (.invokevirtual 242, 3) := by decide +kernel
theorem dX11_compose_59 : decode cX11_compose 59 = .ok (.ifCond .ne 12, 3) := by decide +kernel
theorem dX11_compose_62 : decode cX11_compose 62 = .ok (.aload 4, 2) := by decide +kernel
theorem dX11_compose_64 : decode cX11_compose 64 = .ok (.iload_n 3, 1) := by decide +kernel
theorem dX11_compose_65 : decode cX11_compose 65 = .ok (.invokevirtual 242, 3) := by decide +kernel
theorem dX11_compose_68 : decode cX11_compose 68 = .ok (.ifCond .eq 7, 3) := by decide +kernel
theorem dX11_compose_71 : decode cX11_compose 71 = .ok (.sipush (-1015), 3) := by decide +kernel
theorem dX11_compose_74 : decode cX11_compose 74 = .ok (.ireturn, 1) := by decide +kernel
theorem dX11_compose_75 : decode cX11_compose 75 = .ok (.aload 4, 2) := by decide +kernel
theorem dX11_compose_77 : decode cX11_compose 77 = .ok (.iload_n 2, 1) := by decide +kernel
theorem dX11_compose_78 : decode cX11_compose 78 = .ok (.invokevirtual 245, 3) := by decide +kernel
theorem dX11_compose_81 : decode cX11_compose 81 = .ok (.aload 4, 2) := by decide +kernel
theorem dX11_compose_83 : decode cX11_compose 83 = .ok (.iload_n 3, 1) := by decide +kernel
theorem dX11_compose_84 : decode cX11_compose 84 = .ok (.invokevirtual 245, 3) := by decide +kernel
theorem dX11_compose_87 : decode cX11_compose 87 = .ok (.if_icmp .eq 7, 3) := by decide +kernel
theorem dX11_compose_90 : decode cX11_compose 90 = .ok (.sipush (-1016), 3) := by decide +kernel
theorem dX11_compose_93 : decode cX11_compose 93 = .ok (.ireturn, 1) := by decide +kernel
theorem dX11_compose_94 : decode cX11_compose 94 = .ok (.aload 4, 2) := by decide +kernel
theorem dX11_compose_96 : decode cX11_compose 96 = .ok (.iload_n 2, 1) := by decide +kernel
theorem dX11_compose_97 : decode cX11_compose 97 = .ok (.invokevirtual 248, 3) := by decide +kernel
theorem dX11_compose_100 : decode cX11_compose 100 = .ok (.aload 4, 2) := by decide +kernel
theorem dX11_compose_102 : decode cX11_compose 102 = .ok (.iload_n 3, 1) := by decide +kernel
theorem dX11_compose_103 : decode cX11_compose 103 = .ok (.invokevirtual 248, 3) := by decide +kernel
theorem dX11_compose_106 : decode cX11_compose 106 = .ok (.invokestatic 251, 3) := by decide +kernel
theorem dX11_compose_109 : decode cX11_compose 109 = .ok (.istore 5, 2) := by decide +kernel
theorem dX11_compose_111 : decode cX11_compose 111 = .ok (.aload 4, 2) := by decide +kernel
theorem dX11_compose_113 : decode cX11_compose 113 = .ok (.iload_n 2, 1) := by decide +kernel
theorem dX11_compose_114 : decode cX11_compose 114 = .ok (.iload 5, 2) := by decide +kernel
theorem dX11_compose_116 : decode cX11_compose 116 = .ok (.aload 4, 2) := by decide +kernel
theorem dX11_compose_118 : decode cX11_compose 118 = .ok (.iload_n 2, 1) := by decide +kernel
theorem dX11_compose_119 : decode cX11_compose 119 = .ok (.invokevirtual 245, 3) := by decide +kernel
theorem dX11_compose_122 : decode cX11_compose 122 = .ok (.invokevirtual 236, 3) := by decide +kernel
theorem dX11_compose_125 : decode cX11_compose 125 = .ok (.iload 5, 2) := by decide +kernel
theorem dX11_compose_127 : decode cX11_compose 127 = .ok (.invokestatic 239, 3) := by decide +kernel
theorem dX11_compose_130 : decode cX11_compose 130 = .ok (.ireturn, 1) := by decide +kernel
theorem dX11_seen_0 : decode cX11_seen 0 = .ok (.aload_n 0, 1) := by decide +kernel
theorem dX11_seen_1 : decode cX11_seen 1 = .ok (.iload_n 1, 1) := by decide +kernel
theorem dX11_seen_2 : decode cX11_seen 2 = .ok (.iload_n 2, 1) := by decide +kernel
theorem dX11_seen_3 : decode cX11_seen 3 = .ok (.invokevirtual 254, 3) := by decide +kernel
theorem dX11_seen_6 : decode cX11_seen 6 = .ok (.istore 4, 2) := by decide +kernel
theorem dX11_seen_8 : decode cX11_seen 8 = .ok (.iload 4, 2) := by decide +kernel
theorem dX11_seen_10 : decode cX11_seen 10 = .ok (.ifCond .eq 6, 3) := by decide +kernel
theorem dX11_seen_13 : decode cX11_seen 13 = .ok (.iload 4, 2) := by decide +kernel
theorem dX11_seen_15 : decode cX11_seen 15 = .ok (.ireturn, 1) := by decide +kernel
theorem dX11_seen_16 : decode cX11_seen 16 = .ok (.aload_n 0, 1) := by decide +kernel
theorem dX11_seen_17 : decode cX11_seen 17 = .ok (.getfield 52, 3) := by decide +kernel
theorem dX11_seen_20 : decode cX11_seen 20 = .ok (.iload_n 1, 1) := by decide +kernel
theorem dX11_seen_21 : decode cX11_seen 21 = .ok (.aaload, 1) := by decide +kernel
theorem dX11_seen_22 : decode cX11_seen 22 = .ok (.iload_n 2, 1) := by decide +kernel
theorem dX11_seen_23 : decode cX11_seen 23 = .ok (.invokevirtual 245, 3) := by decide +kernel
theorem dX11_seen_26 : decode cX11_seen 26 = .ok (.istore 5, 2) := by decide +kernel
theorem dX11_seen_28 : decode cX11_seen 28 = .ok (.iload_n 3, 1) := by decide +kernel
theorem dX11_seen_29 : decode cX11_seen 29 = .ok (.ifCond .lt 9, 3) := by decide +kernel
theorem dX11_seen_32 : decode cX11_seen 32 = .ok (.iload_n 3, 1) := by decide +kernel
theorem dX11_seen_33 : decode cX11_seen 33 = .ok (.iload 5, 2) := by decide +kernel
theorem dX11_seen_35 : decode cX11_seen 35 = .ok (.if_icmp .lt 7, 3) := by decide +kernel
theorem dX11_seen_38 : decode cX11_seen 38 = .ok (.sipush (-1002), 3) := by decide +kernel
theorem dX11_seen_41 : decode cX11_seen 41 = .ok (.ireturn, 1) := by decide +kernel
theorem dX11_seen_42 : decode cX11_seen 42 = .ok (.aload_n 0, 1) := by decide +kernel
theorem dX11_seen_43 : decode cX11_seen 43 = .ok (.getfield 52, 3) := by decide +kernel
theorem dX11_seen_46 : decode cX11_seen 46 = .ok (.iload_n 1, 1) := by decide +kernel
theorem dX11_seen_47 : decode cX11_seen 47 = .ok (.aaload, 1) := by decide +kernel
theorem dX11_seen_48 : decode cX11_seen 48 = .ok (.iload_n 2, 1) := by decide +kernel
theorem dX11_seen_49 : decode cX11_seen 49 = .ok (.invokevirtual 248, 3) := by decide +kernel
theorem dX11_seen_52 : decode cX11_seen 52 = .ok (.iload 5, 2) := by decide +kernel
theorem dX11_seen_54 : decode cX11_seen 54 = .ok (.iload_n 3, 1) := by decide +kernel
theorem dX11_seen_55 : decode cX11_seen 55 = .ok (.invokestatic 183, 3) := by decide +kernel
theorem dX11_seen_58 : decode cX11_seen 58 = .ok (.ireturn, 1) := by decide +kernel
theorem dX11_find_0 : decode cX11_find 0 = .ok (.iload_n 1, 1) := by decide +kernel
theorem dX11_find_1 : decode cX11_find 1 = .ok (.invokestatic 220, 3) := by decide +kernel
theorem dX11_find_4 : decode cX11_find 4 = .ok (.ifCond .ne 7, 3) := by decide +kernel
theorem dX11_find_7 : decode cX11_find 7 = .ok (.sipush (-1001), 3) := by decide +kernel
theorem dX11_find_10 : decode cX11_find 10 = .ok (.ireturn, 1) := by decide +kernel
theorem dX11_find_11 : decode cX11_find 11 = .ok (.iload_n 3, 1) := by decide +kernel
theorem dX11_find_12 : decode cX11_find 12 = .ok (.invokestatic 166, 3) := by decide +kernel
theorem dX11_find_15 : decode cX11_find 15 = .ok (.ifCond .ne 7, 3) := by decide +kernel
theorem dX11_find_18 : decode cX11_find 18 = .ok (.sipush (-1002), 3) := by decide +kernel
theorem dX11_find_21 : decode cX11_find 21 = .ok (.ireturn, 1) := by decide +kernel
theorem dX11_find_22 : decode cX11_find 22 = .ok (.aload_n 0, 1) := by decide +kernel
theorem dX11_find_23 : decode cX11_find 23 = .ok (.getfield 46, 3) := by decide +kernel
theorem dX11_find_26 : decode cX11_find 26 = .ok (.iload_n 3, 1) := by decide +kernel
theorem dX11_find_27 : decode cX11_find 27 = .ok (.invokevirtual 169, 3) := by decide +kernel
theorem dX11_find_30 : decode cX11_find 30 = .ok (.ifCond .ne 7, 3) := by decide +kernel
theorem dX11_find_33 : decode cX11_find 33 = .ok (.sipush (-1003), 3) := by decide +kernel
theorem dX11_find_36 : decode cX11_find 36 = .ok (.ireturn, 1) := by decide +kernel
theorem dX11_find_37 : decode cX11_find 37 = .ok (.aload_n 0, 1) := by decide +kernel
theorem dX11_find_38 : decode cX11_find 38 = .ok (.iload_n 1, 1) := by decide +kernel
theorem dX11_find_39 : decode cX11_find 39 = .ok (.iload_n 2, 1) := by decide +kernel
theorem dX11_find_40 : decode cX11_find 40 = .ok (.invokevirtual 254, 3) := by decide +kernel
theorem dX11_find_43 : decode cX11_find 43 = .ok (.istore 4, 2) := by decide +kernel
theorem dX11_find_45 : decode cX11_find 45 = .ok (.iload 4, 2) := by decide +kernel
theorem dX11_find_47 : decode cX11_find 47 = .ok (.ifCond .eq 6, 3) := by decide +kernel
theorem dX11_find_50 : decode cX11_find 50 = .ok (.iload 4, 2) := by decide +kernel
theorem dX11_find_52 : decode cX11_find 52 = .ok (.ireturn, 1) := by decide +kernel
theorem dX11_find_53 : decode cX11_find 53 = .ok (.aload_n 0, 1) := by decide +kernel
theorem dX11_find_54 : decode cX11_find 54 = .ok (.getfield 52, 3) := by decide +kernel
theorem dX11_find_57 : decode cX11_find 57 = .ok (.iload_n 1, 1) := by decide +kernel
theorem dX11_find_58 : decode cX11_find 58 = .ok (.aaload, 1) := by decide +kernel
theorem dX11_find_59 : decode cX11_find 59 = .ok (.iload_n 2, 1) := by decide +kernel
theorem dX11_find_60 : decode cX11_find 60 = .ok (.invokevirtual 245, 3) := by decide +kernel
theorem dX11_find_63 : decode cX11_find 63 = .ok (.aload_n 0, 1) := by decide +kernel
theorem dX11_find_64 : decode cX11_find 64 = .ok (.getfield 10, 3) := by decide +kernel
theorem dX11_find_67 : decode cX11_find 67 = .ok (.invokevirtual 125, 3) := by decide +kernel
theorem dX11_find_70 : decode cX11_find 70 = .ok (.if_icmp .eq 5, 3) := by decide +kernel
theorem dX11_find_73 : decode cX11_find 73 = .ok (.iconst (-1), 1) := by decide +kernel
theorem dX11_find_74 : decode cX11_find 74 = .ok (.ireturn, 1) := by decide +kernel
theorem dX11_find_75 : decode cX11_find 75 = .ok (.aload_n 0, 1) := by decide +kernel
theorem dX11_find_76 : decode cX11_find 76 = .ok (.getfield 46, 3) := by decide +kernel
theorem dX11_find_79 : decode cX11_find 79 = .ok (.iload_n 3, 1) := by decide +kernel
theorem dX11_find_80 : decode cX11_find 80 = .ok (.invokevirtual 172, 3) := by decide +kernel
theorem dX11_find_83 : decode cX11_find 83 = .ok (.aload_n 0, 1) := by decide +kernel
theorem dX11_find_84 : decode cX11_find 84 = .ok (.getfield 52, 3) := by decide +kernel
theorem dX11_find_87 : decode cX11_find 87 = .ok (.iload_n 1, 1) := by decide +kernel
theorem dX11_find_88 : decode cX11_find 88 = .ok (.aaload, 1) := by decide +kernel
theorem dX11_find_89 : decode cX11_find 89 = .ok (.iload_n 2, 1) := by decide +kernel
theorem dX11_find_90 : decode cX11_find 90 = .ok (.invokevirtual 248, 3) := by decide +kernel
theorem dX11_find_93 : decode cX11_find 93 = .ok (.invokevirtual 257, 3) := by decide +kernel
theorem dX11_find_96 : decode cX11_find 96 = .ok (.ireturn, 1) := by decide +kernel
theorem dX11_away_0 : decode cX11_away 0 = .ok (.iload_n 1, 1) := by decide +kernel
theorem dX11_away_1 : decode cX11_away 1 = .ok (.invokestatic 220, 3) := by decide +kernel
theorem dX11_away_4 : decode cX11_away 4 = .ok (.ifCond .ne 7, 3) := by decide +kernel
theorem dX11_away_7 : decode cX11_away 7 = .ok (.sipush (-1001), 3) := by decide +kernel
theorem dX11_away_10 : decode cX11_away 10 = .ok (.ireturn, 1) := by decide +kernel
theorem dX11_away_11 : decode cX11_away 11 = .ok (.aload_n 0, 1) := by decide +kernel
theorem dX11_away_12 : decode cX11_away 12 = .ok (.getfield 52, 3) := by decide +kernel
theorem dX11_away_15 : decode cX11_away 15 = .ok (.iload_n 1, 1) := by decide +kernel
