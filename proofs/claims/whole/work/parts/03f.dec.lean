theorem dX12_five_75 : decode cX12_five 75 = .ok (.iload 4, 2) := by decide +kernel
theorem dX12_five_77 : decode cX12_five 77 = .ok (.if_icmp .eq 16, 3) := by decide +kernel
theorem dX12_five_80 : decode cX12_five 80 = .ok (.iload_n 3, 1) := by decide +kernel
theorem dX12_five_81 : decode cX12_five 81 = .ok (.iload 5, 2) := by decide +kernel
theorem dX12_five_83 : decode cX12_five 83 = .ok (.if_icmp .eq 10, 3) := by decide +kernel
theorem dX12_five_86 : decode cX12_five 86 = .ok (.iload 4, 2) := by decide +kernel
theorem dX12_five_88 : decode cX12_five 88 = .ok (.iload 5, 2) := by decide +kernel
theorem dX12_five_90 : decode cX12_five 90 = .ok (.if_icmp .ne 7, 3) := by decide +kernel
theorem dX12_five_93 : decode cX12_five 93 = .ok (.iconst 1, 1) := by decide +kernel
theorem dX12_five_94 : decode cX12_five 94 = .ok (.goto 4, 3) := by decide +kernel
theorem dX12_five_97 : decode cX12_five 97 = .ok (.iconst 0, 1) := by decide +kernel
theorem dX12_five_98 : decode cX12_five 98 = .ok (.istore 7, 2) := by decide +kernel
theorem dX12_five_100 : decode cX12_five 100 = .ok (.iload 6, 2) := by decide +kernel
theorem dX12_five_102 : decode cX12_five 102 = .ok (.ifCond .eq 8, 3) := by decide +kernel
theorem dX12_five_105 : decode cX12_five 105 = .ok (.iload 7, 2) := by decide +kernel
theorem dX12_five_107 : decode cX12_five 107 = .ok (.ifCond .eq 7, 3) := by decide +kernel
theorem dX12_five_110 : decode cX12_five 110 = .ok (.sipush (-1001), 3) := by decide +kernel
theorem dX12_five_113 : decode cX12_five 113 = .ok (.ireturn, 1) := by decide +kernel
theorem dX12_five_114 : decode cX12_five 114 = .ok (.aload_n 0, 1) := by decide +kernel
theorem dX12_five_115 : decode cX12_five 115 = .ok (.iload_n 1, 1) := by decide +kernel
theorem dX12_five_116 : decode cX12_five 116 = .ok (.iload_n 2, 1) := by decide +kernel
theorem dX12_five_117 : decode cX12_five 117 = .ok (.iload_n 3, 1) := by decide +kernel
theorem dX12_five_118 : decode cX12_five 118 = .ok (.iload 4, 2) := by decide +kernel
theorem dX12_five_120 : decode cX12_five 120 = .ok (.iload 5, 2) := by decide +kernel
theorem dX12_five_122 : decode cX12_five 122 = .ok (.invokevirtual 235, 3) := by decide +kernel
theorem dX12_five_125 : decode cX12_five 125 = .ok (.ifCond .eq 7, 3) := by decide +kernel
theorem dX12_five_128 : decode cX12_five 128 = .ok (.iconst 1, 1) := by decide +kernel
theorem dX12_five_129 : decode cX12_five 129 = .ok (.goto 4, 3) := by decide +kernel
theorem dX12_five_132 : decode cX12_five 132 = .ok (.iconst 0, 1) := by decide +kernel
theorem dX12_five_133 : decode cX12_five 133 = .ok (.ireturn, 1) := by decide +kernel
theorem dX12_is_0 : decode cX12_is 0 = .ok (.iload_n 1, 1) := by decide +kernel
theorem dX12_is_1 : decode cX12_is 1 = .ok (.tableswitch 90 0 3 #[31, 44, 57, 70], 31) := by decide +kernel
theorem dX12_is_32 : decode cX12_is 32 = .ok (.aload_n 0, 1) := by decide +kernel
theorem dX12_is_33 : decode cX12_is 33 = .ok (.invokevirtual 238, 3) := by decide +kernel
theorem dX12_is_36 : decode cX12_is 36 = .ok (.ifCond .eq 7, 3) := by decide +kernel
theorem dX12_is_39 : decode cX12_is 39 = .ok (.iconst 1, 1) := by decide +kernel
theorem dX12_is_40 : decode cX12_is 40 = .ok (.goto 4, 3) := by decide +kernel
theorem dX12_is_43 : decode cX12_is 43 = .ok (.iconst 0, 1) := by decide +kernel
theorem dX12_is_44 : decode cX12_is 44 = .ok (.ireturn, 1) := by decide +kernel
theorem dX12_is_45 : decode cX12_is 45 = .ok (.aload_n 0, 1) := by decide +kernel
theorem dX12_is_46 : decode cX12_is 46 = .ok (.invokevirtual 244, 3) := by decide +kernel
theorem dX12_is_49 : decode cX12_is 49 = .ok (.ifCond .eq 7, 3) := by decide +kernel
theorem dX12_is_52 : decode cX12_is 52 = .ok (.iconst 1, 1) := by decide +kernel
theorem dX12_is_53 : decode cX12_is 53 = .ok (.goto 4, 3) := by decide +kernel
theorem dX12_is_56 : decode cX12_is 56 = .ok (.iconst 0, 1) := by decide +kernel
theorem dX12_is_57 : decode cX12_is 57 = .ok (.ireturn, 1) := by decide +kernel
theorem dX12_is_58 : decode cX12_is 58 = .ok (.aload_n 0, 1) := by decide +kernel
theorem dX12_is_59 : decode cX12_is 59 = .ok (.invokevirtual 247, 3) := by decide +kernel
theorem dX12_is_62 : decode cX12_is 62 = .ok (.ifCond .eq 7, 3) := by decide +kernel
theorem dX12_is_65 : decode cX12_is 65 = .ok (.iconst 1, 1) := by decide +kernel
theorem dX12_is_66 : decode cX12_is 66 = .ok (.goto 4, 3) := by decide +kernel
theorem dX12_is_69 : decode cX12_is 69 = .ok (.iconst 0, 1) := by decide +kernel
theorem dX12_is_70 : decode cX12_is 70 = .ok (.ireturn, 1) := by decide +kernel
theorem dX12_is_71 : decode cX12_is 71 = .ok (.aload_n 0, 1) := by decide +kernel
theorem dX12_is_72 : decode cX12_is 72 = .ok (.invokevirtual 226, 3) := by decide +kernel
theorem dX12_is_75 : decode cX12_is 75 = .ok (.aload_n 0, 1) := by decide +kernel
theorem dX12_is_76 : decode cX12_is 76 = .ok (.invokevirtual 73, 3) := by decide +kernel
theorem dX12_is_79 : decode cX12_is 79 = .ok (.invokestatic 118, 3) := by decide +kernel
theorem dX12_is_82 : decode cX12_is 82 = .ok (.if_icmp .ne 7, 3) := by decide +kernel
theorem dX12_is_85 : decode cX12_is 85 = .ok (.iconst 1, 1) := by decide +kernel
theorem dX12_is_86 : decode cX12_is 86 = .ok (.goto 4, 3) := by decide +kernel
theorem dX12_is_89 : decode cX12_is 89 = .ok (.iconst 0, 1) := by decide +kernel
theorem dX12_is_90 : decode cX12_is 90 = .ok (.ireturn, 1) := by decide +kernel
theorem dX12_is_91 : decode cX12_is 91 = .ok (.sipush (-1002), 3) := by decide +kernel
theorem dX12_is_94 : decode cX12_is 94 = .ok (.ireturn, 1) := by decide +kernel
theorem dX12_power_0 : decode cX12_power 0 = .ok (.iconst 1, 1) := by decide +kernel
theorem dX12_power_1 : decode cX12_power 1 = .ok (.istore_n 1, 1) := by decide +kernel
theorem dX12_power_2 : decode cX12_power 2 = .ok (.iconst 0, 1) := by decide +kernel
theorem dX12_power_3 : decode cX12_power 3 = .ok (.istore_n 2, 1) := by decide +kernel
theorem dX12_power_4 : decode cX12_power 4 = .ok (.iload_n 2, 1) := by decide +kernel
theorem dX12_power_5 : decode cX12_power 5 = .ok (.iload_n 0, 1) := by decide +kernel
theorem dX12_power_6 : decode cX12_power 6 = .ok (.if_icmp .ge 13, 3) := by decide +kernel
theorem dX12_power_9 : decode cX12_power 9 = .ok (.iload_n 1, 1) := by decide +kernel
theorem dX12_power_10 : decode cX12_power 10 = .ok (.iconst 3, 1) := by decide +kernel
theorem dX12_power_11 : decode cX12_power 11 = .ok (.imul, 1) := by decide +kernel
theorem dX12_power_12 : decode cX12_power 12 = .ok (.istore_n 1, 1) := by decide +kernel
theorem dX12_power_13 : decode cX12_power 13 = .ok (.iinc 2 1, 3) := by decide +kernel
theorem dX12_power_16 : decode cX12_power 16 = .ok (.goto (-12), 3) := by decide +kernel
theorem dX12_power_19 : decode cX12_power 19 = .ok (.iload_n 1, 1) := by decide +kernel
theorem dX12_power_20 : decode cX12_power 20 = .ok (.ireturn, 1) := by decide +kernel
theorem dX12_digit_0 : decode cX12_digit 0 = .ok (.iload_n 0, 1) := by decide +kernel
theorem dX12_digit_1 : decode cX12_digit 1 = .ok (.iload_n 1, 1) := by decide +kernel
theorem dX12_digit_2 : decode cX12_digit 2 = .ok (.iconst 1, 1) := by decide +kernel
theorem dX12_digit_3 : decode cX12_digit 3 = .ok (.isub, 1) := by decide +kernel
theorem dX12_digit_4 : decode cX12_digit 4 = .ok (.iload_n 2, 1) := by decide +kernel
theorem dX12_digit_5 : decode cX12_digit 5 = .ok (.isub, 1) := by decide +kernel
theorem dX12_digit_6 : decode cX12_digit 6 = .ok (.invokestatic 250, 3) := by decide +kernel
theorem dX12_digit_9 : decode cX12_digit 9 = .ok (.idiv, 1) := by decide +kernel
theorem dX12_digit_10 : decode cX12_digit 10 = .ok (.iconst 3, 1) := by decide +kernel
theorem dX12_digit_11 : decode cX12_digit 11 = .ok (.irem, 1) := by decide +kernel
theorem dX12_digit_12 : decode cX12_digit 12 = .ok (.iconst 1, 1) := by decide +kernel
theorem dX12_digit_13 : decode cX12_digit 13 = .ok (.isub, 1) := by decide +kernel
theorem dX12_digit_14 : decode cX12_digit 14 = .ok (.ireturn, 1) := by decide +kernel
theorem dX12_codeOf_0 : decode cX12_codeOf 0 = .ok (.iconst 0, 1) := by decide +kernel
theorem dX12_codeOf_1 : decode cX12_codeOf 1 = .ok (.istore_n 1, 1) := by decide +kernel
theorem dX12_codeOf_2 : decode cX12_codeOf 2 = .ok (.iconst 0, 1) := by decide +kernel
theorem dX12_codeOf_3 : decode cX12_codeOf 3 = .ok (.istore_n 2, 1) := by decide +kernel
theorem dX12_codeOf_4 : decode cX12_codeOf 4 = .ok (.iload_n 2, 1) := by decide +kernel
theorem dX12_codeOf_5 : decode cX12_codeOf 5 = .ok (.aload_n 0, 1) := by decide +kernel
theorem dX12_codeOf_6 : decode cX12_codeOf 6 = .ok (.invokevirtual 73, 3) := by decide +kernel
theorem dX12_codeOf_9 : decode cX12_codeOf 9 = .ok (.if_icmp .ge 22, 3) := by decide +kernel
theorem dX12_codeOf_12 : decode cX12_codeOf 12 = .ok (.iconst 3, 1) := by decide +kernel
theorem dX12_codeOf_13 : decode cX12_codeOf 13 = .ok (.iload_n 1, 1) := by decide +kernel
theorem dX12_codeOf_14 : decode cX12_codeOf 14 = .ok (.imul, 1) := by decide +kernel
theorem dX12_codeOf_15 : decode cX12_codeOf 15 = .ok (.aload_n 0, 1) := by decide +kernel
theorem dX12_codeOf_16 : decode cX12_codeOf 16 = .ok (.getfield 41, 3) := by decide +kernel
theorem dX12_codeOf_19 : decode cX12_codeOf 19 = .ok (.iload_n 2, 1) := by decide +kernel
theorem dX12_codeOf_20 : decode cX12_codeOf 20 = .ok (.iaload, 1) := by decide +kernel
theorem dX12_codeOf_21 : decode cX12_codeOf 21 = .ok (.iadd, 1) := by decide +kernel
theorem dX12_codeOf_22 : decode cX12_codeOf 22 = .ok (.iconst 1, 1) := by decide +kernel
theorem dX12_codeOf_23 : decode cX12_codeOf 23 = .ok (.iadd, 1) := by decide +kernel
theorem dX12_codeOf_24 : decode cX12_codeOf 24 = .ok (.istore_n 1, 1) := by decide +kernel
theorem dX12_codeOf_25 : decode cX12_codeOf 25 = .ok (.iinc 2 1, 3) := by decide +kernel
theorem dX12_codeOf_28 : decode cX12_codeOf 28 = .ok (.goto (-24), 3) := by decide +kernel
theorem dX12_codeOf_31 : decode cX12_codeOf 31 = .ok (.iload_n 1, 1) := by decide +kernel
theorem dX12_codeOf_32 : decode cX12_codeOf 32 = .ok (.ireturn, 1) := by decide +kernel
theorem dX12_zeros_0 : decode cX12_zeros 0 = .ok (.iconst 0, 1) := by decide +kernel
theorem dX12_zeros_1 : decode cX12_zeros 1 = .ok (.istore_n 2, 1) := by decide +kernel
theorem dX12_zeros_2 : decode cX12_zeros 2 = .ok (.iconst 0, 1) := by decide +kernel
theorem dX12_zeros_3 : decode cX12_zeros 3 = .ok (.istore_n 3, 1) := by decide +kernel
theorem dX12_zeros_4 : decode cX12_zeros 4 = .ok (.iload_n 3, 1) := by decide +kernel
theorem dX12_zeros_5 : decode cX12_zeros 5 = .ok (.iload_n 1, 1) := by decide +kernel
theorem dX12_zeros_6 : decode cX12_zeros 6 = .ok (.if_icmp .ge 26, 3) := by decide +kernel
theorem dX12_zeros_9 : decode cX12_zeros 9 = .ok (.iload_n 2, 1) := by decide +kernel
theorem dX12_zeros_10 : decode cX12_zeros 10 = .ok (.iload_n 0, 1) := by decide +kernel
theorem dX12_zeros_11 : decode cX12_zeros 11 = .ok (.iload_n 1, 1) := by decide +kernel
theorem dX12_zeros_12 : decode cX12_zeros 12 = .ok (.iload_n 3, 1) := by decide +kernel
theorem dX12_zeros_13 : decode cX12_zeros 13 = .ok (.invokestatic 253, 3) := by decide +kernel
theorem dX12_zeros_16 : decode cX12_zeros 16 = .ok (.ifCond .ne 7, 3) := by decide +kernel
theorem dX12_zeros_19 : decode cX12_zeros 19 = .ok (.iconst 1, 1) := by decide +kernel
theorem dX12_zeros_20 : decode cX12_zeros 20 = .ok (.goto 4, 3) := by decide +kernel
theorem dX12_zeros_23 : decode cX12_zeros 23 = .ok (.iconst 0, 1) := by decide +kernel
theorem dX12_zeros_24 : decode cX12_zeros 24 = .ok (.iadd, 1) := by decide +kernel
theorem dX12_zeros_25 : decode cX12_zeros 25 = .ok (.istore_n 2, 1) := by decide +kernel
theorem dX12_zeros_26 : decode cX12_zeros 26 = .ok (.iinc 3 1, 3) := by decide +kernel
theorem dX12_zeros_29 : decode cX12_zeros 29 = .ok (.goto (-25), 3) := by decide +kernel
theorem dX12_zeros_32 : decode cX12_zeros 32 = .ok (.iload_n 2, 1) := by decide +kernel
theorem dX12_zeros_33 : decode cX12_zeros 33 = .ok (.ireturn, 1) := by decide +kernel
theorem dX12_marksBoth_0 : decode cX12_marksBoth 0 = .ok (.aload_n 0, 1) := by decide +kernel
theorem dX12_marksBoth_1 : decode cX12_marksBoth 1 = .ok (.invokevirtual 256, 3) := by decide +kernel
theorem dX12_marksBoth_4 : decode cX12_marksBoth 4 = .ok (.istore_n 1, 1) := by decide +kernel
theorem dX12_marksBoth_5 : decode cX12_marksBoth 5 = .ok (.iload_n 1, 1) := by decide +kernel
theorem dX12_marksBoth_6 : decode cX12_marksBoth 6 = .ok (.aload_n 0, 1) := by decide +kernel
theorem dX12_marksBoth_7 : decode cX12_marksBoth 7 = .ok (.invokevirtual 73, 3) := by decide +kernel
theorem dX12_marksBoth_10 : decode cX12_marksBoth 10 = .ok (.invokestatic 259, 3) := by decide +kernel
theorem dX12_marksBoth_13 : decode cX12_marksBoth 13 = .ok (.aload_n 0, 1) := by decide +kernel
theorem dX12_marksBoth_14 : decode cX12_marksBoth 14 = .ok (.invokevirtual 73, 3) := by decide +kernel
theorem dX12_marksBoth_17 : decode cX12_marksBoth 17 = .ok (.if_icmp .ge 27, 3) := by decide +kernel
theorem dX12_marksBoth_20 : decode cX12_marksBoth 20 = .ok (.aload_n 0, 1) := by decide +kernel
theorem dX12_marksBoth_21 : decode cX12_marksBoth 21 = .ok (.getfield 38, 3) := by decide +kernel
theorem dX12_marksBoth_24 : decode cX12_marksBoth 24 = .ok (.iload_n 1, 1) := by decide +kernel
theorem dX12_marksBoth_25 : decode cX12_marksBoth 25 = .ok (.iconst 1, 1) := by decide +kernel
theorem dX12_marksBoth_26 : decode cX12_marksBoth 26 = .ok (.bastore, 1) := by decide +kernel
theorem dX12_marksBoth_27 : decode cX12_marksBoth 27 = .ok (.aload_n 0, 1) := by decide +kernel
theorem dX12_marksBoth_28 : decode cX12_marksBoth 28 = .ok (.getfield 38, 3) := by decide +kernel
theorem dX12_marksBoth_31 : decode cX12_marksBoth 31 = .ok (.aload_n 0, 1) := by decide +kernel
theorem dX12_marksBoth_32 : decode cX12_marksBoth 32 = .ok (.invokevirtual 73, 3) := by decide +kernel
theorem dX12_marksBoth_35 : decode cX12_marksBoth 35 = .ok (.invokestatic 250, 3) := by decide +kernel
theorem dX12_marksBoth_38 : decode cX12_marksBoth 38 = .ok (.iconst 1, 1) := by decide +kernel
theorem dX12_marksBoth_39 : decode cX12_marksBoth 39 = .ok (.isub, 1) := by decide +kernel
theorem dX12_marksBoth_40 : decode cX12_marksBoth 40 = .ok (.iload_n 1, 1) := by decide +kernel
theorem dX12_marksBoth_41 : decode cX12_marksBoth 41 = .ok (.isub, 1) := by decide +kernel
theorem dX12_marksBoth_42 : decode cX12_marksBoth 42 = .ok (.iconst 1, 1) := by decide +kernel
theorem dX12_marksBoth_43 : decode cX12_marksBoth 43 = .ok (.bastore, 1) := by decide +kernel
theorem dX12_marksBoth_44 : decode cX12_marksBoth 44 = .ok (.return_, 1) := by decide +kernel
theorem dX12_marksCocircuits_0 : decode cX12_marksCocircuits 0 = .ok (.iconst 0, 1) := by decide +kernel
theorem dX12_marksCocircuits_1 : decode cX12_marksCocircuits 1 = .ok (.istore_n 1, 1) := by decide +kernel
theorem dX12_marksCocircuits_2 : decode cX12_marksCocircuits 2 = .ok (.iload_n 1, 1) := by decide +kernel
theorem dX12_marksCocircuits_3 : decode cX12_marksCocircuits 3 = .ok (.aload_n 0, 1) := by decide +kernel
theorem dX12_marksCocircuits_4 : decode cX12_marksCocircuits 4 = .ok (.invokevirtual 73, 3) := by decide +kernel
theorem dX12_marksCocircuits_7 : decode cX12_marksCocircuits 7 = .ok (.if_icmp .ge 60, 3) := by decide +kernel
theorem dX12_marksCocircuits_10 : decode cX12_marksCocircuits 10 = .ok (.iload_n 1, 1) := by decide +kernel
theorem dX12_marksCocircuits_11 : decode cX12_marksCocircuits 11 = .ok (.iconst 1, 1) := by decide +kernel
theorem dX12_marksCocircuits_12 : decode cX12_marksCocircuits 12 = .ok (.iadd, 1) := by decide +kernel
theorem dX12_marksCocircuits_13 : decode cX12_marksCocircuits 13 = .ok (.istore_n 2, 1) := by decide +kernel
theorem dX12_marksCocircuits_14 : decode cX12_marksCocircuits 14 = .ok (.iload_n 2, 1) := by decide +kernel
theorem dX12_marksCocircuits_15 : decode cX12_marksCocircuits 15 = .ok (.aload_n 0, 1) := by decide +kernel
theorem dX12_marksCocircuits_16 : decode cX12_marksCocircuits 16 = .ok (.invokevirtual 73, 3) := by decide +kernel
theorem dX12_marksCocircuits_19 : decode cX12_marksCocircuits 19 = .ok (.if_icmp .ge 42, 3) := by decide +kernel
theorem dX12_marksCocircuits_22 : decode cX12_marksCocircuits 22 = .ok (.iconst 0, 1) := by decide +kernel
theorem dX12_marksCocircuits_23 : decode cX12_marksCocircuits 23 = .ok (.istore_n 3, 1) := by decide +kernel
theorem dX12_marksCocircuits_24 : decode cX12_marksCocircuits 24 = .ok (.iload_n 3, 1) := by decide +kernel
theorem dX12_marksCocircuits_25 : decode cX12_marksCocircuits 25 = .ok (.aload_n 0, 1) := by decide +kernel
theorem dX12_marksCocircuits_26 : decode cX12_marksCocircuits 26 = .ok (.invokevirtual 73, 3) := by decide +kernel
theorem dX12_marksCocircuits_29 : decode cX12_marksCocircuits 29 = .ok (.if_icmp .ge 22, 3) := by decide +kernel
theorem dX12_marksCocircuits_32 : decode cX12_marksCocircuits 32 = .ok (.aload_n 0, 1) := by decide +kernel
theorem dX12_marksCocircuits_33 : decode cX12_marksCocircuits 33 = .ok (.getfield 41, 3) := by decide +kernel
theorem dX12_marksCocircuits_36 : decode cX12_marksCocircuits 36 = .ok (.iload_n 3, 1) := by decide +kernel
theorem dX12_marksCocircuits_37 : decode cX12_marksCocircuits 37 = .ok (.aload_n 0, 1) := by decide +kernel
theorem dX12_marksCocircuits_38 : decode cX12_marksCocircuits 38 = .ok (.iload_n 1, 1) := by decide +kernel
theorem dX12_marksCocircuits_39 : decode cX12_marksCocircuits 39 = .ok (.iload_n 2, 1) := by decide +kernel
theorem dX12_marksCocircuits_40 : decode cX12_marksCocircuits 40 = .ok (.iload_n 3, 1) := by decide +kernel
theorem dX12_marksCocircuits_41 : decode cX12_marksCocircuits 41 = .ok (.invokevirtual 182, 3) := by decide +kernel
theorem dX12_marksCocircuits_44 : decode cX12_marksCocircuits 44 = .ok (.iastore, 1) := by decide +kernel
theorem dX12_marksCocircuits_45 : decode cX12_marksCocircuits 45 = .ok (.iinc 3 1, 3) := by decide +kernel
theorem dX12_marksCocircuits_48 : decode cX12_marksCocircuits 48 = .ok (.goto (-24), 3) := by decide +kernel
theorem dX12_marksCocircuits_51 : decode cX12_marksCocircuits 51 = .ok (.aload_n 0, 1) := by decide +kernel
theorem dX12_marksCocircuits_52 : decode cX12_marksCocircuits 52 = .ok (.invokevirtual 262, 3) := by decide +kernel
theorem dX12_marksCocircuits_55 : decode cX12_marksCocircuits 55 = .ok (.iinc 2 1, 3) := by decide +kernel
theorem dX12_marksCocircuits_58 : decode cX12_marksCocircuits 58 = .ok (.goto (-44), 3) := by decide +kernel
theorem dX12_marksCocircuits_61 : decode cX12_marksCocircuits 61 = .ok (.iinc 1 1, 3) := by decide +kernel
theorem dX12_marksCocircuits_64 : decode cX12_marksCocircuits 64 = .ok (.goto (-62), 3) := by decide +kernel
theorem dX12_marksCocircuits_67 : decode cX12_marksCocircuits 67 = .ok (.return_, 1) := by decide +kernel
theorem dX12_marksCircuits_0 : decode cX12_marksCircuits 0 = .ok (.iconst 0, 1) := by decide +kernel
theorem dX12_marksCircuits_1 : decode cX12_marksCircuits 1 = .ok (.istore_n 1, 1) := by decide +kernel
theorem dX12_marksCircuits_2 : decode cX12_marksCircuits 2 = .ok (.iload_n 1, 1) := by decide +kernel
theorem dX12_marksCircuits_3 : decode cX12_marksCircuits 3 = .ok (.aload_n 0, 1) := by decide +kernel
theorem dX12_marksCircuits_4 : decode cX12_marksCircuits 4 = .ok (.invokevirtual 73, 3) := by decide +kernel
theorem dX12_marksCircuits_7 : decode cX12_marksCircuits 7 = .ok (.if_icmp .ge 153, 3) := by decide +kernel
theorem dX12_marksCircuits_10 : decode cX12_marksCircuits 10 = .ok (.iload_n 1, 1) := by decide +kernel
theorem dX12_marksCircuits_11 : decode cX12_marksCircuits 11 = .ok (.iconst 1, 1) := by decide +kernel
theorem dX12_marksCircuits_12 : decode cX12_marksCircuits 12 = .ok (.iadd, 1) := by decide +kernel
theorem dX12_marksCircuits_13 : decode cX12_marksCircuits 13 = .ok (.istore_n 2, 1) := by decide +kernel
theorem dX12_marksCircuits_14 : decode cX12_marksCircuits 14 = .ok (.iload_n 2, 1) := by decide +kernel
theorem dX12_marksCircuits_15 : decode cX12_marksCircuits 15 = .ok (.aload_n 0, 1) := by decide +kernel
theorem dX12_marksCircuits_16 : decode cX12_marksCircuits 16 = .ok (.invokevirtual 73, 3) := by decide +kernel
theorem dX12_marksCircuits_19 : decode cX12_marksCircuits 19 = .ok (.if_icmp .ge 135, 3) := by decide +kernel
theorem dX12_marksCircuits_22 : decode cX12_marksCircuits 22 = .ok (.iload_n 2, 1) := by decide +kernel
theorem dX12_marksCircuits_23 : decode cX12_marksCircuits 23 = .ok (.iconst 1, 1) := by decide +kernel
theorem dX12_marksCircuits_24 : decode cX12_marksCircuits 24 = .ok (.iadd, 1) := by decide +kernel
theorem dX12_marksCircuits_25 : decode cX12_marksCircuits 25 = .ok (.istore_n 3, 1) := by decide +kernel
theorem dX12_marksCircuits_26 : decode cX12_marksCircuits 26 = .ok (.iload_n 3, 1) := by decide +kernel
theorem dX12_marksCircuits_27 : decode cX12_marksCircuits 27 = .ok (.aload_n 0, 1) := by decide +kernel
theorem dX12_marksCircuits_28 : decode cX12_marksCircuits 28 = .ok (.invokevirtual 73, 3) := by decide +kernel
theorem dX12_marksCircuits_31 : decode cX12_marksCircuits 31 = .ok (.if_icmp .ge 117, 3) := by decide +kernel
theorem dX12_marksCircuits_34 : decode cX12_marksCircuits 34 = .ok (.iload_n 3, 1) := by decide +kernel
theorem dX12_marksCircuits_35 : decode cX12_marksCircuits 35 = .ok (.iconst 1, 1) := by decide +kernel
theorem dX12_marksCircuits_36 : decode cX12_marksCircuits 36 = .ok (.iadd, 1) := by decide +kernel
theorem dX12_marksCircuits_37 : decode cX12_marksCircuits 37 = .ok (.istore 4, 2) := by decide +kernel
theorem dX12_marksCircuits_39 : decode cX12_marksCircuits 39 = .ok (.iload 4, 2) := by decide +kernel
theorem dX12_marksCircuits_41 : decode cX12_marksCircuits 41 = .ok (.aload_n 0, 1) := by decide +kernel
theorem dX12_marksCircuits_42 : decode cX12_marksCircuits 42 = .ok (.invokevirtual 73, 3) := by decide +kernel
theorem dX12_marksCircuits_45 : decode cX12_marksCircuits 45 = .ok (.if_icmp .ge 97, 3) := by decide +kernel
theorem dX12_marksCircuits_48 : decode cX12_marksCircuits 48 = .ok (.iconst 0, 1) := by decide +kernel
theorem dX12_marksCircuits_49 : decode cX12_marksCircuits 49 = .ok (.istore 5, 2) := by decide +kernel
theorem dX12_marksCircuits_51 : decode cX12_marksCircuits 51 = .ok (.iload 5, 2) := by decide +kernel
theorem dX12_marksCircuits_53 : decode cX12_marksCircuits 53 = .ok (.aload_n 0, 1) := by decide +kernel
theorem dX12_marksCircuits_54 : decode cX12_marksCircuits 54 = .ok (.invokevirtual 73, 3) := by decide +kernel
theorem dX12_marksCircuits_57 : decode cX12_marksCircuits 57 = .ok (.if_icmp .ge 17, 3) := by decide +kernel
theorem dX12_marksCircuits_60 : decode cX12_marksCircuits 60 = .ok (.aload_n 0, 1) := by decide +kernel
theorem dX12_marksCircuits_61 : decode cX12_marksCircuits 61 = .ok (.getfield 41, 3) := by decide +kernel
theorem dX12_marksCircuits_64 : decode cX12_marksCircuits 64 = .ok (.iload 5, 2) := by decide +kernel
theorem dX12_marksCircuits_66 : decode cX12_marksCircuits 66 = .ok (.iconst 0, 1) := by decide +kernel
theorem dX12_marksCircuits_67 : decode cX12_marksCircuits 67 = .ok (.iastore, 1) := by decide +kernel
theorem dX12_marksCircuits_68 : decode cX12_marksCircuits 68 = .ok (.iinc 5 1, 3) := by decide +kernel
theorem dX12_marksCircuits_71 : decode cX12_marksCircuits 71 = .ok (.goto (-20), 3) := by decide +kernel
theorem dX12_marksCircuits_74 : decode cX12_marksCircuits 74 = .ok (.aload_n 0, 1) := by decide +kernel
theorem dX12_marksCircuits_75 : decode cX12_marksCircuits 75 = .ok (.getfield 41, 3) := by decide +kernel
theorem dX12_marksCircuits_78 : decode cX12_marksCircuits 78 = .ok (.iload_n 1, 1) := by decide +kernel
theorem dX12_marksCircuits_79 : decode cX12_marksCircuits 79 = .ok (.aload_n 0, 1) := by decide +kernel
theorem dX12_marksCircuits_80 : decode cX12_marksCircuits 80 = .ok (.iload_n 2, 1) := by decide +kernel
theorem dX12_marksCircuits_81 : decode cX12_marksCircuits 81 = .ok (.iload_n 3, 1) := by decide +kernel
theorem dX12_marksCircuits_82 : decode cX12_marksCircuits 82 = .ok (.iload 4, 2) := by decide +kernel
theorem dX12_marksCircuits_84 : decode cX12_marksCircuits 84 = .ok (.invokevirtual 182, 3) := by decide +kernel
theorem dX12_marksCircuits_87 : decode cX12_marksCircuits 87 = .ok (.iastore, 1) := by decide +kernel
theorem dX12_marksCircuits_88 : decode cX12_marksCircuits 88 = .ok (.aload_n 0, 1) := by decide +kernel
theorem dX12_marksCircuits_89 : decode cX12_marksCircuits 89 = .ok (.getfield 41, 3) := by decide +kernel
theorem dX12_marksCircuits_92 : decode cX12_marksCircuits 92 = .ok (.iload_n 2, 1) := by decide +kernel
theorem dX12_marksCircuits_93 : decode cX12_marksCircuits 93 = .ok (.aload_n 0, 1) := by decide +kernel
theorem dX12_marksCircuits_94 : decode cX12_marksCircuits 94 = .ok (.iload_n 1, 1) := by decide +kernel
theorem dX12_marksCircuits_95 : decode cX12_marksCircuits 95 = .ok (.iload_n 3, 1) := by decide +kernel
theorem dX12_marksCircuits_96 : decode cX12_marksCircuits 96 = .ok (.iload 4, 2) := by decide +kernel
theorem dX12_marksCircuits_98 : decode cX12_marksCircuits 98 = .ok (.invokevirtual 182, 3) := by decide +kernel
theorem dX12_marksCircuits_101 : decode cX12_marksCircuits 101 = .ok (.ineg, 1) := by decide +kernel
theorem dX12_marksCircuits_102 : decode cX12_marksCircuits 102 = .ok (.iastore, 1) := by decide +kernel
theorem dX12_marksCircuits_103 : decode cX12_marksCircuits 103 = .ok (.aload_n 0, 1) := by decide +kernel
theorem dX12_marksCircuits_104 : decode cX12_marksCircuits 104 = .ok (.getfield 41, 3) := by decide +kernel
theorem dX12_marksCircuits_107 : decode cX12_marksCircuits 107 = .ok (.iload_n 3, 1) := by decide +kernel
theorem dX12_marksCircuits_108 : decode cX12_marksCircuits 108 = .ok (.aload_n 0, 1) := by decide +kernel
theorem dX12_marksCircuits_109 : decode cX12_marksCircuits 109 = .ok (.iload_n 1, 1) := by decide +kernel
theorem dX12_marksCircuits_110 : decode cX12_marksCircuits 110 = .ok (.iload_n 2, 1) := by decide +kernel
theorem dX12_marksCircuits_111 : decode cX12_marksCircuits 111 = .ok (.iload 4, 2) := by decide +kernel
theorem dX12_marksCircuits_113 : decode cX12_marksCircuits 113 = .ok (.invokevirtual 182, 3) := by decide +kernel
theorem dX12_marksCircuits_116 : decode cX12_marksCircuits 116 = .ok (.iastore, 1) := by decide +kernel
theorem dX12_marksCircuits_117 : decode cX12_marksCircuits 117 = .ok (.aload_n 0, 1) := by decide +kernel
theorem dX12_marksCircuits_118 : decode cX12_marksCircuits 118 = .ok (.getfield 41, 3) := by decide +kernel
theorem dX12_marksCircuits_121 : decode cX12_marksCircuits 121 = .ok (.iload 4, 2) := by decide +kernel
theorem dX12_marksCircuits_123 : decode cX12_marksCircuits 123 = .ok (.aload_n 0, 1) := by decide +kernel
theorem dX12_marksCircuits_124 : decode cX12_marksCircuits 124 = .ok (.iload_n 1, 1) := by decide +kernel
theorem dX12_marksCircuits_125 : decode cX12_marksCircuits 125 = .ok (.iload_n 2, 1) := by decide +kernel
theorem dX12_marksCircuits_126 : decode cX12_marksCircuits 126 = .ok (.iload_n 3, 1) := by decide +kernel
theorem dX12_marksCircuits_127 : decode cX12_marksCircuits 127 = .ok (.invokevirtual 182, 3) := by decide +kernel
theorem dX12_marksCircuits_130 : decode cX12_marksCircuits 130 = .ok (.ineg, 1) := by decide +kernel
theorem dX12_marksCircuits_131 : decode cX12_marksCircuits 131 = .ok (.iastore, 1) := by decide +kernel
theorem dX12_marksCircuits_132 : decode cX12_marksCircuits 132 = .ok (.aload_n 0, 1) := by decide +kernel
theorem dX12_marksCircuits_133 : decode cX12_marksCircuits 133 = .ok (.invokevirtual 262, 3) := by decide +kernel
theorem dX12_marksCircuits_136 : decode cX12_marksCircuits 136 = .ok (.iinc 4 1, 3) := by decide +kernel
theorem dX12_marksCircuits_139 : decode cX12_marksCircuits 139 = .ok (.goto (-100), 3) := by decide +kernel
theorem dX12_marksCircuits_142 : decode cX12_marksCircuits 142 = .ok (.iinc 3 1, 3) := by decide +kernel
theorem dX12_marksCircuits_145 : decode cX12_marksCircuits 145 = .ok (.goto (-119), 3) := by decide +kernel
theorem dX12_marksCircuits_148 : decode cX12_marksCircuits 148 = .ok (.iinc 2 1, 3) := by decide +kernel
theorem dX12_marksCircuits_151 : decode cX12_marksCircuits 151 = .ok (.goto (-137), 3) := by decide +kernel
theorem dX12_marksCircuits_154 : decode cX12_marksCircuits 154 = .ok (.iinc 1 1, 3) := by decide +kernel
theorem dX12_marksCircuits_157 : decode cX12_marksCircuits 157 = .ok (.goto (-155), 3) := by decide +kernel
theorem dX12_marksCircuits_160 : decode cX12_marksCircuits 160 = .ok (.return_, 1) := by decide +kernel
theorem dX12_areAcross_0 : decode cX12_areAcross 0 = .ok (.iconst 0, 1) := by decide +kernel
theorem dX12_areAcross_1 : decode cX12_areAcross 1 = .ok (.istore_n 3, 1) := by decide +kernel
theorem dX12_areAcross_2 : decode cX12_areAcross 2 = .ok (.iconst 0, 1) := by decide +kernel
theorem dX12_areAcross_3 : decode cX12_areAcross 3 = .ok (.istore 4, 2) := by decide +kernel
theorem dX12_areAcross_5 : decode cX12_areAcross 5 = .ok (.iconst 0, 1) := by decide +kernel
theorem dX12_areAcross_6 : decode cX12_areAcross 6 = .ok (.istore 5, 2) := by decide +kernel
theorem dX12_areAcross_8 : decode cX12_areAcross 8 = .ok (.iload 5, 2) := by decide +kernel
theorem dX12_areAcross_10 : decode cX12_areAcross 10 = .ok (.aload_n 0, 1) := by decide +kernel
theorem dX12_areAcross_11 : decode cX12_areAcross 11 = .ok (.invokevirtual 73, 3) := by decide +kernel
theorem dX12_areAcross_14 : decode cX12_areAcross 14 = .ok (.if_icmp .ge 64, 3) := by decide +kernel
theorem dX12_areAcross_17 : decode cX12_areAcross 17 = .ok (.iload_n 1, 1) := by decide +kernel
theorem dX12_areAcross_18 : decode cX12_areAcross 18 = .ok (.aload_n 0, 1) := by decide +kernel
theorem dX12_areAcross_19 : decode cX12_areAcross 19 = .ok (.invokevirtual 73, 3) := by decide +kernel
theorem dX12_areAcross_22 : decode cX12_areAcross 22 = .ok (.iload 5, 2) := by decide +kernel
theorem dX12_areAcross_24 : decode cX12_areAcross 24 = .ok (.invokestatic 253, 3) := by decide +kernel
theorem dX12_areAcross_27 : decode cX12_areAcross 27 = .ok (.iload_n 2, 1) := by decide +kernel
theorem dX12_areAcross_28 : decode cX12_areAcross 28 = .ok (.aload_n 0, 1) := by decide +kernel
theorem dX12_areAcross_29 : decode cX12_areAcross 29 = .ok (.invokevirtual 73, 3) := by decide +kernel
theorem dX12_areAcross_32 : decode cX12_areAcross 32 = .ok (.iload 5, 2) := by decide +kernel
theorem dX12_areAcross_34 : decode cX12_areAcross 34 = .ok (.invokestatic 253, 3) := by decide +kernel
theorem dX12_areAcross_37 : decode cX12_areAcross 37 = .ok (.imul, 1) := by decide +kernel
theorem dX12_areAcross_38 : decode cX12_areAcross 38 = .ok (.istore 6, 2) := by decide +kernel
theorem dX12_areAcross_40 : decode cX12_areAcross 40 = .ok (.iload_n 3, 1) := by decide +kernel
theorem dX12_areAcross_41 : decode cX12_areAcross 41 = .ok (.ifCond .ne 8, 3) := by decide +kernel
theorem dX12_areAcross_44 : decode cX12_areAcross 44 = .ok (.iload 6, 2) := by decide +kernel
theorem dX12_areAcross_46 : decode cX12_areAcross 46 = .ok (.ifCond .le 7, 3) := by decide +kernel
theorem dX12_areAcross_49 : decode cX12_areAcross 49 = .ok (.iconst 1, 1) := by decide +kernel
theorem dX12_areAcross_50 : decode cX12_areAcross 50 = .ok (.goto 4, 3) := by decide +kernel
theorem dX12_areAcross_53 : decode cX12_areAcross 53 = .ok (.iconst 0, 1) := by decide +kernel
theorem dX12_areAcross_54 : decode cX12_areAcross 54 = .ok (.istore_n 3, 1) := by decide +kernel
theorem dX12_areAcross_55 : decode cX12_areAcross 55 = .ok (.iload 4, 2) := by decide +kernel
theorem dX12_areAcross_57 : decode cX12_areAcross 57 = .ok (.ifCond .ne 8, 3) := by decide +kernel
theorem dX12_areAcross_60 : decode cX12_areAcross 60 = .ok (.iload 6, 2) := by decide +kernel
theorem dX12_areAcross_62 : decode cX12_areAcross 62 = .ok (.ifCond .ge 7, 3) := by decide +kernel
theorem dX12_areAcross_65 : decode cX12_areAcross 65 = .ok (.iconst 1, 1) := by decide +kernel
theorem dX12_areAcross_66 : decode cX12_areAcross 66 = .ok (.goto 4, 3) := by decide +kernel
theorem dX12_areAcross_69 : decode cX12_areAcross 69 = .ok (.iconst 0, 1) := by decide +kernel
theorem dX12_areAcross_70 : decode cX12_areAcross 70 = .ok (.istore 4, 2) := by decide +kernel
theorem dX12_areAcross_72 : decode cX12_areAcross 72 = .ok (.iinc 5 1, 3) := by decide +kernel
theorem dX12_areAcross_75 : decode cX12_areAcross 75 = .ok (.goto (-67), 3) := by decide +kernel
theorem dX12_areAcross_78 : decode cX12_areAcross 78 = .ok (.iload_n 3, 1) := by decide +kernel
theorem dX12_areAcross_79 : decode cX12_areAcross 79 = .ok (.iload 4, 2) := by decide +kernel
theorem dX12_areAcross_81 : decode cX12_areAcross 81 = .ok (.if_icmp .ne 7, 3) := by decide +kernel
theorem dX12_areAcross_84 : decode cX12_areAcross 84 = .ok (.iconst 1, 1) := by decide +kernel
theorem dX12_areAcross_85 : decode cX12_areAcross 85 = .ok (.goto 4, 3) := by decide +kernel
theorem dX12_areAcross_88 : decode cX12_areAcross 88 = .ok (.iconst 0, 1) := by decide +kernel
theorem dX12_areAcross_89 : decode cX12_areAcross 89 = .ok (.ireturn, 1) := by decide +kernel
theorem dX12_marksCovectors_0 : decode cX12_marksCovectors 0 = .ok (.aload_n 0, 1) := by decide +kernel
theorem dX12_marksCovectors_1 : decode cX12_marksCovectors 1 = .ok (.invokevirtual 265, 3) := by decide +kernel
theorem dX12_marksCovectors_4 : decode cX12_marksCovectors 4 = .ok (.iconst 0, 1) := by decide +kernel
theorem dX12_marksCovectors_5 : decode cX12_marksCovectors 5 = .ok (.istore_n 1, 1) := by decide +kernel
theorem dX12_marksCovectors_6 : decode cX12_marksCovectors 6 = .ok (.iconst 0, 1) := by decide +kernel
theorem dX12_marksCovectors_7 : decode cX12_marksCovectors 7 = .ok (.istore_n 2, 1) := by decide +kernel
theorem dX12_marksCovectors_8 : decode cX12_marksCovectors 8 = .ok (.iload_n 2, 1) := by decide +kernel
theorem dX12_marksCovectors_9 : decode cX12_marksCovectors 9 = .ok (.aload_n 0, 1) := by decide +kernel
theorem dX12_marksCovectors_10 : decode cX12_marksCovectors 10 = .ok (.getfield 268, 3) := by decide +kernel
theorem dX12_marksCovectors_13 : decode cX12_marksCovectors 13 = .ok (.if_icmp .ge 28, 3) := by decide +kernel
theorem dX12_marksCovectors_16 : decode cX12_marksCovectors 16 = .ok (.aload_n 0, 1) := by decide +kernel
theorem dX12_marksCovectors_17 : decode cX12_marksCovectors 17 = .ok (.getfield 38, 3) := by decide +kernel
theorem dX12_marksCovectors_20 : decode cX12_marksCovectors 20 = .ok (.iload_n 2, 1) := by decide +kernel
theorem dX12_marksCovectors_21 : decode cX12_marksCovectors 21 = .ok (.baload, 1) := by decide +kernel
theorem dX12_marksCovectors_22 : decode cX12_marksCovectors 22 = .ok (.ifCond .eq 13, 3) := by decide +kernel
theorem dX12_marksCovectors_25 : decode cX12_marksCovectors 25 = .ok (.aload_n 0, 1) := by decide +kernel
theorem dX12_marksCovectors_26 : decode cX12_marksCovectors 26 = .ok (.getfield 44, 3) := by decide +kernel
theorem dX12_marksCovectors_29 : decode cX12_marksCovectors 29 = .ok (.iload_n 1, 1) := by decide +kernel
theorem dX12_marksCovectors_30 : decode cX12_marksCovectors 30 = .ok (.iload_n 2, 1) := by decide +kernel
theorem dX12_marksCovectors_31 : decode cX12_marksCovectors 31 = .ok (.iastore, 1) := by decide +kernel
theorem dX12_marksCovectors_32 : decode cX12_marksCovectors 32 = .ok (.iinc 1 1, 3) := by decide +kernel
theorem dX12_marksCovectors_35 : decode cX12_marksCovectors 35 = .ok (.iinc 2 1, 3) := by decide +kernel
theorem dX12_marksCovectors_38 : decode cX12_marksCovectors 38 = .ok (.goto (-30), 3) := by decide +kernel
theorem dX12_marksCovectors_41 : decode cX12_marksCovectors 41 = .ok (.iconst 0, 1) := by decide +kernel
theorem dX12_marksCovectors_42 : decode cX12_marksCovectors 42 = .ok (.istore_n 2, 1) := by decide +kernel
theorem dX12_marksCovectors_43 : decode cX12_marksCovectors 43 = .ok (.iload_n 2, 1) := by decide +kernel
theorem dX12_marksCovectors_44 : decode cX12_marksCovectors 44 = .ok (.aload_n 0, 1) := by decide +kernel
theorem dX12_marksCovectors_45 : decode cX12_marksCovectors 45 = .ok (.getfield 268, 3) := by decide +kernel
theorem dX12_marksCovectors_48 : decode cX12_marksCovectors 48 = .ok (.if_icmp .ge 50, 3) := by decide +kernel
theorem dX12_marksCovectors_51 : decode cX12_marksCovectors 51 = .ok (.iconst 1, 1) := by decide +kernel
theorem dX12_marksCovectors_52 : decode cX12_marksCovectors 52 = .ok (.istore_n 3, 1) := by decide +kernel
theorem dX12_marksCovectors_53 : decode cX12_marksCovectors 53 = .ok (.iconst 0, 1) := by decide +kernel
theorem dX12_marksCovectors_54 : decode cX12_marksCovectors 54 = .ok (.istore 4, 2) := by decide +kernel
theorem dX12_marksCovectors_56 : decode cX12_marksCovectors 56 = .ok (.iload 4, 2) := by decide +kernel
theorem dX12_marksCovectors_58 : decode cX12_marksCovectors 58 = .ok (.iload_n 1, 1) := by decide +kernel
theorem dX12_marksCovectors_59 : decode cX12_marksCovectors 59 = .ok (.if_icmp .ge 26, 3) := by decide +kernel
theorem dX12_marksCovectors_62 : decode cX12_marksCovectors 62 = .ok (.iload_n 3, 1) := by decide +kernel
theorem dX12_marksCovectors_63 : decode cX12_marksCovectors 63 = .ok (.ifCond .eq 22, 3) := by decide +kernel
theorem dX12_marksCovectors_66 : decode cX12_marksCovectors 66 = .ok (.aload_n 0, 1) := by decide +kernel
theorem dX12_marksCovectors_67 : decode cX12_marksCovectors 67 = .ok (.iload_n 2, 1) := by decide +kernel
theorem dX12_marksCovectors_68 : decode cX12_marksCovectors 68 = .ok (.aload_n 0, 1) := by decide +kernel
theorem dX12_marksCovectors_69 : decode cX12_marksCovectors 69 = .ok (.getfield 44, 3) := by decide +kernel
theorem dX12_marksCovectors_72 : decode cX12_marksCovectors 72 = .ok (.iload 4, 2) := by decide +kernel
theorem dX12_marksCovectors_74 : decode cX12_marksCovectors 74 = .ok (.iaload, 1) := by decide +kernel
theorem dX12_marksCovectors_75 : decode cX12_marksCovectors 75 = .ok (.invokevirtual 271, 3) := by decide +kernel
theorem dX12_marksCovectors_78 : decode cX12_marksCovectors 78 = .ok (.istore_n 3, 1) := by decide +kernel
theorem dX12_marksCovectors_79 : decode cX12_marksCovectors 79 = .ok (.iinc 4 1, 3) := by decide +kernel
theorem dX12_marksCovectors_82 : decode cX12_marksCovectors 82 = .ok (.goto (-26), 3) := by decide +kernel
theorem dX12_marksCovectors_85 : decode cX12_marksCovectors 85 = .ok (.aload_n 0, 1) := by decide +kernel
theorem dX12_marksCovectors_86 : decode cX12_marksCovectors 86 = .ok (.getfield 38, 3) := by decide +kernel
theorem dX12_marksCovectors_89 : decode cX12_marksCovectors 89 = .ok (.iload_n 2, 1) := by decide +kernel
theorem dX12_marksCovectors_90 : decode cX12_marksCovectors 90 = .ok (.iload_n 3, 1) := by decide +kernel
theorem dX12_marksCovectors_91 : decode cX12_marksCovectors 91 = .ok (.bastore, 1) := by decide +kernel
theorem dX12_marksCovectors_92 : decode cX12_marksCovectors 92 = .ok (.iinc 2 1, 3) := by decide +kernel
theorem dX12_marksCovectors_95 : decode cX12_marksCovectors 95 = .ok (.goto (-52), 3) := by decide +kernel
theorem dX12_marksCovectors_98 : decode cX12_marksCovectors 98 = .ok (.return_, 1) := by decide +kernel
theorem dX12_marksTopes_0 : decode cX12_marksTopes 0 = .ok (.aload_n 0, 1) := by decide +kernel
theorem dX12_marksTopes_1 : decode cX12_marksTopes 1 = .ok (.invokevirtual 275, 3) := by decide +kernel
theorem dX12_marksTopes_4 : decode cX12_marksTopes 4 = .ok (.bipush 6, 2) := by decide +kernel
theorem dX12_marksTopes_6 : decode cX12_marksTopes 6 = .ok (.istore_n 1, 1) := by decide +kernel
theorem dX12_marksTopes_7 : decode cX12_marksTopes 7 = .ok (.iconst 0, 1) := by decide +kernel
theorem dX12_marksTopes_8 : decode cX12_marksTopes 8 = .ok (.istore_n 2, 1) := by decide +kernel
theorem dX12_marksTopes_9 : decode cX12_marksTopes 9 = .ok (.iload_n 2, 1) := by decide +kernel
theorem dX12_marksTopes_10 : decode cX12_marksTopes 10 = .ok (.aload_n 0, 1) := by decide +kernel
theorem dX12_marksTopes_11 : decode cX12_marksTopes 11 = .ok (.getfield 268, 3) := by decide +kernel
theorem dX12_marksTopes_14 : decode cX12_marksTopes 14 = .ok (.if_icmp .ge 43, 3) := by decide +kernel
theorem dX12_marksTopes_17 : decode cX12_marksTopes 17 = .ok (.aload_n 0, 1) := by decide +kernel
theorem dX12_marksTopes_18 : decode cX12_marksTopes 18 = .ok (.getfield 38, 3) := by decide +kernel
theorem dX12_marksTopes_21 : decode cX12_marksTopes 21 = .ok (.iload_n 2, 1) := by decide +kernel
theorem dX12_marksTopes_22 : decode cX12_marksTopes 22 = .ok (.baload, 1) := by decide +kernel
theorem dX12_marksTopes_23 : decode cX12_marksTopes 23 = .ok (.ifCond .eq 26, 3) := by decide +kernel
theorem dX12_marksTopes_26 : decode cX12_marksTopes 26 = .ok (.iload_n 2, 1) := by decide +kernel
theorem dX12_marksTopes_27 : decode cX12_marksTopes 27 = .ok (.aload_n 0, 1) := by decide +kernel
theorem dX12_marksTopes_28 : decode cX12_marksTopes 28 = .ok (.invokevirtual 73, 3) := by decide +kernel
theorem dX12_marksTopes_31 : decode cX12_marksTopes 31 = .ok (.invokestatic 259, 3) := by decide +kernel
theorem dX12_marksTopes_34 : decode cX12_marksTopes 34 = .ok (.iload_n 1, 1) := by decide +kernel
theorem dX12_marksTopes_35 : decode cX12_marksTopes 35 = .ok (.if_icmp .ge 14, 3) := by decide +kernel
theorem dX12_marksTopes_38 : decode cX12_marksTopes 38 = .ok (.iload_n 2, 1) := by decide +kernel
theorem dX12_marksTopes_39 : decode cX12_marksTopes 39 = .ok (.aload_n 0, 1) := by decide +kernel
theorem dX12_marksTopes_40 : decode cX12_marksTopes 40 = .ok (.invokevirtual 73, 3) := by decide +kernel
theorem dX12_marksTopes_43 : decode cX12_marksTopes 43 = .ok (.invokestatic 259, 3) := by decide +kernel
theorem dX12_marksTopes_46 : decode cX12_marksTopes 46 = .ok (.goto 4, 3) := by decide +kernel
theorem dX12_marksTopes_49 : decode cX12_marksTopes 49 = .ok (.iload_n 1, 1) := by decide +kernel
theorem dX12_marksTopes_50 : decode cX12_marksTopes 50 = .ok (.istore_n 1, 1) := by decide +kernel
theorem dX12_marksTopes_51 : decode cX12_marksTopes 51 = .ok (.iinc 2 1, 3) := by decide +kernel
theorem dX12_marksTopes_54 : decode cX12_marksTopes 54 = .ok (.goto (-45), 3) := by decide +kernel
theorem dX12_marksTopes_57 : decode cX12_marksTopes 57 = .ok (.iconst 0, 1) := by decide +kernel
theorem dX12_marksTopes_58 : decode cX12_marksTopes 58 = .ok (.istore_n 2, 1) := by decide +kernel
theorem dX12_marksTopes_59 : decode cX12_marksTopes 59 = .ok (.iload_n 2, 1) := by decide +kernel
theorem dX12_marksTopes_60 : decode cX12_marksTopes 60 = .ok (.aload_n 0, 1) := by decide +kernel
theorem dX12_marksTopes_61 : decode cX12_marksTopes 61 = .ok (.getfield 268, 3) := by decide +kernel
theorem dX12_marksTopes_64 : decode cX12_marksTopes 64 = .ok (.if_icmp .ge 41, 3) := by decide +kernel
theorem dX12_marksTopes_67 : decode cX12_marksTopes 67 = .ok (.aload_n 0, 1) := by decide +kernel
theorem dX12_marksTopes_68 : decode cX12_marksTopes 68 = .ok (.getfield 38, 3) := by decide +kernel
theorem dX12_marksTopes_71 : decode cX12_marksTopes 71 = .ok (.iload_n 2, 1) := by decide +kernel
theorem dX12_marksTopes_72 : decode cX12_marksTopes 72 = .ok (.aload_n 0, 1) := by decide +kernel
theorem dX12_marksTopes_73 : decode cX12_marksTopes 73 = .ok (.getfield 38, 3) := by decide +kernel
theorem dX12_marksTopes_76 : decode cX12_marksTopes 76 = .ok (.iload_n 2, 1) := by decide +kernel
theorem dX12_marksTopes_77 : decode cX12_marksTopes 77 = .ok (.baload, 1) := by decide +kernel
theorem dX12_marksTopes_78 : decode cX12_marksTopes 78 = .ok (.ifCond .eq 19, 3) := by decide +kernel
theorem dX12_marksTopes_81 : decode cX12_marksTopes 81 = .ok (.iload_n 2, 1) := by decide +kernel
theorem dX12_marksTopes_82 : decode cX12_marksTopes 82 = .ok (.aload_n 0, 1) := by decide +kernel
theorem dX12_marksTopes_83 : decode cX12_marksTopes 83 = .ok (.invokevirtual 73, 3) := by decide +kernel
theorem dX12_marksTopes_86 : decode cX12_marksTopes 86 = .ok (.invokestatic 259, 3) := by decide +kernel
theorem dX12_marksTopes_89 : decode cX12_marksTopes 89 = .ok (.iload_n 1, 1) := by decide +kernel
theorem dX12_marksTopes_90 : decode cX12_marksTopes 90 = .ok (.if_icmp .ne 7, 3) := by decide +kernel
theorem dX12_marksTopes_93 : decode cX12_marksTopes 93 = .ok (.iconst 1, 1) := by decide +kernel
theorem dX12_marksTopes_94 : decode cX12_marksTopes 94 = .ok (.goto 4, 3) := by decide +kernel
theorem dX12_marksTopes_97 : decode cX12_marksTopes 97 = .ok (.iconst 0, 1) := by decide +kernel
theorem dX12_marksTopes_98 : decode cX12_marksTopes 98 = .ok (.bastore, 1) := by decide +kernel
theorem dX12_marksTopes_99 : decode cX12_marksTopes 99 = .ok (.iinc 2 1, 3) := by decide +kernel
theorem dX12_marksTopes_102 : decode cX12_marksTopes 102 = .ok (.goto (-43), 3) := by decide +kernel
theorem dX12_marksTopes_105 : decode cX12_marksTopes 105 = .ok (.return_, 1) := by decide +kernel
theorem dX12_marksKind_0 : decode cX12_marksKind 0 = .ok (.aload_n 0, 1) := by decide +kernel
theorem dX12_marksKind_1 : decode cX12_marksKind 1 = .ok (.aload_n 0, 1) := by decide +kernel
theorem dX12_marksKind_2 : decode cX12_marksKind 2 = .ok (.invokevirtual 73, 3) := by decide +kernel
theorem dX12_marksKind_5 : decode cX12_marksKind 5 = .ok (.invokestatic 250, 3) := by decide +kernel
theorem dX12_marksKind_8 : decode cX12_marksKind 8 = .ok (.putfield 268, 3) := by decide +kernel
theorem dX12_marksKind_11 : decode cX12_marksKind 11 = .ok (.iconst 0, 1) := by decide +kernel
theorem dX12_marksKind_12 : decode cX12_marksKind 12 = .ok (.istore_n 2, 1) := by decide +kernel
theorem dX12_marksKind_13 : decode cX12_marksKind 13 = .ok (.iload_n 2, 1) := by decide +kernel
theorem dX12_marksKind_14 : decode cX12_marksKind 14 = .ok (.sipush 729, 3) := by decide +kernel
theorem dX12_marksKind_17 : decode cX12_marksKind 17 = .ok (.if_icmp .ge 16, 3) := by decide +kernel
theorem dX12_marksKind_20 : decode cX12_marksKind 20 = .ok (.aload_n 0, 1) := by decide +kernel
theorem dX12_marksKind_21 : decode cX12_marksKind 21 = .ok (.getfield 38, 3) := by decide +kernel
theorem dX12_marksKind_24 : decode cX12_marksKind 24 = .ok (.iload_n 2, 1) := by decide +kernel
theorem dX12_marksKind_25 : decode cX12_marksKind 25 = .ok (.iconst 0, 1) := by decide +kernel
theorem dX12_marksKind_26 : decode cX12_marksKind 26 = .ok (.bastore, 1) := by decide +kernel
theorem dX12_marksKind_27 : decode cX12_marksKind 27 = .ok (.iinc 2 1, 3) := by decide +kernel
theorem dX12_marksKind_30 : decode cX12_marksKind 30 = .ok (.goto (-17), 3) := by decide +kernel
theorem dX12_marksKind_33 : decode cX12_marksKind 33 = .ok (.iload_n 1, 1) := by decide +kernel
theorem dX12_marksKind_34 : decode cX12_marksKind 34 = .ok (.tableswitch 47 0 2 #[26, 33, 40], 26) := by decide +kernel
theorem dX12_marksKind_60 : decode cX12_marksKind 60 = .ok (.aload_n 0, 1) := by decide +kernel
theorem dX12_marksKind_61 : decode cX12_marksKind 61 = .ok (.invokevirtual 278, 3) := by decide +kernel
theorem dX12_marksKind_64 : decode cX12_marksKind 64 = .ok (.goto 21, 3) := by decide +kernel
theorem dX12_marksKind_67 : decode cX12_marksKind 67 = .ok (.aload_n 0, 1) := by decide +kernel
theorem dX12_marksKind_68 : decode cX12_marksKind 68 = .ok (.invokevirtual 265, 3) := by decide +kernel
theorem dX12_marksKind_71 : decode cX12_marksKind 71 = .ok (.goto 14, 3) := by decide +kernel
theorem dX12_marksKind_74 : decode cX12_marksKind 74 = .ok (.aload_n 0, 1) := by decide +kernel
theorem dX12_marksKind_75 : decode cX12_marksKind 75 = .ok (.invokevirtual 275, 3) := by decide +kernel
theorem dX12_marksKind_78 : decode cX12_marksKind 78 = .ok (.goto 7, 3) := by decide +kernel
theorem dX12_marksKind_81 : decode cX12_marksKind 81 = .ok (.aload_n 0, 1) := by decide +kernel
theorem dX12_marksKind_82 : decode cX12_marksKind 82 = .ok (.invokevirtual 281, 3) := by decide +kernel
theorem dX12_marksKind_85 : decode cX12_marksKind 85 = .ok (.return_, 1) := by decide +kernel
theorem dX12_marked_0 : decode cX12_marked 0 = .ok (.iconst 0, 1) := by decide +kernel
theorem dX12_marked_1 : decode cX12_marked 1 = .ok (.istore_n 1, 1) := by decide +kernel
theorem dX12_marked_2 : decode cX12_marked 2 = .ok (.iconst 0, 1) := by decide +kernel
theorem dX12_marked_3 : decode cX12_marked 3 = .ok (.istore_n 2, 1) := by decide +kernel
theorem dX12_marked_4 : decode cX12_marked 4 = .ok (.iload_n 2, 1) := by decide +kernel
theorem dX12_marked_5 : decode cX12_marked 5 = .ok (.aload_n 0, 1) := by decide +kernel
theorem dX12_marked_6 : decode cX12_marked 6 = .ok (.getfield 268, 3) := by decide +kernel
theorem dX12_marked_9 : decode cX12_marked 9 = .ok (.if_icmp .ge 26, 3) := by decide +kernel
theorem dX12_marked_12 : decode cX12_marked 12 = .ok (.iload_n 1, 1) := by decide +kernel
theorem dX12_marked_13 : decode cX12_marked 13 = .ok (.aload_n 0, 1) := by decide +kernel
theorem dX12_marked_14 : decode cX12_marked 14 = .ok (.getfield 38, 3) := by decide +kernel
theorem dX12_marked_17 : decode cX12_marked 17 = .ok (.iload_n 2, 1) := by decide +kernel
theorem dX12_marked_18 : decode cX12_marked 18 = .ok (.baload, 1) := by decide +kernel
theorem dX12_marked_19 : decode cX12_marked 19 = .ok (.ifCond .eq 7, 3) := by decide +kernel
theorem dX12_marked_22 : decode cX12_marked 22 = .ok (.iconst 1, 1) := by decide +kernel
theorem dX12_marked_23 : decode cX12_marked 23 = .ok (.goto 4, 3) := by decide +kernel
theorem dX12_marked_26 : decode cX12_marked 26 = .ok (.iconst 0, 1) := by decide +kernel
theorem dX12_marked_27 : decode cX12_marked 27 = .ok (.iadd, 1) := by decide +kernel
theorem dX12_marked_28 : decode cX12_marked 28 = .ok (.istore_n 1, 1) := by decide +kernel
theorem dX12_marked_29 : decode cX12_marked 29 = .ok (.iinc 2 1, 3) := by decide +kernel
theorem dX12_marked_32 : decode cX12_marked 32 = .ok (.goto (-28), 3) := by decide +kernel
theorem dX12_marked_35 : decode cX12_marked 35 = .ok (.iload_n 1, 1) := by decide +kernel
theorem dX12_marked_36 : decode cX12_marked 36 = .ok (.ireturn, 1) := by decide +kernel
theorem dX12_markedAt_0 : decode cX12_markedAt 0 = .ok (.iload_n 1, 1) := by decide +kernel
theorem dX12_markedAt_1 : decode cX12_markedAt 1 = .ok (.istore_n 2, 1) := by decide +kernel
theorem dX12_markedAt_2 : decode cX12_markedAt 2 = .ok (.aload_n 0, 1) := by decide +kernel
theorem dX12_markedAt_3 : decode cX12_markedAt 3 = .ok (.getfield 268, 3) := by decide +kernel
theorem dX12_markedAt_6 : decode cX12_markedAt 6 = .ok (.iconst 1, 1) := by decide +kernel
theorem dX12_markedAt_7 : decode cX12_markedAt 7 = .ok (.isub, 1) := by decide +kernel
theorem dX12_markedAt_8 : decode cX12_markedAt 8 = .ok (.istore_n 3, 1) := by decide +kernel
theorem dX12_markedAt_9 : decode cX12_markedAt 9 = .ok (.iload_n 3, 1) := by decide +kernel
theorem dX12_markedAt_10 : decode cX12_markedAt 10 = .ok (.ifCond .lt 27, 3) := by decide +kernel
theorem dX12_markedAt_13 : decode cX12_markedAt 13 = .ok (.aload_n 0, 1) := by decide +kernel
theorem dX12_markedAt_14 : decode cX12_markedAt 14 = .ok (.getfield 38, 3) := by decide +kernel
theorem dX12_markedAt_17 : decode cX12_markedAt 17 = .ok (.iload_n 3, 1) := by decide +kernel
theorem dX12_markedAt_18 : decode cX12_markedAt 18 = .ok (.baload, 1) := by decide +kernel
theorem dX12_markedAt_19 : decode cX12_markedAt 19 = .ok (.ifCond .eq 12, 3) := by decide +kernel
theorem dX12_markedAt_22 : decode cX12_markedAt 22 = .ok (.iload_n 2, 1) := by decide +kernel
theorem dX12_markedAt_23 : decode cX12_markedAt 23 = .ok (.ifCond .ne 5, 3) := by decide +kernel
theorem dX12_markedAt_26 : decode cX12_markedAt 26 = .ok (.iload_n 3, 1) := by decide +kernel
theorem dX12_markedAt_27 : decode cX12_markedAt 27 = .ok (.ireturn, 1) := by decide +kernel
theorem dX12_markedAt_28 : decode cX12_markedAt 28 = .ok (.iinc 2 (-1), 3) := by decide +kernel
theorem dX12_markedAt_31 : decode cX12_markedAt 31 = .ok (.iinc 3 (-1), 3) := by decide +kernel
theorem dX12_markedAt_34 : decode cX12_markedAt 34 = .ok (.goto (-25), 3) := by decide +kernel
theorem dX12_markedAt_37 : decode cX12_markedAt 37 = .ok (.iconst (-1), 1) := by decide +kernel
theorem dX12_markedAt_38 : decode cX12_markedAt 38 = .ok (.ireturn, 1) := by decide +kernel
theorem dX12_isBarred_0 : decode cX12_isBarred 0 = .ok (.iload_n 1, 1) := by decide +kernel
theorem dX12_isBarred_1 : decode cX12_isBarred 1 = .ok (.iconst 1, 1) := by decide +kernel
theorem dX12_isBarred_2 : decode cX12_isBarred 2 = .ok (.if_icmp .le 14, 3) := by decide +kernel
theorem dX12_isBarred_5 : decode cX12_isBarred 5 = .ok (.aload_n 0, 1) := by decide +kernel
theorem dX12_isBarred_6 : decode cX12_isBarred 6 = .ok (.invokevirtual 244, 3) := by decide +kernel
theorem dX12_isBarred_9 : decode cX12_isBarred 9 = .ok (.ifCond .ne 7, 3) := by decide +kernel
theorem dX12_isBarred_12 : decode cX12_isBarred 12 = .ok (.iconst 1, 1) := by decide +kernel
theorem dX12_isBarred_13 : decode cX12_isBarred 13 = .ok (.goto 4, 3) := by decide +kernel
theorem dX12_isBarred_16 : decode cX12_isBarred 16 = .ok (.iconst 0, 1) := by decide +kernel
theorem dX12_isBarred_17 : decode cX12_isBarred 17 = .ok (.ireturn, 1) := by decide +kernel
theorem dX12_vector_0 : decode cX12_vector 0 = .ok (.iload_n 1, 1) := by decide +kernel
theorem dX12_vector_1 : decode cX12_vector 1 = .ok (.i2l, 1) := by decide +kernel
theorem dX12_vector_2 : decode cX12_vector 2 = .ok (.lconst 0, 1) := by decide +kernel
theorem dX12_vector_3 : decode cX12_vector 3 = .ok (.ldc2_w 284, 3) := by decide +kernel
theorem dX12_vector_6 : decode cX12_vector 6 = .ok (.invokestatic 77, 3) := by decide +kernel
theorem dX12_vector_9 : decode cX12_vector 9 = .ok (.ifCond .eq 8, 3) := by decide +kernel
theorem dX12_vector_12 : decode cX12_vector 12 = .ok (.iload_n 2, 1) := by decide +kernel
theorem dX12_vector_13 : decode cX12_vector 13 = .ok (.iconst (-1), 1) := by decide +kernel
theorem dX12_vector_14 : decode cX12_vector 14 = .ok (.if_icmp .ge 7, 3) := by decide +kernel
theorem dX12_vector_17 : decode cX12_vector 17 = .ok (.sipush (-1002), 3) := by decide +kernel
theorem dX12_vector_20 : decode cX12_vector 20 = .ok (.ireturn, 1) := by decide +kernel
theorem dX12_vector_21 : decode cX12_vector 21 = .ok (.aload_n 0, 1) := by decide +kernel
theorem dX12_vector_22 : decode cX12_vector 22 = .ok (.iload_n 1, 1) := by decide +kernel
theorem dX12_vector_23 : decode cX12_vector 23 = .ok (.invokevirtual 286, 3) := by decide +kernel
theorem dX12_vector_26 : decode cX12_vector 26 = .ok (.ifCond .eq 7, 3) := by decide +kernel
theorem dX12_vector_29 : decode cX12_vector 29 = .ok (.sipush (-1003), 3) := by decide +kernel
theorem dX12_vector_32 : decode cX12_vector 32 = .ok (.ireturn, 1) := by decide +kernel
theorem dX12_vector_33 : decode cX12_vector 33 = .ok (.aload_n 0, 1) := by decide +kernel
theorem dX12_vector_34 : decode cX12_vector 34 = .ok (.iload_n 1, 1) := by decide +kernel
theorem dX12_vector_35 : decode cX12_vector 35 = .ok (.invokevirtual 289, 3) := by decide +kernel
theorem dX12_vector_38 : decode cX12_vector 38 = .ok (.iload_n 2, 1) := by decide +kernel
theorem dX12_vector_39 : decode cX12_vector 39 = .ok (.iconst (-1), 1) := by decide +kernel
theorem dX12_vector_40 : decode cX12_vector 40 = .ok (.if_icmp .ne 8, 3) := by decide +kernel
theorem dX12_vector_43 : decode cX12_vector 43 = .ok (.aload_n 0, 1) := by decide +kernel
theorem dX12_vector_44 : decode cX12_vector 44 = .ok (.invokevirtual 292, 3) := by decide +kernel
theorem dX12_vector_47 : decode cX12_vector 47 = .ok (.ireturn, 1) := by decide +kernel
theorem dX12_vector_48 : decode cX12_vector 48 = .ok (.aload_n 0, 1) := by decide +kernel
theorem dX12_vector_49 : decode cX12_vector 49 = .ok (.iload_n 2, 1) := by decide +kernel
theorem dX12_vector_50 : decode cX12_vector 50 = .ok (.invokevirtual 295, 3) := by decide +kernel
theorem dX12_vector_53 : decode cX12_vector 53 = .ok (.istore 4, 2) := by decide +kernel
theorem dX12_vector_55 : decode cX12_vector 55 = .ok (.iload 4, 2) := by decide +kernel
theorem dX12_vector_57 : decode cX12_vector 57 = .ok (.iconst (-1), 1) := by decide +kernel
theorem dX12_vector_58 : decode cX12_vector 58 = .ok (.if_icmp .eq 11, 3) := by decide +kernel
theorem dX12_vector_61 : decode cX12_vector 61 = .ok (.aload_n 0, 1) := by decide +kernel
theorem dX12_vector_62 : decode cX12_vector 62 = .ok (.iload_n 3, 1) := by decide +kernel
theorem dX12_vector_63 : decode cX12_vector 63 = .ok (.invokevirtual 81, 3) := by decide +kernel
theorem dX12_vector_66 : decode cX12_vector 66 = .ok (.ifCond .ne 9, 3) := by decide +kernel
theorem dX12_vector_69 : decode cX12_vector 69 = .ok (.sipush (-1001), 3) := by decide +kernel
theorem dX12_vector_72 : decode cX12_vector 72 = .ok (.goto 13, 3) := by decide +kernel
theorem dX12_vector_75 : decode cX12_vector 75 = .ok (.iload 4, 2) := by decide +kernel
theorem dX12_vector_77 : decode cX12_vector 77 = .ok (.aload_n 0, 1) := by decide +kernel
theorem dX12_vector_78 : decode cX12_vector 78 = .ok (.invokevirtual 73, 3) := by decide +kernel
theorem dX12_vector_81 : decode cX12_vector 81 = .ok (.iload_n 3, 1) := by decide +kernel
theorem dX12_vector_82 : decode cX12_vector 82 = .ok (.invokestatic 253, 3) := by decide +kernel
theorem dX12_vector_85 : decode cX12_vector 85 = .ok (.ireturn, 1) := by decide +kernel
theorem dX12_findsTopes_0 : decode cX12_findsTopes 0 = .ok (.aload_n 0, 1) := by decide +kernel
theorem dX12_findsTopes_1 : decode cX12_findsTopes 1 = .ok (.iconst 3, 1) := by decide +kernel
theorem dX12_findsTopes_2 : decode cX12_findsTopes 2 = .ok (.invokevirtual 289, 3) := by decide +kernel
theorem dX12_findsTopes_5 : decode cX12_findsTopes 5 = .ok (.aload_n 0, 1) := by decide +kernel
theorem dX12_findsTopes_6 : decode cX12_findsTopes 6 = .ok (.iconst 0, 1) := by decide +kernel
theorem dX12_findsTopes_7 : decode cX12_findsTopes 7 = .ok (.putfield 298, 3) := by decide +kernel
theorem dX12_findsTopes_10 : decode cX12_findsTopes 10 = .ok (.aload_n 0, 1) := by decide +kernel
theorem dX12_findsTopes_11 : decode cX12_findsTopes 11 = .ok (.getfield 268, 3) := by decide +kernel
theorem dX12_findsTopes_14 : decode cX12_findsTopes 14 = .ok (.iconst 1, 1) := by decide +kernel
theorem dX12_findsTopes_15 : decode cX12_findsTopes 15 = .ok (.isub, 1) := by decide +kernel
theorem dX12_findsTopes_16 : decode cX12_findsTopes 16 = .ok (.istore_n 1, 1) := by decide +kernel
theorem dX12_findsTopes_17 : decode cX12_findsTopes 17 = .ok (.iload_n 1, 1) := by decide +kernel
theorem dX12_findsTopes_18 : decode cX12_findsTopes 18 = .ok (.ifCond .lt 38, 3) := by decide +kernel
theorem dX12_findsTopes_21 : decode cX12_findsTopes 21 = .ok (.aload_n 0, 1) := by decide +kernel
theorem dX12_findsTopes_22 : decode cX12_findsTopes 22 = .ok (.getfield 38, 3) := by decide +kernel
theorem dX12_findsTopes_25 : decode cX12_findsTopes 25 = .ok (.iload_n 1, 1) := by decide +kernel
theorem dX12_findsTopes_26 : decode cX12_findsTopes 26 = .ok (.baload, 1) := by decide +kernel
theorem dX12_findsTopes_27 : decode cX12_findsTopes 27 = .ok (.ifCond .eq 23, 3) := by decide +kernel
theorem dX12_findsTopes_30 : decode cX12_findsTopes 30 = .ok (.aload_n 0, 1) := by decide +kernel
theorem dX12_findsTopes_31 : decode cX12_findsTopes 31 = .ok (.getfield 47, 3) := by decide +kernel
theorem dX12_findsTopes_34 : decode cX12_findsTopes 34 = .ok (.aload_n 0, 1) := by decide +kernel
theorem dX12_findsTopes_35 : decode cX12_findsTopes 35 = .ok (.getfield 298, 3) := by decide +kernel
theorem dX12_findsTopes_38 : decode cX12_findsTopes 38 = .ok (.iload_n 1, 1) := by decide +kernel
theorem dX12_findsTopes_39 : decode cX12_findsTopes 39 = .ok (.iastore, 1) := by decide +kernel
theorem dX12_findsTopes_40 : decode cX12_findsTopes 40 = .ok (.aload_n 0, 1) := by decide +kernel
theorem dX12_findsTopes_41 : decode cX12_findsTopes 41 = .ok (.dup, 1) := by decide +kernel
theorem dX12_findsTopes_42 : decode cX12_findsTopes 42 = .ok (.getfield 298, 3) := by decide +kernel
theorem dX12_findsTopes_45 : decode cX12_findsTopes 45 = .ok (.iconst 1, 1) := by decide +kernel
theorem dX12_findsTopes_46 : decode cX12_findsTopes 46 = .ok (.iadd, 1) := by decide +kernel
theorem dX12_findsTopes_47 : decode cX12_findsTopes 47 = .ok (.putfield 298, 3) := by decide +kernel
theorem dX12_findsTopes_50 : decode cX12_findsTopes 50 = .ok (.iinc 1 (-1), 3) := by decide +kernel
theorem dX12_findsTopes_53 : decode cX12_findsTopes 53 = .ok (.goto (-36), 3) := by decide +kernel
theorem dX12_findsTopes_56 : decode cX12_findsTopes 56 = .ok (.return_, 1) := by decide +kernel
theorem dX12_apart_0 : decode cX12_apart 0 = .ok (.iconst 0, 1) := by decide +kernel
theorem dX12_apart_1 : decode cX12_apart 1 = .ok (.istore_n 3, 1) := by decide +kernel
theorem dX12_apart_2 : decode cX12_apart 2 = .ok (.iconst 0, 1) := by decide +kernel
theorem dX12_apart_3 : decode cX12_apart 3 = .ok (.istore 4, 2) := by decide +kernel
theorem dX12_apart_5 : decode cX12_apart 5 = .ok (.iload 4, 2) := by decide +kernel
theorem dX12_apart_7 : decode cX12_apart 7 = .ok (.aload_n 0, 1) := by decide +kernel
theorem dX12_apart_8 : decode cX12_apart 8 = .ok (.invokevirtual 73, 3) := by decide +kernel
theorem dX12_apart_11 : decode cX12_apart 11 = .ok (.if_icmp .ge 53, 3) := by decide +kernel
theorem dX12_apart_14 : decode cX12_apart 14 = .ok (.iload_n 3, 1) := by decide +kernel
theorem dX12_apart_15 : decode cX12_apart 15 = .ok (.aload_n 0, 1) := by decide +kernel
theorem dX12_apart_16 : decode cX12_apart 16 = .ok (.getfield 47, 3) := by decide +kernel
theorem dX12_apart_19 : decode cX12_apart 19 = .ok (.iload_n 1, 1) := by decide +kernel
theorem dX12_apart_20 : decode cX12_apart 20 = .ok (.iaload, 1) := by decide +kernel
theorem dX12_apart_21 : decode cX12_apart 21 = .ok (.aload_n 0, 1) := by decide +kernel
theorem dX12_apart_22 : decode cX12_apart 22 = .ok (.invokevirtual 73, 3) := by decide +kernel
theorem dX12_apart_25 : decode cX12_apart 25 = .ok (.iload 4, 2) := by decide +kernel
theorem dX12_apart_27 : decode cX12_apart 27 = .ok (.invokestatic 253, 3) := by decide +kernel
theorem dX12_apart_30 : decode cX12_apart 30 = .ok (.aload_n 0, 1) := by decide +kernel
theorem dX12_apart_31 : decode cX12_apart 31 = .ok (.getfield 47, 3) := by decide +kernel
theorem dX12_apart_34 : decode cX12_apart 34 = .ok (.iload_n 2, 1) := by decide +kernel
theorem dX12_apart_35 : decode cX12_apart 35 = .ok (.iaload, 1) := by decide +kernel
theorem dX12_apart_36 : decode cX12_apart 36 = .ok (.aload_n 0, 1) := by decide +kernel
theorem dX12_apart_37 : decode cX12_apart 37 = .ok (.invokevirtual 73, 3) := by decide +kernel
theorem dX12_apart_40 : decode cX12_apart 40 = .ok (.iload 4, 2) := by decide +kernel
theorem dX12_apart_42 : decode cX12_apart 42 = .ok (.invokestatic 253, 3) := by decide +kernel
theorem dX12_apart_45 : decode cX12_apart 45 = .ok (.if_icmp .eq 10, 3) := by decide +kernel
theorem dX12_apart_48 : decode cX12_apart 48 = .ok (.iconst 1, 1) := by decide +kernel
theorem dX12_apart_49 : decode cX12_apart 49 = .ok (.iload 4, 2) := by decide +kernel
theorem dX12_apart_51 : decode cX12_apart 51 = .ok (.ishl, 1) := by decide +kernel
theorem dX12_apart_52 : decode cX12_apart 52 = .ok (.goto 4, 3) := by decide +kernel
theorem dX12_apart_55 : decode cX12_apart 55 = .ok (.iconst 0, 1) := by decide +kernel
theorem dX12_apart_56 : decode cX12_apart 56 = .ok (.ior, 1) := by decide +kernel
theorem dX12_apart_57 : decode cX12_apart 57 = .ok (.istore_n 3, 1) := by decide +kernel
theorem dX12_apart_58 : decode cX12_apart 58 = .ok (.iinc 4 1, 3) := by decide +kernel
theorem dX12_apart_61 : decode cX12_apart 61 = .ok (.goto (-56), 3) := by decide +kernel
theorem dX12_apart_64 : decode cX12_apart 64 = .ok (.iload_n 3, 1) := by decide +kernel
theorem dX12_apart_65 : decode cX12_apart 65 = .ok (.ireturn, 1) := by decide +kernel
theorem dX12_isNext_0 : decode cX12_isNext 0 = .ok (.iload_n 1, 1) := by decide +kernel
theorem dX12_isNext_1 : decode cX12_isNext 1 = .ok (.iload_n 2, 1) := by decide +kernel
theorem dX12_isNext_2 : decode cX12_isNext 2 = .ok (.if_icmp .eq 7, 3) := by decide +kernel
theorem dX12_isNext_5 : decode cX12_isNext 5 = .ok (.iconst 1, 1) := by decide +kernel
theorem dX12_isNext_6 : decode cX12_isNext 6 = .ok (.goto 4, 3) := by decide +kernel
theorem dX12_isNext_9 : decode cX12_isNext 9 = .ok (.iconst 0, 1) := by decide +kernel
theorem dX12_isNext_10 : decode cX12_isNext 10 = .ok (.istore_n 3, 1) := by decide +kernel
theorem dX12_isNext_11 : decode cX12_isNext 11 = .ok (.iconst 0, 1) := by decide +kernel
theorem dX12_isNext_12 : decode cX12_isNext 12 = .ok (.istore 4, 2) := by decide +kernel
theorem dX12_isNext_14 : decode cX12_isNext 14 = .ok (.iload 4, 2) := by decide +kernel
theorem dX12_isNext_16 : decode cX12_isNext 16 = .ok (.aload_n 0, 1) := by decide +kernel
theorem dX12_isNext_17 : decode cX12_isNext 17 = .ok (.getfield 298, 3) := by decide +kernel
theorem dX12_isNext_20 : decode cX12_isNext 20 = .ok (.if_icmp .ge 50, 3) := by decide +kernel
theorem dX12_isNext_23 : decode cX12_isNext 23 = .ok (.iload_n 3, 1) := by decide +kernel
theorem dX12_isNext_24 : decode cX12_isNext 24 = .ok (.ifCond .eq 46, 3) := by decide +kernel
theorem dX12_isNext_27 : decode cX12_isNext 27 = .ok (.iload 4, 2) := by decide +kernel
theorem dX12_isNext_29 : decode cX12_isNext 29 = .ok (.iload_n 1, 1) := by decide +kernel
theorem dX12_isNext_30 : decode cX12_isNext 30 = .ok (.if_icmp .eq 28, 3) := by decide +kernel
theorem dX12_isNext_33 : decode cX12_isNext 33 = .ok (.iload 4, 2) := by decide +kernel
theorem dX12_isNext_35 : decode cX12_isNext 35 = .ok (.iload_n 2, 1) := by decide +kernel
theorem dX12_isNext_36 : decode cX12_isNext 36 = .ok (.if_icmp .eq 22, 3) := by decide +kernel
theorem dX12_isNext_39 : decode cX12_isNext 39 = .ok (.aload_n 0, 1) := by decide +kernel
theorem dX12_isNext_40 : decode cX12_isNext 40 = .ok (.iload 4, 2) := by decide +kernel
theorem dX12_isNext_42 : decode cX12_isNext 42 = .ok (.iload_n 2, 1) := by decide +kernel
theorem dX12_isNext_43 : decode cX12_isNext 43 = .ok (.invokevirtual 301, 3) := by decide +kernel
theorem dX12_isNext_46 : decode cX12_isNext 46 = .ok (.aload_n 0, 1) := by decide +kernel
theorem dX12_isNext_47 : decode cX12_isNext 47 = .ok (.iload_n 1, 1) := by decide +kernel
theorem dX12_isNext_48 : decode cX12_isNext 48 = .ok (.iload_n 2, 1) := by decide +kernel
theorem dX12_isNext_49 : decode cX12_isNext 49 = .ok (.invokevirtual 301, 3) := by decide +kernel
theorem dX12_isNext_52 : decode cX12_isNext 52 = .ok (.iconst (-1), 1) := by decide +kernel
theorem dX12_isNext_53 : decode cX12_isNext 53 = .ok (.ixor, 1) := by decide +kernel
theorem dX12_isNext_54 : decode cX12_isNext 54 = .ok (.iand, 1) := by decide +kernel
theorem dX12_isNext_55 : decode cX12_isNext 55 = .ok (.ifCond .eq 7, 3) := by decide +kernel
theorem dX12_isNext_58 : decode cX12_isNext 58 = .ok (.iconst 1, 1) := by decide +kernel
theorem dX12_isNext_59 : decode cX12_isNext 59 = .ok (.goto 4, 3) := by decide +kernel
theorem dX12_isNext_62 : decode cX12_isNext 62 = .ok (.iconst 0, 1) := by decide +kernel
theorem dX12_isNext_63 : decode cX12_isNext 63 = .ok (.istore_n 3, 1) := by decide +kernel
theorem dX12_isNext_64 : decode cX12_isNext 64 = .ok (.iinc 4 1, 3) := by decide +kernel
theorem dX12_isNext_67 : decode cX12_isNext 67 = .ok (.goto (-53), 3) := by decide +kernel
theorem dX12_isNext_70 : decode cX12_isNext 70 = .ok (.iload_n 3, 1) := by decide +kernel
theorem dX12_isNext_71 : decode cX12_isNext 71 = .ok (.ireturn, 1) := by decide +kernel
theorem dX12_beside_0 : decode cX12_beside 0 = .ok (.aload_n 0, 1) := by decide +kernel
theorem dX12_beside_1 : decode cX12_beside 1 = .ok (.invokevirtual 244, 3) := by decide +kernel
theorem dX12_beside_4 : decode cX12_beside 4 = .ok (.ifCond .ne 7, 3) := by decide +kernel
theorem dX12_beside_7 : decode cX12_beside 7 = .ok (.sipush (-1003), 3) := by decide +kernel
theorem dX12_beside_10 : decode cX12_beside 10 = .ok (.ireturn, 1) := by decide +kernel
theorem dX12_beside_11 : decode cX12_beside 11 = .ok (.aload_n 0, 1) := by decide +kernel
theorem dX12_beside_12 : decode cX12_beside 12 = .ok (.invokevirtual 304, 3) := by decide +kernel
theorem dX12_beside_15 : decode cX12_beside 15 = .ok (.iload_n 1, 1) := by decide +kernel
theorem dX12_beside_16 : decode cX12_beside 16 = .ok (.i2l, 1) := by decide +kernel
theorem dX12_beside_17 : decode cX12_beside 17 = .ok (.lconst 0, 1) := by decide +kernel
theorem dX12_beside_18 : decode cX12_beside 18 = .ok (.aload_n 0, 1) := by decide +kernel
theorem dX12_beside_19 : decode cX12_beside 19 = .ok (.getfield 298, 3) := by decide +kernel
theorem dX12_beside_22 : decode cX12_beside 22 = .ok (.iconst 1, 1) := by decide +kernel
theorem dX12_beside_23 : decode cX12_beside 23 = .ok (.isub, 1) := by decide +kernel
theorem dX12_beside_24 : decode cX12_beside 24 = .ok (.i2l, 1) := by decide +kernel
theorem dX12_beside_25 : decode cX12_beside 25 = .ok (.invokestatic 77, 3) := by decide +kernel
theorem dX12_beside_28 : decode cX12_beside 28 = .ok (.ifCond .ne 7, 3) := by decide +kernel
theorem dX12_beside_31 : decode cX12_beside 31 = .ok (.sipush (-1001), 3) := by decide +kernel
theorem dX12_beside_34 : decode cX12_beside 34 = .ok (.ireturn, 1) := by decide +kernel
theorem dX12_beside_35 : decode cX12_beside 35 = .ok (.iconst 0, 1) := by decide +kernel
theorem dX12_beside_36 : decode cX12_beside 36 = .ok (.istore_n 2, 1) := by decide +kernel
theorem dX12_beside_37 : decode cX12_beside 37 = .ok (.iconst 0, 1) := by decide +kernel
theorem dX12_beside_38 : decode cX12_beside 38 = .ok (.istore_n 3, 1) := by decide +kernel
theorem dX12_beside_39 : decode cX12_beside 39 = .ok (.iload_n 3, 1) := by decide +kernel
theorem dX12_beside_40 : decode cX12_beside 40 = .ok (.aload_n 0, 1) := by decide +kernel
theorem dX12_beside_41 : decode cX12_beside 41 = .ok (.getfield 298, 3) := by decide +kernel
theorem dX12_beside_44 : decode cX12_beside 44 = .ok (.if_icmp .ge 26, 3) := by decide +kernel
theorem dX12_beside_47 : decode cX12_beside 47 = .ok (.iload_n 2, 1) := by decide +kernel
theorem dX12_beside_48 : decode cX12_beside 48 = .ok (.aload_n 0, 1) := by decide +kernel
theorem dX12_beside_49 : decode cX12_beside 49 = .ok (.iload_n 3, 1) := by decide +kernel
theorem dX12_beside_50 : decode cX12_beside 50 = .ok (.iload_n 1, 1) := by decide +kernel
theorem dX12_beside_51 : decode cX12_beside 51 = .ok (.invokevirtual 307, 3) := by decide +kernel
theorem dX12_beside_54 : decode cX12_beside 54 = .ok (.ifCond .eq 7, 3) := by decide +kernel
theorem dX12_beside_57 : decode cX12_beside 57 = .ok (.iconst 1, 1) := by decide +kernel
theorem dX12_beside_58 : decode cX12_beside 58 = .ok (.goto 4, 3) := by decide +kernel
theorem dX12_beside_61 : decode cX12_beside 61 = .ok (.iconst 0, 1) := by decide +kernel
theorem dX12_beside_62 : decode cX12_beside 62 = .ok (.iadd, 1) := by decide +kernel
theorem dX12_beside_63 : decode cX12_beside 63 = .ok (.istore_n 2, 1) := by decide +kernel
theorem dX12_beside_64 : decode cX12_beside 64 = .ok (.iinc 3 1, 3) := by decide +kernel
theorem dX12_beside_67 : decode cX12_beside 67 = .ok (.goto (-28), 3) := by decide +kernel
theorem dX12_beside_70 : decode cX12_beside 70 = .ok (.iload_n 2, 1) := by decide +kernel
theorem dX12_beside_71 : decode cX12_beside 71 = .ok (.ireturn, 1) := by decide +kernel
theorem dX12_ones_0 : decode cX12_ones 0 = .ok (.iconst 0, 1) := by decide +kernel
theorem dX12_ones_1 : decode cX12_ones 1 = .ok (.istore_n 1, 1) := by decide +kernel
theorem dX12_ones_2 : decode cX12_ones 2 = .ok (.iconst 0, 1) := by decide +kernel
theorem dX12_ones_3 : decode cX12_ones 3 = .ok (.istore_n 2, 1) := by decide +kernel
theorem dX12_ones_4 : decode cX12_ones 4 = .ok (.iload_n 2, 1) := by decide +kernel
theorem dX12_ones_5 : decode cX12_ones 5 = .ok (.bipush 6, 2) := by decide +kernel
theorem dX12_ones_7 : decode cX12_ones 7 = .ok (.if_icmp .ge 17, 3) := by decide +kernel
theorem dX12_ones_10 : decode cX12_ones 10 = .ok (.iload_n 1, 1) := by decide +kernel
theorem dX12_ones_11 : decode cX12_ones 11 = .ok (.iload_n 0, 1) := by decide +kernel
theorem dX12_ones_12 : decode cX12_ones 12 = .ok (.iload_n 2, 1) := by decide +kernel
theorem dX12_ones_13 : decode cX12_ones 13 = .ok (.ishr, 1) := by decide +kernel
theorem dX12_ones_14 : decode cX12_ones 14 = .ok (.iconst 1, 1) := by decide +kernel
theorem dX12_ones_15 : decode cX12_ones 15 = .ok (.iand, 1) := by decide +kernel
theorem dX12_ones_16 : decode cX12_ones 16 = .ok (.iadd, 1) := by decide +kernel
theorem dX12_ones_17 : decode cX12_ones 17 = .ok (.istore_n 1, 1) := by decide +kernel
theorem dX12_ones_18 : decode cX12_ones 18 = .ok (.iinc 2 1, 3) := by decide +kernel
theorem dX12_ones_21 : decode cX12_ones 21 = .ok (.goto (-17), 3) := by decide +kernel
theorem dX12_ones_24 : decode cX12_ones 24 = .ok (.iload_n 1, 1) := by decide +kernel
theorem dX12_ones_25 : decode cX12_ones 25 = .ok (.ireturn, 1) := by decide +kernel
theorem dX12_steps_0 : decode cX12_steps 0 = .ok (.iconst 0, 1) := by decide +kernel
theorem dX12_steps_1 : decode cX12_steps 1 = .ok (.istore_n 3, 1) := by decide +kernel
theorem dX12_steps_2 : decode cX12_steps 2 = .ok (.iload_n 3, 1) := by decide +kernel
theorem dX12_steps_3 : decode cX12_steps 3 = .ok (.bipush 64, 2) := by decide +kernel
theorem dX12_steps_5 : decode cX12_steps 5 = .ok (.if_icmp .ge 25, 3) := by decide +kernel
theorem dX12_steps_8 : decode cX12_steps 8 = .ok (.aload_n 0, 1) := by decide +kernel
theorem dX12_steps_9 : decode cX12_steps 9 = .ok (.getfield 50, 3) := by decide +kernel
theorem dX12_steps_12 : decode cX12_steps 12 = .ok (.iload_n 3, 1) := by decide +kernel
theorem dX12_steps_13 : decode cX12_steps 13 = .ok (.iload_n 3, 1) := by decide +kernel
theorem dX12_steps_14 : decode cX12_steps 14 = .ok (.iload_n 1, 1) := by decide +kernel
theorem dX12_steps_15 : decode cX12_steps 15 = .ok (.if_icmp .ne 7, 3) := by decide +kernel
theorem dX12_steps_18 : decode cX12_steps 18 = .ok (.iconst 0, 1) := by decide +kernel
theorem dX12_steps_19 : decode cX12_steps 19 = .ok (.goto 4, 3) := by decide +kernel
theorem dX12_steps_22 : decode cX12_steps 22 = .ok (.iconst (-1), 1) := by decide +kernel
theorem dX12_steps_23 : decode cX12_steps 23 = .ok (.iastore, 1) := by decide +kernel
theorem dX12_steps_24 : decode cX12_steps 24 = .ok (.iinc 3 1, 3) := by decide +kernel
theorem dX12_steps_27 : decode cX12_steps 27 = .ok (.goto (-25), 3) := by decide +kernel
theorem dX12_steps_30 : decode cX12_steps 30 = .ok (.iconst 0, 1) := by decide +kernel
theorem dX12_steps_31 : decode cX12_steps 31 = .ok (.istore_n 3, 1) := by decide +kernel
theorem dX12_steps_32 : decode cX12_steps 32 = .ok (.iload_n 3, 1) := by decide +kernel
theorem dX12_steps_33 : decode cX12_steps 33 = .ok (.aload_n 0, 1) := by decide +kernel
theorem dX12_steps_34 : decode cX12_steps 34 = .ok (.getfield 298, 3) := by decide +kernel
theorem dX12_steps_37 : decode cX12_steps 37 = .ok (.if_icmp .ge 108, 3) := by decide +kernel
theorem dX12_steps_40 : decode cX12_steps 40 = .ok (.aload_n 0, 1) := by decide +kernel
theorem dX12_steps_41 : decode cX12_steps 41 = .ok (.getfield 50, 3) := by decide +kernel
theorem dX12_steps_44 : decode cX12_steps 44 = .ok (.iload_n 2, 1) := by decide +kernel
theorem dX12_steps_45 : decode cX12_steps 45 = .ok (.iaload, 1) := by decide +kernel
theorem dX12_steps_46 : decode cX12_steps 46 = .ok (.iconst (-1), 1) := by decide +kernel
theorem dX12_steps_47 : decode cX12_steps 47 = .ok (.if_icmp .ne 98, 3) := by decide +kernel
theorem dX12_steps_50 : decode cX12_steps 50 = .ok (.iconst 0, 1) := by decide +kernel
theorem dX12_steps_51 : decode cX12_steps 51 = .ok (.istore 4, 2) := by decide +kernel
theorem dX12_steps_53 : decode cX12_steps 53 = .ok (.iload 4, 2) := by decide +kernel
theorem dX12_steps_55 : decode cX12_steps 55 = .ok (.aload_n 0, 1) := by decide +kernel
theorem dX12_steps_56 : decode cX12_steps 56 = .ok (.getfield 298, 3) := by decide +kernel
theorem dX12_steps_59 : decode cX12_steps 59 = .ok (.if_icmp .ge 80, 3) := by decide +kernel
theorem dX12_steps_62 : decode cX12_steps 62 = .ok (.iconst 0, 1) := by decide +kernel
theorem dX12_steps_63 : decode cX12_steps 63 = .ok (.istore 5, 2) := by decide +kernel
theorem dX12_steps_65 : decode cX12_steps 65 = .ok (.iload 5, 2) := by decide +kernel
theorem dX12_steps_67 : decode cX12_steps 67 = .ok (.aload_n 0, 1) := by decide +kernel
theorem dX12_steps_68 : decode cX12_steps 68 = .ok (.getfield 298, 3) := by decide +kernel
theorem dX12_steps_71 : decode cX12_steps 71 = .ok (.if_icmp .ge 62, 3) := by decide +kernel
theorem dX12_steps_74 : decode cX12_steps 74 = .ok (.aload_n 0, 1) := by decide +kernel
theorem dX12_steps_75 : decode cX12_steps 75 = .ok (.getfield 50, 3) := by decide +kernel
theorem dX12_steps_78 : decode cX12_steps 78 = .ok (.iload 4, 2) := by decide +kernel
theorem dX12_steps_80 : decode cX12_steps 80 = .ok (.iaload, 1) := by decide +kernel
theorem dX12_steps_81 : decode cX12_steps 81 = .ok (.iload_n 3, 1) := by decide +kernel
theorem dX12_steps_82 : decode cX12_steps 82 = .ok (.if_icmp .ne 51, 3) := by decide +kernel
theorem dX12_steps_85 : decode cX12_steps 85 = .ok (.aload_n 0, 1) := by decide +kernel
theorem dX12_steps_86 : decode cX12_steps 86 = .ok (.getfield 50, 3) := by decide +kernel
theorem dX12_steps_89 : decode cX12_steps 89 = .ok (.iload 5, 2) := by decide +kernel
theorem dX12_steps_91 : decode cX12_steps 91 = .ok (.aload_n 0, 1) := by decide +kernel
theorem dX12_steps_92 : decode cX12_steps 92 = .ok (.getfield 50, 3) := by decide +kernel
theorem dX12_steps_95 : decode cX12_steps 95 = .ok (.iload 5, 2) := by decide +kernel
theorem dX12_steps_97 : decode cX12_steps 97 = .ok (.iaload, 1) := by decide +kernel
theorem dX12_steps_98 : decode cX12_steps 98 = .ok (.iconst (-1), 1) := by decide +kernel
theorem dX12_steps_99 : decode cX12_steps 99 = .ok (.if_icmp .ne 20, 3) := by decide +kernel
theorem dX12_steps_102 : decode cX12_steps 102 = .ok (.aload_n 0, 1) := by decide +kernel
theorem dX12_steps_103 : decode cX12_steps 103 = .ok (.iload 5, 2) := by decide +kernel
theorem dX12_steps_105 : decode cX12_steps 105 = .ok (.iload 4, 2) := by decide +kernel
theorem dX12_steps_107 : decode cX12_steps 107 = .ok (.invokevirtual 307, 3) := by decide +kernel
theorem dX12_steps_110 : decode cX12_steps 110 = .ok (.ifCond .eq 9, 3) := by decide +kernel
theorem dX12_steps_113 : decode cX12_steps 113 = .ok (.iload_n 3, 1) := by decide +kernel
theorem dX12_steps_114 : decode cX12_steps 114 = .ok (.iconst 1, 1) := by decide +kernel
theorem dX12_steps_115 : decode cX12_steps 115 = .ok (.iadd, 1) := by decide +kernel
theorem dX12_steps_116 : decode cX12_steps 116 = .ok (.goto 10, 3) := by decide +kernel
theorem dX12_steps_119 : decode cX12_steps 119 = .ok (.aload_n 0, 1) := by decide +kernel
theorem dX12_steps_120 : decode cX12_steps 120 = .ok (.getfield 50, 3) := by decide +kernel
theorem dX12_steps_123 : decode cX12_steps 123 = .ok (.iload 5, 2) := by decide +kernel
theorem dX12_steps_125 : decode cX12_steps 125 = .ok (.iaload, 1) := by decide +kernel
theorem dX12_steps_126 : decode cX12_steps 126 = .ok (.iastore, 1) := by decide +kernel
theorem dX12_steps_127 : decode cX12_steps 127 = .ok (.iinc 5 1, 3) := by decide +kernel
theorem dX12_steps_130 : decode cX12_steps 130 = .ok (.goto (-65), 3) := by decide +kernel
theorem dX12_steps_133 : decode cX12_steps 133 = .ok (.iinc 4 1, 3) := by decide +kernel
theorem dX12_steps_136 : decode cX12_steps 136 = .ok (.goto (-83), 3) := by decide +kernel
theorem dX12_steps_139 : decode cX12_steps 139 = .ok (.iinc 3 1, 3) := by decide +kernel
theorem dX12_steps_142 : decode cX12_steps 142 = .ok (.goto (-110), 3) := by decide +kernel
theorem dX12_steps_145 : decode cX12_steps 145 = .ok (.aload_n 0, 1) := by decide +kernel
theorem dX12_steps_146 : decode cX12_steps 146 = .ok (.getfield 50, 3) := by decide +kernel
theorem dX12_steps_149 : decode cX12_steps 149 = .ok (.iload_n 2, 1) := by decide +kernel
theorem dX12_steps_150 : decode cX12_steps 150 = .ok (.iaload, 1) := by decide +kernel
theorem dX12_steps_151 : decode cX12_steps 151 = .ok (.ireturn, 1) := by decide +kernel
theorem dX12_between_0 : decode cX12_between 0 = .ok (.iload_n 3, 1) := by decide +kernel
theorem dX12_between_1 : decode cX12_between 1 = .ok (.i2l, 1) := by decide +kernel
theorem dX12_between_2 : decode cX12_between 2 = .ok (.lconst 0, 1) := by decide +kernel
theorem dX12_between_3 : decode cX12_between 3 = .ok (.ldc2_w 188, 3) := by decide +kernel
theorem dX12_between_6 : decode cX12_between 6 = .ok (.invokestatic 77, 3) := by decide +kernel
theorem dX12_between_9 : decode cX12_between 9 = .ok (.ifCond .ne 7, 3) := by decide +kernel
theorem dX12_between_12 : decode cX12_between 12 = .ok (.sipush (-1002), 3) := by decide +kernel
theorem dX12_between_15 : decode cX12_between 15 = .ok (.ireturn, 1) := by decide +kernel
theorem dX12_between_16 : decode cX12_between 16 = .ok (.aload_n 0, 1) := by decide +kernel
theorem dX12_between_17 : decode cX12_between 17 = .ok (.invokevirtual 244, 3) := by decide +kernel
theorem dX12_between_20 : decode cX12_between 20 = .ok (.ifCond .ne 7, 3) := by decide +kernel
theorem dX12_between_23 : decode cX12_between 23 = .ok (.sipush (-1003), 3) := by decide +kernel
theorem dX12_between_26 : decode cX12_between 26 = .ok (.ireturn, 1) := by decide +kernel
theorem dX12_between_27 : decode cX12_between 27 = .ok (.aload_n 0, 1) := by decide +kernel
theorem dX12_between_28 : decode cX12_between 28 = .ok (.invokevirtual 304, 3) := by decide +kernel
theorem dX12_between_31 : decode cX12_between 31 = .ok (.iload_n 1, 1) := by decide +kernel
theorem dX12_between_32 : decode cX12_between 32 = .ok (.i2l, 1) := by decide +kernel
theorem dX12_between_33 : decode cX12_between 33 = .ok (.lconst 0, 1) := by decide +kernel
theorem dX12_between_34 : decode cX12_between 34 = .ok (.aload_n 0, 1) := by decide +kernel
theorem dX12_between_35 : decode cX12_between 35 = .ok (.getfield 298, 3) := by decide +kernel
theorem dX12_between_38 : decode cX12_between 38 = .ok (.iconst 1, 1) := by decide +kernel
theorem dX12_between_39 : decode cX12_between 39 = .ok (.isub, 1) := by decide +kernel
theorem dX12_between_40 : decode cX12_between 40 = .ok (.i2l, 1) := by decide +kernel
theorem dX12_between_41 : decode cX12_between 41 = .ok (.invokestatic 77, 3) := by decide +kernel
theorem dX12_between_44 : decode cX12_between 44 = .ok (.ifCond .eq 19, 3) := by decide +kernel
theorem dX12_between_47 : decode cX12_between 47 = .ok (.iload_n 2, 1) := by decide +kernel
theorem dX12_between_48 : decode cX12_between 48 = .ok (.i2l, 1) := by decide +kernel
theorem dX12_between_49 : decode cX12_between 49 = .ok (.lconst 0, 1) := by decide +kernel
theorem dX12_between_50 : decode cX12_between 50 = .ok (.aload_n 0, 1) := by decide +kernel
theorem dX12_between_51 : decode cX12_between 51 = .ok (.getfield 298, 3) := by decide +kernel
theorem dX12_between_54 : decode cX12_between 54 = .ok (.iconst 1, 1) := by decide +kernel
theorem dX12_between_55 : decode cX12_between 55 = .ok (.isub, 1) := by decide +kernel
theorem dX12_between_56 : decode cX12_between 56 = .ok (.i2l, 1) := by decide +kernel
theorem dX12_between_57 : decode cX12_between 57 = .ok (.invokestatic 77, 3) := by decide +kernel
theorem dX12_between_60 : decode cX12_between 60 = .ok (.ifCond .ne 7, 3) := by decide +kernel
theorem dX12_between_63 : decode cX12_between 63 = .ok (.sipush (-1001), 3) := by decide +kernel
theorem dX12_between_66 : decode cX12_between 66 = .ok (.ireturn, 1) := by decide +kernel
theorem dX12_between_67 : decode cX12_between 67 = .ok (.iload_n 3, 1) := by decide +kernel
theorem dX12_between_68 : decode cX12_between 68 = .ok (.ifCond .ne 15, 3) := by decide +kernel
theorem dX12_between_71 : decode cX12_between 71 = .ok (.aload_n 0, 1) := by decide +kernel
theorem dX12_between_72 : decode cX12_between 72 = .ok (.iload_n 1, 1) := by decide +kernel
theorem dX12_between_73 : decode cX12_between 73 = .ok (.iload_n 2, 1) := by decide +kernel
theorem dX12_between_74 : decode cX12_between 74 = .ok (.invokevirtual 301, 3) := by decide +kernel
theorem dX12_between_77 : decode cX12_between 77 = .ok (.invokestatic 310, 3) := by decide +kernel
theorem dX12_between_80 : decode cX12_between 80 = .ok (.goto 31, 3) := by decide +kernel
theorem dX12_between_83 : decode cX12_between 83 = .ok (.iload_n 3, 1) := by decide +kernel
theorem dX12_between_84 : decode cX12_between 84 = .ok (.iconst 1, 1) := by decide +kernel
theorem dX12_between_85 : decode cX12_between 85 = .ok (.if_icmp .ne 20, 3) := by decide +kernel
theorem dX12_between_88 : decode cX12_between 88 = .ok (.aload_n 0, 1) := by decide +kernel
theorem dX12_between_89 : decode cX12_between 89 = .ok (.iload_n 2, 1) := by decide +kernel
theorem dX12_between_90 : decode cX12_between 90 = .ok (.iload_n 1, 1) := by decide +kernel
theorem dX12_between_91 : decode cX12_between 91 = .ok (.invokevirtual 307, 3) := by decide +kernel
theorem dX12_between_94 : decode cX12_between 94 = .ok (.ifCond .eq 7, 3) := by decide +kernel
theorem dX12_between_97 : decode cX12_between 97 = .ok (.iconst 1, 1) := by decide +kernel
theorem dX12_between_98 : decode cX12_between 98 = .ok (.goto 13, 3) := by decide +kernel
theorem dX12_between_101 : decode cX12_between 101 = .ok (.iconst 0, 1) := by decide +kernel
theorem dX12_between_102 : decode cX12_between 102 = .ok (.goto 9, 3) := by decide +kernel
theorem dX12_between_105 : decode cX12_between 105 = .ok (.aload_n 0, 1) := by decide +kernel
theorem dX12_between_106 : decode cX12_between 106 = .ok (.iload_n 1, 1) := by decide +kernel
theorem dX12_between_107 : decode cX12_between 107 = .ok (.iload_n 2, 1) := by decide +kernel
theorem dX12_between_108 : decode cX12_between 108 = .ok (.invokevirtual 313, 3) := by decide +kernel
theorem dX12_between_111 : decode cX12_between 111 = .ok (.ireturn, 1) := by decide +kernel
theorem dX12_isMutation_0 : decode cX12_isMutation 0 = .ok (.aload_n 0, 1) := by decide +kernel
theorem dX12_isMutation_1 : decode cX12_isMutation 1 = .ok (.iload_n 1, 1) := by decide +kernel
theorem dX12_isMutation_2 : decode cX12_isMutation 2 = .ok (.iload_n 2, 1) := by decide +kernel
theorem dX12_isMutation_3 : decode cX12_isMutation 3 = .ok (.iload_n 3, 1) := by decide +kernel
theorem dX12_isMutation_4 : decode cX12_isMutation 4 = .ok (.invokevirtual 215, 3) := by decide +kernel
theorem dX12_isMutation_7 : decode cX12_isMutation 7 = .ok (.ifCond .ne 5, 3) := by decide +kernel
theorem dX12_isMutation_10 : decode cX12_isMutation 10 = .ok (.iconst 0, 1) := by decide +kernel
theorem dX12_isMutation_11 : decode cX12_isMutation 11 = .ok (.ireturn, 1) := by decide +kernel
theorem dX12_isMutation_12 : decode cX12_isMutation 12 = .ok (.aload_n 0, 1) := by decide +kernel
theorem dX12_isMutation_13 : decode cX12_isMutation 13 = .ok (.iload_n 1, 1) := by decide +kernel
theorem dX12_isMutation_14 : decode cX12_isMutation 14 = .ok (.iload_n 2, 1) := by decide +kernel
theorem dX12_isMutation_15 : decode cX12_isMutation 15 = .ok (.iload_n 3, 1) := by decide +kernel
theorem dX12_isMutation_16 : decode cX12_isMutation 16 = .ok (.invokevirtual 182, 3) := by decide +kernel
theorem dX12_isMutation_19 : decode cX12_isMutation 19 = .ok (.istore 4, 2) := by decide +kernel
theorem dX12_isMutation_21 : decode cX12_isMutation 21 = .ok (.aload_n 0, 1) := by decide +kernel
theorem dX12_isMutation_22 : decode cX12_isMutation 22 = .ok (.iload_n 1, 1) := by decide +kernel
theorem dX12_isMutation_23 : decode cX12_isMutation 23 = .ok (.iload_n 2, 1) := by decide +kernel
theorem dX12_isMutation_24 : decode cX12_isMutation 24 = .ok (.iload_n 3, 1) := by decide +kernel
theorem dX12_isMutation_25 : decode cX12_isMutation 25 = .ok (.iload 4, 2) := by decide +kernel
theorem dX12_isMutation_27 : decode cX12_isMutation 27 = .ok (.ineg, 1) := by decide +kernel
theorem dX12_isMutation_28 : decode cX12_isMutation 28 = .ok (.invokevirtual 133, 3) := by decide +kernel
theorem dX12_isMutation_31 : decode cX12_isMutation 31 = .ok (.aload_n 0, 1) := by decide +kernel
theorem dX12_isMutation_32 : decode cX12_isMutation 32 = .ok (.invokevirtual 244, 3) := by decide +kernel
theorem dX12_isMutation_35 : decode cX12_isMutation 35 = .ok (.istore 5, 2) := by decide +kernel
theorem dX12_isMutation_37 : decode cX12_isMutation 37 = .ok (.aload_n 0, 1) := by decide +kernel
theorem dX12_isMutation_38 : decode cX12_isMutation 38 = .ok (.iload_n 1, 1) := by decide +kernel
theorem dX12_isMutation_39 : decode cX12_isMutation 39 = .ok (.iload_n 2, 1) := by decide +kernel
theorem dX12_isMutation_40 : decode cX12_isMutation 40 = .ok (.iload_n 3, 1) := by decide +kernel
theorem dX12_isMutation_41 : decode cX12_isMutation 41 = .ok (.iload 4, 2) := by decide +kernel
theorem dX12_isMutation_43 : decode cX12_isMutation 43 = .ok (.invokevirtual 133, 3) := by decide +kernel
theorem dX12_isMutation_46 : decode cX12_isMutation 46 = .ok (.iload 5, 2) := by decide +kernel
theorem dX12_isMutation_48 : decode cX12_isMutation 48 = .ok (.ireturn, 1) := by decide +kernel
theorem dX12_mutation_0 : decode cX12_mutation 0 = .ok (.aload_n 0, 1) := by decide +kernel
theorem dX12_mutation_1 : decode cX12_mutation 1 = .ok (.invokevirtual 244, 3) := by decide +kernel
theorem dX12_mutation_4 : decode cX12_mutation 4 = .ok (.ifCond .ne 7, 3) := by decide +kernel
theorem dX12_mutation_7 : decode cX12_mutation 7 = .ok (.sipush (-1003), 3) := by decide +kernel
theorem dX12_mutation_10 : decode cX12_mutation 10 = .ok (.ireturn, 1) := by decide +kernel
theorem dX12_mutation_11 : decode cX12_mutation 11 = .ok (.iload_n 1, 1) := by decide +kernel
theorem dX12_mutation_12 : decode cX12_mutation 12 = .ok (.i2l, 1) := by decide +kernel
theorem dX12_mutation_13 : decode cX12_mutation 13 = .ok (.ldc2_w 194, 3) := by decide +kernel
theorem dX12_mutation_16 : decode cX12_mutation 16 = .ok (.aload_n 0, 1) := by decide +kernel
theorem dX12_mutation_17 : decode cX12_mutation 17 = .ok (.invokevirtual 73, 3) := by decide +kernel
theorem dX12_mutation_20 : decode cX12_mutation 20 = .ok (.invokestatic 118, 3) := by decide +kernel
theorem dX12_mutation_23 : decode cX12_mutation 23 = .ok (.iconst 1, 1) := by decide +kernel
theorem dX12_mutation_24 : decode cX12_mutation 24 = .ok (.isub, 1) := by decide +kernel
theorem dX12_mutation_25 : decode cX12_mutation 25 = .ok (.i2l, 1) := by decide +kernel
theorem dX12_mutation_26 : decode cX12_mutation 26 = .ok (.invokestatic 77, 3) := by decide +kernel
theorem dX12_mutation_29 : decode cX12_mutation 29 = .ok (.ifCond .ne 7, 3) := by decide +kernel
theorem dX12_mutation_32 : decode cX12_mutation 32 = .ok (.sipush (-1001), 3) := by decide +kernel
theorem dX12_mutation_35 : decode cX12_mutation 35 = .ok (.ireturn, 1) := by decide +kernel
theorem dX12_mutation_36 : decode cX12_mutation 36 = .ok (.iconst 0, 1) := by decide +kernel
theorem dX12_mutation_37 : decode cX12_mutation 37 = .ok (.istore_n 2, 1) := by decide +kernel
theorem dX12_mutation_38 : decode cX12_mutation 38 = .ok (.iconst 0, 1) := by decide +kernel
theorem dX12_mutation_39 : decode cX12_mutation 39 = .ok (.istore_n 3, 1) := by decide +kernel
theorem dX12_mutation_40 : decode cX12_mutation 40 = .ok (.iconst 0, 1) := by decide +kernel
theorem dX12_mutation_41 : decode cX12_mutation 41 = .ok (.istore 4, 2) := by decide +kernel
theorem dX12_mutation_43 : decode cX12_mutation 43 = .ok (.iload 4, 2) := by decide +kernel
theorem dX12_mutation_45 : decode cX12_mutation 45 = .ok (.aload_n 0, 1) := by decide +kernel
theorem dX12_mutation_46 : decode cX12_mutation 46 = .ok (.invokevirtual 73, 3) := by decide +kernel
theorem dX12_mutation_49 : decode cX12_mutation 49 = .ok (.if_icmp .ge 96, 3) := by decide +kernel
theorem dX12_mutation_52 : decode cX12_mutation 52 = .ok (.iload 4, 2) := by decide +kernel
theorem dX12_mutation_54 : decode cX12_mutation 54 = .ok (.iconst 1, 1) := by decide +kernel
theorem dX12_mutation_55 : decode cX12_mutation 55 = .ok (.iadd, 1) := by decide +kernel
theorem dX12_mutation_56 : decode cX12_mutation 56 = .ok (.istore 5, 2) := by decide +kernel
theorem dX12_mutation_58 : decode cX12_mutation 58 = .ok (.iload 5, 2) := by decide +kernel
theorem dX12_mutation_60 : decode cX12_mutation 60 = .ok (.aload_n 0, 1) := by decide +kernel
theorem dX12_mutation_61 : decode cX12_mutation 61 = .ok (.invokevirtual 73, 3) := by decide +kernel
theorem dX12_mutation_64 : decode cX12_mutation 64 = .ok (.if_icmp .ge 75, 3) := by decide +kernel
theorem dX12_mutation_67 : decode cX12_mutation 67 = .ok (.iload 5, 2) := by decide +kernel
theorem dX12_mutation_69 : decode cX12_mutation 69 = .ok (.iconst 1, 1) := by decide +kernel
theorem dX12_mutation_70 : decode cX12_mutation 70 = .ok (.iadd, 1) := by decide +kernel
theorem dX12_mutation_71 : decode cX12_mutation 71 = .ok (.istore 6, 2) := by decide +kernel
theorem dX12_mutation_73 : decode cX12_mutation 73 = .ok (.iload 6, 2) := by decide +kernel
theorem dX12_mutation_75 : decode cX12_mutation 75 = .ok (.aload_n 0, 1) := by decide +kernel
theorem dX12_mutation_76 : decode cX12_mutation 76 = .ok (.invokevirtual 73, 3) := by decide +kernel
theorem dX12_mutation_79 : decode cX12_mutation 79 = .ok (.if_icmp .ge 54, 3) := by decide +kernel
theorem dX12_mutation_82 : decode cX12_mutation 82 = .ok (.iload_n 1, 1) := by decide +kernel
theorem dX12_mutation_83 : decode cX12_mutation 83 = .ok (.ifCond .lt 8, 3) := by decide +kernel
theorem dX12_mutation_86 : decode cX12_mutation 86 = .ok (.iload_n 2, 1) := by decide +kernel
theorem dX12_mutation_87 : decode cX12_mutation 87 = .ok (.iload_n 1, 1) := by decide +kernel
theorem dX12_mutation_88 : decode cX12_mutation 88 = .ok (.if_icmp .ne 20, 3) := by decide +kernel
theorem dX12_mutation_91 : decode cX12_mutation 91 = .ok (.aload_n 0, 1) := by decide +kernel
theorem dX12_mutation_92 : decode cX12_mutation 92 = .ok (.iload 4, 2) := by decide +kernel
theorem dX12_mutation_94 : decode cX12_mutation 94 = .ok (.iload 5, 2) := by decide +kernel
theorem dX12_mutation_96 : decode cX12_mutation 96 = .ok (.iload 6, 2) := by decide +kernel
theorem dX12_mutation_98 : decode cX12_mutation 98 = .ok (.invokevirtual 316, 3) := by decide +kernel
theorem dX12_mutation_101 : decode cX12_mutation 101 = .ok (.ifCond .eq 7, 3) := by decide +kernel
theorem dX12_mutation_104 : decode cX12_mutation 104 = .ok (.iconst 1, 1) := by decide +kernel
theorem dX12_mutation_105 : decode cX12_mutation 105 = .ok (.goto 4, 3) := by decide +kernel
theorem dX12_mutation_108 : decode cX12_mutation 108 = .ok (.iconst 0, 1) := by decide +kernel
theorem dX12_mutation_109 : decode cX12_mutation 109 = .ok (.istore 7, 2) := by decide +kernel
theorem dX12_mutation_111 : decode cX12_mutation 111 = .ok (.iload_n 3, 1) := by decide +kernel
theorem dX12_mutation_112 : decode cX12_mutation 112 = .ok (.iload 7, 2) := by decide +kernel
theorem dX12_mutation_114 : decode cX12_mutation 114 = .ok (.ifCond .eq 7, 3) := by decide +kernel
theorem dX12_mutation_117 : decode cX12_mutation 117 = .ok (.iconst 1, 1) := by decide +kernel
theorem dX12_mutation_118 : decode cX12_mutation 118 = .ok (.goto 4, 3) := by decide +kernel
theorem dX12_mutation_121 : decode cX12_mutation 121 = .ok (.iconst 0, 1) := by decide +kernel
theorem dX12_mutation_122 : decode cX12_mutation 122 = .ok (.iadd, 1) := by decide +kernel
theorem dX12_mutation_123 : decode cX12_mutation 123 = .ok (.istore_n 3, 1) := by decide +kernel
theorem dX12_mutation_124 : decode cX12_mutation 124 = .ok (.iinc 2 1, 3) := by decide +kernel
theorem dX12_mutation_127 : decode cX12_mutation 127 = .ok (.iinc 6 1, 3) := by decide +kernel
theorem dX12_mutation_130 : decode cX12_mutation 130 = .ok (.goto (-57), 3) := by decide +kernel
theorem dX12_mutation_133 : decode cX12_mutation 133 = .ok (.iinc 5 1, 3) := by decide +kernel
theorem dX12_mutation_136 : decode cX12_mutation 136 = .ok (.goto (-78), 3) := by decide +kernel
theorem dX12_mutation_139 : decode cX12_mutation 139 = .ok (.iinc 4 1, 3) := by decide +kernel
theorem dX12_mutation_142 : decode cX12_mutation 142 = .ok (.goto (-99), 3) := by decide +kernel
theorem dX12_mutation_145 : decode cX12_mutation 145 = .ok (.iload_n 3, 1) := by decide +kernel
theorem dX12_mutation_146 : decode cX12_mutation 146 = .ok (.ireturn, 1) := by decide +kernel
theorem dX12_extensions_0 : decode cX12_extensions 0 = .ok (.aload_n 0, 1) := by decide +kernel
theorem dX12_extensions_1 : decode cX12_extensions 1 = .ok (.invokevirtual 244, 3) := by decide +kernel
theorem dX12_extensions_4 : decode cX12_extensions 4 = .ok (.ifCond .eq 11, 3) := by decide +kernel
theorem dX12_extensions_7 : decode cX12_extensions 7 = .ok (.aload_n 0, 1) := by decide +kernel
theorem dX12_extensions_8 : decode cX12_extensions 8 = .ok (.invokevirtual 73, 3) := by decide +kernel
theorem dX12_extensions_11 : decode cX12_extensions 11 = .ok (.iconst 4, 1) := by decide +kernel
theorem dX12_extensions_12 : decode cX12_extensions 12 = .ok (.if_icmp .le 7, 3) := by decide +kernel
theorem dX12_extensions_15 : decode cX12_extensions 15 = .ok (.sipush (-1003), 3) := by decide +kernel
theorem dX12_extensions_18 : decode cX12_extensions 18 = .ok (.ireturn, 1) := by decide +kernel
theorem dX12_extensions_19 : decode cX12_extensions 19 = .ok (.aload_n 0, 1) := by decide +kernel
theorem dX12_extensions_20 : decode cX12_extensions 20 = .ok (.invokevirtual 73, 3) := by decide +kernel
theorem dX12_extensions_23 : decode cX12_extensions 23 = .ok (.istore_n 1, 1) := by decide +kernel
theorem dX12_extensions_24 : decode cX12_extensions 24 = .ok (.iconst 0, 1) := by decide +kernel
theorem dX12_extensions_25 : decode cX12_extensions 25 = .ok (.istore_n 2, 1) := by decide +kernel
theorem dX12_extensions_26 : decode cX12_extensions 26 = .ok (.iload_n 1, 1) := by decide +kernel
theorem dX12_extensions_27 : decode cX12_extensions 27 = .ok (.iload_n 1, 1) := by decide +kernel
theorem dX12_extensions_28 : decode cX12_extensions 28 = .ok (.iconst 1, 1) := by decide +kernel
theorem dX12_extensions_29 : decode cX12_extensions 29 = .ok (.isub, 1) := by decide +kernel
theorem dX12_extensions_30 : decode cX12_extensions 30 = .ok (.imul, 1) := by decide +kernel
theorem dX12_extensions_31 : decode cX12_extensions 31 = .ok (.iconst 2, 1) := by decide +kernel
theorem dX12_extensions_32 : decode cX12_extensions 32 = .ok (.idiv, 1) := by decide +kernel
theorem dX12_extensions_33 : decode cX12_extensions 33 = .ok (.istore_n 3, 1) := by decide +kernel
theorem dX12_extensions_34 : decode cX12_extensions 34 = .ok (.iconst 0, 1) := by decide +kernel
theorem dX12_extensions_35 : decode cX12_extensions 35 = .ok (.istore 4, 2) := by decide +kernel
theorem dX12_extensions_37 : decode cX12_extensions 37 = .ok (.iload 4, 2) := by decide +kernel
theorem dX12_extensions_39 : decode cX12_extensions 39 = .ok (.bipush 39, 2) := by decide +kernel
theorem dX12_extensions_41 : decode cX12_extensions 41 = .ok (.if_icmp .ge 23, 3) := by decide +kernel
theorem dX12_extensions_44 : decode cX12_extensions 44 = .ok (.aload_n 0, 1) := by decide +kernel
theorem dX12_extensions_45 : decode cX12_extensions 45 = .ok (.getfield 35, 3) := by decide +kernel
theorem dX12_extensions_48 : decode cX12_extensions 48 = .ok (.iload 4, 2) := by decide +kernel
theorem dX12_extensions_50 : decode cX12_extensions 50 = .ok (.aload_n 0, 1) := by decide +kernel
theorem dX12_extensions_51 : decode cX12_extensions 51 = .ok (.getfield 7, 3) := by decide +kernel
theorem dX12_extensions_54 : decode cX12_extensions 54 = .ok (.iload 4, 2) := by decide +kernel
theorem dX12_extensions_56 : decode cX12_extensions 56 = .ok (.iaload, 1) := by decide +kernel
theorem dX12_extensions_57 : decode cX12_extensions 57 = .ok (.iastore, 1) := by decide +kernel
theorem dX12_extensions_58 : decode cX12_extensions 58 = .ok (.iinc 4 1, 3) := by decide +kernel
theorem dX12_extensions_61 : decode cX12_extensions 61 = .ok (.goto (-24), 3) := by decide +kernel
theorem dX12_extensions_64 : decode cX12_extensions 64 = .ok (.aload_n 0, 1) := by decide +kernel
theorem dX12_extensions_65 : decode cX12_extensions 65 = .ok (.getfield 7, 3) := by decide +kernel
theorem dX12_extensions_68 : decode cX12_extensions 68 = .ok (.iconst 0, 1) := by decide +kernel
theorem dX12_extensions_69 : decode cX12_extensions 69 = .ok (.iload_n 1, 1) := by decide +kernel
theorem dX12_extensions_70 : decode cX12_extensions 70 = .ok (.iconst 1, 1) := by decide +kernel
theorem dX12_extensions_71 : decode cX12_extensions 71 = .ok (.iadd, 1) := by decide +kernel
theorem dX12_extensions_72 : decode cX12_extensions 72 = .ok (.iastore, 1) := by decide +kernel
theorem dX12_extensions_73 : decode cX12_extensions 73 = .ok (.iconst 0, 1) := by decide +kernel
theorem dX12_extensions_74 : decode cX12_extensions 74 = .ok (.istore 4, 2) := by decide +kernel
theorem dX12_extensions_76 : decode cX12_extensions 76 = .ok (.iload 4, 2) := by decide +kernel
theorem dX12_extensions_78 : decode cX12_extensions 78 = .ok (.iload_n 3, 1) := by decide +kernel
theorem dX12_extensions_79 : decode cX12_extensions 79 = .ok (.invokestatic 250, 3) := by decide +kernel
theorem dX12_extensions_82 : decode cX12_extensions 82 = .ok (.if_icmp .ge 82, 3) := by decide +kernel
theorem dX12_extensions_85 : decode cX12_extensions 85 = .ok (.iload 4, 2) := by decide +kernel
theorem dX12_extensions_87 : decode cX12_extensions 87 = .ok (.istore 5, 2) := by decide +kernel
theorem dX12_extensions_89 : decode cX12_extensions 89 = .ok (.iconst 0, 1) := by decide +kernel
theorem dX12_extensions_90 : decode cX12_extensions 90 = .ok (.istore 6, 2) := by decide +kernel
theorem dX12_extensions_92 : decode cX12_extensions 92 = .ok (.iload 6, 2) := by decide +kernel
theorem dX12_extensions_94 : decode cX12_extensions 94 = .ok (.iload_n 1, 1) := by decide +kernel
theorem dX12_extensions_95 : decode cX12_extensions 95 = .ok (.if_icmp .ge 48, 3) := by decide +kernel
theorem dX12_extensions_98 : decode cX12_extensions 98 = .ok (.iload 6, 2) := by decide +kernel
theorem dX12_extensions_100 : decode cX12_extensions 100 = .ok (.iconst 1, 1) := by decide +kernel
theorem dX12_extensions_101 : decode cX12_extensions 101 = .ok (.iadd, 1) := by decide +kernel
theorem dX12_extensions_102 : decode cX12_extensions 102 = .ok (.istore 7, 2) := by decide +kernel
theorem dX12_extensions_104 : decode cX12_extensions 104 = .ok (.iload 7, 2) := by decide +kernel
theorem dX12_extensions_106 : decode cX12_extensions 106 = .ok (.iload_n 1, 1) := by decide +kernel
theorem dX12_extensions_107 : decode cX12_extensions 107 = .ok (.if_icmp .ge 30, 3) := by decide +kernel
theorem dX12_extensions_110 : decode cX12_extensions 110 = .ok (.aload_n 0, 1) := by decide +kernel
theorem dX12_extensions_111 : decode cX12_extensions 111 = .ok (.iload 6, 2) := by decide +kernel
theorem dX12_extensions_113 : decode cX12_extensions 113 = .ok (.iload 7, 2) := by decide +kernel
theorem dX12_extensions_115 : decode cX12_extensions 115 = .ok (.iload_n 1, 1) := by decide +kernel
theorem dX12_extensions_116 : decode cX12_extensions 116 = .ok (.iload 5, 2) := by decide +kernel
theorem dX12_extensions_118 : decode cX12_extensions 118 = .ok (.iconst 3, 1) := by decide +kernel
theorem dX12_extensions_119 : decode cX12_extensions 119 = .ok (.irem, 1) := by decide +kernel
theorem dX12_extensions_120 : decode cX12_extensions 120 = .ok (.iconst 1, 1) := by decide +kernel
theorem dX12_extensions_121 : decode cX12_extensions 121 = .ok (.isub, 1) := by decide +kernel
theorem dX12_extensions_122 : decode cX12_extensions 122 = .ok (.invokevirtual 133, 3) := by decide +kernel
theorem dX12_extensions_125 : decode cX12_extensions 125 = .ok (.iload 5, 2) := by decide +kernel
theorem dX12_extensions_127 : decode cX12_extensions 127 = .ok (.iconst 3, 1) := by decide +kernel
theorem dX12_extensions_128 : decode cX12_extensions 128 = .ok (.idiv, 1) := by decide +kernel
theorem dX12_extensions_129 : decode cX12_extensions 129 = .ok (.istore 5, 2) := by decide +kernel
theorem dX12_extensions_131 : decode cX12_extensions 131 = .ok (.iinc 7 1, 3) := by decide +kernel
theorem dX12_extensions_134 : decode cX12_extensions 134 = .ok (.goto (-30), 3) := by decide +kernel
theorem dX12_extensions_137 : decode cX12_extensions 137 = .ok (.iinc 6 1, 3) := by decide +kernel
theorem dX12_extensions_140 : decode cX12_extensions 140 = .ok (.goto (-48), 3) := by decide +kernel
theorem dX12_extensions_143 : decode cX12_extensions 143 = .ok (.iload_n 2, 1) := by decide +kernel
theorem dX12_extensions_144 : decode cX12_extensions 144 = .ok (.aload_n 0, 1) := by decide +kernel
theorem dX12_extensions_145 : decode cX12_extensions 145 = .ok (.invokevirtual 244, 3) := by decide +kernel
theorem dX12_extensions_148 : decode cX12_extensions 148 = .ok (.ifCond .eq 7, 3) := by decide +kernel
theorem dX12_extensions_151 : decode cX12_extensions 151 = .ok (.iconst 1, 1) := by decide +kernel
theorem dX12_extensions_152 : decode cX12_extensions 152 = .ok (.goto 4, 3) := by decide +kernel
theorem dX12_extensions_155 : decode cX12_extensions 155 = .ok (.iconst 0, 1) := by decide +kernel
theorem dX12_extensions_156 : decode cX12_extensions 156 = .ok (.iadd, 1) := by decide +kernel
theorem dX12_extensions_157 : decode cX12_extensions 157 = .ok (.istore_n 2, 1) := by decide +kernel
theorem dX12_extensions_158 : decode cX12_extensions 158 = .ok (.iinc 4 1, 3) := by decide +kernel
theorem dX12_extensions_161 : decode cX12_extensions 161 = .ok (.goto (-85), 3) := by decide +kernel
theorem dX12_extensions_164 : decode cX12_extensions 164 = .ok (.iconst 0, 1) := by decide +kernel
theorem dX12_extensions_165 : decode cX12_extensions 165 = .ok (.istore 4, 2) := by decide +kernel
theorem dX12_extensions_167 : decode cX12_extensions 167 = .ok (.iload 4, 2) := by decide +kernel
theorem dX12_extensions_169 : decode cX12_extensions 169 = .ok (.bipush 39, 2) := by decide +kernel
theorem dX12_extensions_171 : decode cX12_extensions 171 = .ok (.if_icmp .ge 23, 3) := by decide +kernel
theorem dX12_extensions_174 : decode cX12_extensions 174 = .ok (.aload_n 0, 1) := by decide +kernel
theorem dX12_extensions_175 : decode cX12_extensions 175 = .ok (.getfield 7, 3) := by decide +kernel
theorem dX12_extensions_178 : decode cX12_extensions 178 = .ok (.iload 4, 2) := by decide +kernel
theorem dX12_extensions_180 : decode cX12_extensions 180 = .ok (.aload_n 0, 1) := by decide +kernel
theorem dX12_extensions_181 : decode cX12_extensions 181 = .ok (.getfield 35, 3) := by decide +kernel
theorem dX12_extensions_184 : decode cX12_extensions 184 = .ok (.iload 4, 2) := by decide +kernel
theorem dX12_extensions_186 : decode cX12_extensions 186 = .ok (.iaload, 1) := by decide +kernel
theorem dX12_extensions_187 : decode cX12_extensions 187 = .ok (.iastore, 1) := by decide +kernel
theorem dX12_extensions_188 : decode cX12_extensions 188 = .ok (.iinc 4 1, 3) := by decide +kernel
theorem dX12_extensions_191 : decode cX12_extensions 191 = .ok (.goto (-24), 3) := by decide +kernel
theorem dX12_extensions_194 : decode cX12_extensions 194 = .ok (.iload_n 2, 1) := by decide +kernel
theorem dX12_extensions_195 : decode cX12_extensions 195 = .ok (.ireturn, 1) := by decide +kernel
theorem dX12_isBox_0 : decode cX12_isBox 0 = .ok (.iload_n 0, 1) := by decide +kernel
theorem dX12_isBox_1 : decode cX12_isBox 1 = .ok (.i2l, 1) := by decide +kernel
theorem dX12_isBox_2 : decode cX12_isBox 2 = .ok (.lconst 0, 1) := by decide +kernel
theorem dX12_isBox_3 : decode cX12_isBox 3 = .ok (.ldc2_w 188, 3) := by decide +kernel
theorem dX12_isBox_6 : decode cX12_isBox 6 = .ok (.invokestatic 77, 3) := by decide +kernel
theorem dX12_isBox_9 : decode cX12_isBox 9 = .ok (.ireturn, 1) := by decide +kernel
theorem dX12_box_0 : decode cX12_box 0 = .ok (.iload_n 1, 1) := by decide +kernel
theorem dX12_box_1 : decode cX12_box 1 = .ok (.invokestatic 319, 3) := by decide +kernel
theorem dX12_box_4 : decode cX12_box 4 = .ok (.ifCond .ne 7, 3) := by decide +kernel
theorem dX12_box_7 : decode cX12_box 7 = .ok (.sipush (-1001), 3) := by decide +kernel
theorem dX12_box_10 : decode cX12_box 10 = .ok (.ireturn, 1) := by decide +kernel
theorem dX12_box_11 : decode cX12_box 11 = .ok (.iload_n 2, 1) := by decide +kernel
theorem dX12_box_12 : decode cX12_box 12 = .ok (.i2l, 1) := by decide +kernel
theorem dX12_box_13 : decode cX12_box 13 = .ok (.lconst 0, 1) := by decide +kernel
theorem dX12_box_14 : decode cX12_box 14 = .ok (.lconst 1, 1) := by decide +kernel
theorem dX12_box_15 : decode cX12_box 15 = .ok (.invokestatic 77, 3) := by decide +kernel
theorem dX12_box_18 : decode cX12_box 18 = .ok (.ifCond .eq 9, 3) := by decide +kernel
theorem dX12_box_21 : decode cX12_box 21 = .ok (.iload_n 3, 1) := by decide +kernel
theorem dX12_box_22 : decode cX12_box 22 = .ok (.bipush 6, 2) := by decide +kernel
theorem dX12_box_24 : decode cX12_box 24 = .ok (.if_icmp .le 7, 3) := by decide +kernel
theorem dX12_box_27 : decode cX12_box 27 = .ok (.sipush (-1002), 3) := by decide +kernel
theorem dX12_box_30 : decode cX12_box 30 = .ok (.ireturn, 1) := by decide +kernel
theorem dX12_box_31 : decode cX12_box 31 = .ok (.iload_n 3, 1) := by decide +kernel
theorem dX12_box_32 : decode cX12_box 32 = .ok (.ifCond .ge 7, 3) := by decide +kernel
theorem dX12_box_35 : decode cX12_box 35 = .ok (.sipush (-1012), 3) := by decide +kernel
theorem dX12_box_38 : decode cX12_box 38 = .ok (.ireturn, 1) := by decide +kernel
theorem dX12_box_39 : decode cX12_box 39 = .ok (.aload_n 0, 1) := by decide +kernel
theorem dX12_box_40 : decode cX12_box 40 = .ok (.getfield 20, 3) := by decide +kernel
theorem dX12_box_43 : decode cX12_box 43 = .ok (.iload_n 1, 1) := by decide +kernel
theorem dX12_box_44 : decode cX12_box 44 = .ok (.iload_n 2, 1) := by decide +kernel
theorem dX12_box_45 : decode cX12_box 45 = .ok (.iastore, 1) := by decide +kernel
theorem dX12_box_46 : decode cX12_box 46 = .ok (.aload_n 0, 1) := by decide +kernel
theorem dX12_box_47 : decode cX12_box 47 = .ok (.getfield 23, 3) := by decide +kernel
theorem dX12_box_50 : decode cX12_box 50 = .ok (.iload_n 1, 1) := by decide +kernel
theorem dX12_box_51 : decode cX12_box 51 = .ok (.iload_n 3, 1) := by decide +kernel
theorem dX12_box_52 : decode cX12_box 52 = .ok (.iastore, 1) := by decide +kernel
theorem dX12_box_53 : decode cX12_box 53 = .ok (.iconst 0, 1) := by decide +kernel
theorem dX12_box_54 : decode cX12_box 54 = .ok (.istore 4, 2) := by decide +kernel
theorem dX12_box_56 : decode cX12_box 56 = .ok (.iload 4, 2) := by decide +kernel
theorem dX12_box_58 : decode cX12_box 58 = .ok (.bipush 6, 2) := by decide +kernel
theorem dX12_box_60 : decode cX12_box 60 = .ok (.if_icmp .ge 22, 3) := by decide +kernel
theorem dX12_box_63 : decode cX12_box 63 = .ok (.aload_n 0, 1) := by decide +kernel
theorem dX12_box_64 : decode cX12_box 64 = .ok (.getfield 26, 3) := by decide +kernel
theorem dX12_box_67 : decode cX12_box 67 = .ok (.bipush 6, 2) := by decide +kernel
theorem dX12_box_69 : decode cX12_box 69 = .ok (.iload_n 1, 1) := by decide +kernel
theorem dX12_box_70 : decode cX12_box 70 = .ok (.imul, 1) := by decide +kernel
theorem dX12_box_71 : decode cX12_box 71 = .ok (.iload 4, 2) := by decide +kernel
theorem dX12_box_73 : decode cX12_box 73 = .ok (.iadd, 1) := by decide +kernel
theorem dX12_box_74 : decode cX12_box 74 = .ok (.iconst (-1), 1) := by decide +kernel
theorem dX12_box_75 : decode cX12_box 75 = .ok (.iastore, 1) := by decide +kernel
theorem dX12_box_76 : decode cX12_box 76 = .ok (.iinc 4 1, 3) := by decide +kernel
theorem dX12_box_79 : decode cX12_box 79 = .ok (.goto (-23), 3) := by decide +kernel
theorem dX12_box_82 : decode cX12_box 82 = .ok (.iload_n 3, 1) := by decide +kernel
theorem dX12_box_83 : decode cX12_box 83 = .ok (.ireturn, 1) := by decide +kernel
theorem dX12_finds_0 : decode cX12_finds 0 = .ok (.aload_n 0, 1) := by decide +kernel
theorem dX12_finds_1 : decode cX12_finds 1 = .ok (.getfield 20, 3) := by decide +kernel
theorem dX12_finds_4 : decode cX12_finds 4 = .ok (.iload_n 1, 1) := by decide +kernel
theorem dX12_finds_5 : decode cX12_finds 5 = .ok (.iaload, 1) := by decide +kernel
theorem dX12_finds_6 : decode cX12_finds 6 = .ok (.ifCond .ge 9, 3) := by decide +kernel
theorem dX12_finds_9 : decode cX12_finds 9 = .ok (.sipush (-1011), 3) := by decide +kernel
theorem dX12_finds_12 : decode cX12_finds 12 = .ok (.goto 28, 3) := by decide +kernel
theorem dX12_finds_15 : decode cX12_finds 15 = .ok (.iload_n 2, 1) := by decide +kernel
theorem dX12_finds_16 : decode cX12_finds 16 = .ok (.i2l, 1) := by decide +kernel
theorem dX12_finds_17 : decode cX12_finds 17 = .ok (.lconst 0, 1) := by decide +kernel
theorem dX12_finds_18 : decode cX12_finds 18 = .ok (.aload_n 0, 1) := by decide +kernel
theorem dX12_finds_19 : decode cX12_finds 19 = .ok (.getfield 23, 3) := by decide +kernel
theorem dX12_finds_22 : decode cX12_finds 22 = .ok (.iload_n 1, 1) := by decide +kernel
theorem dX12_finds_23 : decode cX12_finds 23 = .ok (.iaload, 1) := by decide +kernel
theorem dX12_finds_24 : decode cX12_finds 24 = .ok (.iconst 1, 1) := by decide +kernel
theorem dX12_finds_25 : decode cX12_finds 25 = .ok (.isub, 1) := by decide +kernel
theorem dX12_finds_26 : decode cX12_finds 26 = .ok (.i2l, 1) := by decide +kernel
theorem dX12_finds_27 : decode cX12_finds 27 = .ok (.invokestatic 77, 3) := by decide +kernel
theorem dX12_finds_30 : decode cX12_finds 30 = .ok (.ifCond .ne 9, 3) := by decide +kernel
theorem dX12_finds_33 : decode cX12_finds 33 = .ok (.sipush (-1013), 3) := by decide +kernel
theorem dX12_finds_36 : decode cX12_finds 36 = .ok (.goto 4, 3) := by decide +kernel
theorem dX12_finds_39 : decode cX12_finds 39 = .ok (.iconst 0, 1) := by decide +kernel
theorem dX12_finds_40 : decode cX12_finds 40 = .ok (.ireturn, 1) := by decide +kernel
theorem dX12_lay_0 : decode cX12_lay 0 = .ok (.iload_n 3, 1) := by decide +kernel
theorem dX12_lay_1 : decode cX12_lay 1 = .ok (.i2l, 1) := by decide +kernel
theorem dX12_lay_2 : decode cX12_lay 2 = .ok (.lconst 0, 1) := by decide +kernel
theorem dX12_lay_3 : decode cX12_lay 3 = .ok (.ldc2_w 284, 3) := by decide +kernel
theorem dX12_lay_6 : decode cX12_lay 6 = .ok (.invokestatic 77, 3) := by decide +kernel
theorem dX12_lay_9 : decode cX12_lay 9 = .ok (.ifCond .ne 7, 3) := by decide +kernel
theorem dX12_lay_12 : decode cX12_lay 12 = .ok (.sipush (-1002), 3) := by decide +kernel
theorem dX12_lay_15 : decode cX12_lay 15 = .ok (.ireturn, 1) := by decide +kernel
theorem dX12_lay_16 : decode cX12_lay 16 = .ok (.aload_n 0, 1) := by decide +kernel
theorem dX12_lay_17 : decode cX12_lay 17 = .ok (.iload_n 3, 1) := by decide +kernel
theorem dX12_lay_18 : decode cX12_lay 18 = .ok (.invokevirtual 286, 3) := by decide +kernel
theorem dX12_lay_21 : decode cX12_lay 21 = .ok (.ifCond .eq 7, 3) := by decide +kernel
theorem dX12_lay_24 : decode cX12_lay 24 = .ok (.sipush (-1003), 3) := by decide +kernel
theorem dX12_lay_27 : decode cX12_lay 27 = .ok (.ireturn, 1) := by decide +kernel
theorem dX12_lay_28 : decode cX12_lay 28 = .ok (.aload_n 0, 1) := by decide +kernel
theorem dX12_lay_29 : decode cX12_lay 29 = .ok (.iload_n 3, 1) := by decide +kernel
theorem dX12_lay_30 : decode cX12_lay 30 = .ok (.invokevirtual 289, 3) := by decide +kernel
theorem dX12_lay_33 : decode cX12_lay 33 = .ok (.iload 4, 2) := by decide +kernel
theorem dX12_lay_35 : decode cX12_lay 35 = .ok (.ifCond .ge 7, 3) := by decide +kernel
theorem dX12_lay_38 : decode cX12_lay 38 = .ok (.iconst (-1), 1) := by decide +kernel
theorem dX12_lay_39 : decode cX12_lay 39 = .ok (.goto 9, 3) := by decide +kernel
theorem dX12_lay_42 : decode cX12_lay 42 = .ok (.aload_n 0, 1) := by decide +kernel
theorem dX12_lay_43 : decode cX12_lay 43 = .ok (.iload 4, 2) := by decide +kernel
theorem dX12_lay_45 : decode cX12_lay 45 = .ok (.invokevirtual 295, 3) := by decide +kernel
theorem dX12_lay_48 : decode cX12_lay 48 = .ok (.istore 5, 2) := by decide +kernel
theorem dX12_lay_50 : decode cX12_lay 50 = .ok (.iload 5, 2) := by decide +kernel
theorem dX12_lay_52 : decode cX12_lay 52 = .ok (.iconst (-1), 1) := by decide +kernel
theorem dX12_lay_53 : decode cX12_lay 53 = .ok (.if_icmp .eq 10, 3) := by decide +kernel
theorem dX12_lay_56 : decode cX12_lay 56 = .ok (.iload_n 1, 1) := by decide +kernel
theorem dX12_lay_57 : decode cX12_lay 57 = .ok (.invokestatic 319, 3) := by decide +kernel
theorem dX12_lay_60 : decode cX12_lay 60 = .ok (.ifCond .ne 7, 3) := by decide +kernel
theorem dX12_lay_63 : decode cX12_lay 63 = .ok (.sipush (-1001), 3) := by decide +kernel
theorem dX12_lay_66 : decode cX12_lay 66 = .ok (.ireturn, 1) := by decide +kernel
theorem dX12_lay_67 : decode cX12_lay 67 = .ok (.aload_n 0, 1) := by decide +kernel
theorem dX12_lay_68 : decode cX12_lay 68 = .ok (.iload_n 1, 1) := by decide +kernel
theorem dX12_lay_69 : decode cX12_lay 69 = .ok (.iload_n 2, 1) := by decide +kernel
theorem dX12_lay_70 : decode cX12_lay 70 = .ok (.invokevirtual 322, 3) := by decide +kernel
theorem dX12_lay_73 : decode cX12_lay 73 = .ok (.istore 6, 2) := by decide +kernel
theorem dX12_lay_75 : decode cX12_lay 75 = .ok (.iload 6, 2) := by decide +kernel
theorem dX12_lay_77 : decode cX12_lay 77 = .ok (.ifCond .ge 6, 3) := by decide +kernel
theorem dX12_lay_80 : decode cX12_lay 80 = .ok (.iload 6, 2) := by decide +kernel
theorem dX12_lay_82 : decode cX12_lay 82 = .ok (.ireturn, 1) := by decide +kernel
theorem dX12_lay_83 : decode cX12_lay 83 = .ok (.iload 5, 2) := by decide +kernel
theorem dX12_lay_85 : decode cX12_lay 85 = .ok (.aload_n 0, 1) := by decide +kernel
theorem dX12_lay_86 : decode cX12_lay 86 = .ok (.invokevirtual 73, 3) := by decide +kernel
theorem dX12_lay_89 : decode cX12_lay 89 = .ok (.invokestatic 259, 3) := by decide +kernel
theorem dX12_lay_92 : decode cX12_lay 92 = .ok (.istore 7, 2) := by decide +kernel
theorem dX12_lay_94 : decode cX12_lay 94 = .ok (.aload_n 0, 1) := by decide +kernel
theorem dX12_lay_95 : decode cX12_lay 95 = .ok (.getfield 20, 3) := by decide +kernel
theorem dX12_lay_98 : decode cX12_lay 98 = .ok (.iload_n 1, 1) := by decide +kernel
theorem dX12_lay_99 : decode cX12_lay 99 = .ok (.iaload, 1) := by decide +kernel
theorem dX12_lay_100 : decode cX12_lay 100 = .ok (.iconst 1, 1) := by decide +kernel
theorem dX12_lay_101 : decode cX12_lay 101 = .ok (.if_icmp .ne 12, 3) := by decide +kernel
theorem dX12_lay_104 : decode cX12_lay 104 = .ok (.iload 7, 2) := by decide +kernel
theorem dX12_lay_106 : decode cX12_lay 106 = .ok (.ifCond .le 7, 3) := by decide +kernel
theorem dX12_lay_109 : decode cX12_lay 109 = .ok (.sipush (-1014), 3) := by decide +kernel
theorem dX12_lay_112 : decode cX12_lay 112 = .ok (.ireturn, 1) := by decide +kernel
theorem dX12_lay_113 : decode cX12_lay 113 = .ok (.aload_n 0, 1) := by decide +kernel
theorem dX12_lay_114 : decode cX12_lay 114 = .ok (.getfield 26, 3) := by decide +kernel
theorem dX12_lay_117 : decode cX12_lay 117 = .ok (.bipush 6, 2) := by decide +kernel
theorem dX12_lay_119 : decode cX12_lay 119 = .ok (.iload_n 1, 1) := by decide +kernel
theorem dX12_lay_120 : decode cX12_lay 120 = .ok (.imul, 1) := by decide +kernel
theorem dX12_lay_121 : decode cX12_lay 121 = .ok (.iload_n 2, 1) := by decide +kernel
theorem dX12_lay_122 : decode cX12_lay 122 = .ok (.iadd, 1) := by decide +kernel
theorem dX12_lay_123 : decode cX12_lay 123 = .ok (.iload 5, 2) := by decide +kernel
theorem dX12_lay_125 : decode cX12_lay 125 = .ok (.iastore, 1) := by decide +kernel
theorem dX12_lay_126 : decode cX12_lay 126 = .ok (.aload_n 0, 1) := by decide +kernel
theorem dX12_lay_127 : decode cX12_lay 127 = .ok (.getfield 29, 3) := by decide +kernel
theorem dX12_lay_130 : decode cX12_lay 130 = .ok (.bipush 6, 2) := by decide +kernel
theorem dX12_lay_132 : decode cX12_lay 132 = .ok (.iload_n 1, 1) := by decide +kernel
theorem dX12_lay_133 : decode cX12_lay 133 = .ok (.imul, 1) := by decide +kernel
theorem dX12_lay_134 : decode cX12_lay 134 = .ok (.iload_n 2, 1) := by decide +kernel
theorem dX12_lay_135 : decode cX12_lay 135 = .ok (.iadd, 1) := by decide +kernel
theorem dX12_lay_136 : decode cX12_lay 136 = .ok (.aload_n 0, 1) := by decide +kernel
theorem dX12_lay_137 : decode cX12_lay 137 = .ok (.invokevirtual 73, 3) := by decide +kernel
theorem dX12_lay_140 : decode cX12_lay 140 = .ok (.iastore, 1) := by decide +kernel
theorem dX12_lay_141 : decode cX12_lay 141 = .ok (.iload 7, 2) := by decide +kernel
theorem dX12_lay_143 : decode cX12_lay 143 = .ok (.ireturn, 1) := by decide +kernel
theorem dX12_compose_0 : decode cX12_compose 0 = .ok (.iload_n 1, 1) := by decide +kernel
theorem dX12_compose_1 : decode cX12_compose 1 = .ok (.invokestatic 319, 3) := by decide +kernel
theorem dX12_compose_4 : decode cX12_compose 4 = .ok (.ifCond .ne 7, 3) := by decide +kernel
theorem dX12_compose_7 : decode cX12_compose 7 = .ok (.sipush (-1001), 3) := by decide +kernel
theorem dX12_compose_10 : decode cX12_compose 10 = .ok (.ireturn, 1) := by decide +kernel
theorem dX12_compose_11 : decode cX12_compose 11 = .ok (.aload_n 0, 1) := by decide +kernel
theorem dX12_compose_12 : decode cX12_compose 12 = .ok (.iload_n 1, 1) := by decide +kernel
theorem dX12_compose_13 : decode cX12_compose 13 = .ok (.iload_n 2, 1) := by decide +kernel
theorem dX12_compose_14 : decode cX12_compose 14 = .ok (.invokevirtual 322, 3) := by decide +kernel
theorem dX12_compose_17 : decode cX12_compose 17 = .ok (.istore 4, 2) := by decide +kernel
theorem dX12_compose_19 : decode cX12_compose 19 = .ok (.aload_n 0, 1) := by decide +kernel
theorem dX12_compose_20 : decode cX12_compose 20 = .ok (.iload_n 1, 1) := by decide +kernel
theorem dX12_compose_21 : decode cX12_compose 21 = .ok (.iload_n 3, 1) := by decide +kernel
theorem dX12_compose_22 : decode cX12_compose 22 = .ok (.invokevirtual 322, 3) := by decide +kernel
theorem dX12_compose_25 : decode cX12_compose 25 = .ok (.istore 5, 2) := by decide +kernel
theorem dX12_compose_27 : decode cX12_compose 27 = .ok (.iload 4, 2) := by decide +kernel
theorem dX12_compose_29 : decode cX12_compose 29 = .ok (.ifCond .lt 8, 3) := by decide +kernel
theorem dX12_compose_32 : decode cX12_compose 32 = .ok (.iload 5, 2) := by decide +kernel
theorem dX12_compose_34 : decode cX12_compose 34 = .ok (.ifCond .ge 16, 3) := by decide +kernel
theorem dX12_compose_37 : decode cX12_compose 37 = .ok (.iload 4, 2) := by decide +kernel
theorem dX12_compose_39 : decode cX12_compose 39 = .ok (.ifCond .ge 8, 3) := by decide +kernel
theorem dX12_compose_42 : decode cX12_compose 42 = .ok (.iload 4, 2) := by decide +kernel
theorem dX12_compose_44 : decode cX12_compose 44 = .ok (.goto 5, 3) := by decide +kernel
theorem dX12_compose_47 : decode cX12_compose 47 = .ok (.iload 5, 2) := by decide +kernel
theorem dX12_compose_49 : decode cX12_compose 49 = .ok (.ireturn, 1) := by decide +kernel
theorem dX12_compose_50 : decode cX12_compose 50 = .ok (.aload_n 0, 1) := by decide +kernel
theorem dX12_compose_51 : decode cX12_compose 51 = .ok (.getfield 26, 3) := by decide +kernel
theorem dX12_compose_54 : decode cX12_compose 54 = .ok (.bipush 6, 2) := by decide +kernel
theorem dX12_compose_56 : decode cX12_compose 56 = .ok (.iload_n 1, 1) := by decide +kernel
theorem dX12_compose_57 : decode cX12_compose 57 = .ok (.imul, 1) := by decide +kernel
theorem dX12_compose_58 : decode cX12_compose 58 = .ok (.iload_n 2, 1) := by decide +kernel
theorem dX12_compose_59 : decode cX12_compose 59 = .ok (.iadd, 1) := by decide +kernel
theorem dX12_compose_60 : decode cX12_compose 60 = .ok (.iaload, 1) := by decide +kernel
theorem dX12_compose_61 : decode cX12_compose 61 = .ok (.ifCond .lt 17, 3) := by decide +kernel
theorem dX12_compose_64 : decode cX12_compose 64 = .ok (.aload_n 0, 1) := by decide +kernel
theorem dX12_compose_65 : decode cX12_compose 65 = .ok (.getfield 26, 3) := by decide +kernel
theorem dX12_compose_68 : decode cX12_compose 68 = .ok (.bipush 6, 2) := by decide +kernel
theorem dX12_compose_70 : decode cX12_compose 70 = .ok (.iload_n 1, 1) := by decide +kernel
theorem dX12_compose_71 : decode cX12_compose 71 = .ok (.imul, 1) := by decide +kernel
theorem dX12_compose_72 : decode cX12_compose 72 = .ok (.iload_n 3, 1) := by decide +kernel
theorem dX12_compose_73 : decode cX12_compose 73 = .ok (.iadd, 1) := by decide +kernel
theorem dX12_compose_74 : decode cX12_compose 74 = .ok (.iaload, 1) := by decide +kernel
theorem dX12_compose_75 : decode cX12_compose 75 = .ok (.ifCond .ge 7, 3) := by decide +kernel
theorem dX12_compose_78 : decode cX12_compose 78 = .ok (.sipush (-1015), 3) := by decide +kernel
theorem dX12_compose_81 : decode cX12_compose 81 = .ok (.ireturn, 1) := by decide +kernel
theorem dX12_compose_82 : decode cX12_compose 82 = .ok (.aload_n 0, 1) := by decide +kernel
theorem dX12_compose_83 : decode cX12_compose 83 = .ok (.getfield 29, 3) := by decide +kernel
theorem dX12_compose_86 : decode cX12_compose 86 = .ok (.bipush 6, 2) := by decide +kernel
theorem dX12_compose_88 : decode cX12_compose 88 = .ok (.iload_n 1, 1) := by decide +kernel
theorem dX12_compose_89 : decode cX12_compose 89 = .ok (.imul, 1) := by decide +kernel
theorem dX12_compose_90 : decode cX12_compose 90 = .ok (.iload_n 2, 1) := by decide +kernel
theorem dX12_compose_91 : decode cX12_compose 91 = .ok (.iadd, 1) := by decide +kernel
theorem dX12_compose_92 : decode cX12_compose 92 = .ok (.iaload, 1) := by decide +kernel
theorem dX12_compose_93 : decode cX12_compose 93 = .ok (.istore 6, 2) := by decide +kernel
theorem dX12_compose_95 : decode cX12_compose 95 = .ok (.iload 6, 2) := by decide +kernel
theorem dX12_compose_97 : decode cX12_compose 97 = .ok (.aload_n 0, 1) := by decide +kernel
theorem dX12_compose_98 : decode cX12_compose 98 = .ok (.getfield 29, 3) := by decide +kernel
theorem dX12_compose_101 : decode cX12_compose 101 = .ok (.bipush 6, 2) := by decide +kernel
theorem dX12_compose_103 : decode cX12_compose 103 = .ok (.iload_n 1, 1) := by decide +kernel
theorem dX12_compose_104 : decode cX12_compose 104 = .ok (.imul, 1) := by decide +kernel
theorem dX12_compose_105 : decode cX12_compose 105 = .ok (.iload_n 3, 1) := by decide +kernel
theorem dX12_compose_106 : decode cX12_compose 106 = .ok (.iadd, 1) := by decide +kernel
theorem dX12_compose_107 : decode cX12_compose 107 = .ok (.iaload, 1) := by decide +kernel
theorem dX12_compose_108 : decode cX12_compose 108 = .ok (.if_icmp .eq 7, 3) := by decide +kernel
theorem dX12_compose_111 : decode cX12_compose 111 = .ok (.sipush (-1016), 3) := by decide +kernel
theorem dX12_compose_114 : decode cX12_compose 114 = .ok (.ireturn, 1) := by decide +kernel
theorem dX12_compose_115 : decode cX12_compose 115 = .ok (.iconst 0, 1) := by decide +kernel
theorem dX12_compose_116 : decode cX12_compose 116 = .ok (.istore 7, 2) := by decide +kernel
theorem dX12_compose_118 : decode cX12_compose 118 = .ok (.iconst 0, 1) := by decide +kernel
theorem dX12_compose_119 : decode cX12_compose 119 = .ok (.istore 8, 2) := by decide +kernel
theorem dX12_compose_121 : decode cX12_compose 121 = .ok (.iload 8, 2) := by decide +kernel
theorem dX12_compose_123 : decode cX12_compose 123 = .ok (.iload 6, 2) := by decide +kernel
theorem dX12_compose_125 : decode cX12_compose 125 = .ok (.if_icmp .ge 66, 3) := by decide +kernel
theorem dX12_compose_128 : decode cX12_compose 128 = .ok (.aload_n 0, 1) := by decide +kernel
theorem dX12_compose_129 : decode cX12_compose 129 = .ok (.getfield 26, 3) := by decide +kernel
theorem dX12_compose_132 : decode cX12_compose 132 = .ok (.bipush 6, 2) := by decide +kernel
theorem dX12_compose_134 : decode cX12_compose 134 = .ok (.iload_n 1, 1) := by decide +kernel
theorem dX12_compose_135 : decode cX12_compose 135 = .ok (.imul, 1) := by decide +kernel
theorem dX12_compose_136 : decode cX12_compose 136 = .ok (.iload_n 2, 1) := by decide +kernel
theorem dX12_compose_137 : decode cX12_compose 137 = .ok (.iadd, 1) := by decide +kernel
theorem dX12_compose_138 : decode cX12_compose 138 = .ok (.iaload, 1) := by decide +kernel
theorem dX12_compose_139 : decode cX12_compose 139 = .ok (.iload 6, 2) := by decide +kernel
theorem dX12_compose_141 : decode cX12_compose 141 = .ok (.iload 8, 2) := by decide +kernel
theorem dX12_compose_143 : decode cX12_compose 143 = .ok (.invokestatic 253, 3) := by decide +kernel
theorem dX12_compose_146 : decode cX12_compose 146 = .ok (.istore 9, 2) := by decide +kernel
theorem dX12_compose_148 : decode cX12_compose 148 = .ok (.iconst 3, 1) := by decide +kernel
theorem dX12_compose_149 : decode cX12_compose 149 = .ok (.iload 7, 2) := by decide +kernel
theorem dX12_compose_151 : decode cX12_compose 151 = .ok (.imul, 1) := by decide +kernel
theorem dX12_compose_152 : decode cX12_compose 152 = .ok (.iconst 1, 1) := by decide +kernel
theorem dX12_compose_153 : decode cX12_compose 153 = .ok (.iadd, 1) := by decide +kernel
theorem dX12_compose_154 : decode cX12_compose 154 = .ok (.iload 9, 2) := by decide +kernel
theorem dX12_compose_156 : decode cX12_compose 156 = .ok (.ifCond .eq 8, 3) := by decide +kernel
theorem dX12_compose_159 : decode cX12_compose 159 = .ok (.iload 9, 2) := by decide +kernel
theorem dX12_compose_161 : decode cX12_compose 161 = .ok (.goto 21, 3) := by decide +kernel
theorem dX12_compose_164 : decode cX12_compose 164 = .ok (.aload_n 0, 1) := by decide +kernel
theorem dX12_compose_165 : decode cX12_compose 165 = .ok (.getfield 26, 3) := by decide +kernel
theorem dX12_compose_168 : decode cX12_compose 168 = .ok (.bipush 6, 2) := by decide +kernel
theorem dX12_compose_170 : decode cX12_compose 170 = .ok (.iload_n 1, 1) := by decide +kernel
theorem dX12_compose_171 : decode cX12_compose 171 = .ok (.imul, 1) := by decide +kernel
theorem dX12_compose_172 : decode cX12_compose 172 = .ok (.iload_n 3, 1) := by decide +kernel
theorem dX12_compose_173 : decode cX12_compose 173 = .ok (.iadd, 1) := by decide +kernel
theorem dX12_compose_174 : decode cX12_compose 174 = .ok (.iaload, 1) := by decide +kernel
theorem dX12_compose_175 : decode cX12_compose 175 = .ok (.iload 6, 2) := by decide +kernel
theorem dX12_compose_177 : decode cX12_compose 177 = .ok (.iload 8, 2) := by decide +kernel
theorem dX12_compose_179 : decode cX12_compose 179 = .ok (.invokestatic 253, 3) := by decide +kernel
theorem dX12_compose_182 : decode cX12_compose 182 = .ok (.iadd, 1) := by decide +kernel
theorem dX12_compose_183 : decode cX12_compose 183 = .ok (.istore 7, 2) := by decide +kernel
theorem dX12_compose_185 : decode cX12_compose 185 = .ok (.iinc 8 1, 3) := by decide +kernel
theorem dX12_compose_188 : decode cX12_compose 188 = .ok (.goto (-67), 3) := by decide +kernel
theorem dX12_compose_191 : decode cX12_compose 191 = .ok (.aload_n 0, 1) := by decide +kernel
theorem dX12_compose_192 : decode cX12_compose 192 = .ok (.getfield 26, 3) := by decide +kernel
theorem dX12_compose_195 : decode cX12_compose 195 = .ok (.bipush 6, 2) := by decide +kernel
theorem dX12_compose_197 : decode cX12_compose 197 = .ok (.iload_n 1, 1) := by decide +kernel
theorem dX12_compose_198 : decode cX12_compose 198 = .ok (.imul, 1) := by decide +kernel
theorem dX12_compose_199 : decode cX12_compose 199 = .ok (.iload_n 2, 1) := by decide +kernel
theorem dX12_compose_200 : decode cX12_compose 200 = .ok (.iadd, 1) := by decide +kernel
theorem dX12_compose_201 : decode cX12_compose 201 = .ok (.iload 7, 2) := by decide +kernel
theorem dX12_compose_203 : decode cX12_compose 203 = .ok (.iastore, 1) := by decide +kernel
theorem dX12_compose_204 : decode cX12_compose 204 = .ok (.iload 7, 2) := by decide +kernel
theorem dX12_compose_206 : decode cX12_compose 206 = .ok (.iload 6, 2) := by decide +kernel
theorem dX12_compose_208 : decode cX12_compose 208 = .ok (.invokestatic 259, 3) := by decide +kernel
theorem dX12_compose_211 : decode cX12_compose 211 = .ok (.ireturn, 1) := by decide +kernel
theorem dX12_seen_0 : decode cX12_seen 0 = .ok (.iload_n 1, 1) := by decide +kernel
theorem dX12_seen_1 : decode cX12_seen 1 = .ok (.invokestatic 319, 3) := by decide +kernel
theorem dX12_seen_4 : decode cX12_seen 4 = .ok (.ifCond .ne 7, 3) := by decide +kernel
