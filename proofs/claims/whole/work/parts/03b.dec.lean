theorem dX5_separation_7 : decode cX5_separation 7 = .ok (.ishr, 1) := by decide +kernel
theorem dX5_separation_8 : decode cX5_separation 8 = .ok (.ior, 1) := by decide +kernel
theorem dX5_separation_9 : decode cX5_separation 9 = .ok (.sipush 1365, 3) := by decide +kernel
theorem dX5_separation_12 : decode cX5_separation 12 = .ok (.iand, 1) := by decide +kernel
theorem dX5_separation_13 : decode cX5_separation 13 = .ok (.ireturn, 1) := by decide +kernel
theorem dX6_init_0 : decode cX6_init 0 = .ok (.aload_n 0, 1) := by decide +kernel
theorem dX6_init_1 : decode cX6_init 1 = .ok (.invokespecial 3, 3) := by decide +kernel
theorem dX6_init_4 : decode cX6_init 4 = .ok (.aload_n 0, 1) := by decide +kernel
theorem dX6_init_5 : decode cX6_init 5 = .ok (.bipush 64, 2) := by decide +kernel
theorem dX6_init_7 : decode cX6_init 7 = .ok (.newarray .boolean, 2) := by decide +kernel
theorem dX6_init_9 : decode cX6_init 9 = .ok (.putfield 11, 3) := by decide +kernel
theorem dX6_init_12 : decode cX6_init 12 = .ok (.aload_n 0, 1) := by decide +kernel
theorem dX6_init_13 : decode cX6_init 13 = .ok (.bipush 20, 2) := by decide +kernel
theorem dX6_init_15 : decode cX6_init 15 = .ok (.newarray .int, 2) := by decide +kernel
theorem dX6_init_17 : decode cX6_init 17 = .ok (.putfield 15, 3) := by decide +kernel
theorem dX6_init_20 : decode cX6_init 20 = .ok (.return_, 1) := by decide +kernel
theorem dX6_areOrderly_0 : decode cX6_areOrderly 0 = .ok (.aload_n 1, 1) := by decide +kernel
theorem dX6_areOrderly_1 : decode cX6_areOrderly 1 = .ok (.iconst 0, 1) := by decide +kernel
theorem dX6_areOrderly_2 : decode cX6_areOrderly 2 = .ok (.aload_n 1, 1) := by decide +kernel
theorem dX6_areOrderly_3 : decode cX6_areOrderly 3 = .ok (.invokevirtual 19, 3) := by decide +kernel
theorem dX6_areOrderly_6 : decode cX6_areOrderly 6 = .ok (.invokestatic 25, 3) := by decide +kernel
theorem dX6_areOrderly_9 : decode cX6_areOrderly 9 = .ok (.ifCond .ne 15, 3) := by decide +kernel
theorem dX6_areOrderly_12 : decode cX6_areOrderly 12 = .ok (.aload_n 0, 1) := by decide +kernel
theorem dX6_areOrderly_13 : decode cX6_areOrderly 13 = .ok (.aload_n 1, 1) := by decide +kernel
theorem dX6_areOrderly_14 : decode cX6_areOrderly 14 = .ok (.invokevirtual 29, 3) := by decide +kernel
theorem dX6_areOrderly_17 : decode cX6_areOrderly 17 = .ok (.ifCond .eq 7, 3) := by decide +kernel
theorem dX6_areOrderly_20 : decode cX6_areOrderly 20 = .ok (.iconst 1, 1) := by decide +kernel
theorem dX6_areOrderly_21 : decode cX6_areOrderly 21 = .ok (.goto 4, 3) := by decide +kernel
theorem dX6_areOrderly_24 : decode cX6_areOrderly 24 = .ok (.iconst 0, 1) := by decide +kernel
theorem dX6_areOrderly_25 : decode cX6_areOrderly 25 = .ok (.ireturn, 1) := by decide +kernel
theorem dX6_haveExchange_0 : decode cX6_haveExchange 0 = .ok (.aload_n 0, 1) := by decide +kernel
theorem dX6_haveExchange_1 : decode cX6_haveExchange 1 = .ok (.aload_n 1, 1) := by decide +kernel
theorem dX6_haveExchange_2 : decode cX6_haveExchange 2 = .ok (.invokevirtual 33, 3) := by decide +kernel
theorem dX6_haveExchange_5 : decode cX6_haveExchange 5 = .ok (.iconst 0, 1) := by decide +kernel
theorem dX6_haveExchange_6 : decode cX6_haveExchange 6 = .ok (.istore_n 2, 1) := by decide +kernel
theorem dX6_haveExchange_7 : decode cX6_haveExchange 7 = .ok (.iload_n 2, 1) := by decide +kernel
theorem dX6_haveExchange_8 : decode cX6_haveExchange 8 = .ok (.aload_n 0, 1) := by decide +kernel
theorem dX6_haveExchange_9 : decode cX6_haveExchange 9 = .ok (.getfield 37, 3) := by decide +kernel
theorem dX6_haveExchange_12 : decode cX6_haveExchange 12 = .ok (.if_icmp .ge 46, 3) := by decide +kernel
theorem dX6_haveExchange_15 : decode cX6_haveExchange 15 = .ok (.iconst 0, 1) := by decide +kernel
theorem dX6_haveExchange_16 : decode cX6_haveExchange 16 = .ok (.istore_n 3, 1) := by decide +kernel
theorem dX6_haveExchange_17 : decode cX6_haveExchange 17 = .ok (.iload_n 3, 1) := by decide +kernel
theorem dX6_haveExchange_18 : decode cX6_haveExchange 18 = .ok (.aload_n 0, 1) := by decide +kernel
theorem dX6_haveExchange_19 : decode cX6_haveExchange 19 = .ok (.getfield 37, 3) := by decide +kernel
theorem dX6_haveExchange_22 : decode cX6_haveExchange 22 = .ok (.if_icmp .ge 30, 3) := by decide +kernel
theorem dX6_haveExchange_25 : decode cX6_haveExchange 25 = .ok (.aload_n 0, 1) := by decide +kernel
theorem dX6_haveExchange_26 : decode cX6_haveExchange 26 = .ok (.aload_n 0, 1) := by decide +kernel
theorem dX6_haveExchange_27 : decode cX6_haveExchange 27 = .ok (.getfield 15, 3) := by decide +kernel
theorem dX6_haveExchange_30 : decode cX6_haveExchange 30 = .ok (.iload_n 2, 1) := by decide +kernel
theorem dX6_haveExchange_31 : decode cX6_haveExchange 31 = .ok (.iaload, 1) := by decide +kernel
theorem dX6_haveExchange_32 : decode cX6_haveExchange 32 = .ok (.aload_n 0, 1) := by decide +kernel
theorem dX6_haveExchange_33 : decode cX6_haveExchange 33 = .ok (.getfield 15, 3) := by decide +kernel
theorem dX6_haveExchange_36 : decode cX6_haveExchange 36 = .ok (.iload_n 3, 1) := by decide +kernel
theorem dX6_haveExchange_37 : decode cX6_haveExchange 37 = .ok (.iaload, 1) := by decide +kernel
theorem dX6_haveExchange_38 : decode cX6_haveExchange 38 = .ok (.invokevirtual 41, 3) := by decide +kernel
theorem dX6_haveExchange_41 : decode cX6_haveExchange 41 = .ok (.ifCond .ne 5, 3) := by decide +kernel
theorem dX6_haveExchange_44 : decode cX6_haveExchange 44 = .ok (.iconst 0, 1) := by decide +kernel
theorem dX6_haveExchange_45 : decode cX6_haveExchange 45 = .ok (.ireturn, 1) := by decide +kernel
theorem dX6_haveExchange_46 : decode cX6_haveExchange 46 = .ok (.iinc 3 1, 3) := by decide +kernel
theorem dX6_haveExchange_49 : decode cX6_haveExchange 49 = .ok (.goto (-32), 3) := by decide +kernel
theorem dX6_haveExchange_52 : decode cX6_haveExchange 52 = .ok (.iinc 2 1, 3) := by decide +kernel
theorem dX6_haveExchange_55 : decode cX6_haveExchange 55 = .ok (.goto (-48), 3) := by decide +kernel
theorem dX6_haveExchange_58 : decode cX6_haveExchange 58 = .ok (.aload_n 0, 1) := by decide +kernel
theorem dX6_haveExchange_59 : decode cX6_haveExchange 59 = .ok (.getfield 37, 3) := by decide +kernel
theorem dX6_haveExchange_62 : decode cX6_haveExchange 62 = .ok (.ifCond .le 7, 3) := by decide +kernel
theorem dX6_haveExchange_65 : decode cX6_haveExchange 65 = .ok (.iconst 1, 1) := by decide +kernel
theorem dX6_haveExchange_66 : decode cX6_haveExchange 66 = .ok (.goto 4, 3) := by decide +kernel
theorem dX6_haveExchange_69 : decode cX6_haveExchange 69 = .ok (.iconst 0, 1) := by decide +kernel
theorem dX6_haveExchange_70 : decode cX6_haveExchange 70 = .ok (.ireturn, 1) := by decide +kernel
theorem dX6_gather_0 : decode cX6_gather 0 = .ok (.aload_n 0, 1) := by decide +kernel
theorem dX6_gather_1 : decode cX6_gather 1 = .ok (.iconst 0, 1) := by decide +kernel
theorem dX6_gather_2 : decode cX6_gather 2 = .ok (.putfield 37, 3) := by decide +kernel
theorem dX6_gather_5 : decode cX6_gather 5 = .ok (.iconst 0, 1) := by decide +kernel
theorem dX6_gather_6 : decode cX6_gather 6 = .ok (.istore_n 2, 1) := by decide +kernel
theorem dX6_gather_7 : decode cX6_gather 7 = .ok (.iload_n 2, 1) := by decide +kernel
theorem dX6_gather_8 : decode cX6_gather 8 = .ok (.bipush 64, 2) := by decide +kernel
theorem dX6_gather_10 : decode cX6_gather 10 = .ok (.if_icmp .ge 16, 3) := by decide +kernel
theorem dX6_gather_13 : decode cX6_gather 13 = .ok (.aload_n 0, 1) := by decide +kernel
theorem dX6_gather_14 : decode cX6_gather 14 = .ok (.getfield 11, 3) := by decide +kernel
theorem dX6_gather_17 : decode cX6_gather 17 = .ok (.iload_n 2, 1) := by decide +kernel
theorem dX6_gather_18 : decode cX6_gather 18 = .ok (.iconst 0, 1) := by decide +kernel
theorem dX6_gather_19 : decode cX6_gather 19 = .ok (.bastore, 1) := by decide +kernel
theorem dX6_gather_20 : decode cX6_gather 20 = .ok (.iinc 2 1, 3) := by decide +kernel
theorem dX6_gather_23 : decode cX6_gather 23 = .ok (.goto (-16), 3) := by decide +kernel
theorem dX6_gather_26 : decode cX6_gather 26 = .ok (.iconst 0, 1) := by decide +kernel
theorem dX6_gather_27 : decode cX6_gather 27 = .ok (.istore_n 2, 1) := by decide +kernel
theorem dX6_gather_28 : decode cX6_gather 28 = .ok (.iload_n 2, 1) := by decide +kernel
theorem dX6_gather_29 : decode cX6_gather 29 = .ok (.aload_n 1, 1) := by decide +kernel
theorem dX6_gather_30 : decode cX6_gather 30 = .ok (.invokevirtual 19, 3) := by decide +kernel
theorem dX6_gather_33 : decode cX6_gather 33 = .ok (.if_icmp .ge 113, 3) := by decide +kernel
theorem dX6_gather_36 : decode cX6_gather 36 = .ok (.iload_n 2, 1) := by decide +kernel
theorem dX6_gather_37 : decode cX6_gather 37 = .ok (.iconst 1, 1) := by decide +kernel
theorem dX6_gather_38 : decode cX6_gather 38 = .ok (.iadd, 1) := by decide +kernel
theorem dX6_gather_39 : decode cX6_gather 39 = .ok (.istore_n 3, 1) := by decide +kernel
theorem dX6_gather_40 : decode cX6_gather 40 = .ok (.iload_n 3, 1) := by decide +kernel
theorem dX6_gather_41 : decode cX6_gather 41 = .ok (.aload_n 1, 1) := by decide +kernel
theorem dX6_gather_42 : decode cX6_gather 42 = .ok (.invokevirtual 19, 3) := by decide +kernel
theorem dX6_gather_45 : decode cX6_gather 45 = .ok (.if_icmp .ge 95, 3) := by decide +kernel
theorem dX6_gather_48 : decode cX6_gather 48 = .ok (.iload_n 3, 1) := by decide +kernel
theorem dX6_gather_49 : decode cX6_gather 49 = .ok (.iconst 1, 1) := by decide +kernel
theorem dX6_gather_50 : decode cX6_gather 50 = .ok (.iadd, 1) := by decide +kernel
theorem dX6_gather_51 : decode cX6_gather 51 = .ok (.istore 4, 2) := by decide +kernel
theorem dX6_gather_53 : decode cX6_gather 53 = .ok (.iload 4, 2) := by decide +kernel
theorem dX6_gather_55 : decode cX6_gather 55 = .ok (.aload_n 1, 1) := by decide +kernel
theorem dX6_gather_56 : decode cX6_gather 56 = .ok (.invokevirtual 19, 3) := by decide +kernel
theorem dX6_gather_59 : decode cX6_gather 59 = .ok (.if_icmp .ge 75, 3) := by decide +kernel
theorem dX6_gather_62 : decode cX6_gather 62 = .ok (.aload_n 1, 1) := by decide +kernel
theorem dX6_gather_63 : decode cX6_gather 63 = .ok (.iload_n 2, 1) := by decide +kernel
theorem dX6_gather_64 : decode cX6_gather 64 = .ok (.iload_n 3, 1) := by decide +kernel
theorem dX6_gather_65 : decode cX6_gather 65 = .ok (.iload 4, 2) := by decide +kernel
theorem dX6_gather_67 : decode cX6_gather 67 = .ok (.invokevirtual 45, 3) := by decide +kernel
theorem dX6_gather_70 : decode cX6_gather 70 = .ok (.ifCond .eq 58, 3) := by decide +kernel
theorem dX6_gather_73 : decode cX6_gather 73 = .ok (.aload_n 0, 1) := by decide +kernel
theorem dX6_gather_74 : decode cX6_gather 74 = .ok (.getfield 37, 3) := by decide +kernel
theorem dX6_gather_77 : decode cX6_gather 77 = .ok (.bipush 20, 2) := by decide +kernel
theorem dX6_gather_79 : decode cX6_gather 79 = .ok (.if_icmp .ge 49, 3) := by decide +kernel
theorem dX6_gather_82 : decode cX6_gather 82 = .ok (.aload_n 0, 1) := by decide +kernel
theorem dX6_gather_83 : decode cX6_gather 83 = .ok (.getfield 15, 3) := by decide +kernel
theorem dX6_gather_86 : decode cX6_gather 86 = .ok (.aload_n 0, 1) := by decide +kernel
theorem dX6_gather_87 : decode cX6_gather 87 = .ok (.getfield 37, 3) := by decide +kernel
theorem dX6_gather_90 : decode cX6_gather 90 = .ok (.iconst 1, 1) := by decide +kernel
theorem dX6_gather_91 : decode cX6_gather 91 = .ok (.iload_n 2, 1) := by decide +kernel
theorem dX6_gather_92 : decode cX6_gather 92 = .ok (.ishl, 1) := by decide +kernel
theorem dX6_gather_93 : decode cX6_gather 93 = .ok (.iconst 1, 1) := by decide +kernel
theorem dX6_gather_94 : decode cX6_gather 94 = .ok (.iload_n 3, 1) := by decide +kernel
theorem dX6_gather_95 : decode cX6_gather 95 = .ok (.ishl, 1) := by decide +kernel
theorem dX6_gather_96 : decode cX6_gather 96 = .ok (.ior, 1) := by decide +kernel
theorem dX6_gather_97 : decode cX6_gather 97 = .ok (.iconst 1, 1) := by decide +kernel
theorem dX6_gather_98 : decode cX6_gather 98 = .ok (.iload 4, 2) := by decide +kernel
theorem dX6_gather_100 : decode cX6_gather 100 = .ok (.ishl, 1) := by decide +kernel
theorem dX6_gather_101 : decode cX6_gather 101 = .ok (.ior, 1) := by decide +kernel
theorem dX6_gather_102 : decode cX6_gather 102 = .ok (.iastore, 1) := by decide +kernel
theorem dX6_gather_103 : decode cX6_gather 103 = .ok (.aload_n 0, 1) := by decide +kernel
theorem dX6_gather_104 : decode cX6_gather 104 = .ok (.getfield 11, 3) := by decide +kernel
theorem dX6_gather_107 : decode cX6_gather 107 = .ok (.aload_n 0, 1) := by decide +kernel
theorem dX6_gather_108 : decode cX6_gather 108 = .ok (.getfield 15, 3) := by decide +kernel
theorem dX6_gather_111 : decode cX6_gather 111 = .ok (.aload_n 0, 1) := by decide +kernel
theorem dX6_gather_112 : decode cX6_gather 112 = .ok (.getfield 37, 3) := by decide +kernel
theorem dX6_gather_115 : decode cX6_gather 115 = .ok (.iaload, 1) := by decide +kernel
theorem dX6_gather_116 : decode cX6_gather 116 = .ok (.iconst 1, 1) := by decide +kernel
theorem dX6_gather_117 : decode cX6_gather 117 = .ok (.bastore, 1) := by decide +kernel
theorem dX6_gather_118 : decode cX6_gather 118 = .ok (.aload_n 0, 1) := by decide +kernel
theorem dX6_gather_119 : decode cX6_gather 119 = .ok (.dup, 1) := by decide +kernel
theorem dX6_gather_120 : decode cX6_gather 120 = .ok (.getfield 37, 3) := by decide +kernel
theorem dX6_gather_123 : decode cX6_gather 123 = .ok (.iconst 1, 1) := by decide +kernel
theorem dX6_gather_124 : decode cX6_gather 124 = .ok (.iadd, 1) := by decide +kernel
theorem dX6_gather_125 : decode cX6_gather 125 = .ok (.putfield 37, 3) := by decide +kernel
theorem dX6_gather_128 : decode cX6_gather 128 = .ok (.iinc 4 1, 3) := by decide +kernel
theorem dX6_gather_131 : decode cX6_gather 131 = .ok (.goto (-78), 3) := by decide +kernel
theorem dX6_gather_134 : decode cX6_gather 134 = .ok (.iinc 3 1, 3) := by decide +kernel
theorem dX6_gather_137 : decode cX6_gather 137 = .ok (.goto (-97), 3) := by decide +kernel
theorem dX6_gather_140 : decode cX6_gather 140 = .ok (.iinc 2 1, 3) := by decide +kernel
theorem dX6_gather_143 : decode cX6_gather 143 = .ok (.goto (-115), 3) := by decide +kernel
theorem dX6_gather_146 : decode cX6_gather 146 = .ok (.return_, 1) := by decide +kernel
theorem dX6_canExchange_0 : decode cX6_canExchange 0 = .ok (.iconst 1, 1) := by decide +kernel
theorem dX6_canExchange_1 : decode cX6_canExchange 1 = .ok (.istore_n 3, 1) := by decide +kernel
theorem dX6_canExchange_2 : decode cX6_canExchange 2 = .ok (.iload_n 3, 1) := by decide +kernel
theorem dX6_canExchange_3 : decode cX6_canExchange 3 = .ok (.bipush 64, 2) := by decide +kernel
theorem dX6_canExchange_5 : decode cX6_canExchange 5 = .ok (.if_icmp .ge 39, 3) := by decide +kernel
theorem dX6_canExchange_8 : decode cX6_canExchange 8 = .ok (.iload_n 3, 1) := by decide +kernel
theorem dX6_canExchange_9 : decode cX6_canExchange 9 = .ok (.iload_n 1, 1) := by decide +kernel
theorem dX6_canExchange_10 : decode cX6_canExchange 10 = .ok (.iand, 1) := by decide +kernel
theorem dX6_canExchange_11 : decode cX6_canExchange 11 = .ok (.iload_n 2, 1) := by decide +kernel
theorem dX6_canExchange_12 : decode cX6_canExchange 12 = .ok (.iconst (-1), 1) := by decide +kernel
theorem dX6_canExchange_13 : decode cX6_canExchange 13 = .ok (.ixor, 1) := by decide +kernel
theorem dX6_canExchange_14 : decode cX6_canExchange 14 = .ok (.iand, 1) := by decide +kernel
theorem dX6_canExchange_15 : decode cX6_canExchange 15 = .ok (.ifCond .eq 22, 3) := by decide +kernel
theorem dX6_canExchange_18 : decode cX6_canExchange 18 = .ok (.aload_n 0, 1) := by decide +kernel
theorem dX6_canExchange_19 : decode cX6_canExchange 19 = .ok (.iload_n 1, 1) := by decide +kernel
theorem dX6_canExchange_20 : decode cX6_canExchange 20 = .ok (.iload_n 3, 1) := by decide +kernel
theorem dX6_canExchange_21 : decode cX6_canExchange 21 = .ok (.iconst (-1), 1) := by decide +kernel
theorem dX6_canExchange_22 : decode cX6_canExchange 22 = .ok (.ixor, 1) := by decide +kernel
theorem dX6_canExchange_23 : decode cX6_canExchange 23 = .ok (.iand, 1) := by decide +kernel
theorem dX6_canExchange_24 : decode cX6_canExchange 24 = .ok (.iload_n 2, 1) := by decide +kernel
theorem dX6_canExchange_25 : decode cX6_canExchange 25 = .ok (.iload_n 1, 1) := by decide +kernel
theorem dX6_canExchange_26 : decode cX6_canExchange 26 = .ok (.iconst (-1), 1) := by decide +kernel
theorem dX6_canExchange_27 : decode cX6_canExchange 27 = .ok (.ixor, 1) := by decide +kernel
theorem dX6_canExchange_28 : decode cX6_canExchange 28 = .ok (.iand, 1) := by decide +kernel
theorem dX6_canExchange_29 : decode cX6_canExchange 29 = .ok (.invokevirtual 49, 3) := by decide +kernel
theorem dX6_canExchange_32 : decode cX6_canExchange 32 = .ok (.ifCond .ne 5, 3) := by decide +kernel
theorem dX6_canExchange_35 : decode cX6_canExchange 35 = .ok (.iconst 0, 1) := by decide +kernel
theorem dX6_canExchange_36 : decode cX6_canExchange 36 = .ok (.ireturn, 1) := by decide +kernel
theorem dX6_canExchange_37 : decode cX6_canExchange 37 = .ok (.iload_n 3, 1) := by decide +kernel
theorem dX6_canExchange_38 : decode cX6_canExchange 38 = .ok (.iconst 1, 1) := by decide +kernel
theorem dX6_canExchange_39 : decode cX6_canExchange 39 = .ok (.ishl, 1) := by decide +kernel
theorem dX6_canExchange_40 : decode cX6_canExchange 40 = .ok (.istore_n 3, 1) := by decide +kernel
theorem dX6_canExchange_41 : decode cX6_canExchange 41 = .ok (.goto (-39), 3) := by decide +kernel
theorem dX6_canExchange_44 : decode cX6_canExchange 44 = .ok (.iconst 1, 1) := by decide +kernel
theorem dX6_canExchange_45 : decode cX6_canExchange 45 = .ok (.ireturn, 1) := by decide +kernel
theorem dX6_isMended_0 : decode cX6_isMended 0 = .ok (.iconst 1, 1) := by decide +kernel
theorem dX6_isMended_1 : decode cX6_isMended 1 = .ok (.istore_n 3, 1) := by decide +kernel
theorem dX6_isMended_2 : decode cX6_isMended 2 = .ok (.iload_n 3, 1) := by decide +kernel
theorem dX6_isMended_3 : decode cX6_isMended 3 = .ok (.bipush 64, 2) := by decide +kernel
theorem dX6_isMended_5 : decode cX6_isMended 5 = .ok (.if_icmp .ge 29, 3) := by decide +kernel
theorem dX6_isMended_8 : decode cX6_isMended 8 = .ok (.iload_n 3, 1) := by decide +kernel
theorem dX6_isMended_9 : decode cX6_isMended 9 = .ok (.iload_n 2, 1) := by decide +kernel
theorem dX6_isMended_10 : decode cX6_isMended 10 = .ok (.iand, 1) := by decide +kernel
theorem dX6_isMended_11 : decode cX6_isMended 11 = .ok (.ifCond .eq 16, 3) := by decide +kernel
theorem dX6_isMended_14 : decode cX6_isMended 14 = .ok (.aload_n 0, 1) := by decide +kernel
theorem dX6_isMended_15 : decode cX6_isMended 15 = .ok (.getfield 11, 3) := by decide +kernel
theorem dX6_isMended_18 : decode cX6_isMended 18 = .ok (.iload_n 1, 1) := by decide +kernel
theorem dX6_isMended_19 : decode cX6_isMended 19 = .ok (.iload_n 3, 1) := by decide +kernel
theorem dX6_isMended_20 : decode cX6_isMended 20 = .ok (.ior, 1) := by decide +kernel
theorem dX6_isMended_21 : decode cX6_isMended 21 = .ok (.baload, 1) := by decide +kernel
theorem dX6_isMended_22 : decode cX6_isMended 22 = .ok (.ifCond .eq 5, 3) := by decide +kernel
theorem dX6_isMended_25 : decode cX6_isMended 25 = .ok (.iconst 1, 1) := by decide +kernel
theorem dX6_isMended_26 : decode cX6_isMended 26 = .ok (.ireturn, 1) := by decide +kernel
theorem dX6_isMended_27 : decode cX6_isMended 27 = .ok (.iload_n 3, 1) := by decide +kernel
theorem dX6_isMended_28 : decode cX6_isMended 28 = .ok (.iconst 1, 1) := by decide +kernel
theorem dX6_isMended_29 : decode cX6_isMended 29 = .ok (.ishl, 1) := by decide +kernel
theorem dX6_isMended_30 : decode cX6_isMended 30 = .ok (.istore_n 3, 1) := by decide +kernel
theorem dX6_isMended_31 : decode cX6_isMended 31 = .ok (.goto (-29), 3) := by decide +kernel
theorem dX6_isMended_34 : decode cX6_isMended 34 = .ok (.iconst 0, 1) := by decide +kernel
theorem dX6_isMended_35 : decode cX6_isMended 35 = .ok (.ireturn, 1) := by decide +kernel
theorem dX6_loops_0 : decode cX6_loops 0 = .ok (.aload_n 0, 1) := by decide +kernel
theorem dX6_loops_1 : decode cX6_loops 1 = .ok (.aload_n 1, 1) := by decide +kernel
theorem dX6_loops_2 : decode cX6_loops 2 = .ok (.invokevirtual 33, 3) := by decide +kernel
theorem dX6_loops_5 : decode cX6_loops 5 = .ok (.iconst 0, 1) := by decide +kernel
theorem dX6_loops_6 : decode cX6_loops 6 = .ok (.istore_n 2, 1) := by decide +kernel
theorem dX6_loops_7 : decode cX6_loops 7 = .ok (.iconst 0, 1) := by decide +kernel
theorem dX6_loops_8 : decode cX6_loops 8 = .ok (.istore_n 3, 1) := by decide +kernel
theorem dX6_loops_9 : decode cX6_loops 9 = .ok (.iload_n 3, 1) := by decide +kernel
theorem dX6_loops_10 : decode cX6_loops 10 = .ok (.aload_n 0, 1) := by decide +kernel
theorem dX6_loops_11 : decode cX6_loops 11 = .ok (.getfield 37, 3) := by decide +kernel
theorem dX6_loops_14 : decode cX6_loops 14 = .ok (.if_icmp .ge 18, 3) := by decide +kernel
theorem dX6_loops_17 : decode cX6_loops 17 = .ok (.iload_n 2, 1) := by decide +kernel
theorem dX6_loops_18 : decode cX6_loops 18 = .ok (.aload_n 0, 1) := by decide +kernel
theorem dX6_loops_19 : decode cX6_loops 19 = .ok (.getfield 15, 3) := by decide +kernel
theorem dX6_loops_22 : decode cX6_loops 22 = .ok (.iload_n 3, 1) := by decide +kernel
theorem dX6_loops_23 : decode cX6_loops 23 = .ok (.iaload, 1) := by decide +kernel
theorem dX6_loops_24 : decode cX6_loops 24 = .ok (.ior, 1) := by decide +kernel
theorem dX6_loops_25 : decode cX6_loops 25 = .ok (.istore_n 2, 1) := by decide +kernel
theorem dX6_loops_26 : decode cX6_loops 26 = .ok (.iinc 3 1, 3) := by decide +kernel
theorem dX6_loops_29 : decode cX6_loops 29 = .ok (.goto (-20), 3) := by decide +kernel
theorem dX6_loops_32 : decode cX6_loops 32 = .ok (.iconst 1, 1) := by decide +kernel
theorem dX6_loops_33 : decode cX6_loops 33 = .ok (.aload_n 1, 1) := by decide +kernel
theorem dX6_loops_34 : decode cX6_loops 34 = .ok (.invokevirtual 19, 3) := by decide +kernel
theorem dX6_loops_37 : decode cX6_loops 37 = .ok (.ishl, 1) := by decide +kernel
theorem dX6_loops_38 : decode cX6_loops 38 = .ok (.iconst 1, 1) := by decide +kernel
theorem dX6_loops_39 : decode cX6_loops 39 = .ok (.isub, 1) := by decide +kernel
theorem dX6_loops_40 : decode cX6_loops 40 = .ok (.iload_n 2, 1) := by decide +kernel
theorem dX6_loops_41 : decode cX6_loops 41 = .ok (.iconst (-1), 1) := by decide +kernel
theorem dX6_loops_42 : decode cX6_loops 42 = .ok (.ixor, 1) := by decide +kernel
theorem dX6_loops_43 : decode cX6_loops 43 = .ok (.iand, 1) := by decide +kernel
theorem dX6_loops_44 : decode cX6_loops 44 = .ok (.ireturn, 1) := by decide +kernel
theorem dX6_parallels_0 : decode cX6_parallels 0 = .ok (.aload_n 0, 1) := by decide +kernel
theorem dX6_parallels_1 : decode cX6_parallels 1 = .ok (.aload_n 1, 1) := by decide +kernel
theorem dX6_parallels_2 : decode cX6_parallels 2 = .ok (.invokevirtual 52, 3) := by decide +kernel
theorem dX6_parallels_5 : decode cX6_parallels 5 = .ok (.istore_n 2, 1) := by decide +kernel
theorem dX6_parallels_6 : decode cX6_parallels 6 = .ok (.iconst 0, 1) := by decide +kernel
theorem dX6_parallels_7 : decode cX6_parallels 7 = .ok (.istore_n 3, 1) := by decide +kernel
theorem dX6_parallels_8 : decode cX6_parallels 8 = .ok (.iconst 0, 1) := by decide +kernel
theorem dX6_parallels_9 : decode cX6_parallels 9 = .ok (.istore 4, 2) := by decide +kernel
theorem dX6_parallels_11 : decode cX6_parallels 11 = .ok (.iload 4, 2) := by decide +kernel
theorem dX6_parallels_13 : decode cX6_parallels 13 = .ok (.aload_n 1, 1) := by decide +kernel
theorem dX6_parallels_14 : decode cX6_parallels 14 = .ok (.invokevirtual 19, 3) := by decide +kernel
theorem dX6_parallels_17 : decode cX6_parallels 17 = .ok (.if_icmp .ge 60, 3) := by decide +kernel
theorem dX6_parallels_20 : decode cX6_parallels 20 = .ok (.iload 4, 2) := by decide +kernel
theorem dX6_parallels_22 : decode cX6_parallels 22 = .ok (.iconst 1, 1) := by decide +kernel
theorem dX6_parallels_23 : decode cX6_parallels 23 = .ok (.iadd, 1) := by decide +kernel
theorem dX6_parallels_24 : decode cX6_parallels 24 = .ok (.istore 5, 2) := by decide +kernel
theorem dX6_parallels_26 : decode cX6_parallels 26 = .ok (.iload 5, 2) := by decide +kernel
theorem dX6_parallels_28 : decode cX6_parallels 28 = .ok (.aload_n 1, 1) := by decide +kernel
theorem dX6_parallels_29 : decode cX6_parallels 29 = .ok (.invokevirtual 19, 3) := by decide +kernel
theorem dX6_parallels_32 : decode cX6_parallels 32 = .ok (.if_icmp .ge 39, 3) := by decide +kernel
theorem dX6_parallels_35 : decode cX6_parallels 35 = .ok (.iconst 1, 1) := by decide +kernel
theorem dX6_parallels_36 : decode cX6_parallels 36 = .ok (.iload 4, 2) := by decide +kernel
theorem dX6_parallels_38 : decode cX6_parallels 38 = .ok (.ishl, 1) := by decide +kernel
theorem dX6_parallels_39 : decode cX6_parallels 39 = .ok (.iconst 1, 1) := by decide +kernel
theorem dX6_parallels_40 : decode cX6_parallels 40 = .ok (.iload 5, 2) := by decide +kernel
theorem dX6_parallels_42 : decode cX6_parallels 42 = .ok (.ishl, 1) := by decide +kernel
theorem dX6_parallels_43 : decode cX6_parallels 43 = .ok (.ior, 1) := by decide +kernel
theorem dX6_parallels_44 : decode cX6_parallels 44 = .ok (.istore 6, 2) := by decide +kernel
theorem dX6_parallels_46 : decode cX6_parallels 46 = .ok (.iload 6, 2) := by decide +kernel
theorem dX6_parallels_48 : decode cX6_parallels 48 = .ok (.iload_n 2, 1) := by decide +kernel
theorem dX6_parallels_49 : decode cX6_parallels 49 = .ok (.iand, 1) := by decide +kernel
theorem dX6_parallels_50 : decode cX6_parallels 50 = .ok (.ifCond .ne 15, 3) := by decide +kernel
theorem dX6_parallels_53 : decode cX6_parallels 53 = .ok (.aload_n 0, 1) := by decide +kernel
theorem dX6_parallels_54 : decode cX6_parallels 54 = .ok (.iload 6, 2) := by decide +kernel
theorem dX6_parallels_56 : decode cX6_parallels 56 = .ok (.invokevirtual 56, 3) := by decide +kernel
theorem dX6_parallels_59 : decode cX6_parallels 59 = .ok (.ifCond .ne 6, 3) := by decide +kernel
theorem dX6_parallels_62 : decode cX6_parallels 62 = .ok (.iinc 3 1, 3) := by decide +kernel
theorem dX6_parallels_65 : decode cX6_parallels 65 = .ok (.iinc 5 1, 3) := by decide +kernel
theorem dX6_parallels_68 : decode cX6_parallels 68 = .ok (.goto (-42), 3) := by decide +kernel
theorem dX6_parallels_71 : decode cX6_parallels 71 = .ok (.iinc 4 1, 3) := by decide +kernel
theorem dX6_parallels_74 : decode cX6_parallels 74 = .ok (.goto (-63), 3) := by decide +kernel
theorem dX6_parallels_77 : decode cX6_parallels 77 = .ok (.iload_n 3, 1) := by decide +kernel
theorem dX6_parallels_78 : decode cX6_parallels 78 = .ok (.ireturn, 1) := by decide +kernel
theorem dX6_isInBase_0 : decode cX6_isInBase 0 = .ok (.iconst 0, 1) := by decide +kernel
theorem dX6_isInBase_1 : decode cX6_isInBase 1 = .ok (.istore_n 2, 1) := by decide +kernel
theorem dX6_isInBase_2 : decode cX6_isInBase 2 = .ok (.iload_n 2, 1) := by decide +kernel
theorem dX6_isInBase_3 : decode cX6_isInBase 3 = .ok (.aload_n 0, 1) := by decide +kernel
theorem dX6_isInBase_4 : decode cX6_isInBase 4 = .ok (.getfield 37, 3) := by decide +kernel
theorem dX6_isInBase_7 : decode cX6_isInBase 7 = .ok (.if_icmp .ge 23, 3) := by decide +kernel
theorem dX6_isInBase_10 : decode cX6_isInBase 10 = .ok (.aload_n 0, 1) := by decide +kernel
theorem dX6_isInBase_11 : decode cX6_isInBase 11 = .ok (.getfield 15, 3) := by decide +kernel
theorem dX6_isInBase_14 : decode cX6_isInBase 14 = .ok (.iload_n 2, 1) := by decide +kernel
theorem dX6_isInBase_15 : decode cX6_isInBase 15 = .ok (.iaload, 1) := by decide +kernel
theorem dX6_isInBase_16 : decode cX6_isInBase 16 = .ok (.iload_n 1, 1) := by decide +kernel
theorem dX6_isInBase_17 : decode cX6_isInBase 17 = .ok (.iand, 1) := by decide +kernel
theorem dX6_isInBase_18 : decode cX6_isInBase 18 = .ok (.iload_n 1, 1) := by decide +kernel
theorem dX6_isInBase_19 : decode cX6_isInBase 19 = .ok (.if_icmp .ne 5, 3) := by decide +kernel
theorem dX6_isInBase_22 : decode cX6_isInBase 22 = .ok (.iconst 1, 1) := by decide +kernel
theorem dX6_isInBase_23 : decode cX6_isInBase 23 = .ok (.ireturn, 1) := by decide +kernel
theorem dX6_isInBase_24 : decode cX6_isInBase 24 = .ok (.iinc 2 1, 3) := by decide +kernel
theorem dX6_isInBase_27 : decode cX6_isInBase 27 = .ok (.goto (-25), 3) := by decide +kernel
theorem dX6_isInBase_30 : decode cX6_isInBase 30 = .ok (.iconst 0, 1) := by decide +kernel
theorem dX6_isInBase_31 : decode cX6_isInBase 31 = .ok (.ireturn, 1) := by decide +kernel
theorem dX6_isGood_0 : decode cX6_isGood 0 = .ok (.aload_n 0, 1) := by decide +kernel
theorem dX6_isGood_1 : decode cX6_isGood 1 = .ok (.iload_n 1, 1) := by decide +kernel
theorem dX6_isGood_2 : decode cX6_isGood 2 = .ok (.iload_n 2, 1) := by decide +kernel
theorem dX6_isGood_3 : decode cX6_isGood 3 = .ok (.iload_n 3, 1) := by decide +kernel
theorem dX6_isGood_4 : decode cX6_isGood 4 = .ok (.invokevirtual 45, 3) := by decide +kernel
theorem dX6_isGood_7 : decode cX6_isGood 7 = .ok (.aload_n 0, 1) := by decide +kernel
theorem dX6_isGood_8 : decode cX6_isGood 8 = .ok (.iload_n 1, 1) := by decide +kernel
theorem dX6_isGood_9 : decode cX6_isGood 9 = .ok (.iload 4, 2) := by decide +kernel
theorem dX6_isGood_11 : decode cX6_isGood 11 = .ok (.iload 5, 2) := by decide +kernel
theorem dX6_isGood_13 : decode cX6_isGood 13 = .ok (.invokevirtual 45, 3) := by decide +kernel
theorem dX6_isGood_16 : decode cX6_isGood 16 = .ok (.imul, 1) := by decide +kernel
theorem dX6_isGood_17 : decode cX6_isGood 17 = .ok (.istore 6, 2) := by decide +kernel
theorem dX6_isGood_19 : decode cX6_isGood 19 = .ok (.aload_n 0, 1) := by decide +kernel
theorem dX6_isGood_20 : decode cX6_isGood 20 = .ok (.iload_n 1, 1) := by decide +kernel
theorem dX6_isGood_21 : decode cX6_isGood 21 = .ok (.iload_n 2, 1) := by decide +kernel
theorem dX6_isGood_22 : decode cX6_isGood 22 = .ok (.iload 4, 2) := by decide +kernel
theorem dX6_isGood_24 : decode cX6_isGood 24 = .ok (.invokevirtual 45, 3) := by decide +kernel
theorem dX6_isGood_27 : decode cX6_isGood 27 = .ok (.ineg, 1) := by decide +kernel
theorem dX6_isGood_28 : decode cX6_isGood 28 = .ok (.aload_n 0, 1) := by decide +kernel
theorem dX6_isGood_29 : decode cX6_isGood 29 = .ok (.iload_n 1, 1) := by decide +kernel
theorem dX6_isGood_30 : decode cX6_isGood 30 = .ok (.iload_n 3, 1) := by decide +kernel
theorem dX6_isGood_31 : decode cX6_isGood 31 = .ok (.iload 5, 2) := by decide +kernel
theorem dX6_isGood_33 : decode cX6_isGood 33 = .ok (.invokevirtual 45, 3) := by decide +kernel
theorem dX6_isGood_36 : decode cX6_isGood 36 = .ok (.imul, 1) := by decide +kernel
theorem dX6_isGood_37 : decode cX6_isGood 37 = .ok (.istore 7, 2) := by decide +kernel
theorem dX6_isGood_39 : decode cX6_isGood 39 = .ok (.aload_n 0, 1) := by decide +kernel
theorem dX6_isGood_40 : decode cX6_isGood 40 = .ok (.iload_n 1, 1) := by decide +kernel
theorem dX6_isGood_41 : decode cX6_isGood 41 = .ok (.iload_n 2, 1) := by decide +kernel
theorem dX6_isGood_42 : decode cX6_isGood 42 = .ok (.iload 5, 2) := by decide +kernel
theorem dX6_isGood_44 : decode cX6_isGood 44 = .ok (.invokevirtual 45, 3) := by decide +kernel
theorem dX6_isGood_47 : decode cX6_isGood 47 = .ok (.aload_n 0, 1) := by decide +kernel
theorem dX6_isGood_48 : decode cX6_isGood 48 = .ok (.iload_n 1, 1) := by decide +kernel
theorem dX6_isGood_49 : decode cX6_isGood 49 = .ok (.iload_n 3, 1) := by decide +kernel
theorem dX6_isGood_50 : decode cX6_isGood 50 = .ok (.iload 4, 2) := by decide +kernel
theorem dX6_isGood_52 : decode cX6_isGood 52 = .ok (.invokevirtual 45, 3) := by decide +kernel
theorem dX6_isGood_55 : decode cX6_isGood 55 = .ok (.imul, 1) := by decide +kernel
theorem dX6_isGood_56 : decode cX6_isGood 56 = .ok (.istore 8, 2) := by decide +kernel
theorem dX6_isGood_58 : decode cX6_isGood 58 = .ok (.iload 6, 2) := by decide +kernel
theorem dX6_isGood_60 : decode cX6_isGood 60 = .ok (.iload 7, 2) := by decide +kernel
theorem dX6_isGood_62 : decode cX6_isGood 62 = .ok (.iload 8, 2) := by decide +kernel
theorem dX6_isGood_64 : decode cX6_isGood 64 = .ok (.invokestatic 60, 3) := by decide +kernel
theorem dX6_isGood_67 : decode cX6_isGood 67 = .ok (.invokestatic 60, 3) := by decide +kernel
theorem dX6_isGood_70 : decode cX6_isGood 70 = .ok (.istore 9, 2) := by decide +kernel
theorem dX6_isGood_72 : decode cX6_isGood 72 = .ok (.iload 6, 2) := by decide +kernel
theorem dX6_isGood_74 : decode cX6_isGood 74 = .ok (.iload 7, 2) := by decide +kernel
theorem dX6_isGood_76 : decode cX6_isGood 76 = .ok (.iload 8, 2) := by decide +kernel
theorem dX6_isGood_78 : decode cX6_isGood 78 = .ok (.invokestatic 66, 3) := by decide +kernel
theorem dX6_isGood_81 : decode cX6_isGood 81 = .ok (.invokestatic 66, 3) := by decide +kernel
theorem dX6_isGood_84 : decode cX6_isGood 84 = .ok (.istore 10, 2) := by decide +kernel
theorem dX6_isGood_86 : decode cX6_isGood 86 = .ok (.iload 9, 2) := by decide +kernel
theorem dX6_isGood_88 : decode cX6_isGood 88 = .ok (.ifCond .ne 8, 3) := by decide +kernel
theorem dX6_isGood_91 : decode cX6_isGood 91 = .ok (.iload 10, 2) := by decide +kernel
theorem dX6_isGood_93 : decode cX6_isGood 93 = .ok (.ifCond .eq 13, 3) := by decide +kernel
theorem dX6_isGood_96 : decode cX6_isGood 96 = .ok (.iload 9, 2) := by decide +kernel
theorem dX6_isGood_98 : decode cX6_isGood 98 = .ok (.ifCond .le 12, 3) := by decide +kernel
theorem dX6_isGood_101 : decode cX6_isGood 101 = .ok (.iload 10, 2) := by decide +kernel
theorem dX6_isGood_103 : decode cX6_isGood 103 = .ok (.ifCond .ge 7, 3) := by decide +kernel
theorem dX6_isGood_106 : decode cX6_isGood 106 = .ok (.iconst 1, 1) := by decide +kernel
theorem dX6_isGood_107 : decode cX6_isGood 107 = .ok (.goto 4, 3) := by decide +kernel
theorem dX6_isGood_110 : decode cX6_isGood 110 = .ok (.iconst 0, 1) := by decide +kernel
theorem dX6_isGood_111 : decode cX6_isGood 111 = .ok (.ireturn, 1) := by decide +kernel
theorem dX6_badFives_0 : decode cX6_badFives 0 = .ok (.iconst 0, 1) := by decide +kernel
theorem dX6_badFives_1 : decode cX6_badFives 1 = .ok (.istore_n 3, 1) := by decide +kernel
theorem dX6_badFives_2 : decode cX6_badFives 2 = .ok (.iload_n 1, 1) := by decide +kernel
theorem dX6_badFives_3 : decode cX6_badFives 3 = .ok (.istore 4, 2) := by decide +kernel
theorem dX6_badFives_5 : decode cX6_badFives 5 = .ok (.iload 4, 2) := by decide +kernel
theorem dX6_badFives_7 : decode cX6_badFives 7 = .ok (.iload_n 2, 1) := by decide +kernel
theorem dX6_badFives_8 : decode cX6_badFives 8 = .ok (.if_icmp .ge 155, 3) := by decide +kernel
theorem dX6_badFives_11 : decode cX6_badFives 11 = .ok (.iconst 0, 1) := by decide +kernel
theorem dX6_badFives_12 : decode cX6_badFives 12 = .ok (.istore 5, 2) := by decide +kernel
theorem dX6_badFives_14 : decode cX6_badFives 14 = .ok (.iload 5, 2) := by decide +kernel
theorem dX6_badFives_16 : decode cX6_badFives 16 = .ok (.aload_n 0, 1) := by decide +kernel
theorem dX6_badFives_17 : decode cX6_badFives 17 = .ok (.invokevirtual 19, 3) := by decide +kernel
theorem dX6_badFives_20 : decode cX6_badFives 20 = .ok (.if_icmp .ge 137, 3) := by decide +kernel
theorem dX6_badFives_23 : decode cX6_badFives 23 = .ok (.iload 5, 2) := by decide +kernel
theorem dX6_badFives_25 : decode cX6_badFives 25 = .ok (.iconst 1, 1) := by decide +kernel
theorem dX6_badFives_26 : decode cX6_badFives 26 = .ok (.iadd, 1) := by decide +kernel
theorem dX6_badFives_27 : decode cX6_badFives 27 = .ok (.istore 6, 2) := by decide +kernel
theorem dX6_badFives_29 : decode cX6_badFives 29 = .ok (.iload 6, 2) := by decide +kernel
theorem dX6_badFives_31 : decode cX6_badFives 31 = .ok (.aload_n 0, 1) := by decide +kernel
theorem dX6_badFives_32 : decode cX6_badFives 32 = .ok (.invokevirtual 19, 3) := by decide +kernel
theorem dX6_badFives_35 : decode cX6_badFives 35 = .ok (.if_icmp .ge 116, 3) := by decide +kernel
theorem dX6_badFives_38 : decode cX6_badFives 38 = .ok (.iload 6, 2) := by decide +kernel
theorem dX6_badFives_40 : decode cX6_badFives 40 = .ok (.iconst 1, 1) := by decide +kernel
theorem dX6_badFives_41 : decode cX6_badFives 41 = .ok (.iadd, 1) := by decide +kernel
theorem dX6_badFives_42 : decode cX6_badFives 42 = .ok (.istore 7, 2) := by decide +kernel
theorem dX6_badFives_44 : decode cX6_badFives 44 = .ok (.iload 7, 2) := by decide +kernel
theorem dX6_badFives_46 : decode cX6_badFives 46 = .ok (.aload_n 0, 1) := by decide +kernel
theorem dX6_badFives_47 : decode cX6_badFives 47 = .ok (.invokevirtual 19, 3) := by decide +kernel
theorem dX6_badFives_50 : decode cX6_badFives 50 = .ok (.if_icmp .ge 95, 3) := by decide +kernel
theorem dX6_badFives_53 : decode cX6_badFives 53 = .ok (.iload 7, 2) := by decide +kernel
theorem dX6_badFives_55 : decode cX6_badFives 55 = .ok (.iconst 1, 1) := by decide +kernel
theorem dX6_badFives_56 : decode cX6_badFives 56 = .ok (.iadd, 1) := by decide +kernel
theorem dX6_badFives_57 : decode cX6_badFives 57 = .ok (.istore 8, 2) := by decide +kernel
theorem dX6_badFives_59 : decode cX6_badFives 59 = .ok (.iload 8, 2) := by decide +kernel
theorem dX6_badFives_61 : decode cX6_badFives 61 = .ok (.aload_n 0, 1) := by decide +kernel
theorem dX6_badFives_62 : decode cX6_badFives 62 = .ok (.invokevirtual 19, 3) := by decide +kernel
theorem dX6_badFives_65 : decode cX6_badFives 65 = .ok (.if_icmp .ge 74, 3) := by decide +kernel
theorem dX6_badFives_68 : decode cX6_badFives 68 = .ok (.iload 4, 2) := by decide +kernel
theorem dX6_badFives_70 : decode cX6_badFives 70 = .ok (.iload 5, 2) := by decide +kernel
theorem dX6_badFives_72 : decode cX6_badFives 72 = .ok (.if_icmp .eq 28, 3) := by decide +kernel
theorem dX6_badFives_75 : decode cX6_badFives 75 = .ok (.iload 4, 2) := by decide +kernel
theorem dX6_badFives_77 : decode cX6_badFives 77 = .ok (.iload 6, 2) := by decide +kernel
theorem dX6_badFives_79 : decode cX6_badFives 79 = .ok (.if_icmp .eq 21, 3) := by decide +kernel
theorem dX6_badFives_82 : decode cX6_badFives 82 = .ok (.iload 4, 2) := by decide +kernel
theorem dX6_badFives_84 : decode cX6_badFives 84 = .ok (.iload 7, 2) := by decide +kernel
theorem dX6_badFives_86 : decode cX6_badFives 86 = .ok (.if_icmp .eq 14, 3) := by decide +kernel
theorem dX6_badFives_89 : decode cX6_badFives 89 = .ok (.iload 4, 2) := by decide +kernel
theorem dX6_badFives_91 : decode cX6_badFives 91 = .ok (.iload 8, 2) := by decide +kernel
theorem dX6_badFives_93 : decode cX6_badFives 93 = .ok (.if_icmp .eq 7, 3) := by decide +kernel
theorem dX6_badFives_96 : decode cX6_badFives 96 = .ok (.iconst 1, 1) := by decide +kernel
theorem dX6_badFives_97 : decode cX6_badFives 97 = .ok (.goto 4, 3) := by decide +kernel
theorem dX6_badFives_100 : decode cX6_badFives 100 = .ok (.iconst 0, 1) := by decide +kernel
theorem dX6_badFives_101 : decode cX6_badFives 101 = .ok (.istore 9, 2) := by decide +kernel
theorem dX6_badFives_103 : decode cX6_badFives 103 = .ok (.iload_n 3, 1) := by decide +kernel
theorem dX6_badFives_104 : decode cX6_badFives 104 = .ok (.iload 9, 2) := by decide +kernel
theorem dX6_badFives_106 : decode cX6_badFives 106 = .ok (.ifCond .eq 24, 3) := by decide +kernel
theorem dX6_badFives_109 : decode cX6_badFives 109 = .ok (.aload_n 0, 1) := by decide +kernel
theorem dX6_badFives_110 : decode cX6_badFives 110 = .ok (.iload 4, 2) := by decide +kernel
theorem dX6_badFives_112 : decode cX6_badFives 112 = .ok (.iload 5, 2) := by decide +kernel
theorem dX6_badFives_114 : decode cX6_badFives 114 = .ok (.iload 6, 2) := by decide +kernel
theorem dX6_badFives_116 : decode cX6_badFives 116 = .ok (.iload 7, 2) := by decide +kernel
theorem dX6_badFives_118 : decode cX6_badFives 118 = .ok (.iload 8, 2) := by decide +kernel
theorem dX6_badFives_120 : decode cX6_badFives 120 = .ok (.invokestatic 69, 3) := by decide +kernel
theorem dX6_badFives_123 : decode cX6_badFives 123 = .ok (.ifCond .ne 7, 3) := by decide +kernel
theorem dX6_badFives_126 : decode cX6_badFives 126 = .ok (.iconst 1, 1) := by decide +kernel
theorem dX6_badFives_127 : decode cX6_badFives 127 = .ok (.goto 4, 3) := by decide +kernel
theorem dX6_badFives_130 : decode cX6_badFives 130 = .ok (.iconst 0, 1) := by decide +kernel
theorem dX6_badFives_131 : decode cX6_badFives 131 = .ok (.iadd, 1) := by decide +kernel
theorem dX6_badFives_132 : decode cX6_badFives 132 = .ok (.istore_n 3, 1) := by decide +kernel
theorem dX6_badFives_133 : decode cX6_badFives 133 = .ok (.iinc 8 1, 3) := by decide +kernel
theorem dX6_badFives_136 : decode cX6_badFives 136 = .ok (.goto (-77), 3) := by decide +kernel
theorem dX6_badFives_139 : decode cX6_badFives 139 = .ok (.iinc 7 1, 3) := by decide +kernel
theorem dX6_badFives_142 : decode cX6_badFives 142 = .ok (.goto (-98), 3) := by decide +kernel
theorem dX6_badFives_145 : decode cX6_badFives 145 = .ok (.iinc 6 1, 3) := by decide +kernel
theorem dX6_badFives_148 : decode cX6_badFives 148 = .ok (.goto (-119), 3) := by decide +kernel
theorem dX6_badFives_151 : decode cX6_badFives 151 = .ok (.iinc 5 1, 3) := by decide +kernel
theorem dX6_badFives_154 : decode cX6_badFives 154 = .ok (.goto (-140), 3) := by decide +kernel
theorem dX6_badFives_157 : decode cX6_badFives 157 = .ok (.iinc 4 1, 3) := by decide +kernel
theorem dX6_badFives_160 : decode cX6_badFives 160 = .ok (.goto (-155), 3) := by decide +kernel
theorem dX6_badFives_163 : decode cX6_badFives 163 = .ok (.iload_n 3, 1) := by decide +kernel
theorem dX6_badFives_164 : decode cX6_badFives 164 = .ok (.ireturn, 1) := by decide +kernel
theorem dX7_init_0 : decode cX7_init 0 = .ok (.aload_n 0, 1) := by decide +kernel
theorem dX7_init_1 : decode cX7_init 1 = .ok (.invokespecial 3, 3) := by decide +kernel
theorem dX7_init_4 : decode cX7_init 4 = .ok (.aload_n 0, 1) := by decide +kernel
theorem dX7_init_5 : decode cX7_init 5 = .ok (.sipush 200, 3) := by decide +kernel
theorem dX7_init_8 : decode cX7_init 8 = .ok (.newarray .int, 2) := by decide +kernel
theorem dX7_init_10 : decode cX7_init 10 = .ok (.putfield 11, 3) := by decide +kernel
theorem dX7_init_13 : decode cX7_init 13 = .ok (.return_, 1) := by decide +kernel
theorem dX7_length_0 : decode cX7_length 0 = .ok (.aload_n 0, 1) := by decide +kernel
theorem dX7_length_1 : decode cX7_length 1 = .ok (.getfield 15, 3) := by decide +kernel
theorem dX7_length_4 : decode cX7_length 4 = .ok (.ireturn, 1) := by decide +kernel
theorem dX7_isFull_0 : decode cX7_isFull 0 = .ok (.aload_n 0, 1) := by decide +kernel
theorem dX7_isFull_1 : decode cX7_isFull 1 = .ok (.getfield 15, 3) := by decide +kernel
theorem dX7_isFull_4 : decode cX7_isFull 4 = .ok (.sipush 200, 3) := by decide +kernel
theorem dX7_isFull_7 : decode cX7_isFull 7 = .ok (.if_icmp .lt 7, 3) := by decide +kernel
theorem dX7_isFull_10 : decode cX7_isFull 10 = .ok (.iconst 1, 1) := by decide +kernel
theorem dX7_isFull_11 : decode cX7_isFull 11 = .ok (.goto 4, 3) := by decide +kernel
theorem dX7_isFull_14 : decode cX7_isFull 14 = .ok (.iconst 0, 1) := by decide +kernel
theorem dX7_isFull_15 : decode cX7_isFull 15 = .ok (.ireturn, 1) := by decide +kernel
theorem dX7_append_0 : decode cX7_append 0 = .ok (.aload_n 0, 1) := by decide +kernel
theorem dX7_append_1 : decode cX7_append 1 = .ok (.getfield 11, 3) := by decide +kernel
theorem dX7_append_4 : decode cX7_append 4 = .ok (.aload_n 0, 1) := by decide +kernel
theorem dX7_append_5 : decode cX7_append 5 = .ok (.getfield 15, 3) := by decide +kernel
theorem dX7_append_8 : decode cX7_append 8 = .ok (.iload_n 1, 1) := by decide +kernel
theorem dX7_append_9 : decode cX7_append 9 = .ok (.iastore, 1) := by decide +kernel
theorem dX7_append_10 : decode cX7_append 10 = .ok (.aload_n 0, 1) := by decide +kernel
theorem dX7_append_11 : decode cX7_append 11 = .ok (.dup, 1) := by decide +kernel
theorem dX7_append_12 : decode cX7_append 12 = .ok (.getfield 15, 3) := by decide +kernel
theorem dX7_append_15 : decode cX7_append 15 = .ok (.iconst 1, 1) := by decide +kernel
theorem dX7_append_16 : decode cX7_append 16 = .ok (.iadd, 1) := by decide +kernel
theorem dX7_append_17 : decode cX7_append 17 = .ok (.putfield 15, 3) := by decide +kernel
theorem dX7_append_20 : decode cX7_append 20 = .ok (.return_, 1) := by decide +kernel
theorem dX7_clear_0 : decode cX7_clear 0 = .ok (.aload_n 0, 1) := by decide +kernel
theorem dX7_clear_1 : decode cX7_clear 1 = .ok (.iconst 0, 1) := by decide +kernel
theorem dX7_clear_2 : decode cX7_clear 2 = .ok (.putfield 15, 3) := by decide +kernel
theorem dX7_clear_5 : decode cX7_clear 5 = .ok (.return_, 1) := by decide +kernel
theorem dX7_clauses_0 : decode cX7_clauses 0 = .ok (.aload_n 0, 1) := by decide +kernel
theorem dX7_clauses_1 : decode cX7_clauses 1 = .ok (.getfield 19, 3) := by decide +kernel
theorem dX7_clauses_4 : decode cX7_clauses 4 = .ok (.ireturn, 1) := by decide +kernel
theorem dX7_read_0 : decode cX7_read 0 = .ok (.aload_n 0, 1) := by decide +kernel
theorem dX7_read_1 : decode cX7_read 1 = .ok (.iconst 0, 1) := by decide +kernel
theorem dX7_read_2 : decode cX7_read 2 = .ok (.putfield 19, 3) := by decide +kernel
theorem dX7_read_5 : decode cX7_read 5 = .ok (.aload_n 0, 1) := by decide +kernel
theorem dX7_read_6 : decode cX7_read 6 = .ok (.iconst 0, 1) := by decide +kernel
theorem dX7_read_7 : decode cX7_read 7 = .ok (.putfield 22, 3) := by decide +kernel
theorem dX7_read_10 : decode cX7_read 10 = .ok (.aload_n 0, 1) := by decide +kernel
theorem dX7_read_11 : decode cX7_read 11 = .ok (.invokevirtual 25, 3) := by decide +kernel
theorem dX7_read_14 : decode cX7_read 14 = .ok (.iconst 0, 1) := by decide +kernel
theorem dX7_read_15 : decode cX7_read 15 = .ok (.istore_n 2, 1) := by decide +kernel
theorem dX7_read_16 : decode cX7_read 16 = .ok (.iload_n 2, 1) := by decide +kernel
theorem dX7_read_17 : decode cX7_read 17 = .ok (.bipush 24, 2) := by decide +kernel
theorem dX7_read_19 : decode cX7_read 19 = .ok (.if_icmp .ge 77, 3) := by decide +kernel
theorem dX7_read_22 : decode cX7_read 22 = .ok (.aload_n 0, 1) := by decide +kernel
theorem dX7_read_23 : decode cX7_read 23 = .ok (.aload_n 1, 1) := by decide +kernel
theorem dX7_read_24 : decode cX7_read 24 = .ok (.invokevirtual 28, 3) := by decide +kernel
theorem dX7_read_27 : decode cX7_read 27 = .ok (.ifCond .ne 8, 3) := by decide +kernel
theorem dX7_read_30 : decode cX7_read 30 = .ok (.aload_n 0, 1) := by decide +kernel
theorem dX7_read_31 : decode cX7_read 31 = .ok (.getfield 32, 3) := by decide +kernel
theorem dX7_read_34 : decode cX7_read 34 = .ok (.ireturn, 1) := by decide +kernel
theorem dX7_read_35 : decode cX7_read 35 = .ok (.aload_n 0, 1) := by decide +kernel
theorem dX7_read_36 : decode cX7_read 36 = .ok (.dup, 1) := by decide +kernel
theorem dX7_read_37 : decode cX7_read 37 = .ok (.getfield 19, 3) := by decide +kernel
theorem dX7_read_40 : decode cX7_read 40 = .ok (.iconst 1, 1) := by decide +kernel
theorem dX7_read_41 : decode cX7_read 41 = .ok (.iadd, 1) := by decide +kernel
theorem dX7_read_42 : decode cX7_read 42 = .ok (.putfield 19, 3) := by decide +kernel
theorem dX7_read_45 : decode cX7_read 45 = .ok (.aload_n 0, 1) := by decide +kernel
theorem dX7_read_46 : decode cX7_read 46 = .ok (.getfield 32, 3) := by decide +kernel
theorem dX7_read_49 : decode cX7_read 49 = .ok (.aload_n 0, 1) := by decide +kernel
theorem dX7_read_50 : decode cX7_read 50 = .ok (.getfield 15, 3) := by decide +kernel
theorem dX7_read_53 : decode cX7_read 53 = .ok (.if_icmp .lt 5, 3) := by decide +kernel
theorem dX7_read_56 : decode cX7_read 56 = .ok (.iconst (-1), 1) := by decide +kernel
theorem dX7_read_57 : decode cX7_read 57 = .ok (.ireturn, 1) := by decide +kernel
theorem dX7_read_58 : decode cX7_read 58 = .ok (.aload_n 0, 1) := by decide +kernel
theorem dX7_read_59 : decode cX7_read 59 = .ok (.getfield 11, 3) := by decide +kernel
theorem dX7_read_62 : decode cX7_read 62 = .ok (.aload_n 0, 1) := by decide +kernel
theorem dX7_read_63 : decode cX7_read 63 = .ok (.getfield 32, 3) := by decide +kernel
theorem dX7_read_66 : decode cX7_read 66 = .ok (.iaload, 1) := by decide +kernel
theorem dX7_read_67 : decode cX7_read 67 = .ok (.bipush 59, 2) := by decide +kernel
theorem dX7_read_69 : decode cX7_read 69 = .ok (.if_icmp .ne 12, 3) := by decide +kernel
theorem dX7_read_72 : decode cX7_read 72 = .ok (.aload_n 0, 1) := by decide +kernel
theorem dX7_read_73 : decode cX7_read 73 = .ok (.getfield 19, 3) := by decide +kernel
theorem dX7_read_76 : decode cX7_read 76 = .ok (.bipush 24, 2) := by decide +kernel
theorem dX7_read_78 : decode cX7_read 78 = .ok (.if_icmp .ne 8, 3) := by decide +kernel
theorem dX7_read_81 : decode cX7_read 81 = .ok (.aload_n 0, 1) := by decide +kernel
theorem dX7_read_82 : decode cX7_read 82 = .ok (.getfield 32, 3) := by decide +kernel
theorem dX7_read_85 : decode cX7_read 85 = .ok (.ireturn, 1) := by decide +kernel
theorem dX7_read_86 : decode cX7_read 86 = .ok (.aload_n 0, 1) := by decide +kernel
theorem dX7_read_87 : decode cX7_read 87 = .ok (.invokevirtual 25, 3) := by decide +kernel
theorem dX7_read_90 : decode cX7_read 90 = .ok (.iinc 2 1, 3) := by decide +kernel
theorem dX7_read_93 : decode cX7_read 93 = .ok (.goto (-77), 3) := by decide +kernel
theorem dX7_read_96 : decode cX7_read 96 = .ok (.aload_n 0, 1) := by decide +kernel
theorem dX7_read_97 : decode cX7_read 97 = .ok (.getfield 32, 3) := by decide +kernel
theorem dX7_read_100 : decode cX7_read 100 = .ok (.ireturn, 1) := by decide +kernel
theorem dX7_readClause_0 : decode cX7_readClause 0 = .ok (.aload_n 0, 1) := by decide +kernel
theorem dX7_readClause_1 : decode cX7_readClause 1 = .ok (.ldc 35, 2) := by decide +kernel
theorem dX7_readClause_3 : decode cX7_readClause 3 = .ok (.invokevirtual 37, 3) := by decide +kernel
theorem dX7_readClause_6 : decode cX7_readClause 6 = .ok (.ifCond .eq 9, 3) := by decide +kernel
theorem dX7_readClause_9 : decode cX7_readClause 9 = .ok (.aload_n 0, 1) := by decide +kernel
theorem dX7_readClause_10 : decode cX7_readClause 10 = .ok (.aload_n 1, 1) := by decide +kernel
theorem dX7_readClause_11 : decode cX7_readClause 11 = .ok (.invokevirtual 41, 3) := by decide +kernel
theorem dX7_readClause_14 : decode cX7_readClause 14 = .ok (.ireturn, 1) := by decide +kernel
theorem dX7_readClause_15 : decode cX7_readClause 15 = .ok (.aload_n 0, 1) := by decide +kernel
theorem dX7_readClause_16 : decode cX7_readClause 16 = .ok (.ldc 44, 2) := by decide +kernel
theorem dX7_readClause_18 : decode cX7_readClause 18 = .ok (.invokevirtual 37, 3) := by decide +kernel
theorem dX7_readClause_21 : decode cX7_readClause 21 = .ok (.ifCond .eq 9, 3) := by decide +kernel
theorem dX7_readClause_24 : decode cX7_readClause 24 = .ok (.aload_n 0, 1) := by decide +kernel
theorem dX7_readClause_25 : decode cX7_readClause 25 = .ok (.aload_n 1, 1) := by decide +kernel
theorem dX7_readClause_26 : decode cX7_readClause 26 = .ok (.invokevirtual 46, 3) := by decide +kernel
theorem dX7_readClause_29 : decode cX7_readClause 29 = .ok (.ireturn, 1) := by decide +kernel
theorem dX7_readClause_30 : decode cX7_readClause 30 = .ok (.aload_n 0, 1) := by decide +kernel
theorem dX7_readClause_31 : decode cX7_readClause 31 = .ok (.ldc 49, 2) := by decide +kernel
theorem dX7_readClause_33 : decode cX7_readClause 33 = .ok (.invokevirtual 37, 3) := by decide +kernel
theorem dX7_readClause_36 : decode cX7_readClause 36 = .ok (.ifCond .eq 9, 3) := by decide +kernel
theorem dX7_readClause_39 : decode cX7_readClause 39 = .ok (.aload_n 0, 1) := by decide +kernel
theorem dX7_readClause_40 : decode cX7_readClause 40 = .ok (.aload_n 1, 1) := by decide +kernel
theorem dX7_readClause_41 : decode cX7_readClause 41 = .ok (.invokevirtual 51, 3) := by decide +kernel
theorem dX7_readClause_44 : decode cX7_readClause 44 = .ok (.ireturn, 1) := by decide +kernel
theorem dX7_readClause_45 : decode cX7_readClause 45 = .ok (.aload_n 0, 1) := by decide +kernel
theorem dX7_readClause_46 : decode cX7_readClause 46 = .ok (.ldc 54, 2) := by decide +kernel
theorem dX7_readClause_48 : decode cX7_readClause 48 = .ok (.invokevirtual 37, 3) := by decide +kernel
theorem dX7_readClause_51 : decode cX7_readClause 51 = .ok (.ifCond .eq 9, 3) := by decide +kernel
theorem dX7_readClause_54 : decode cX7_readClause 54 = .ok (.aload_n 0, 1) := by decide +kernel
theorem dX7_readClause_55 : decode cX7_readClause 55 = .ok (.aload_n 1, 1) := by decide +kernel
theorem dX7_readClause_56 : decode cX7_readClause 56 = .ok (.invokevirtual 56, 3) := by decide +kernel
theorem dX7_readClause_59 : decode cX7_readClause 59 = .ok (.ireturn, 1) := by decide +kernel
theorem dX7_readClause_60 : decode cX7_readClause 60 = .ok (.aload_n 0, 1) := by decide +kernel
theorem dX7_readClause_61 : decode cX7_readClause 61 = .ok (.aload_n 1, 1) := by decide +kernel
theorem dX7_readClause_62 : decode cX7_readClause 62 = .ok (.invokevirtual 59, 3) := by decide +kernel
theorem dX7_readClause_65 : decode cX7_readClause 65 = .ok (.ireturn, 1) := by decide +kernel
theorem dX7_readSigns_0 : decode cX7_readSigns 0 = .ok (.aload_n 0, 1) := by decide +kernel
theorem dX7_readSigns_1 : decode cX7_readSigns 1 = .ok (.invokevirtual 25, 3) := by decide +kernel
theorem dX7_readSigns_4 : decode cX7_readSigns 4 = .ok (.aload_n 0, 1) := by decide +kernel
theorem dX7_readSigns_5 : decode cX7_readSigns 5 = .ok (.iconst 3, 1) := by decide +kernel
theorem dX7_readSigns_6 : decode cX7_readSigns 6 = .ok (.bipush 6, 2) := by decide +kernel
theorem dX7_readSigns_8 : decode cX7_readSigns 8 = .ok (.invokevirtual 62, 3) := by decide +kernel
theorem dX7_readSigns_11 : decode cX7_readSigns 11 = .ok (.ifCond .ne 5, 3) := by decide +kernel
theorem dX7_readSigns_14 : decode cX7_readSigns 14 = .ok (.iconst 0, 1) := by decide +kernel
theorem dX7_readSigns_15 : decode cX7_readSigns 15 = .ok (.ireturn, 1) := by decide +kernel
theorem dX7_readSigns_16 : decode cX7_readSigns 16 = .ok (.aload_n 0, 1) := by decide +kernel
theorem dX7_readSigns_17 : decode cX7_readSigns 17 = .ok (.getfield 66, 3) := by decide +kernel
theorem dX7_readSigns_20 : decode cX7_readSigns 20 = .ok (.istore_n 2, 1) := by decide +kernel
theorem dX7_readSigns_21 : decode cX7_readSigns 21 = .ok (.aload_n 0, 1) := by decide +kernel
theorem dX7_readSigns_22 : decode cX7_readSigns 22 = .ok (.iload_n 2, 1) := by decide +kernel
theorem dX7_readSigns_23 : decode cX7_readSigns 23 = .ok (.invokestatic 69, 3) := by decide +kernel
theorem dX7_readSigns_26 : decode cX7_readSigns 26 = .ok (.invokevirtual 75, 3) := by decide +kernel
theorem dX7_readSigns_29 : decode cX7_readSigns 29 = .ok (.ifCond .ne 5, 3) := by decide +kernel
theorem dX7_readSigns_32 : decode cX7_readSigns 32 = .ok (.iconst 0, 1) := by decide +kernel
theorem dX7_readSigns_33 : decode cX7_readSigns 33 = .ok (.ireturn, 1) := by decide +kernel
theorem dX7_readSigns_34 : decode cX7_readSigns 34 = .ok (.aload_n 1, 1) := by decide +kernel
theorem dX7_readSigns_35 : decode cX7_readSigns 35 = .ok (.iload_n 2, 1) := by decide +kernel
theorem dX7_readSigns_36 : decode cX7_readSigns 36 = .ok (.invokevirtual 79, 3) := by decide +kernel
theorem dX7_readSigns_39 : decode cX7_readSigns 39 = .ok (.aload_n 0, 1) := by decide +kernel
theorem dX7_readSigns_40 : decode cX7_readSigns 40 = .ok (.getfield 32, 3) := by decide +kernel
theorem dX7_readSigns_43 : decode cX7_readSigns 43 = .ok (.istore_n 3, 1) := by decide +kernel
theorem dX7_readSigns_44 : decode cX7_readSigns 44 = .ok (.iconst 0, 1) := by decide +kernel
theorem dX7_readSigns_45 : decode cX7_readSigns 45 = .ok (.istore 4, 2) := by decide +kernel
theorem dX7_readSigns_47 : decode cX7_readSigns 47 = .ok (.iload 4, 2) := by decide +kernel
theorem dX7_readSigns_49 : decode cX7_readSigns 49 = .ok (.iload_n 2, 1) := by decide +kernel
theorem dX7_readSigns_50 : decode cX7_readSigns 50 = .ok (.if_icmp .ge 75, 3) := by decide +kernel
theorem dX7_readSigns_53 : decode cX7_readSigns 53 = .ok (.iload 4, 2) := by decide +kernel
theorem dX7_readSigns_55 : decode cX7_readSigns 55 = .ok (.iconst 1, 1) := by decide +kernel
theorem dX7_readSigns_56 : decode cX7_readSigns 56 = .ok (.iadd, 1) := by decide +kernel
theorem dX7_readSigns_57 : decode cX7_readSigns 57 = .ok (.istore 5, 2) := by decide +kernel
theorem dX7_readSigns_59 : decode cX7_readSigns 59 = .ok (.iload 5, 2) := by decide +kernel
theorem dX7_readSigns_61 : decode cX7_readSigns 61 = .ok (.iload_n 2, 1) := by decide +kernel
theorem dX7_readSigns_62 : decode cX7_readSigns 62 = .ok (.if_icmp .ge 57, 3) := by decide +kernel
theorem dX7_readSigns_65 : decode cX7_readSigns 65 = .ok (.iload 5, 2) := by decide +kernel
theorem dX7_readSigns_67 : decode cX7_readSigns 67 = .ok (.iconst 1, 1) := by decide +kernel
theorem dX7_readSigns_68 : decode cX7_readSigns 68 = .ok (.iadd, 1) := by decide +kernel
theorem dX7_readSigns_69 : decode cX7_readSigns 69 = .ok (.istore 6, 2) := by decide +kernel
theorem dX7_readSigns_71 : decode cX7_readSigns 71 = .ok (.iload 6, 2) := by decide +kernel
theorem dX7_readSigns_73 : decode cX7_readSigns 73 = .ok (.iload_n 2, 1) := by decide +kernel
theorem dX7_readSigns_74 : decode cX7_readSigns 74 = .ok (.if_icmp .ge 39, 3) := by decide +kernel
theorem dX7_readSigns_77 : decode cX7_readSigns 77 = .ok (.iload_n 3, 1) := by decide +kernel
theorem dX7_readSigns_78 : decode cX7_readSigns 78 = .ok (.aload_n 0, 1) := by decide +kernel
theorem dX7_readSigns_79 : decode cX7_readSigns 79 = .ok (.getfield 22, 3) := by decide +kernel
theorem dX7_readSigns_82 : decode cX7_readSigns 82 = .ok (.if_icmp .ge 31, 3) := by decide +kernel
theorem dX7_readSigns_85 : decode cX7_readSigns 85 = .ok (.aload_n 1, 1) := by decide +kernel
theorem dX7_readSigns_86 : decode cX7_readSigns 86 = .ok (.iload 4, 2) := by decide +kernel
theorem dX7_readSigns_88 : decode cX7_readSigns 88 = .ok (.iload 5, 2) := by decide +kernel
theorem dX7_readSigns_90 : decode cX7_readSigns 90 = .ok (.iload 6, 2) := by decide +kernel
theorem dX7_readSigns_92 : decode cX7_readSigns 92 = .ok (.aload_n 0, 1) := by decide +kernel
theorem dX7_readSigns_93 : decode cX7_readSigns 93 = .ok (.getfield 11, 3) := by decide +kernel
theorem dX7_readSigns_96 : decode cX7_readSigns 96 = .ok (.iload_n 3, 1) := by decide +kernel
theorem dX7_readSigns_97 : decode cX7_readSigns 97 = .ok (.iaload, 1) := by decide +kernel
theorem dX7_readSigns_98 : decode cX7_readSigns 98 = .ok (.invokestatic 82, 3) := by decide +kernel
theorem dX7_readSigns_101 : decode cX7_readSigns 101 = .ok (.invokevirtual 85, 3) := by decide +kernel
theorem dX7_readSigns_104 : decode cX7_readSigns 104 = .ok (.iinc 3 1, 3) := by decide +kernel
theorem dX7_readSigns_107 : decode cX7_readSigns 107 = .ok (.iinc 6 1, 3) := by decide +kernel
theorem dX7_readSigns_110 : decode cX7_readSigns 110 = .ok (.goto (-39), 3) := by decide +kernel
theorem dX7_readSigns_113 : decode cX7_readSigns 113 = .ok (.iinc 5 1, 3) := by decide +kernel
theorem dX7_readSigns_116 : decode cX7_readSigns 116 = .ok (.goto (-57), 3) := by decide +kernel
theorem dX7_readSigns_119 : decode cX7_readSigns 119 = .ok (.iinc 4 1, 3) := by decide +kernel
theorem dX7_readSigns_122 : decode cX7_readSigns 122 = .ok (.goto (-75), 3) := by decide +kernel
theorem dX7_readSigns_125 : decode cX7_readSigns 125 = .ok (.aload_n 0, 1) := by decide +kernel
theorem dX7_readSigns_126 : decode cX7_readSigns 126 = .ok (.invokevirtual 25, 3) := by decide +kernel
theorem dX7_readSigns_129 : decode cX7_readSigns 129 = .ok (.iconst 1, 1) := by decide +kernel
theorem dX7_readSigns_130 : decode cX7_readSigns 130 = .ok (.ireturn, 1) := by decide +kernel
theorem dX7_readPoint_0 : decode cX7_readPoint 0 = .ok (.aload_n 0, 1) := by decide +kernel
theorem dX7_readPoint_1 : decode cX7_readPoint 1 = .ok (.invokevirtual 25, 3) := by decide +kernel
theorem dX7_readPoint_4 : decode cX7_readPoint 4 = .ok (.aload_n 0, 1) := by decide +kernel
theorem dX7_readPoint_5 : decode cX7_readPoint 5 = .ok (.iconst 0, 1) := by decide +kernel
theorem dX7_readPoint_6 : decode cX7_readPoint 6 = .ok (.aload_n 1, 1) := by decide +kernel
theorem dX7_readPoint_7 : decode cX7_readPoint 7 = .ok (.invokevirtual 89, 3) := by decide +kernel
theorem dX7_readPoint_10 : decode cX7_readPoint 10 = .ok (.iconst 1, 1) := by decide +kernel
theorem dX7_readPoint_11 : decode cX7_readPoint 11 = .ok (.isub, 1) := by decide +kernel
theorem dX7_readPoint_12 : decode cX7_readPoint 12 = .ok (.invokevirtual 62, 3) := by decide +kernel
theorem dX7_readPoint_15 : decode cX7_readPoint 15 = .ok (.ifCond .ne 5, 3) := by decide +kernel
theorem dX7_readPoint_18 : decode cX7_readPoint 18 = .ok (.iconst 0, 1) := by decide +kernel
theorem dX7_readPoint_19 : decode cX7_readPoint 19 = .ok (.ireturn, 1) := by decide +kernel
theorem dX7_readPoint_20 : decode cX7_readPoint 20 = .ok (.aload_n 0, 1) := by decide +kernel
theorem dX7_readPoint_21 : decode cX7_readPoint 21 = .ok (.getfield 66, 3) := by decide +kernel
theorem dX7_readPoint_24 : decode cX7_readPoint 24 = .ok (.istore_n 2, 1) := by decide +kernel
theorem dX7_readPoint_25 : decode cX7_readPoint 25 = .ok (.aload_n 0, 1) := by decide +kernel
theorem dX7_readPoint_26 : decode cX7_readPoint 26 = .ok (.invokevirtual 93, 3) := by decide +kernel
theorem dX7_readPoint_29 : decode cX7_readPoint 29 = .ok (.ifCond .ne 5, 3) := by decide +kernel
theorem dX7_readPoint_32 : decode cX7_readPoint 32 = .ok (.iconst 0, 1) := by decide +kernel
theorem dX7_readPoint_33 : decode cX7_readPoint 33 = .ok (.ireturn, 1) := by decide +kernel
theorem dX7_readPoint_34 : decode cX7_readPoint 34 = .ok (.aload_n 0, 1) := by decide +kernel
theorem dX7_readPoint_35 : decode cX7_readPoint 35 = .ok (.getfield 66, 3) := by decide +kernel
theorem dX7_readPoint_38 : decode cX7_readPoint 38 = .ok (.istore_n 3, 1) := by decide +kernel
theorem dX7_readPoint_39 : decode cX7_readPoint 39 = .ok (.aload_n 0, 1) := by decide +kernel
theorem dX7_readPoint_40 : decode cX7_readPoint 40 = .ok (.invokevirtual 93, 3) := by decide +kernel
theorem dX7_readPoint_43 : decode cX7_readPoint 43 = .ok (.ifCond .ne 5, 3) := by decide +kernel
theorem dX7_readPoint_46 : decode cX7_readPoint 46 = .ok (.iconst 0, 1) := by decide +kernel
theorem dX7_readPoint_47 : decode cX7_readPoint 47 = .ok (.ireturn, 1) := by decide +kernel
theorem dX7_readPoint_48 : decode cX7_readPoint 48 = .ok (.aload_n 0, 1) := by decide +kernel
theorem dX7_readPoint_49 : decode cX7_readPoint 49 = .ok (.getfield 66, 3) := by decide +kernel
theorem dX7_readPoint_52 : decode cX7_readPoint 52 = .ok (.istore 4, 2) := by decide +kernel
theorem dX7_readPoint_54 : decode cX7_readPoint 54 = .ok (.aload_n 0, 1) := by decide +kernel
theorem dX7_readPoint_55 : decode cX7_readPoint 55 = .ok (.invokevirtual 93, 3) := by decide +kernel
theorem dX7_readPoint_58 : decode cX7_readPoint 58 = .ok (.ifCond .ne 5, 3) := by decide +kernel
theorem dX7_readPoint_61 : decode cX7_readPoint 61 = .ok (.iconst 0, 1) := by decide +kernel
theorem dX7_readPoint_62 : decode cX7_readPoint 62 = .ok (.ireturn, 1) := by decide +kernel
theorem dX7_readPoint_63 : decode cX7_readPoint 63 = .ok (.aload_n 1, 1) := by decide +kernel
theorem dX7_readPoint_64 : decode cX7_readPoint 64 = .ok (.iload_n 2, 1) := by decide +kernel
theorem dX7_readPoint_65 : decode cX7_readPoint 65 = .ok (.iload_n 3, 1) := by decide +kernel
theorem dX7_readPoint_66 : decode cX7_readPoint 66 = .ok (.iload 4, 2) := by decide +kernel
theorem dX7_readPoint_68 : decode cX7_readPoint 68 = .ok (.aload_n 0, 1) := by decide +kernel
theorem dX7_readPoint_69 : decode cX7_readPoint 69 = .ok (.getfield 66, 3) := by decide +kernel
theorem dX7_readPoint_72 : decode cX7_readPoint 72 = .ok (.invokevirtual 97, 3) := by decide +kernel
theorem dX7_readPoint_75 : decode cX7_readPoint 75 = .ok (.iconst 1, 1) := by decide +kernel
theorem dX7_readPoint_76 : decode cX7_readPoint 76 = .ok (.ireturn, 1) := by decide +kernel
theorem dX7_readFlip_0 : decode cX7_readFlip 0 = .ok (.aload_n 0, 1) := by decide +kernel
theorem dX7_readFlip_1 : decode cX7_readFlip 1 = .ok (.invokevirtual 25, 3) := by decide +kernel
theorem dX7_readFlip_4 : decode cX7_readFlip 4 = .ok (.aload_n 0, 1) := by decide +kernel
theorem dX7_readFlip_5 : decode cX7_readFlip 5 = .ok (.iconst 0, 1) := by decide +kernel
theorem dX7_readFlip_6 : decode cX7_readFlip 6 = .ok (.aload_n 1, 1) := by decide +kernel
theorem dX7_readFlip_7 : decode cX7_readFlip 7 = .ok (.invokevirtual 89, 3) := by decide +kernel
theorem dX7_readFlip_10 : decode cX7_readFlip 10 = .ok (.iconst 1, 1) := by decide +kernel
theorem dX7_readFlip_11 : decode cX7_readFlip 11 = .ok (.isub, 1) := by decide +kernel
theorem dX7_readFlip_12 : decode cX7_readFlip 12 = .ok (.invokevirtual 62, 3) := by decide +kernel
theorem dX7_readFlip_15 : decode cX7_readFlip 15 = .ok (.ifCond .ne 5, 3) := by decide +kernel
theorem dX7_readFlip_18 : decode cX7_readFlip 18 = .ok (.iconst 0, 1) := by decide +kernel
theorem dX7_readFlip_19 : decode cX7_readFlip 19 = .ok (.ireturn, 1) := by decide +kernel
theorem dX7_readFlip_20 : decode cX7_readFlip 20 = .ok (.aload_n 1, 1) := by decide +kernel
theorem dX7_readFlip_21 : decode cX7_readFlip 21 = .ok (.aload_n 0, 1) := by decide +kernel
theorem dX7_readFlip_22 : decode cX7_readFlip 22 = .ok (.getfield 66, 3) := by decide +kernel
theorem dX7_readFlip_25 : decode cX7_readFlip 25 = .ok (.invokevirtual 100, 3) := by decide +kernel
theorem dX7_readFlip_28 : decode cX7_readFlip 28 = .ok (.pop, 1) := by decide +kernel
theorem dX7_readFlip_29 : decode cX7_readFlip 29 = .ok (.iconst 1, 1) := by decide +kernel
theorem dX7_readFlip_30 : decode cX7_readFlip 30 = .ok (.ireturn, 1) := by decide +kernel
theorem dX7_readSwap_0 : decode cX7_readSwap 0 = .ok (.aload_n 0, 1) := by decide +kernel
theorem dX7_readSwap_1 : decode cX7_readSwap 1 = .ok (.invokevirtual 25, 3) := by decide +kernel
theorem dX7_readSwap_4 : decode cX7_readSwap 4 = .ok (.aload_n 0, 1) := by decide +kernel
theorem dX7_readSwap_5 : decode cX7_readSwap 5 = .ok (.iconst 0, 1) := by decide +kernel
theorem dX7_readSwap_6 : decode cX7_readSwap 6 = .ok (.aload_n 1, 1) := by decide +kernel
theorem dX7_readSwap_7 : decode cX7_readSwap 7 = .ok (.invokevirtual 89, 3) := by decide +kernel
theorem dX7_readSwap_10 : decode cX7_readSwap 10 = .ok (.iconst 1, 1) := by decide +kernel
theorem dX7_readSwap_11 : decode cX7_readSwap 11 = .ok (.isub, 1) := by decide +kernel
theorem dX7_readSwap_12 : decode cX7_readSwap 12 = .ok (.invokevirtual 62, 3) := by decide +kernel
theorem dX7_readSwap_15 : decode cX7_readSwap 15 = .ok (.ifCond .ne 5, 3) := by decide +kernel
theorem dX7_readSwap_18 : decode cX7_readSwap 18 = .ok (.iconst 0, 1) := by decide +kernel
theorem dX7_readSwap_19 : decode cX7_readSwap 19 = .ok (.ireturn, 1) := by decide +kernel
theorem dX7_readSwap_20 : decode cX7_readSwap 20 = .ok (.aload_n 0, 1) := by decide +kernel
theorem dX7_readSwap_21 : decode cX7_readSwap 21 = .ok (.getfield 66, 3) := by decide +kernel
theorem dX7_readSwap_24 : decode cX7_readSwap 24 = .ok (.istore_n 2, 1) := by decide +kernel
theorem dX7_readSwap_25 : decode cX7_readSwap 25 = .ok (.aload_n 0, 1) := by decide +kernel
theorem dX7_readSwap_26 : decode cX7_readSwap 26 = .ok (.getfield 32, 3) := by decide +kernel
theorem dX7_readSwap_29 : decode cX7_readSwap 29 = .ok (.istore_n 3, 1) := by decide +kernel
theorem dX7_readSwap_30 : decode cX7_readSwap 30 = .ok (.aload_n 0, 1) := by decide +kernel
theorem dX7_readSwap_31 : decode cX7_readSwap 31 = .ok (.getfield 22, 3) := by decide +kernel
theorem dX7_readSwap_34 : decode cX7_readSwap 34 = .ok (.istore 4, 2) := by decide +kernel
theorem dX7_readSwap_36 : decode cX7_readSwap 36 = .ok (.aload_n 0, 1) := by decide +kernel
theorem dX7_readSwap_37 : decode cX7_readSwap 37 = .ok (.iconst 0, 1) := by decide +kernel
theorem dX7_readSwap_38 : decode cX7_readSwap 38 = .ok (.aload_n 1, 1) := by decide +kernel
theorem dX7_readSwap_39 : decode cX7_readSwap 39 = .ok (.invokevirtual 89, 3) := by decide +kernel
theorem dX7_readSwap_42 : decode cX7_readSwap 42 = .ok (.iconst 1, 1) := by decide +kernel
theorem dX7_readSwap_43 : decode cX7_readSwap 43 = .ok (.isub, 1) := by decide +kernel
theorem dX7_readSwap_44 : decode cX7_readSwap 44 = .ok (.invokevirtual 62, 3) := by decide +kernel
theorem dX7_readSwap_47 : decode cX7_readSwap 47 = .ok (.ifCond .ne 5, 3) := by decide +kernel
theorem dX7_readSwap_50 : decode cX7_readSwap 50 = .ok (.iconst 0, 1) := by decide +kernel
theorem dX7_readSwap_51 : decode cX7_readSwap 51 = .ok (.ireturn, 1) := by decide +kernel
theorem dX7_readSwap_52 : decode cX7_readSwap 52 = .ok (.aload_n 0, 1) := by decide +kernel
theorem dX7_readSwap_53 : decode cX7_readSwap 53 = .ok (.getfield 66, 3) := by decide +kernel
theorem dX7_readSwap_56 : decode cX7_readSwap 56 = .ok (.iload_n 2, 1) := by decide +kernel
theorem dX7_readSwap_57 : decode cX7_readSwap 57 = .ok (.if_icmp .ne 16, 3) := by decide +kernel
theorem dX7_readSwap_60 : decode cX7_readSwap 60 = .ok (.aload_n 0, 1) := by decide +kernel
theorem dX7_readSwap_61 : decode cX7_readSwap 61 = .ok (.iload_n 3, 1) := by decide +kernel
theorem dX7_readSwap_62 : decode cX7_readSwap 62 = .ok (.putfield 32, 3) := by decide +kernel
theorem dX7_readSwap_65 : decode cX7_readSwap 65 = .ok (.aload_n 0, 1) := by decide +kernel
theorem dX7_readSwap_66 : decode cX7_readSwap 66 = .ok (.iload 4, 2) := by decide +kernel
theorem dX7_readSwap_68 : decode cX7_readSwap 68 = .ok (.putfield 22, 3) := by decide +kernel
theorem dX7_readSwap_71 : decode cX7_readSwap 71 = .ok (.iconst 0, 1) := by decide +kernel
theorem dX7_readSwap_72 : decode cX7_readSwap 72 = .ok (.ireturn, 1) := by decide +kernel
theorem dX7_readSwap_73 : decode cX7_readSwap 73 = .ok (.aload_n 1, 1) := by decide +kernel
theorem dX7_readSwap_74 : decode cX7_readSwap 74 = .ok (.iload_n 2, 1) := by decide +kernel
theorem dX7_readSwap_75 : decode cX7_readSwap 75 = .ok (.aload_n 0, 1) := by decide +kernel
theorem dX7_readSwap_76 : decode cX7_readSwap 76 = .ok (.getfield 66, 3) := by decide +kernel
theorem dX7_readSwap_79 : decode cX7_readSwap 79 = .ok (.invokevirtual 103, 3) := by decide +kernel
theorem dX7_readSwap_82 : decode cX7_readSwap 82 = .ok (.pop, 1) := by decide +kernel
theorem dX7_readSwap_83 : decode cX7_readSwap 83 = .ok (.iconst 1, 1) := by decide +kernel
theorem dX7_readSwap_84 : decode cX7_readSwap 84 = .ok (.ireturn, 1) := by decide +kernel
theorem dX7_readDraw_0 : decode cX7_readDraw 0 = .ok (.aload_n 0, 1) := by decide +kernel
theorem dX7_readDraw_1 : decode cX7_readDraw 1 = .ok (.ldc 107, 2) := by decide +kernel
theorem dX7_readDraw_3 : decode cX7_readDraw 3 = .ok (.invokevirtual 37, 3) := by decide +kernel
theorem dX7_readDraw_6 : decode cX7_readDraw 6 = .ok (.ifCond .ne 5, 3) := by decide +kernel
theorem dX7_readDraw_9 : decode cX7_readDraw 9 = .ok (.iconst 0, 1) := by decide +kernel
theorem dX7_readDraw_10 : decode cX7_readDraw 10 = .ok (.ireturn, 1) := by decide +kernel
theorem dX7_readDraw_11 : decode cX7_readDraw 11 = .ok (.aload_n 0, 1) := by decide +kernel
theorem dX7_readDraw_12 : decode cX7_readDraw 12 = .ok (.invokevirtual 25, 3) := by decide +kernel
theorem dX7_readDraw_15 : decode cX7_readDraw 15 = .ok (.aload_n 1, 1) := by decide +kernel
theorem dX7_readDraw_16 : decode cX7_readDraw 16 = .ok (.invokevirtual 109, 3) := by decide +kernel
theorem dX7_readDraw_19 : decode cX7_readDraw 19 = .ok (.pop, 1) := by decide +kernel
theorem dX7_readDraw_20 : decode cX7_readDraw 20 = .ok (.iconst 1, 1) := by decide +kernel
theorem dX7_readDraw_21 : decode cX7_readDraw 21 = .ok (.ireturn, 1) := by decide +kernel
theorem dX7_readCoordinate_0 : decode cX7_readCoordinate 0 = .ok (.aload_n 0, 1) := by decide +kernel
theorem dX7_readCoordinate_1 : decode cX7_readCoordinate 1 = .ok (.getfield 32, 3) := by decide +kernel
theorem dX7_readCoordinate_4 : decode cX7_readCoordinate 4 = .ok (.aload_n 0, 1) := by decide +kernel
theorem dX7_readCoordinate_5 : decode cX7_readCoordinate 5 = .ok (.getfield 15, 3) := by decide +kernel
theorem dX7_readCoordinate_8 : decode cX7_readCoordinate 8 = .ok (.if_icmp .ge 21, 3) := by decide +kernel
theorem dX7_readCoordinate_11 : decode cX7_readCoordinate 11 = .ok (.aload_n 0, 1) := by decide +kernel
theorem dX7_readCoordinate_12 : decode cX7_readCoordinate 12 = .ok (.getfield 11, 3) := by decide +kernel
theorem dX7_readCoordinate_15 : decode cX7_readCoordinate 15 = .ok (.aload_n 0, 1) := by decide +kernel
theorem dX7_readCoordinate_16 : decode cX7_readCoordinate 16 = .ok (.getfield 32, 3) := by decide +kernel
theorem dX7_readCoordinate_19 : decode cX7_readCoordinate 19 = .ok (.iaload, 1) := by decide +kernel
theorem dX7_readCoordinate_20 : decode cX7_readCoordinate 20 = .ok (.bipush 45, 2) := by decide +kernel
theorem dX7_readCoordinate_22 : decode cX7_readCoordinate 22 = .ok (.if_icmp .ne 7, 3) := by decide +kernel
theorem dX7_readCoordinate_25 : decode cX7_readCoordinate 25 = .ok (.iconst 1, 1) := by decide +kernel
theorem dX7_readCoordinate_26 : decode cX7_readCoordinate 26 = .ok (.goto 4, 3) := by decide +kernel
theorem dX7_readCoordinate_29 : decode cX7_readCoordinate 29 = .ok (.iconst 0, 1) := by decide +kernel
theorem dX7_readCoordinate_30 : decode cX7_readCoordinate 30 = .ok (.istore_n 1, 1) := by decide +kernel
theorem dX7_readCoordinate_31 : decode cX7_readCoordinate 31 = .ok (.iload_n 1, 1) := by decide +kernel
theorem dX7_readCoordinate_32 : decode cX7_readCoordinate 32 = .ok (.ifCond .eq 7, 3) := by decide +kernel
theorem dX7_readCoordinate_35 : decode cX7_readCoordinate 35 = .ok (.aload_n 0, 1) := by decide +kernel
theorem dX7_readCoordinate_36 : decode cX7_readCoordinate 36 = .ok (.invokevirtual 25, 3) := by decide +kernel
theorem dX7_readCoordinate_39 : decode cX7_readCoordinate 39 = .ok (.aload_n 0, 1) := by decide +kernel
theorem dX7_readCoordinate_40 : decode cX7_readCoordinate 40 = .ok (.iconst 0, 1) := by decide +kernel
theorem dX7_readCoordinate_41 : decode cX7_readCoordinate 41 = .ok (.bipush 99, 2) := by decide +kernel
theorem dX7_readCoordinate_43 : decode cX7_readCoordinate 43 = .ok (.invokevirtual 62, 3) := by decide +kernel
theorem dX7_readCoordinate_46 : decode cX7_readCoordinate 46 = .ok (.ifCond .ne 5, 3) := by decide +kernel
theorem dX7_readCoordinate_49 : decode cX7_readCoordinate 49 = .ok (.iconst 0, 1) := by decide +kernel
theorem dX7_readCoordinate_50 : decode cX7_readCoordinate 50 = .ok (.ireturn, 1) := by decide +kernel
theorem dX7_readCoordinate_51 : decode cX7_readCoordinate 51 = .ok (.aload_n 0, 1) := by decide +kernel
theorem dX7_readCoordinate_52 : decode cX7_readCoordinate 52 = .ok (.iload_n 1, 1) := by decide +kernel
theorem dX7_readCoordinate_53 : decode cX7_readCoordinate 53 = .ok (.ifCond .eq 11, 3) := by decide +kernel
theorem dX7_readCoordinate_56 : decode cX7_readCoordinate 56 = .ok (.aload_n 0, 1) := by decide +kernel
theorem dX7_readCoordinate_57 : decode cX7_readCoordinate 57 = .ok (.getfield 66, 3) := by decide +kernel
theorem dX7_readCoordinate_60 : decode cX7_readCoordinate 60 = .ok (.ineg, 1) := by decide +kernel
theorem dX7_readCoordinate_61 : decode cX7_readCoordinate 61 = .ok (.goto 7, 3) := by decide +kernel
theorem dX7_readCoordinate_64 : decode cX7_readCoordinate 64 = .ok (.aload_n 0, 1) := by decide +kernel
theorem dX7_readCoordinate_65 : decode cX7_readCoordinate 65 = .ok (.getfield 66, 3) := by decide +kernel
theorem dX7_readCoordinate_68 : decode cX7_readCoordinate 68 = .ok (.putfield 66, 3) := by decide +kernel
theorem dX7_readCoordinate_71 : decode cX7_readCoordinate 71 = .ok (.iconst 1, 1) := by decide +kernel
theorem dX7_readCoordinate_72 : decode cX7_readCoordinate 72 = .ok (.ireturn, 1) := by decide +kernel
theorem dX7_readNumber_0 : decode cX7_readNumber 0 = .ok (.aload_n 0, 1) := by decide +kernel
theorem dX7_readNumber_1 : decode cX7_readNumber 1 = .ok (.getfield 22, 3) := by decide +kernel
theorem dX7_readNumber_4 : decode cX7_readNumber 4 = .ok (.aload_n 0, 1) := by decide +kernel
theorem dX7_readNumber_5 : decode cX7_readNumber 5 = .ok (.getfield 32, 3) := by decide +kernel
theorem dX7_readNumber_8 : decode cX7_readNumber 8 = .ok (.isub, 1) := by decide +kernel
theorem dX7_readNumber_9 : decode cX7_readNumber 9 = .ok (.istore_n 3, 1) := by decide +kernel
theorem dX7_readNumber_10 : decode cX7_readNumber 10 = .ok (.aload_n 0, 1) := by decide +kernel
theorem dX7_readNumber_11 : decode cX7_readNumber 11 = .ok (.getfield 32, 3) := by decide +kernel
theorem dX7_readNumber_14 : decode cX7_readNumber 14 = .ok (.aload_n 0, 1) := by decide +kernel
theorem dX7_readNumber_15 : decode cX7_readNumber 15 = .ok (.getfield 15, 3) := by decide +kernel
theorem dX7_readNumber_18 : decode cX7_readNumber 18 = .ok (.if_icmp .ge 23, 3) := by decide +kernel
theorem dX7_readNumber_21 : decode cX7_readNumber 21 = .ok (.aload_n 0, 1) := by decide +kernel
theorem dX7_readNumber_22 : decode cX7_readNumber 22 = .ok (.getfield 11, 3) := by decide +kernel
theorem dX7_readNumber_25 : decode cX7_readNumber 25 = .ok (.aload_n 0, 1) := by decide +kernel
theorem dX7_readNumber_26 : decode cX7_readNumber 26 = .ok (.getfield 32, 3) := by decide +kernel
theorem dX7_readNumber_29 : decode cX7_readNumber 29 = .ok (.iaload, 1) := by decide +kernel
theorem dX7_readNumber_30 : decode cX7_readNumber 30 = .ok (.invokestatic 112, 3) := by decide +kernel
theorem dX7_readNumber_33 : decode cX7_readNumber 33 = .ok (.ifCond .eq 8, 3) := by decide +kernel
theorem dX7_readNumber_36 : decode cX7_readNumber 36 = .ok (.iload_n 3, 1) := by decide +kernel
theorem dX7_readNumber_37 : decode cX7_readNumber 37 = .ok (.iconst 2, 1) := by decide +kernel
theorem dX7_readNumber_38 : decode cX7_readNumber 38 = .ok (.if_icmp .le 5, 3) := by decide +kernel
theorem dX7_readNumber_41 : decode cX7_readNumber 41 = .ok (.iconst 0, 1) := by decide +kernel
theorem dX7_readNumber_42 : decode cX7_readNumber 42 = .ok (.ireturn, 1) := by decide +kernel
theorem dX7_readNumber_43 : decode cX7_readNumber 43 = .ok (.iconst 0, 1) := by decide +kernel
theorem dX7_readNumber_44 : decode cX7_readNumber 44 = .ok (.istore 4, 2) := by decide +kernel
theorem dX7_readNumber_46 : decode cX7_readNumber 46 = .ok (.aload_n 0, 1) := by decide +kernel
theorem dX7_readNumber_47 : decode cX7_readNumber 47 = .ok (.getfield 32, 3) := by decide +kernel
theorem dX7_readNumber_50 : decode cX7_readNumber 50 = .ok (.istore 5, 2) := by decide +kernel
theorem dX7_readNumber_52 : decode cX7_readNumber 52 = .ok (.iload 5, 2) := by decide +kernel
theorem dX7_readNumber_54 : decode cX7_readNumber 54 = .ok (.aload_n 0, 1) := by decide +kernel
theorem dX7_readNumber_55 : decode cX7_readNumber 55 = .ok (.getfield 22, 3) := by decide +kernel
theorem dX7_readNumber_58 : decode cX7_readNumber 58 = .ok (.if_icmp .ge 27, 3) := by decide +kernel
theorem dX7_readNumber_61 : decode cX7_readNumber 61 = .ok (.iload 4, 2) := by decide +kernel
theorem dX7_readNumber_63 : decode cX7_readNumber 63 = .ok (.bipush 10, 2) := by decide +kernel
theorem dX7_readNumber_65 : decode cX7_readNumber 65 = .ok (.imul, 1) := by decide +kernel
theorem dX7_readNumber_66 : decode cX7_readNumber 66 = .ok (.aload_n 0, 1) := by decide +kernel
theorem dX7_readNumber_67 : decode cX7_readNumber 67 = .ok (.getfield 11, 3) := by decide +kernel
theorem dX7_readNumber_70 : decode cX7_readNumber 70 = .ok (.iload 5, 2) := by decide +kernel
theorem dX7_readNumber_72 : decode cX7_readNumber 72 = .ok (.iaload, 1) := by decide +kernel
theorem dX7_readNumber_73 : decode cX7_readNumber 73 = .ok (.iadd, 1) := by decide +kernel
theorem dX7_readNumber_74 : decode cX7_readNumber 74 = .ok (.bipush 48, 2) := by decide +kernel
theorem dX7_readNumber_76 : decode cX7_readNumber 76 = .ok (.isub, 1) := by decide +kernel
theorem dX7_readNumber_77 : decode cX7_readNumber 77 = .ok (.istore 4, 2) := by decide +kernel
theorem dX7_readNumber_79 : decode cX7_readNumber 79 = .ok (.iinc 5 1, 3) := by decide +kernel
theorem dX7_readNumber_82 : decode cX7_readNumber 82 = .ok (.goto (-30), 3) := by decide +kernel
theorem dX7_readNumber_85 : decode cX7_readNumber 85 = .ok (.iload 4, 2) := by decide +kernel
theorem dX7_readNumber_87 : decode cX7_readNumber 87 = .ok (.iload_n 1, 1) := by decide +kernel
theorem dX7_readNumber_88 : decode cX7_readNumber 88 = .ok (.if_icmp .lt 9, 3) := by decide +kernel
theorem dX7_readNumber_91 : decode cX7_readNumber 91 = .ok (.iload 4, 2) := by decide +kernel
theorem dX7_readNumber_93 : decode cX7_readNumber 93 = .ok (.iload_n 2, 1) := by decide +kernel
theorem dX7_readNumber_94 : decode cX7_readNumber 94 = .ok (.if_icmp .le 5, 3) := by decide +kernel
theorem dX7_readNumber_97 : decode cX7_readNumber 97 = .ok (.iconst 0, 1) := by decide +kernel
theorem dX7_readNumber_98 : decode cX7_readNumber 98 = .ok (.ireturn, 1) := by decide +kernel
theorem dX7_readNumber_99 : decode cX7_readNumber 99 = .ok (.aload_n 0, 1) := by decide +kernel
theorem dX7_readNumber_100 : decode cX7_readNumber 100 = .ok (.iload 4, 2) := by decide +kernel
theorem dX7_readNumber_102 : decode cX7_readNumber 102 = .ok (.putfield 66, 3) := by decide +kernel
theorem dX7_readNumber_105 : decode cX7_readNumber 105 = .ok (.aload_n 0, 1) := by decide +kernel
theorem dX7_readNumber_106 : decode cX7_readNumber 106 = .ok (.invokevirtual 25, 3) := by decide +kernel
theorem dX7_readNumber_109 : decode cX7_readNumber 109 = .ok (.iconst 1, 1) := by decide +kernel
theorem dX7_readNumber_110 : decode cX7_readNumber 110 = .ok (.ireturn, 1) := by decide +kernel
theorem dX7_isWord_0 : decode cX7_isWord 0 = .ok (.aload_n 0, 1) := by decide +kernel
theorem dX7_isWord_1 : decode cX7_isWord 1 = .ok (.getfield 22, 3) := by decide +kernel
theorem dX7_isWord_4 : decode cX7_isWord 4 = .ok (.aload_n 0, 1) := by decide +kernel
theorem dX7_isWord_5 : decode cX7_isWord 5 = .ok (.getfield 32, 3) := by decide +kernel
theorem dX7_isWord_8 : decode cX7_isWord 8 = .ok (.isub, 1) := by decide +kernel
theorem dX7_isWord_9 : decode cX7_isWord 9 = .ok (.aload_n 1, 1) := by decide +kernel
theorem dX7_isWord_10 : decode cX7_isWord 10 = .ok (.invokevirtual 115, 3) := by decide +kernel
theorem dX7_isWord_13 : decode cX7_isWord 13 = .ok (.if_icmp .eq 5, 3) := by decide +kernel
theorem dX7_isWord_16 : decode cX7_isWord 16 = .ok (.iconst 0, 1) := by decide +kernel
theorem dX7_isWord_17 : decode cX7_isWord 17 = .ok (.ireturn, 1) := by decide +kernel
theorem dX7_isWord_18 : decode cX7_isWord 18 = .ok (.aload_n 0, 1) := by decide +kernel
theorem dX7_isWord_19 : decode cX7_isWord 19 = .ok (.getfield 32, 3) := by decide +kernel
theorem dX7_isWord_22 : decode cX7_isWord 22 = .ok (.istore_n 2, 1) := by decide +kernel
theorem dX7_isWord_23 : decode cX7_isWord 23 = .ok (.iload_n 2, 1) := by decide +kernel
theorem dX7_isWord_24 : decode cX7_isWord 24 = .ok (.aload_n 0, 1) := by decide +kernel
theorem dX7_isWord_25 : decode cX7_isWord 25 = .ok (.getfield 22, 3) := by decide +kernel
theorem dX7_isWord_28 : decode cX7_isWord 28 = .ok (.if_icmp .ge 30, 3) := by decide +kernel
theorem dX7_isWord_31 : decode cX7_isWord 31 = .ok (.aload_n 0, 1) := by decide +kernel
theorem dX7_isWord_32 : decode cX7_isWord 32 = .ok (.getfield 11, 3) := by decide +kernel
theorem dX7_isWord_35 : decode cX7_isWord 35 = .ok (.iload_n 2, 1) := by decide +kernel
theorem dX7_isWord_36 : decode cX7_isWord 36 = .ok (.iaload, 1) := by decide +kernel
theorem dX7_isWord_37 : decode cX7_isWord 37 = .ok (.aload_n 1, 1) := by decide +kernel
theorem dX7_isWord_38 : decode cX7_isWord 38 = .ok (.iload_n 2, 1) := by decide +kernel
theorem dX7_isWord_39 : decode cX7_isWord 39 = .ok (.aload_n 0, 1) := by decide +kernel
theorem dX7_isWord_40 : decode cX7_isWord 40 = .ok (.getfield 32, 3) := by decide +kernel
theorem dX7_isWord_43 : decode cX7_isWord 43 = .ok (.isub, 1) := by decide +kernel
theorem dX7_isWord_44 : decode cX7_isWord 44 = .ok (.invokevirtual 119, 3) := by decide +kernel
theorem dX7_isWord_47 : decode cX7_isWord 47 = .ok (.if_icmp .eq 5, 3) := by decide +kernel
theorem dX7_isWord_50 : decode cX7_isWord 50 = .ok (.iconst 0, 1) := by decide +kernel
theorem dX7_isWord_51 : decode cX7_isWord 51 = .ok (.ireturn, 1) := by decide +kernel
theorem dX7_isWord_52 : decode cX7_isWord 52 = .ok (.iinc 2 1, 3) := by decide +kernel
theorem dX7_isWord_55 : decode cX7_isWord 55 = .ok (.goto (-32), 3) := by decide +kernel
theorem dX7_isWord_58 : decode cX7_isWord 58 = .ok (.iconst 1, 1) := by decide +kernel
theorem dX7_isWord_59 : decode cX7_isWord 59 = .ok (.ireturn, 1) := by decide +kernel
theorem dX7_isSignWord_0 : decode cX7_isSignWord 0 = .ok (.aload_n 0, 1) := by decide +kernel
theorem dX7_isSignWord_1 : decode cX7_isSignWord 1 = .ok (.getfield 22, 3) := by decide +kernel
theorem dX7_isSignWord_4 : decode cX7_isSignWord 4 = .ok (.aload_n 0, 1) := by decide +kernel
theorem dX7_isSignWord_5 : decode cX7_isSignWord 5 = .ok (.getfield 32, 3) := by decide +kernel
theorem dX7_isSignWord_8 : decode cX7_isSignWord 8 = .ok (.isub, 1) := by decide +kernel
theorem dX7_isSignWord_9 : decode cX7_isSignWord 9 = .ok (.iload_n 1, 1) := by decide +kernel
theorem dX7_isSignWord_10 : decode cX7_isSignWord 10 = .ok (.if_icmp .eq 5, 3) := by decide +kernel
theorem dX7_isSignWord_13 : decode cX7_isSignWord 13 = .ok (.iconst 0, 1) := by decide +kernel
theorem dX7_isSignWord_14 : decode cX7_isSignWord 14 = .ok (.ireturn, 1) := by decide +kernel
theorem dX7_isSignWord_15 : decode cX7_isSignWord 15 = .ok (.aload_n 0, 1) := by decide +kernel
theorem dX7_isSignWord_16 : decode cX7_isSignWord 16 = .ok (.getfield 32, 3) := by decide +kernel
theorem dX7_isSignWord_19 : decode cX7_isSignWord 19 = .ok (.istore_n 2, 1) := by decide +kernel
theorem dX7_isSignWord_20 : decode cX7_isSignWord 20 = .ok (.iload_n 2, 1) := by decide +kernel
theorem dX7_isSignWord_21 : decode cX7_isSignWord 21 = .ok (.aload_n 0, 1) := by decide +kernel
theorem dX7_isSignWord_22 : decode cX7_isSignWord 22 = .ok (.getfield 22, 3) := by decide +kernel
theorem dX7_isSignWord_25 : decode cX7_isSignWord 25 = .ok (.if_icmp .ge 44, 3) := by decide +kernel
theorem dX7_isSignWord_28 : decode cX7_isSignWord 28 = .ok (.aload_n 0, 1) := by decide +kernel
theorem dX7_isSignWord_29 : decode cX7_isSignWord 29 = .ok (.getfield 11, 3) := by decide +kernel
theorem dX7_isSignWord_32 : decode cX7_isSignWord 32 = .ok (.iload_n 2, 1) := by decide +kernel
theorem dX7_isSignWord_33 : decode cX7_isSignWord 33 = .ok (.iaload, 1) := by decide +kernel
theorem dX7_isSignWord_34 : decode cX7_isSignWord 34 = .ok (.bipush 117, 2) := by decide +kernel
theorem dX7_isSignWord_36 : decode cX7_isSignWord 36 = .ok (.if_icmp .eq 27, 3) := by decide +kernel
theorem dX7_isSignWord_39 : decode cX7_isSignWord 39 = .ok (.aload_n 0, 1) := by decide +kernel
theorem dX7_isSignWord_40 : decode cX7_isSignWord 40 = .ok (.getfield 11, 3) := by decide +kernel
theorem dX7_isSignWord_43 : decode cX7_isSignWord 43 = .ok (.iload_n 2, 1) := by decide +kernel
theorem dX7_isSignWord_44 : decode cX7_isSignWord 44 = .ok (.iaload, 1) := by decide +kernel
theorem dX7_isSignWord_45 : decode cX7_isSignWord 45 = .ok (.bipush 111, 2) := by decide +kernel
theorem dX7_isSignWord_47 : decode cX7_isSignWord 47 = .ok (.if_icmp .eq 16, 3) := by decide +kernel
theorem dX7_isSignWord_50 : decode cX7_isSignWord 50 = .ok (.aload_n 0, 1) := by decide +kernel
theorem dX7_isSignWord_51 : decode cX7_isSignWord 51 = .ok (.getfield 11, 3) := by decide +kernel
theorem dX7_isSignWord_54 : decode cX7_isSignWord 54 = .ok (.iload_n 2, 1) := by decide +kernel
theorem dX7_isSignWord_55 : decode cX7_isSignWord 55 = .ok (.iaload, 1) := by decide +kernel
theorem dX7_isSignWord_56 : decode cX7_isSignWord 56 = .ok (.bipush 100, 2) := by decide +kernel
theorem dX7_isSignWord_58 : decode cX7_isSignWord 58 = .ok (.if_icmp .eq 5, 3) := by decide +kernel
theorem dX7_isSignWord_61 : decode cX7_isSignWord 61 = .ok (.iconst 0, 1) := by decide +kernel
theorem dX7_isSignWord_62 : decode cX7_isSignWord 62 = .ok (.ireturn, 1) := by decide +kernel
theorem dX7_isSignWord_63 : decode cX7_isSignWord 63 = .ok (.iinc 2 1, 3) := by decide +kernel
theorem dX7_isSignWord_66 : decode cX7_isSignWord 66 = .ok (.goto (-46), 3) := by decide +kernel
theorem dX7_isSignWord_69 : decode cX7_isSignWord 69 = .ok (.iconst 1, 1) := by decide +kernel
theorem dX7_isSignWord_70 : decode cX7_isSignWord 70 = .ok (.ireturn, 1) := by decide +kernel
theorem dX7_signTold_0 : decode cX7_signTold 0 = .ok (.iload_n 0, 1) := by decide +kernel
theorem dX7_signTold_1 : decode cX7_signTold 1 = .ok (.bipush 117, 2) := by decide +kernel
theorem dX7_signTold_3 : decode cX7_signTold 3 = .ok (.if_icmp .ne 5, 3) := by decide +kernel
theorem dX7_signTold_6 : decode cX7_signTold 6 = .ok (.iconst 1, 1) := by decide +kernel
theorem dX7_signTold_7 : decode cX7_signTold 7 = .ok (.ireturn, 1) := by decide +kernel
theorem dX7_signTold_8 : decode cX7_signTold 8 = .ok (.iload_n 0, 1) := by decide +kernel
theorem dX7_signTold_9 : decode cX7_signTold 9 = .ok (.bipush 100, 2) := by decide +kernel
theorem dX7_signTold_11 : decode cX7_signTold 11 = .ok (.if_icmp .ne 7, 3) := by decide +kernel
theorem dX7_signTold_14 : decode cX7_signTold 14 = .ok (.iconst (-1), 1) := by decide +kernel
theorem dX7_signTold_15 : decode cX7_signTold 15 = .ok (.goto 4, 3) := by decide +kernel
theorem dX7_signTold_18 : decode cX7_signTold 18 = .ok (.iconst 0, 1) := by decide +kernel
theorem dX7_signTold_19 : decode cX7_signTold 19 = .ok (.ireturn, 1) := by decide +kernel
theorem dX7_nextToken_0 : decode cX7_nextToken 0 = .ok (.aload_n 0, 1) := by decide +kernel
theorem dX7_nextToken_1 : decode cX7_nextToken 1 = .ok (.aload_n 0, 1) := by decide +kernel
theorem dX7_nextToken_2 : decode cX7_nextToken 2 = .ok (.getfield 22, 3) := by decide +kernel
theorem dX7_nextToken_5 : decode cX7_nextToken 5 = .ok (.putfield 32, 3) := by decide +kernel
theorem dX7_nextToken_8 : decode cX7_nextToken 8 = .ok (.aload_n 0, 1) := by decide +kernel
theorem dX7_nextToken_9 : decode cX7_nextToken 9 = .ok (.getfield 32, 3) := by decide +kernel
theorem dX7_nextToken_12 : decode cX7_nextToken 12 = .ok (.aload_n 0, 1) := by decide +kernel
theorem dX7_nextToken_13 : decode cX7_nextToken 13 = .ok (.getfield 15, 3) := by decide +kernel
theorem dX7_nextToken_16 : decode cX7_nextToken 16 = .ok (.if_icmp .ge 30, 3) := by decide +kernel
theorem dX7_nextToken_19 : decode cX7_nextToken 19 = .ok (.aload_n 0, 1) := by decide +kernel
theorem dX7_nextToken_20 : decode cX7_nextToken 20 = .ok (.getfield 11, 3) := by decide +kernel
theorem dX7_nextToken_23 : decode cX7_nextToken 23 = .ok (.aload_n 0, 1) := by decide +kernel
theorem dX7_nextToken_24 : decode cX7_nextToken 24 = .ok (.getfield 32, 3) := by decide +kernel
theorem dX7_nextToken_27 : decode cX7_nextToken 27 = .ok (.iaload, 1) := by decide +kernel
theorem dX7_nextToken_28 : decode cX7_nextToken 28 = .ok (.bipush 32, 2) := by decide +kernel
theorem dX7_nextToken_30 : decode cX7_nextToken 30 = .ok (.if_icmp .ne 16, 3) := by decide +kernel
theorem dX7_nextToken_33 : decode cX7_nextToken 33 = .ok (.aload_n 0, 1) := by decide +kernel
theorem dX7_nextToken_34 : decode cX7_nextToken 34 = .ok (.dup, 1) := by decide +kernel
theorem dX7_nextToken_35 : decode cX7_nextToken 35 = .ok (.getfield 32, 3) := by decide +kernel
theorem dX7_nextToken_38 : decode cX7_nextToken 38 = .ok (.iconst 1, 1) := by decide +kernel
theorem dX7_nextToken_39 : decode cX7_nextToken 39 = .ok (.iadd, 1) := by decide +kernel
theorem dX7_nextToken_40 : decode cX7_nextToken 40 = .ok (.putfield 32, 3) := by decide +kernel
theorem dX7_nextToken_43 : decode cX7_nextToken 43 = .ok (.goto (-35), 3) := by decide +kernel
theorem dX7_nextToken_46 : decode cX7_nextToken 46 = .ok (.aload_n 0, 1) := by decide +kernel
theorem dX7_nextToken_47 : decode cX7_nextToken 47 = .ok (.aload_n 0, 1) := by decide +kernel
theorem dX7_nextToken_48 : decode cX7_nextToken 48 = .ok (.getfield 32, 3) := by decide +kernel
theorem dX7_nextToken_51 : decode cX7_nextToken 51 = .ok (.putfield 22, 3) := by decide +kernel
theorem dX7_nextToken_54 : decode cX7_nextToken 54 = .ok (.aload_n 0, 1) := by decide +kernel
theorem dX7_nextToken_55 : decode cX7_nextToken 55 = .ok (.getfield 32, 3) := by decide +kernel
theorem dX7_nextToken_58 : decode cX7_nextToken 58 = .ok (.aload_n 0, 1) := by decide +kernel
theorem dX7_nextToken_59 : decode cX7_nextToken 59 = .ok (.getfield 15, 3) := by decide +kernel
theorem dX7_nextToken_62 : decode cX7_nextToken 62 = .ok (.if_icmp .lt 4, 3) := by decide +kernel
theorem dX7_nextToken_65 : decode cX7_nextToken 65 = .ok (.return_, 1) := by decide +kernel
theorem dX7_nextToken_66 : decode cX7_nextToken 66 = .ok (.aload_n 0, 1) := by decide +kernel
theorem dX7_nextToken_67 : decode cX7_nextToken 67 = .ok (.dup, 1) := by decide +kernel
theorem dX7_nextToken_68 : decode cX7_nextToken 68 = .ok (.getfield 22, 3) := by decide +kernel
theorem dX7_nextToken_71 : decode cX7_nextToken 71 = .ok (.iconst 1, 1) := by decide +kernel
theorem dX7_nextToken_72 : decode cX7_nextToken 72 = .ok (.iadd, 1) := by decide +kernel
theorem dX7_nextToken_73 : decode cX7_nextToken 73 = .ok (.putfield 22, 3) := by decide +kernel
theorem dX7_nextToken_76 : decode cX7_nextToken 76 = .ok (.aload_n 0, 1) := by decide +kernel
theorem dX7_nextToken_77 : decode cX7_nextToken 77 = .ok (.getfield 11, 3) := by decide +kernel
theorem dX7_nextToken_80 : decode cX7_nextToken 80 = .ok (.aload_n 0, 1) := by decide +kernel
theorem dX7_nextToken_81 : decode cX7_nextToken 81 = .ok (.getfield 32, 3) := by decide +kernel
theorem dX7_nextToken_84 : decode cX7_nextToken 84 = .ok (.iaload, 1) := by decide +kernel
theorem dX7_nextToken_85 : decode cX7_nextToken 85 = .ok (.invokestatic 123, 3) := by decide +kernel
theorem dX7_nextToken_88 : decode cX7_nextToken 88 = .ok (.ifCond .eq 42, 3) := by decide +kernel
theorem dX7_nextToken_91 : decode cX7_nextToken 91 = .ok (.aload_n 0, 1) := by decide +kernel
theorem dX7_nextToken_92 : decode cX7_nextToken 92 = .ok (.getfield 22, 3) := by decide +kernel
theorem dX7_nextToken_95 : decode cX7_nextToken 95 = .ok (.aload_n 0, 1) := by decide +kernel
theorem dX7_nextToken_96 : decode cX7_nextToken 96 = .ok (.getfield 15, 3) := by decide +kernel
theorem dX7_nextToken_99 : decode cX7_nextToken 99 = .ok (.if_icmp .ge 85, 3) := by decide +kernel
theorem dX7_nextToken_102 : decode cX7_nextToken 102 = .ok (.aload_n 0, 1) := by decide +kernel
theorem dX7_nextToken_103 : decode cX7_nextToken 103 = .ok (.getfield 11, 3) := by decide +kernel
theorem dX7_nextToken_106 : decode cX7_nextToken 106 = .ok (.aload_n 0, 1) := by decide +kernel
theorem dX7_nextToken_107 : decode cX7_nextToken 107 = .ok (.getfield 22, 3) := by decide +kernel
theorem dX7_nextToken_110 : decode cX7_nextToken 110 = .ok (.iaload, 1) := by decide +kernel
theorem dX7_nextToken_111 : decode cX7_nextToken 111 = .ok (.invokestatic 123, 3) := by decide +kernel
theorem dX7_nextToken_114 : decode cX7_nextToken 114 = .ok (.ifCond .eq 70, 3) := by decide +kernel
theorem dX7_nextToken_117 : decode cX7_nextToken 117 = .ok (.aload_n 0, 1) := by decide +kernel
theorem dX7_nextToken_118 : decode cX7_nextToken 118 = .ok (.dup, 1) := by decide +kernel
theorem dX7_nextToken_119 : decode cX7_nextToken 119 = .ok (.getfield 22, 3) := by decide +kernel
theorem dX7_nextToken_122 : decode cX7_nextToken 122 = .ok (.iconst 1, 1) := by decide +kernel
theorem dX7_nextToken_123 : decode cX7_nextToken 123 = .ok (.iadd, 1) := by decide +kernel
theorem dX7_nextToken_124 : decode cX7_nextToken 124 = .ok (.putfield 22, 3) := by decide +kernel
theorem dX7_nextToken_127 : decode cX7_nextToken 127 = .ok (.goto (-36), 3) := by decide +kernel
theorem dX7_nextToken_130 : decode cX7_nextToken 130 = .ok (.aload_n 0, 1) := by decide +kernel
theorem dX7_nextToken_131 : decode cX7_nextToken 131 = .ok (.getfield 11, 3) := by decide +kernel
theorem dX7_nextToken_134 : decode cX7_nextToken 134 = .ok (.aload_n 0, 1) := by decide +kernel
theorem dX7_nextToken_135 : decode cX7_nextToken 135 = .ok (.getfield 32, 3) := by decide +kernel
theorem dX7_nextToken_138 : decode cX7_nextToken 138 = .ok (.iaload, 1) := by decide +kernel
theorem dX7_nextToken_139 : decode cX7_nextToken 139 = .ok (.invokestatic 112, 3) := by decide +kernel
theorem dX7_nextToken_142 : decode cX7_nextToken 142 = .ok (.ifCond .eq 42, 3) := by decide +kernel
theorem dX7_nextToken_145 : decode cX7_nextToken 145 = .ok (.aload_n 0, 1) := by decide +kernel
theorem dX7_nextToken_146 : decode cX7_nextToken 146 = .ok (.getfield 22, 3) := by decide +kernel
theorem dX7_nextToken_149 : decode cX7_nextToken 149 = .ok (.aload_n 0, 1) := by decide +kernel
theorem dX7_nextToken_150 : decode cX7_nextToken 150 = .ok (.getfield 15, 3) := by decide +kernel
theorem dX7_nextToken_153 : decode cX7_nextToken 153 = .ok (.if_icmp .ge 31, 3) := by decide +kernel
theorem dX7_nextToken_156 : decode cX7_nextToken 156 = .ok (.aload_n 0, 1) := by decide +kernel
theorem dX7_nextToken_157 : decode cX7_nextToken 157 = .ok (.getfield 11, 3) := by decide +kernel
theorem dX7_nextToken_160 : decode cX7_nextToken 160 = .ok (.aload_n 0, 1) := by decide +kernel
theorem dX7_nextToken_161 : decode cX7_nextToken 161 = .ok (.getfield 22, 3) := by decide +kernel
theorem dX7_nextToken_164 : decode cX7_nextToken 164 = .ok (.iaload, 1) := by decide +kernel
theorem dX7_nextToken_165 : decode cX7_nextToken 165 = .ok (.invokestatic 112, 3) := by decide +kernel
theorem dX7_nextToken_168 : decode cX7_nextToken 168 = .ok (.ifCond .eq 16, 3) := by decide +kernel
theorem dX7_nextToken_171 : decode cX7_nextToken 171 = .ok (.aload_n 0, 1) := by decide +kernel
theorem dX7_nextToken_172 : decode cX7_nextToken 172 = .ok (.dup, 1) := by decide +kernel
theorem dX7_nextToken_173 : decode cX7_nextToken 173 = .ok (.getfield 22, 3) := by decide +kernel
theorem dX7_nextToken_176 : decode cX7_nextToken 176 = .ok (.iconst 1, 1) := by decide +kernel
theorem dX7_nextToken_177 : decode cX7_nextToken 177 = .ok (.iadd, 1) := by decide +kernel
theorem dX7_nextToken_178 : decode cX7_nextToken 178 = .ok (.putfield 22, 3) := by decide +kernel
theorem dX7_nextToken_181 : decode cX7_nextToken 181 = .ok (.goto (-36), 3) := by decide +kernel
theorem dX7_nextToken_184 : decode cX7_nextToken 184 = .ok (.return_, 1) := by decide +kernel
theorem dX7_isSmall_0 : decode cX7_isSmall 0 = .ok (.iload_n 0, 1) := by decide +kernel
theorem dX7_isSmall_1 : decode cX7_isSmall 1 = .ok (.bipush 97, 2) := by decide +kernel
theorem dX7_isSmall_3 : decode cX7_isSmall 3 = .ok (.if_icmp .lt 13, 3) := by decide +kernel
theorem dX7_isSmall_6 : decode cX7_isSmall 6 = .ok (.iload_n 0, 1) := by decide +kernel
theorem dX7_isSmall_7 : decode cX7_isSmall 7 = .ok (.bipush 122, 2) := by decide +kernel
theorem dX7_isSmall_9 : decode cX7_isSmall 9 = .ok (.if_icmp .gt 7, 3) := by decide +kernel
theorem dX7_isSmall_12 : decode cX7_isSmall 12 = .ok (.iconst 1, 1) := by decide +kernel
theorem dX7_isSmall_13 : decode cX7_isSmall 13 = .ok (.goto 4, 3) := by decide +kernel
theorem dX7_isSmall_16 : decode cX7_isSmall 16 = .ok (.iconst 0, 1) := by decide +kernel
theorem dX7_isSmall_17 : decode cX7_isSmall 17 = .ok (.ireturn, 1) := by decide +kernel
theorem dX7_isDigit_0 : decode cX7_isDigit 0 = .ok (.iload_n 0, 1) := by decide +kernel
theorem dX7_isDigit_1 : decode cX7_isDigit 1 = .ok (.bipush 48, 2) := by decide +kernel
theorem dX7_isDigit_3 : decode cX7_isDigit 3 = .ok (.if_icmp .lt 13, 3) := by decide +kernel
theorem dX7_isDigit_6 : decode cX7_isDigit 6 = .ok (.iload_n 0, 1) := by decide +kernel
theorem dX7_isDigit_7 : decode cX7_isDigit 7 = .ok (.bipush 57, 2) := by decide +kernel
theorem dX7_isDigit_9 : decode cX7_isDigit 9 = .ok (.if_icmp .gt 7, 3) := by decide +kernel
theorem dX7_isDigit_12 : decode cX7_isDigit 12 = .ok (.iconst 1, 1) := by decide +kernel
theorem dX7_isDigit_13 : decode cX7_isDigit 13 = .ok (.goto 4, 3) := by decide +kernel
theorem dX7_isDigit_16 : decode cX7_isDigit 16 = .ok (.iconst 0, 1) := by decide +kernel
theorem dX7_isDigit_17 : decode cX7_isDigit 17 = .ok (.ireturn, 1) := by decide +kernel
theorem dX8_init_0 : decode cX8_init 0 = .ok (.aload_n 0, 1) := by decide +kernel
theorem dX8_init_1 : decode cX8_init 1 = .ok (.invokespecial 3, 3) := by decide +kernel
theorem dX8_init_4 : decode cX8_init 4 = .ok (.aload_n 0, 1) := by decide +kernel
theorem dX8_init_5 : decode cX8_init 5 = .ok (.bipush 64, 2) := by decide +kernel
theorem dX8_init_7 : decode cX8_init 7 = .ok (.newarray .long, 2) := by decide +kernel
theorem dX8_init_9 : decode cX8_init 9 = .ok (.putfield 11, 3) := by decide +kernel
theorem dX8_init_12 : decode cX8_init 12 = .ok (.return_, 1) := by decide +kernel
theorem dX8_build_0 : decode cX8_build 0 = .ok (.aload_n 0, 1) := by decide +kernel
theorem dX8_build_1 : decode cX8_build 1 = .ok (.aload_n 1, 1) := by decide +kernel
theorem dX8_build_2 : decode cX8_build 2 = .ok (.invokevirtual 15, 3) := by decide +kernel
theorem dX8_build_5 : decode cX8_build 5 = .ok (.bipush 64, 2) := by decide +kernel
theorem dX8_build_7 : decode cX8_build 7 = .ok (.invokestatic 21, 3) := by decide +kernel
theorem dX8_build_10 : decode cX8_build 10 = .ok (.putfield 27, 3) := by decide +kernel
theorem dX8_build_13 : decode cX8_build 13 = .ok (.iconst 0, 1) := by decide +kernel
theorem dX8_build_14 : decode cX8_build 14 = .ok (.istore_n 2, 1) := by decide +kernel
theorem dX8_build_15 : decode cX8_build 15 = .ok (.iload_n 2, 1) := by decide +kernel
theorem dX8_build_16 : decode cX8_build 16 = .ok (.aload_n 0, 1) := by decide +kernel
theorem dX8_build_17 : decode cX8_build 17 = .ok (.getfield 27, 3) := by decide +kernel
theorem dX8_build_20 : decode cX8_build 20 = .ok (.if_icmp .ge 59, 3) := by decide +kernel
theorem dX8_build_23 : decode cX8_build 23 = .ok (.aload_n 0, 1) := by decide +kernel
theorem dX8_build_24 : decode cX8_build 24 = .ok (.getfield 11, 3) := by decide +kernel
theorem dX8_build_27 : decode cX8_build 27 = .ok (.iload_n 2, 1) := by decide +kernel
theorem dX8_build_28 : decode cX8_build 28 = .ok (.lconst 0, 1) := by decide +kernel
theorem dX8_build_29 : decode cX8_build 29 = .ok (.lastore, 1) := by decide +kernel
theorem dX8_build_30 : decode cX8_build 30 = .ok (.iconst 0, 1) := by decide +kernel
theorem dX8_build_31 : decode cX8_build 31 = .ok (.istore_n 3, 1) := by decide +kernel
theorem dX8_build_32 : decode cX8_build 32 = .ok (.iload_n 3, 1) := by decide +kernel
theorem dX8_build_33 : decode cX8_build 33 = .ok (.aload_n 0, 1) := by decide +kernel
theorem dX8_build_34 : decode cX8_build 34 = .ok (.getfield 27, 3) := by decide +kernel
theorem dX8_build_37 : decode cX8_build 37 = .ok (.if_icmp .ge 36, 3) := by decide +kernel
theorem dX8_build_40 : decode cX8_build 40 = .ok (.iload_n 2, 1) := by decide +kernel
theorem dX8_build_41 : decode cX8_build 41 = .ok (.iload_n 3, 1) := by decide +kernel
theorem dX8_build_42 : decode cX8_build 42 = .ok (.if_icmp .eq 25, 3) := by decide +kernel
theorem dX8_build_45 : decode cX8_build 45 = .ok (.aload_n 0, 1) := by decide +kernel
theorem dX8_build_46 : decode cX8_build 46 = .ok (.aload_n 1, 1) := by decide +kernel
theorem dX8_build_47 : decode cX8_build 47 = .ok (.iload_n 2, 1) := by decide +kernel
theorem dX8_build_48 : decode cX8_build 48 = .ok (.iload_n 3, 1) := by decide +kernel
theorem dX8_build_49 : decode cX8_build 49 = .ok (.invokevirtual 30, 3) := by decide +kernel
theorem dX8_build_52 : decode cX8_build 52 = .ok (.ifCond .ne 15, 3) := by decide +kernel
theorem dX8_build_55 : decode cX8_build 55 = .ok (.aload_n 0, 1) := by decide +kernel
theorem dX8_build_56 : decode cX8_build 56 = .ok (.getfield 11, 3) := by decide +kernel
theorem dX8_build_59 : decode cX8_build 59 = .ok (.iload_n 2, 1) := by decide +kernel
theorem dX8_build_60 : decode cX8_build 60 = .ok (.dup2, 1) := by decide +kernel
theorem dX8_build_61 : decode cX8_build 61 = .ok (.laload, 1) := by decide +kernel
theorem dX8_build_62 : decode cX8_build 62 = .ok (.lconst 1, 1) := by decide +kernel
theorem dX8_build_63 : decode cX8_build 63 = .ok (.iload_n 3, 1) := by decide +kernel
theorem dX8_build_64 : decode cX8_build 64 = .ok (.lshl, 1) := by decide +kernel
theorem dX8_build_65 : decode cX8_build 65 = .ok (.lor, 1) := by decide +kernel
theorem dX8_build_66 : decode cX8_build 66 = .ok (.lastore, 1) := by decide +kernel
theorem dX8_build_67 : decode cX8_build 67 = .ok (.iinc 3 1, 3) := by decide +kernel
theorem dX8_build_70 : decode cX8_build 70 = .ok (.goto (-38), 3) := by decide +kernel
theorem dX8_build_73 : decode cX8_build 73 = .ok (.iinc 2 1, 3) := by decide +kernel
theorem dX8_build_76 : decode cX8_build 76 = .ok (.goto (-61), 3) := by decide +kernel
theorem dX8_build_79 : decode cX8_build 79 = .ok (.return_, 1) := by decide +kernel
theorem dX8_isSomeBetween_0 : decode cX8_isSomeBetween 0 = .ok (.aload_n 1, 1) := by decide +kernel
theorem dX8_isSomeBetween_1 : decode cX8_isSomeBetween 1 = .ok (.iload_n 2, 1) := by decide +kernel
theorem dX8_isSomeBetween_2 : decode cX8_isSomeBetween 2 = .ok (.invokevirtual 34, 3) := by decide +kernel
theorem dX8_isSomeBetween_5 : decode cX8_isSomeBetween 5 = .ok (.aload_n 1, 1) := by decide +kernel
theorem dX8_isSomeBetween_6 : decode cX8_isSomeBetween 6 = .ok (.iload_n 3, 1) := by decide +kernel
theorem dX8_isSomeBetween_7 : decode cX8_isSomeBetween 7 = .ok (.invokevirtual 34, 3) := by decide +kernel
theorem dX8_isSomeBetween_10 : decode cX8_isSomeBetween 10 = .ok (.invokestatic 38, 3) := by decide +kernel
theorem dX8_isSomeBetween_13 : decode cX8_isSomeBetween 13 = .ok (.istore 4, 2) := by decide +kernel
theorem dX8_isSomeBetween_15 : decode cX8_isSomeBetween 15 = .ok (.iconst 0, 1) := by decide +kernel
theorem dX8_isSomeBetween_16 : decode cX8_isSomeBetween 16 = .ok (.istore 5, 2) := by decide +kernel
theorem dX8_isSomeBetween_18 : decode cX8_isSomeBetween 18 = .ok (.iload 5, 2) := by decide +kernel
theorem dX8_isSomeBetween_20 : decode cX8_isSomeBetween 20 = .ok (.aload_n 0, 1) := by decide +kernel
theorem dX8_isSomeBetween_21 : decode cX8_isSomeBetween 21 = .ok (.getfield 27, 3) := by decide +kernel
theorem dX8_isSomeBetween_24 : decode cX8_isSomeBetween 24 = .ok (.if_icmp .ge 49, 3) := by decide +kernel
theorem dX8_isSomeBetween_27 : decode cX8_isSomeBetween 27 = .ok (.aload_n 1, 1) := by decide +kernel
theorem dX8_isSomeBetween_28 : decode cX8_isSomeBetween 28 = .ok (.iload 5, 2) := by decide +kernel
theorem dX8_isSomeBetween_30 : decode cX8_isSomeBetween 30 = .ok (.invokevirtual 34, 3) := by decide +kernel
theorem dX8_isSomeBetween_33 : decode cX8_isSomeBetween 33 = .ok (.aload_n 1, 1) := by decide +kernel
theorem dX8_isSomeBetween_34 : decode cX8_isSomeBetween 34 = .ok (.iload_n 3, 1) := by decide +kernel
theorem dX8_isSomeBetween_35 : decode cX8_isSomeBetween 35 = .ok (.invokevirtual 34, 3) := by decide +kernel
theorem dX8_isSomeBetween_38 : decode cX8_isSomeBetween 38 = .ok (.invokestatic 38, 3) := by decide +kernel
theorem dX8_isSomeBetween_41 : decode cX8_isSomeBetween 41 = .ok (.istore 6, 2) := by decide +kernel
theorem dX8_isSomeBetween_43 : decode cX8_isSomeBetween 43 = .ok (.iload 5, 2) := by decide +kernel
theorem dX8_isSomeBetween_45 : decode cX8_isSomeBetween 45 = .ok (.iload_n 2, 1) := by decide +kernel
theorem dX8_isSomeBetween_46 : decode cX8_isSomeBetween 46 = .ok (.if_icmp .eq 21, 3) := by decide +kernel
theorem dX8_isSomeBetween_49 : decode cX8_isSomeBetween 49 = .ok (.iload 5, 2) := by decide +kernel
theorem dX8_isSomeBetween_51 : decode cX8_isSomeBetween 51 = .ok (.iload_n 3, 1) := by decide +kernel
theorem dX8_isSomeBetween_52 : decode cX8_isSomeBetween 52 = .ok (.if_icmp .eq 15, 3) := by decide +kernel
theorem dX8_isSomeBetween_55 : decode cX8_isSomeBetween 55 = .ok (.iload 6, 2) := by decide +kernel
theorem dX8_isSomeBetween_57 : decode cX8_isSomeBetween 57 = .ok (.iload 4, 2) := by decide +kernel
theorem dX8_isSomeBetween_59 : decode cX8_isSomeBetween 59 = .ok (.iconst (-1), 1) := by decide +kernel
theorem dX8_isSomeBetween_60 : decode cX8_isSomeBetween 60 = .ok (.ixor, 1) := by decide +kernel
theorem dX8_isSomeBetween_61 : decode cX8_isSomeBetween 61 = .ok (.iand, 1) := by decide +kernel
theorem dX8_isSomeBetween_62 : decode cX8_isSomeBetween 62 = .ok (.ifCond .ne 5, 3) := by decide +kernel
theorem dX8_isSomeBetween_65 : decode cX8_isSomeBetween 65 = .ok (.iconst 1, 1) := by decide +kernel
theorem dX8_isSomeBetween_66 : decode cX8_isSomeBetween 66 = .ok (.ireturn, 1) := by decide +kernel
theorem dX8_isSomeBetween_67 : decode cX8_isSomeBetween 67 = .ok (.iinc 5 1, 3) := by decide +kernel
theorem dX8_isSomeBetween_70 : decode cX8_isSomeBetween 70 = .ok (.goto (-52), 3) := by decide +kernel
theorem dX8_isSomeBetween_73 : decode cX8_isSomeBetween 73 = .ok (.iconst 0, 1) := by decide +kernel
theorem dX8_isSomeBetween_74 : decode cX8_isSomeBetween 74 = .ok (.ireturn, 1) := by decide +kernel
theorem dX8_has_0 : decode cX8_has 0 = .ok (.iload_n 1, 1) := by decide +kernel
theorem dX8_has_1 : decode cX8_has 1 = .ok (.ifCond .lt 15, 3) := by decide +kernel
theorem dX8_has_4 : decode cX8_has 4 = .ok (.iload_n 1, 1) := by decide +kernel
theorem dX8_has_5 : decode cX8_has 5 = .ok (.aload_n 0, 1) := by decide +kernel
theorem dX8_has_6 : decode cX8_has 6 = .ok (.getfield 27, 3) := by decide +kernel
theorem dX8_has_9 : decode cX8_has 9 = .ok (.if_icmp .ge 7, 3) := by decide +kernel
theorem dX8_has_12 : decode cX8_has 12 = .ok (.iconst 1, 1) := by decide +kernel
theorem dX8_has_13 : decode cX8_has 13 = .ok (.goto 4, 3) := by decide +kernel
theorem dX8_has_16 : decode cX8_has 16 = .ok (.iconst 0, 1) := by decide +kernel
theorem dX8_has_17 : decode cX8_has 17 = .ok (.ireturn, 1) := by decide +kernel
theorem dX8_neighbours_0 : decode cX8_neighbours 0 = .ok (.aload_n 0, 1) := by decide +kernel
theorem dX8_neighbours_1 : decode cX8_neighbours 1 = .ok (.iload_n 1, 1) := by decide +kernel
theorem dX8_neighbours_2 : decode cX8_neighbours 2 = .ok (.invokevirtual 43, 3) := by decide +kernel
theorem dX8_neighbours_5 : decode cX8_neighbours 5 = .ok (.ifCond .eq 15, 3) := by decide +kernel
theorem dX8_neighbours_8 : decode cX8_neighbours 8 = .ok (.aload_n 0, 1) := by decide +kernel
theorem dX8_neighbours_9 : decode cX8_neighbours 9 = .ok (.getfield 11, 3) := by decide +kernel
theorem dX8_neighbours_12 : decode cX8_neighbours 12 = .ok (.iload_n 1, 1) := by decide +kernel
theorem dX8_neighbours_13 : decode cX8_neighbours 13 = .ok (.laload, 1) := by decide +kernel
theorem dX8_neighbours_14 : decode cX8_neighbours 14 = .ok (.invokestatic 47, 3) := by decide +kernel
theorem dX8_neighbours_17 : decode cX8_neighbours 17 = .ok (.goto 4, 3) := by decide +kernel
theorem dX8_neighbours_20 : decode cX8_neighbours 20 = .ok (.iconst 0, 1) := by decide +kernel
theorem dX8_neighbours_21 : decode cX8_neighbours 21 = .ok (.ireturn, 1) := by decide +kernel
theorem dX8_isNext_0 : decode cX8_isNext 0 = .ok (.aload_n 0, 1) := by decide +kernel
theorem dX8_isNext_1 : decode cX8_isNext 1 = .ok (.iload_n 1, 1) := by decide +kernel
theorem dX8_isNext_2 : decode cX8_isNext 2 = .ok (.invokevirtual 43, 3) := by decide +kernel
theorem dX8_isNext_5 : decode cX8_isNext 5 = .ok (.ifCond .eq 30, 3) := by decide +kernel
theorem dX8_isNext_8 : decode cX8_isNext 8 = .ok (.aload_n 0, 1) := by decide +kernel
theorem dX8_isNext_9 : decode cX8_isNext 9 = .ok (.iload_n 2, 1) := by decide +kernel
theorem dX8_isNext_10 : decode cX8_isNext 10 = .ok (.invokevirtual 43, 3) := by decide +kernel
theorem dX8_isNext_13 : decode cX8_isNext 13 = .ok (.ifCond .eq 22, 3) := by decide +kernel
theorem dX8_isNext_16 : decode cX8_isNext 16 = .ok (.aload_n 0, 1) := by decide +kernel
theorem dX8_isNext_17 : decode cX8_isNext 17 = .ok (.getfield 11, 3) := by decide +kernel
theorem dX8_isNext_20 : decode cX8_isNext 20 = .ok (.iload_n 1, 1) := by decide +kernel
theorem dX8_isNext_21 : decode cX8_isNext 21 = .ok (.laload, 1) := by decide +kernel
theorem dX8_isNext_22 : decode cX8_isNext 22 = .ok (.iload_n 2, 1) := by decide +kernel
theorem dX8_isNext_23 : decode cX8_isNext 23 = .ok (.lshr, 1) := by decide +kernel
theorem dX8_isNext_24 : decode cX8_isNext 24 = .ok (.lconst 1, 1) := by decide +kernel
theorem dX8_isNext_25 : decode cX8_isNext 25 = .ok (.land, 1) := by decide +kernel
theorem dX8_isNext_26 : decode cX8_isNext 26 = .ok (.lconst 0, 1) := by decide +kernel
theorem dX8_isNext_27 : decode cX8_isNext 27 = .ok (.lcmp, 1) := by decide +kernel
theorem dX8_isNext_28 : decode cX8_isNext 28 = .ok (.ifCond .eq 7, 3) := by decide +kernel
theorem dX8_isNext_31 : decode cX8_isNext 31 = .ok (.iconst 1, 1) := by decide +kernel
theorem dX8_isNext_32 : decode cX8_isNext 32 = .ok (.goto 4, 3) := by decide +kernel
theorem dX8_isNext_35 : decode cX8_isNext 35 = .ok (.iconst 0, 1) := by decide +kernel
theorem dX8_isNext_36 : decode cX8_isNext 36 = .ok (.ireturn, 1) := by decide +kernel
theorem dX8_steps_0 : decode cX8_steps 0 = .ok (.aload_n 0, 1) := by decide +kernel
theorem dX8_steps_1 : decode cX8_steps 1 = .ok (.iload_n 1, 1) := by decide +kernel
theorem dX8_steps_2 : decode cX8_steps 2 = .ok (.invokevirtual 43, 3) := by decide +kernel
theorem dX8_steps_5 : decode cX8_steps 5 = .ok (.ifCond .eq 11, 3) := by decide +kernel
theorem dX8_steps_8 : decode cX8_steps 8 = .ok (.aload_n 0, 1) := by decide +kernel
theorem dX8_steps_9 : decode cX8_steps 9 = .ok (.iload_n 2, 1) := by decide +kernel
theorem dX8_steps_10 : decode cX8_steps 10 = .ok (.invokevirtual 43, 3) := by decide +kernel
theorem dX8_steps_13 : decode cX8_steps 13 = .ok (.ifCond .ne 5, 3) := by decide +kernel
theorem dX8_steps_16 : decode cX8_steps 16 = .ok (.iconst (-1), 1) := by decide +kernel
theorem dX8_steps_17 : decode cX8_steps 17 = .ok (.ireturn, 1) := by decide +kernel
theorem dX8_steps_18 : decode cX8_steps 18 = .ok (.lconst 1, 1) := by decide +kernel
theorem dX8_steps_19 : decode cX8_steps 19 = .ok (.iload_n 1, 1) := by decide +kernel
theorem dX8_steps_20 : decode cX8_steps 20 = .ok (.lshl, 1) := by decide +kernel
theorem dX8_steps_21 : decode cX8_steps 21 = .ok (.lstore_n 3, 1) := by decide +kernel
theorem dX8_steps_22 : decode cX8_steps 22 = .ok (.iconst 0, 1) := by decide +kernel
theorem dX8_steps_23 : decode cX8_steps 23 = .ok (.istore 5, 2) := by decide +kernel
theorem dX8_steps_25 : decode cX8_steps 25 = .ok (.iload 5, 2) := by decide +kernel
theorem dX8_steps_27 : decode cX8_steps 27 = .ok (.bipush 64, 2) := by decide +kernel
theorem dX8_steps_29 : decode cX8_steps 29 = .ok (.if_icmp .ge 30, 3) := by decide +kernel
theorem dX8_steps_32 : decode cX8_steps 32 = .ok (.lload_n 3, 1) := by decide +kernel
theorem dX8_steps_33 : decode cX8_steps 33 = .ok (.iload_n 2, 1) := by decide +kernel
theorem dX8_steps_34 : decode cX8_steps 34 = .ok (.lshr, 1) := by decide +kernel
theorem dX8_steps_35 : decode cX8_steps 35 = .ok (.lconst 1, 1) := by decide +kernel
theorem dX8_steps_36 : decode cX8_steps 36 = .ok (.land, 1) := by decide +kernel
theorem dX8_steps_37 : decode cX8_steps 37 = .ok (.lconst 0, 1) := by decide +kernel
theorem dX8_steps_38 : decode cX8_steps 38 = .ok (.lcmp, 1) := by decide +kernel
theorem dX8_steps_39 : decode cX8_steps 39 = .ok (.ifCond .eq 6, 3) := by decide +kernel
theorem dX8_steps_42 : decode cX8_steps 42 = .ok (.iload 5, 2) := by decide +kernel
theorem dX8_steps_44 : decode cX8_steps 44 = .ok (.ireturn, 1) := by decide +kernel
theorem dX8_steps_45 : decode cX8_steps 45 = .ok (.lload_n 3, 1) := by decide +kernel
theorem dX8_steps_46 : decode cX8_steps 46 = .ok (.aload_n 0, 1) := by decide +kernel
theorem dX8_steps_47 : decode cX8_steps 47 = .ok (.lload_n 3, 1) := by decide +kernel
theorem dX8_steps_48 : decode cX8_steps 48 = .ok (.invokevirtual 53, 3) := by decide +kernel
theorem dX8_steps_51 : decode cX8_steps 51 = .ok (.lor, 1) := by decide +kernel
theorem dX8_steps_52 : decode cX8_steps 52 = .ok (.lstore_n 3, 1) := by decide +kernel
theorem dX8_steps_53 : decode cX8_steps 53 = .ok (.iinc 5 1, 3) := by decide +kernel
theorem dX8_steps_56 : decode cX8_steps 56 = .ok (.goto (-31), 3) := by decide +kernel
theorem dX8_steps_59 : decode cX8_steps 59 = .ok (.iconst (-1), 1) := by decide +kernel
theorem dX8_steps_60 : decode cX8_steps 60 = .ok (.ireturn, 1) := by decide +kernel
theorem dX8_nextToAny_0 : decode cX8_nextToAny 0 = .ok (.lconst 0, 1) := by decide +kernel
theorem dX8_nextToAny_1 : decode cX8_nextToAny 1 = .ok (.lstore_n 3, 1) := by decide +kernel
theorem dX8_nextToAny_2 : decode cX8_nextToAny 2 = .ok (.iconst 0, 1) := by decide +kernel
theorem dX8_nextToAny_3 : decode cX8_nextToAny 3 = .ok (.istore 5, 2) := by decide +kernel
theorem dX8_nextToAny_5 : decode cX8_nextToAny 5 = .ok (.iload 5, 2) := by decide +kernel
theorem dX8_nextToAny_7 : decode cX8_nextToAny 7 = .ok (.aload_n 0, 1) := by decide +kernel
theorem dX8_nextToAny_8 : decode cX8_nextToAny 8 = .ok (.getfield 27, 3) := by decide +kernel
theorem dX8_nextToAny_11 : decode cX8_nextToAny 11 = .ok (.if_icmp .ge 30, 3) := by decide +kernel
theorem dX8_nextToAny_14 : decode cX8_nextToAny 14 = .ok (.lload_n 1, 1) := by decide +kernel
theorem dX8_nextToAny_15 : decode cX8_nextToAny 15 = .ok (.iload 5, 2) := by decide +kernel
theorem dX8_nextToAny_17 : decode cX8_nextToAny 17 = .ok (.lshr, 1) := by decide +kernel
theorem dX8_nextToAny_18 : decode cX8_nextToAny 18 = .ok (.lconst 1, 1) := by decide +kernel
theorem dX8_nextToAny_19 : decode cX8_nextToAny 19 = .ok (.land, 1) := by decide +kernel
theorem dX8_nextToAny_20 : decode cX8_nextToAny 20 = .ok (.lconst 0, 1) := by decide +kernel
theorem dX8_nextToAny_21 : decode cX8_nextToAny 21 = .ok (.lcmp, 1) := by decide +kernel
theorem dX8_nextToAny_22 : decode cX8_nextToAny 22 = .ok (.ifCond .eq 13, 3) := by decide +kernel
theorem dX8_nextToAny_25 : decode cX8_nextToAny 25 = .ok (.lload_n 3, 1) := by decide +kernel
theorem dX8_nextToAny_26 : decode cX8_nextToAny 26 = .ok (.aload_n 0, 1) := by decide +kernel
theorem dX8_nextToAny_27 : decode cX8_nextToAny 27 = .ok (.getfield 11, 3) := by decide +kernel
theorem dX8_nextToAny_30 : decode cX8_nextToAny 30 = .ok (.iload 5, 2) := by decide +kernel
theorem dX8_nextToAny_32 : decode cX8_nextToAny 32 = .ok (.laload, 1) := by decide +kernel
theorem dX8_nextToAny_33 : decode cX8_nextToAny 33 = .ok (.lor, 1) := by decide +kernel
theorem dX8_nextToAny_34 : decode cX8_nextToAny 34 = .ok (.lstore_n 3, 1) := by decide +kernel
theorem dX8_nextToAny_35 : decode cX8_nextToAny 35 = .ok (.iinc 5 1, 3) := by decide +kernel
theorem dX8_nextToAny_38 : decode cX8_nextToAny 38 = .ok (.goto (-33), 3) := by decide +kernel
theorem dX8_nextToAny_41 : decode cX8_nextToAny 41 = .ok (.lload_n 3, 1) := by decide +kernel
theorem dX8_nextToAny_42 : decode cX8_nextToAny 42 = .ok (.lreturn, 1) := by decide +kernel
theorem dX9_init_0 : decode cX9_init 0 = .ok (.aload_n 0, 1) := by decide +kernel
theorem dX9_init_1 : decode cX9_init 1 = .ok (.invokespecial 3, 3) := by decide +kernel
theorem dX9_init_4 : decode cX9_init 4 = .ok (.aload_n 0, 1) := by decide +kernel
theorem dX9_init_5 : decode cX9_init 5 = .ok (.sipush 729, 3) := by decide +kernel
theorem dX9_init_8 : decode cX9_init 8 = .ok (.newarray .int, 2) := by decide +kernel
theorem dX9_init_10 : decode cX9_init 10 = .ok (.putfield 11, 3) := by decide +kernel
theorem dX9_init_13 : decode cX9_init 13 = .ok (.aload_n 0, 1) := by decide +kernel
theorem dX9_init_14 : decode cX9_init 14 = .ok (.sipush 128, 3) := by decide +kernel
theorem dX9_init_17 : decode cX9_init 17 = .ok (.newarray .int, 2) := by decide +kernel
theorem dX9_init_19 : decode cX9_init 19 = .ok (.putfield 15, 3) := by decide +kernel
theorem dX9_init_22 : decode cX9_init 22 = .ok (.return_, 1) := by decide +kernel
theorem dX9_length_0 : decode cX9_length 0 = .ok (.aload_n 0, 1) := by decide +kernel
theorem dX9_length_1 : decode cX9_length 1 = .ok (.getfield 18, 3) := by decide +kernel
theorem dX9_length_4 : decode cX9_length 4 = .ok (.ireturn, 1) := by decide +kernel
theorem dX9_has_0 : decode cX9_has 0 = .ok (.iload_n 1, 1) := by decide +kernel
theorem dX9_has_1 : decode cX9_has 1 = .ok (.ifCond .lt 15, 3) := by decide +kernel
theorem dX9_has_4 : decode cX9_has 4 = .ok (.iload_n 1, 1) := by decide +kernel
theorem dX9_has_5 : decode cX9_has 5 = .ok (.aload_n 0, 1) := by decide +kernel
theorem dX9_has_6 : decode cX9_has 6 = .ok (.getfield 18, 3) := by decide +kernel
theorem dX9_has_9 : decode cX9_has 9 = .ok (.if_icmp .ge 7, 3) := by decide +kernel
theorem dX9_has_12 : decode cX9_has 12 = .ok (.iconst 1, 1) := by decide +kernel
theorem dX9_has_13 : decode cX9_has 13 = .ok (.goto 4, 3) := by decide +kernel
theorem dX9_has_16 : decode cX9_has 16 = .ok (.iconst 0, 1) := by decide +kernel
theorem dX9_has_17 : decode cX9_has 17 = .ok (.ireturn, 1) := by decide +kernel
theorem dX9_at_0 : decode cX9_at 0 = .ok (.aload_n 0, 1) := by decide +kernel
theorem dX9_at_1 : decode cX9_at 1 = .ok (.getfield 11, 3) := by decide +kernel
theorem dX9_at_4 : decode cX9_at 4 = .ok (.iload_n 1, 1) := by decide +kernel
theorem dX9_at_5 : decode cX9_at 5 = .ok (.iaload, 1) := by decide +kernel
theorem dX9_at_6 : decode cX9_at 6 = .ok (.ireturn, 1) := by decide +kernel
theorem dX9_clear_0 : decode cX9_clear 0 = .ok (.aload_n 0, 1) := by decide +kernel
theorem dX9_clear_1 : decode cX9_clear 1 = .ok (.iconst 0, 1) := by decide +kernel
theorem dX9_clear_2 : decode cX9_clear 2 = .ok (.putfield 18, 3) := by decide +kernel
theorem dX9_clear_5 : decode cX9_clear 5 = .ok (.aload_n 0, 1) := by decide +kernel
theorem dX9_clear_6 : decode cX9_clear 6 = .ok (.getfield 15, 3) := by decide +kernel
theorem dX9_clear_9 : decode cX9_clear 9 = .ok (.iconst 0, 1) := by decide +kernel
theorem dX9_clear_10 : decode cX9_clear 10 = .ok (.invokestatic 22, 3) := by decide +kernel
theorem dX9_clear_13 : decode cX9_clear 13 = .ok (.return_, 1) := by decide +kernel
theorem dX9_insert_0 : decode cX9_insert 0 = .ok (.iconst 1, 1) := by decide +kernel
theorem dX9_insert_1 : decode cX9_insert 1 = .ok (.iload_n 1, 1) := by decide +kernel
theorem dX9_insert_2 : decode cX9_insert 2 = .ok (.bipush 32, 2) := by decide +kernel
theorem dX9_insert_4 : decode cX9_insert 4 = .ok (.irem, 1) := by decide +kernel
theorem dX9_insert_5 : decode cX9_insert 5 = .ok (.ishl, 1) := by decide +kernel
theorem dX9_insert_6 : decode cX9_insert 6 = .ok (.istore_n 2, 1) := by decide +kernel
theorem dX9_insert_7 : decode cX9_insert 7 = .ok (.aload_n 0, 1) := by decide +kernel
theorem dX9_insert_8 : decode cX9_insert 8 = .ok (.getfield 15, 3) := by decide +kernel
theorem dX9_insert_11 : decode cX9_insert 11 = .ok (.iload_n 1, 1) := by decide +kernel
theorem dX9_insert_12 : decode cX9_insert 12 = .ok (.bipush 32, 2) := by decide +kernel
theorem dX9_insert_14 : decode cX9_insert 14 = .ok (.idiv, 1) := by decide +kernel
theorem dX9_insert_15 : decode cX9_insert 15 = .ok (.iaload, 1) := by decide +kernel
theorem dX9_insert_16 : decode cX9_insert 16 = .ok (.iload_n 2, 1) := by decide +kernel
theorem dX9_insert_17 : decode cX9_insert 17 = .ok (.iand, 1) := by decide +kernel
theorem dX9_insert_18 : decode cX9_insert 18 = .ok (.ifCond .ne 46, 3) := by decide +kernel
theorem dX9_insert_21 : decode cX9_insert 21 = .ok (.aload_n 0, 1) := by decide +kernel
theorem dX9_insert_22 : decode cX9_insert 22 = .ok (.getfield 18, 3) := by decide +kernel
theorem dX9_insert_25 : decode cX9_insert 25 = .ok (.sipush 729, 3) := by decide +kernel
theorem dX9_insert_28 : decode cX9_insert 28 = .ok (.if_icmp .ge 36, 3) := by decide +kernel
theorem dX9_insert_31 : decode cX9_insert 31 = .ok (.aload_n 0, 1) := by decide +kernel
theorem dX9_insert_32 : decode cX9_insert 32 = .ok (.getfield 15, 3) := by decide +kernel
theorem dX9_insert_35 : decode cX9_insert 35 = .ok (.iload_n 1, 1) := by decide +kernel
theorem dX9_insert_36 : decode cX9_insert 36 = .ok (.bipush 32, 2) := by decide +kernel
theorem dX9_insert_38 : decode cX9_insert 38 = .ok (.idiv, 1) := by decide +kernel
theorem dX9_insert_39 : decode cX9_insert 39 = .ok (.dup2, 1) := by decide +kernel
theorem dX9_insert_40 : decode cX9_insert 40 = .ok (.iaload, 1) := by decide +kernel
theorem dX9_insert_41 : decode cX9_insert 41 = .ok (.iload_n 2, 1) := by decide +kernel
theorem dX9_insert_42 : decode cX9_insert 42 = .ok (.ior, 1) := by decide +kernel
theorem dX9_insert_43 : decode cX9_insert 43 = .ok (.iastore, 1) := by decide +kernel
theorem dX9_insert_44 : decode cX9_insert 44 = .ok (.aload_n 0, 1) := by decide +kernel
theorem dX9_insert_45 : decode cX9_insert 45 = .ok (.getfield 11, 3) := by decide +kernel
theorem dX9_insert_48 : decode cX9_insert 48 = .ok (.aload_n 0, 1) := by decide +kernel
theorem dX9_insert_49 : decode cX9_insert 49 = .ok (.getfield 18, 3) := by decide +kernel
theorem dX9_insert_52 : decode cX9_insert 52 = .ok (.iload_n 1, 1) := by decide +kernel
theorem dX9_insert_53 : decode cX9_insert 53 = .ok (.iastore, 1) := by decide +kernel
theorem dX9_insert_54 : decode cX9_insert 54 = .ok (.aload_n 0, 1) := by decide +kernel
theorem dX9_insert_55 : decode cX9_insert 55 = .ok (.dup, 1) := by decide +kernel
theorem dX9_insert_56 : decode cX9_insert 56 = .ok (.getfield 18, 3) := by decide +kernel
theorem dX9_insert_59 : decode cX9_insert 59 = .ok (.iconst 1, 1) := by decide +kernel
theorem dX9_insert_60 : decode cX9_insert 60 = .ok (.iadd, 1) := by decide +kernel
theorem dX9_insert_61 : decode cX9_insert 61 = .ok (.putfield 18, 3) := by decide +kernel
theorem dX9_insert_64 : decode cX9_insert 64 = .ok (.return_, 1) := by decide +kernel
theorem dX9_sort_0 : decode cX9_sort 0 = .ok (.iconst 0, 1) := by decide +kernel
theorem dX9_sort_1 : decode cX9_sort 1 = .ok (.istore_n 1, 1) := by decide +kernel
theorem dX9_sort_2 : decode cX9_sort 2 = .ok (.bipush 127, 2) := by decide +kernel
theorem dX9_sort_4 : decode cX9_sort 4 = .ok (.istore_n 2, 1) := by decide +kernel
theorem dX9_sort_5 : decode cX9_sort 5 = .ok (.iload_n 2, 1) := by decide +kernel
theorem dX9_sort_6 : decode cX9_sort 6 = .ok (.ifCond .lt 67, 3) := by decide +kernel
theorem dX9_sort_9 : decode cX9_sort 9 = .ok (.bipush 31, 2) := by decide +kernel
theorem dX9_sort_11 : decode cX9_sort 11 = .ok (.istore_n 3, 1) := by decide +kernel
theorem dX9_sort_12 : decode cX9_sort 12 = .ok (.iload_n 3, 1) := by decide +kernel
theorem dX9_sort_13 : decode cX9_sort 13 = .ok (.ifCond .lt 54, 3) := by decide +kernel
theorem dX9_sort_16 : decode cX9_sort 16 = .ok (.aload_n 0, 1) := by decide +kernel
theorem dX9_sort_17 : decode cX9_sort 17 = .ok (.getfield 15, 3) := by decide +kernel
theorem dX9_sort_20 : decode cX9_sort 20 = .ok (.iload_n 2, 1) := by decide +kernel
theorem dX9_sort_21 : decode cX9_sort 21 = .ok (.iaload, 1) := by decide +kernel
theorem dX9_sort_22 : decode cX9_sort 22 = .ok (.ifCond .eq 45, 3) := by decide +kernel
theorem dX9_sort_25 : decode cX9_sort 25 = .ok (.aload_n 0, 1) := by decide +kernel
theorem dX9_sort_26 : decode cX9_sort 26 = .ok (.getfield 15, 3) := by decide +kernel
theorem dX9_sort_29 : decode cX9_sort 29 = .ok (.iload_n 2, 1) := by decide +kernel
theorem dX9_sort_30 : decode cX9_sort 30 = .ok (.iaload, 1) := by decide +kernel
theorem dX9_sort_31 : decode cX9_sort 31 = .ok (.iconst 1, 1) := by decide +kernel
theorem dX9_sort_32 : decode cX9_sort 32 = .ok (.iload_n 3, 1) := by decide +kernel
theorem dX9_sort_33 : decode cX9_sort 33 = .ok (.ishl, 1) := by decide +kernel
theorem dX9_sort_34 : decode cX9_sort 34 = .ok (.iand, 1) := by decide +kernel
theorem dX9_sort_35 : decode cX9_sort 35 = .ok (.ifCond .eq 26, 3) := by decide +kernel
theorem dX9_sort_38 : decode cX9_sort 38 = .ok (.iload_n 1, 1) := by decide +kernel
theorem dX9_sort_39 : decode cX9_sort 39 = .ok (.aload_n 0, 1) := by decide +kernel
theorem dX9_sort_40 : decode cX9_sort 40 = .ok (.getfield 18, 3) := by decide +kernel
theorem dX9_sort_43 : decode cX9_sort 43 = .ok (.if_icmp .ge 18, 3) := by decide +kernel
theorem dX9_sort_46 : decode cX9_sort 46 = .ok (.aload_n 0, 1) := by decide +kernel
theorem dX9_sort_47 : decode cX9_sort 47 = .ok (.getfield 11, 3) := by decide +kernel
theorem dX9_sort_50 : decode cX9_sort 50 = .ok (.iload_n 1, 1) := by decide +kernel
theorem dX9_sort_51 : decode cX9_sort 51 = .ok (.iload_n 2, 1) := by decide +kernel
theorem dX9_sort_52 : decode cX9_sort 52 = .ok (.bipush 32, 2) := by decide +kernel
theorem dX9_sort_54 : decode cX9_sort 54 = .ok (.imul, 1) := by decide +kernel
theorem dX9_sort_55 : decode cX9_sort 55 = .ok (.iload_n 3, 1) := by decide +kernel
theorem dX9_sort_56 : decode cX9_sort 56 = .ok (.iadd, 1) := by decide +kernel
theorem dX9_sort_57 : decode cX9_sort 57 = .ok (.iastore, 1) := by decide +kernel
theorem dX9_sort_58 : decode cX9_sort 58 = .ok (.iinc 1 1, 3) := by decide +kernel
theorem dX9_sort_61 : decode cX9_sort 61 = .ok (.iinc 3 (-1), 3) := by decide +kernel
theorem dX9_sort_64 : decode cX9_sort 64 = .ok (.goto (-52), 3) := by decide +kernel
theorem dX9_sort_67 : decode cX9_sort 67 = .ok (.iinc 2 (-1), 3) := by decide +kernel
theorem dX9_sort_70 : decode cX9_sort 70 = .ok (.goto (-65), 3) := by decide +kernel
theorem dX9_sort_73 : decode cX9_sort 73 = .ok (.return_, 1) := by decide +kernel
theorem dX9_indexOf_0 : decode cX9_indexOf 0 = .ok (.iconst 0, 1) := by decide +kernel
