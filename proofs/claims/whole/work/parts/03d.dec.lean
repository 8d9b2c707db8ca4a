theorem dX11_away_16 : decode cX11_away 16 = .ok (.aaload, 1) := by decide +kernel
theorem dX11_away_17 : decode cX11_away 17 = .ok (.invokevirtual 227, 3) := by decide +kernel
theorem dX11_away_20 : decode cX11_away 20 = .ok (.ifCond .eq 7, 3) := by decide +kernel
theorem dX11_away_23 : decode cX11_away 23 = .ok (.sipush (-1011), 3) := by decide +kernel
theorem dX11_away_26 : decode cX11_away 26 = .ok (.ireturn, 1) := by decide +kernel
theorem dX11_away_27 : decode cX11_away 27 = .ok (.aload_n 0, 1) := by decide +kernel
theorem dX11_away_28 : decode cX11_away 28 = .ok (.getfield 52, 3) := by decide +kernel
theorem dX11_away_31 : decode cX11_away 31 = .ok (.iload_n 1, 1) := by decide +kernel
theorem dX11_away_32 : decode cX11_away 32 = .ok (.aaload, 1) := by decide +kernel
theorem dX11_away_33 : decode cX11_away 33 = .ok (.invokevirtual 260, 3) := by decide +kernel
theorem dX11_away_36 : decode cX11_away 36 = .ok (.istore_n 2, 1) := by decide +kernel
theorem dX11_away_37 : decode cX11_away 37 = .ok (.aload_n 0, 1) := by decide +kernel
theorem dX11_away_38 : decode cX11_away 38 = .ok (.getfield 52, 3) := by decide +kernel
theorem dX11_away_41 : decode cX11_away 41 = .ok (.iload_n 1, 1) := by decide +kernel
theorem dX11_away_42 : decode cX11_away 42 = .ok (.aaload, 1) := by decide +kernel
theorem dX11_away_43 : decode cX11_away 43 = .ok (.invokevirtual 263, 3) := by decide +kernel
theorem dX11_away_46 : decode cX11_away 46 = .ok (.iload_n 2, 1) := by decide +kernel
theorem dX11_away_47 : decode cX11_away 47 = .ok (.ireturn, 1) := by decide +kernel
theorem dX11_count_0 : decode cX11_count 0 = .ok (.iload_n 1, 1) := by decide +kernel
theorem dX11_count_1 : decode cX11_count 1 = .ok (.tableswitch 128 0 8 #[51, 59, 67, 75, 91, 99, 107, 115, 123], 51) := by decide +kernel
theorem dX11_count_52 : decode cX11_count 52 = .ok (.aload_n 0, 1) := by decide +kernel
theorem dX11_count_53 : decode cX11_count 53 = .ok (.getfield 10, 3) := by decide +kernel
theorem dX11_count_56 : decode cX11_count 56 = .ok (.invokevirtual 125, 3) := by decide +kernel
theorem dX11_count_59 : decode cX11_count 59 = .ok (.ireturn, 1) := by decide +kernel
theorem dX11_count_60 : decode cX11_count 60 = .ok (.aload_n 0, 1) := by decide +kernel
theorem dX11_count_61 : decode cX11_count 61 = .ok (.getfield 10, 3) := by decide +kernel
theorem dX11_count_64 : decode cX11_count 64 = .ok (.invokevirtual 163, 3) := by decide +kernel
theorem dX11_count_67 : decode cX11_count 67 = .ok (.ireturn, 1) := by decide +kernel
theorem dX11_count_68 : decode cX11_count 68 = .ok (.aload_n 0, 1) := by decide +kernel
theorem dX11_count_69 : decode cX11_count 69 = .ok (.getfield 10, 3) := by decide +kernel
theorem dX11_count_72 : decode cX11_count 72 = .ok (.invokevirtual 160, 3) := by decide +kernel
theorem dX11_count_75 : decode cX11_count 75 = .ok (.ireturn, 1) := by decide +kernel
theorem dX11_count_76 : decode cX11_count 76 = .ok (.aload_n 0, 1) := by decide +kernel
theorem dX11_count_77 : decode cX11_count 77 = .ok (.getfield 10, 3) := by decide +kernel
theorem dX11_count_80 : decode cX11_count 80 = .ok (.iconst 0, 1) := by decide +kernel
theorem dX11_count_81 : decode cX11_count 81 = .ok (.aload_n 0, 1) := by decide +kernel
theorem dX11_count_82 : decode cX11_count 82 = .ok (.getfield 10, 3) := by decide +kernel
theorem dX11_count_85 : decode cX11_count 85 = .ok (.invokevirtual 125, 3) := by decide +kernel
theorem dX11_count_88 : decode cX11_count 88 = .ok (.invokestatic 266, 3) := by decide +kernel
theorem dX11_count_91 : decode cX11_count 91 = .ok (.ireturn, 1) := by decide +kernel
theorem dX11_count_92 : decode cX11_count 92 = .ok (.aload_n 0, 1) := by decide +kernel
theorem dX11_count_93 : decode cX11_count 93 = .ok (.getfield 46, 3) := by decide +kernel
theorem dX11_count_96 : decode cX11_count 96 = .ok (.invokevirtual 270, 3) := by decide +kernel
theorem dX11_count_99 : decode cX11_count 99 = .ok (.ireturn, 1) := by decide +kernel
theorem dX11_count_100 : decode cX11_count 100 = .ok (.aload_n 0, 1) := by decide +kernel
theorem dX11_count_101 : decode cX11_count 101 = .ok (.getfield 46, 3) := by decide +kernel
theorem dX11_count_104 : decode cX11_count 104 = .ok (.invokevirtual 273, 3) := by decide +kernel
theorem dX11_count_107 : decode cX11_count 107 = .ok (.ireturn, 1) := by decide +kernel
theorem dX11_count_108 : decode cX11_count 108 = .ok (.aload_n 0, 1) := by decide +kernel
theorem dX11_count_109 : decode cX11_count 109 = .ok (.getfield 22, 3) := by decide +kernel
theorem dX11_count_112 : decode cX11_count 112 = .ok (.invokevirtual 137, 3) := by decide +kernel
theorem dX11_count_115 : decode cX11_count 115 = .ok (.ireturn, 1) := by decide +kernel
theorem dX11_count_116 : decode cX11_count 116 = .ok (.aload_n 0, 1) := by decide +kernel
theorem dX11_count_117 : decode cX11_count 117 = .ok (.getfield 37, 3) := by decide +kernel
theorem dX11_count_120 : decode cX11_count 120 = .ok (.invokevirtual 65, 3) := by decide +kernel
theorem dX11_count_123 : decode cX11_count 123 = .ok (.ireturn, 1) := by decide +kernel
theorem dX11_count_124 : decode cX11_count 124 = .ok (.aload_n 0, 1) := by decide +kernel
theorem dX11_count_125 : decode cX11_count 125 = .ok (.invokevirtual 276, 3) := by decide +kernel
theorem dX11_count_128 : decode cX11_count 128 = .ok (.ireturn, 1) := by decide +kernel
theorem dX11_count_129 : decode cX11_count 129 = .ok (.sipush (-1002), 3) := by decide +kernel
theorem dX11_count_132 : decode cX11_count 132 = .ok (.ireturn, 1) := by decide +kernel
theorem dX11_beginDeed_0 : decode cX11_beginDeed 0 = .ok (.aload_n 0, 1) := by decide +kernel
theorem dX11_beginDeed_1 : decode cX11_beginDeed 1 = .ok (.getfield 22, 3) := by decide +kernel
theorem dX11_beginDeed_4 : decode cX11_beginDeed 4 = .ok (.aload_n 0, 1) := by decide +kernel
theorem dX11_beginDeed_5 : decode cX11_beginDeed 5 = .ok (.getfield 10, 3) := by decide +kernel
theorem dX11_beginDeed_8 : decode cX11_beginDeed 8 = .ok (.invokevirtual 279, 3) := by decide +kernel
theorem dX11_beginDeed_11 : decode cX11_beginDeed 11 = .ok (.aload_n 0, 1) := by decide +kernel
theorem dX11_beginDeed_12 : decode cX11_beginDeed 12 = .ok (.getfield 46, 3) := by decide +kernel
theorem dX11_beginDeed_15 : decode cX11_beginDeed 15 = .ok (.invokevirtual 80, 3) := by decide +kernel
theorem dX11_beginDeed_18 : decode cX11_beginDeed 18 = .ok (.return_, 1) := by decide +kernel
theorem dX11_refusalAt_0 : decode cX11_refusalAt 0 = .ok (.iload_n 1, 1) := by decide +kernel
theorem dX11_refusalAt_1 : decode cX11_refusalAt 1 = .ok (.invokestatic 220, 3) := by decide +kernel
theorem dX11_refusalAt_4 : decode cX11_refusalAt 4 = .ok (.ifCond .ne 7, 3) := by decide +kernel
theorem dX11_refusalAt_7 : decode cX11_refusalAt 7 = .ok (.sipush (-1001), 3) := by decide +kernel
theorem dX11_refusalAt_10 : decode cX11_refusalAt 10 = .ok (.ireturn, 1) := by decide +kernel
theorem dX11_refusalAt_11 : decode cX11_refusalAt 11 = .ok (.aload_n 0, 1) := by decide +kernel
theorem dX11_refusalAt_12 : decode cX11_refusalAt 12 = .ok (.getfield 52, 3) := by decide +kernel
theorem dX11_refusalAt_15 : decode cX11_refusalAt 15 = .ok (.iload_n 1, 1) := by decide +kernel
theorem dX11_refusalAt_16 : decode cX11_refusalAt 16 = .ok (.aaload, 1) := by decide +kernel
theorem dX11_refusalAt_17 : decode cX11_refusalAt 17 = .ok (.invokevirtual 227, 3) := by decide +kernel
theorem dX11_refusalAt_20 : decode cX11_refusalAt 20 = .ok (.ifCond .eq 7, 3) := by decide +kernel
theorem dX11_refusalAt_23 : decode cX11_refusalAt 23 = .ok (.sipush (-1011), 3) := by decide +kernel
theorem dX11_refusalAt_26 : decode cX11_refusalAt 26 = .ok (.ireturn, 1) := by decide +kernel
theorem dX11_refusalAt_27 : decode cX11_refusalAt 27 = .ok (.aload_n 0, 1) := by decide +kernel
theorem dX11_refusalAt_28 : decode cX11_refusalAt 28 = .ok (.getfield 52, 3) := by decide +kernel
theorem dX11_refusalAt_31 : decode cX11_refusalAt 31 = .ok (.iload_n 1, 1) := by decide +kernel
theorem dX11_refusalAt_32 : decode cX11_refusalAt 32 = .ok (.aaload, 1) := by decide +kernel
theorem dX11_refusalAt_33 : decode cX11_refusalAt 33 = .ok (.iload_n 2, 1) := by decide +kernel
theorem dX11_refusalAt_34 : decode cX11_refusalAt 34 = .ok (.invokevirtual 230, 3) := by decide +kernel
theorem dX11_refusalAt_37 : decode cX11_refusalAt 37 = .ok (.ifCond .ne 7, 3) := by decide +kernel
theorem dX11_refusalAt_40 : decode cX11_refusalAt 40 = .ok (.sipush (-1013), 3) := by decide +kernel
theorem dX11_refusalAt_43 : decode cX11_refusalAt 43 = .ok (.ireturn, 1) := by decide +kernel
theorem dX11_refusalAt_44 : decode cX11_refusalAt 44 = .ok (.aload_n 0, 1) := by decide +kernel
theorem dX11_refusalAt_45 : decode cX11_refusalAt 45 = .ok (.getfield 52, 3) := by decide +kernel
theorem dX11_refusalAt_48 : decode cX11_refusalAt 48 = .ok (.iload_n 1, 1) := by decide +kernel
theorem dX11_refusalAt_49 : decode cX11_refusalAt 49 = .ok (.aaload, 1) := by decide +kernel
theorem dX11_refusalAt_50 : decode cX11_refusalAt 50 = .ok (.iload_n 2, 1) := by decide +kernel
theorem dX11_refusalAt_51 : decode cX11_refusalAt 51 = .ok (.invokevirtual 242, 3) := by decide +kernel
theorem dX11_refusalAt_54 : decode cX11_refusalAt 54 = .ok (.ifCond .eq 9, 3) := by decide +kernel
theorem dX11_refusalAt_57 : decode cX11_refusalAt 57 = .ok (.sipush (-1015), 3) := by decide +kernel
theorem dX11_refusalAt_60 : decode cX11_refusalAt 60 = .ok (.goto 4, 3) := by decide +kernel
theorem dX11_refusalAt_63 : decode cX11_refusalAt 63 = .ok (.iconst 0, 1) := by decide +kernel
theorem dX11_refusalAt_64 : decode cX11_refusalAt 64 = .ok (.ireturn, 1) := by decide +kernel
theorem dX11_vectorsOnBoxes_0 : decode cX11_vectorsOnBoxes 0 = .ok (.iconst 0, 1) := by decide +kernel
theorem dX11_vectorsOnBoxes_1 : decode cX11_vectorsOnBoxes 1 = .ok (.istore_n 1, 1) := by decide +kernel
theorem dX11_vectorsOnBoxes_2 : decode cX11_vectorsOnBoxes 2 = .ok (.iconst 0, 1) := by decide +kernel
theorem dX11_vectorsOnBoxes_3 : decode cX11_vectorsOnBoxes 3 = .ok (.istore_n 2, 1) := by decide +kernel
theorem dX11_vectorsOnBoxes_4 : decode cX11_vectorsOnBoxes 4 = .ok (.iload_n 2, 1) := by decide +kernel
theorem dX11_vectorsOnBoxes_5 : decode cX11_vectorsOnBoxes 5 = .ok (.iconst 3, 1) := by decide +kernel
theorem dX11_vectorsOnBoxes_6 : decode cX11_vectorsOnBoxes 6 = .ok (.if_icmp .ge 21, 3) := by decide +kernel
theorem dX11_vectorsOnBoxes_9 : decode cX11_vectorsOnBoxes 9 = .ok (.iload_n 1, 1) := by decide +kernel
theorem dX11_vectorsOnBoxes_10 : decode cX11_vectorsOnBoxes 10 = .ok (.aload_n 0, 1) := by decide +kernel
theorem dX11_vectorsOnBoxes_11 : decode cX11_vectorsOnBoxes 11 = .ok (.getfield 52, 3) := by decide +kernel
theorem dX11_vectorsOnBoxes_14 : decode cX11_vectorsOnBoxes 14 = .ok (.iload_n 2, 1) := by decide +kernel
theorem dX11_vectorsOnBoxes_15 : decode cX11_vectorsOnBoxes 15 = .ok (.aaload, 1) := by decide +kernel
theorem dX11_vectorsOnBoxes_16 : decode cX11_vectorsOnBoxes 16 = .ok (.invokevirtual 260, 3) := by decide +kernel
theorem dX11_vectorsOnBoxes_19 : decode cX11_vectorsOnBoxes 19 = .ok (.iadd, 1) := by decide +kernel
theorem dX11_vectorsOnBoxes_20 : decode cX11_vectorsOnBoxes 20 = .ok (.istore_n 1, 1) := by decide +kernel
theorem dX11_vectorsOnBoxes_21 : decode cX11_vectorsOnBoxes 21 = .ok (.iinc 2 1, 3) := by decide +kernel
theorem dX11_vectorsOnBoxes_24 : decode cX11_vectorsOnBoxes 24 = .ok (.goto (-20), 3) := by decide +kernel
theorem dX11_vectorsOnBoxes_27 : decode cX11_vectorsOnBoxes 27 = .ok (.iload_n 1, 1) := by decide +kernel
theorem dX11_vectorsOnBoxes_28 : decode cX11_vectorsOnBoxes 28 = .ok (.ireturn, 1) := by decide +kernel
theorem dX11_isFar_0 : decode cX11_isFar 0 = .ok (.iload_n 0, 1) := by decide +kernel
theorem dX11_isFar_1 : decode cX11_isFar 1 = .ok (.bipush (-99), 2) := by decide +kernel
theorem dX11_isFar_3 : decode cX11_isFar 3 = .ok (.if_icmp .lt 9, 3) := by decide +kernel
theorem dX11_isFar_6 : decode cX11_isFar 6 = .ok (.iload_n 0, 1) := by decide +kernel
theorem dX11_isFar_7 : decode cX11_isFar 7 = .ok (.bipush 99, 2) := by decide +kernel
theorem dX11_isFar_9 : decode cX11_isFar 9 = .ok (.if_icmp .le 7, 3) := by decide +kernel
theorem dX11_isFar_12 : decode cX11_isFar 12 = .ok (.iconst 1, 1) := by decide +kernel
theorem dX11_isFar_13 : decode cX11_isFar 13 = .ok (.goto 4, 3) := by decide +kernel
theorem dX11_isFar_16 : decode cX11_isFar 16 = .ok (.iconst 0, 1) := by decide +kernel
theorem dX11_isFar_17 : decode cX11_isFar 17 = .ok (.ireturn, 1) := by decide +kernel
theorem dX11_isKind_0 : decode cX11_isKind 0 = .ok (.iload_n 0, 1) := by decide +kernel
theorem dX11_isKind_1 : decode cX11_isKind 1 = .ok (.ifCond .lt 12, 3) := by decide +kernel
theorem dX11_isKind_4 : decode cX11_isKind 4 = .ok (.iload_n 0, 1) := by decide +kernel
theorem dX11_isKind_5 : decode cX11_isKind 5 = .ok (.iconst 4, 1) := by decide +kernel
theorem dX11_isKind_6 : decode cX11_isKind 6 = .ok (.if_icmp .ge 7, 3) := by decide +kernel
theorem dX11_isKind_9 : decode cX11_isKind 9 = .ok (.iconst 1, 1) := by decide +kernel
theorem dX11_isKind_10 : decode cX11_isKind 10 = .ok (.goto 4, 3) := by decide +kernel
theorem dX11_isKind_13 : decode cX11_isKind 13 = .ok (.iconst 0, 1) := by decide +kernel
theorem dX11_isKind_14 : decode cX11_isKind 14 = .ok (.ireturn, 1) := by decide +kernel
theorem dX11_isBox_0 : decode cX11_isBox 0 = .ok (.iload_n 0, 1) := by decide +kernel
theorem dX11_isBox_1 : decode cX11_isBox 1 = .ok (.ifCond .lt 12, 3) := by decide +kernel
theorem dX11_isBox_4 : decode cX11_isBox 4 = .ok (.iload_n 0, 1) := by decide +kernel
theorem dX11_isBox_5 : decode cX11_isBox 5 = .ok (.iconst 3, 1) := by decide +kernel
theorem dX11_isBox_6 : decode cX11_isBox 6 = .ok (.if_icmp .ge 7, 3) := by decide +kernel
theorem dX11_isBox_9 : decode cX11_isBox 9 = .ok (.iconst 1, 1) := by decide +kernel
theorem dX11_isBox_10 : decode cX11_isBox 10 = .ok (.goto 4, 3) := by decide +kernel
theorem dX11_isBox_13 : decode cX11_isBox 13 = .ok (.iconst 0, 1) := by decide +kernel
theorem dX11_isBox_14 : decode cX11_isBox 14 = .ok (.ireturn, 1) := by decide +kernel
theorem dX11_areDistinct_0 : decode cX11_areDistinct 0 = .ok (.iconst 1, 1) := by decide +kernel
theorem dX11_areDistinct_1 : decode cX11_areDistinct 1 = .ok (.iload_n 0, 1) := by decide +kernel
theorem dX11_areDistinct_2 : decode cX11_areDistinct 2 = .ok (.ishl, 1) := by decide +kernel
theorem dX11_areDistinct_3 : decode cX11_areDistinct 3 = .ok (.iconst 1, 1) := by decide +kernel
theorem dX11_areDistinct_4 : decode cX11_areDistinct 4 = .ok (.iload_n 1, 1) := by decide +kernel
theorem dX11_areDistinct_5 : decode cX11_areDistinct 5 = .ok (.ishl, 1) := by decide +kernel
theorem dX11_areDistinct_6 : decode cX11_areDistinct 6 = .ok (.ior, 1) := by decide +kernel
theorem dX11_areDistinct_7 : decode cX11_areDistinct 7 = .ok (.iconst 1, 1) := by decide +kernel
theorem dX11_areDistinct_8 : decode cX11_areDistinct 8 = .ok (.iload_n 2, 1) := by decide +kernel
theorem dX11_areDistinct_9 : decode cX11_areDistinct 9 = .ok (.ishl, 1) := by decide +kernel
theorem dX11_areDistinct_10 : decode cX11_areDistinct 10 = .ok (.ior, 1) := by decide +kernel
theorem dX11_areDistinct_11 : decode cX11_areDistinct 11 = .ok (.iconst 1, 1) := by decide +kernel
theorem dX11_areDistinct_12 : decode cX11_areDistinct 12 = .ok (.iload_n 3, 1) := by decide +kernel
theorem dX11_areDistinct_13 : decode cX11_areDistinct 13 = .ok (.ishl, 1) := by decide +kernel
theorem dX11_areDistinct_14 : decode cX11_areDistinct 14 = .ok (.ior, 1) := by decide +kernel
theorem dX11_areDistinct_15 : decode cX11_areDistinct 15 = .ok (.iconst 1, 1) := by decide +kernel
theorem dX11_areDistinct_16 : decode cX11_areDistinct 16 = .ok (.iload 4, 2) := by decide +kernel
theorem dX11_areDistinct_18 : decode cX11_areDistinct 18 = .ok (.ishl, 1) := by decide +kernel
theorem dX11_areDistinct_19 : decode cX11_areDistinct 19 = .ok (.ior, 1) := by decide +kernel
theorem dX11_areDistinct_20 : decode cX11_areDistinct 20 = .ok (.invokestatic 200, 3) := by decide +kernel
theorem dX11_areDistinct_23 : decode cX11_areDistinct 23 = .ok (.iconst 5, 1) := by decide +kernel
theorem dX11_areDistinct_24 : decode cX11_areDistinct 24 = .ok (.if_icmp .ne 7, 3) := by decide +kernel
theorem dX11_areDistinct_27 : decode cX11_areDistinct 27 = .ok (.iconst 1, 1) := by decide +kernel
theorem dX11_areDistinct_28 : decode cX11_areDistinct 28 = .ok (.goto 4, 3) := by decide +kernel
theorem dX11_areDistinct_31 : decode cX11_areDistinct 31 = .ok (.iconst 0, 1) := by decide +kernel
theorem dX11_areDistinct_32 : decode cX11_areDistinct 32 = .ok (.ireturn, 1) := by decide +kernel
theorem dX12_init_0 : decode cX12_init 0 = .ok (.aload_n 0, 1) := by decide +kernel
theorem dX12_init_1 : decode cX12_init 1 = .ok (.invokespecial 1, 3) := by decide +kernel
theorem dX12_init_4 : decode cX12_init 4 = .ok (.aload_n 0, 1) := by decide +kernel
theorem dX12_init_5 : decode cX12_init 5 = .ok (.sipush 429, 3) := by decide +kernel
theorem dX12_init_8 : decode cX12_init 8 = .ok (.newarray .int, 2) := by decide +kernel
theorem dX12_init_10 : decode cX12_init 10 = .ok (.putfield 7, 3) := by decide +kernel
theorem dX12_init_13 : decode cX12_init 13 = .ok (.aload_n 0, 1) := by decide +kernel
theorem dX12_init_14 : decode cX12_init 14 = .ok (.iconst 2, 1) := by decide +kernel
theorem dX12_init_15 : decode cX12_init 15 = .ok (.newarray .boolean, 2) := by decide +kernel
theorem dX12_init_17 : decode cX12_init 17 = .ok (.putfield 13, 3) := by decide +kernel
theorem dX12_init_20 : decode cX12_init 20 = .ok (.aload_n 0, 1) := by decide +kernel
theorem dX12_init_21 : decode cX12_init 21 = .ok (.sipush 200, 3) := by decide +kernel
theorem dX12_init_24 : decode cX12_init 24 = .ok (.newarray .int, 2) := by decide +kernel
theorem dX12_init_26 : decode cX12_init 26 = .ok (.putfield 17, 3) := by decide +kernel
theorem dX12_init_29 : decode cX12_init 29 = .ok (.aload_n 0, 1) := by decide +kernel
theorem dX12_init_30 : decode cX12_init 30 = .ok (.iconst 3, 1) := by decide +kernel
theorem dX12_init_31 : decode cX12_init 31 = .ok (.newarray .int, 2) := by decide +kernel
theorem dX12_init_33 : decode cX12_init 33 = .ok (.dup, 1) := by decide +kernel
theorem dX12_init_34 : decode cX12_init 34 = .ok (.iconst 0, 1) := by decide +kernel
theorem dX12_init_35 : decode cX12_init 35 = .ok (.iconst (-1), 1) := by decide +kernel
theorem dX12_init_36 : decode cX12_init 36 = .ok (.iastore, 1) := by decide +kernel
theorem dX12_init_37 : decode cX12_init 37 = .ok (.dup, 1) := by decide +kernel
theorem dX12_init_38 : decode cX12_init 38 = .ok (.iconst 1, 1) := by decide +kernel
theorem dX12_init_39 : decode cX12_init 39 = .ok (.iconst (-1), 1) := by decide +kernel
theorem dX12_init_40 : decode cX12_init 40 = .ok (.iastore, 1) := by decide +kernel
theorem dX12_init_41 : decode cX12_init 41 = .ok (.dup, 1) := by decide +kernel
theorem dX12_init_42 : decode cX12_init 42 = .ok (.iconst 2, 1) := by decide +kernel
theorem dX12_init_43 : decode cX12_init 43 = .ok (.iconst (-1), 1) := by decide +kernel
theorem dX12_init_44 : decode cX12_init 44 = .ok (.iastore, 1) := by decide +kernel
theorem dX12_init_45 : decode cX12_init 45 = .ok (.putfield 20, 3) := by decide +kernel
theorem dX12_init_48 : decode cX12_init 48 = .ok (.aload_n 0, 1) := by decide +kernel
theorem dX12_init_49 : decode cX12_init 49 = .ok (.iconst 3, 1) := by decide +kernel
theorem dX12_init_50 : decode cX12_init 50 = .ok (.newarray .int, 2) := by decide +kernel
theorem dX12_init_52 : decode cX12_init 52 = .ok (.putfield 23, 3) := by decide +kernel
theorem dX12_init_55 : decode cX12_init 55 = .ok (.aload_n 0, 1) := by decide +kernel
theorem dX12_init_56 : decode cX12_init 56 = .ok (.bipush 18, 2) := by decide +kernel
theorem dX12_init_58 : decode cX12_init 58 = .ok (.newarray .int, 2) := by decide +kernel
theorem dX12_init_60 : decode cX12_init 60 = .ok (.putfield 26, 3) := by decide +kernel
theorem dX12_init_63 : decode cX12_init 63 = .ok (.aload_n 0, 1) := by decide +kernel
theorem dX12_init_64 : decode cX12_init 64 = .ok (.bipush 18, 2) := by decide +kernel
theorem dX12_init_66 : decode cX12_init 66 = .ok (.newarray .int, 2) := by decide +kernel
theorem dX12_init_68 : decode cX12_init 68 = .ok (.putfield 29, 3) := by decide +kernel
theorem dX12_init_71 : decode cX12_init 71 = .ok (.aload_n 0, 1) := by decide +kernel
theorem dX12_init_72 : decode cX12_init 72 = .ok (.iconst 4, 1) := by decide +kernel
theorem dX12_init_73 : decode cX12_init 73 = .ok (.newarray .int, 2) := by decide +kernel
theorem dX12_init_75 : decode cX12_init 75 = .ok (.putfield 32, 3) := by decide +kernel
theorem dX12_init_78 : decode cX12_init 78 = .ok (.aload_n 0, 1) := by decide +kernel
theorem dX12_init_79 : decode cX12_init 79 = .ok (.bipush 39, 2) := by decide +kernel
theorem dX12_init_81 : decode cX12_init 81 = .ok (.newarray .int, 2) := by decide +kernel
theorem dX12_init_83 : decode cX12_init 83 = .ok (.putfield 35, 3) := by decide +kernel
theorem dX12_init_86 : decode cX12_init 86 = .ok (.aload_n 0, 1) := by decide +kernel
theorem dX12_init_87 : decode cX12_init 87 = .ok (.sipush 729, 3) := by decide +kernel
theorem dX12_init_90 : decode cX12_init 90 = .ok (.newarray .boolean, 2) := by decide +kernel
theorem dX12_init_92 : decode cX12_init 92 = .ok (.putfield 38, 3) := by decide +kernel
theorem dX12_init_95 : decode cX12_init 95 = .ok (.aload_n 0, 1) := by decide +kernel
theorem dX12_init_96 : decode cX12_init 96 = .ok (.bipush 6, 2) := by decide +kernel
theorem dX12_init_98 : decode cX12_init 98 = .ok (.newarray .int, 2) := by decide +kernel
theorem dX12_init_100 : decode cX12_init 100 = .ok (.putfield 41, 3) := by decide +kernel
theorem dX12_init_103 : decode cX12_init 103 = .ok (.aload_n 0, 1) := by decide +kernel
theorem dX12_init_104 : decode cX12_init 104 = .ok (.bipush 30, 2) := by decide +kernel
theorem dX12_init_106 : decode cX12_init 106 = .ok (.newarray .int, 2) := by decide +kernel
theorem dX12_init_108 : decode cX12_init 108 = .ok (.putfield 44, 3) := by decide +kernel
theorem dX12_init_111 : decode cX12_init 111 = .ok (.aload_n 0, 1) := by decide +kernel
theorem dX12_init_112 : decode cX12_init 112 = .ok (.bipush 64, 2) := by decide +kernel
theorem dX12_init_114 : decode cX12_init 114 = .ok (.newarray .int, 2) := by decide +kernel
theorem dX12_init_116 : decode cX12_init 116 = .ok (.putfield 47, 3) := by decide +kernel
theorem dX12_init_119 : decode cX12_init 119 = .ok (.aload_n 0, 1) := by decide +kernel
theorem dX12_init_120 : decode cX12_init 120 = .ok (.bipush 64, 2) := by decide +kernel
theorem dX12_init_122 : decode cX12_init 122 = .ok (.newarray .int, 2) := by decide +kernel
theorem dX12_init_124 : decode cX12_init 124 = .ok (.putfield 50, 3) := by decide +kernel
theorem dX12_init_127 : decode cX12_init 127 = .ok (.aload_n 0, 1) := by decide +kernel
theorem dX12_init_128 : decode cX12_init 128 = .ok (.getfield 7, 3) := by decide +kernel
theorem dX12_init_131 : decode cX12_init 131 = .ok (.iconst 0, 1) := by decide +kernel
theorem dX12_init_132 : decode cX12_init 132 = .ok (.iconst 3, 1) := by decide +kernel
theorem dX12_init_133 : decode cX12_init 133 = .ok (.iastore, 1) := by decide +kernel
theorem dX12_init_134 : decode cX12_init 134 = .ok (.aload_n 0, 1) := by decide +kernel
theorem dX12_init_135 : decode cX12_init 135 = .ok (.getfield 7, 3) := by decide +kernel
theorem dX12_init_138 : decode cX12_init 138 = .ok (.iconst 1, 1) := by decide +kernel
theorem dX12_init_139 : decode cX12_init 139 = .ok (.iconst 1, 1) := by decide +kernel
theorem dX12_init_140 : decode cX12_init 140 = .ok (.iastore, 1) := by decide +kernel
theorem dX12_init_141 : decode cX12_init 141 = .ok (.aload_n 0, 1) := by decide +kernel
theorem dX12_init_142 : decode cX12_init 142 = .ok (.invokevirtual 53, 3) := by decide +kernel
theorem dX12_init_145 : decode cX12_init 145 = .ok (.return_, 1) := by decide +kernel
theorem dX12_in_0 : decode cX12_in 0 = .ok (.lload_n 0, 1) := by decide +kernel
theorem dX12_in_1 : decode cX12_in 1 = .ok (.lload_n 2, 1) := by decide +kernel
theorem dX12_in_2 : decode cX12_in 2 = .ok (.lcmp, 1) := by decide +kernel
theorem dX12_in_3 : decode cX12_in 3 = .ok (.ifCond .lt 14, 3) := by decide +kernel
theorem dX12_in_6 : decode cX12_in 6 = .ok (.lload_n 0, 1) := by decide +kernel
theorem dX12_in_7 : decode cX12_in 7 = .ok (.lload 4, 2) := by decide +kernel
theorem dX12_in_9 : decode cX12_in 9 = .ok (.lcmp, 1) := by decide +kernel
theorem dX12_in_10 : decode cX12_in 10 = .ok (.ifCond .gt 7, 3) := by decide +kernel
theorem dX12_in_13 : decode cX12_in 13 = .ok (.iconst 1, 1) := by decide +kernel
theorem dX12_in_14 : decode cX12_in 14 = .ok (.goto 4, 3) := by decide +kernel
theorem dX12_in_17 : decode cX12_in 17 = .ok (.iconst 0, 1) := by decide +kernel
theorem dX12_in_18 : decode cX12_in 18 = .ok (.ireturn, 1) := by decide +kernel
theorem dX12_n_0 : decode cX12_n 0 = .ok (.aload_n 0, 1) := by decide +kernel
theorem dX12_n_1 : decode cX12_n 1 = .ok (.getfield 7, 3) := by decide +kernel
theorem dX12_n_4 : decode cX12_n 4 = .ok (.iconst 0, 1) := by decide +kernel
theorem dX12_n_5 : decode cX12_n 5 = .ok (.iaload, 1) := by decide +kernel
theorem dX12_n_6 : decode cX12_n 6 = .ok (.ireturn, 1) := by decide +kernel
theorem dX12_pointsAnew_0 : decode cX12_pointsAnew 0 = .ok (.iconst 0, 1) := by decide +kernel
theorem dX12_pointsAnew_1 : decode cX12_pointsAnew 1 = .ok (.istore_n 1, 1) := by decide +kernel
theorem dX12_pointsAnew_2 : decode cX12_pointsAnew 2 = .ok (.iload_n 1, 1) := by decide +kernel
theorem dX12_pointsAnew_3 : decode cX12_pointsAnew 3 = .ok (.bipush 6, 2) := by decide +kernel
theorem dX12_pointsAnew_5 : decode cX12_pointsAnew 5 = .ok (.if_icmp .ge 51, 3) := by decide +kernel
theorem dX12_pointsAnew_8 : decode cX12_pointsAnew 8 = .ok (.aload_n 0, 1) := by decide +kernel
theorem dX12_pointsAnew_9 : decode cX12_pointsAnew 9 = .ok (.getfield 7, 3) := by decide +kernel
theorem dX12_pointsAnew_12 : decode cX12_pointsAnew 12 = .ok (.bipush 21, 2) := by decide +kernel
theorem dX12_pointsAnew_14 : decode cX12_pointsAnew 14 = .ok (.iconst 3, 1) := by decide +kernel
theorem dX12_pointsAnew_15 : decode cX12_pointsAnew 15 = .ok (.iload_n 1, 1) := by decide +kernel
theorem dX12_pointsAnew_16 : decode cX12_pointsAnew 16 = .ok (.imul, 1) := by decide +kernel
theorem dX12_pointsAnew_17 : decode cX12_pointsAnew 17 = .ok (.iadd, 1) := by decide +kernel
theorem dX12_pointsAnew_18 : decode cX12_pointsAnew 18 = .ok (.iconst 1, 1) := by decide +kernel
theorem dX12_pointsAnew_19 : decode cX12_pointsAnew 19 = .ok (.iastore, 1) := by decide +kernel
theorem dX12_pointsAnew_20 : decode cX12_pointsAnew 20 = .ok (.aload_n 0, 1) := by decide +kernel
theorem dX12_pointsAnew_21 : decode cX12_pointsAnew 21 = .ok (.getfield 7, 3) := by decide +kernel
theorem dX12_pointsAnew_24 : decode cX12_pointsAnew 24 = .ok (.bipush 21, 2) := by decide +kernel
theorem dX12_pointsAnew_26 : decode cX12_pointsAnew 26 = .ok (.iconst 3, 1) := by decide +kernel
theorem dX12_pointsAnew_27 : decode cX12_pointsAnew 27 = .ok (.iload_n 1, 1) := by decide +kernel
theorem dX12_pointsAnew_28 : decode cX12_pointsAnew 28 = .ok (.imul, 1) := by decide +kernel
theorem dX12_pointsAnew_29 : decode cX12_pointsAnew 29 = .ok (.iadd, 1) := by decide +kernel
theorem dX12_pointsAnew_30 : decode cX12_pointsAnew 30 = .ok (.iconst 1, 1) := by decide +kernel
theorem dX12_pointsAnew_31 : decode cX12_pointsAnew 31 = .ok (.iadd, 1) := by decide +kernel
theorem dX12_pointsAnew_32 : decode cX12_pointsAnew 32 = .ok (.iload_n 1, 1) := by decide +kernel
theorem dX12_pointsAnew_33 : decode cX12_pointsAnew 33 = .ok (.iastore, 1) := by decide +kernel
theorem dX12_pointsAnew_34 : decode cX12_pointsAnew 34 = .ok (.aload_n 0, 1) := by decide +kernel
theorem dX12_pointsAnew_35 : decode cX12_pointsAnew 35 = .ok (.getfield 7, 3) := by decide +kernel
theorem dX12_pointsAnew_38 : decode cX12_pointsAnew 38 = .ok (.bipush 21, 2) := by decide +kernel
theorem dX12_pointsAnew_40 : decode cX12_pointsAnew 40 = .ok (.iconst 3, 1) := by decide +kernel
theorem dX12_pointsAnew_41 : decode cX12_pointsAnew 41 = .ok (.iload_n 1, 1) := by decide +kernel
theorem dX12_pointsAnew_42 : decode cX12_pointsAnew 42 = .ok (.imul, 1) := by decide +kernel
theorem dX12_pointsAnew_43 : decode cX12_pointsAnew 43 = .ok (.iadd, 1) := by decide +kernel
theorem dX12_pointsAnew_44 : decode cX12_pointsAnew 44 = .ok (.iconst 2, 1) := by decide +kernel
theorem dX12_pointsAnew_45 : decode cX12_pointsAnew 45 = .ok (.iadd, 1) := by decide +kernel
theorem dX12_pointsAnew_46 : decode cX12_pointsAnew 46 = .ok (.iload_n 1, 1) := by decide +kernel
theorem dX12_pointsAnew_47 : decode cX12_pointsAnew 47 = .ok (.iload_n 1, 1) := by decide +kernel
theorem dX12_pointsAnew_48 : decode cX12_pointsAnew 48 = .ok (.imul, 1) := by decide +kernel
theorem dX12_pointsAnew_49 : decode cX12_pointsAnew 49 = .ok (.iastore, 1) := by decide +kernel
theorem dX12_pointsAnew_50 : decode cX12_pointsAnew 50 = .ok (.iinc 1 1, 3) := by decide +kernel
theorem dX12_pointsAnew_53 : decode cX12_pointsAnew 53 = .ok (.goto (-51), 3) := by decide +kernel
theorem dX12_pointsAnew_56 : decode cX12_pointsAnew 56 = .ok (.return_, 1) := by decide +kernel
theorem dX12_placeOf_0 : decode cX12_placeOf 0 = .ok (.iconst 0, 1) := by decide +kernel
theorem dX12_placeOf_1 : decode cX12_placeOf 1 = .ok (.istore_n 3, 1) := by decide +kernel
theorem dX12_placeOf_2 : decode cX12_placeOf 2 = .ok (.iconst 0, 1) := by decide +kernel
theorem dX12_placeOf_3 : decode cX12_placeOf 3 = .ok (.istore 4, 2) := by decide +kernel
theorem dX12_placeOf_5 : decode cX12_placeOf 5 = .ok (.iload 4, 2) := by decide +kernel
theorem dX12_placeOf_7 : decode cX12_placeOf 7 = .ok (.iload_n 0, 1) := by decide +kernel
theorem dX12_placeOf_8 : decode cX12_placeOf 8 = .ok (.if_icmp .ge 23, 3) := by decide +kernel
theorem dX12_placeOf_11 : decode cX12_placeOf 11 = .ok (.iload_n 3, 1) := by decide +kernel
theorem dX12_placeOf_12 : decode cX12_placeOf 12 = .ok (.iconst 5, 1) := by decide +kernel
theorem dX12_placeOf_13 : decode cX12_placeOf 13 = .ok (.iload 4, 2) := by decide +kernel
theorem dX12_placeOf_15 : decode cX12_placeOf 15 = .ok (.isub, 1) := by decide +kernel
theorem dX12_placeOf_16 : decode cX12_placeOf 16 = .ok (.iconst 4, 1) := by decide +kernel
theorem dX12_placeOf_17 : decode cX12_placeOf 17 = .ok (.iload 4, 2) := by decide +kernel
theorem dX12_placeOf_19 : decode cX12_placeOf 19 = .ok (.isub, 1) := by decide +kernel
theorem dX12_placeOf_20 : decode cX12_placeOf 20 = .ok (.imul, 1) := by decide +kernel
theorem dX12_placeOf_21 : decode cX12_placeOf 21 = .ok (.iconst 2, 1) := by decide +kernel
theorem dX12_placeOf_22 : decode cX12_placeOf 22 = .ok (.idiv, 1) := by decide +kernel
theorem dX12_placeOf_23 : decode cX12_placeOf 23 = .ok (.iadd, 1) := by decide +kernel
theorem dX12_placeOf_24 : decode cX12_placeOf 24 = .ok (.istore_n 3, 1) := by decide +kernel
theorem dX12_placeOf_25 : decode cX12_placeOf 25 = .ok (.iinc 4 1, 3) := by decide +kernel
theorem dX12_placeOf_28 : decode cX12_placeOf 28 = .ok (.goto (-23), 3) := by decide +kernel
theorem dX12_placeOf_31 : decode cX12_placeOf 31 = .ok (.iload_n 0, 1) := by decide +kernel
theorem dX12_placeOf_32 : decode cX12_placeOf 32 = .ok (.iconst 1, 1) := by decide +kernel
theorem dX12_placeOf_33 : decode cX12_placeOf 33 = .ok (.iadd, 1) := by decide +kernel
theorem dX12_placeOf_34 : decode cX12_placeOf 34 = .ok (.istore 4, 2) := by decide +kernel
theorem dX12_placeOf_36 : decode cX12_placeOf 36 = .ok (.iload 4, 2) := by decide +kernel
theorem dX12_placeOf_38 : decode cX12_placeOf 38 = .ok (.iload_n 1, 1) := by decide +kernel
theorem dX12_placeOf_39 : decode cX12_placeOf 39 = .ok (.if_icmp .ge 16, 3) := by decide +kernel
theorem dX12_placeOf_42 : decode cX12_placeOf 42 = .ok (.iload_n 3, 1) := by decide +kernel
theorem dX12_placeOf_43 : decode cX12_placeOf 43 = .ok (.iconst 5, 1) := by decide +kernel
theorem dX12_placeOf_44 : decode cX12_placeOf 44 = .ok (.iload 4, 2) := by decide +kernel
theorem dX12_placeOf_46 : decode cX12_placeOf 46 = .ok (.isub, 1) := by decide +kernel
theorem dX12_placeOf_47 : decode cX12_placeOf 47 = .ok (.iadd, 1) := by decide +kernel
theorem dX12_placeOf_48 : decode cX12_placeOf 48 = .ok (.istore_n 3, 1) := by decide +kernel
theorem dX12_placeOf_49 : decode cX12_placeOf 49 = .ok (.iinc 4 1, 3) := by decide +kernel
theorem dX12_placeOf_52 : decode cX12_placeOf 52 = .ok (.goto (-16), 3) := by decide +kernel
theorem dX12_placeOf_55 : decode cX12_placeOf 55 = .ok (.iload_n 3, 1) := by decide +kernel
theorem dX12_placeOf_56 : decode cX12_placeOf 56 = .ok (.iload_n 2, 1) := by decide +kernel
theorem dX12_placeOf_57 : decode cX12_placeOf 57 = .ok (.iadd, 1) := by decide +kernel
theorem dX12_placeOf_58 : decode cX12_placeOf 58 = .ok (.iload_n 1, 1) := by decide +kernel
theorem dX12_placeOf_59 : decode cX12_placeOf 59 = .ok (.isub, 1) := by decide +kernel
theorem dX12_placeOf_60 : decode cX12_placeOf 60 = .ok (.iconst 1, 1) := by decide +kernel
theorem dX12_placeOf_61 : decode cX12_placeOf 61 = .ok (.isub, 1) := by decide +kernel
theorem dX12_placeOf_62 : decode cX12_placeOf 62 = .ok (.ireturn, 1) := by decide +kernel
theorem dX12_turnsOf_0 : decode cX12_turnsOf 0 = .ok (.iload_n 0, 1) := by decide +kernel
theorem dX12_turnsOf_1 : decode cX12_turnsOf 1 = .ok (.iload_n 1, 1) := by decide +kernel
theorem dX12_turnsOf_2 : decode cX12_turnsOf 2 = .ok (.if_icmp .eq 13, 3) := by decide +kernel
theorem dX12_turnsOf_5 : decode cX12_turnsOf 5 = .ok (.iload_n 0, 1) := by decide +kernel
theorem dX12_turnsOf_6 : decode cX12_turnsOf 6 = .ok (.iload_n 2, 1) := by decide +kernel
theorem dX12_turnsOf_7 : decode cX12_turnsOf 7 = .ok (.if_icmp .eq 8, 3) := by decide +kernel
theorem dX12_turnsOf_10 : decode cX12_turnsOf 10 = .ok (.iload_n 1, 1) := by decide +kernel
theorem dX12_turnsOf_11 : decode cX12_turnsOf 11 = .ok (.iload_n 2, 1) := by decide +kernel
theorem dX12_turnsOf_12 : decode cX12_turnsOf 12 = .ok (.if_icmp .ne 7, 3) := by decide +kernel
theorem dX12_turnsOf_15 : decode cX12_turnsOf 15 = .ok (.iconst 0, 1) := by decide +kernel
theorem dX12_turnsOf_16 : decode cX12_turnsOf 16 = .ok (.goto 4, 3) := by decide +kernel
theorem dX12_turnsOf_19 : decode cX12_turnsOf 19 = .ok (.iconst 1, 1) := by decide +kernel
theorem dX12_turnsOf_20 : decode cX12_turnsOf 20 = .ok (.istore_n 3, 1) := by decide +kernel
theorem dX12_turnsOf_21 : decode cX12_turnsOf 21 = .ok (.iload_n 0, 1) := by decide +kernel
theorem dX12_turnsOf_22 : decode cX12_turnsOf 22 = .ok (.iload_n 1, 1) := by decide +kernel
theorem dX12_turnsOf_23 : decode cX12_turnsOf 23 = .ok (.if_icmp .le 8, 3) := by decide +kernel
theorem dX12_turnsOf_26 : decode cX12_turnsOf 26 = .ok (.iload_n 3, 1) := by decide +kernel
theorem dX12_turnsOf_27 : decode cX12_turnsOf 27 = .ok (.ineg, 1) := by decide +kernel
theorem dX12_turnsOf_28 : decode cX12_turnsOf 28 = .ok (.goto 4, 3) := by decide +kernel
theorem dX12_turnsOf_31 : decode cX12_turnsOf 31 = .ok (.iload_n 3, 1) := by decide +kernel
theorem dX12_turnsOf_32 : decode cX12_turnsOf 32 = .ok (.istore_n 3, 1) := by decide +kernel
theorem dX12_turnsOf_33 : decode cX12_turnsOf 33 = .ok (.iload_n 0, 1) := by decide +kernel
theorem dX12_turnsOf_34 : decode cX12_turnsOf 34 = .ok (.iload_n 2, 1) := by decide +kernel
theorem dX12_turnsOf_35 : decode cX12_turnsOf 35 = .ok (.if_icmp .le 8, 3) := by decide +kernel
theorem dX12_turnsOf_38 : decode cX12_turnsOf 38 = .ok (.iload_n 3, 1) := by decide +kernel
theorem dX12_turnsOf_39 : decode cX12_turnsOf 39 = .ok (.ineg, 1) := by decide +kernel
theorem dX12_turnsOf_40 : decode cX12_turnsOf 40 = .ok (.goto 4, 3) := by decide +kernel
theorem dX12_turnsOf_43 : decode cX12_turnsOf 43 = .ok (.iload_n 3, 1) := by decide +kernel
theorem dX12_turnsOf_44 : decode cX12_turnsOf 44 = .ok (.istore_n 3, 1) := by decide +kernel
theorem dX12_turnsOf_45 : decode cX12_turnsOf 45 = .ok (.iload_n 1, 1) := by decide +kernel
theorem dX12_turnsOf_46 : decode cX12_turnsOf 46 = .ok (.iload_n 2, 1) := by decide +kernel
theorem dX12_turnsOf_47 : decode cX12_turnsOf 47 = .ok (.if_icmp .le 8, 3) := by decide +kernel
theorem dX12_turnsOf_50 : decode cX12_turnsOf 50 = .ok (.iload_n 3, 1) := by decide +kernel
theorem dX12_turnsOf_51 : decode cX12_turnsOf 51 = .ok (.ineg, 1) := by decide +kernel
theorem dX12_turnsOf_52 : decode cX12_turnsOf 52 = .ok (.goto 4, 3) := by decide +kernel
theorem dX12_turnsOf_55 : decode cX12_turnsOf 55 = .ok (.iload_n 3, 1) := by decide +kernel
theorem dX12_turnsOf_56 : decode cX12_turnsOf 56 = .ok (.ireturn, 1) := by decide +kernel
theorem dX12_low_0 : decode cX12_low 0 = .ok (.iload_n 0, 1) := by decide +kernel
theorem dX12_low_1 : decode cX12_low 1 = .ok (.iload_n 1, 1) := by decide +kernel
theorem dX12_low_2 : decode cX12_low 2 = .ok (.if_icmp .ge 16, 3) := by decide +kernel
theorem dX12_low_5 : decode cX12_low 5 = .ok (.iload_n 0, 1) := by decide +kernel
theorem dX12_low_6 : decode cX12_low 6 = .ok (.iload_n 2, 1) := by decide +kernel
theorem dX12_low_7 : decode cX12_low 7 = .ok (.if_icmp .ge 7, 3) := by decide +kernel
theorem dX12_low_10 : decode cX12_low 10 = .ok (.iload_n 0, 1) := by decide +kernel
theorem dX12_low_11 : decode cX12_low 11 = .ok (.goto 17, 3) := by decide +kernel
theorem dX12_low_14 : decode cX12_low 14 = .ok (.iload_n 2, 1) := by decide +kernel
theorem dX12_low_15 : decode cX12_low 15 = .ok (.goto 13, 3) := by decide +kernel
theorem dX12_low_18 : decode cX12_low 18 = .ok (.iload_n 1, 1) := by decide +kernel
theorem dX12_low_19 : decode cX12_low 19 = .ok (.iload_n 2, 1) := by decide +kernel
theorem dX12_low_20 : decode cX12_low 20 = .ok (.if_icmp .ge 7, 3) := by decide +kernel
theorem dX12_low_23 : decode cX12_low 23 = .ok (.iload_n 1, 1) := by decide +kernel
theorem dX12_low_24 : decode cX12_low 24 = .ok (.goto 4, 3) := by decide +kernel
theorem dX12_low_27 : decode cX12_low 27 = .ok (.iload_n 2, 1) := by decide +kernel
theorem dX12_low_28 : decode cX12_low 28 = .ok (.ireturn, 1) := by decide +kernel
theorem dX12_high_0 : decode cX12_high 0 = .ok (.iload_n 0, 1) := by decide +kernel
theorem dX12_high_1 : decode cX12_high 1 = .ok (.iload_n 1, 1) := by decide +kernel
theorem dX12_high_2 : decode cX12_high 2 = .ok (.if_icmp .le 16, 3) := by decide +kernel
theorem dX12_high_5 : decode cX12_high 5 = .ok (.iload_n 0, 1) := by decide +kernel
theorem dX12_high_6 : decode cX12_high 6 = .ok (.iload_n 2, 1) := by decide +kernel
theorem dX12_high_7 : decode cX12_high 7 = .ok (.if_icmp .le 7, 3) := by decide +kernel
theorem dX12_high_10 : decode cX12_high 10 = .ok (.iload_n 0, 1) := by decide +kernel
theorem dX12_high_11 : decode cX12_high 11 = .ok (.goto 17, 3) := by decide +kernel
theorem dX12_high_14 : decode cX12_high 14 = .ok (.iload_n 2, 1) := by decide +kernel
theorem dX12_high_15 : decode cX12_high 15 = .ok (.goto 13, 3) := by decide +kernel
theorem dX12_high_18 : decode cX12_high 18 = .ok (.iload_n 1, 1) := by decide +kernel
theorem dX12_high_19 : decode cX12_high 19 = .ok (.iload_n 2, 1) := by decide +kernel
theorem dX12_high_20 : decode cX12_high 20 = .ok (.if_icmp .le 7, 3) := by decide +kernel
theorem dX12_high_23 : decode cX12_high 23 = .ok (.iload_n 1, 1) := by decide +kernel
theorem dX12_high_24 : decode cX12_high 24 = .ok (.goto 4, 3) := by decide +kernel
theorem dX12_high_27 : decode cX12_high 27 = .ok (.iload_n 2, 1) := by decide +kernel
theorem dX12_high_28 : decode cX12_high 28 = .ok (.ireturn, 1) := by decide +kernel
theorem dX12_signOf_0 : decode cX12_signOf 0 = .ok (.iload_n 1, 1) := by decide +kernel
theorem dX12_signOf_1 : decode cX12_signOf 1 = .ok (.iload_n 2, 1) := by decide +kernel
theorem dX12_signOf_2 : decode cX12_signOf 2 = .ok (.iload_n 3, 1) := by decide +kernel
theorem dX12_signOf_3 : decode cX12_signOf 3 = .ok (.invokestatic 56, 3) := by decide +kernel
theorem dX12_signOf_6 : decode cX12_signOf 6 = .ok (.istore 4, 2) := by decide +kernel
theorem dX12_signOf_8 : decode cX12_signOf 8 = .ok (.iload 4, 2) := by decide +kernel
theorem dX12_signOf_10 : decode cX12_signOf 10 = .ok (.ifCond .ne 5, 3) := by decide +kernel
theorem dX12_signOf_13 : decode cX12_signOf 13 = .ok (.iconst 0, 1) := by decide +kernel
theorem dX12_signOf_14 : decode cX12_signOf 14 = .ok (.ireturn, 1) := by decide +kernel
theorem dX12_signOf_15 : decode cX12_signOf 15 = .ok (.iload_n 1, 1) := by decide +kernel
theorem dX12_signOf_16 : decode cX12_signOf 16 = .ok (.iload_n 2, 1) := by decide +kernel
theorem dX12_signOf_17 : decode cX12_signOf 17 = .ok (.iload_n 3, 1) := by decide +kernel
theorem dX12_signOf_18 : decode cX12_signOf 18 = .ok (.invokestatic 60, 3) := by decide +kernel
theorem dX12_signOf_21 : decode cX12_signOf 21 = .ok (.istore 5, 2) := by decide +kernel
theorem dX12_signOf_23 : decode cX12_signOf 23 = .ok (.iload_n 1, 1) := by decide +kernel
theorem dX12_signOf_24 : decode cX12_signOf 24 = .ok (.iload_n 2, 1) := by decide +kernel
theorem dX12_signOf_25 : decode cX12_signOf 25 = .ok (.iload_n 3, 1) := by decide +kernel
theorem dX12_signOf_26 : decode cX12_signOf 26 = .ok (.invokestatic 63, 3) := by decide +kernel
theorem dX12_signOf_29 : decode cX12_signOf 29 = .ok (.istore 6, 2) := by decide +kernel
theorem dX12_signOf_31 : decode cX12_signOf 31 = .ok (.iload 4, 2) := by decide +kernel
theorem dX12_signOf_33 : decode cX12_signOf 33 = .ok (.aload_n 0, 1) := by decide +kernel
theorem dX12_signOf_34 : decode cX12_signOf 34 = .ok (.getfield 7, 3) := by decide +kernel
theorem dX12_signOf_37 : decode cX12_signOf 37 = .ok (.iconst 1, 1) := by decide +kernel
theorem dX12_signOf_38 : decode cX12_signOf 38 = .ok (.iload 5, 2) := by decide +kernel
theorem dX12_signOf_40 : decode cX12_signOf 40 = .ok (.iload_n 1, 1) := by decide +kernel
theorem dX12_signOf_41 : decode cX12_signOf 41 = .ok (.iload_n 2, 1) := by decide +kernel
theorem dX12_signOf_42 : decode cX12_signOf 42 = .ok (.iadd, 1) := by decide +kernel
theorem dX12_signOf_43 : decode cX12_signOf 43 = .ok (.iload_n 3, 1) := by decide +kernel
theorem dX12_signOf_44 : decode cX12_signOf 44 = .ok (.iadd, 1) := by decide +kernel
theorem dX12_signOf_45 : decode cX12_signOf 45 = .ok (.iload 5, 2) := by decide +kernel
theorem dX12_signOf_47 : decode cX12_signOf 47 = .ok (.isub, 1) := by decide +kernel
theorem dX12_signOf_48 : decode cX12_signOf 48 = .ok (.iload 6, 2) := by decide +kernel
theorem dX12_signOf_50 : decode cX12_signOf 50 = .ok (.isub, 1) := by decide +kernel
theorem dX12_signOf_51 : decode cX12_signOf 51 = .ok (.iload 6, 2) := by decide +kernel
theorem dX12_signOf_53 : decode cX12_signOf 53 = .ok (.invokestatic 66, 3) := by decide +kernel
theorem dX12_signOf_56 : decode cX12_signOf 56 = .ok (.iadd, 1) := by decide +kernel
theorem dX12_signOf_57 : decode cX12_signOf 57 = .ok (.iaload, 1) := by decide +kernel
theorem dX12_signOf_58 : decode cX12_signOf 58 = .ok (.imul, 1) := by decide +kernel
theorem dX12_signOf_59 : decode cX12_signOf 59 = .ok (.ireturn, 1) := by decide +kernel
theorem dX12_signs_0 : decode cX12_signs 0 = .ok (.iload_n 1, 1) := by decide +kernel
theorem dX12_signs_1 : decode cX12_signs 1 = .ok (.iload_n 2, 1) := by decide +kernel
theorem dX12_signs_2 : decode cX12_signs 2 = .ok (.iload_n 3, 1) := by decide +kernel
theorem dX12_signs_3 : decode cX12_signs 3 = .ok (.invokestatic 60, 3) := by decide +kernel
theorem dX12_signs_6 : decode cX12_signs 6 = .ok (.istore 5, 2) := by decide +kernel
theorem dX12_signs_8 : decode cX12_signs 8 = .ok (.iload_n 1, 1) := by decide +kernel
theorem dX12_signs_9 : decode cX12_signs 9 = .ok (.iload_n 2, 1) := by decide +kernel
theorem dX12_signs_10 : decode cX12_signs 10 = .ok (.iload_n 3, 1) := by decide +kernel
theorem dX12_signs_11 : decode cX12_signs 11 = .ok (.invokestatic 63, 3) := by decide +kernel
theorem dX12_signs_14 : decode cX12_signs 14 = .ok (.istore 6, 2) := by decide +kernel
theorem dX12_signs_16 : decode cX12_signs 16 = .ok (.aload_n 0, 1) := by decide +kernel
theorem dX12_signs_17 : decode cX12_signs 17 = .ok (.getfield 7, 3) := by decide +kernel
theorem dX12_signs_20 : decode cX12_signs 20 = .ok (.iconst 1, 1) := by decide +kernel
theorem dX12_signs_21 : decode cX12_signs 21 = .ok (.iload 5, 2) := by decide +kernel
theorem dX12_signs_23 : decode cX12_signs 23 = .ok (.iload_n 1, 1) := by decide +kernel
theorem dX12_signs_24 : decode cX12_signs 24 = .ok (.iload_n 2, 1) := by decide +kernel
theorem dX12_signs_25 : decode cX12_signs 25 = .ok (.iadd, 1) := by decide +kernel
theorem dX12_signs_26 : decode cX12_signs 26 = .ok (.iload_n 3, 1) := by decide +kernel
theorem dX12_signs_27 : decode cX12_signs 27 = .ok (.iadd, 1) := by decide +kernel
theorem dX12_signs_28 : decode cX12_signs 28 = .ok (.iload 5, 2) := by decide +kernel
theorem dX12_signs_30 : decode cX12_signs 30 = .ok (.isub, 1) := by decide +kernel
theorem dX12_signs_31 : decode cX12_signs 31 = .ok (.iload 6, 2) := by decide +kernel
theorem dX12_signs_33 : decode cX12_signs 33 = .ok (.isub, 1) := by decide +kernel
theorem dX12_signs_34 : decode cX12_signs 34 = .ok (.iload 6, 2) := by decide +kernel
theorem dX12_signs_36 : decode cX12_signs 36 = .ok (.invokestatic 66, 3) := by decide +kernel
theorem dX12_signs_39 : decode cX12_signs 39 = .ok (.iadd, 1) := by decide +kernel
theorem dX12_signs_40 : decode cX12_signs 40 = .ok (.iload 4, 2) := by decide +kernel
theorem dX12_signs_42 : decode cX12_signs 42 = .ok (.iload_n 1, 1) := by decide +kernel
theorem dX12_signs_43 : decode cX12_signs 43 = .ok (.iload_n 2, 1) := by decide +kernel
theorem dX12_signs_44 : decode cX12_signs 44 = .ok (.iload_n 3, 1) := by decide +kernel
theorem dX12_signs_45 : decode cX12_signs 45 = .ok (.invokestatic 56, 3) := by decide +kernel
theorem dX12_signs_48 : decode cX12_signs 48 = .ok (.imul, 1) := by decide +kernel
theorem dX12_signs_49 : decode cX12_signs 49 = .ok (.iastore, 1) := by decide +kernel
theorem dX12_signs_50 : decode cX12_signs 50 = .ok (.return_, 1) := by decide +kernel
theorem dX12_coordinate_0 : decode cX12_coordinate 0 = .ok (.aload_n 0, 1) := by decide +kernel
theorem dX12_coordinate_1 : decode cX12_coordinate 1 = .ok (.getfield 7, 3) := by decide +kernel
theorem dX12_coordinate_4 : decode cX12_coordinate 4 = .ok (.bipush 21, 2) := by decide +kernel
theorem dX12_coordinate_6 : decode cX12_coordinate 6 = .ok (.iconst 3, 1) := by decide +kernel
theorem dX12_coordinate_7 : decode cX12_coordinate 7 = .ok (.iload_n 1, 1) := by decide +kernel
theorem dX12_coordinate_8 : decode cX12_coordinate 8 = .ok (.imul, 1) := by decide +kernel
theorem dX12_coordinate_9 : decode cX12_coordinate 9 = .ok (.iadd, 1) := by decide +kernel
theorem dX12_coordinate_10 : decode cX12_coordinate 10 = .ok (.iload_n 2, 1) := by decide +kernel
theorem dX12_coordinate_11 : decode cX12_coordinate 11 = .ok (.iadd, 1) := by decide +kernel
theorem dX12_coordinate_12 : decode cX12_coordinate 12 = .ok (.iaload, 1) := by decide +kernel
theorem dX12_coordinate_13 : decode cX12_coordinate 13 = .ok (.ireturn, 1) := by decide +kernel
theorem dX12_turnOf_0 : decode cX12_turnOf 0 = .ok (.iconst 0, 1) := by decide +kernel
theorem dX12_turnOf_1 : decode cX12_turnOf 1 = .ok (.istore 4, 2) := by decide +kernel
theorem dX12_turnOf_3 : decode cX12_turnOf 3 = .ok (.iconst 0, 1) := by decide +kernel
theorem dX12_turnOf_4 : decode cX12_turnOf 4 = .ok (.istore 5, 2) := by decide +kernel
theorem dX12_turnOf_6 : decode cX12_turnOf 6 = .ok (.iload 5, 2) := by decide +kernel
theorem dX12_turnOf_8 : decode cX12_turnOf 8 = .ok (.iconst 3, 1) := by decide +kernel
theorem dX12_turnOf_9 : decode cX12_turnOf 9 = .ok (.if_icmp .ge 69, 3) := by decide +kernel
theorem dX12_turnOf_12 : decode cX12_turnOf 12 = .ok (.iload 5, 2) := by decide +kernel
theorem dX12_turnOf_14 : decode cX12_turnOf 14 = .ok (.iconst 1, 1) := by decide +kernel
theorem dX12_turnOf_15 : decode cX12_turnOf 15 = .ok (.iadd, 1) := by decide +kernel
theorem dX12_turnOf_16 : decode cX12_turnOf 16 = .ok (.iconst 3, 1) := by decide +kernel
theorem dX12_turnOf_17 : decode cX12_turnOf 17 = .ok (.irem, 1) := by decide +kernel
theorem dX12_turnOf_18 : decode cX12_turnOf 18 = .ok (.istore 6, 2) := by decide +kernel
theorem dX12_turnOf_20 : decode cX12_turnOf 20 = .ok (.iload 5, 2) := by decide +kernel
theorem dX12_turnOf_22 : decode cX12_turnOf 22 = .ok (.iconst 2, 1) := by decide +kernel
theorem dX12_turnOf_23 : decode cX12_turnOf 23 = .ok (.iadd, 1) := by decide +kernel
theorem dX12_turnOf_24 : decode cX12_turnOf 24 = .ok (.iconst 3, 1) := by decide +kernel
theorem dX12_turnOf_25 : decode cX12_turnOf 25 = .ok (.irem, 1) := by decide +kernel
theorem dX12_turnOf_26 : decode cX12_turnOf 26 = .ok (.istore 7, 2) := by decide +kernel
theorem dX12_turnOf_28 : decode cX12_turnOf 28 = .ok (.iload 4, 2) := by decide +kernel
theorem dX12_turnOf_30 : decode cX12_turnOf 30 = .ok (.aload_n 0, 1) := by decide +kernel
theorem dX12_turnOf_31 : decode cX12_turnOf 31 = .ok (.iload_n 1, 1) := by decide +kernel
theorem dX12_turnOf_32 : decode cX12_turnOf 32 = .ok (.iload 5, 2) := by decide +kernel
theorem dX12_turnOf_34 : decode cX12_turnOf 34 = .ok (.invokevirtual 69, 3) := by decide +kernel
theorem dX12_turnOf_37 : decode cX12_turnOf 37 = .ok (.aload_n 0, 1) := by decide +kernel
theorem dX12_turnOf_38 : decode cX12_turnOf 38 = .ok (.iload_n 2, 1) := by decide +kernel
theorem dX12_turnOf_39 : decode cX12_turnOf 39 = .ok (.iload 6, 2) := by decide +kernel
theorem dX12_turnOf_41 : decode cX12_turnOf 41 = .ok (.invokevirtual 69, 3) := by decide +kernel
theorem dX12_turnOf_44 : decode cX12_turnOf 44 = .ok (.aload_n 0, 1) := by decide +kernel
theorem dX12_turnOf_45 : decode cX12_turnOf 45 = .ok (.iload_n 3, 1) := by decide +kernel
theorem dX12_turnOf_46 : decode cX12_turnOf 46 = .ok (.iload 7, 2) := by decide +kernel
theorem dX12_turnOf_48 : decode cX12_turnOf 48 = .ok (.invokevirtual 69, 3) := by decide +kernel
theorem dX12_turnOf_51 : decode cX12_turnOf 51 = .ok (.imul, 1) := by decide +kernel
theorem dX12_turnOf_52 : decode cX12_turnOf 52 = .ok (.aload_n 0, 1) := by decide +kernel
theorem dX12_turnOf_53 : decode cX12_turnOf 53 = .ok (.iload_n 2, 1) := by decide +kernel
theorem dX12_turnOf_54 : decode cX12_turnOf 54 = .ok (.iload 7, 2) := by decide +kernel
theorem dX12_turnOf_56 : decode cX12_turnOf 56 = .ok (.invokevirtual 69, 3) := by decide +kernel
theorem dX12_turnOf_59 : decode cX12_turnOf 59 = .ok (.aload_n 0, 1) := by decide +kernel
theorem dX12_turnOf_60 : decode cX12_turnOf 60 = .ok (.iload_n 3, 1) := by decide +kernel
theorem dX12_turnOf_61 : decode cX12_turnOf 61 = .ok (.iload 6, 2) := by decide +kernel
theorem dX12_turnOf_63 : decode cX12_turnOf 63 = .ok (.invokevirtual 69, 3) := by decide +kernel
theorem dX12_turnOf_66 : decode cX12_turnOf 66 = .ok (.imul, 1) := by decide +kernel
theorem dX12_turnOf_67 : decode cX12_turnOf 67 = .ok (.isub, 1) := by decide +kernel
theorem dX12_turnOf_68 : decode cX12_turnOf 68 = .ok (.imul, 1) := by decide +kernel
theorem dX12_turnOf_69 : decode cX12_turnOf 69 = .ok (.iadd, 1) := by decide +kernel
theorem dX12_turnOf_70 : decode cX12_turnOf 70 = .ok (.istore 4, 2) := by decide +kernel
theorem dX12_turnOf_72 : decode cX12_turnOf 72 = .ok (.iinc 5 1, 3) := by decide +kernel
theorem dX12_turnOf_75 : decode cX12_turnOf 75 = .ok (.goto (-69), 3) := by decide +kernel
theorem dX12_turnOf_78 : decode cX12_turnOf 78 = .ok (.iload 4, 2) := by decide +kernel
theorem dX12_turnOf_80 : decode cX12_turnOf 80 = .ok (.ifCond .le 7, 3) := by decide +kernel
theorem dX12_turnOf_83 : decode cX12_turnOf 83 = .ok (.iconst 1, 1) := by decide +kernel
theorem dX12_turnOf_84 : decode cX12_turnOf 84 = .ok (.goto 13, 3) := by decide +kernel
theorem dX12_turnOf_87 : decode cX12_turnOf 87 = .ok (.iload 4, 2) := by decide +kernel
theorem dX12_turnOf_89 : decode cX12_turnOf 89 = .ok (.ifCond .ge 7, 3) := by decide +kernel
theorem dX12_turnOf_92 : decode cX12_turnOf 92 = .ok (.iconst (-1), 1) := by decide +kernel
theorem dX12_turnOf_93 : decode cX12_turnOf 93 = .ok (.goto 4, 3) := by decide +kernel
theorem dX12_turnOf_96 : decode cX12_turnOf 96 = .ok (.iconst 0, 1) := by decide +kernel
theorem dX12_turnOf_97 : decode cX12_turnOf 97 = .ok (.ireturn, 1) := by decide +kernel
theorem dX12_isElement_0 : decode cX12_isElement 0 = .ok (.iload_n 1, 1) := by decide +kernel
theorem dX12_isElement_1 : decode cX12_isElement 1 = .ok (.i2l, 1) := by decide +kernel
theorem dX12_isElement_2 : decode cX12_isElement 2 = .ok (.lconst 0, 1) := by decide +kernel
theorem dX12_isElement_3 : decode cX12_isElement 3 = .ok (.aload_n 0, 1) := by decide +kernel
theorem dX12_isElement_4 : decode cX12_isElement 4 = .ok (.invokevirtual 73, 3) := by decide +kernel
theorem dX12_isElement_7 : decode cX12_isElement 7 = .ok (.iconst 1, 1) := by decide +kernel
theorem dX12_isElement_8 : decode cX12_isElement 8 = .ok (.isub, 1) := by decide +kernel
theorem dX12_isElement_9 : decode cX12_isElement 9 = .ok (.i2l, 1) := by decide +kernel
theorem dX12_isElement_10 : decode cX12_isElement 10 = .ok (.invokestatic 77, 3) := by decide +kernel
theorem dX12_isElement_13 : decode cX12_isElement 13 = .ok (.ireturn, 1) := by decide +kernel
theorem dX12_areThree_0 : decode cX12_areThree 0 = .ok (.aload_n 0, 1) := by decide +kernel
theorem dX12_areThree_1 : decode cX12_areThree 1 = .ok (.iload_n 1, 1) := by decide +kernel
theorem dX12_areThree_2 : decode cX12_areThree 2 = .ok (.invokevirtual 81, 3) := by decide +kernel
theorem dX12_areThree_5 : decode cX12_areThree 5 = .ok (.ifCond .eq 23, 3) := by decide +kernel
theorem dX12_areThree_8 : decode cX12_areThree 8 = .ok (.aload_n 0, 1) := by decide +kernel
theorem dX12_areThree_9 : decode cX12_areThree 9 = .ok (.iload_n 2, 1) := by decide +kernel
theorem dX12_areThree_10 : decode cX12_areThree 10 = .ok (.invokevirtual 81, 3) := by decide +kernel
theorem dX12_areThree_13 : decode cX12_areThree 13 = .ok (.ifCond .eq 15, 3) := by decide +kernel
theorem dX12_areThree_16 : decode cX12_areThree 16 = .ok (.aload_n 0, 1) := by decide +kernel
theorem dX12_areThree_17 : decode cX12_areThree 17 = .ok (.iload_n 3, 1) := by decide +kernel
theorem dX12_areThree_18 : decode cX12_areThree 18 = .ok (.invokevirtual 81, 3) := by decide +kernel
theorem dX12_areThree_21 : decode cX12_areThree 21 = .ok (.ifCond .eq 7, 3) := by decide +kernel
theorem dX12_areThree_24 : decode cX12_areThree 24 = .ok (.iconst 1, 1) := by decide +kernel
theorem dX12_areThree_25 : decode cX12_areThree 25 = .ok (.goto 4, 3) := by decide +kernel
theorem dX12_areThree_28 : decode cX12_areThree 28 = .ok (.iconst 0, 1) := by decide +kernel
theorem dX12_areThree_29 : decode cX12_areThree 29 = .ok (.ireturn, 1) := by decide +kernel
theorem dX12_write_0 : decode cX12_write 0 = .ok (.iload_n 1, 1) := by decide +kernel
theorem dX12_write_1 : decode cX12_write 1 = .ok (.i2l, 1) := by decide +kernel
theorem dX12_write_2 : decode cX12_write 2 = .ok (.lconst 0, 1) := by decide +kernel
theorem dX12_write_3 : decode cX12_write 3 = .ok (.ldc2_w 85, 3) := by decide +kernel
theorem dX12_write_6 : decode cX12_write 6 = .ok (.invokestatic 77, 3) := by decide +kernel
theorem dX12_write_9 : decode cX12_write 9 = .ok (.ifCond .ne 7, 3) := by decide +kernel
theorem dX12_write_12 : decode cX12_write 12 = .ok (.sipush (-1002), 3) := by decide +kernel
theorem dX12_write_15 : decode cX12_write 15 = .ok (.ireturn, 1) := by decide +kernel
theorem dX12_write_16 : decode cX12_write 16 = .ok (.aload_n 0, 1) := by decide +kernel
theorem dX12_write_17 : decode cX12_write 17 = .ok (.getfield 87, 3) := by decide +kernel
theorem dX12_write_20 : decode cX12_write 20 = .ok (.sipush 200, 3) := by decide +kernel
theorem dX12_write_23 : decode cX12_write 23 = .ok (.if_icmp .ne 7, 3) := by decide +kernel
theorem dX12_write_26 : decode cX12_write 26 = .ok (.sipush (-1004), 3) := by decide +kernel
theorem dX12_write_29 : decode cX12_write 29 = .ok (.ireturn, 1) := by decide +kernel
theorem dX12_write_30 : decode cX12_write 30 = .ok (.aload_n 0, 1) := by decide +kernel
theorem dX12_write_31 : decode cX12_write 31 = .ok (.getfield 17, 3) := by decide +kernel
theorem dX12_write_34 : decode cX12_write 34 = .ok (.aload_n 0, 1) := by decide +kernel
theorem dX12_write_35 : decode cX12_write 35 = .ok (.getfield 87, 3) := by decide +kernel
theorem dX12_write_38 : decode cX12_write 38 = .ok (.iload_n 1, 1) := by decide +kernel
theorem dX12_write_39 : decode cX12_write 39 = .ok (.iastore, 1) := by decide +kernel
theorem dX12_write_40 : decode cX12_write 40 = .ok (.aload_n 0, 1) := by decide +kernel
theorem dX12_write_41 : decode cX12_write 41 = .ok (.dup, 1) := by decide +kernel
theorem dX12_write_42 : decode cX12_write 42 = .ok (.getfield 87, 3) := by decide +kernel
theorem dX12_write_45 : decode cX12_write 45 = .ok (.iconst 1, 1) := by decide +kernel
theorem dX12_write_46 : decode cX12_write 46 = .ok (.iadd, 1) := by decide +kernel
theorem dX12_write_47 : decode cX12_write 47 = .ok (.putfield 87, 3) := by decide +kernel
theorem dX12_write_50 : decode cX12_write 50 = .ok (.aload_n 0, 1) := by decide +kernel
theorem dX12_write_51 : decode cX12_write 51 = .ok (.getfield 87, 3) := by decide +kernel
theorem dX12_write_54 : decode cX12_write 54 = .ok (.ireturn, 1) := by decide +kernel
theorem dX12_erase_0 : decode cX12_erase 0 = .ok (.aload_n 0, 1) := by decide +kernel
theorem dX12_erase_1 : decode cX12_erase 1 = .ok (.getfield 87, 3) := by decide +kernel
theorem dX12_erase_4 : decode cX12_erase 4 = .ok (.istore_n 1, 1) := by decide +kernel
theorem dX12_erase_5 : decode cX12_erase 5 = .ok (.aload_n 0, 1) := by decide +kernel
theorem dX12_erase_6 : decode cX12_erase 6 = .ok (.iconst 0, 1) := by decide +kernel
theorem dX12_erase_7 : decode cX12_erase 7 = .ok (.putfield 87, 3) := by decide +kernel
theorem dX12_erase_10 : decode cX12_erase 10 = .ok (.iload_n 1, 1) := by decide +kernel
theorem dX12_erase_11 : decode cX12_erase 11 = .ok (.ireturn, 1) := by decide +kernel
theorem dX12_isSmall_0 : decode cX12_isSmall 0 = .ok (.iload_n 0, 1) := by decide +kernel
theorem dX12_isSmall_1 : decode cX12_isSmall 1 = .ok (.i2l, 1) := by decide +kernel
theorem dX12_isSmall_2 : decode cX12_isSmall 2 = .ok (.ldc2_w 91, 3) := by decide +kernel
theorem dX12_isSmall_5 : decode cX12_isSmall 5 = .ok (.ldc2_w 93, 3) := by decide +kernel
theorem dX12_isSmall_8 : decode cX12_isSmall 8 = .ok (.invokestatic 77, 3) := by decide +kernel
theorem dX12_isSmall_11 : decode cX12_isSmall 11 = .ok (.ireturn, 1) := by decide +kernel
theorem dX12_isDigit_0 : decode cX12_isDigit 0 = .ok (.iload_n 0, 1) := by decide +kernel
theorem dX12_isDigit_1 : decode cX12_isDigit 1 = .ok (.i2l, 1) := by decide +kernel
theorem dX12_isDigit_2 : decode cX12_isDigit 2 = .ok (.ldc2_w 95, 3) := by decide +kernel
theorem dX12_isDigit_5 : decode cX12_isDigit 5 = .ok (.ldc2_w 97, 3) := by decide +kernel
theorem dX12_isDigit_8 : decode cX12_isDigit 8 = .ok (.invokestatic 77, 3) := by decide +kernel
theorem dX12_isDigit_11 : decode cX12_isDigit 11 = .ok (.ireturn, 1) := by decide +kernel
theorem dX12_next_0 : decode cX12_next 0 = .ok (.aload_n 0, 1) := by decide +kernel
theorem dX12_next_1 : decode cX12_next 1 = .ok (.aload_n 0, 1) := by decide +kernel
theorem dX12_next_2 : decode cX12_next 2 = .ok (.getfield 99, 3) := by decide +kernel
theorem dX12_next_5 : decode cX12_next 5 = .ok (.putfield 102, 3) := by decide +kernel
theorem dX12_next_8 : decode cX12_next 8 = .ok (.aload_n 0, 1) := by decide +kernel
theorem dX12_next_9 : decode cX12_next 9 = .ok (.getfield 102, 3) := by decide +kernel
theorem dX12_next_12 : decode cX12_next 12 = .ok (.aload_n 0, 1) := by decide +kernel
theorem dX12_next_13 : decode cX12_next 13 = .ok (.getfield 87, 3) := by decide +kernel
theorem dX12_next_16 : decode cX12_next 16 = .ok (.if_icmp .ge 30, 3) := by decide +kernel
theorem dX12_next_19 : decode cX12_next 19 = .ok (.aload_n 0, 1) := by decide +kernel
theorem dX12_next_20 : decode cX12_next 20 = .ok (.getfield 17, 3) := by decide +kernel
theorem dX12_next_23 : decode cX12_next 23 = .ok (.aload_n 0, 1) := by decide +kernel
theorem dX12_next_24 : decode cX12_next 24 = .ok (.getfield 102, 3) := by decide +kernel
theorem dX12_next_27 : decode cX12_next 27 = .ok (.iaload, 1) := by decide +kernel
theorem dX12_next_28 : decode cX12_next 28 = .ok (.bipush 32, 2) := by decide +kernel
theorem dX12_next_30 : decode cX12_next 30 = .ok (.if_icmp .ne 16, 3) := by decide +kernel
theorem dX12_next_33 : decode cX12_next 33 = .ok (.aload_n 0, 1) := by decide +kernel
theorem dX12_next_34 : decode cX12_next 34 = .ok (.dup, 1) := by decide +kernel
theorem dX12_next_35 : decode cX12_next 35 = .ok (.getfield 102, 3) := by decide +kernel
theorem dX12_next_38 : decode cX12_next 38 = .ok (.iconst 1, 1) := by decide +kernel
theorem dX12_next_39 : decode cX12_next 39 = .ok (.iadd, 1) := by decide +kernel
theorem dX12_next_40 : decode cX12_next 40 = .ok (.putfield 102, 3) := by decide +kernel
theorem dX12_next_43 : decode cX12_next 43 = .ok (.goto (-35), 3) := by decide +kernel
theorem dX12_next_46 : decode cX12_next 46 = .ok (.aload_n 0, 1) := by decide +kernel
theorem dX12_next_47 : decode cX12_next 47 = .ok (.aload_n 0, 1) := by decide +kernel
theorem dX12_next_48 : decode cX12_next 48 = .ok (.getfield 102, 3) := by decide +kernel
theorem dX12_next_51 : decode cX12_next 51 = .ok (.aload_n 0, 1) := by decide +kernel
theorem dX12_next_52 : decode cX12_next 52 = .ok (.getfield 87, 3) := by decide +kernel
theorem dX12_next_55 : decode cX12_next 55 = .ok (.if_icmp .ge 12, 3) := by decide +kernel
theorem dX12_next_58 : decode cX12_next 58 = .ok (.aload_n 0, 1) := by decide +kernel
theorem dX12_next_59 : decode cX12_next 59 = .ok (.getfield 102, 3) := by decide +kernel
theorem dX12_next_62 : decode cX12_next 62 = .ok (.iconst 1, 1) := by decide +kernel
theorem dX12_next_63 : decode cX12_next 63 = .ok (.iadd, 1) := by decide +kernel
theorem dX12_next_64 : decode cX12_next 64 = .ok (.goto 7, 3) := by decide +kernel
theorem dX12_next_67 : decode cX12_next 67 = .ok (.aload_n 0, 1) := by decide +kernel
theorem dX12_next_68 : decode cX12_next 68 = .ok (.getfield 102, 3) := by decide +kernel
theorem dX12_next_71 : decode cX12_next 71 = .ok (.putfield 99, 3) := by decide +kernel
theorem dX12_next_74 : decode cX12_next 74 = .ok (.aload_n 0, 1) := by decide +kernel
theorem dX12_next_75 : decode cX12_next 75 = .ok (.getfield 102, 3) := by decide +kernel
theorem dX12_next_78 : decode cX12_next 78 = .ok (.aload_n 0, 1) := by decide +kernel
theorem dX12_next_79 : decode cX12_next 79 = .ok (.getfield 87, 3) := by decide +kernel
theorem dX12_next_82 : decode cX12_next 82 = .ok (.if_icmp .ge 57, 3) := by decide +kernel
theorem dX12_next_85 : decode cX12_next 85 = .ok (.aload_n 0, 1) := by decide +kernel
theorem dX12_next_86 : decode cX12_next 86 = .ok (.getfield 17, 3) := by decide +kernel
theorem dX12_next_89 : decode cX12_next 89 = .ok (.aload_n 0, 1) := by decide +kernel
theorem dX12_next_90 : decode cX12_next 90 = .ok (.getfield 102, 3) := by decide +kernel
theorem dX12_next_93 : decode cX12_next 93 = .ok (.iaload, 1) := by decide +kernel
theorem dX12_next_94 : decode cX12_next 94 = .ok (.invokestatic 105, 3) := by decide +kernel
theorem dX12_next_97 : decode cX12_next 97 = .ok (.ifCond .eq 42, 3) := by decide +kernel
theorem dX12_next_100 : decode cX12_next 100 = .ok (.aload_n 0, 1) := by decide +kernel
theorem dX12_next_101 : decode cX12_next 101 = .ok (.getfield 99, 3) := by decide +kernel
theorem dX12_next_104 : decode cX12_next 104 = .ok (.aload_n 0, 1) := by decide +kernel
theorem dX12_next_105 : decode cX12_next 105 = .ok (.getfield 87, 3) := by decide +kernel
theorem dX12_next_108 : decode cX12_next 108 = .ok (.if_icmp .ge 31, 3) := by decide +kernel
theorem dX12_next_111 : decode cX12_next 111 = .ok (.aload_n 0, 1) := by decide +kernel
theorem dX12_next_112 : decode cX12_next 112 = .ok (.getfield 17, 3) := by decide +kernel
theorem dX12_next_115 : decode cX12_next 115 = .ok (.aload_n 0, 1) := by decide +kernel
theorem dX12_next_116 : decode cX12_next 116 = .ok (.getfield 99, 3) := by decide +kernel
theorem dX12_next_119 : decode cX12_next 119 = .ok (.iaload, 1) := by decide +kernel
theorem dX12_next_120 : decode cX12_next 120 = .ok (.invokestatic 105, 3) := by decide +kernel
theorem dX12_next_123 : decode cX12_next 123 = .ok (.ifCond .eq 16, 3) := by decide +kernel
theorem dX12_next_126 : decode cX12_next 126 = .ok (.aload_n 0, 1) := by decide +kernel
theorem dX12_next_127 : decode cX12_next 127 = .ok (.dup, 1) := by decide +kernel
theorem dX12_next_128 : decode cX12_next 128 = .ok (.getfield 99, 3) := by decide +kernel
theorem dX12_next_131 : decode cX12_next 131 = .ok (.iconst 1, 1) := by decide +kernel
theorem dX12_next_132 : decode cX12_next 132 = .ok (.iadd, 1) := by decide +kernel
theorem dX12_next_133 : decode cX12_next 133 = .ok (.putfield 99, 3) := by decide +kernel
theorem dX12_next_136 : decode cX12_next 136 = .ok (.goto (-62), 3) := by decide +kernel
theorem dX12_next_139 : decode cX12_next 139 = .ok (.aload_n 0, 1) := by decide +kernel
theorem dX12_next_140 : decode cX12_next 140 = .ok (.getfield 102, 3) := by decide +kernel
theorem dX12_next_143 : decode cX12_next 143 = .ok (.aload_n 0, 1) := by decide +kernel
theorem dX12_next_144 : decode cX12_next 144 = .ok (.getfield 87, 3) := by decide +kernel
theorem dX12_next_147 : decode cX12_next 147 = .ok (.if_icmp .ge 57, 3) := by decide +kernel
theorem dX12_next_150 : decode cX12_next 150 = .ok (.aload_n 0, 1) := by decide +kernel
theorem dX12_next_151 : decode cX12_next 151 = .ok (.getfield 17, 3) := by decide +kernel
theorem dX12_next_154 : decode cX12_next 154 = .ok (.aload_n 0, 1) := by decide +kernel
theorem dX12_next_155 : decode cX12_next 155 = .ok (.getfield 102, 3) := by decide +kernel
theorem dX12_next_158 : decode cX12_next 158 = .ok (.iaload, 1) := by decide +kernel
theorem dX12_next_159 : decode cX12_next 159 = .ok (.invokestatic 108, 3) := by decide +kernel
theorem dX12_next_162 : decode cX12_next 162 = .ok (.ifCond .eq 42, 3) := by decide +kernel
theorem dX12_next_165 : decode cX12_next 165 = .ok (.aload_n 0, 1) := by decide +kernel
theorem dX12_next_166 : decode cX12_next 166 = .ok (.getfield 99, 3) := by decide +kernel
theorem dX12_next_169 : decode cX12_next 169 = .ok (.aload_n 0, 1) := by decide +kernel
theorem dX12_next_170 : decode cX12_next 170 = .ok (.getfield 87, 3) := by decide +kernel
theorem dX12_next_173 : decode cX12_next 173 = .ok (.if_icmp .ge 31, 3) := by decide +kernel
theorem dX12_next_176 : decode cX12_next 176 = .ok (.aload_n 0, 1) := by decide +kernel
theorem dX12_next_177 : decode cX12_next 177 = .ok (.getfield 17, 3) := by decide +kernel
theorem dX12_next_180 : decode cX12_next 180 = .ok (.aload_n 0, 1) := by decide +kernel
theorem dX12_next_181 : decode cX12_next 181 = .ok (.getfield 99, 3) := by decide +kernel
theorem dX12_next_184 : decode cX12_next 184 = .ok (.iaload, 1) := by decide +kernel
theorem dX12_next_185 : decode cX12_next 185 = .ok (.invokestatic 108, 3) := by decide +kernel
theorem dX12_next_188 : decode cX12_next 188 = .ok (.ifCond .eq 16, 3) := by decide +kernel
theorem dX12_next_191 : decode cX12_next 191 = .ok (.aload_n 0, 1) := by decide +kernel
theorem dX12_next_192 : decode cX12_next 192 = .ok (.dup, 1) := by decide +kernel
theorem dX12_next_193 : decode cX12_next 193 = .ok (.getfield 99, 3) := by decide +kernel
theorem dX12_next_196 : decode cX12_next 196 = .ok (.iconst 1, 1) := by decide +kernel
theorem dX12_next_197 : decode cX12_next 197 = .ok (.iadd, 1) := by decide +kernel
theorem dX12_next_198 : decode cX12_next 198 = .ok (.putfield 99, 3) := by decide +kernel
theorem dX12_next_201 : decode cX12_next 201 = .ok (.goto (-62), 3) := by decide +kernel
theorem dX12_next_204 : decode cX12_next 204 = .ok (.return_, 1) := by decide +kernel
theorem dX12_isHere_0 : decode cX12_isHere 0 = .ok (.aload_n 0, 1) := by decide +kernel
theorem dX12_isHere_1 : decode cX12_isHere 1 = .ok (.getfield 102, 3) := by decide +kernel
theorem dX12_isHere_4 : decode cX12_isHere 4 = .ok (.aload_n 0, 1) := by decide +kernel
theorem dX12_isHere_5 : decode cX12_isHere 5 = .ok (.getfield 87, 3) := by decide +kernel
theorem dX12_isHere_8 : decode cX12_isHere 8 = .ok (.if_icmp .ge 33, 3) := by decide +kernel
theorem dX12_isHere_11 : decode cX12_isHere 11 = .ok (.aload_n 0, 1) := by decide +kernel
theorem dX12_isHere_12 : decode cX12_isHere 12 = .ok (.getfield 17, 3) := by decide +kernel
theorem dX12_isHere_15 : decode cX12_isHere 15 = .ok (.aload_n 0, 1) := by decide +kernel
theorem dX12_isHere_16 : decode cX12_isHere 16 = .ok (.getfield 102, 3) := by decide +kernel
theorem dX12_isHere_19 : decode cX12_isHere 19 = .ok (.iaload, 1) := by decide +kernel
theorem dX12_isHere_20 : decode cX12_isHere 20 = .ok (.iload_n 1, 1) := by decide +kernel
theorem dX12_isHere_21 : decode cX12_isHere 21 = .ok (.if_icmp .ne 20, 3) := by decide +kernel
theorem dX12_isHere_24 : decode cX12_isHere 24 = .ok (.aload_n 0, 1) := by decide +kernel
theorem dX12_isHere_25 : decode cX12_isHere 25 = .ok (.getfield 99, 3) := by decide +kernel
theorem dX12_isHere_28 : decode cX12_isHere 28 = .ok (.aload_n 0, 1) := by decide +kernel
theorem dX12_isHere_29 : decode cX12_isHere 29 = .ok (.getfield 102, 3) := by decide +kernel
theorem dX12_isHere_32 : decode cX12_isHere 32 = .ok (.iconst 1, 1) := by decide +kernel
theorem dX12_isHere_33 : decode cX12_isHere 33 = .ok (.iadd, 1) := by decide +kernel
theorem dX12_isHere_34 : decode cX12_isHere 34 = .ok (.if_icmp .ne 7, 3) := by decide +kernel
theorem dX12_isHere_37 : decode cX12_isHere 37 = .ok (.iconst 1, 1) := by decide +kernel
theorem dX12_isHere_38 : decode cX12_isHere 38 = .ok (.goto 4, 3) := by decide +kernel
theorem dX12_isHere_41 : decode cX12_isHere 41 = .ok (.iconst 0, 1) := by decide +kernel
theorem dX12_isHere_42 : decode cX12_isHere 42 = .ok (.ireturn, 1) := by decide +kernel
theorem dX12_isWord_0 : decode cX12_isWord 0 = .ok (.iload 5, 2) := by decide +kernel
theorem dX12_isWord_2 : decode cX12_isWord 2 = .ok (.ifCond .ne 7, 3) := by decide +kernel
theorem dX12_isWord_5 : decode cX12_isWord 5 = .ok (.iconst 4, 1) := by decide +kernel
theorem dX12_isWord_6 : decode cX12_isWord 6 = .ok (.goto 4, 3) := by decide +kernel
theorem dX12_isWord_9 : decode cX12_isWord 9 = .ok (.iconst 5, 1) := by decide +kernel
theorem dX12_isWord_10 : decode cX12_isWord 10 = .ok (.istore 6, 2) := by decide +kernel
theorem dX12_isWord_12 : decode cX12_isWord 12 = .ok (.aload_n 0, 1) := by decide +kernel
theorem dX12_isWord_13 : decode cX12_isWord 13 = .ok (.getfield 99, 3) := by decide +kernel
theorem dX12_isWord_16 : decode cX12_isWord 16 = .ok (.aload_n 0, 1) := by decide +kernel
theorem dX12_isWord_17 : decode cX12_isWord 17 = .ok (.getfield 102, 3) := by decide +kernel
theorem dX12_isWord_20 : decode cX12_isWord 20 = .ok (.isub, 1) := by decide +kernel
theorem dX12_isWord_21 : decode cX12_isWord 21 = .ok (.iload 6, 2) := by decide +kernel
theorem dX12_isWord_23 : decode cX12_isWord 23 = .ok (.if_icmp .ne 87, 3) := by decide +kernel
theorem dX12_isWord_26 : decode cX12_isWord 26 = .ok (.aload_n 0, 1) := by decide +kernel
theorem dX12_isWord_27 : decode cX12_isWord 27 = .ok (.getfield 17, 3) := by decide +kernel
theorem dX12_isWord_30 : decode cX12_isWord 30 = .ok (.aload_n 0, 1) := by decide +kernel
theorem dX12_isWord_31 : decode cX12_isWord 31 = .ok (.getfield 102, 3) := by decide +kernel
theorem dX12_isWord_34 : decode cX12_isWord 34 = .ok (.iaload, 1) := by decide +kernel
theorem dX12_isWord_35 : decode cX12_isWord 35 = .ok (.iload_n 1, 1) := by decide +kernel
theorem dX12_isWord_36 : decode cX12_isWord 36 = .ok (.if_icmp .ne 74, 3) := by decide +kernel
theorem dX12_isWord_39 : decode cX12_isWord 39 = .ok (.aload_n 0, 1) := by decide +kernel
theorem dX12_isWord_40 : decode cX12_isWord 40 = .ok (.getfield 17, 3) := by decide +kernel
theorem dX12_isWord_43 : decode cX12_isWord 43 = .ok (.aload_n 0, 1) := by decide +kernel
theorem dX12_isWord_44 : decode cX12_isWord 44 = .ok (.getfield 102, 3) := by decide +kernel
theorem dX12_isWord_47 : decode cX12_isWord 47 = .ok (.iconst 1, 1) := by decide +kernel
theorem dX12_isWord_48 : decode cX12_isWord 48 = .ok (.iadd, 1) := by decide +kernel
theorem dX12_isWord_49 : decode cX12_isWord 49 = .ok (.iaload, 1) := by decide +kernel
theorem dX12_isWord_50 : decode cX12_isWord 50 = .ok (.iload_n 2, 1) := by decide +kernel
theorem dX12_isWord_51 : decode cX12_isWord 51 = .ok (.if_icmp .ne 59, 3) := by decide +kernel
theorem dX12_isWord_54 : decode cX12_isWord 54 = .ok (.aload_n 0, 1) := by decide +kernel
theorem dX12_isWord_55 : decode cX12_isWord 55 = .ok (.getfield 17, 3) := by decide +kernel
theorem dX12_isWord_58 : decode cX12_isWord 58 = .ok (.aload_n 0, 1) := by decide +kernel
theorem dX12_isWord_59 : decode cX12_isWord 59 = .ok (.getfield 102, 3) := by decide +kernel
theorem dX12_isWord_62 : decode cX12_isWord 62 = .ok (.iconst 2, 1) := by decide +kernel
theorem dX12_isWord_63 : decode cX12_isWord 63 = .ok (.iadd, 1) := by decide +kernel
theorem dX12_isWord_64 : decode cX12_isWord 64 = .ok (.iaload, 1) := by decide +kernel
theorem dX12_isWord_65 : decode cX12_isWord 65 = .ok (.iload_n 3, 1) := by decide +kernel
theorem dX12_isWord_66 : decode cX12_isWord 66 = .ok (.if_icmp .ne 44, 3) := by decide +kernel
theorem dX12_isWord_69 : decode cX12_isWord 69 = .ok (.aload_n 0, 1) := by decide +kernel
theorem dX12_isWord_70 : decode cX12_isWord 70 = .ok (.getfield 17, 3) := by decide +kernel
theorem dX12_isWord_73 : decode cX12_isWord 73 = .ok (.aload_n 0, 1) := by decide +kernel
theorem dX12_isWord_74 : decode cX12_isWord 74 = .ok (.getfield 102, 3) := by decide +kernel
theorem dX12_isWord_77 : decode cX12_isWord 77 = .ok (.iconst 3, 1) := by decide +kernel
theorem dX12_isWord_78 : decode cX12_isWord 78 = .ok (.iadd, 1) := by decide +kernel
theorem dX12_isWord_79 : decode cX12_isWord 79 = .ok (.iaload, 1) := by decide +kernel
theorem dX12_isWord_80 : decode cX12_isWord 80 = .ok (.iload 4, 2) := by decide +kernel
theorem dX12_isWord_82 : decode cX12_isWord 82 = .ok (.if_icmp .ne 28, 3) := by decide +kernel
theorem dX12_isWord_85 : decode cX12_isWord 85 = .ok (.iload 5, 2) := by decide +kernel
theorem dX12_isWord_87 : decode cX12_isWord 87 = .ok (.ifCond .eq 19, 3) := by decide +kernel
theorem dX12_isWord_90 : decode cX12_isWord 90 = .ok (.aload_n 0, 1) := by decide +kernel
theorem dX12_isWord_91 : decode cX12_isWord 91 = .ok (.getfield 17, 3) := by decide +kernel
theorem dX12_isWord_94 : decode cX12_isWord 94 = .ok (.aload_n 0, 1) := by decide +kernel
theorem dX12_isWord_95 : decode cX12_isWord 95 = .ok (.getfield 102, 3) := by decide +kernel
theorem dX12_isWord_98 : decode cX12_isWord 98 = .ok (.iconst 4, 1) := by decide +kernel
theorem dX12_isWord_99 : decode cX12_isWord 99 = .ok (.iadd, 1) := by decide +kernel
theorem dX12_isWord_100 : decode cX12_isWord 100 = .ok (.iaload, 1) := by decide +kernel
theorem dX12_isWord_101 : decode cX12_isWord 101 = .ok (.iload 5, 2) := by decide +kernel
theorem dX12_isWord_103 : decode cX12_isWord 103 = .ok (.if_icmp .ne 7, 3) := by decide +kernel
theorem dX12_isWord_106 : decode cX12_isWord 106 = .ok (.iconst 1, 1) := by decide +kernel
theorem dX12_isWord_107 : decode cX12_isWord 107 = .ok (.goto 4, 3) := by decide +kernel
theorem dX12_isWord_110 : decode cX12_isWord 110 = .ok (.iconst 0, 1) := by decide +kernel
theorem dX12_isWord_111 : decode cX12_isWord 111 = .ok (.ireturn, 1) := by decide +kernel
theorem dX12_reads_0 : decode cX12_reads 0 = .ok (.aload_n 0, 1) := by decide +kernel
theorem dX12_reads_1 : decode cX12_reads 1 = .ok (.getfield 102, 3) := by decide +kernel
theorem dX12_reads_4 : decode cX12_reads 4 = .ok (.aload_n 0, 1) := by decide +kernel
theorem dX12_reads_5 : decode cX12_reads 5 = .ok (.getfield 87, 3) := by decide +kernel
theorem dX12_reads_8 : decode cX12_reads 8 = .ok (.if_icmp .eq 31, 3) := by decide +kernel
theorem dX12_reads_11 : decode cX12_reads 11 = .ok (.aload_n 0, 1) := by decide +kernel
theorem dX12_reads_12 : decode cX12_reads 12 = .ok (.getfield 17, 3) := by decide +kernel
theorem dX12_reads_15 : decode cX12_reads 15 = .ok (.aload_n 0, 1) := by decide +kernel
theorem dX12_reads_16 : decode cX12_reads 16 = .ok (.getfield 102, 3) := by decide +kernel
theorem dX12_reads_19 : decode cX12_reads 19 = .ok (.iaload, 1) := by decide +kernel
theorem dX12_reads_20 : decode cX12_reads 20 = .ok (.invokestatic 108, 3) := by decide +kernel
theorem dX12_reads_23 : decode cX12_reads 23 = .ok (.ifCond .eq 16, 3) := by decide +kernel
theorem dX12_reads_26 : decode cX12_reads 26 = .ok (.aload_n 0, 1) := by decide +kernel
theorem dX12_reads_27 : decode cX12_reads 27 = .ok (.getfield 99, 3) := by decide +kernel
theorem dX12_reads_30 : decode cX12_reads 30 = .ok (.aload_n 0, 1) := by decide +kernel
theorem dX12_reads_31 : decode cX12_reads 31 = .ok (.getfield 102, 3) := by decide +kernel
theorem dX12_reads_34 : decode cX12_reads 34 = .ok (.isub, 1) := by decide +kernel
theorem dX12_reads_35 : decode cX12_reads 35 = .ok (.iconst 2, 1) := by decide +kernel
theorem dX12_reads_36 : decode cX12_reads 36 = .ok (.if_icmp .le 5, 3) := by decide +kernel
theorem dX12_reads_39 : decode cX12_reads 39 = .ok (.iconst 0, 1) := by decide +kernel
theorem dX12_reads_40 : decode cX12_reads 40 = .ok (.ireturn, 1) := by decide +kernel
theorem dX12_reads_41 : decode cX12_reads 41 = .ok (.iconst 0, 1) := by decide +kernel
theorem dX12_reads_42 : decode cX12_reads 42 = .ok (.istore 4, 2) := by decide +kernel
theorem dX12_reads_44 : decode cX12_reads 44 = .ok (.aload_n 0, 1) := by decide +kernel
theorem dX12_reads_45 : decode cX12_reads 45 = .ok (.getfield 102, 3) := by decide +kernel
theorem dX12_reads_48 : decode cX12_reads 48 = .ok (.istore 5, 2) := by decide +kernel
theorem dX12_reads_50 : decode cX12_reads 50 = .ok (.iload 5, 2) := by decide +kernel
theorem dX12_reads_52 : decode cX12_reads 52 = .ok (.aload_n 0, 1) := by decide +kernel
theorem dX12_reads_53 : decode cX12_reads 53 = .ok (.getfield 99, 3) := by decide +kernel
theorem dX12_reads_56 : decode cX12_reads 56 = .ok (.if_icmp .ge 27, 3) := by decide +kernel
theorem dX12_reads_59 : decode cX12_reads 59 = .ok (.bipush 10, 2) := by decide +kernel
theorem dX12_reads_61 : decode cX12_reads 61 = .ok (.iload 4, 2) := by decide +kernel
theorem dX12_reads_63 : decode cX12_reads 63 = .ok (.imul, 1) := by decide +kernel
theorem dX12_reads_64 : decode cX12_reads 64 = .ok (.aload_n 0, 1) := by decide +kernel
theorem dX12_reads_65 : decode cX12_reads 65 = .ok (.getfield 17, 3) := by decide +kernel
theorem dX12_reads_68 : decode cX12_reads 68 = .ok (.iload 5, 2) := by decide +kernel
theorem dX12_reads_70 : decode cX12_reads 70 = .ok (.iaload, 1) := by decide +kernel
theorem dX12_reads_71 : decode cX12_reads 71 = .ok (.iadd, 1) := by decide +kernel
theorem dX12_reads_72 : decode cX12_reads 72 = .ok (.bipush 48, 2) := by decide +kernel
theorem dX12_reads_74 : decode cX12_reads 74 = .ok (.isub, 1) := by decide +kernel
theorem dX12_reads_75 : decode cX12_reads 75 = .ok (.istore 4, 2) := by decide +kernel
theorem dX12_reads_77 : decode cX12_reads 77 = .ok (.iinc 5 1, 3) := by decide +kernel
theorem dX12_reads_80 : decode cX12_reads 80 = .ok (.goto (-30), 3) := by decide +kernel
theorem dX12_reads_83 : decode cX12_reads 83 = .ok (.iload 4, 2) := by decide +kernel
theorem dX12_reads_85 : decode cX12_reads 85 = .ok (.i2l, 1) := by decide +kernel
theorem dX12_reads_86 : decode cX12_reads 86 = .ok (.iload_n 2, 1) := by decide +kernel
theorem dX12_reads_87 : decode cX12_reads 87 = .ok (.i2l, 1) := by decide +kernel
theorem dX12_reads_88 : decode cX12_reads 88 = .ok (.iload_n 3, 1) := by decide +kernel
theorem dX12_reads_89 : decode cX12_reads 89 = .ok (.i2l, 1) := by decide +kernel
theorem dX12_reads_90 : decode cX12_reads 90 = .ok (.invokestatic 77, 3) := by decide +kernel
theorem dX12_reads_93 : decode cX12_reads 93 = .ok (.ifCond .ne 5, 3) := by decide +kernel
theorem dX12_reads_96 : decode cX12_reads 96 = .ok (.iconst 0, 1) := by decide +kernel
theorem dX12_reads_97 : decode cX12_reads 97 = .ok (.ireturn, 1) := by decide +kernel
theorem dX12_reads_98 : decode cX12_reads 98 = .ok (.aload_n 0, 1) := by decide +kernel
theorem dX12_reads_99 : decode cX12_reads 99 = .ok (.getfield 32, 3) := by decide +kernel
theorem dX12_reads_102 : decode cX12_reads 102 = .ok (.iload_n 1, 1) := by decide +kernel
theorem dX12_reads_103 : decode cX12_reads 103 = .ok (.iload 4, 2) := by decide +kernel
theorem dX12_reads_105 : decode cX12_reads 105 = .ok (.iastore, 1) := by decide +kernel
theorem dX12_reads_106 : decode cX12_reads 106 = .ok (.aload_n 0, 1) := by decide +kernel
theorem dX12_reads_107 : decode cX12_reads 107 = .ok (.invokevirtual 111, 3) := by decide +kernel
theorem dX12_reads_110 : decode cX12_reads 110 = .ok (.iconst 1, 1) := by decide +kernel
theorem dX12_reads_111 : decode cX12_reads 111 = .ok (.ireturn, 1) := by decide +kernel
theorem dX12_triples_0 : decode cX12_triples 0 = .ok (.iload_n 0, 1) := by decide +kernel
theorem dX12_triples_1 : decode cX12_triples 1 = .ok (.iload_n 0, 1) := by decide +kernel
theorem dX12_triples_2 : decode cX12_triples 2 = .ok (.iconst 1, 1) := by decide +kernel
theorem dX12_triples_3 : decode cX12_triples 3 = .ok (.isub, 1) := by decide +kernel
theorem dX12_triples_4 : decode cX12_triples 4 = .ok (.imul, 1) := by decide +kernel
theorem dX12_triples_5 : decode cX12_triples 5 = .ok (.iload_n 0, 1) := by decide +kernel
theorem dX12_triples_6 : decode cX12_triples 6 = .ok (.iconst 2, 1) := by decide +kernel
theorem dX12_triples_7 : decode cX12_triples 7 = .ok (.isub, 1) := by decide +kernel
theorem dX12_triples_8 : decode cX12_triples 8 = .ok (.imul, 1) := by decide +kernel
theorem dX12_triples_9 : decode cX12_triples 9 = .ok (.bipush 6, 2) := by decide +kernel
theorem dX12_triples_11 : decode cX12_triples 11 = .ok (.idiv, 1) := by decide +kernel
theorem dX12_triples_12 : decode cX12_triples 12 = .ok (.ireturn, 1) := by decide +kernel
theorem dX12_readsSigns_0 : decode cX12_readsSigns 0 = .ok (.aload_n 0, 1) := by decide +kernel
theorem dX12_readsSigns_1 : decode cX12_readsSigns 1 = .ok (.iconst 0, 1) := by decide +kernel
theorem dX12_readsSigns_2 : decode cX12_readsSigns 2 = .ok (.iconst 3, 1) := by decide +kernel
theorem dX12_readsSigns_3 : decode cX12_readsSigns 3 = .ok (.bipush 6, 2) := by decide +kernel
theorem dX12_readsSigns_5 : decode cX12_readsSigns 5 = .ok (.invokevirtual 114, 3) := by decide +kernel
theorem dX12_readsSigns_8 : decode cX12_readsSigns 8 = .ok (.ifCond .ne 5, 3) := by decide +kernel
theorem dX12_readsSigns_11 : decode cX12_readsSigns 11 = .ok (.iconst 0, 1) := by decide +kernel
theorem dX12_readsSigns_12 : decode cX12_readsSigns 12 = .ok (.ireturn, 1) := by decide +kernel
theorem dX12_readsSigns_13 : decode cX12_readsSigns 13 = .ok (.aload_n 0, 1) := by decide +kernel
theorem dX12_readsSigns_14 : decode cX12_readsSigns 14 = .ok (.getfield 32, 3) := by decide +kernel
theorem dX12_readsSigns_17 : decode cX12_readsSigns 17 = .ok (.iconst 0, 1) := by decide +kernel
theorem dX12_readsSigns_18 : decode cX12_readsSigns 18 = .ok (.iaload, 1) := by decide +kernel
theorem dX12_readsSigns_19 : decode cX12_readsSigns 19 = .ok (.invokestatic 118, 3) := by decide +kernel
theorem dX12_readsSigns_22 : decode cX12_readsSigns 22 = .ok (.istore_n 1, 1) := by decide +kernel
theorem dX12_readsSigns_23 : decode cX12_readsSigns 23 = .ok (.aload_n 0, 1) := by decide +kernel
theorem dX12_readsSigns_24 : decode cX12_readsSigns 24 = .ok (.getfield 102, 3) := by decide +kernel
theorem dX12_readsSigns_27 : decode cX12_readsSigns 27 = .ok (.aload_n 0, 1) := by decide +kernel
theorem dX12_readsSigns_28 : decode cX12_readsSigns 28 = .ok (.getfield 87, 3) := by decide +kernel
theorem dX12_readsSigns_31 : decode cX12_readsSigns 31 = .ok (.if_icmp .ge 20, 3) := by decide +kernel
theorem dX12_readsSigns_34 : decode cX12_readsSigns 34 = .ok (.aload_n 0, 1) := by decide +kernel
theorem dX12_readsSigns_35 : decode cX12_readsSigns 35 = .ok (.getfield 99, 3) := by decide +kernel
theorem dX12_readsSigns_38 : decode cX12_readsSigns 38 = .ok (.aload_n 0, 1) := by decide +kernel
theorem dX12_readsSigns_39 : decode cX12_readsSigns 39 = .ok (.getfield 102, 3) := by decide +kernel
theorem dX12_readsSigns_42 : decode cX12_readsSigns 42 = .ok (.isub, 1) := by decide +kernel
theorem dX12_readsSigns_43 : decode cX12_readsSigns 43 = .ok (.iload_n 1, 1) := by decide +kernel
theorem dX12_readsSigns_44 : decode cX12_readsSigns 44 = .ok (.if_icmp .ne 7, 3) := by decide +kernel
theorem dX12_readsSigns_47 : decode cX12_readsSigns 47 = .ok (.iconst 1, 1) := by decide +kernel
theorem dX12_readsSigns_48 : decode cX12_readsSigns 48 = .ok (.goto 4, 3) := by decide +kernel
theorem dX12_readsSigns_51 : decode cX12_readsSigns 51 = .ok (.iconst 0, 1) := by decide +kernel
theorem dX12_readsSigns_52 : decode cX12_readsSigns 52 = .ok (.istore_n 2, 1) := by decide +kernel
theorem dX12_readsSigns_53 : decode cX12_readsSigns 53 = .ok (.iconst 0, 1) := by decide +kernel
theorem dX12_readsSigns_54 : decode cX12_readsSigns 54 = .ok (.istore_n 3, 1) := by decide +kernel
theorem dX12_readsSigns_55 : decode cX12_readsSigns 55 = .ok (.iload_n 3, 1) := by decide +kernel
theorem dX12_readsSigns_56 : decode cX12_readsSigns 56 = .ok (.iload_n 1, 1) := by decide +kernel
theorem dX12_readsSigns_57 : decode cX12_readsSigns 57 = .ok (.if_icmp .ge 67, 3) := by decide +kernel
theorem dX12_readsSigns_60 : decode cX12_readsSigns 60 = .ok (.iload_n 2, 1) := by decide +kernel
theorem dX12_readsSigns_61 : decode cX12_readsSigns 61 = .ok (.ifCond .eq 63, 3) := by decide +kernel
theorem dX12_readsSigns_64 : decode cX12_readsSigns 64 = .ok (.aload_n 0, 1) := by decide +kernel
theorem dX12_readsSigns_65 : decode cX12_readsSigns 65 = .ok (.getfield 17, 3) := by decide +kernel
theorem dX12_readsSigns_68 : decode cX12_readsSigns 68 = .ok (.aload_n 0, 1) := by decide +kernel
theorem dX12_readsSigns_69 : decode cX12_readsSigns 69 = .ok (.getfield 102, 3) := by decide +kernel
theorem dX12_readsSigns_72 : decode cX12_readsSigns 72 = .ok (.iload_n 3, 1) := by decide +kernel
theorem dX12_readsSigns_73 : decode cX12_readsSigns 73 = .ok (.iadd, 1) := by decide +kernel
theorem dX12_readsSigns_74 : decode cX12_readsSigns 74 = .ok (.iaload, 1) := by decide +kernel
theorem dX12_readsSigns_75 : decode cX12_readsSigns 75 = .ok (.bipush 117, 2) := by decide +kernel
theorem dX12_readsSigns_77 : decode cX12_readsSigns 77 = .ok (.if_icmp .eq 35, 3) := by decide +kernel
theorem dX12_readsSigns_80 : decode cX12_readsSigns 80 = .ok (.aload_n 0, 1) := by decide +kernel
theorem dX12_readsSigns_81 : decode cX12_readsSigns 81 = .ok (.getfield 17, 3) := by decide +kernel
theorem dX12_readsSigns_84 : decode cX12_readsSigns 84 = .ok (.aload_n 0, 1) := by decide +kernel
theorem dX12_readsSigns_85 : decode cX12_readsSigns 85 = .ok (.getfield 102, 3) := by decide +kernel
theorem dX12_readsSigns_88 : decode cX12_readsSigns 88 = .ok (.iload_n 3, 1) := by decide +kernel
theorem dX12_readsSigns_89 : decode cX12_readsSigns 89 = .ok (.iadd, 1) := by decide +kernel
theorem dX12_readsSigns_90 : decode cX12_readsSigns 90 = .ok (.iaload, 1) := by decide +kernel
theorem dX12_readsSigns_91 : decode cX12_readsSigns 91 = .ok (.bipush 111, 2) := by decide +kernel
theorem dX12_readsSigns_93 : decode cX12_readsSigns 93 = .ok (.if_icmp .eq 19, 3) := by decide +kernel
theorem dX12_readsSigns_96 : decode cX12_readsSigns 96 = .ok (.aload_n 0, 1) := by decide +kernel
theorem dX12_readsSigns_97 : decode cX12_readsSigns 97 = .ok (.getfield 17, 3) := by decide +kernel
theorem dX12_readsSigns_100 : decode cX12_readsSigns 100 = .ok (.aload_n 0, 1) := by decide +kernel
theorem dX12_readsSigns_101 : decode cX12_readsSigns 101 = .ok (.getfield 102, 3) := by decide +kernel
theorem dX12_readsSigns_104 : decode cX12_readsSigns 104 = .ok (.iload_n 3, 1) := by decide +kernel
theorem dX12_readsSigns_105 : decode cX12_readsSigns 105 = .ok (.iadd, 1) := by decide +kernel
theorem dX12_readsSigns_106 : decode cX12_readsSigns 106 = .ok (.iaload, 1) := by decide +kernel
theorem dX12_readsSigns_107 : decode cX12_readsSigns 107 = .ok (.bipush 100, 2) := by decide +kernel
theorem dX12_readsSigns_109 : decode cX12_readsSigns 109 = .ok (.if_icmp .ne 7, 3) := by decide +kernel
theorem dX12_readsSigns_112 : decode cX12_readsSigns 112 = .ok (.iconst 1, 1) := by decide +kernel
theorem dX12_readsSigns_113 : decode cX12_readsSigns 113 = .ok (.goto 4, 3) := by decide +kernel
theorem dX12_readsSigns_116 : decode cX12_readsSigns 116 = .ok (.iconst 0, 1) := by decide +kernel
theorem dX12_readsSigns_117 : decode cX12_readsSigns 117 = .ok (.istore_n 2, 1) := by decide +kernel
theorem dX12_readsSigns_118 : decode cX12_readsSigns 118 = .ok (.iinc 3 1, 3) := by decide +kernel
theorem dX12_readsSigns_121 : decode cX12_readsSigns 121 = .ok (.goto (-66), 3) := by decide +kernel
theorem dX12_readsSigns_124 : decode cX12_readsSigns 124 = .ok (.iload_n 2, 1) := by decide +kernel
theorem dX12_readsSigns_125 : decode cX12_readsSigns 125 = .ok (.ifCond .ne 5, 3) := by decide +kernel
theorem dX12_readsSigns_128 : decode cX12_readsSigns 128 = .ok (.iconst 0, 1) := by decide +kernel
theorem dX12_readsSigns_129 : decode cX12_readsSigns 129 = .ok (.ireturn, 1) := by decide +kernel
theorem dX12_readsSigns_130 : decode cX12_readsSigns 130 = .ok (.aload_n 0, 1) := by decide +kernel
theorem dX12_readsSigns_131 : decode cX12_readsSigns 131 = .ok (.aload_n 0, 1) := by decide +kernel
theorem dX12_readsSigns_132 : decode cX12_readsSigns 132 = .ok (.getfield 32, 3) := by decide +kernel
theorem dX12_readsSigns_135 : decode cX12_readsSigns 135 = .ok (.iconst 0, 1) := by decide +kernel
theorem dX12_readsSigns_136 : decode cX12_readsSigns 136 = .ok (.iaload, 1) := by decide +kernel
theorem dX12_readsSigns_137 : decode cX12_readsSigns 137 = .ok (.putfield 122, 3) := by decide +kernel
theorem dX12_readsSigns_140 : decode cX12_readsSigns 140 = .ok (.aload_n 0, 1) := by decide +kernel
theorem dX12_readsSigns_141 : decode cX12_readsSigns 141 = .ok (.getfield 125, 3) := by decide +kernel
theorem dX12_readsSigns_144 : decode cX12_readsSigns 144 = .ok (.ifCond .eq 120, 3) := by decide +kernel
theorem dX12_readsSigns_147 : decode cX12_readsSigns 147 = .ok (.aload_n 0, 1) := by decide +kernel
theorem dX12_readsSigns_148 : decode cX12_readsSigns 148 = .ok (.aload_n 0, 1) := by decide +kernel
theorem dX12_readsSigns_149 : decode cX12_readsSigns 149 = .ok (.getfield 122, 3) := by decide +kernel
theorem dX12_readsSigns_152 : decode cX12_readsSigns 152 = .ok (.invokevirtual 129, 3) := by decide +kernel
theorem dX12_readsSigns_155 : decode cX12_readsSigns 155 = .ok (.aload_n 0, 1) := by decide +kernel
theorem dX12_readsSigns_156 : decode cX12_readsSigns 156 = .ok (.getfield 102, 3) := by decide +kernel
theorem dX12_readsSigns_159 : decode cX12_readsSigns 159 = .ok (.istore_n 3, 1) := by decide +kernel
theorem dX12_readsSigns_160 : decode cX12_readsSigns 160 = .ok (.iconst 0, 1) := by decide +kernel
theorem dX12_readsSigns_161 : decode cX12_readsSigns 161 = .ok (.istore 4, 2) := by decide +kernel
theorem dX12_readsSigns_163 : decode cX12_readsSigns 163 = .ok (.iload 4, 2) := by decide +kernel
theorem dX12_readsSigns_165 : decode cX12_readsSigns 165 = .ok (.aload_n 0, 1) := by decide +kernel
theorem dX12_readsSigns_166 : decode cX12_readsSigns 166 = .ok (.getfield 122, 3) := by decide +kernel
theorem dX12_readsSigns_169 : decode cX12_readsSigns 169 = .ok (.if_icmp .ge 95, 3) := by decide +kernel
theorem dX12_readsSigns_172 : decode cX12_readsSigns 172 = .ok (.iload 4, 2) := by decide +kernel
theorem dX12_readsSigns_174 : decode cX12_readsSigns 174 = .ok (.iconst 1, 1) := by decide +kernel
theorem dX12_readsSigns_175 : decode cX12_readsSigns 175 = .ok (.iadd, 1) := by decide +kernel
theorem dX12_readsSigns_176 : decode cX12_readsSigns 176 = .ok (.istore 5, 2) := by decide +kernel
theorem dX12_readsSigns_178 : decode cX12_readsSigns 178 = .ok (.iload 5, 2) := by decide +kernel
theorem dX12_readsSigns_180 : decode cX12_readsSigns 180 = .ok (.aload_n 0, 1) := by decide +kernel
theorem dX12_readsSigns_181 : decode cX12_readsSigns 181 = .ok (.getfield 122, 3) := by decide +kernel
theorem dX12_readsSigns_184 : decode cX12_readsSigns 184 = .ok (.if_icmp .ge 74, 3) := by decide +kernel
theorem dX12_readsSigns_187 : decode cX12_readsSigns 187 = .ok (.iload 5, 2) := by decide +kernel
theorem dX12_readsSigns_189 : decode cX12_readsSigns 189 = .ok (.iconst 1, 1) := by decide +kernel
theorem dX12_readsSigns_190 : decode cX12_readsSigns 190 = .ok (.iadd, 1) := by decide +kernel
theorem dX12_readsSigns_191 : decode cX12_readsSigns 191 = .ok (.istore 6, 2) := by decide +kernel
theorem dX12_readsSigns_193 : decode cX12_readsSigns 193 = .ok (.iload 6, 2) := by decide +kernel
theorem dX12_readsSigns_195 : decode cX12_readsSigns 195 = .ok (.aload_n 0, 1) := by decide +kernel
theorem dX12_readsSigns_196 : decode cX12_readsSigns 196 = .ok (.getfield 122, 3) := by decide +kernel
theorem dX12_readsSigns_199 : decode cX12_readsSigns 199 = .ok (.if_icmp .ge 53, 3) := by decide +kernel
theorem dX12_readsSigns_202 : decode cX12_readsSigns 202 = .ok (.aload_n 0, 1) := by decide +kernel
theorem dX12_readsSigns_203 : decode cX12_readsSigns 203 = .ok (.iload 4, 2) := by decide +kernel
theorem dX12_readsSigns_205 : decode cX12_readsSigns 205 = .ok (.iload 5, 2) := by decide +kernel
theorem dX12_readsSigns_207 : decode cX12_readsSigns 207 = .ok (.iload 6, 2) := by decide +kernel
theorem dX12_readsSigns_209 : decode cX12_readsSigns 209 = .ok (.aload_n 0, 1) := by decide +kernel
theorem dX12_readsSigns_210 : decode cX12_readsSigns 210 = .ok (.getfield 17, 3) := by decide +kernel
theorem dX12_readsSigns_213 : decode cX12_readsSigns 213 = .ok (.iload_n 3, 1) := by decide +kernel
theorem dX12_readsSigns_214 : decode cX12_readsSigns 214 = .ok (.iaload, 1) := by decide +kernel
theorem dX12_readsSigns_215 : decode cX12_readsSigns 215 = .ok (.bipush 117, 2) := by decide +kernel
theorem dX12_readsSigns_217 : decode cX12_readsSigns 217 = .ok (.if_icmp .ne 7, 3) := by decide +kernel
theorem dX12_readsSigns_220 : decode cX12_readsSigns 220 = .ok (.iconst 1, 1) := by decide +kernel
theorem dX12_readsSigns_221 : decode cX12_readsSigns 221 = .ok (.goto 19, 3) := by decide +kernel
theorem dX12_readsSigns_224 : decode cX12_readsSigns 224 = .ok (.aload_n 0, 1) := by decide +kernel
theorem dX12_readsSigns_225 : decode cX12_readsSigns 225 = .ok (.getfield 17, 3) := by decide +kernel
theorem dX12_readsSigns_228 : decode cX12_readsSigns 228 = .ok (.iload_n 3, 1) := by decide +kernel
theorem dX12_readsSigns_229 : decode cX12_readsSigns 229 = .ok (.iaload, 1) := by decide +kernel
theorem dX12_readsSigns_230 : decode cX12_readsSigns 230 = .ok (.bipush 100, 2) := by decide +kernel
theorem dX12_readsSigns_232 : decode cX12_readsSigns 232 = .ok (.if_icmp .ne 7, 3) := by decide +kernel
theorem dX12_readsSigns_235 : decode cX12_readsSigns 235 = .ok (.iconst (-1), 1) := by decide +kernel
theorem dX12_readsSigns_236 : decode cX12_readsSigns 236 = .ok (.goto 4, 3) := by decide +kernel
theorem dX12_readsSigns_239 : decode cX12_readsSigns 239 = .ok (.iconst 0, 1) := by decide +kernel
theorem dX12_readsSigns_240 : decode cX12_readsSigns 240 = .ok (.invokevirtual 133, 3) := by decide +kernel
theorem dX12_readsSigns_243 : decode cX12_readsSigns 243 = .ok (.iinc 3 1, 3) := by decide +kernel
theorem dX12_readsSigns_246 : decode cX12_readsSigns 246 = .ok (.iinc 6 1, 3) := by decide +kernel
theorem dX12_readsSigns_249 : decode cX12_readsSigns 249 = .ok (.goto (-56), 3) := by decide +kernel
theorem dX12_readsSigns_252 : decode cX12_readsSigns 252 = .ok (.iinc 5 1, 3) := by decide +kernel
theorem dX12_readsSigns_255 : decode cX12_readsSigns 255 = .ok (.goto (-77), 3) := by decide +kernel
theorem dX12_readsSigns_258 : decode cX12_readsSigns 258 = .ok (.iinc 4 1, 3) := by decide +kernel
theorem dX12_readsSigns_261 : decode cX12_readsSigns 261 = .ok (.goto (-98), 3) := by decide +kernel
theorem dX12_readsSigns_264 : decode cX12_readsSigns 264 = .ok (.aload_n 0, 1) := by decide +kernel
theorem dX12_readsSigns_265 : decode cX12_readsSigns 265 = .ok (.invokevirtual 111, 3) := by decide +kernel
theorem dX12_readsSigns_268 : decode cX12_readsSigns 268 = .ok (.iconst 1, 1) := by decide +kernel
theorem dX12_readsSigns_269 : decode cX12_readsSigns 269 = .ok (.ireturn, 1) := by decide +kernel
theorem dX12_anew_0 : decode cX12_anew 0 = .ok (.aload_n 0, 1) := by decide +kernel
theorem dX12_anew_1 : decode cX12_anew 1 = .ok (.getfield 7, 3) := by decide +kernel
theorem dX12_anew_4 : decode cX12_anew 4 = .ok (.iconst 0, 1) := by decide +kernel
theorem dX12_anew_5 : decode cX12_anew 5 = .ok (.iload_n 1, 1) := by decide +kernel
theorem dX12_anew_6 : decode cX12_anew 6 = .ok (.iastore, 1) := by decide +kernel
theorem dX12_anew_7 : decode cX12_anew 7 = .ok (.aload_n 0, 1) := by decide +kernel
theorem dX12_anew_8 : decode cX12_anew 8 = .ok (.invokevirtual 53, 3) := by decide +kernel
theorem dX12_anew_11 : decode cX12_anew 11 = .ok (.return_, 1) := by decide +kernel
theorem dX12_readsPoint_0 : decode cX12_readsPoint 0 = .ok (.aload_n 0, 1) := by decide +kernel
theorem dX12_readsPoint_1 : decode cX12_readsPoint 1 = .ok (.iconst 3, 1) := by decide +kernel
theorem dX12_readsPoint_2 : decode cX12_readsPoint 2 = .ok (.iconst 0, 1) := by decide +kernel
theorem dX12_readsPoint_3 : decode cX12_readsPoint 3 = .ok (.aload_n 0, 1) := by decide +kernel
theorem dX12_readsPoint_4 : decode cX12_readsPoint 4 = .ok (.getfield 122, 3) := by decide +kernel
theorem dX12_readsPoint_7 : decode cX12_readsPoint 7 = .ok (.iconst 1, 1) := by decide +kernel
theorem dX12_readsPoint_8 : decode cX12_readsPoint 8 = .ok (.isub, 1) := by decide +kernel
theorem dX12_readsPoint_9 : decode cX12_readsPoint 9 = .ok (.invokevirtual 114, 3) := by decide +kernel
theorem dX12_readsPoint_12 : decode cX12_readsPoint 12 = .ok (.ifCond .ne 5, 3) := by decide +kernel
theorem dX12_readsPoint_15 : decode cX12_readsPoint 15 = .ok (.iconst 0, 1) := by decide +kernel
theorem dX12_readsPoint_16 : decode cX12_readsPoint 16 = .ok (.ireturn, 1) := by decide +kernel
theorem dX12_readsPoint_17 : decode cX12_readsPoint 17 = .ok (.iconst 0, 1) := by decide +kernel
theorem dX12_readsPoint_18 : decode cX12_readsPoint 18 = .ok (.istore_n 1, 1) := by decide +kernel
theorem dX12_readsPoint_19 : decode cX12_readsPoint 19 = .ok (.iload_n 1, 1) := by decide +kernel
theorem dX12_readsPoint_20 : decode cX12_readsPoint 20 = .ok (.iconst 3, 1) := by decide +kernel
theorem dX12_readsPoint_21 : decode cX12_readsPoint 21 = .ok (.if_icmp .ge 63, 3) := by decide +kernel
theorem dX12_readsPoint_24 : decode cX12_readsPoint 24 = .ok (.aload_n 0, 1) := by decide +kernel
theorem dX12_readsPoint_25 : decode cX12_readsPoint 25 = .ok (.bipush 45, 2) := by decide +kernel
theorem dX12_readsPoint_27 : decode cX12_readsPoint 27 = .ok (.invokevirtual 137, 3) := by decide +kernel
theorem dX12_readsPoint_30 : decode cX12_readsPoint 30 = .ok (.istore_n 2, 1) := by decide +kernel
theorem dX12_readsPoint_31 : decode cX12_readsPoint 31 = .ok (.iload_n 2, 1) := by decide +kernel
theorem dX12_readsPoint_32 : decode cX12_readsPoint 32 = .ok (.ifCond .eq 7, 3) := by decide +kernel
theorem dX12_readsPoint_35 : decode cX12_readsPoint 35 = .ok (.aload_n 0, 1) := by decide +kernel
theorem dX12_readsPoint_36 : decode cX12_readsPoint 36 = .ok (.invokevirtual 111, 3) := by decide +kernel
theorem dX12_readsPoint_39 : decode cX12_readsPoint 39 = .ok (.aload_n 0, 1) := by decide +kernel
theorem dX12_readsPoint_40 : decode cX12_readsPoint 40 = .ok (.iload_n 1, 1) := by decide +kernel
theorem dX12_readsPoint_41 : decode cX12_readsPoint 41 = .ok (.iconst 0, 1) := by decide +kernel
theorem dX12_readsPoint_42 : decode cX12_readsPoint 42 = .ok (.bipush 99, 2) := by decide +kernel
theorem dX12_readsPoint_44 : decode cX12_readsPoint 44 = .ok (.invokevirtual 114, 3) := by decide +kernel
theorem dX12_readsPoint_47 : decode cX12_readsPoint 47 = .ok (.ifCond .ne 5, 3) := by decide +kernel
theorem dX12_readsPoint_50 : decode cX12_readsPoint 50 = .ok (.iconst 0, 1) := by decide +kernel
theorem dX12_readsPoint_51 : decode cX12_readsPoint 51 = .ok (.ireturn, 1) := by decide +kernel
theorem dX12_readsPoint_52 : decode cX12_readsPoint 52 = .ok (.aload_n 0, 1) := by decide +kernel
theorem dX12_readsPoint_53 : decode cX12_readsPoint 53 = .ok (.getfield 32, 3) := by decide +kernel
theorem dX12_readsPoint_56 : decode cX12_readsPoint 56 = .ok (.iload_n 1, 1) := by decide +kernel
theorem dX12_readsPoint_57 : decode cX12_readsPoint 57 = .ok (.iload_n 2, 1) := by decide +kernel
theorem dX12_readsPoint_58 : decode cX12_readsPoint 58 = .ok (.ifCond .eq 13, 3) := by decide +kernel
theorem dX12_readsPoint_61 : decode cX12_readsPoint 61 = .ok (.aload_n 0, 1) := by decide +kernel
theorem dX12_readsPoint_62 : decode cX12_readsPoint 62 = .ok (.getfield 32, 3) := by decide +kernel
theorem dX12_readsPoint_65 : decode cX12_readsPoint 65 = .ok (.iload_n 1, 1) := by decide +kernel
theorem dX12_readsPoint_66 : decode cX12_readsPoint 66 = .ok (.iaload, 1) := by decide +kernel
theorem dX12_readsPoint_67 : decode cX12_readsPoint 67 = .ok (.ineg, 1) := by decide +kernel
theorem dX12_readsPoint_68 : decode cX12_readsPoint 68 = .ok (.goto 9, 3) := by decide +kernel
theorem dX12_readsPoint_71 : decode cX12_readsPoint 71 = .ok (.aload_n 0, 1) := by decide +kernel
theorem dX12_readsPoint_72 : decode cX12_readsPoint 72 = .ok (.getfield 32, 3) := by decide +kernel
theorem dX12_readsPoint_75 : decode cX12_readsPoint 75 = .ok (.iload_n 1, 1) := by decide +kernel
theorem dX12_readsPoint_76 : decode cX12_readsPoint 76 = .ok (.iaload, 1) := by decide +kernel
theorem dX12_readsPoint_77 : decode cX12_readsPoint 77 = .ok (.iastore, 1) := by decide +kernel
theorem dX12_readsPoint_78 : decode cX12_readsPoint 78 = .ok (.iinc 1 1, 3) := by decide +kernel
theorem dX12_readsPoint_81 : decode cX12_readsPoint 81 = .ok (.goto (-62), 3) := by decide +kernel
theorem dX12_readsPoint_84 : decode cX12_readsPoint 84 = .ok (.iconst 0, 1) := by decide +kernel
theorem dX12_readsPoint_85 : decode cX12_readsPoint 85 = .ok (.istore_n 1, 1) := by decide +kernel
theorem dX12_readsPoint_86 : decode cX12_readsPoint 86 = .ok (.iload_n 1, 1) := by decide +kernel
theorem dX12_readsPoint_87 : decode cX12_readsPoint 87 = .ok (.iconst 3, 1) := by decide +kernel
theorem dX12_readsPoint_88 : decode cX12_readsPoint 88 = .ok (.if_icmp .ge 40, 3) := by decide +kernel
theorem dX12_readsPoint_91 : decode cX12_readsPoint 91 = .ok (.aload_n 0, 1) := by decide +kernel
theorem dX12_readsPoint_92 : decode cX12_readsPoint 92 = .ok (.getfield 125, 3) := by decide +kernel
theorem dX12_readsPoint_95 : decode cX12_readsPoint 95 = .ok (.ifCond .eq 33, 3) := by decide +kernel
theorem dX12_readsPoint_98 : decode cX12_readsPoint 98 = .ok (.aload_n 0, 1) := by decide +kernel
theorem dX12_readsPoint_99 : decode cX12_readsPoint 99 = .ok (.getfield 7, 3) := by decide +kernel
theorem dX12_readsPoint_102 : decode cX12_readsPoint 102 = .ok (.bipush 21, 2) := by decide +kernel
theorem dX12_readsPoint_104 : decode cX12_readsPoint 104 = .ok (.iconst 3, 1) := by decide +kernel
theorem dX12_readsPoint_105 : decode cX12_readsPoint 105 = .ok (.aload_n 0, 1) := by decide +kernel
theorem dX12_readsPoint_106 : decode cX12_readsPoint 106 = .ok (.getfield 32, 3) := by decide +kernel
theorem dX12_readsPoint_109 : decode cX12_readsPoint 109 = .ok (.iconst 3, 1) := by decide +kernel
theorem dX12_readsPoint_110 : decode cX12_readsPoint 110 = .ok (.iaload, 1) := by decide +kernel
theorem dX12_readsPoint_111 : decode cX12_readsPoint 111 = .ok (.imul, 1) := by decide +kernel
theorem dX12_readsPoint_112 : decode cX12_readsPoint 112 = .ok (.iadd, 1) := by decide +kernel
theorem dX12_readsPoint_113 : decode cX12_readsPoint 113 = .ok (.iload_n 1, 1) := by decide +kernel
theorem dX12_readsPoint_114 : decode cX12_readsPoint 114 = .ok (.iadd, 1) := by decide +kernel
theorem dX12_readsPoint_115 : decode cX12_readsPoint 115 = .ok (.aload_n 0, 1) := by decide +kernel
theorem dX12_readsPoint_116 : decode cX12_readsPoint 116 = .ok (.getfield 32, 3) := by decide +kernel
theorem dX12_readsPoint_119 : decode cX12_readsPoint 119 = .ok (.iload_n 1, 1) := by decide +kernel
theorem dX12_readsPoint_120 : decode cX12_readsPoint 120 = .ok (.iaload, 1) := by decide +kernel
theorem dX12_readsPoint_121 : decode cX12_readsPoint 121 = .ok (.iastore, 1) := by decide +kernel
theorem dX12_readsPoint_122 : decode cX12_readsPoint 122 = .ok (.iinc 1 1, 3) := by decide +kernel
theorem dX12_readsPoint_125 : decode cX12_readsPoint 125 = .ok (.goto (-39), 3) := by decide +kernel
theorem dX12_readsPoint_128 : decode cX12_readsPoint 128 = .ok (.iconst 1, 1) := by decide +kernel
theorem dX12_readsPoint_129 : decode cX12_readsPoint 129 = .ok (.ireturn, 1) := by decide +kernel
theorem dX12_readsSwap_0 : decode cX12_readsSwap 0 = .ok (.aload_n 0, 1) := by decide +kernel
theorem dX12_readsSwap_1 : decode cX12_readsSwap 1 = .ok (.iconst 0, 1) := by decide +kernel
theorem dX12_readsSwap_2 : decode cX12_readsSwap 2 = .ok (.iconst 0, 1) := by decide +kernel
theorem dX12_readsSwap_3 : decode cX12_readsSwap 3 = .ok (.aload_n 0, 1) := by decide +kernel
theorem dX12_readsSwap_4 : decode cX12_readsSwap 4 = .ok (.getfield 122, 3) := by decide +kernel
theorem dX12_readsSwap_7 : decode cX12_readsSwap 7 = .ok (.iconst 1, 1) := by decide +kernel
theorem dX12_readsSwap_8 : decode cX12_readsSwap 8 = .ok (.isub, 1) := by decide +kernel
theorem dX12_readsSwap_9 : decode cX12_readsSwap 9 = .ok (.invokevirtual 114, 3) := by decide +kernel
theorem dX12_readsSwap_12 : decode cX12_readsSwap 12 = .ok (.ifCond .ne 5, 3) := by decide +kernel
theorem dX12_readsSwap_15 : decode cX12_readsSwap 15 = .ok (.iconst 0, 1) := by decide +kernel
theorem dX12_readsSwap_16 : decode cX12_readsSwap 16 = .ok (.ireturn, 1) := by decide +kernel
theorem dX12_readsSwap_17 : decode cX12_readsSwap 17 = .ok (.aload_n 0, 1) := by decide +kernel
theorem dX12_readsSwap_18 : decode cX12_readsSwap 18 = .ok (.getfield 32, 3) := by decide +kernel
theorem dX12_readsSwap_21 : decode cX12_readsSwap 21 = .ok (.iconst 0, 1) := by decide +kernel
theorem dX12_readsSwap_22 : decode cX12_readsSwap 22 = .ok (.iaload, 1) := by decide +kernel
theorem dX12_readsSwap_23 : decode cX12_readsSwap 23 = .ok (.istore_n 1, 1) := by decide +kernel
theorem dX12_readsSwap_24 : decode cX12_readsSwap 24 = .ok (.aload_n 0, 1) := by decide +kernel
theorem dX12_readsSwap_25 : decode cX12_readsSwap 25 = .ok (.getfield 102, 3) := by decide +kernel
theorem dX12_readsSwap_28 : decode cX12_readsSwap 28 = .ok (.aload_n 0, 1) := by decide +kernel
theorem dX12_readsSwap_29 : decode cX12_readsSwap 29 = .ok (.getfield 87, 3) := by decide +kernel
theorem dX12_readsSwap_32 : decode cX12_readsSwap 32 = .ok (.if_icmp .ge 41, 3) := by decide +kernel
theorem dX12_readsSwap_35 : decode cX12_readsSwap 35 = .ok (.aload_n 0, 1) := by decide +kernel
theorem dX12_readsSwap_36 : decode cX12_readsSwap 36 = .ok (.getfield 17, 3) := by decide +kernel
theorem dX12_readsSwap_39 : decode cX12_readsSwap 39 = .ok (.aload_n 0, 1) := by decide +kernel
theorem dX12_readsSwap_40 : decode cX12_readsSwap 40 = .ok (.getfield 102, 3) := by decide +kernel
theorem dX12_readsSwap_43 : decode cX12_readsSwap 43 = .ok (.iaload, 1) := by decide +kernel
theorem dX12_readsSwap_44 : decode cX12_readsSwap 44 = .ok (.invokestatic 108, 3) := by decide +kernel
theorem dX12_readsSwap_47 : decode cX12_readsSwap 47 = .ok (.ifCond .eq 26, 3) := by decide +kernel
theorem dX12_readsSwap_50 : decode cX12_readsSwap 50 = .ok (.aload_n 0, 1) := by decide +kernel
theorem dX12_readsSwap_51 : decode cX12_readsSwap 51 = .ok (.getfield 99, 3) := by decide +kernel
theorem dX12_readsSwap_54 : decode cX12_readsSwap 54 = .ok (.aload_n 0, 1) := by decide +kernel
theorem dX12_readsSwap_55 : decode cX12_readsSwap 55 = .ok (.getfield 102, 3) := by decide +kernel
theorem dX12_readsSwap_58 : decode cX12_readsSwap 58 = .ok (.isub, 1) := by decide +kernel
theorem dX12_readsSwap_59 : decode cX12_readsSwap 59 = .ok (.iconst 3, 1) := by decide +kernel
theorem dX12_readsSwap_60 : decode cX12_readsSwap 60 = .ok (.if_icmp .ge 13, 3) := by decide +kernel
theorem dX12_readsSwap_63 : decode cX12_readsSwap 63 = .ok (.aload_n 0, 1) := by decide +kernel
theorem dX12_readsSwap_64 : decode cX12_readsSwap 64 = .ok (.invokevirtual 140, 3) := by decide +kernel
theorem dX12_readsSwap_67 : decode cX12_readsSwap 67 = .ok (.iload_n 1, 1) := by decide +kernel
theorem dX12_readsSwap_68 : decode cX12_readsSwap 68 = .ok (.if_icmp .ne 5, 3) := by decide +kernel
theorem dX12_readsSwap_71 : decode cX12_readsSwap 71 = .ok (.iconst 0, 1) := by decide +kernel
theorem dX12_readsSwap_72 : decode cX12_readsSwap 72 = .ok (.ireturn, 1) := by decide +kernel
theorem dX12_readsSwap_73 : decode cX12_readsSwap 73 = .ok (.aload_n 0, 1) := by decide +kernel
theorem dX12_readsSwap_74 : decode cX12_readsSwap 74 = .ok (.iconst 1, 1) := by decide +kernel
theorem dX12_readsSwap_75 : decode cX12_readsSwap 75 = .ok (.iconst 0, 1) := by decide +kernel
theorem dX12_readsSwap_76 : decode cX12_readsSwap 76 = .ok (.aload_n 0, 1) := by decide +kernel
theorem dX12_readsSwap_77 : decode cX12_readsSwap 77 = .ok (.getfield 122, 3) := by decide +kernel
theorem dX12_readsSwap_80 : decode cX12_readsSwap 80 = .ok (.iconst 1, 1) := by decide +kernel
theorem dX12_readsSwap_81 : decode cX12_readsSwap 81 = .ok (.isub, 1) := by decide +kernel
theorem dX12_readsSwap_82 : decode cX12_readsSwap 82 = .ok (.invokevirtual 114, 3) := by decide +kernel
theorem dX12_readsSwap_85 : decode cX12_readsSwap 85 = .ok (.ifCond .ne 5, 3) := by decide +kernel
theorem dX12_readsSwap_88 : decode cX12_readsSwap 88 = .ok (.iconst 0, 1) := by decide +kernel
theorem dX12_readsSwap_89 : decode cX12_readsSwap 89 = .ok (.ireturn, 1) := by decide +kernel
theorem dX12_readsSwap_90 : decode cX12_readsSwap 90 = .ok (.aload_n 0, 1) := by decide +kernel
theorem dX12_readsSwap_91 : decode cX12_readsSwap 91 = .ok (.getfield 125, 3) := by decide +kernel
theorem dX12_readsSwap_94 : decode cX12_readsSwap 94 = .ok (.ifCond .eq 15, 3) := by decide +kernel
theorem dX12_readsSwap_97 : decode cX12_readsSwap 97 = .ok (.aload_n 0, 1) := by decide +kernel
theorem dX12_readsSwap_98 : decode cX12_readsSwap 98 = .ok (.iload_n 1, 1) := by decide +kernel
theorem dX12_readsSwap_99 : decode cX12_readsSwap 99 = .ok (.aload_n 0, 1) := by decide +kernel
theorem dX12_readsSwap_100 : decode cX12_readsSwap 100 = .ok (.getfield 32, 3) := by decide +kernel
theorem dX12_readsSwap_103 : decode cX12_readsSwap 103 = .ok (.iconst 1, 1) := by decide +kernel
theorem dX12_readsSwap_104 : decode cX12_readsSwap 104 = .ok (.iaload, 1) := by decide +kernel
theorem dX12_readsSwap_105 : decode cX12_readsSwap 105 = .ok (.invokevirtual 143, 3) := by decide +kernel
theorem dX12_readsSwap_108 : decode cX12_readsSwap 108 = .ok (.pop, 1) := by decide +kernel
theorem dX12_readsSwap_109 : decode cX12_readsSwap 109 = .ok (.iconst 1, 1) := by decide +kernel
theorem dX12_readsSwap_110 : decode cX12_readsSwap 110 = .ok (.ireturn, 1) := by decide +kernel
theorem dX12_valueHere_0 : decode cX12_valueHere 0 = .ok (.iconst 0, 1) := by decide +kernel
theorem dX12_valueHere_1 : decode cX12_valueHere 1 = .ok (.istore_n 1, 1) := by decide +kernel
theorem dX12_valueHere_2 : decode cX12_valueHere 2 = .ok (.aload_n 0, 1) := by decide +kernel
theorem dX12_valueHere_3 : decode cX12_valueHere 3 = .ok (.getfield 102, 3) := by decide +kernel
theorem dX12_valueHere_6 : decode cX12_valueHere 6 = .ok (.istore_n 2, 1) := by decide +kernel
theorem dX12_valueHere_7 : decode cX12_valueHere 7 = .ok (.iload_n 2, 1) := by decide +kernel
theorem dX12_valueHere_8 : decode cX12_valueHere 8 = .ok (.aload_n 0, 1) := by decide +kernel
theorem dX12_valueHere_9 : decode cX12_valueHere 9 = .ok (.getfield 99, 3) := by decide +kernel
theorem dX12_valueHere_12 : decode cX12_valueHere 12 = .ok (.if_icmp .ge 24, 3) := by decide +kernel
theorem dX12_valueHere_15 : decode cX12_valueHere 15 = .ok (.bipush 10, 2) := by decide +kernel
theorem dX12_valueHere_17 : decode cX12_valueHere 17 = .ok (.iload_n 1, 1) := by decide +kernel
theorem dX12_valueHere_18 : decode cX12_valueHere 18 = .ok (.imul, 1) := by decide +kernel
theorem dX12_valueHere_19 : decode cX12_valueHere 19 = .ok (.aload_n 0, 1) := by decide +kernel
theorem dX12_valueHere_20 : decode cX12_valueHere 20 = .ok (.getfield 17, 3) := by decide +kernel
theorem dX12_valueHere_23 : decode cX12_valueHere 23 = .ok (.iload_n 2, 1) := by decide +kernel
theorem dX12_valueHere_24 : decode cX12_valueHere 24 = .ok (.iaload, 1) := by decide +kernel
theorem dX12_valueHere_25 : decode cX12_valueHere 25 = .ok (.iadd, 1) := by decide +kernel
theorem dX12_valueHere_26 : decode cX12_valueHere 26 = .ok (.bipush 48, 2) := by decide +kernel
theorem dX12_valueHere_28 : decode cX12_valueHere 28 = .ok (.isub, 1) := by decide +kernel
theorem dX12_valueHere_29 : decode cX12_valueHere 29 = .ok (.istore_n 1, 1) := by decide +kernel
theorem dX12_valueHere_30 : decode cX12_valueHere 30 = .ok (.iinc 2 1, 3) := by decide +kernel
theorem dX12_valueHere_33 : decode cX12_valueHere 33 = .ok (.goto (-26), 3) := by decide +kernel
theorem dX12_valueHere_36 : decode cX12_valueHere 36 = .ok (.iload_n 1, 1) := by decide +kernel
theorem dX12_valueHere_37 : decode cX12_valueHere 37 = .ok (.ireturn, 1) := by decide +kernel
theorem dX12_readsClause_0 : decode cX12_readsClause 0 = .ok (.aload_n 0, 1) := by decide +kernel
theorem dX12_readsClause_1 : decode cX12_readsClause 1 = .ok (.bipush 115, 2) := by decide +kernel
theorem dX12_readsClause_3 : decode cX12_readsClause 3 = .ok (.bipush 105, 2) := by decide +kernel
theorem dX12_readsClause_5 : decode cX12_readsClause 5 = .ok (.bipush 103, 2) := by decide +kernel
theorem dX12_readsClause_7 : decode cX12_readsClause 7 = .ok (.bipush 110, 2) := by decide +kernel
theorem dX12_readsClause_9 : decode cX12_readsClause 9 = .ok (.bipush 115, 2) := by decide +kernel
theorem dX12_readsClause_11 : decode cX12_readsClause 11 = .ok (.invokevirtual 146, 3) := by decide +kernel
theorem dX12_readsClause_14 : decode cX12_readsClause 14 = .ok (.ifCond .eq 12, 3) := by decide +kernel
theorem dX12_readsClause_17 : decode cX12_readsClause 17 = .ok (.aload_n 0, 1) := by decide +kernel
theorem dX12_readsClause_18 : decode cX12_readsClause 18 = .ok (.invokevirtual 111, 3) := by decide +kernel
theorem dX12_readsClause_21 : decode cX12_readsClause 21 = .ok (.aload_n 0, 1) := by decide +kernel
theorem dX12_readsClause_22 : decode cX12_readsClause 22 = .ok (.invokevirtual 150, 3) := by decide +kernel
theorem dX12_readsClause_25 : decode cX12_readsClause 25 = .ok (.ireturn, 1) := by decide +kernel
theorem dX12_readsClause_26 : decode cX12_readsClause 26 = .ok (.aload_n 0, 1) := by decide +kernel
theorem dX12_readsClause_27 : decode cX12_readsClause 27 = .ok (.bipush 112, 2) := by decide +kernel
theorem dX12_readsClause_29 : decode cX12_readsClause 29 = .ok (.bipush 111, 2) := by decide +kernel
theorem dX12_readsClause_31 : decode cX12_readsClause 31 = .ok (.bipush 105, 2) := by decide +kernel
theorem dX12_readsClause_33 : decode cX12_readsClause 33 = .ok (.bipush 110, 2) := by decide +kernel
theorem dX12_readsClause_35 : decode cX12_readsClause 35 = .ok (.bipush 116, 2) := by decide +kernel
theorem dX12_readsClause_37 : decode cX12_readsClause 37 = .ok (.invokevirtual 146, 3) := by decide +kernel
theorem dX12_readsClause_40 : decode cX12_readsClause 40 = .ok (.ifCond .eq 12, 3) := by decide +kernel
theorem dX12_readsClause_43 : decode cX12_readsClause 43 = .ok (.aload_n 0, 1) := by decide +kernel
theorem dX12_readsClause_44 : decode cX12_readsClause 44 = .ok (.invokevirtual 111, 3) := by decide +kernel
theorem dX12_readsClause_47 : decode cX12_readsClause 47 = .ok (.aload_n 0, 1) := by decide +kernel
theorem dX12_readsClause_48 : decode cX12_readsClause 48 = .ok (.invokevirtual 154, 3) := by decide +kernel
theorem dX12_readsClause_51 : decode cX12_readsClause 51 = .ok (.ireturn, 1) := by decide +kernel
theorem dX12_readsClause_52 : decode cX12_readsClause 52 = .ok (.aload_n 0, 1) := by decide +kernel
theorem dX12_readsClause_53 : decode cX12_readsClause 53 = .ok (.bipush 102, 2) := by decide +kernel
theorem dX12_readsClause_55 : decode cX12_readsClause 55 = .ok (.bipush 108, 2) := by decide +kernel
theorem dX12_readsClause_57 : decode cX12_readsClause 57 = .ok (.bipush 105, 2) := by decide +kernel
theorem dX12_readsClause_59 : decode cX12_readsClause 59 = .ok (.bipush 112, 2) := by decide +kernel
theorem dX12_readsClause_61 : decode cX12_readsClause 61 = .ok (.iconst 0, 1) := by decide +kernel
theorem dX12_readsClause_62 : decode cX12_readsClause 62 = .ok (.invokevirtual 146, 3) := by decide +kernel
theorem dX12_readsClause_65 : decode cX12_readsClause 65 = .ok (.ifCond .eq 44, 3) := by decide +kernel
theorem dX12_readsClause_68 : decode cX12_readsClause 68 = .ok (.aload_n 0, 1) := by decide +kernel
theorem dX12_readsClause_69 : decode cX12_readsClause 69 = .ok (.invokevirtual 111, 3) := by decide +kernel
theorem dX12_readsClause_72 : decode cX12_readsClause 72 = .ok (.aload_n 0, 1) := by decide +kernel
theorem dX12_readsClause_73 : decode cX12_readsClause 73 = .ok (.iconst 0, 1) := by decide +kernel
theorem dX12_readsClause_74 : decode cX12_readsClause 74 = .ok (.iconst 0, 1) := by decide +kernel
theorem dX12_readsClause_75 : decode cX12_readsClause 75 = .ok (.aload_n 0, 1) := by decide +kernel
theorem dX12_readsClause_76 : decode cX12_readsClause 76 = .ok (.getfield 122, 3) := by decide +kernel
theorem dX12_readsClause_79 : decode cX12_readsClause 79 = .ok (.iconst 1, 1) := by decide +kernel
theorem dX12_readsClause_80 : decode cX12_readsClause 80 = .ok (.isub, 1) := by decide +kernel
theorem dX12_readsClause_81 : decode cX12_readsClause 81 = .ok (.invokevirtual 114, 3) := by decide +kernel
theorem dX12_readsClause_84 : decode cX12_readsClause 84 = .ok (.istore_n 1, 1) := by decide +kernel
theorem dX12_readsClause_85 : decode cX12_readsClause 85 = .ok (.iload_n 1, 1) := by decide +kernel
theorem dX12_readsClause_86 : decode cX12_readsClause 86 = .ok (.ifCond .eq 21, 3) := by decide +kernel
theorem dX12_readsClause_89 : decode cX12_readsClause 89 = .ok (.aload_n 0, 1) := by decide +kernel
theorem dX12_readsClause_90 : decode cX12_readsClause 90 = .ok (.getfield 125, 3) := by decide +kernel
theorem dX12_readsClause_93 : decode cX12_readsClause 93 = .ok (.ifCond .eq 14, 3) := by decide +kernel
theorem dX12_readsClause_96 : decode cX12_readsClause 96 = .ok (.aload_n 0, 1) := by decide +kernel
theorem dX12_readsClause_97 : decode cX12_readsClause 97 = .ok (.aload_n 0, 1) := by decide +kernel
theorem dX12_readsClause_98 : decode cX12_readsClause 98 = .ok (.getfield 32, 3) := by decide +kernel
theorem dX12_readsClause_101 : decode cX12_readsClause 101 = .ok (.iconst 0, 1) := by decide +kernel
theorem dX12_readsClause_102 : decode cX12_readsClause 102 = .ok (.iaload, 1) := by decide +kernel
theorem dX12_readsClause_103 : decode cX12_readsClause 103 = .ok (.invokevirtual 157, 3) := by decide +kernel
theorem dX12_readsClause_106 : decode cX12_readsClause 106 = .ok (.pop, 1) := by decide +kernel
theorem dX12_readsClause_107 : decode cX12_readsClause 107 = .ok (.iload_n 1, 1) := by decide +kernel
theorem dX12_readsClause_108 : decode cX12_readsClause 108 = .ok (.ireturn, 1) := by decide +kernel
theorem dX12_readsClause_109 : decode cX12_readsClause 109 = .ok (.aload_n 0, 1) := by decide +kernel
theorem dX12_readsClause_110 : decode cX12_readsClause 110 = .ok (.bipush 115, 2) := by decide +kernel
theorem dX12_readsClause_112 : decode cX12_readsClause 112 = .ok (.bipush 119, 2) := by decide +kernel
theorem dX12_readsClause_114 : decode cX12_readsClause 114 = .ok (.bipush 97, 2) := by decide +kernel
theorem dX12_readsClause_116 : decode cX12_readsClause 116 = .ok (.bipush 112, 2) := by decide +kernel
theorem dX12_readsClause_118 : decode cX12_readsClause 118 = .ok (.iconst 0, 1) := by decide +kernel
theorem dX12_readsClause_119 : decode cX12_readsClause 119 = .ok (.invokevirtual 146, 3) := by decide +kernel
theorem dX12_readsClause_122 : decode cX12_readsClause 122 = .ok (.ifCond .eq 12, 3) := by decide +kernel
theorem dX12_readsClause_125 : decode cX12_readsClause 125 = .ok (.aload_n 0, 1) := by decide +kernel
theorem dX12_readsClause_126 : decode cX12_readsClause 126 = .ok (.invokevirtual 111, 3) := by decide +kernel
theorem dX12_readsClause_129 : decode cX12_readsClause 129 = .ok (.aload_n 0, 1) := by decide +kernel
theorem dX12_readsClause_130 : decode cX12_readsClause 130 = .ok (.invokevirtual 160, 3) := by decide +kernel
theorem dX12_readsClause_133 : decode cX12_readsClause 133 = .ok (.ireturn, 1) := by decide +kernel
theorem dX12_readsClause_134 : decode cX12_readsClause 134 = .ok (.aload_n 0, 1) := by decide +kernel
theorem dX12_readsClause_135 : decode cX12_readsClause 135 = .ok (.bipush 100, 2) := by decide +kernel
theorem dX12_readsClause_137 : decode cX12_readsClause 137 = .ok (.bipush 114, 2) := by decide +kernel
theorem dX12_readsClause_139 : decode cX12_readsClause 139 = .ok (.bipush 97, 2) := by decide +kernel
theorem dX12_readsClause_141 : decode cX12_readsClause 141 = .ok (.bipush 119, 2) := by decide +kernel
theorem dX12_readsClause_143 : decode cX12_readsClause 143 = .ok (.iconst 0, 1) := by decide +kernel
theorem dX12_readsClause_144 : decode cX12_readsClause 144 = .ok (.invokevirtual 146, 3) := by decide +kernel
theorem dX12_readsClause_147 : decode cX12_readsClause 147 = .ok (.ifCond .eq 21, 3) := by decide +kernel
theorem dX12_readsClause_150 : decode cX12_readsClause 150 = .ok (.aload_n 0, 1) := by decide +kernel
theorem dX12_readsClause_151 : decode cX12_readsClause 151 = .ok (.invokevirtual 111, 3) := by decide +kernel
theorem dX12_readsClause_154 : decode cX12_readsClause 154 = .ok (.aload_n 0, 1) := by decide +kernel
theorem dX12_readsClause_155 : decode cX12_readsClause 155 = .ok (.getfield 125, 3) := by decide +kernel
theorem dX12_readsClause_158 : decode cX12_readsClause 158 = .ok (.ifCond .eq 8, 3) := by decide +kernel
theorem dX12_readsClause_161 : decode cX12_readsClause 161 = .ok (.aload_n 0, 1) := by decide +kernel
theorem dX12_readsClause_162 : decode cX12_readsClause 162 = .ok (.invokevirtual 163, 3) := by decide +kernel
theorem dX12_readsClause_165 : decode cX12_readsClause 165 = .ok (.pop, 1) := by decide +kernel
theorem dX12_readsClause_166 : decode cX12_readsClause 166 = .ok (.iconst 1, 1) := by decide +kernel
theorem dX12_readsClause_167 : decode cX12_readsClause 167 = .ok (.ireturn, 1) := by decide +kernel
theorem dX12_readsClause_168 : decode cX12_readsClause 168 = .ok (.iconst 0, 1) := by decide +kernel
theorem dX12_readsClause_169 : decode cX12_readsClause 169 = .ok (.ireturn, 1) := by decide +kernel
theorem dX12_readsAll_0 : decode cX12_readsAll 0 = .ok (.aload_n 0, 1) := by decide +kernel
theorem dX12_readsAll_1 : decode cX12_readsAll 1 = .ok (.iload_n 1, 1) := by decide +kernel
theorem dX12_readsAll_2 : decode cX12_readsAll 2 = .ok (.putfield 125, 3) := by decide +kernel
theorem dX12_readsAll_5 : decode cX12_readsAll 5 = .ok (.aload_n 0, 1) := by decide +kernel
theorem dX12_readsAll_6 : decode cX12_readsAll 6 = .ok (.iconst 0, 1) := by decide +kernel
theorem dX12_readsAll_7 : decode cX12_readsAll 7 = .ok (.putfield 99, 3) := by decide +kernel
theorem dX12_readsAll_10 : decode cX12_readsAll 10 = .ok (.aload_n 0, 1) := by decide +kernel
theorem dX12_readsAll_11 : decode cX12_readsAll 11 = .ok (.iconst 1, 1) := by decide +kernel
theorem dX12_readsAll_12 : decode cX12_readsAll 12 = .ok (.putfield 166, 3) := by decide +kernel
theorem dX12_readsAll_15 : decode cX12_readsAll 15 = .ok (.aload_n 0, 1) := by decide +kernel
theorem dX12_readsAll_16 : decode cX12_readsAll 16 = .ok (.aload_n 0, 1) := by decide +kernel
theorem dX12_readsAll_17 : decode cX12_readsAll 17 = .ok (.invokevirtual 73, 3) := by decide +kernel
theorem dX12_readsAll_20 : decode cX12_readsAll 20 = .ok (.putfield 122, 3) := by decide +kernel
theorem dX12_readsAll_23 : decode cX12_readsAll 23 = .ok (.aload_n 0, 1) := by decide +kernel
theorem dX12_readsAll_24 : decode cX12_readsAll 24 = .ok (.invokevirtual 111, 3) := by decide +kernel
theorem dX12_readsAll_27 : decode cX12_readsAll 27 = .ok (.aload_n 0, 1) := by decide +kernel
theorem dX12_readsAll_28 : decode cX12_readsAll 28 = .ok (.invokevirtual 169, 3) := by decide +kernel
theorem dX12_readsAll_31 : decode cX12_readsAll 31 = .ok (.istore_n 2, 1) := by decide +kernel
theorem dX12_readsAll_32 : decode cX12_readsAll 32 = .ok (.iload_n 2, 1) := by decide +kernel
theorem dX12_readsAll_33 : decode cX12_readsAll 33 = .ok (.ifCond .eq 69, 3) := by decide +kernel
theorem dX12_readsAll_36 : decode cX12_readsAll 36 = .ok (.aload_n 0, 1) := by decide +kernel
theorem dX12_readsAll_37 : decode cX12_readsAll 37 = .ok (.getfield 102, 3) := by decide +kernel
theorem dX12_readsAll_40 : decode cX12_readsAll 40 = .ok (.aload_n 0, 1) := by decide +kernel
theorem dX12_readsAll_41 : decode cX12_readsAll 41 = .ok (.getfield 87, 3) := by decide +kernel
theorem dX12_readsAll_44 : decode cX12_readsAll 44 = .ok (.if_icmp .ge 58, 3) := by decide +kernel
theorem dX12_readsAll_47 : decode cX12_readsAll 47 = .ok (.aload_n 0, 1) := by decide +kernel
theorem dX12_readsAll_48 : decode cX12_readsAll 48 = .ok (.getfield 166, 3) := by decide +kernel
theorem dX12_readsAll_51 : decode cX12_readsAll 51 = .ok (.bipush 24, 2) := by decide +kernel
theorem dX12_readsAll_53 : decode cX12_readsAll 53 = .ok (.if_icmp .ge 21, 3) := by decide +kernel
theorem dX12_readsAll_56 : decode cX12_readsAll 56 = .ok (.aload_n 0, 1) := by decide +kernel
theorem dX12_readsAll_57 : decode cX12_readsAll 57 = .ok (.getfield 17, 3) := by decide +kernel
theorem dX12_readsAll_60 : decode cX12_readsAll 60 = .ok (.aload_n 0, 1) := by decide +kernel
theorem dX12_readsAll_61 : decode cX12_readsAll 61 = .ok (.getfield 102, 3) := by decide +kernel
theorem dX12_readsAll_64 : decode cX12_readsAll 64 = .ok (.iaload, 1) := by decide +kernel
theorem dX12_readsAll_65 : decode cX12_readsAll 65 = .ok (.bipush 59, 2) := by decide +kernel
theorem dX12_readsAll_67 : decode cX12_readsAll 67 = .ok (.if_icmp .ne 7, 3) := by decide +kernel
theorem dX12_readsAll_70 : decode cX12_readsAll 70 = .ok (.iconst 1, 1) := by decide +kernel
theorem dX12_readsAll_71 : decode cX12_readsAll 71 = .ok (.goto 4, 3) := by decide +kernel
theorem dX12_readsAll_74 : decode cX12_readsAll 74 = .ok (.iconst 0, 1) := by decide +kernel
theorem dX12_readsAll_75 : decode cX12_readsAll 75 = .ok (.istore_n 2, 1) := by decide +kernel
theorem dX12_readsAll_76 : decode cX12_readsAll 76 = .ok (.iload_n 2, 1) := by decide +kernel
theorem dX12_readsAll_77 : decode cX12_readsAll 77 = .ok (.ifCond .eq (-45), 3) := by decide +kernel
theorem dX12_readsAll_80 : decode cX12_readsAll 80 = .ok (.aload_n 0, 1) := by decide +kernel
theorem dX12_readsAll_81 : decode cX12_readsAll 81 = .ok (.invokevirtual 111, 3) := by decide +kernel
theorem dX12_readsAll_84 : decode cX12_readsAll 84 = .ok (.aload_n 0, 1) := by decide +kernel
theorem dX12_readsAll_85 : decode cX12_readsAll 85 = .ok (.invokevirtual 169, 3) := by decide +kernel
theorem dX12_readsAll_88 : decode cX12_readsAll 88 = .ok (.istore_n 2, 1) := by decide +kernel
theorem dX12_readsAll_89 : decode cX12_readsAll 89 = .ok (.aload_n 0, 1) := by decide +kernel
theorem dX12_readsAll_90 : decode cX12_readsAll 90 = .ok (.dup, 1) := by decide +kernel
theorem dX12_readsAll_91 : decode cX12_readsAll 91 = .ok (.getfield 166, 3) := by decide +kernel
theorem dX12_readsAll_94 : decode cX12_readsAll 94 = .ok (.iconst 1, 1) := by decide +kernel
theorem dX12_readsAll_95 : decode cX12_readsAll 95 = .ok (.iadd, 1) := by decide +kernel
theorem dX12_readsAll_96 : decode cX12_readsAll 96 = .ok (.putfield 166, 3) := by decide +kernel
theorem dX12_readsAll_99 : decode cX12_readsAll 99 = .ok (.goto (-67), 3) := by decide +kernel
theorem dX12_readsAll_102 : decode cX12_readsAll 102 = .ok (.iload_n 2, 1) := by decide +kernel
theorem dX12_readsAll_103 : decode cX12_readsAll 103 = .ok (.ireturn, 1) := by decide +kernel
theorem dX12_fault_0 : decode cX12_fault 0 = .ok (.aload_n 0, 1) := by decide +kernel
theorem dX12_fault_1 : decode cX12_fault 1 = .ok (.iconst 0, 1) := by decide +kernel
theorem dX12_fault_2 : decode cX12_fault 2 = .ok (.invokevirtual 172, 3) := by decide +kernel
theorem dX12_fault_5 : decode cX12_fault 5 = .ok (.ifCond .eq 7, 3) := by decide +kernel
theorem dX12_fault_8 : decode cX12_fault 8 = .ok (.iconst (-1), 1) := by decide +kernel
theorem dX12_fault_9 : decode cX12_fault 9 = .ok (.goto 7, 3) := by decide +kernel
theorem dX12_fault_12 : decode cX12_fault 12 = .ok (.aload_n 0, 1) := by decide +kernel
theorem dX12_fault_13 : decode cX12_fault 13 = .ok (.getfield 102, 3) := by decide +kernel
theorem dX12_fault_16 : decode cX12_fault 16 = .ok (.ireturn, 1) := by decide +kernel
theorem dX12_tell_0 : decode cX12_tell 0 = .ok (.aload_n 0, 1) := by decide +kernel
theorem dX12_tell_1 : decode cX12_tell 1 = .ok (.iconst 0, 1) := by decide +kernel
theorem dX12_tell_2 : decode cX12_tell 2 = .ok (.invokevirtual 172, 3) := by decide +kernel
theorem dX12_tell_5 : decode cX12_tell 5 = .ok (.ifCond .ne 7, 3) := by decide +kernel
theorem dX12_tell_8 : decode cX12_tell 8 = .ok (.sipush (-1003), 3) := by decide +kernel
theorem dX12_tell_11 : decode cX12_tell 11 = .ok (.ireturn, 1) := by decide +kernel
theorem dX12_tell_12 : decode cX12_tell 12 = .ok (.aload_n 0, 1) := by decide +kernel
theorem dX12_tell_13 : decode cX12_tell 13 = .ok (.iconst 1, 1) := by decide +kernel
theorem dX12_tell_14 : decode cX12_tell 14 = .ok (.invokevirtual 172, 3) := by decide +kernel
theorem dX12_tell_17 : decode cX12_tell 17 = .ok (.pop, 1) := by decide +kernel
theorem dX12_tell_18 : decode cX12_tell 18 = .ok (.aload_n 0, 1) := by decide +kernel
theorem dX12_tell_19 : decode cX12_tell 19 = .ok (.iconst 0, 1) := by decide +kernel
theorem dX12_tell_20 : decode cX12_tell 20 = .ok (.putfield 87, 3) := by decide +kernel
theorem dX12_tell_23 : decode cX12_tell 23 = .ok (.aload_n 0, 1) := by decide +kernel
