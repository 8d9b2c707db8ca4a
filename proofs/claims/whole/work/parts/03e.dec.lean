theorem dX12_tell_24 : decode cX12_tell 24 = .ok (.iconst 0, 1) := by decide +kernel
theorem dX12_tell_25 : decode cX12_tell 25 = .ok (.putfield 176, 3) := by decide +kernel
theorem dX12_tell_28 : decode cX12_tell 28 = .ok (.aload_n 0, 1) := by decide +kernel
theorem dX12_tell_29 : decode cX12_tell 29 = .ok (.getfield 13, 3) := by decide +kernel
theorem dX12_tell_32 : decode cX12_tell 32 = .ok (.iconst 0, 1) := by decide +kernel
theorem dX12_tell_33 : decode cX12_tell 33 = .ok (.iconst 0, 1) := by decide +kernel
theorem dX12_tell_34 : decode cX12_tell 34 = .ok (.bastore, 1) := by decide +kernel
theorem dX12_tell_35 : decode cX12_tell 35 = .ok (.aload_n 0, 1) := by decide +kernel
theorem dX12_tell_36 : decode cX12_tell 36 = .ok (.getfield 13, 3) := by decide +kernel
theorem dX12_tell_39 : decode cX12_tell 39 = .ok (.iconst 1, 1) := by decide +kernel
theorem dX12_tell_40 : decode cX12_tell 40 = .ok (.iconst 0, 1) := by decide +kernel
theorem dX12_tell_41 : decode cX12_tell 41 = .ok (.bastore, 1) := by decide +kernel
theorem dX12_tell_42 : decode cX12_tell 42 = .ok (.aload_n 0, 1) := by decide +kernel
theorem dX12_tell_43 : decode cX12_tell 43 = .ok (.getfield 166, 3) := by decide +kernel
theorem dX12_tell_46 : decode cX12_tell 46 = .ok (.ireturn, 1) := by decide +kernel
theorem dX12_sign_0 : decode cX12_sign 0 = .ok (.aload_n 0, 1) := by decide +kernel
theorem dX12_sign_1 : decode cX12_sign 1 = .ok (.iload_n 1, 1) := by decide +kernel
theorem dX12_sign_2 : decode cX12_sign 2 = .ok (.iload_n 2, 1) := by decide +kernel
theorem dX12_sign_3 : decode cX12_sign 3 = .ok (.iload_n 3, 1) := by decide +kernel
theorem dX12_sign_4 : decode cX12_sign 4 = .ok (.invokevirtual 179, 3) := by decide +kernel
theorem dX12_sign_7 : decode cX12_sign 7 = .ok (.ifCond .eq 13, 3) := by decide +kernel
theorem dX12_sign_10 : decode cX12_sign 10 = .ok (.aload_n 0, 1) := by decide +kernel
theorem dX12_sign_11 : decode cX12_sign 11 = .ok (.iload_n 1, 1) := by decide +kernel
theorem dX12_sign_12 : decode cX12_sign 12 = .ok (.iload_n 2, 1) := by decide +kernel
theorem dX12_sign_13 : decode cX12_sign 13 = .ok (.iload_n 3, 1) := by decide +kernel
theorem dX12_sign_14 : decode cX12_sign 14 = .ok (.invokevirtual 182, 3) := by decide +kernel
theorem dX12_sign_17 : decode cX12_sign 17 = .ok (.goto 6, 3) := by decide +kernel
theorem dX12_sign_20 : decode cX12_sign 20 = .ok (.sipush (-1001), 3) := by decide +kernel
theorem dX12_sign_23 : decode cX12_sign 23 = .ok (.ireturn, 1) := by decide +kernel
theorem dX12_turn_0 : decode cX12_turn 0 = .ok (.aload_n 0, 1) := by decide +kernel
theorem dX12_turn_1 : decode cX12_turn 1 = .ok (.iload_n 1, 1) := by decide +kernel
theorem dX12_turn_2 : decode cX12_turn 2 = .ok (.iload_n 2, 1) := by decide +kernel
theorem dX12_turn_3 : decode cX12_turn 3 = .ok (.iload_n 3, 1) := by decide +kernel
theorem dX12_turn_4 : decode cX12_turn 4 = .ok (.invokevirtual 179, 3) := by decide +kernel
theorem dX12_turn_7 : decode cX12_turn 7 = .ok (.ifCond .eq 13, 3) := by decide +kernel
theorem dX12_turn_10 : decode cX12_turn 10 = .ok (.aload_n 0, 1) := by decide +kernel
theorem dX12_turn_11 : decode cX12_turn 11 = .ok (.iload_n 1, 1) := by decide +kernel
theorem dX12_turn_12 : decode cX12_turn 12 = .ok (.iload_n 2, 1) := by decide +kernel
theorem dX12_turn_13 : decode cX12_turn 13 = .ok (.iload_n 3, 1) := by decide +kernel
theorem dX12_turn_14 : decode cX12_turn 14 = .ok (.invokevirtual 185, 3) := by decide +kernel
theorem dX12_turn_17 : decode cX12_turn 17 = .ok (.goto 6, 3) := by decide +kernel
theorem dX12_turn_20 : decode cX12_turn 20 = .ok (.sipush (-1001), 3) := by decide +kernel
theorem dX12_turn_23 : decode cX12_turn 23 = .ok (.ireturn, 1) := by decide +kernel
theorem dX12_point_0 : decode cX12_point 0 = .ok (.aload_n 0, 1) := by decide +kernel
theorem dX12_point_1 : decode cX12_point 1 = .ok (.iload_n 1, 1) := by decide +kernel
theorem dX12_point_2 : decode cX12_point 2 = .ok (.invokevirtual 81, 3) := by decide +kernel
theorem dX12_point_5 : decode cX12_point 5 = .ok (.ifCond .ne 7, 3) := by decide +kernel
theorem dX12_point_8 : decode cX12_point 8 = .ok (.sipush (-1001), 3) := by decide +kernel
theorem dX12_point_11 : decode cX12_point 11 = .ok (.ireturn, 1) := by decide +kernel
theorem dX12_point_12 : decode cX12_point 12 = .ok (.iload_n 2, 1) := by decide +kernel
theorem dX12_point_13 : decode cX12_point 13 = .ok (.i2l, 1) := by decide +kernel
theorem dX12_point_14 : decode cX12_point 14 = .ok (.lconst 0, 1) := by decide +kernel
theorem dX12_point_15 : decode cX12_point 15 = .ok (.ldc2_w 188, 3) := by decide +kernel
theorem dX12_point_18 : decode cX12_point 18 = .ok (.invokestatic 77, 3) := by decide +kernel
theorem dX12_point_21 : decode cX12_point 21 = .ok (.ifCond .eq 12, 3) := by decide +kernel
theorem dX12_point_24 : decode cX12_point 24 = .ok (.aload_n 0, 1) := by decide +kernel
theorem dX12_point_25 : decode cX12_point 25 = .ok (.iload_n 1, 1) := by decide +kernel
theorem dX12_point_26 : decode cX12_point 26 = .ok (.iload_n 2, 1) := by decide +kernel
theorem dX12_point_27 : decode cX12_point 27 = .ok (.invokevirtual 69, 3) := by decide +kernel
theorem dX12_point_30 : decode cX12_point 30 = .ok (.goto 6, 3) := by decide +kernel
theorem dX12_point_33 : decode cX12_point 33 = .ok (.sipush (-1002), 3) := by decide +kernel
theorem dX12_point_36 : decode cX12_point 36 = .ok (.ireturn, 1) := by decide +kernel
theorem dX12_copyRow_0 : decode cX12_copyRow 0 = .ok (.iconst 0, 1) := by decide +kernel
theorem dX12_copyRow_1 : decode cX12_copyRow 1 = .ok (.istore_n 3, 1) := by decide +kernel
theorem dX12_copyRow_2 : decode cX12_copyRow 2 = .ok (.iload_n 3, 1) := by decide +kernel
theorem dX12_copyRow_3 : decode cX12_copyRow 3 = .ok (.bipush 39, 2) := by decide +kernel
theorem dX12_copyRow_5 : decode cX12_copyRow 5 = .ok (.if_icmp .ge 25, 3) := by decide +kernel
theorem dX12_copyRow_8 : decode cX12_copyRow 8 = .ok (.aload_n 0, 1) := by decide +kernel
theorem dX12_copyRow_9 : decode cX12_copyRow 9 = .ok (.getfield 7, 3) := by decide +kernel
theorem dX12_copyRow_12 : decode cX12_copyRow 12 = .ok (.iload_n 2, 1) := by decide +kernel
theorem dX12_copyRow_13 : decode cX12_copyRow 13 = .ok (.iload_n 3, 1) := by decide +kernel
theorem dX12_copyRow_14 : decode cX12_copyRow 14 = .ok (.iadd, 1) := by decide +kernel
theorem dX12_copyRow_15 : decode cX12_copyRow 15 = .ok (.aload_n 0, 1) := by decide +kernel
theorem dX12_copyRow_16 : decode cX12_copyRow 16 = .ok (.getfield 7, 3) := by decide +kernel
theorem dX12_copyRow_19 : decode cX12_copyRow 19 = .ok (.iload_n 1, 1) := by decide +kernel
theorem dX12_copyRow_20 : decode cX12_copyRow 20 = .ok (.iload_n 3, 1) := by decide +kernel
theorem dX12_copyRow_21 : decode cX12_copyRow 21 = .ok (.iadd, 1) := by decide +kernel
theorem dX12_copyRow_22 : decode cX12_copyRow 22 = .ok (.iaload, 1) := by decide +kernel
theorem dX12_copyRow_23 : decode cX12_copyRow 23 = .ok (.iastore, 1) := by decide +kernel
theorem dX12_copyRow_24 : decode cX12_copyRow 24 = .ok (.iinc 3 1, 3) := by decide +kernel
theorem dX12_copyRow_27 : decode cX12_copyRow 27 = .ok (.goto (-25), 3) := by decide +kernel
theorem dX12_copyRow_30 : decode cX12_copyRow 30 = .ok (.return_, 1) := by decide +kernel
theorem dX12_notes_0 : decode cX12_notes 0 = .ok (.iconst 0, 1) := by decide +kernel
theorem dX12_notes_1 : decode cX12_notes 1 = .ok (.istore_n 1, 1) := by decide +kernel
theorem dX12_notes_2 : decode cX12_notes 2 = .ok (.iload_n 1, 1) := by decide +kernel
theorem dX12_notes_3 : decode cX12_notes 3 = .ok (.sipush 273, 3) := by decide +kernel
theorem dX12_notes_6 : decode cX12_notes 6 = .ok (.if_icmp .ge 36, 3) := by decide +kernel
theorem dX12_notes_9 : decode cX12_notes 9 = .ok (.aload_n 0, 1) := by decide +kernel
theorem dX12_notes_10 : decode cX12_notes 10 = .ok (.getfield 176, 3) := by decide +kernel
theorem dX12_notes_13 : decode cX12_notes 13 = .ok (.bipush 8, 2) := by decide +kernel
theorem dX12_notes_15 : decode cX12_notes 15 = .ok (.if_icmp .ne 27, 3) := by decide +kernel
theorem dX12_notes_18 : decode cX12_notes 18 = .ok (.aload_n 0, 1) := by decide +kernel
theorem dX12_notes_19 : decode cX12_notes 19 = .ok (.getfield 7, 3) := by decide +kernel
theorem dX12_notes_22 : decode cX12_notes 22 = .ok (.bipush 39, 2) := by decide +kernel
theorem dX12_notes_24 : decode cX12_notes 24 = .ok (.iload_n 1, 1) := by decide +kernel
theorem dX12_notes_25 : decode cX12_notes 25 = .ok (.iadd, 1) := by decide +kernel
theorem dX12_notes_26 : decode cX12_notes 26 = .ok (.aload_n 0, 1) := by decide +kernel
theorem dX12_notes_27 : decode cX12_notes 27 = .ok (.getfield 7, 3) := by decide +kernel
theorem dX12_notes_30 : decode cX12_notes 30 = .ok (.bipush 78, 2) := by decide +kernel
theorem dX12_notes_32 : decode cX12_notes 32 = .ok (.iload_n 1, 1) := by decide +kernel
theorem dX12_notes_33 : decode cX12_notes 33 = .ok (.iadd, 1) := by decide +kernel
theorem dX12_notes_34 : decode cX12_notes 34 = .ok (.iaload, 1) := by decide +kernel
theorem dX12_notes_35 : decode cX12_notes 35 = .ok (.iastore, 1) := by decide +kernel
theorem dX12_notes_36 : decode cX12_notes 36 = .ok (.iinc 1 1, 3) := by decide +kernel
theorem dX12_notes_39 : decode cX12_notes 39 = .ok (.goto (-37), 3) := by decide +kernel
theorem dX12_notes_42 : decode cX12_notes 42 = .ok (.aload_n 0, 1) := by decide +kernel
theorem dX12_notes_43 : decode cX12_notes 43 = .ok (.dup, 1) := by decide +kernel
theorem dX12_notes_44 : decode cX12_notes 44 = .ok (.getfield 176, 3) := by decide +kernel
theorem dX12_notes_47 : decode cX12_notes 47 = .ok (.aload_n 0, 1) := by decide +kernel
theorem dX12_notes_48 : decode cX12_notes 48 = .ok (.getfield 176, 3) := by decide +kernel
theorem dX12_notes_51 : decode cX12_notes 51 = .ok (.bipush 8, 2) := by decide +kernel
theorem dX12_notes_53 : decode cX12_notes 53 = .ok (.if_icmp .ne 7, 3) := by decide +kernel
theorem dX12_notes_56 : decode cX12_notes 56 = .ok (.iconst 1, 1) := by decide +kernel
theorem dX12_notes_57 : decode cX12_notes 57 = .ok (.goto 4, 3) := by decide +kernel
theorem dX12_notes_60 : decode cX12_notes 60 = .ok (.iconst 0, 1) := by decide +kernel
theorem dX12_notes_61 : decode cX12_notes 61 = .ok (.isub, 1) := by decide +kernel
theorem dX12_notes_62 : decode cX12_notes 62 = .ok (.putfield 176, 3) := by decide +kernel
theorem dX12_notes_65 : decode cX12_notes 65 = .ok (.aload_n 0, 1) := by decide +kernel
theorem dX12_notes_66 : decode cX12_notes 66 = .ok (.iconst 0, 1) := by decide +kernel
theorem dX12_notes_67 : decode cX12_notes 67 = .ok (.bipush 39, 2) := by decide +kernel
theorem dX12_notes_69 : decode cX12_notes 69 = .ok (.bipush 39, 2) := by decide +kernel
theorem dX12_notes_71 : decode cX12_notes 71 = .ok (.aload_n 0, 1) := by decide +kernel
theorem dX12_notes_72 : decode cX12_notes 72 = .ok (.getfield 176, 3) := by decide +kernel
theorem dX12_notes_75 : decode cX12_notes 75 = .ok (.imul, 1) := by decide +kernel
theorem dX12_notes_76 : decode cX12_notes 76 = .ok (.iadd, 1) := by decide +kernel
theorem dX12_notes_77 : decode cX12_notes 77 = .ok (.invokevirtual 190, 3) := by decide +kernel
theorem dX12_notes_80 : decode cX12_notes 80 = .ok (.aload_n 0, 1) := by decide +kernel
theorem dX12_notes_81 : decode cX12_notes 81 = .ok (.dup, 1) := by decide +kernel
theorem dX12_notes_82 : decode cX12_notes 82 = .ok (.getfield 176, 3) := by decide +kernel
theorem dX12_notes_85 : decode cX12_notes 85 = .ok (.iconst 1, 1) := by decide +kernel
theorem dX12_notes_86 : decode cX12_notes 86 = .ok (.iadd, 1) := by decide +kernel
theorem dX12_notes_87 : decode cX12_notes 87 = .ok (.putfield 176, 3) := by decide +kernel
theorem dX12_notes_90 : decode cX12_notes 90 = .ok (.return_, 1) := by decide +kernel
theorem dX12_set_0 : decode cX12_set 0 = .ok (.aload_n 0, 1) := by decide +kernel
theorem dX12_set_1 : decode cX12_set 1 = .ok (.iload_n 1, 1) := by decide +kernel
theorem dX12_set_2 : decode cX12_set 2 = .ok (.iload_n 2, 1) := by decide +kernel
theorem dX12_set_3 : decode cX12_set 3 = .ok (.iload_n 3, 1) := by decide +kernel
theorem dX12_set_4 : decode cX12_set 4 = .ok (.invokevirtual 179, 3) := by decide +kernel
theorem dX12_set_7 : decode cX12_set 7 = .ok (.ifCond .eq 12, 3) := by decide +kernel
theorem dX12_set_10 : decode cX12_set 10 = .ok (.iload_n 1, 1) := by decide +kernel
theorem dX12_set_11 : decode cX12_set 11 = .ok (.iload_n 2, 1) := by decide +kernel
theorem dX12_set_12 : decode cX12_set 12 = .ok (.iload_n 3, 1) := by decide +kernel
theorem dX12_set_13 : decode cX12_set 13 = .ok (.invokestatic 56, 3) := by decide +kernel
theorem dX12_set_16 : decode cX12_set 16 = .ok (.ifCond .ne 7, 3) := by decide +kernel
theorem dX12_set_19 : decode cX12_set 19 = .ok (.sipush (-1001), 3) := by decide +kernel
theorem dX12_set_22 : decode cX12_set 22 = .ok (.ireturn, 1) := by decide +kernel
theorem dX12_set_23 : decode cX12_set 23 = .ok (.iload 4, 2) := by decide +kernel
theorem dX12_set_25 : decode cX12_set 25 = .ok (.i2l, 1) := by decide +kernel
theorem dX12_set_26 : decode cX12_set 26 = .ok (.ldc2_w 194, 3) := by decide +kernel
theorem dX12_set_29 : decode cX12_set 29 = .ok (.lconst 1, 1) := by decide +kernel
theorem dX12_set_30 : decode cX12_set 30 = .ok (.invokestatic 77, 3) := by decide +kernel
theorem dX12_set_33 : decode cX12_set 33 = .ok (.ifCond .ne 7, 3) := by decide +kernel
theorem dX12_set_36 : decode cX12_set 36 = .ok (.sipush (-1002), 3) := by decide +kernel
theorem dX12_set_39 : decode cX12_set 39 = .ok (.ireturn, 1) := by decide +kernel
theorem dX12_set_40 : decode cX12_set 40 = .ok (.aload_n 0, 1) := by decide +kernel
theorem dX12_set_41 : decode cX12_set 41 = .ok (.invokevirtual 196, 3) := by decide +kernel
theorem dX12_set_44 : decode cX12_set 44 = .ok (.aload_n 0, 1) := by decide +kernel
theorem dX12_set_45 : decode cX12_set 45 = .ok (.iload_n 1, 1) := by decide +kernel
theorem dX12_set_46 : decode cX12_set 46 = .ok (.iload_n 2, 1) := by decide +kernel
theorem dX12_set_47 : decode cX12_set 47 = .ok (.iload_n 3, 1) := by decide +kernel
theorem dX12_set_48 : decode cX12_set 48 = .ok (.invokevirtual 182, 3) := by decide +kernel
theorem dX12_set_51 : decode cX12_set 51 = .ok (.istore 5, 2) := by decide +kernel
theorem dX12_set_53 : decode cX12_set 53 = .ok (.aload_n 0, 1) := by decide +kernel
theorem dX12_set_54 : decode cX12_set 54 = .ok (.iload_n 1, 1) := by decide +kernel
theorem dX12_set_55 : decode cX12_set 55 = .ok (.iload_n 2, 1) := by decide +kernel
theorem dX12_set_56 : decode cX12_set 56 = .ok (.iload_n 3, 1) := by decide +kernel
theorem dX12_set_57 : decode cX12_set 57 = .ok (.iload 4, 2) := by decide +kernel
theorem dX12_set_59 : decode cX12_set 59 = .ok (.invokevirtual 133, 3) := by decide +kernel
theorem dX12_set_62 : decode cX12_set 62 = .ok (.iload 5, 2) := by decide +kernel
theorem dX12_set_64 : decode cX12_set 64 = .ok (.ireturn, 1) := by decide +kernel
theorem dX12_isCoordinate_0 : decode cX12_isCoordinate 0 = .ok (.iload_n 0, 1) := by decide +kernel
theorem dX12_isCoordinate_1 : decode cX12_isCoordinate 1 = .ok (.i2l, 1) := by decide +kernel
theorem dX12_isCoordinate_2 : decode cX12_isCoordinate 2 = .ok (.ldc2_w 199, 3) := by decide +kernel
theorem dX12_isCoordinate_5 : decode cX12_isCoordinate 5 = .ok (.ldc2_w 201, 3) := by decide +kernel
theorem dX12_isCoordinate_8 : decode cX12_isCoordinate 8 = .ok (.invokestatic 77, 3) := by decide +kernel
theorem dX12_isCoordinate_11 : decode cX12_isCoordinate 11 = .ok (.ireturn, 1) := by decide +kernel
theorem dX12_points_0 : decode cX12_points 0 = .ok (.aload_n 0, 1) := by decide +kernel
theorem dX12_points_1 : decode cX12_points 1 = .ok (.getfield 7, 3) := by decide +kernel
theorem dX12_points_4 : decode cX12_points 4 = .ok (.bipush 21, 2) := by decide +kernel
theorem dX12_points_6 : decode cX12_points 6 = .ok (.iconst 3, 1) := by decide +kernel
theorem dX12_points_7 : decode cX12_points 7 = .ok (.iload_n 1, 1) := by decide +kernel
theorem dX12_points_8 : decode cX12_points 8 = .ok (.imul, 1) := by decide +kernel
theorem dX12_points_9 : decode cX12_points 9 = .ok (.iadd, 1) := by decide +kernel
theorem dX12_points_10 : decode cX12_points 10 = .ok (.iload_n 2, 1) := by decide +kernel
theorem dX12_points_11 : decode cX12_points 11 = .ok (.iastore, 1) := by decide +kernel
theorem dX12_points_12 : decode cX12_points 12 = .ok (.aload_n 0, 1) := by decide +kernel
theorem dX12_points_13 : decode cX12_points 13 = .ok (.getfield 7, 3) := by decide +kernel
theorem dX12_points_16 : decode cX12_points 16 = .ok (.bipush 21, 2) := by decide +kernel
theorem dX12_points_18 : decode cX12_points 18 = .ok (.iconst 3, 1) := by decide +kernel
theorem dX12_points_19 : decode cX12_points 19 = .ok (.iload_n 1, 1) := by decide +kernel
theorem dX12_points_20 : decode cX12_points 20 = .ok (.imul, 1) := by decide +kernel
theorem dX12_points_21 : decode cX12_points 21 = .ok (.iadd, 1) := by decide +kernel
theorem dX12_points_22 : decode cX12_points 22 = .ok (.iconst 1, 1) := by decide +kernel
theorem dX12_points_23 : decode cX12_points 23 = .ok (.iadd, 1) := by decide +kernel
theorem dX12_points_24 : decode cX12_points 24 = .ok (.iload_n 3, 1) := by decide +kernel
theorem dX12_points_25 : decode cX12_points 25 = .ok (.iastore, 1) := by decide +kernel
theorem dX12_points_26 : decode cX12_points 26 = .ok (.aload_n 0, 1) := by decide +kernel
theorem dX12_points_27 : decode cX12_points 27 = .ok (.getfield 7, 3) := by decide +kernel
theorem dX12_points_30 : decode cX12_points 30 = .ok (.bipush 21, 2) := by decide +kernel
theorem dX12_points_32 : decode cX12_points 32 = .ok (.iconst 3, 1) := by decide +kernel
theorem dX12_points_33 : decode cX12_points 33 = .ok (.iload_n 1, 1) := by decide +kernel
theorem dX12_points_34 : decode cX12_points 34 = .ok (.imul, 1) := by decide +kernel
theorem dX12_points_35 : decode cX12_points 35 = .ok (.iadd, 1) := by decide +kernel
theorem dX12_points_36 : decode cX12_points 36 = .ok (.iconst 2, 1) := by decide +kernel
theorem dX12_points_37 : decode cX12_points 37 = .ok (.iadd, 1) := by decide +kernel
theorem dX12_points_38 : decode cX12_points 38 = .ok (.iload 4, 2) := by decide +kernel
theorem dX12_points_40 : decode cX12_points 40 = .ok (.iastore, 1) := by decide +kernel
theorem dX12_points_41 : decode cX12_points 41 = .ok (.return_, 1) := by decide +kernel
theorem dX12_place_0 : decode cX12_place 0 = .ok (.aload_n 0, 1) := by decide +kernel
theorem dX12_place_1 : decode cX12_place 1 = .ok (.iload_n 1, 1) := by decide +kernel
theorem dX12_place_2 : decode cX12_place 2 = .ok (.invokevirtual 81, 3) := by decide +kernel
theorem dX12_place_5 : decode cX12_place 5 = .ok (.ifCond .ne 7, 3) := by decide +kernel
theorem dX12_place_8 : decode cX12_place 8 = .ok (.sipush (-1001), 3) := by decide +kernel
theorem dX12_place_11 : decode cX12_place 11 = .ok (.ireturn, 1) := by decide +kernel
theorem dX12_place_12 : decode cX12_place 12 = .ok (.iload_n 2, 1) := by decide +kernel
theorem dX12_place_13 : decode cX12_place 13 = .ok (.invokestatic 203, 3) := by decide +kernel
theorem dX12_place_16 : decode cX12_place 16 = .ok (.ifCond .eq 18, 3) := by decide +kernel
theorem dX12_place_19 : decode cX12_place 19 = .ok (.iload_n 3, 1) := by decide +kernel
theorem dX12_place_20 : decode cX12_place 20 = .ok (.invokestatic 203, 3) := by decide +kernel
theorem dX12_place_23 : decode cX12_place 23 = .ok (.ifCond .eq 11, 3) := by decide +kernel
theorem dX12_place_26 : decode cX12_place 26 = .ok (.iload 4, 2) := by decide +kernel
theorem dX12_place_28 : decode cX12_place 28 = .ok (.invokestatic 203, 3) := by decide +kernel
theorem dX12_place_31 : decode cX12_place 31 = .ok (.ifCond .ne 7, 3) := by decide +kernel
theorem dX12_place_34 : decode cX12_place 34 = .ok (.sipush (-1002), 3) := by decide +kernel
theorem dX12_place_37 : decode cX12_place 37 = .ok (.ireturn, 1) := by decide +kernel
theorem dX12_place_38 : decode cX12_place 38 = .ok (.aload_n 0, 1) := by decide +kernel
theorem dX12_place_39 : decode cX12_place 39 = .ok (.invokevirtual 196, 3) := by decide +kernel
theorem dX12_place_42 : decode cX12_place 42 = .ok (.aload_n 0, 1) := by decide +kernel
theorem dX12_place_43 : decode cX12_place 43 = .ok (.iload_n 1, 1) := by decide +kernel
theorem dX12_place_44 : decode cX12_place 44 = .ok (.iconst 0, 1) := by decide +kernel
theorem dX12_place_45 : decode cX12_place 45 = .ok (.invokevirtual 69, 3) := by decide +kernel
theorem dX12_place_48 : decode cX12_place 48 = .ok (.iload_n 2, 1) := by decide +kernel
theorem dX12_place_49 : decode cX12_place 49 = .ok (.if_icmp .ne 24, 3) := by decide +kernel
theorem dX12_place_52 : decode cX12_place 52 = .ok (.aload_n 0, 1) := by decide +kernel
theorem dX12_place_53 : decode cX12_place 53 = .ok (.iload_n 1, 1) := by decide +kernel
theorem dX12_place_54 : decode cX12_place 54 = .ok (.iconst 1, 1) := by decide +kernel
theorem dX12_place_55 : decode cX12_place 55 = .ok (.invokevirtual 69, 3) := by decide +kernel
theorem dX12_place_58 : decode cX12_place 58 = .ok (.iload_n 3, 1) := by decide +kernel
theorem dX12_place_59 : decode cX12_place 59 = .ok (.if_icmp .ne 14, 3) := by decide +kernel
theorem dX12_place_62 : decode cX12_place 62 = .ok (.aload_n 0, 1) := by decide +kernel
theorem dX12_place_63 : decode cX12_place 63 = .ok (.iload_n 1, 1) := by decide +kernel
theorem dX12_place_64 : decode cX12_place 64 = .ok (.iconst 2, 1) := by decide +kernel
theorem dX12_place_65 : decode cX12_place 65 = .ok (.invokevirtual 69, 3) := by decide +kernel
theorem dX12_place_68 : decode cX12_place 68 = .ok (.iload 4, 2) := by decide +kernel
theorem dX12_place_70 : decode cX12_place 70 = .ok (.if_icmp .eq 7, 3) := by decide +kernel
theorem dX12_place_73 : decode cX12_place 73 = .ok (.iconst 1, 1) := by decide +kernel
theorem dX12_place_74 : decode cX12_place 74 = .ok (.goto 4, 3) := by decide +kernel
theorem dX12_place_77 : decode cX12_place 77 = .ok (.iconst 0, 1) := by decide +kernel
theorem dX12_place_78 : decode cX12_place 78 = .ok (.istore 5, 2) := by decide +kernel
theorem dX12_place_80 : decode cX12_place 80 = .ok (.aload_n 0, 1) := by decide +kernel
theorem dX12_place_81 : decode cX12_place 81 = .ok (.iload_n 1, 1) := by decide +kernel
theorem dX12_place_82 : decode cX12_place 82 = .ok (.iload_n 2, 1) := by decide +kernel
theorem dX12_place_83 : decode cX12_place 83 = .ok (.iload_n 3, 1) := by decide +kernel
theorem dX12_place_84 : decode cX12_place 84 = .ok (.iload 4, 2) := by decide +kernel
theorem dX12_place_86 : decode cX12_place 86 = .ok (.invokevirtual 206, 3) := by decide +kernel
theorem dX12_place_89 : decode cX12_place 89 = .ok (.iload 5, 2) := by decide +kernel
theorem dX12_place_91 : decode cX12_place 91 = .ok (.ireturn, 1) := by decide +kernel
theorem dX12_flips_0 : decode cX12_flips 0 = .ok (.iconst 0, 1) := by decide +kernel
theorem dX12_flips_1 : decode cX12_flips 1 = .ok (.istore_n 2, 1) := by decide +kernel
theorem dX12_flips_2 : decode cX12_flips 2 = .ok (.iconst 0, 1) := by decide +kernel
theorem dX12_flips_3 : decode cX12_flips 3 = .ok (.istore_n 3, 1) := by decide +kernel
theorem dX12_flips_4 : decode cX12_flips 4 = .ok (.iload_n 3, 1) := by decide +kernel
theorem dX12_flips_5 : decode cX12_flips 5 = .ok (.aload_n 0, 1) := by decide +kernel
theorem dX12_flips_6 : decode cX12_flips 6 = .ok (.invokevirtual 73, 3) := by decide +kernel
theorem dX12_flips_9 : decode cX12_flips 9 = .ok (.if_icmp .ge 74, 3) := by decide +kernel
theorem dX12_flips_12 : decode cX12_flips 12 = .ok (.iload_n 3, 1) := by decide +kernel
theorem dX12_flips_13 : decode cX12_flips 13 = .ok (.iconst 1, 1) := by decide +kernel
theorem dX12_flips_14 : decode cX12_flips 14 = .ok (.iadd, 1) := by decide +kernel
theorem dX12_flips_15 : decode cX12_flips 15 = .ok (.istore 4, 2) := by decide +kernel
theorem dX12_flips_17 : decode cX12_flips 17 = .ok (.iload 4, 2) := by decide +kernel
theorem dX12_flips_19 : decode cX12_flips 19 = .ok (.aload_n 0, 1) := by decide +kernel
theorem dX12_flips_20 : decode cX12_flips 20 = .ok (.invokevirtual 73, 3) := by decide +kernel
theorem dX12_flips_23 : decode cX12_flips 23 = .ok (.if_icmp .ge 54, 3) := by decide +kernel
theorem dX12_flips_26 : decode cX12_flips 26 = .ok (.iload_n 3, 1) := by decide +kernel
theorem dX12_flips_27 : decode cX12_flips 27 = .ok (.iload_n 1, 1) := by decide +kernel
theorem dX12_flips_28 : decode cX12_flips 28 = .ok (.if_icmp .eq 43, 3) := by decide +kernel
theorem dX12_flips_31 : decode cX12_flips 31 = .ok (.iload 4, 2) := by decide +kernel
theorem dX12_flips_33 : decode cX12_flips 33 = .ok (.iload_n 1, 1) := by decide +kernel
theorem dX12_flips_34 : decode cX12_flips 34 = .ok (.if_icmp .eq 37, 3) := by decide +kernel
theorem dX12_flips_37 : decode cX12_flips 37 = .ok (.aload_n 0, 1) := by decide +kernel
theorem dX12_flips_38 : decode cX12_flips 38 = .ok (.iload_n 1, 1) := by decide +kernel
theorem dX12_flips_39 : decode cX12_flips 39 = .ok (.iload_n 3, 1) := by decide +kernel
theorem dX12_flips_40 : decode cX12_flips 40 = .ok (.iload 4, 2) := by decide +kernel
theorem dX12_flips_42 : decode cX12_flips 42 = .ok (.invokevirtual 182, 3) := by decide +kernel
theorem dX12_flips_45 : decode cX12_flips 45 = .ok (.istore 5, 2) := by decide +kernel
theorem dX12_flips_47 : decode cX12_flips 47 = .ok (.iload_n 2, 1) := by decide +kernel
theorem dX12_flips_48 : decode cX12_flips 48 = .ok (.iload 5, 2) := by decide +kernel
theorem dX12_flips_50 : decode cX12_flips 50 = .ok (.ifCond .eq 7, 3) := by decide +kernel
theorem dX12_flips_53 : decode cX12_flips 53 = .ok (.iconst 1, 1) := by decide +kernel
theorem dX12_flips_54 : decode cX12_flips 54 = .ok (.goto 4, 3) := by decide +kernel
theorem dX12_flips_57 : decode cX12_flips 57 = .ok (.iconst 0, 1) := by decide +kernel
theorem dX12_flips_58 : decode cX12_flips 58 = .ok (.iadd, 1) := by decide +kernel
theorem dX12_flips_59 : decode cX12_flips 59 = .ok (.istore_n 2, 1) := by decide +kernel
theorem dX12_flips_60 : decode cX12_flips 60 = .ok (.aload_n 0, 1) := by decide +kernel
theorem dX12_flips_61 : decode cX12_flips 61 = .ok (.iload_n 1, 1) := by decide +kernel
theorem dX12_flips_62 : decode cX12_flips 62 = .ok (.iload_n 3, 1) := by decide +kernel
theorem dX12_flips_63 : decode cX12_flips 63 = .ok (.iload 4, 2) := by decide +kernel
theorem dX12_flips_65 : decode cX12_flips 65 = .ok (.iload 5, 2) := by decide +kernel
theorem dX12_flips_67 : decode cX12_flips 67 = .ok (.ineg, 1) := by decide +kernel
theorem dX12_flips_68 : decode cX12_flips 68 = .ok (.invokevirtual 133, 3) := by decide +kernel
theorem dX12_flips_71 : decode cX12_flips 71 = .ok (.iinc 4 1, 3) := by decide +kernel
theorem dX12_flips_74 : decode cX12_flips 74 = .ok (.goto (-57), 3) := by decide +kernel
theorem dX12_flips_77 : decode cX12_flips 77 = .ok (.iinc 3 1, 3) := by decide +kernel
theorem dX12_flips_80 : decode cX12_flips 80 = .ok (.goto (-76), 3) := by decide +kernel
theorem dX12_flips_83 : decode cX12_flips 83 = .ok (.aload_n 0, 1) := by decide +kernel
theorem dX12_flips_84 : decode cX12_flips 84 = .ok (.iload_n 1, 1) := by decide +kernel
theorem dX12_flips_85 : decode cX12_flips 85 = .ok (.aload_n 0, 1) := by decide +kernel
theorem dX12_flips_86 : decode cX12_flips 86 = .ok (.iload_n 1, 1) := by decide +kernel
theorem dX12_flips_87 : decode cX12_flips 87 = .ok (.iconst 0, 1) := by decide +kernel
theorem dX12_flips_88 : decode cX12_flips 88 = .ok (.invokevirtual 69, 3) := by decide +kernel
theorem dX12_flips_91 : decode cX12_flips 91 = .ok (.ineg, 1) := by decide +kernel
theorem dX12_flips_92 : decode cX12_flips 92 = .ok (.aload_n 0, 1) := by decide +kernel
theorem dX12_flips_93 : decode cX12_flips 93 = .ok (.iload_n 1, 1) := by decide +kernel
theorem dX12_flips_94 : decode cX12_flips 94 = .ok (.iconst 1, 1) := by decide +kernel
theorem dX12_flips_95 : decode cX12_flips 95 = .ok (.invokevirtual 69, 3) := by decide +kernel
theorem dX12_flips_98 : decode cX12_flips 98 = .ok (.ineg, 1) := by decide +kernel
theorem dX12_flips_99 : decode cX12_flips 99 = .ok (.aload_n 0, 1) := by decide +kernel
theorem dX12_flips_100 : decode cX12_flips 100 = .ok (.iload_n 1, 1) := by decide +kernel
theorem dX12_flips_101 : decode cX12_flips 101 = .ok (.iconst 2, 1) := by decide +kernel
theorem dX12_flips_102 : decode cX12_flips 102 = .ok (.invokevirtual 69, 3) := by decide +kernel
theorem dX12_flips_105 : decode cX12_flips 105 = .ok (.ineg, 1) := by decide +kernel
theorem dX12_flips_106 : decode cX12_flips 106 = .ok (.invokevirtual 206, 3) := by decide +kernel
theorem dX12_flips_109 : decode cX12_flips 109 = .ok (.iload_n 2, 1) := by decide +kernel
theorem dX12_flips_110 : decode cX12_flips 110 = .ok (.ireturn, 1) := by decide +kernel
theorem dX12_flip_0 : decode cX12_flip 0 = .ok (.aload_n 0, 1) := by decide +kernel
theorem dX12_flip_1 : decode cX12_flip 1 = .ok (.iload_n 1, 1) := by decide +kernel
theorem dX12_flip_2 : decode cX12_flip 2 = .ok (.invokevirtual 81, 3) := by decide +kernel
theorem dX12_flip_5 : decode cX12_flip 5 = .ok (.ifCond .ne 7, 3) := by decide +kernel
theorem dX12_flip_8 : decode cX12_flip 8 = .ok (.sipush (-1001), 3) := by decide +kernel
theorem dX12_flip_11 : decode cX12_flip 11 = .ok (.ireturn, 1) := by decide +kernel
theorem dX12_flip_12 : decode cX12_flip 12 = .ok (.aload_n 0, 1) := by decide +kernel
theorem dX12_flip_13 : decode cX12_flip 13 = .ok (.invokevirtual 196, 3) := by decide +kernel
theorem dX12_flip_16 : decode cX12_flip 16 = .ok (.aload_n 0, 1) := by decide +kernel
theorem dX12_flip_17 : decode cX12_flip 17 = .ok (.iload_n 1, 1) := by decide +kernel
theorem dX12_flip_18 : decode cX12_flip 18 = .ok (.invokevirtual 157, 3) := by decide +kernel
theorem dX12_flip_21 : decode cX12_flip 21 = .ok (.ireturn, 1) := by decide +kernel
theorem dX12_wasSign_0 : decode cX12_wasSign 0 = .ok (.iload_n 1, 1) := by decide +kernel
theorem dX12_wasSign_1 : decode cX12_wasSign 1 = .ok (.iload_n 2, 1) := by decide +kernel
theorem dX12_wasSign_2 : decode cX12_wasSign 2 = .ok (.iload_n 3, 1) := by decide +kernel
theorem dX12_wasSign_3 : decode cX12_wasSign 3 = .ok (.invokestatic 60, 3) := by decide +kernel
theorem dX12_wasSign_6 : decode cX12_wasSign 6 = .ok (.istore 4, 2) := by decide +kernel
theorem dX12_wasSign_8 : decode cX12_wasSign 8 = .ok (.iload_n 1, 1) := by decide +kernel
theorem dX12_wasSign_9 : decode cX12_wasSign 9 = .ok (.iload_n 2, 1) := by decide +kernel
theorem dX12_wasSign_10 : decode cX12_wasSign 10 = .ok (.iload_n 3, 1) := by decide +kernel
theorem dX12_wasSign_11 : decode cX12_wasSign 11 = .ok (.invokestatic 63, 3) := by decide +kernel
theorem dX12_wasSign_14 : decode cX12_wasSign 14 = .ok (.istore 5, 2) := by decide +kernel
theorem dX12_wasSign_16 : decode cX12_wasSign 16 = .ok (.iload_n 1, 1) := by decide +kernel
theorem dX12_wasSign_17 : decode cX12_wasSign 17 = .ok (.iload_n 2, 1) := by decide +kernel
theorem dX12_wasSign_18 : decode cX12_wasSign 18 = .ok (.iload_n 3, 1) := by decide +kernel
theorem dX12_wasSign_19 : decode cX12_wasSign 19 = .ok (.invokestatic 56, 3) := by decide +kernel
theorem dX12_wasSign_22 : decode cX12_wasSign 22 = .ok (.aload_n 0, 1) := by decide +kernel
theorem dX12_wasSign_23 : decode cX12_wasSign 23 = .ok (.getfield 35, 3) := by decide +kernel
theorem dX12_wasSign_26 : decode cX12_wasSign 26 = .ok (.iconst 1, 1) := by decide +kernel
theorem dX12_wasSign_27 : decode cX12_wasSign 27 = .ok (.iload 4, 2) := by decide +kernel
theorem dX12_wasSign_29 : decode cX12_wasSign 29 = .ok (.iload_n 1, 1) := by decide +kernel
theorem dX12_wasSign_30 : decode cX12_wasSign 30 = .ok (.iload_n 2, 1) := by decide +kernel
theorem dX12_wasSign_31 : decode cX12_wasSign 31 = .ok (.iadd, 1) := by decide +kernel
theorem dX12_wasSign_32 : decode cX12_wasSign 32 = .ok (.iload_n 3, 1) := by decide +kernel
theorem dX12_wasSign_33 : decode cX12_wasSign 33 = .ok (.iadd, 1) := by decide +kernel
theorem dX12_wasSign_34 : decode cX12_wasSign 34 = .ok (.iload 4, 2) := by decide +kernel
theorem dX12_wasSign_36 : decode cX12_wasSign 36 = .ok (.isub, 1) := by decide +kernel
theorem dX12_wasSign_37 : decode cX12_wasSign 37 = .ok (.iload 5, 2) := by decide +kernel
theorem dX12_wasSign_39 : decode cX12_wasSign 39 = .ok (.isub, 1) := by decide +kernel
theorem dX12_wasSign_40 : decode cX12_wasSign 40 = .ok (.iload 5, 2) := by decide +kernel
theorem dX12_wasSign_42 : decode cX12_wasSign 42 = .ok (.invokestatic 66, 3) := by decide +kernel
theorem dX12_wasSign_45 : decode cX12_wasSign 45 = .ok (.iadd, 1) := by decide +kernel
theorem dX12_wasSign_46 : decode cX12_wasSign 46 = .ok (.iaload, 1) := by decide +kernel
theorem dX12_wasSign_47 : decode cX12_wasSign 47 = .ok (.imul, 1) := by decide +kernel
theorem dX12_wasSign_48 : decode cX12_wasSign 48 = .ok (.ireturn, 1) := by decide +kernel
theorem dX12_under_0 : decode cX12_under 0 = .ok (.iload_n 0, 1) := by decide +kernel
theorem dX12_under_1 : decode cX12_under 1 = .ok (.iload_n 1, 1) := by decide +kernel
theorem dX12_under_2 : decode cX12_under 2 = .ok (.if_icmp .ne 7, 3) := by decide +kernel
theorem dX12_under_5 : decode cX12_under 5 = .ok (.iload_n 2, 1) := by decide +kernel
theorem dX12_under_6 : decode cX12_under 6 = .ok (.goto 13, 3) := by decide +kernel
theorem dX12_under_9 : decode cX12_under 9 = .ok (.iload_n 0, 1) := by decide +kernel
theorem dX12_under_10 : decode cX12_under 10 = .ok (.iload_n 2, 1) := by decide +kernel
theorem dX12_under_11 : decode cX12_under 11 = .ok (.if_icmp .ne 7, 3) := by decide +kernel
theorem dX12_under_14 : decode cX12_under 14 = .ok (.iload_n 1, 1) := by decide +kernel
theorem dX12_under_15 : decode cX12_under 15 = .ok (.goto 4, 3) := by decide +kernel
theorem dX12_under_18 : decode cX12_under 18 = .ok (.iload_n 0, 1) := by decide +kernel
theorem dX12_under_19 : decode cX12_under 19 = .ok (.ireturn, 1) := by decide +kernel
theorem dX12_swaps_0 : decode cX12_swaps 0 = .ok (.iconst 0, 1) := by decide +kernel
theorem dX12_swaps_1 : decode cX12_swaps 1 = .ok (.istore_n 3, 1) := by decide +kernel
theorem dX12_swaps_2 : decode cX12_swaps 2 = .ok (.iload_n 3, 1) := by decide +kernel
theorem dX12_swaps_3 : decode cX12_swaps 3 = .ok (.bipush 39, 2) := by decide +kernel
theorem dX12_swaps_5 : decode cX12_swaps 5 = .ok (.if_icmp .ge 21, 3) := by decide +kernel
theorem dX12_swaps_8 : decode cX12_swaps 8 = .ok (.aload_n 0, 1) := by decide +kernel
theorem dX12_swaps_9 : decode cX12_swaps 9 = .ok (.getfield 35, 3) := by decide +kernel
theorem dX12_swaps_12 : decode cX12_swaps 12 = .ok (.iload_n 3, 1) := by decide +kernel
theorem dX12_swaps_13 : decode cX12_swaps 13 = .ok (.aload_n 0, 1) := by decide +kernel
theorem dX12_swaps_14 : decode cX12_swaps 14 = .ok (.getfield 7, 3) := by decide +kernel
theorem dX12_swaps_17 : decode cX12_swaps 17 = .ok (.iload_n 3, 1) := by decide +kernel
theorem dX12_swaps_18 : decode cX12_swaps 18 = .ok (.iaload, 1) := by decide +kernel
theorem dX12_swaps_19 : decode cX12_swaps 19 = .ok (.iastore, 1) := by decide +kernel
theorem dX12_swaps_20 : decode cX12_swaps 20 = .ok (.iinc 3 1, 3) := by decide +kernel
theorem dX12_swaps_23 : decode cX12_swaps 23 = .ok (.goto (-21), 3) := by decide +kernel
theorem dX12_swaps_26 : decode cX12_swaps 26 = .ok (.iconst 0, 1) := by decide +kernel
theorem dX12_swaps_27 : decode cX12_swaps 27 = .ok (.istore_n 3, 1) := by decide +kernel
theorem dX12_swaps_28 : decode cX12_swaps 28 = .ok (.iconst 0, 1) := by decide +kernel
theorem dX12_swaps_29 : decode cX12_swaps 29 = .ok (.istore 4, 2) := by decide +kernel
theorem dX12_swaps_31 : decode cX12_swaps 31 = .ok (.iload 4, 2) := by decide +kernel
theorem dX12_swaps_33 : decode cX12_swaps 33 = .ok (.aload_n 0, 1) := by decide +kernel
theorem dX12_swaps_34 : decode cX12_swaps 34 = .ok (.invokevirtual 73, 3) := by decide +kernel
theorem dX12_swaps_37 : decode cX12_swaps 37 = .ok (.if_icmp .ge 113, 3) := by decide +kernel
theorem dX12_swaps_40 : decode cX12_swaps 40 = .ok (.iload 4, 2) := by decide +kernel
theorem dX12_swaps_42 : decode cX12_swaps 42 = .ok (.iconst 1, 1) := by decide +kernel
theorem dX12_swaps_43 : decode cX12_swaps 43 = .ok (.iadd, 1) := by decide +kernel
theorem dX12_swaps_44 : decode cX12_swaps 44 = .ok (.istore 5, 2) := by decide +kernel
theorem dX12_swaps_46 : decode cX12_swaps 46 = .ok (.iload 5, 2) := by decide +kernel
theorem dX12_swaps_48 : decode cX12_swaps 48 = .ok (.aload_n 0, 1) := by decide +kernel
theorem dX12_swaps_49 : decode cX12_swaps 49 = .ok (.invokevirtual 73, 3) := by decide +kernel
theorem dX12_swaps_52 : decode cX12_swaps 52 = .ok (.if_icmp .ge 92, 3) := by decide +kernel
theorem dX12_swaps_55 : decode cX12_swaps 55 = .ok (.iload 5, 2) := by decide +kernel
theorem dX12_swaps_57 : decode cX12_swaps 57 = .ok (.iconst 1, 1) := by decide +kernel
theorem dX12_swaps_58 : decode cX12_swaps 58 = .ok (.iadd, 1) := by decide +kernel
theorem dX12_swaps_59 : decode cX12_swaps 59 = .ok (.istore 6, 2) := by decide +kernel
theorem dX12_swaps_61 : decode cX12_swaps 61 = .ok (.iload 6, 2) := by decide +kernel
theorem dX12_swaps_63 : decode cX12_swaps 63 = .ok (.aload_n 0, 1) := by decide +kernel
theorem dX12_swaps_64 : decode cX12_swaps 64 = .ok (.invokevirtual 73, 3) := by decide +kernel
theorem dX12_swaps_67 : decode cX12_swaps 67 = .ok (.if_icmp .ge 71, 3) := by decide +kernel
theorem dX12_swaps_70 : decode cX12_swaps 70 = .ok (.aload_n 0, 1) := by decide +kernel
theorem dX12_swaps_71 : decode cX12_swaps 71 = .ok (.iload 4, 2) := by decide +kernel
theorem dX12_swaps_73 : decode cX12_swaps 73 = .ok (.iload_n 1, 1) := by decide +kernel
theorem dX12_swaps_74 : decode cX12_swaps 74 = .ok (.iload_n 2, 1) := by decide +kernel
theorem dX12_swaps_75 : decode cX12_swaps 75 = .ok (.invokestatic 209, 3) := by decide +kernel
theorem dX12_swaps_78 : decode cX12_swaps 78 = .ok (.iload 5, 2) := by decide +kernel
theorem dX12_swaps_80 : decode cX12_swaps 80 = .ok (.iload_n 1, 1) := by decide +kernel
theorem dX12_swaps_81 : decode cX12_swaps 81 = .ok (.iload_n 2, 1) := by decide +kernel
theorem dX12_swaps_82 : decode cX12_swaps 82 = .ok (.invokestatic 209, 3) := by decide +kernel
theorem dX12_swaps_85 : decode cX12_swaps 85 = .ok (.iload 6, 2) := by decide +kernel
theorem dX12_swaps_87 : decode cX12_swaps 87 = .ok (.iload_n 1, 1) := by decide +kernel
theorem dX12_swaps_88 : decode cX12_swaps 88 = .ok (.iload_n 2, 1) := by decide +kernel
theorem dX12_swaps_89 : decode cX12_swaps 89 = .ok (.invokestatic 209, 3) := by decide +kernel
theorem dX12_swaps_92 : decode cX12_swaps 92 = .ok (.invokevirtual 212, 3) := by decide +kernel
theorem dX12_swaps_95 : decode cX12_swaps 95 = .ok (.istore 7, 2) := by decide +kernel
theorem dX12_swaps_97 : decode cX12_swaps 97 = .ok (.iload_n 3, 1) := by decide +kernel
theorem dX12_swaps_98 : decode cX12_swaps 98 = .ok (.iload 7, 2) := by decide +kernel
theorem dX12_swaps_100 : decode cX12_swaps 100 = .ok (.aload_n 0, 1) := by decide +kernel
theorem dX12_swaps_101 : decode cX12_swaps 101 = .ok (.iload 4, 2) := by decide +kernel
theorem dX12_swaps_103 : decode cX12_swaps 103 = .ok (.iload 5, 2) := by decide +kernel
theorem dX12_swaps_105 : decode cX12_swaps 105 = .ok (.iload 6, 2) := by decide +kernel
theorem dX12_swaps_107 : decode cX12_swaps 107 = .ok (.invokevirtual 182, 3) := by decide +kernel
theorem dX12_swaps_110 : decode cX12_swaps 110 = .ok (.if_icmp .eq 7, 3) := by decide +kernel
theorem dX12_swaps_113 : decode cX12_swaps 113 = .ok (.iconst 1, 1) := by decide +kernel
theorem dX12_swaps_114 : decode cX12_swaps 114 = .ok (.goto 4, 3) := by decide +kernel
theorem dX12_swaps_117 : decode cX12_swaps 117 = .ok (.iconst 0, 1) := by decide +kernel
theorem dX12_swaps_118 : decode cX12_swaps 118 = .ok (.iadd, 1) := by decide +kernel
theorem dX12_swaps_119 : decode cX12_swaps 119 = .ok (.istore_n 3, 1) := by decide +kernel
theorem dX12_swaps_120 : decode cX12_swaps 120 = .ok (.aload_n 0, 1) := by decide +kernel
theorem dX12_swaps_121 : decode cX12_swaps 121 = .ok (.iload 4, 2) := by decide +kernel
theorem dX12_swaps_123 : decode cX12_swaps 123 = .ok (.iload 5, 2) := by decide +kernel
theorem dX12_swaps_125 : decode cX12_swaps 125 = .ok (.iload 6, 2) := by decide +kernel
theorem dX12_swaps_127 : decode cX12_swaps 127 = .ok (.iload 7, 2) := by decide +kernel
theorem dX12_swaps_129 : decode cX12_swaps 129 = .ok (.invokevirtual 133, 3) := by decide +kernel
theorem dX12_swaps_132 : decode cX12_swaps 132 = .ok (.iinc 6 1, 3) := by decide +kernel
theorem dX12_swaps_135 : decode cX12_swaps 135 = .ok (.goto (-74), 3) := by decide +kernel
theorem dX12_swaps_138 : decode cX12_swaps 138 = .ok (.iinc 5 1, 3) := by decide +kernel
theorem dX12_swaps_141 : decode cX12_swaps 141 = .ok (.goto (-95), 3) := by decide +kernel
theorem dX12_swaps_144 : decode cX12_swaps 144 = .ok (.iinc 4 1, 3) := by decide +kernel
theorem dX12_swaps_147 : decode cX12_swaps 147 = .ok (.goto (-116), 3) := by decide +kernel
theorem dX12_swaps_150 : decode cX12_swaps 150 = .ok (.iconst 0, 1) := by decide +kernel
theorem dX12_swaps_151 : decode cX12_swaps 151 = .ok (.istore 4, 2) := by decide +kernel
theorem dX12_swaps_153 : decode cX12_swaps 153 = .ok (.iload 4, 2) := by decide +kernel
theorem dX12_swaps_155 : decode cX12_swaps 155 = .ok (.iconst 3, 1) := by decide +kernel
theorem dX12_swaps_156 : decode cX12_swaps 156 = .ok (.if_icmp .ge 65, 3) := by decide +kernel
theorem dX12_swaps_159 : decode cX12_swaps 159 = .ok (.aload_n 0, 1) := by decide +kernel
theorem dX12_swaps_160 : decode cX12_swaps 160 = .ok (.getfield 7, 3) := by decide +kernel
theorem dX12_swaps_163 : decode cX12_swaps 163 = .ok (.bipush 21, 2) := by decide +kernel
theorem dX12_swaps_165 : decode cX12_swaps 165 = .ok (.iconst 3, 1) := by decide +kernel
theorem dX12_swaps_166 : decode cX12_swaps 166 = .ok (.iload_n 1, 1) := by decide +kernel
theorem dX12_swaps_167 : decode cX12_swaps 167 = .ok (.imul, 1) := by decide +kernel
theorem dX12_swaps_168 : decode cX12_swaps 168 = .ok (.iadd, 1) := by decide +kernel
theorem dX12_swaps_169 : decode cX12_swaps 169 = .ok (.iload 4, 2) := by decide +kernel
theorem dX12_swaps_171 : decode cX12_swaps 171 = .ok (.iadd, 1) := by decide +kernel
theorem dX12_swaps_172 : decode cX12_swaps 172 = .ok (.aload_n 0, 1) := by decide +kernel
theorem dX12_swaps_173 : decode cX12_swaps 173 = .ok (.getfield 35, 3) := by decide +kernel
theorem dX12_swaps_176 : decode cX12_swaps 176 = .ok (.bipush 21, 2) := by decide +kernel
theorem dX12_swaps_178 : decode cX12_swaps 178 = .ok (.iconst 3, 1) := by decide +kernel
theorem dX12_swaps_179 : decode cX12_swaps 179 = .ok (.iload_n 2, 1) := by decide +kernel
theorem dX12_swaps_180 : decode cX12_swaps 180 = .ok (.imul, 1) := by decide +kernel
theorem dX12_swaps_181 : decode cX12_swaps 181 = .ok (.iadd, 1) := by decide +kernel
theorem dX12_swaps_182 : decode cX12_swaps 182 = .ok (.iload 4, 2) := by decide +kernel
theorem dX12_swaps_184 : decode cX12_swaps 184 = .ok (.iadd, 1) := by decide +kernel
theorem dX12_swaps_185 : decode cX12_swaps 185 = .ok (.iaload, 1) := by decide +kernel
theorem dX12_swaps_186 : decode cX12_swaps 186 = .ok (.iastore, 1) := by decide +kernel
theorem dX12_swaps_187 : decode cX12_swaps 187 = .ok (.aload_n 0, 1) := by decide +kernel
theorem dX12_swaps_188 : decode cX12_swaps 188 = .ok (.getfield 7, 3) := by decide +kernel
theorem dX12_swaps_191 : decode cX12_swaps 191 = .ok (.bipush 21, 2) := by decide +kernel
theorem dX12_swaps_193 : decode cX12_swaps 193 = .ok (.iconst 3, 1) := by decide +kernel
theorem dX12_swaps_194 : decode cX12_swaps 194 = .ok (.iload_n 2, 1) := by decide +kernel
theorem dX12_swaps_195 : decode cX12_swaps 195 = .ok (.imul, 1) := by decide +kernel
theorem dX12_swaps_196 : decode cX12_swaps 196 = .ok (.iadd, 1) := by decide +kernel
theorem dX12_swaps_197 : decode cX12_swaps 197 = .ok (.iload 4, 2) := by decide +kernel
theorem dX12_swaps_199 : decode cX12_swaps 199 = .ok (.iadd, 1) := by decide +kernel
theorem dX12_swaps_200 : decode cX12_swaps 200 = .ok (.aload_n 0, 1) := by decide +kernel
theorem dX12_swaps_201 : decode cX12_swaps 201 = .ok (.getfield 35, 3) := by decide +kernel
theorem dX12_swaps_204 : decode cX12_swaps 204 = .ok (.bipush 21, 2) := by decide +kernel
theorem dX12_swaps_206 : decode cX12_swaps 206 = .ok (.iconst 3, 1) := by decide +kernel
theorem dX12_swaps_207 : decode cX12_swaps 207 = .ok (.iload_n 1, 1) := by decide +kernel
theorem dX12_swaps_208 : decode cX12_swaps 208 = .ok (.imul, 1) := by decide +kernel
theorem dX12_swaps_209 : decode cX12_swaps 209 = .ok (.iadd, 1) := by decide +kernel
theorem dX12_swaps_210 : decode cX12_swaps 210 = .ok (.iload 4, 2) := by decide +kernel
theorem dX12_swaps_212 : decode cX12_swaps 212 = .ok (.iadd, 1) := by decide +kernel
theorem dX12_swaps_213 : decode cX12_swaps 213 = .ok (.iaload, 1) := by decide +kernel
theorem dX12_swaps_214 : decode cX12_swaps 214 = .ok (.iastore, 1) := by decide +kernel
theorem dX12_swaps_215 : decode cX12_swaps 215 = .ok (.iinc 4 1, 3) := by decide +kernel
theorem dX12_swaps_218 : decode cX12_swaps 218 = .ok (.goto (-65), 3) := by decide +kernel
theorem dX12_swaps_221 : decode cX12_swaps 221 = .ok (.iload_n 3, 1) := by decide +kernel
theorem dX12_swaps_222 : decode cX12_swaps 222 = .ok (.ireturn, 1) := by decide +kernel
theorem dX12_swap_0 : decode cX12_swap 0 = .ok (.aload_n 0, 1) := by decide +kernel
theorem dX12_swap_1 : decode cX12_swap 1 = .ok (.iload_n 1, 1) := by decide +kernel
theorem dX12_swap_2 : decode cX12_swap 2 = .ok (.invokevirtual 81, 3) := by decide +kernel
theorem dX12_swap_5 : decode cX12_swap 5 = .ok (.ifCond .eq 16, 3) := by decide +kernel
theorem dX12_swap_8 : decode cX12_swap 8 = .ok (.aload_n 0, 1) := by decide +kernel
theorem dX12_swap_9 : decode cX12_swap 9 = .ok (.iload_n 2, 1) := by decide +kernel
theorem dX12_swap_10 : decode cX12_swap 10 = .ok (.invokevirtual 81, 3) := by decide +kernel
theorem dX12_swap_13 : decode cX12_swap 13 = .ok (.ifCond .eq 8, 3) := by decide +kernel
theorem dX12_swap_16 : decode cX12_swap 16 = .ok (.iload_n 1, 1) := by decide +kernel
theorem dX12_swap_17 : decode cX12_swap 17 = .ok (.iload_n 2, 1) := by decide +kernel
theorem dX12_swap_18 : decode cX12_swap 18 = .ok (.if_icmp .ne 7, 3) := by decide +kernel
theorem dX12_swap_21 : decode cX12_swap 21 = .ok (.sipush (-1001), 3) := by decide +kernel
theorem dX12_swap_24 : decode cX12_swap 24 = .ok (.ireturn, 1) := by decide +kernel
theorem dX12_swap_25 : decode cX12_swap 25 = .ok (.aload_n 0, 1) := by decide +kernel
theorem dX12_swap_26 : decode cX12_swap 26 = .ok (.invokevirtual 196, 3) := by decide +kernel
theorem dX12_swap_29 : decode cX12_swap 29 = .ok (.aload_n 0, 1) := by decide +kernel
theorem dX12_swap_30 : decode cX12_swap 30 = .ok (.iload_n 1, 1) := by decide +kernel
theorem dX12_swap_31 : decode cX12_swap 31 = .ok (.iload_n 2, 1) := by decide +kernel
theorem dX12_swap_32 : decode cX12_swap 32 = .ok (.invokevirtual 143, 3) := by decide +kernel
theorem dX12_swap_35 : decode cX12_swap 35 = .ok (.ireturn, 1) := by decide +kernel
theorem dX12_add_0 : decode cX12_add 0 = .ok (.iload_n 1, 1) := by decide +kernel
theorem dX12_add_1 : decode cX12_add 1 = .ok (.invokestatic 203, 3) := by decide +kernel
theorem dX12_add_4 : decode cX12_add 4 = .ok (.ifCond .eq 17, 3) := by decide +kernel
theorem dX12_add_7 : decode cX12_add 7 = .ok (.iload_n 2, 1) := by decide +kernel
theorem dX12_add_8 : decode cX12_add 8 = .ok (.invokestatic 203, 3) := by decide +kernel
theorem dX12_add_11 : decode cX12_add 11 = .ok (.ifCond .eq 10, 3) := by decide +kernel
theorem dX12_add_14 : decode cX12_add 14 = .ok (.iload_n 3, 1) := by decide +kernel
theorem dX12_add_15 : decode cX12_add 15 = .ok (.invokestatic 203, 3) := by decide +kernel
theorem dX12_add_18 : decode cX12_add 18 = .ok (.ifCond .ne 7, 3) := by decide +kernel
theorem dX12_add_21 : decode cX12_add 21 = .ok (.sipush (-1002), 3) := by decide +kernel
theorem dX12_add_24 : decode cX12_add 24 = .ok (.ireturn, 1) := by decide +kernel
theorem dX12_add_25 : decode cX12_add 25 = .ok (.aload_n 0, 1) := by decide +kernel
theorem dX12_add_26 : decode cX12_add 26 = .ok (.invokevirtual 73, 3) := by decide +kernel
theorem dX12_add_29 : decode cX12_add 29 = .ok (.bipush 6, 2) := by decide +kernel
theorem dX12_add_31 : decode cX12_add 31 = .ok (.if_icmp .ne 7, 3) := by decide +kernel
theorem dX12_add_34 : decode cX12_add 34 = .ok (.sipush (-1004), 3) := by decide +kernel
theorem dX12_add_37 : decode cX12_add 37 = .ok (.ireturn, 1) := by decide +kernel
theorem dX12_add_38 : decode cX12_add 38 = .ok (.aload_n 0, 1) := by decide +kernel
theorem dX12_add_39 : decode cX12_add 39 = .ok (.invokevirtual 196, 3) := by decide +kernel
theorem dX12_add_42 : decode cX12_add 42 = .ok (.aload_n 0, 1) := by decide +kernel
theorem dX12_add_43 : decode cX12_add 43 = .ok (.invokevirtual 73, 3) := by decide +kernel
theorem dX12_add_46 : decode cX12_add 46 = .ok (.istore 4, 2) := by decide +kernel
theorem dX12_add_48 : decode cX12_add 48 = .ok (.aload_n 0, 1) := by decide +kernel
theorem dX12_add_49 : decode cX12_add 49 = .ok (.iload 4, 2) := by decide +kernel
theorem dX12_add_51 : decode cX12_add 51 = .ok (.iload_n 1, 1) := by decide +kernel
theorem dX12_add_52 : decode cX12_add 52 = .ok (.iload_n 2, 1) := by decide +kernel
theorem dX12_add_53 : decode cX12_add 53 = .ok (.iload_n 3, 1) := by decide +kernel
theorem dX12_add_54 : decode cX12_add 54 = .ok (.invokevirtual 206, 3) := by decide +kernel
theorem dX12_add_57 : decode cX12_add 57 = .ok (.iconst 0, 1) := by decide +kernel
theorem dX12_add_58 : decode cX12_add 58 = .ok (.istore 5, 2) := by decide +kernel
theorem dX12_add_60 : decode cX12_add 60 = .ok (.iload 5, 2) := by decide +kernel
theorem dX12_add_62 : decode cX12_add 62 = .ok (.iload 4, 2) := by decide +kernel
theorem dX12_add_64 : decode cX12_add 64 = .ok (.if_icmp .ge 48, 3) := by decide +kernel
theorem dX12_add_67 : decode cX12_add 67 = .ok (.iload 5, 2) := by decide +kernel
theorem dX12_add_69 : decode cX12_add 69 = .ok (.iconst 1, 1) := by decide +kernel
theorem dX12_add_70 : decode cX12_add 70 = .ok (.iadd, 1) := by decide +kernel
theorem dX12_add_71 : decode cX12_add 71 = .ok (.istore 6, 2) := by decide +kernel
theorem dX12_add_73 : decode cX12_add 73 = .ok (.iload 6, 2) := by decide +kernel
theorem dX12_add_75 : decode cX12_add 75 = .ok (.iload 4, 2) := by decide +kernel
theorem dX12_add_77 : decode cX12_add 77 = .ok (.if_icmp .ge 29, 3) := by decide +kernel
theorem dX12_add_80 : decode cX12_add 80 = .ok (.aload_n 0, 1) := by decide +kernel
theorem dX12_add_81 : decode cX12_add 81 = .ok (.iload 5, 2) := by decide +kernel
theorem dX12_add_83 : decode cX12_add 83 = .ok (.iload 6, 2) := by decide +kernel
theorem dX12_add_85 : decode cX12_add 85 = .ok (.iload 4, 2) := by decide +kernel
theorem dX12_add_87 : decode cX12_add 87 = .ok (.aload_n 0, 1) := by decide +kernel
theorem dX12_add_88 : decode cX12_add 88 = .ok (.iload 5, 2) := by decide +kernel
theorem dX12_add_90 : decode cX12_add 90 = .ok (.iload 6, 2) := by decide +kernel
theorem dX12_add_92 : decode cX12_add 92 = .ok (.iload 4, 2) := by decide +kernel
theorem dX12_add_94 : decode cX12_add 94 = .ok (.invokevirtual 185, 3) := by decide +kernel
theorem dX12_add_97 : decode cX12_add 97 = .ok (.invokevirtual 133, 3) := by decide +kernel
theorem dX12_add_100 : decode cX12_add 100 = .ok (.iinc 6 1, 3) := by decide +kernel
theorem dX12_add_103 : decode cX12_add 103 = .ok (.goto (-30), 3) := by decide +kernel
theorem dX12_add_106 : decode cX12_add 106 = .ok (.iinc 5 1, 3) := by decide +kernel
theorem dX12_add_109 : decode cX12_add 109 = .ok (.goto (-49), 3) := by decide +kernel
theorem dX12_add_112 : decode cX12_add 112 = .ok (.aload_n 0, 1) := by decide +kernel
theorem dX12_add_113 : decode cX12_add 113 = .ok (.getfield 7, 3) := by decide +kernel
theorem dX12_add_116 : decode cX12_add 116 = .ok (.iconst 0, 1) := by decide +kernel
theorem dX12_add_117 : decode cX12_add 117 = .ok (.dup2, 1) := by decide +kernel
theorem dX12_add_118 : decode cX12_add 118 = .ok (.iaload, 1) := by decide +kernel
theorem dX12_add_119 : decode cX12_add 119 = .ok (.iconst 1, 1) := by decide +kernel
theorem dX12_add_120 : decode cX12_add 120 = .ok (.iadd, 1) := by decide +kernel
theorem dX12_add_121 : decode cX12_add 121 = .ok (.iastore, 1) := by decide +kernel
theorem dX12_add_122 : decode cX12_add 122 = .ok (.aload_n 0, 1) := by decide +kernel
theorem dX12_add_123 : decode cX12_add 123 = .ok (.invokevirtual 73, 3) := by decide +kernel
theorem dX12_add_126 : decode cX12_add 126 = .ok (.ireturn, 1) := by decide +kernel
theorem dX12_drop_0 : decode cX12_drop 0 = .ok (.aload_n 0, 1) := by decide +kernel
theorem dX12_drop_1 : decode cX12_drop 1 = .ok (.iload_n 1, 1) := by decide +kernel
theorem dX12_drop_2 : decode cX12_drop 2 = .ok (.invokevirtual 81, 3) := by decide +kernel
theorem dX12_drop_5 : decode cX12_drop 5 = .ok (.ifCond .ne 7, 3) := by decide +kernel
theorem dX12_drop_8 : decode cX12_drop 8 = .ok (.sipush (-1001), 3) := by decide +kernel
theorem dX12_drop_11 : decode cX12_drop 11 = .ok (.ireturn, 1) := by decide +kernel
theorem dX12_drop_12 : decode cX12_drop 12 = .ok (.aload_n 0, 1) := by decide +kernel
theorem dX12_drop_13 : decode cX12_drop 13 = .ok (.invokevirtual 73, 3) := by decide +kernel
theorem dX12_drop_16 : decode cX12_drop 16 = .ok (.iconst 3, 1) := by decide +kernel
theorem dX12_drop_17 : decode cX12_drop 17 = .ok (.if_icmp .ne 7, 3) := by decide +kernel
theorem dX12_drop_20 : decode cX12_drop 20 = .ok (.sipush (-1003), 3) := by decide +kernel
theorem dX12_drop_23 : decode cX12_drop 23 = .ok (.ireturn, 1) := by decide +kernel
theorem dX12_drop_24 : decode cX12_drop 24 = .ok (.aload_n 0, 1) := by decide +kernel
theorem dX12_drop_25 : decode cX12_drop 25 = .ok (.invokevirtual 196, 3) := by decide +kernel
theorem dX12_drop_28 : decode cX12_drop 28 = .ok (.iconst 0, 1) := by decide +kernel
theorem dX12_drop_29 : decode cX12_drop 29 = .ok (.istore_n 2, 1) := by decide +kernel
theorem dX12_drop_30 : decode cX12_drop 30 = .ok (.iload_n 2, 1) := by decide +kernel
theorem dX12_drop_31 : decode cX12_drop 31 = .ok (.bipush 39, 2) := by decide +kernel
theorem dX12_drop_33 : decode cX12_drop 33 = .ok (.if_icmp .ge 21, 3) := by decide +kernel
theorem dX12_drop_36 : decode cX12_drop 36 = .ok (.aload_n 0, 1) := by decide +kernel
theorem dX12_drop_37 : decode cX12_drop 37 = .ok (.getfield 35, 3) := by decide +kernel
theorem dX12_drop_40 : decode cX12_drop 40 = .ok (.iload_n 2, 1) := by decide +kernel
theorem dX12_drop_41 : decode cX12_drop 41 = .ok (.aload_n 0, 1) := by decide +kernel
theorem dX12_drop_42 : decode cX12_drop 42 = .ok (.getfield 7, 3) := by decide +kernel
theorem dX12_drop_45 : decode cX12_drop 45 = .ok (.iload_n 2, 1) := by decide +kernel
theorem dX12_drop_46 : decode cX12_drop 46 = .ok (.iaload, 1) := by decide +kernel
theorem dX12_drop_47 : decode cX12_drop 47 = .ok (.iastore, 1) := by decide +kernel
theorem dX12_drop_48 : decode cX12_drop 48 = .ok (.iinc 2 1, 3) := by decide +kernel
theorem dX12_drop_51 : decode cX12_drop 51 = .ok (.goto (-21), 3) := by decide +kernel
theorem dX12_drop_54 : decode cX12_drop 54 = .ok (.aload_n 0, 1) := by decide +kernel
theorem dX12_drop_55 : decode cX12_drop 55 = .ok (.getfield 7, 3) := by decide +kernel
theorem dX12_drop_58 : decode cX12_drop 58 = .ok (.iconst 0, 1) := by decide +kernel
theorem dX12_drop_59 : decode cX12_drop 59 = .ok (.dup2, 1) := by decide +kernel
theorem dX12_drop_60 : decode cX12_drop 60 = .ok (.iaload, 1) := by decide +kernel
theorem dX12_drop_61 : decode cX12_drop 61 = .ok (.iconst 1, 1) := by decide +kernel
theorem dX12_drop_62 : decode cX12_drop 62 = .ok (.isub, 1) := by decide +kernel
theorem dX12_drop_63 : decode cX12_drop 63 = .ok (.iastore, 1) := by decide +kernel
theorem dX12_drop_64 : decode cX12_drop 64 = .ok (.iconst 0, 1) := by decide +kernel
theorem dX12_drop_65 : decode cX12_drop 65 = .ok (.istore_n 2, 1) := by decide +kernel
theorem dX12_drop_66 : decode cX12_drop 66 = .ok (.iload_n 2, 1) := by decide +kernel
theorem dX12_drop_67 : decode cX12_drop 67 = .ok (.aload_n 0, 1) := by decide +kernel
theorem dX12_drop_68 : decode cX12_drop 68 = .ok (.invokevirtual 73, 3) := by decide +kernel
theorem dX12_drop_71 : decode cX12_drop 71 = .ok (.if_icmp .ge 153, 3) := by decide +kernel
theorem dX12_drop_74 : decode cX12_drop 74 = .ok (.iload_n 2, 1) := by decide +kernel
theorem dX12_drop_75 : decode cX12_drop 75 = .ok (.iconst 1, 1) := by decide +kernel
theorem dX12_drop_76 : decode cX12_drop 76 = .ok (.iadd, 1) := by decide +kernel
theorem dX12_drop_77 : decode cX12_drop 77 = .ok (.istore_n 3, 1) := by decide +kernel
theorem dX12_drop_78 : decode cX12_drop 78 = .ok (.iload_n 3, 1) := by decide +kernel
theorem dX12_drop_79 : decode cX12_drop 79 = .ok (.aload_n 0, 1) := by decide +kernel
theorem dX12_drop_80 : decode cX12_drop 80 = .ok (.invokevirtual 73, 3) := by decide +kernel
theorem dX12_drop_83 : decode cX12_drop 83 = .ok (.if_icmp .ge 80, 3) := by decide +kernel
theorem dX12_drop_86 : decode cX12_drop 86 = .ok (.iload_n 3, 1) := by decide +kernel
theorem dX12_drop_87 : decode cX12_drop 87 = .ok (.iconst 1, 1) := by decide +kernel
theorem dX12_drop_88 : decode cX12_drop 88 = .ok (.iadd, 1) := by decide +kernel
theorem dX12_drop_89 : decode cX12_drop 89 = .ok (.istore 4, 2) := by decide +kernel
theorem dX12_drop_91 : decode cX12_drop 91 = .ok (.iload 4, 2) := by decide +kernel
theorem dX12_drop_93 : decode cX12_drop 93 = .ok (.aload_n 0, 1) := by decide +kernel
theorem dX12_drop_94 : decode cX12_drop 94 = .ok (.invokevirtual 73, 3) := by decide +kernel
theorem dX12_drop_97 : decode cX12_drop 97 = .ok (.if_icmp .ge 60, 3) := by decide +kernel
theorem dX12_drop_100 : decode cX12_drop 100 = .ok (.aload_n 0, 1) := by decide +kernel
theorem dX12_drop_101 : decode cX12_drop 101 = .ok (.iload_n 2, 1) := by decide +kernel
theorem dX12_drop_102 : decode cX12_drop 102 = .ok (.iload_n 3, 1) := by decide +kernel
theorem dX12_drop_103 : decode cX12_drop 103 = .ok (.iload 4, 2) := by decide +kernel
theorem dX12_drop_105 : decode cX12_drop 105 = .ok (.aload_n 0, 1) := by decide +kernel
theorem dX12_drop_106 : decode cX12_drop 106 = .ok (.iload_n 2, 1) := by decide +kernel
theorem dX12_drop_107 : decode cX12_drop 107 = .ok (.iload_n 1, 1) := by decide +kernel
theorem dX12_drop_108 : decode cX12_drop 108 = .ok (.if_icmp .ge 7, 3) := by decide +kernel
theorem dX12_drop_111 : decode cX12_drop 111 = .ok (.iload_n 2, 1) := by decide +kernel
theorem dX12_drop_112 : decode cX12_drop 112 = .ok (.goto 6, 3) := by decide +kernel
theorem dX12_drop_115 : decode cX12_drop 115 = .ok (.iload_n 2, 1) := by decide +kernel
theorem dX12_drop_116 : decode cX12_drop 116 = .ok (.iconst 1, 1) := by decide +kernel
theorem dX12_drop_117 : decode cX12_drop 117 = .ok (.iadd, 1) := by decide +kernel
theorem dX12_drop_118 : decode cX12_drop 118 = .ok (.iload_n 3, 1) := by decide +kernel
theorem dX12_drop_119 : decode cX12_drop 119 = .ok (.iload_n 1, 1) := by decide +kernel
theorem dX12_drop_120 : decode cX12_drop 120 = .ok (.if_icmp .ge 7, 3) := by decide +kernel
theorem dX12_drop_123 : decode cX12_drop 123 = .ok (.iload_n 3, 1) := by decide +kernel
theorem dX12_drop_124 : decode cX12_drop 124 = .ok (.goto 6, 3) := by decide +kernel
theorem dX12_drop_127 : decode cX12_drop 127 = .ok (.iload_n 3, 1) := by decide +kernel
theorem dX12_drop_128 : decode cX12_drop 128 = .ok (.iconst 1, 1) := by decide +kernel
theorem dX12_drop_129 : decode cX12_drop 129 = .ok (.iadd, 1) := by decide +kernel
theorem dX12_drop_130 : decode cX12_drop 130 = .ok (.iload 4, 2) := by decide +kernel
theorem dX12_drop_132 : decode cX12_drop 132 = .ok (.iload_n 1, 1) := by decide +kernel
theorem dX12_drop_133 : decode cX12_drop 133 = .ok (.if_icmp .ge 8, 3) := by decide +kernel
theorem dX12_drop_136 : decode cX12_drop 136 = .ok (.iload 4, 2) := by decide +kernel
theorem dX12_drop_138 : decode cX12_drop 138 = .ok (.goto 7, 3) := by decide +kernel
theorem dX12_drop_141 : decode cX12_drop 141 = .ok (.iload 4, 2) := by decide +kernel
theorem dX12_drop_143 : decode cX12_drop 143 = .ok (.iconst 1, 1) := by decide +kernel
theorem dX12_drop_144 : decode cX12_drop 144 = .ok (.iadd, 1) := by decide +kernel
theorem dX12_drop_145 : decode cX12_drop 145 = .ok (.invokevirtual 212, 3) := by decide +kernel
theorem dX12_drop_148 : decode cX12_drop 148 = .ok (.invokevirtual 133, 3) := by decide +kernel
theorem dX12_drop_151 : decode cX12_drop 151 = .ok (.iinc 4 1, 3) := by decide +kernel
theorem dX12_drop_154 : decode cX12_drop 154 = .ok (.goto (-63), 3) := by decide +kernel
theorem dX12_drop_157 : decode cX12_drop 157 = .ok (.iinc 3 1, 3) := by decide +kernel
theorem dX12_drop_160 : decode cX12_drop 160 = .ok (.goto (-82), 3) := by decide +kernel
theorem dX12_drop_163 : decode cX12_drop 163 = .ok (.iload_n 2, 1) := by decide +kernel
theorem dX12_drop_164 : decode cX12_drop 164 = .ok (.iload_n 1, 1) := by decide +kernel
theorem dX12_drop_165 : decode cX12_drop 165 = .ok (.if_icmp .ge 7, 3) := by decide +kernel
theorem dX12_drop_168 : decode cX12_drop 168 = .ok (.iload_n 2, 1) := by decide +kernel
theorem dX12_drop_169 : decode cX12_drop 169 = .ok (.goto 6, 3) := by decide +kernel
theorem dX12_drop_172 : decode cX12_drop 172 = .ok (.iload_n 2, 1) := by decide +kernel
theorem dX12_drop_173 : decode cX12_drop 173 = .ok (.iconst 1, 1) := by decide +kernel
theorem dX12_drop_174 : decode cX12_drop 174 = .ok (.iadd, 1) := by decide +kernel
theorem dX12_drop_175 : decode cX12_drop 175 = .ok (.istore_n 3, 1) := by decide +kernel
theorem dX12_drop_176 : decode cX12_drop 176 = .ok (.aload_n 0, 1) := by decide +kernel
theorem dX12_drop_177 : decode cX12_drop 177 = .ok (.iload_n 2, 1) := by decide +kernel
theorem dX12_drop_178 : decode cX12_drop 178 = .ok (.aload_n 0, 1) := by decide +kernel
theorem dX12_drop_179 : decode cX12_drop 179 = .ok (.getfield 35, 3) := by decide +kernel
theorem dX12_drop_182 : decode cX12_drop 182 = .ok (.bipush 21, 2) := by decide +kernel
theorem dX12_drop_184 : decode cX12_drop 184 = .ok (.iconst 3, 1) := by decide +kernel
theorem dX12_drop_185 : decode cX12_drop 185 = .ok (.iload_n 3, 1) := by decide +kernel
theorem dX12_drop_186 : decode cX12_drop 186 = .ok (.imul, 1) := by decide +kernel
theorem dX12_drop_187 : decode cX12_drop 187 = .ok (.iadd, 1) := by decide +kernel
theorem dX12_drop_188 : decode cX12_drop 188 = .ok (.iaload, 1) := by decide +kernel
theorem dX12_drop_189 : decode cX12_drop 189 = .ok (.aload_n 0, 1) := by decide +kernel
theorem dX12_drop_190 : decode cX12_drop 190 = .ok (.getfield 35, 3) := by decide +kernel
theorem dX12_drop_193 : decode cX12_drop 193 = .ok (.bipush 21, 2) := by decide +kernel
theorem dX12_drop_195 : decode cX12_drop 195 = .ok (.iconst 3, 1) := by decide +kernel
theorem dX12_drop_196 : decode cX12_drop 196 = .ok (.iload_n 3, 1) := by decide +kernel
theorem dX12_drop_197 : decode cX12_drop 197 = .ok (.imul, 1) := by decide +kernel
theorem dX12_drop_198 : decode cX12_drop 198 = .ok (.iadd, 1) := by decide +kernel
theorem dX12_drop_199 : decode cX12_drop 199 = .ok (.iconst 1, 1) := by decide +kernel
theorem dX12_drop_200 : decode cX12_drop 200 = .ok (.iadd, 1) := by decide +kernel
theorem dX12_drop_201 : decode cX12_drop 201 = .ok (.iaload, 1) := by decide +kernel
theorem dX12_drop_202 : decode cX12_drop 202 = .ok (.aload_n 0, 1) := by decide +kernel
theorem dX12_drop_203 : decode cX12_drop 203 = .ok (.getfield 35, 3) := by decide +kernel
theorem dX12_drop_206 : decode cX12_drop 206 = .ok (.bipush 21, 2) := by decide +kernel
theorem dX12_drop_208 : decode cX12_drop 208 = .ok (.iconst 3, 1) := by decide +kernel
theorem dX12_drop_209 : decode cX12_drop 209 = .ok (.iload_n 3, 1) := by decide +kernel
theorem dX12_drop_210 : decode cX12_drop 210 = .ok (.imul, 1) := by decide +kernel
theorem dX12_drop_211 : decode cX12_drop 211 = .ok (.iadd, 1) := by decide +kernel
theorem dX12_drop_212 : decode cX12_drop 212 = .ok (.iconst 2, 1) := by decide +kernel
theorem dX12_drop_213 : decode cX12_drop 213 = .ok (.iadd, 1) := by decide +kernel
theorem dX12_drop_214 : decode cX12_drop 214 = .ok (.iaload, 1) := by decide +kernel
theorem dX12_drop_215 : decode cX12_drop 215 = .ok (.invokevirtual 206, 3) := by decide +kernel
theorem dX12_drop_218 : decode cX12_drop 218 = .ok (.iinc 2 1, 3) := by decide +kernel
theorem dX12_drop_221 : decode cX12_drop 221 = .ok (.goto (-155), 3) := by decide +kernel
theorem dX12_drop_224 : decode cX12_drop 224 = .ok (.aload_n 0, 1) := by decide +kernel
theorem dX12_drop_225 : decode cX12_drop 225 = .ok (.invokevirtual 73, 3) := by decide +kernel
theorem dX12_drop_228 : decode cX12_drop 228 = .ok (.ireturn, 1) := by decide +kernel
theorem dX12_draws_0 : decode cX12_draws 0 = .ok (.iconst 0, 1) := by decide +kernel
theorem dX12_draws_1 : decode cX12_draws 1 = .ok (.istore_n 1, 1) := by decide +kernel
theorem dX12_draws_2 : decode cX12_draws 2 = .ok (.iconst 0, 1) := by decide +kernel
theorem dX12_draws_3 : decode cX12_draws 3 = .ok (.istore_n 2, 1) := by decide +kernel
theorem dX12_draws_4 : decode cX12_draws 4 = .ok (.iload_n 2, 1) := by decide +kernel
theorem dX12_draws_5 : decode cX12_draws 5 = .ok (.aload_n 0, 1) := by decide +kernel
theorem dX12_draws_6 : decode cX12_draws 6 = .ok (.invokevirtual 73, 3) := by decide +kernel
theorem dX12_draws_9 : decode cX12_draws 9 = .ok (.if_icmp .ge 88, 3) := by decide +kernel
theorem dX12_draws_12 : decode cX12_draws 12 = .ok (.iload_n 2, 1) := by decide +kernel
theorem dX12_draws_13 : decode cX12_draws 13 = .ok (.iconst 1, 1) := by decide +kernel
theorem dX12_draws_14 : decode cX12_draws 14 = .ok (.iadd, 1) := by decide +kernel
theorem dX12_draws_15 : decode cX12_draws 15 = .ok (.istore_n 3, 1) := by decide +kernel
theorem dX12_draws_16 : decode cX12_draws 16 = .ok (.iload_n 3, 1) := by decide +kernel
theorem dX12_draws_17 : decode cX12_draws 17 = .ok (.aload_n 0, 1) := by decide +kernel
theorem dX12_draws_18 : decode cX12_draws 18 = .ok (.invokevirtual 73, 3) := by decide +kernel
theorem dX12_draws_21 : decode cX12_draws 21 = .ok (.if_icmp .ge 70, 3) := by decide +kernel
theorem dX12_draws_24 : decode cX12_draws 24 = .ok (.iload_n 3, 1) := by decide +kernel
theorem dX12_draws_25 : decode cX12_draws 25 = .ok (.iconst 1, 1) := by decide +kernel
theorem dX12_draws_26 : decode cX12_draws 26 = .ok (.iadd, 1) := by decide +kernel
theorem dX12_draws_27 : decode cX12_draws 27 = .ok (.istore 4, 2) := by decide +kernel
theorem dX12_draws_29 : decode cX12_draws 29 = .ok (.iload 4, 2) := by decide +kernel
theorem dX12_draws_31 : decode cX12_draws 31 = .ok (.aload_n 0, 1) := by decide +kernel
theorem dX12_draws_32 : decode cX12_draws 32 = .ok (.invokevirtual 73, 3) := by decide +kernel
theorem dX12_draws_35 : decode cX12_draws 35 = .ok (.if_icmp .ge 50, 3) := by decide +kernel
theorem dX12_draws_38 : decode cX12_draws 38 = .ok (.aload_n 0, 1) := by decide +kernel
theorem dX12_draws_39 : decode cX12_draws 39 = .ok (.iload_n 2, 1) := by decide +kernel
theorem dX12_draws_40 : decode cX12_draws 40 = .ok (.iload_n 3, 1) := by decide +kernel
theorem dX12_draws_41 : decode cX12_draws 41 = .ok (.iload 4, 2) := by decide +kernel
theorem dX12_draws_43 : decode cX12_draws 43 = .ok (.invokevirtual 185, 3) := by decide +kernel
theorem dX12_draws_46 : decode cX12_draws 46 = .ok (.istore 5, 2) := by decide +kernel
theorem dX12_draws_48 : decode cX12_draws 48 = .ok (.iload_n 1, 1) := by decide +kernel
theorem dX12_draws_49 : decode cX12_draws 49 = .ok (.iload 5, 2) := by decide +kernel
theorem dX12_draws_51 : decode cX12_draws 51 = .ok (.aload_n 0, 1) := by decide +kernel
theorem dX12_draws_52 : decode cX12_draws 52 = .ok (.iload_n 2, 1) := by decide +kernel
theorem dX12_draws_53 : decode cX12_draws 53 = .ok (.iload_n 3, 1) := by decide +kernel
theorem dX12_draws_54 : decode cX12_draws 54 = .ok (.iload 4, 2) := by decide +kernel
theorem dX12_draws_56 : decode cX12_draws 56 = .ok (.invokevirtual 182, 3) := by decide +kernel
theorem dX12_draws_59 : decode cX12_draws 59 = .ok (.if_icmp .eq 7, 3) := by decide +kernel
theorem dX12_draws_62 : decode cX12_draws 62 = .ok (.iconst 1, 1) := by decide +kernel
theorem dX12_draws_63 : decode cX12_draws 63 = .ok (.goto 4, 3) := by decide +kernel
theorem dX12_draws_66 : decode cX12_draws 66 = .ok (.iconst 0, 1) := by decide +kernel
theorem dX12_draws_67 : decode cX12_draws 67 = .ok (.iadd, 1) := by decide +kernel
theorem dX12_draws_68 : decode cX12_draws 68 = .ok (.istore_n 1, 1) := by decide +kernel
theorem dX12_draws_69 : decode cX12_draws 69 = .ok (.aload_n 0, 1) := by decide +kernel
theorem dX12_draws_70 : decode cX12_draws 70 = .ok (.iload_n 2, 1) := by decide +kernel
theorem dX12_draws_71 : decode cX12_draws 71 = .ok (.iload_n 3, 1) := by decide +kernel
theorem dX12_draws_72 : decode cX12_draws 72 = .ok (.iload 4, 2) := by decide +kernel
theorem dX12_draws_74 : decode cX12_draws 74 = .ok (.iload 5, 2) := by decide +kernel
theorem dX12_draws_76 : decode cX12_draws 76 = .ok (.invokevirtual 133, 3) := by decide +kernel
theorem dX12_draws_79 : decode cX12_draws 79 = .ok (.iinc 4 1, 3) := by decide +kernel
theorem dX12_draws_82 : decode cX12_draws 82 = .ok (.goto (-53), 3) := by decide +kernel
theorem dX12_draws_85 : decode cX12_draws 85 = .ok (.iinc 3 1, 3) := by decide +kernel
theorem dX12_draws_88 : decode cX12_draws 88 = .ok (.goto (-72), 3) := by decide +kernel
theorem dX12_draws_91 : decode cX12_draws 91 = .ok (.iinc 2 1, 3) := by decide +kernel
theorem dX12_draws_94 : decode cX12_draws 94 = .ok (.goto (-90), 3) := by decide +kernel
theorem dX12_draws_97 : decode cX12_draws 97 = .ok (.iload_n 1, 1) := by decide +kernel
theorem dX12_draws_98 : decode cX12_draws 98 = .ok (.ireturn, 1) := by decide +kernel
theorem dX12_draw_0 : decode cX12_draw 0 = .ok (.aload_n 0, 1) := by decide +kernel
theorem dX12_draw_1 : decode cX12_draw 1 = .ok (.invokevirtual 196, 3) := by decide +kernel
theorem dX12_draw_4 : decode cX12_draw 4 = .ok (.aload_n 0, 1) := by decide +kernel
theorem dX12_draw_5 : decode cX12_draw 5 = .ok (.invokevirtual 163, 3) := by decide +kernel
theorem dX12_draw_8 : decode cX12_draw 8 = .ok (.ireturn, 1) := by decide +kernel
theorem dX12_undo_0 : decode cX12_undo 0 = .ok (.aload_n 0, 1) := by decide +kernel
theorem dX12_undo_1 : decode cX12_undo 1 = .ok (.getfield 176, 3) := by decide +kernel
theorem dX12_undo_4 : decode cX12_undo 4 = .ok (.ifCond .ne 7, 3) := by decide +kernel
theorem dX12_undo_7 : decode cX12_undo 7 = .ok (.sipush (-1003), 3) := by decide +kernel
theorem dX12_undo_10 : decode cX12_undo 10 = .ok (.ireturn, 1) := by decide +kernel
theorem dX12_undo_11 : decode cX12_undo 11 = .ok (.aload_n 0, 1) := by decide +kernel
theorem dX12_undo_12 : decode cX12_undo 12 = .ok (.dup, 1) := by decide +kernel
theorem dX12_undo_13 : decode cX12_undo 13 = .ok (.getfield 176, 3) := by decide +kernel
theorem dX12_undo_16 : decode cX12_undo 16 = .ok (.iconst 1, 1) := by decide +kernel
theorem dX12_undo_17 : decode cX12_undo 17 = .ok (.isub, 1) := by decide +kernel
theorem dX12_undo_18 : decode cX12_undo 18 = .ok (.putfield 176, 3) := by decide +kernel
theorem dX12_undo_21 : decode cX12_undo 21 = .ok (.aload_n 0, 1) := by decide +kernel
theorem dX12_undo_22 : decode cX12_undo 22 = .ok (.bipush 39, 2) := by decide +kernel
theorem dX12_undo_24 : decode cX12_undo 24 = .ok (.bipush 39, 2) := by decide +kernel
theorem dX12_undo_26 : decode cX12_undo 26 = .ok (.aload_n 0, 1) := by decide +kernel
theorem dX12_undo_27 : decode cX12_undo 27 = .ok (.getfield 176, 3) := by decide +kernel
theorem dX12_undo_30 : decode cX12_undo 30 = .ok (.imul, 1) := by decide +kernel
theorem dX12_undo_31 : decode cX12_undo 31 = .ok (.iadd, 1) := by decide +kernel
theorem dX12_undo_32 : decode cX12_undo 32 = .ok (.iconst 0, 1) := by decide +kernel
theorem dX12_undo_33 : decode cX12_undo 33 = .ok (.invokevirtual 190, 3) := by decide +kernel
theorem dX12_undo_36 : decode cX12_undo 36 = .ok (.aload_n 0, 1) := by decide +kernel
theorem dX12_undo_37 : decode cX12_undo 37 = .ok (.getfield 176, 3) := by decide +kernel
theorem dX12_undo_40 : decode cX12_undo 40 = .ok (.ireturn, 1) := by decide +kernel
theorem dX12_keep_0 : decode cX12_keep 0 = .ok (.iload_n 1, 1) := by decide +kernel
theorem dX12_keep_1 : decode cX12_keep 1 = .ok (.i2l, 1) := by decide +kernel
theorem dX12_keep_2 : decode cX12_keep 2 = .ok (.lconst 0, 1) := by decide +kernel
theorem dX12_keep_3 : decode cX12_keep 3 = .ok (.lconst 1, 1) := by decide +kernel
theorem dX12_keep_4 : decode cX12_keep 4 = .ok (.invokestatic 77, 3) := by decide +kernel
theorem dX12_keep_7 : decode cX12_keep 7 = .ok (.ifCond .ne 7, 3) := by decide +kernel
theorem dX12_keep_10 : decode cX12_keep 10 = .ok (.sipush (-1002), 3) := by decide +kernel
theorem dX12_keep_13 : decode cX12_keep 13 = .ok (.ireturn, 1) := by decide +kernel
theorem dX12_keep_14 : decode cX12_keep 14 = .ok (.aload_n 0, 1) := by decide +kernel
theorem dX12_keep_15 : decode cX12_keep 15 = .ok (.iconst 0, 1) := by decide +kernel
theorem dX12_keep_16 : decode cX12_keep 16 = .ok (.sipush 351, 3) := by decide +kernel
theorem dX12_keep_19 : decode cX12_keep 19 = .ok (.bipush 39, 2) := by decide +kernel
theorem dX12_keep_21 : decode cX12_keep 21 = .ok (.iload_n 1, 1) := by decide +kernel
theorem dX12_keep_22 : decode cX12_keep 22 = .ok (.imul, 1) := by decide +kernel
theorem dX12_keep_23 : decode cX12_keep 23 = .ok (.iadd, 1) := by decide +kernel
theorem dX12_keep_24 : decode cX12_keep 24 = .ok (.invokevirtual 190, 3) := by decide +kernel
theorem dX12_keep_27 : decode cX12_keep 27 = .ok (.aload_n 0, 1) := by decide +kernel
theorem dX12_keep_28 : decode cX12_keep 28 = .ok (.getfield 13, 3) := by decide +kernel
theorem dX12_keep_31 : decode cX12_keep 31 = .ok (.iload_n 1, 1) := by decide +kernel
theorem dX12_keep_32 : decode cX12_keep 32 = .ok (.iconst 1, 1) := by decide +kernel
theorem dX12_keep_33 : decode cX12_keep 33 = .ok (.bastore, 1) := by decide +kernel
theorem dX12_keep_34 : decode cX12_keep 34 = .ok (.aload_n 0, 1) := by decide +kernel
theorem dX12_keep_35 : decode cX12_keep 35 = .ok (.invokevirtual 73, 3) := by decide +kernel
theorem dX12_keep_38 : decode cX12_keep 38 = .ok (.ireturn, 1) := by decide +kernel
theorem dX12_back_0 : decode cX12_back 0 = .ok (.iload_n 1, 1) := by decide +kernel
theorem dX12_back_1 : decode cX12_back 1 = .ok (.i2l, 1) := by decide +kernel
theorem dX12_back_2 : decode cX12_back 2 = .ok (.lconst 0, 1) := by decide +kernel
theorem dX12_back_3 : decode cX12_back 3 = .ok (.lconst 1, 1) := by decide +kernel
theorem dX12_back_4 : decode cX12_back 4 = .ok (.invokestatic 77, 3) := by decide +kernel
theorem dX12_back_7 : decode cX12_back 7 = .ok (.ifCond .ne 7, 3) := by decide +kernel
theorem dX12_back_10 : decode cX12_back 10 = .ok (.sipush (-1002), 3) := by decide +kernel
theorem dX12_back_13 : decode cX12_back 13 = .ok (.ireturn, 1) := by decide +kernel
theorem dX12_back_14 : decode cX12_back 14 = .ok (.aload_n 0, 1) := by decide +kernel
theorem dX12_back_15 : decode cX12_back 15 = .ok (.getfield 13, 3) := by decide +kernel
theorem dX12_back_18 : decode cX12_back 18 = .ok (.iload_n 1, 1) := by decide +kernel
theorem dX12_back_19 : decode cX12_back 19 = .ok (.baload, 1) := by decide +kernel
theorem dX12_back_20 : decode cX12_back 20 = .ok (.ifCond .ne 7, 3) := by decide +kernel
theorem dX12_back_23 : decode cX12_back 23 = .ok (.sipush (-1003), 3) := by decide +kernel
theorem dX12_back_26 : decode cX12_back 26 = .ok (.ireturn, 1) := by decide +kernel
theorem dX12_back_27 : decode cX12_back 27 = .ok (.aload_n 0, 1) := by decide +kernel
theorem dX12_back_28 : decode cX12_back 28 = .ok (.sipush 351, 3) := by decide +kernel
theorem dX12_back_31 : decode cX12_back 31 = .ok (.bipush 39, 2) := by decide +kernel
theorem dX12_back_33 : decode cX12_back 33 = .ok (.iload_n 1, 1) := by decide +kernel
theorem dX12_back_34 : decode cX12_back 34 = .ok (.imul, 1) := by decide +kernel
theorem dX12_back_35 : decode cX12_back 35 = .ok (.iadd, 1) := by decide +kernel
theorem dX12_back_36 : decode cX12_back 36 = .ok (.iconst 0, 1) := by decide +kernel
theorem dX12_back_37 : decode cX12_back 37 = .ok (.invokevirtual 190, 3) := by decide +kernel
theorem dX12_back_40 : decode cX12_back 40 = .ok (.aload_n 0, 1) := by decide +kernel
theorem dX12_back_41 : decode cX12_back 41 = .ok (.iconst 0, 1) := by decide +kernel
theorem dX12_back_42 : decode cX12_back 42 = .ok (.putfield 176, 3) := by decide +kernel
theorem dX12_back_45 : decode cX12_back 45 = .ok (.aload_n 0, 1) := by decide +kernel
theorem dX12_back_46 : decode cX12_back 46 = .ok (.invokevirtual 73, 3) := by decide +kernel
theorem dX12_back_49 : decode cX12_back 49 = .ok (.ireturn, 1) := by decide +kernel
theorem dX12_isBase_0 : decode cX12_isBase 0 = .ok (.aload_n 0, 1) := by decide +kernel
theorem dX12_isBase_1 : decode cX12_isBase 1 = .ok (.iload_n 1, 1) := by decide +kernel
theorem dX12_isBase_2 : decode cX12_isBase 2 = .ok (.iload_n 2, 1) := by decide +kernel
theorem dX12_isBase_3 : decode cX12_isBase 3 = .ok (.iload_n 3, 1) := by decide +kernel
theorem dX12_isBase_4 : decode cX12_isBase 4 = .ok (.invokevirtual 182, 3) := by decide +kernel
theorem dX12_isBase_7 : decode cX12_isBase 7 = .ok (.ifCond .eq 7, 3) := by decide +kernel
theorem dX12_isBase_10 : decode cX12_isBase 10 = .ok (.iconst 1, 1) := by decide +kernel
theorem dX12_isBase_11 : decode cX12_isBase 11 = .ok (.goto 4, 3) := by decide +kernel
theorem dX12_isBase_14 : decode cX12_isBase 14 = .ok (.iconst 0, 1) := by decide +kernel
theorem dX12_isBase_15 : decode cX12_isBase 15 = .ok (.ireturn, 1) := by decide +kernel
theorem dX12_exchanges_0 : decode cX12_exchanges 0 = .ok (.iconst 0, 1) := by decide +kernel
theorem dX12_exchanges_1 : decode cX12_exchanges 1 = .ok (.istore 8, 2) := by decide +kernel
theorem dX12_exchanges_3 : decode cX12_exchanges 3 = .ok (.iconst 0, 1) := by decide +kernel
theorem dX12_exchanges_4 : decode cX12_exchanges 4 = .ok (.istore 9, 2) := by decide +kernel
theorem dX12_exchanges_6 : decode cX12_exchanges 6 = .ok (.iload 9, 2) := by decide +kernel
theorem dX12_exchanges_8 : decode cX12_exchanges 8 = .ok (.iconst 3, 1) := by decide +kernel
theorem dX12_exchanges_9 : decode cX12_exchanges 9 = .ok (.if_icmp .ge 119, 3) := by decide +kernel
theorem dX12_exchanges_12 : decode cX12_exchanges 12 = .ok (.iload 9, 2) := by decide +kernel
theorem dX12_exchanges_14 : decode cX12_exchanges 14 = .ok (.ifCond .ne 8, 3) := by decide +kernel
theorem dX12_exchanges_17 : decode cX12_exchanges 17 = .ok (.iload 4, 2) := by decide +kernel
theorem dX12_exchanges_19 : decode cX12_exchanges 19 = .ok (.goto 16, 3) := by decide +kernel
theorem dX12_exchanges_22 : decode cX12_exchanges 22 = .ok (.iload 9, 2) := by decide +kernel
theorem dX12_exchanges_24 : decode cX12_exchanges 24 = .ok (.iconst 1, 1) := by decide +kernel
theorem dX12_exchanges_25 : decode cX12_exchanges 25 = .ok (.if_icmp .ne 8, 3) := by decide +kernel
theorem dX12_exchanges_28 : decode cX12_exchanges 28 = .ok (.iload 5, 2) := by decide +kernel
theorem dX12_exchanges_30 : decode cX12_exchanges 30 = .ok (.goto 5, 3) := by decide +kernel
theorem dX12_exchanges_33 : decode cX12_exchanges 33 = .ok (.iload 6, 2) := by decide +kernel
theorem dX12_exchanges_35 : decode cX12_exchanges 35 = .ok (.istore 10, 2) := by decide +kernel
theorem dX12_exchanges_37 : decode cX12_exchanges 37 = .ok (.iload 10, 2) := by decide +kernel
theorem dX12_exchanges_39 : decode cX12_exchanges 39 = .ok (.iload_n 1, 1) := by decide +kernel
theorem dX12_exchanges_40 : decode cX12_exchanges 40 = .ok (.if_icmp .eq 19, 3) := by decide +kernel
theorem dX12_exchanges_43 : decode cX12_exchanges 43 = .ok (.iload 10, 2) := by decide +kernel
theorem dX12_exchanges_45 : decode cX12_exchanges 45 = .ok (.iload_n 2, 1) := by decide +kernel
theorem dX12_exchanges_46 : decode cX12_exchanges 46 = .ok (.if_icmp .eq 13, 3) := by decide +kernel
theorem dX12_exchanges_49 : decode cX12_exchanges 49 = .ok (.iload 10, 2) := by decide +kernel
theorem dX12_exchanges_51 : decode cX12_exchanges 51 = .ok (.iload_n 3, 1) := by decide +kernel
theorem dX12_exchanges_52 : decode cX12_exchanges 52 = .ok (.if_icmp .eq 7, 3) := by decide +kernel
theorem dX12_exchanges_55 : decode cX12_exchanges 55 = .ok (.iconst 1, 1) := by decide +kernel
theorem dX12_exchanges_56 : decode cX12_exchanges 56 = .ok (.goto 4, 3) := by decide +kernel
theorem dX12_exchanges_59 : decode cX12_exchanges 59 = .ok (.iconst 0, 1) := by decide +kernel
theorem dX12_exchanges_60 : decode cX12_exchanges 60 = .ok (.istore 11, 2) := by decide +kernel
theorem dX12_exchanges_62 : decode cX12_exchanges 62 = .ok (.iload 8, 2) := by decide +kernel
theorem dX12_exchanges_64 : decode cX12_exchanges 64 = .ok (.ifCond .ne 51, 3) := by decide +kernel
theorem dX12_exchanges_67 : decode cX12_exchanges 67 = .ok (.iload 11, 2) := by decide +kernel
theorem dX12_exchanges_69 : decode cX12_exchanges 69 = .ok (.ifCond .eq 50, 3) := by decide +kernel
theorem dX12_exchanges_72 : decode cX12_exchanges 72 = .ok (.aload_n 0, 1) := by decide +kernel
theorem dX12_exchanges_73 : decode cX12_exchanges 73 = .ok (.iload_n 1, 1) := by decide +kernel
theorem dX12_exchanges_74 : decode cX12_exchanges 74 = .ok (.iload 7, 2) := by decide +kernel
theorem dX12_exchanges_76 : decode cX12_exchanges 76 = .ok (.if_icmp .ne 8, 3) := by decide +kernel
theorem dX12_exchanges_79 : decode cX12_exchanges 79 = .ok (.iload 10, 2) := by decide +kernel
theorem dX12_exchanges_81 : decode cX12_exchanges 81 = .ok (.goto 4, 3) := by decide +kernel
theorem dX12_exchanges_84 : decode cX12_exchanges 84 = .ok (.iload_n 1, 1) := by decide +kernel
theorem dX12_exchanges_85 : decode cX12_exchanges 85 = .ok (.iload_n 2, 1) := by decide +kernel
theorem dX12_exchanges_86 : decode cX12_exchanges 86 = .ok (.iload 7, 2) := by decide +kernel
theorem dX12_exchanges_88 : decode cX12_exchanges 88 = .ok (.if_icmp .ne 8, 3) := by decide +kernel
theorem dX12_exchanges_91 : decode cX12_exchanges 91 = .ok (.iload 10, 2) := by decide +kernel
theorem dX12_exchanges_93 : decode cX12_exchanges 93 = .ok (.goto 4, 3) := by decide +kernel
theorem dX12_exchanges_96 : decode cX12_exchanges 96 = .ok (.iload_n 2, 1) := by decide +kernel
theorem dX12_exchanges_97 : decode cX12_exchanges 97 = .ok (.iload_n 3, 1) := by decide +kernel
theorem dX12_exchanges_98 : decode cX12_exchanges 98 = .ok (.iload 7, 2) := by decide +kernel
theorem dX12_exchanges_100 : decode cX12_exchanges 100 = .ok (.if_icmp .ne 8, 3) := by decide +kernel
theorem dX12_exchanges_103 : decode cX12_exchanges 103 = .ok (.iload 10, 2) := by decide +kernel
theorem dX12_exchanges_105 : decode cX12_exchanges 105 = .ok (.goto 4, 3) := by decide +kernel
theorem dX12_exchanges_108 : decode cX12_exchanges 108 = .ok (.iload_n 3, 1) := by decide +kernel
theorem dX12_exchanges_109 : decode cX12_exchanges 109 = .ok (.invokevirtual 215, 3) := by decide +kernel
theorem dX12_exchanges_112 : decode cX12_exchanges 112 = .ok (.ifCond .eq 7, 3) := by decide +kernel
theorem dX12_exchanges_115 : decode cX12_exchanges 115 = .ok (.iconst 1, 1) := by decide +kernel
theorem dX12_exchanges_116 : decode cX12_exchanges 116 = .ok (.goto 4, 3) := by decide +kernel
theorem dX12_exchanges_119 : decode cX12_exchanges 119 = .ok (.iconst 0, 1) := by decide +kernel
theorem dX12_exchanges_120 : decode cX12_exchanges 120 = .ok (.istore 8, 2) := by decide +kernel
theorem dX12_exchanges_122 : decode cX12_exchanges 122 = .ok (.iinc 9 1, 3) := by decide +kernel
theorem dX12_exchanges_125 : decode cX12_exchanges 125 = .ok (.goto (-119), 3) := by decide +kernel
theorem dX12_exchanges_128 : decode cX12_exchanges 128 = .ok (.iload 8, 2) := by decide +kernel
theorem dX12_exchanges_130 : decode cX12_exchanges 130 = .ok (.ireturn, 1) := by decide +kernel
theorem dX12_exchangeable_0 : decode cX12_exchangeable 0 = .ok (.iconst 1, 1) := by decide +kernel
theorem dX12_exchangeable_1 : decode cX12_exchangeable 1 = .ok (.istore 7, 2) := by decide +kernel
theorem dX12_exchangeable_3 : decode cX12_exchangeable 3 = .ok (.iconst 0, 1) := by decide +kernel
theorem dX12_exchangeable_4 : decode cX12_exchangeable 4 = .ok (.istore 8, 2) := by decide +kernel
theorem dX12_exchangeable_6 : decode cX12_exchangeable 6 = .ok (.iload 8, 2) := by decide +kernel
theorem dX12_exchangeable_8 : decode cX12_exchangeable 8 = .ok (.iconst 3, 1) := by decide +kernel
theorem dX12_exchangeable_9 : decode cX12_exchangeable 9 = .ok (.if_icmp .ge 82, 3) := by decide +kernel
theorem dX12_exchangeable_12 : decode cX12_exchangeable 12 = .ok (.iload 8, 2) := by decide +kernel
theorem dX12_exchangeable_14 : decode cX12_exchangeable 14 = .ok (.ifCond .ne 7, 3) := by decide +kernel
theorem dX12_exchangeable_17 : decode cX12_exchangeable 17 = .ok (.iload_n 1, 1) := by decide +kernel
theorem dX12_exchangeable_18 : decode cX12_exchangeable 18 = .ok (.goto 14, 3) := by decide +kernel
theorem dX12_exchangeable_21 : decode cX12_exchangeable 21 = .ok (.iload 8, 2) := by decide +kernel
theorem dX12_exchangeable_23 : decode cX12_exchangeable 23 = .ok (.iconst 1, 1) := by decide +kernel
theorem dX12_exchangeable_24 : decode cX12_exchangeable 24 = .ok (.if_icmp .ne 7, 3) := by decide +kernel
theorem dX12_exchangeable_27 : decode cX12_exchangeable 27 = .ok (.iload_n 2, 1) := by decide +kernel
theorem dX12_exchangeable_28 : decode cX12_exchangeable 28 = .ok (.goto 4, 3) := by decide +kernel
theorem dX12_exchangeable_31 : decode cX12_exchangeable 31 = .ok (.iload_n 3, 1) := by decide +kernel
theorem dX12_exchangeable_32 : decode cX12_exchangeable 32 = .ok (.istore 9, 2) := by decide +kernel
theorem dX12_exchangeable_34 : decode cX12_exchangeable 34 = .ok (.iload 7, 2) := by decide +kernel
theorem dX12_exchangeable_36 : decode cX12_exchangeable 36 = .ok (.ifCond .eq 46, 3) := by decide +kernel
theorem dX12_exchangeable_39 : decode cX12_exchangeable 39 = .ok (.iload 9, 2) := by decide +kernel
theorem dX12_exchangeable_41 : decode cX12_exchangeable 41 = .ok (.iload 4, 2) := by decide +kernel
theorem dX12_exchangeable_43 : decode cX12_exchangeable 43 = .ok (.if_icmp .eq 35, 3) := by decide +kernel
theorem dX12_exchangeable_46 : decode cX12_exchangeable 46 = .ok (.iload 9, 2) := by decide +kernel
theorem dX12_exchangeable_48 : decode cX12_exchangeable 48 = .ok (.iload 5, 2) := by decide +kernel
theorem dX12_exchangeable_50 : decode cX12_exchangeable 50 = .ok (.if_icmp .eq 28, 3) := by decide +kernel
theorem dX12_exchangeable_53 : decode cX12_exchangeable 53 = .ok (.iload 9, 2) := by decide +kernel
theorem dX12_exchangeable_55 : decode cX12_exchangeable 55 = .ok (.iload 6, 2) := by decide +kernel
theorem dX12_exchangeable_57 : decode cX12_exchangeable 57 = .ok (.if_icmp .eq 21, 3) := by decide +kernel
theorem dX12_exchangeable_60 : decode cX12_exchangeable 60 = .ok (.aload_n 0, 1) := by decide +kernel
theorem dX12_exchangeable_61 : decode cX12_exchangeable 61 = .ok (.iload_n 1, 1) := by decide +kernel
theorem dX12_exchangeable_62 : decode cX12_exchangeable 62 = .ok (.iload_n 2, 1) := by decide +kernel
theorem dX12_exchangeable_63 : decode cX12_exchangeable 63 = .ok (.iload_n 3, 1) := by decide +kernel
theorem dX12_exchangeable_64 : decode cX12_exchangeable 64 = .ok (.iload 4, 2) := by decide +kernel
theorem dX12_exchangeable_66 : decode cX12_exchangeable 66 = .ok (.iload 5, 2) := by decide +kernel
theorem dX12_exchangeable_68 : decode cX12_exchangeable 68 = .ok (.iload 6, 2) := by decide +kernel
theorem dX12_exchangeable_70 : decode cX12_exchangeable 70 = .ok (.iload 9, 2) := by decide +kernel
theorem dX12_exchangeable_72 : decode cX12_exchangeable 72 = .ok (.invokevirtual 218, 3) := by decide +kernel
theorem dX12_exchangeable_75 : decode cX12_exchangeable 75 = .ok (.ifCond .eq 7, 3) := by decide +kernel
theorem dX12_exchangeable_78 : decode cX12_exchangeable 78 = .ok (.iconst 1, 1) := by decide +kernel
theorem dX12_exchangeable_79 : decode cX12_exchangeable 79 = .ok (.goto 4, 3) := by decide +kernel
theorem dX12_exchangeable_82 : decode cX12_exchangeable 82 = .ok (.iconst 0, 1) := by decide +kernel
theorem dX12_exchangeable_83 : decode cX12_exchangeable 83 = .ok (.istore 7, 2) := by decide +kernel
theorem dX12_exchangeable_85 : decode cX12_exchangeable 85 = .ok (.iinc 8 1, 3) := by decide +kernel
theorem dX12_exchangeable_88 : decode cX12_exchangeable 88 = .ok (.goto (-82), 3) := by decide +kernel
theorem dX12_exchangeable_91 : decode cX12_exchangeable 91 = .ok (.iload 7, 2) := by decide +kernel
theorem dX12_exchangeable_93 : decode cX12_exchangeable 93 = .ok (.ireturn, 1) := by decide +kernel
theorem dX12_areExchangeable_0 : decode cX12_areExchangeable 0 = .ok (.iconst 1, 1) := by decide +kernel
theorem dX12_areExchangeable_1 : decode cX12_areExchangeable 1 = .ok (.istore 4, 2) := by decide +kernel
theorem dX12_areExchangeable_3 : decode cX12_areExchangeable 3 = .ok (.iconst 0, 1) := by decide +kernel
theorem dX12_areExchangeable_4 : decode cX12_areExchangeable 4 = .ok (.istore 5, 2) := by decide +kernel
theorem dX12_areExchangeable_6 : decode cX12_areExchangeable 6 = .ok (.iload 5, 2) := by decide +kernel
theorem dX12_areExchangeable_8 : decode cX12_areExchangeable 8 = .ok (.aload_n 0, 1) := by decide +kernel
theorem dX12_areExchangeable_9 : decode cX12_areExchangeable 9 = .ok (.invokevirtual 73, 3) := by decide +kernel
theorem dX12_areExchangeable_12 : decode cX12_areExchangeable 12 = .ok (.if_icmp .ge 92, 3) := by decide +kernel
theorem dX12_areExchangeable_15 : decode cX12_areExchangeable 15 = .ok (.iload 5, 2) := by decide +kernel
theorem dX12_areExchangeable_17 : decode cX12_areExchangeable 17 = .ok (.iconst 1, 1) := by decide +kernel
theorem dX12_areExchangeable_18 : decode cX12_areExchangeable 18 = .ok (.iadd, 1) := by decide +kernel
theorem dX12_areExchangeable_19 : decode cX12_areExchangeable 19 = .ok (.istore 6, 2) := by decide +kernel
theorem dX12_areExchangeable_21 : decode cX12_areExchangeable 21 = .ok (.iload 6, 2) := by decide +kernel
theorem dX12_areExchangeable_23 : decode cX12_areExchangeable 23 = .ok (.aload_n 0, 1) := by decide +kernel
theorem dX12_areExchangeable_24 : decode cX12_areExchangeable 24 = .ok (.invokevirtual 73, 3) := by decide +kernel
theorem dX12_areExchangeable_27 : decode cX12_areExchangeable 27 = .ok (.if_icmp .ge 71, 3) := by decide +kernel
theorem dX12_areExchangeable_30 : decode cX12_areExchangeable 30 = .ok (.iload 6, 2) := by decide +kernel
theorem dX12_areExchangeable_32 : decode cX12_areExchangeable 32 = .ok (.iconst 1, 1) := by decide +kernel
theorem dX12_areExchangeable_33 : decode cX12_areExchangeable 33 = .ok (.iadd, 1) := by decide +kernel
theorem dX12_areExchangeable_34 : decode cX12_areExchangeable 34 = .ok (.istore 7, 2) := by decide +kernel
theorem dX12_areExchangeable_36 : decode cX12_areExchangeable 36 = .ok (.iload 7, 2) := by decide +kernel
theorem dX12_areExchangeable_38 : decode cX12_areExchangeable 38 = .ok (.aload_n 0, 1) := by decide +kernel
theorem dX12_areExchangeable_39 : decode cX12_areExchangeable 39 = .ok (.invokevirtual 73, 3) := by decide +kernel
theorem dX12_areExchangeable_42 : decode cX12_areExchangeable 42 = .ok (.if_icmp .ge 50, 3) := by decide +kernel
theorem dX12_areExchangeable_45 : decode cX12_areExchangeable 45 = .ok (.iload 4, 2) := by decide +kernel
theorem dX12_areExchangeable_47 : decode cX12_areExchangeable 47 = .ok (.ifCond .eq 45, 3) := by decide +kernel
theorem dX12_areExchangeable_50 : decode cX12_areExchangeable 50 = .ok (.aload_n 0, 1) := by decide +kernel
theorem dX12_areExchangeable_51 : decode cX12_areExchangeable 51 = .ok (.iload 5, 2) := by decide +kernel
theorem dX12_areExchangeable_53 : decode cX12_areExchangeable 53 = .ok (.iload 6, 2) := by decide +kernel
theorem dX12_areExchangeable_55 : decode cX12_areExchangeable 55 = .ok (.iload 7, 2) := by decide +kernel
theorem dX12_areExchangeable_57 : decode cX12_areExchangeable 57 = .ok (.invokevirtual 215, 3) := by decide +kernel
theorem dX12_areExchangeable_60 : decode cX12_areExchangeable 60 = .ok (.ifCond .eq 19, 3) := by decide +kernel
theorem dX12_areExchangeable_63 : decode cX12_areExchangeable 63 = .ok (.aload_n 0, 1) := by decide +kernel
theorem dX12_areExchangeable_64 : decode cX12_areExchangeable 64 = .ok (.iload_n 1, 1) := by decide +kernel
theorem dX12_areExchangeable_65 : decode cX12_areExchangeable 65 = .ok (.iload_n 2, 1) := by decide +kernel
theorem dX12_areExchangeable_66 : decode cX12_areExchangeable 66 = .ok (.iload_n 3, 1) := by decide +kernel
theorem dX12_areExchangeable_67 : decode cX12_areExchangeable 67 = .ok (.iload 5, 2) := by decide +kernel
theorem dX12_areExchangeable_69 : decode cX12_areExchangeable 69 = .ok (.iload 6, 2) := by decide +kernel
theorem dX12_areExchangeable_71 : decode cX12_areExchangeable 71 = .ok (.iload 7, 2) := by decide +kernel
theorem dX12_areExchangeable_73 : decode cX12_areExchangeable 73 = .ok (.invokevirtual 222, 3) := by decide +kernel
theorem dX12_areExchangeable_76 : decode cX12_areExchangeable 76 = .ok (.ifCond .eq 7, 3) := by decide +kernel
theorem dX12_areExchangeable_79 : decode cX12_areExchangeable 79 = .ok (.iconst 1, 1) := by decide +kernel
theorem dX12_areExchangeable_80 : decode cX12_areExchangeable 80 = .ok (.goto 4, 3) := by decide +kernel
theorem dX12_areExchangeable_83 : decode cX12_areExchangeable 83 = .ok (.iconst 0, 1) := by decide +kernel
theorem dX12_areExchangeable_84 : decode cX12_areExchangeable 84 = .ok (.istore 4, 2) := by decide +kernel
theorem dX12_areExchangeable_86 : decode cX12_areExchangeable 86 = .ok (.iinc 7 1, 3) := by decide +kernel
theorem dX12_areExchangeable_89 : decode cX12_areExchangeable 89 = .ok (.goto (-53), 3) := by decide +kernel
theorem dX12_areExchangeable_92 : decode cX12_areExchangeable 92 = .ok (.iinc 6 1, 3) := by decide +kernel
theorem dX12_areExchangeable_95 : decode cX12_areExchangeable 95 = .ok (.goto (-74), 3) := by decide +kernel
theorem dX12_areExchangeable_98 : decode cX12_areExchangeable 98 = .ok (.iinc 5 1, 3) := by decide +kernel
theorem dX12_areExchangeable_101 : decode cX12_areExchangeable 101 = .ok (.goto (-95), 3) := by decide +kernel
theorem dX12_areExchangeable_104 : decode cX12_areExchangeable 104 = .ok (.iload 4, 2) := by decide +kernel
theorem dX12_areExchangeable_106 : decode cX12_areExchangeable 106 = .ok (.ireturn, 1) := by decide +kernel
theorem dX12_bases_0 : decode cX12_bases 0 = .ok (.iconst 0, 1) := by decide +kernel
theorem dX12_bases_1 : decode cX12_bases 1 = .ok (.istore_n 1, 1) := by decide +kernel
theorem dX12_bases_2 : decode cX12_bases 2 = .ok (.iconst 0, 1) := by decide +kernel
theorem dX12_bases_3 : decode cX12_bases 3 = .ok (.istore_n 2, 1) := by decide +kernel
theorem dX12_bases_4 : decode cX12_bases 4 = .ok (.iload_n 2, 1) := by decide +kernel
theorem dX12_bases_5 : decode cX12_bases 5 = .ok (.aload_n 0, 1) := by decide +kernel
theorem dX12_bases_6 : decode cX12_bases 6 = .ok (.invokevirtual 73, 3) := by decide +kernel
theorem dX12_bases_9 : decode cX12_bases 9 = .ok (.if_icmp .ge 66, 3) := by decide +kernel
theorem dX12_bases_12 : decode cX12_bases 12 = .ok (.iload_n 2, 1) := by decide +kernel
theorem dX12_bases_13 : decode cX12_bases 13 = .ok (.iconst 1, 1) := by decide +kernel
theorem dX12_bases_14 : decode cX12_bases 14 = .ok (.iadd, 1) := by decide +kernel
theorem dX12_bases_15 : decode cX12_bases 15 = .ok (.istore_n 3, 1) := by decide +kernel
theorem dX12_bases_16 : decode cX12_bases 16 = .ok (.iload_n 3, 1) := by decide +kernel
theorem dX12_bases_17 : decode cX12_bases 17 = .ok (.aload_n 0, 1) := by decide +kernel
theorem dX12_bases_18 : decode cX12_bases 18 = .ok (.invokevirtual 73, 3) := by decide +kernel
theorem dX12_bases_21 : decode cX12_bases 21 = .ok (.if_icmp .ge 48, 3) := by decide +kernel
theorem dX12_bases_24 : decode cX12_bases 24 = .ok (.iload_n 3, 1) := by decide +kernel
theorem dX12_bases_25 : decode cX12_bases 25 = .ok (.iconst 1, 1) := by decide +kernel
theorem dX12_bases_26 : decode cX12_bases 26 = .ok (.iadd, 1) := by decide +kernel
theorem dX12_bases_27 : decode cX12_bases 27 = .ok (.istore 4, 2) := by decide +kernel
theorem dX12_bases_29 : decode cX12_bases 29 = .ok (.iload 4, 2) := by decide +kernel
theorem dX12_bases_31 : decode cX12_bases 31 = .ok (.aload_n 0, 1) := by decide +kernel
theorem dX12_bases_32 : decode cX12_bases 32 = .ok (.invokevirtual 73, 3) := by decide +kernel
theorem dX12_bases_35 : decode cX12_bases 35 = .ok (.if_icmp .ge 28, 3) := by decide +kernel
theorem dX12_bases_38 : decode cX12_bases 38 = .ok (.iload_n 1, 1) := by decide +kernel
theorem dX12_bases_39 : decode cX12_bases 39 = .ok (.aload_n 0, 1) := by decide +kernel
theorem dX12_bases_40 : decode cX12_bases 40 = .ok (.iload_n 2, 1) := by decide +kernel
theorem dX12_bases_41 : decode cX12_bases 41 = .ok (.iload_n 3, 1) := by decide +kernel
theorem dX12_bases_42 : decode cX12_bases 42 = .ok (.iload 4, 2) := by decide +kernel
theorem dX12_bases_44 : decode cX12_bases 44 = .ok (.invokevirtual 215, 3) := by decide +kernel
theorem dX12_bases_47 : decode cX12_bases 47 = .ok (.ifCond .eq 7, 3) := by decide +kernel
theorem dX12_bases_50 : decode cX12_bases 50 = .ok (.iconst 1, 1) := by decide +kernel
theorem dX12_bases_51 : decode cX12_bases 51 = .ok (.goto 4, 3) := by decide +kernel
theorem dX12_bases_54 : decode cX12_bases 54 = .ok (.iconst 0, 1) := by decide +kernel
theorem dX12_bases_55 : decode cX12_bases 55 = .ok (.iadd, 1) := by decide +kernel
theorem dX12_bases_56 : decode cX12_bases 56 = .ok (.istore_n 1, 1) := by decide +kernel
theorem dX12_bases_57 : decode cX12_bases 57 = .ok (.iinc 4 1, 3) := by decide +kernel
theorem dX12_bases_60 : decode cX12_bases 60 = .ok (.goto (-31), 3) := by decide +kernel
theorem dX12_bases_63 : decode cX12_bases 63 = .ok (.iinc 3 1, 3) := by decide +kernel
theorem dX12_bases_66 : decode cX12_bases 66 = .ok (.goto (-50), 3) := by decide +kernel
theorem dX12_bases_69 : decode cX12_bases 69 = .ok (.iinc 2 1, 3) := by decide +kernel
theorem dX12_bases_72 : decode cX12_bases 72 = .ok (.goto (-68), 3) := by decide +kernel
theorem dX12_bases_75 : decode cX12_bases 75 = .ok (.iload_n 1, 1) := by decide +kernel
theorem dX12_bases_76 : decode cX12_bases 76 = .ok (.ireturn, 1) := by decide +kernel
theorem dX12_isExchange_0 : decode cX12_isExchange 0 = .ok (.aload_n 0, 1) := by decide +kernel
theorem dX12_isExchange_1 : decode cX12_isExchange 1 = .ok (.invokevirtual 226, 3) := by decide +kernel
theorem dX12_isExchange_4 : decode cX12_isExchange 4 = .ok (.ifCond .le 7, 3) := by decide +kernel
theorem dX12_isExchange_7 : decode cX12_isExchange 7 = .ok (.iconst 1, 1) := by decide +kernel
theorem dX12_isExchange_8 : decode cX12_isExchange 8 = .ok (.goto 4, 3) := by decide +kernel
theorem dX12_isExchange_11 : decode cX12_isExchange 11 = .ok (.iconst 0, 1) := by decide +kernel
theorem dX12_isExchange_12 : decode cX12_isExchange 12 = .ok (.istore_n 1, 1) := by decide +kernel
theorem dX12_isExchange_13 : decode cX12_isExchange 13 = .ok (.iconst 0, 1) := by decide +kernel
theorem dX12_isExchange_14 : decode cX12_isExchange 14 = .ok (.istore_n 2, 1) := by decide +kernel
theorem dX12_isExchange_15 : decode cX12_isExchange 15 = .ok (.iload_n 2, 1) := by decide +kernel
theorem dX12_isExchange_16 : decode cX12_isExchange 16 = .ok (.aload_n 0, 1) := by decide +kernel
theorem dX12_isExchange_17 : decode cX12_isExchange 17 = .ok (.invokevirtual 73, 3) := by decide +kernel
theorem dX12_isExchange_20 : decode cX12_isExchange 20 = .ok (.if_icmp .ge 79, 3) := by decide +kernel
theorem dX12_isExchange_23 : decode cX12_isExchange 23 = .ok (.iload_n 2, 1) := by decide +kernel
theorem dX12_isExchange_24 : decode cX12_isExchange 24 = .ok (.iconst 1, 1) := by decide +kernel
theorem dX12_isExchange_25 : decode cX12_isExchange 25 = .ok (.iadd, 1) := by decide +kernel
theorem dX12_isExchange_26 : decode cX12_isExchange 26 = .ok (.istore_n 3, 1) := by decide +kernel
theorem dX12_isExchange_27 : decode cX12_isExchange 27 = .ok (.iload_n 3, 1) := by decide +kernel
theorem dX12_isExchange_28 : decode cX12_isExchange 28 = .ok (.aload_n 0, 1) := by decide +kernel
theorem dX12_isExchange_29 : decode cX12_isExchange 29 = .ok (.invokevirtual 73, 3) := by decide +kernel
theorem dX12_isExchange_32 : decode cX12_isExchange 32 = .ok (.if_icmp .ge 61, 3) := by decide +kernel
theorem dX12_isExchange_35 : decode cX12_isExchange 35 = .ok (.iload_n 3, 1) := by decide +kernel
theorem dX12_isExchange_36 : decode cX12_isExchange 36 = .ok (.iconst 1, 1) := by decide +kernel
theorem dX12_isExchange_37 : decode cX12_isExchange 37 = .ok (.iadd, 1) := by decide +kernel
theorem dX12_isExchange_38 : decode cX12_isExchange 38 = .ok (.istore 4, 2) := by decide +kernel
theorem dX12_isExchange_40 : decode cX12_isExchange 40 = .ok (.iload 4, 2) := by decide +kernel
theorem dX12_isExchange_42 : decode cX12_isExchange 42 = .ok (.aload_n 0, 1) := by decide +kernel
theorem dX12_isExchange_43 : decode cX12_isExchange 43 = .ok (.invokevirtual 73, 3) := by decide +kernel
theorem dX12_isExchange_46 : decode cX12_isExchange 46 = .ok (.if_icmp .ge 41, 3) := by decide +kernel
theorem dX12_isExchange_49 : decode cX12_isExchange 49 = .ok (.iload_n 1, 1) := by decide +kernel
theorem dX12_isExchange_50 : decode cX12_isExchange 50 = .ok (.ifCond .eq 37, 3) := by decide +kernel
theorem dX12_isExchange_53 : decode cX12_isExchange 53 = .ok (.aload_n 0, 1) := by decide +kernel
theorem dX12_isExchange_54 : decode cX12_isExchange 54 = .ok (.iload_n 2, 1) := by decide +kernel
theorem dX12_isExchange_55 : decode cX12_isExchange 55 = .ok (.iload_n 3, 1) := by decide +kernel
theorem dX12_isExchange_56 : decode cX12_isExchange 56 = .ok (.iload 4, 2) := by decide +kernel
theorem dX12_isExchange_58 : decode cX12_isExchange 58 = .ok (.invokevirtual 215, 3) := by decide +kernel
theorem dX12_isExchange_61 : decode cX12_isExchange 61 = .ok (.ifCond .eq 14, 3) := by decide +kernel
theorem dX12_isExchange_64 : decode cX12_isExchange 64 = .ok (.aload_n 0, 1) := by decide +kernel
theorem dX12_isExchange_65 : decode cX12_isExchange 65 = .ok (.iload_n 2, 1) := by decide +kernel
theorem dX12_isExchange_66 : decode cX12_isExchange 66 = .ok (.iload_n 3, 1) := by decide +kernel
theorem dX12_isExchange_67 : decode cX12_isExchange 67 = .ok (.iload 4, 2) := by decide +kernel
theorem dX12_isExchange_69 : decode cX12_isExchange 69 = .ok (.invokevirtual 229, 3) := by decide +kernel
theorem dX12_isExchange_72 : decode cX12_isExchange 72 = .ok (.ifCond .eq 7, 3) := by decide +kernel
theorem dX12_isExchange_75 : decode cX12_isExchange 75 = .ok (.iconst 1, 1) := by decide +kernel
theorem dX12_isExchange_76 : decode cX12_isExchange 76 = .ok (.goto 4, 3) := by decide +kernel
theorem dX12_isExchange_79 : decode cX12_isExchange 79 = .ok (.iconst 0, 1) := by decide +kernel
theorem dX12_isExchange_80 : decode cX12_isExchange 80 = .ok (.istore_n 1, 1) := by decide +kernel
theorem dX12_isExchange_81 : decode cX12_isExchange 81 = .ok (.iinc 4 1, 3) := by decide +kernel
theorem dX12_isExchange_84 : decode cX12_isExchange 84 = .ok (.goto (-44), 3) := by decide +kernel
theorem dX12_isExchange_87 : decode cX12_isExchange 87 = .ok (.iinc 3 1, 3) := by decide +kernel
theorem dX12_isExchange_90 : decode cX12_isExchange 90 = .ok (.goto (-63), 3) := by decide +kernel
theorem dX12_isExchange_93 : decode cX12_isExchange 93 = .ok (.iinc 2 1, 3) := by decide +kernel
theorem dX12_isExchange_96 : decode cX12_isExchange 96 = .ok (.goto (-81), 3) := by decide +kernel
theorem dX12_isExchange_99 : decode cX12_isExchange 99 = .ok (.iload_n 1, 1) := by decide +kernel
theorem dX12_isExchange_100 : decode cX12_isExchange 100 = .ok (.ireturn, 1) := by decide +kernel
theorem dX12_isGood_0 : decode cX12_isGood 0 = .ok (.aload_n 0, 1) := by decide +kernel
theorem dX12_isGood_1 : decode cX12_isGood 1 = .ok (.iload_n 1, 1) := by decide +kernel
theorem dX12_isGood_2 : decode cX12_isGood 2 = .ok (.iload_n 2, 1) := by decide +kernel
theorem dX12_isGood_3 : decode cX12_isGood 3 = .ok (.iload_n 3, 1) := by decide +kernel
theorem dX12_isGood_4 : decode cX12_isGood 4 = .ok (.invokevirtual 182, 3) := by decide +kernel
theorem dX12_isGood_7 : decode cX12_isGood 7 = .ok (.aload_n 0, 1) := by decide +kernel
theorem dX12_isGood_8 : decode cX12_isGood 8 = .ok (.iload_n 1, 1) := by decide +kernel
theorem dX12_isGood_9 : decode cX12_isGood 9 = .ok (.iload 4, 2) := by decide +kernel
theorem dX12_isGood_11 : decode cX12_isGood 11 = .ok (.iload 5, 2) := by decide +kernel
theorem dX12_isGood_13 : decode cX12_isGood 13 = .ok (.invokevirtual 182, 3) := by decide +kernel
theorem dX12_isGood_16 : decode cX12_isGood 16 = .ok (.imul, 1) := by decide +kernel
theorem dX12_isGood_17 : decode cX12_isGood 17 = .ok (.istore 6, 2) := by decide +kernel
theorem dX12_isGood_19 : decode cX12_isGood 19 = .ok (.aload_n 0, 1) := by decide +kernel
theorem dX12_isGood_20 : decode cX12_isGood 20 = .ok (.iload_n 1, 1) := by decide +kernel
theorem dX12_isGood_21 : decode cX12_isGood 21 = .ok (.iload_n 2, 1) := by decide +kernel
theorem dX12_isGood_22 : decode cX12_isGood 22 = .ok (.iload 4, 2) := by decide +kernel
theorem dX12_isGood_24 : decode cX12_isGood 24 = .ok (.invokevirtual 182, 3) := by decide +kernel
theorem dX12_isGood_27 : decode cX12_isGood 27 = .ok (.ineg, 1) := by decide +kernel
theorem dX12_isGood_28 : decode cX12_isGood 28 = .ok (.aload_n 0, 1) := by decide +kernel
theorem dX12_isGood_29 : decode cX12_isGood 29 = .ok (.iload_n 1, 1) := by decide +kernel
theorem dX12_isGood_30 : decode cX12_isGood 30 = .ok (.iload_n 3, 1) := by decide +kernel
theorem dX12_isGood_31 : decode cX12_isGood 31 = .ok (.iload 5, 2) := by decide +kernel
theorem dX12_isGood_33 : decode cX12_isGood 33 = .ok (.invokevirtual 182, 3) := by decide +kernel
theorem dX12_isGood_36 : decode cX12_isGood 36 = .ok (.imul, 1) := by decide +kernel
theorem dX12_isGood_37 : decode cX12_isGood 37 = .ok (.istore 7, 2) := by decide +kernel
theorem dX12_isGood_39 : decode cX12_isGood 39 = .ok (.aload_n 0, 1) := by decide +kernel
theorem dX12_isGood_40 : decode cX12_isGood 40 = .ok (.iload_n 1, 1) := by decide +kernel
theorem dX12_isGood_41 : decode cX12_isGood 41 = .ok (.iload_n 2, 1) := by decide +kernel
theorem dX12_isGood_42 : decode cX12_isGood 42 = .ok (.iload 5, 2) := by decide +kernel
theorem dX12_isGood_44 : decode cX12_isGood 44 = .ok (.invokevirtual 182, 3) := by decide +kernel
theorem dX12_isGood_47 : decode cX12_isGood 47 = .ok (.aload_n 0, 1) := by decide +kernel
theorem dX12_isGood_48 : decode cX12_isGood 48 = .ok (.iload_n 1, 1) := by decide +kernel
theorem dX12_isGood_49 : decode cX12_isGood 49 = .ok (.iload_n 3, 1) := by decide +kernel
theorem dX12_isGood_50 : decode cX12_isGood 50 = .ok (.iload 4, 2) := by decide +kernel
theorem dX12_isGood_52 : decode cX12_isGood 52 = .ok (.invokevirtual 182, 3) := by decide +kernel
theorem dX12_isGood_55 : decode cX12_isGood 55 = .ok (.imul, 1) := by decide +kernel
theorem dX12_isGood_56 : decode cX12_isGood 56 = .ok (.istore 8, 2) := by decide +kernel
theorem dX12_isGood_58 : decode cX12_isGood 58 = .ok (.iload 6, 2) := by decide +kernel
theorem dX12_isGood_60 : decode cX12_isGood 60 = .ok (.ifCond .gt 13, 3) := by decide +kernel
theorem dX12_isGood_63 : decode cX12_isGood 63 = .ok (.iload 7, 2) := by decide +kernel
theorem dX12_isGood_65 : decode cX12_isGood 65 = .ok (.ifCond .gt 8, 3) := by decide +kernel
theorem dX12_isGood_68 : decode cX12_isGood 68 = .ok (.iload 8, 2) := by decide +kernel
theorem dX12_isGood_70 : decode cX12_isGood 70 = .ok (.ifCond .le 7, 3) := by decide +kernel
theorem dX12_isGood_73 : decode cX12_isGood 73 = .ok (.iconst 1, 1) := by decide +kernel
theorem dX12_isGood_74 : decode cX12_isGood 74 = .ok (.goto 4, 3) := by decide +kernel
theorem dX12_isGood_77 : decode cX12_isGood 77 = .ok (.iconst 0, 1) := by decide +kernel
theorem dX12_isGood_78 : decode cX12_isGood 78 = .ok (.istore 9, 2) := by decide +kernel
theorem dX12_isGood_80 : decode cX12_isGood 80 = .ok (.iload 6, 2) := by decide +kernel
theorem dX12_isGood_82 : decode cX12_isGood 82 = .ok (.ifCond .lt 13, 3) := by decide +kernel
theorem dX12_isGood_85 : decode cX12_isGood 85 = .ok (.iload 7, 2) := by decide +kernel
theorem dX12_isGood_87 : decode cX12_isGood 87 = .ok (.ifCond .lt 8, 3) := by decide +kernel
theorem dX12_isGood_90 : decode cX12_isGood 90 = .ok (.iload 8, 2) := by decide +kernel
theorem dX12_isGood_92 : decode cX12_isGood 92 = .ok (.ifCond .ge 7, 3) := by decide +kernel
theorem dX12_isGood_95 : decode cX12_isGood 95 = .ok (.iconst 1, 1) := by decide +kernel
theorem dX12_isGood_96 : decode cX12_isGood 96 = .ok (.goto 4, 3) := by decide +kernel
theorem dX12_isGood_99 : decode cX12_isGood 99 = .ok (.iconst 0, 1) := by decide +kernel
theorem dX12_isGood_100 : decode cX12_isGood 100 = .ok (.istore 10, 2) := by decide +kernel
theorem dX12_isGood_102 : decode cX12_isGood 102 = .ok (.iload 9, 2) := by decide +kernel
theorem dX12_isGood_104 : decode cX12_isGood 104 = .ok (.iload 10, 2) := by decide +kernel
theorem dX12_isGood_106 : decode cX12_isGood 106 = .ok (.if_icmp .ne 7, 3) := by decide +kernel
theorem dX12_isGood_109 : decode cX12_isGood 109 = .ok (.iconst 1, 1) := by decide +kernel
theorem dX12_isGood_110 : decode cX12_isGood 110 = .ok (.goto 4, 3) := by decide +kernel
theorem dX12_isGood_113 : decode cX12_isGood 113 = .ok (.iconst 0, 1) := by decide +kernel
theorem dX12_isGood_114 : decode cX12_isGood 114 = .ok (.ireturn, 1) := by decide +kernel
theorem dX12_besides_0 : decode cX12_besides 0 = .ok (.iload_n 2, 1) := by decide +kernel
theorem dX12_besides_1 : decode cX12_besides 1 = .ok (.istore_n 3, 1) := by decide +kernel
theorem dX12_besides_2 : decode cX12_besides 2 = .ok (.iconst 0, 1) := by decide +kernel
theorem dX12_besides_3 : decode cX12_besides 3 = .ok (.istore 4, 2) := by decide +kernel
theorem dX12_besides_5 : decode cX12_besides 5 = .ok (.iload_n 3, 1) := by decide +kernel
theorem dX12_besides_6 : decode cX12_besides 6 = .ok (.ifCond .gt 15, 3) := by decide +kernel
theorem dX12_besides_9 : decode cX12_besides 9 = .ok (.iload 4, 2) := by decide +kernel
theorem dX12_besides_11 : decode cX12_besides 11 = .ok (.iload_n 0, 1) := by decide +kernel
theorem dX12_besides_12 : decode cX12_besides 12 = .ok (.if_icmp .eq 9, 3) := by decide +kernel
theorem dX12_besides_15 : decode cX12_besides 15 = .ok (.iload 4, 2) := by decide +kernel
theorem dX12_besides_17 : decode cX12_besides 17 = .ok (.iload_n 1, 1) := by decide +kernel
theorem dX12_besides_18 : decode cX12_besides 18 = .ok (.if_icmp .ne 29, 3) := by decide +kernel
theorem dX12_besides_21 : decode cX12_besides 21 = .ok (.iload_n 3, 1) := by decide +kernel
theorem dX12_besides_22 : decode cX12_besides 22 = .ok (.iload 4, 2) := by decide +kernel
theorem dX12_besides_24 : decode cX12_besides 24 = .ok (.iload_n 0, 1) := by decide +kernel
theorem dX12_besides_25 : decode cX12_besides 25 = .ok (.if_icmp .eq 9, 3) := by decide +kernel
theorem dX12_besides_28 : decode cX12_besides 28 = .ok (.iload 4, 2) := by decide +kernel
theorem dX12_besides_30 : decode cX12_besides 30 = .ok (.iload_n 1, 1) := by decide +kernel
theorem dX12_besides_31 : decode cX12_besides 31 = .ok (.if_icmp .ne 7, 3) := by decide +kernel
theorem dX12_besides_34 : decode cX12_besides 34 = .ok (.iconst 0, 1) := by decide +kernel
theorem dX12_besides_35 : decode cX12_besides 35 = .ok (.goto 4, 3) := by decide +kernel
theorem dX12_besides_38 : decode cX12_besides 38 = .ok (.iconst 1, 1) := by decide +kernel
theorem dX12_besides_39 : decode cX12_besides 39 = .ok (.isub, 1) := by decide +kernel
theorem dX12_besides_40 : decode cX12_besides 40 = .ok (.istore_n 3, 1) := by decide +kernel
theorem dX12_besides_41 : decode cX12_besides 41 = .ok (.iinc 4 1, 3) := by decide +kernel
theorem dX12_besides_44 : decode cX12_besides 44 = .ok (.goto (-39), 3) := by decide +kernel
theorem dX12_besides_47 : decode cX12_besides 47 = .ok (.iload 4, 2) := by decide +kernel
theorem dX12_besides_49 : decode cX12_besides 49 = .ok (.ireturn, 1) := by decide +kernel
theorem dX12_badFives_0 : decode cX12_badFives 0 = .ok (.iconst 0, 1) := by decide +kernel
theorem dX12_badFives_1 : decode cX12_badFives 1 = .ok (.istore_n 1, 1) := by decide +kernel
theorem dX12_badFives_2 : decode cX12_badFives 2 = .ok (.iconst 0, 1) := by decide +kernel
theorem dX12_badFives_3 : decode cX12_badFives 3 = .ok (.istore_n 2, 1) := by decide +kernel
theorem dX12_badFives_4 : decode cX12_badFives 4 = .ok (.iload_n 2, 1) := by decide +kernel
theorem dX12_badFives_5 : decode cX12_badFives 5 = .ok (.aload_n 0, 1) := by decide +kernel
theorem dX12_badFives_6 : decode cX12_badFives 6 = .ok (.invokevirtual 73, 3) := by decide +kernel
theorem dX12_badFives_9 : decode cX12_badFives 9 = .ok (.if_icmp .ge 103, 3) := by decide +kernel
theorem dX12_badFives_12 : decode cX12_badFives 12 = .ok (.aload_n 0, 1) := by decide +kernel
theorem dX12_badFives_13 : decode cX12_badFives 13 = .ok (.invokevirtual 73, 3) := by decide +kernel
theorem dX12_badFives_16 : decode cX12_badFives 16 = .ok (.iconst 4, 1) := by decide +kernel
theorem dX12_badFives_17 : decode cX12_badFives 17 = .ok (.if_icmp .le 95, 3) := by decide +kernel
theorem dX12_badFives_20 : decode cX12_badFives 20 = .ok (.aload_n 0, 1) := by decide +kernel
theorem dX12_badFives_21 : decode cX12_badFives 21 = .ok (.invokevirtual 73, 3) := by decide +kernel
theorem dX12_badFives_24 : decode cX12_badFives 24 = .ok (.iconst 5, 1) := by decide +kernel
theorem dX12_badFives_25 : decode cX12_badFives 25 = .ok (.if_icmp .ne 7, 3) := by decide +kernel
theorem dX12_badFives_28 : decode cX12_badFives 28 = .ok (.iconst 5, 1) := by decide +kernel
theorem dX12_badFives_29 : decode cX12_badFives 29 = .ok (.goto 4, 3) := by decide +kernel
theorem dX12_badFives_32 : decode cX12_badFives 32 = .ok (.iconst 0, 1) := by decide +kernel
theorem dX12_badFives_33 : decode cX12_badFives 33 = .ok (.istore_n 3, 1) := by decide +kernel
theorem dX12_badFives_34 : decode cX12_badFives 34 = .ok (.iload_n 3, 1) := by decide +kernel
theorem dX12_badFives_35 : decode cX12_badFives 35 = .ok (.aload_n 0, 1) := by decide +kernel
theorem dX12_badFives_36 : decode cX12_badFives 36 = .ok (.invokevirtual 73, 3) := by decide +kernel
theorem dX12_badFives_39 : decode cX12_badFives 39 = .ok (.iconst 5, 1) := by decide +kernel
theorem dX12_badFives_40 : decode cX12_badFives 40 = .ok (.if_icmp .ne 8, 3) := by decide +kernel
theorem dX12_badFives_43 : decode cX12_badFives 43 = .ok (.bipush 6, 2) := by decide +kernel
theorem dX12_badFives_45 : decode cX12_badFives 45 = .ok (.goto 7, 3) := by decide +kernel
theorem dX12_badFives_48 : decode cX12_badFives 48 = .ok (.aload_n 0, 1) := by decide +kernel
theorem dX12_badFives_49 : decode cX12_badFives 49 = .ok (.invokevirtual 73, 3) := by decide +kernel
theorem dX12_badFives_52 : decode cX12_badFives 52 = .ok (.if_icmp .ge 54, 3) := by decide +kernel
theorem dX12_badFives_55 : decode cX12_badFives 55 = .ok (.iload_n 3, 1) := by decide +kernel
theorem dX12_badFives_56 : decode cX12_badFives 56 = .ok (.iload_n 2, 1) := by decide +kernel
theorem dX12_badFives_57 : decode cX12_badFives 57 = .ok (.if_icmp .eq 43, 3) := by decide +kernel
theorem dX12_badFives_60 : decode cX12_badFives 60 = .ok (.iload_n 1, 1) := by decide +kernel
theorem dX12_badFives_61 : decode cX12_badFives 61 = .ok (.aload_n 0, 1) := by decide +kernel
theorem dX12_badFives_62 : decode cX12_badFives 62 = .ok (.iload_n 2, 1) := by decide +kernel
theorem dX12_badFives_63 : decode cX12_badFives 63 = .ok (.iload_n 2, 1) := by decide +kernel
theorem dX12_badFives_64 : decode cX12_badFives 64 = .ok (.iload_n 3, 1) := by decide +kernel
theorem dX12_badFives_65 : decode cX12_badFives 65 = .ok (.iconst 0, 1) := by decide +kernel
theorem dX12_badFives_66 : decode cX12_badFives 66 = .ok (.invokestatic 232, 3) := by decide +kernel
theorem dX12_badFives_69 : decode cX12_badFives 69 = .ok (.iload_n 2, 1) := by decide +kernel
theorem dX12_badFives_70 : decode cX12_badFives 70 = .ok (.iload_n 3, 1) := by decide +kernel
theorem dX12_badFives_71 : decode cX12_badFives 71 = .ok (.iconst 1, 1) := by decide +kernel
theorem dX12_badFives_72 : decode cX12_badFives 72 = .ok (.invokestatic 232, 3) := by decide +kernel
theorem dX12_badFives_75 : decode cX12_badFives 75 = .ok (.iload_n 2, 1) := by decide +kernel
theorem dX12_badFives_76 : decode cX12_badFives 76 = .ok (.iload_n 3, 1) := by decide +kernel
theorem dX12_badFives_77 : decode cX12_badFives 77 = .ok (.iconst 2, 1) := by decide +kernel
theorem dX12_badFives_78 : decode cX12_badFives 78 = .ok (.invokestatic 232, 3) := by decide +kernel
theorem dX12_badFives_81 : decode cX12_badFives 81 = .ok (.iload_n 2, 1) := by decide +kernel
theorem dX12_badFives_82 : decode cX12_badFives 82 = .ok (.iload_n 3, 1) := by decide +kernel
theorem dX12_badFives_83 : decode cX12_badFives 83 = .ok (.iconst 3, 1) := by decide +kernel
theorem dX12_badFives_84 : decode cX12_badFives 84 = .ok (.invokestatic 232, 3) := by decide +kernel
theorem dX12_badFives_87 : decode cX12_badFives 87 = .ok (.invokevirtual 235, 3) := by decide +kernel
theorem dX12_badFives_90 : decode cX12_badFives 90 = .ok (.ifCond .eq 7, 3) := by decide +kernel
theorem dX12_badFives_93 : decode cX12_badFives 93 = .ok (.iconst 0, 1) := by decide +kernel
theorem dX12_badFives_94 : decode cX12_badFives 94 = .ok (.goto 4, 3) := by decide +kernel
theorem dX12_badFives_97 : decode cX12_badFives 97 = .ok (.iconst 1, 1) := by decide +kernel
theorem dX12_badFives_98 : decode cX12_badFives 98 = .ok (.iadd, 1) := by decide +kernel
theorem dX12_badFives_99 : decode cX12_badFives 99 = .ok (.istore_n 1, 1) := by decide +kernel
theorem dX12_badFives_100 : decode cX12_badFives 100 = .ok (.iinc 3 1, 3) := by decide +kernel
theorem dX12_badFives_103 : decode cX12_badFives 103 = .ok (.goto (-69), 3) := by decide +kernel
theorem dX12_badFives_106 : decode cX12_badFives 106 = .ok (.iinc 2 1, 3) := by decide +kernel
theorem dX12_badFives_109 : decode cX12_badFives 109 = .ok (.goto (-105), 3) := by decide +kernel
theorem dX12_badFives_112 : decode cX12_badFives 112 = .ok (.iload_n 1, 1) := by decide +kernel
theorem dX12_badFives_113 : decode cX12_badFives 113 = .ok (.ireturn, 1) := by decide +kernel
theorem dX12_isOrderly_0 : decode cX12_isOrderly 0 = .ok (.aload_n 0, 1) := by decide +kernel
theorem dX12_isOrderly_1 : decode cX12_isOrderly 1 = .ok (.invokevirtual 238, 3) := by decide +kernel
theorem dX12_isOrderly_4 : decode cX12_isOrderly 4 = .ok (.ifCond .eq 14, 3) := by decide +kernel
theorem dX12_isOrderly_7 : decode cX12_isOrderly 7 = .ok (.aload_n 0, 1) := by decide +kernel
theorem dX12_isOrderly_8 : decode cX12_isOrderly 8 = .ok (.invokevirtual 241, 3) := by decide +kernel
theorem dX12_isOrderly_11 : decode cX12_isOrderly 11 = .ok (.ifCond .ne 7, 3) := by decide +kernel
theorem dX12_isOrderly_14 : decode cX12_isOrderly 14 = .ok (.iconst 1, 1) := by decide +kernel
theorem dX12_isOrderly_15 : decode cX12_isOrderly 15 = .ok (.goto 4, 3) := by decide +kernel
theorem dX12_isOrderly_18 : decode cX12_isOrderly 18 = .ok (.iconst 0, 1) := by decide +kernel
theorem dX12_isOrderly_19 : decode cX12_isOrderly 19 = .ok (.ireturn, 1) := by decide +kernel
theorem dX12_isDrawn_0 : decode cX12_isDrawn 0 = .ok (.iconst 1, 1) := by decide +kernel
theorem dX12_isDrawn_1 : decode cX12_isDrawn 1 = .ok (.istore_n 1, 1) := by decide +kernel
theorem dX12_isDrawn_2 : decode cX12_isDrawn 2 = .ok (.iconst 0, 1) := by decide +kernel
theorem dX12_isDrawn_3 : decode cX12_isDrawn 3 = .ok (.istore_n 2, 1) := by decide +kernel
theorem dX12_isDrawn_4 : decode cX12_isDrawn 4 = .ok (.iload_n 2, 1) := by decide +kernel
theorem dX12_isDrawn_5 : decode cX12_isDrawn 5 = .ok (.aload_n 0, 1) := by decide +kernel
theorem dX12_isDrawn_6 : decode cX12_isDrawn 6 = .ok (.invokevirtual 73, 3) := by decide +kernel
theorem dX12_isDrawn_9 : decode cX12_isDrawn 9 = .ok (.if_icmp .ge 76, 3) := by decide +kernel
theorem dX12_isDrawn_12 : decode cX12_isDrawn 12 = .ok (.iload_n 2, 1) := by decide +kernel
theorem dX12_isDrawn_13 : decode cX12_isDrawn 13 = .ok (.iconst 1, 1) := by decide +kernel
theorem dX12_isDrawn_14 : decode cX12_isDrawn 14 = .ok (.iadd, 1) := by decide +kernel
theorem dX12_isDrawn_15 : decode cX12_isDrawn 15 = .ok (.istore_n 3, 1) := by decide +kernel
theorem dX12_isDrawn_16 : decode cX12_isDrawn 16 = .ok (.iload_n 3, 1) := by decide +kernel
theorem dX12_isDrawn_17 : decode cX12_isDrawn 17 = .ok (.aload_n 0, 1) := by decide +kernel
theorem dX12_isDrawn_18 : decode cX12_isDrawn 18 = .ok (.invokevirtual 73, 3) := by decide +kernel
theorem dX12_isDrawn_21 : decode cX12_isDrawn 21 = .ok (.if_icmp .ge 58, 3) := by decide +kernel
theorem dX12_isDrawn_24 : decode cX12_isDrawn 24 = .ok (.iload_n 3, 1) := by decide +kernel
theorem dX12_isDrawn_25 : decode cX12_isDrawn 25 = .ok (.iconst 1, 1) := by decide +kernel
theorem dX12_isDrawn_26 : decode cX12_isDrawn 26 = .ok (.iadd, 1) := by decide +kernel
theorem dX12_isDrawn_27 : decode cX12_isDrawn 27 = .ok (.istore 4, 2) := by decide +kernel
theorem dX12_isDrawn_29 : decode cX12_isDrawn 29 = .ok (.iload 4, 2) := by decide +kernel
theorem dX12_isDrawn_31 : decode cX12_isDrawn 31 = .ok (.aload_n 0, 1) := by decide +kernel
theorem dX12_isDrawn_32 : decode cX12_isDrawn 32 = .ok (.invokevirtual 73, 3) := by decide +kernel
theorem dX12_isDrawn_35 : decode cX12_isDrawn 35 = .ok (.if_icmp .ge 38, 3) := by decide +kernel
theorem dX12_isDrawn_38 : decode cX12_isDrawn 38 = .ok (.iload_n 1, 1) := by decide +kernel
theorem dX12_isDrawn_39 : decode cX12_isDrawn 39 = .ok (.ifCond .eq 26, 3) := by decide +kernel
theorem dX12_isDrawn_42 : decode cX12_isDrawn 42 = .ok (.aload_n 0, 1) := by decide +kernel
theorem dX12_isDrawn_43 : decode cX12_isDrawn 43 = .ok (.iload_n 2, 1) := by decide +kernel
theorem dX12_isDrawn_44 : decode cX12_isDrawn 44 = .ok (.iload_n 3, 1) := by decide +kernel
theorem dX12_isDrawn_45 : decode cX12_isDrawn 45 = .ok (.iload 4, 2) := by decide +kernel
theorem dX12_isDrawn_47 : decode cX12_isDrawn 47 = .ok (.invokevirtual 182, 3) := by decide +kernel
theorem dX12_isDrawn_50 : decode cX12_isDrawn 50 = .ok (.aload_n 0, 1) := by decide +kernel
theorem dX12_isDrawn_51 : decode cX12_isDrawn 51 = .ok (.iload_n 2, 1) := by decide +kernel
theorem dX12_isDrawn_52 : decode cX12_isDrawn 52 = .ok (.iload_n 3, 1) := by decide +kernel
theorem dX12_isDrawn_53 : decode cX12_isDrawn 53 = .ok (.iload 4, 2) := by decide +kernel
theorem dX12_isDrawn_55 : decode cX12_isDrawn 55 = .ok (.invokevirtual 185, 3) := by decide +kernel
theorem dX12_isDrawn_58 : decode cX12_isDrawn 58 = .ok (.if_icmp .ne 7, 3) := by decide +kernel
theorem dX12_isDrawn_61 : decode cX12_isDrawn 61 = .ok (.iconst 1, 1) := by decide +kernel
theorem dX12_isDrawn_62 : decode cX12_isDrawn 62 = .ok (.goto 4, 3) := by decide +kernel
theorem dX12_isDrawn_65 : decode cX12_isDrawn 65 = .ok (.iconst 0, 1) := by decide +kernel
theorem dX12_isDrawn_66 : decode cX12_isDrawn 66 = .ok (.istore_n 1, 1) := by decide +kernel
theorem dX12_isDrawn_67 : decode cX12_isDrawn 67 = .ok (.iinc 4 1, 3) := by decide +kernel
theorem dX12_isDrawn_70 : decode cX12_isDrawn 70 = .ok (.goto (-41), 3) := by decide +kernel
theorem dX12_isDrawn_73 : decode cX12_isDrawn 73 = .ok (.iinc 3 1, 3) := by decide +kernel
theorem dX12_isDrawn_76 : decode cX12_isDrawn 76 = .ok (.goto (-60), 3) := by decide +kernel
theorem dX12_isDrawn_79 : decode cX12_isDrawn 79 = .ok (.iinc 2 1, 3) := by decide +kernel
theorem dX12_isDrawn_82 : decode cX12_isDrawn 82 = .ok (.goto (-78), 3) := by decide +kernel
theorem dX12_isDrawn_85 : decode cX12_isDrawn 85 = .ok (.iload_n 1, 1) := by decide +kernel
theorem dX12_isDrawn_86 : decode cX12_isDrawn 86 = .ok (.ireturn, 1) := by decide +kernel
theorem dX12_five_0 : decode cX12_five 0 = .ok (.aload_n 0, 1) := by decide +kernel
theorem dX12_five_1 : decode cX12_five 1 = .ok (.iload_n 1, 1) := by decide +kernel
theorem dX12_five_2 : decode cX12_five 2 = .ok (.iload_n 2, 1) := by decide +kernel
theorem dX12_five_3 : decode cX12_five 3 = .ok (.iload_n 3, 1) := by decide +kernel
theorem dX12_five_4 : decode cX12_five 4 = .ok (.invokevirtual 179, 3) := by decide +kernel
theorem dX12_five_7 : decode cX12_five 7 = .ok (.ifCond .eq 25, 3) := by decide +kernel
theorem dX12_five_10 : decode cX12_five 10 = .ok (.aload_n 0, 1) := by decide +kernel
theorem dX12_five_11 : decode cX12_five 11 = .ok (.iload 4, 2) := by decide +kernel
theorem dX12_five_13 : decode cX12_five 13 = .ok (.invokevirtual 81, 3) := by decide +kernel
theorem dX12_five_16 : decode cX12_five 16 = .ok (.ifCond .eq 16, 3) := by decide +kernel
theorem dX12_five_19 : decode cX12_five 19 = .ok (.aload_n 0, 1) := by decide +kernel
theorem dX12_five_20 : decode cX12_five 20 = .ok (.iload 5, 2) := by decide +kernel
theorem dX12_five_22 : decode cX12_five 22 = .ok (.invokevirtual 81, 3) := by decide +kernel
theorem dX12_five_25 : decode cX12_five 25 = .ok (.ifCond .eq 7, 3) := by decide +kernel
theorem dX12_five_28 : decode cX12_five 28 = .ok (.iconst 1, 1) := by decide +kernel
theorem dX12_five_29 : decode cX12_five 29 = .ok (.goto 4, 3) := by decide +kernel
theorem dX12_five_32 : decode cX12_five 32 = .ok (.iconst 0, 1) := by decide +kernel
theorem dX12_five_33 : decode cX12_five 33 = .ok (.istore 6, 2) := by decide +kernel
theorem dX12_five_35 : decode cX12_five 35 = .ok (.iload_n 1, 1) := by decide +kernel
theorem dX12_five_36 : decode cX12_five 36 = .ok (.iload_n 2, 1) := by decide +kernel
theorem dX12_five_37 : decode cX12_five 37 = .ok (.if_icmp .eq 56, 3) := by decide +kernel
theorem dX12_five_40 : decode cX12_five 40 = .ok (.iload_n 1, 1) := by decide +kernel
theorem dX12_five_41 : decode cX12_five 41 = .ok (.iload_n 3, 1) := by decide +kernel
theorem dX12_five_42 : decode cX12_five 42 = .ok (.if_icmp .eq 51, 3) := by decide +kernel
theorem dX12_five_45 : decode cX12_five 45 = .ok (.iload_n 1, 1) := by decide +kernel
theorem dX12_five_46 : decode cX12_five 46 = .ok (.iload 4, 2) := by decide +kernel
theorem dX12_five_48 : decode cX12_five 48 = .ok (.if_icmp .eq 45, 3) := by decide +kernel
theorem dX12_five_51 : decode cX12_five 51 = .ok (.iload_n 1, 1) := by decide +kernel
theorem dX12_five_52 : decode cX12_five 52 = .ok (.iload 5, 2) := by decide +kernel
theorem dX12_five_54 : decode cX12_five 54 = .ok (.if_icmp .eq 39, 3) := by decide +kernel
theorem dX12_five_57 : decode cX12_five 57 = .ok (.iload_n 2, 1) := by decide +kernel
theorem dX12_five_58 : decode cX12_five 58 = .ok (.iload_n 3, 1) := by decide +kernel
theorem dX12_five_59 : decode cX12_five 59 = .ok (.if_icmp .eq 34, 3) := by decide +kernel
theorem dX12_five_62 : decode cX12_five 62 = .ok (.iload_n 2, 1) := by decide +kernel
theorem dX12_five_63 : decode cX12_five 63 = .ok (.iload 4, 2) := by decide +kernel
theorem dX12_five_65 : decode cX12_five 65 = .ok (.if_icmp .eq 28, 3) := by decide +kernel
theorem dX12_five_68 : decode cX12_five 68 = .ok (.iload_n 2, 1) := by decide +kernel
theorem dX12_five_69 : decode cX12_five 69 = .ok (.iload 5, 2) := by decide +kernel
theorem dX12_five_71 : decode cX12_five 71 = .ok (.if_icmp .eq 22, 3) := by decide +kernel
theorem dX12_five_74 : decode cX12_five 74 = .ok (.iload_n 3, 1) := by decide +kernel
