theorem dX0_init_0 : decode cX0_init 0 = .ok (.aload_n 0, 1) := by decide +kernel
theorem dX0_init_1 : decode cX0_init 1 = .ok (.invokespecial 3, 3) := by decide +kernel
theorem dX0_init_4 : decode cX0_init 4 = .ok (.aload_n 0, 1) := by decide +kernel
theorem dX0_init_5 : decode cX0_init 5 = .ok (.sipush 216, 3) := by decide +kernel
theorem dX0_init_8 : decode cX0_init 8 = .ok (.newarray .int, 2) := by decide +kernel
theorem dX0_init_10 : decode cX0_init 10 = .ok (.putfield 11, 3) := by decide +kernel
theorem dX0_init_13 : decode cX0_init 13 = .ok (.aload_n 0, 1) := by decide +kernel
theorem dX0_init_14 : decode cX0_init 14 = .ok (.bipush 18, 2) := by decide +kernel
theorem dX0_init_16 : decode cX0_init 16 = .ok (.newarray .int, 2) := by decide +kernel
theorem dX0_init_18 : decode cX0_init 18 = .ok (.putfield 15, 3) := by decide +kernel
theorem dX0_init_21 : decode cX0_init 21 = .ok (.aload_n 0, 1) := by decide +kernel
theorem dX0_init_22 : decode cX0_init 22 = .ok (.iconst 3, 1) := by decide +kernel
theorem dX0_init_23 : decode cX0_init 23 = .ok (.invokevirtual 18, 3) := by decide +kernel
theorem dX0_init_26 : decode cX0_init 26 = .ok (.aload_n 0, 1) := by decide +kernel
theorem dX0_init_27 : decode cX0_init 27 = .ok (.iconst 0, 1) := by decide +kernel
theorem dX0_init_28 : decode cX0_init 28 = .ok (.iconst 1, 1) := by decide +kernel
theorem dX0_init_29 : decode cX0_init 29 = .ok (.iconst 2, 1) := by decide +kernel
theorem dX0_init_30 : decode cX0_init 30 = .ok (.iconst 1, 1) := by decide +kernel
theorem dX0_init_31 : decode cX0_init 31 = .ok (.invokevirtual 22, 3) := by decide +kernel
theorem dX0_init_34 : decode cX0_init 34 = .ok (.return_, 1) := by decide +kernel
theorem dX0_begin_0 : decode cX0_begin 0 = .ok (.aload_n 0, 1) := by decide +kernel
theorem dX0_begin_1 : decode cX0_begin 1 = .ok (.iload_n 1, 1) := by decide +kernel
theorem dX0_begin_2 : decode cX0_begin 2 = .ok (.putfield 26, 3) := by decide +kernel
theorem dX0_begin_5 : decode cX0_begin 5 = .ok (.iconst 0, 1) := by decide +kernel
theorem dX0_begin_6 : decode cX0_begin 6 = .ok (.istore_n 2, 1) := by decide +kernel
theorem dX0_begin_7 : decode cX0_begin 7 = .ok (.iload_n 2, 1) := by decide +kernel
theorem dX0_begin_8 : decode cX0_begin 8 = .ok (.aload_n 0, 1) := by decide +kernel
theorem dX0_begin_9 : decode cX0_begin 9 = .ok (.getfield 26, 3) := by decide +kernel
theorem dX0_begin_12 : decode cX0_begin 12 = .ok (.if_icmp .ge 19, 3) := by decide +kernel
theorem dX0_begin_15 : decode cX0_begin 15 = .ok (.aload_n 0, 1) := by decide +kernel
theorem dX0_begin_16 : decode cX0_begin 16 = .ok (.iload_n 2, 1) := by decide +kernel
theorem dX0_begin_17 : decode cX0_begin 17 = .ok (.iconst 1, 1) := by decide +kernel
theorem dX0_begin_18 : decode cX0_begin 18 = .ok (.iload_n 2, 1) := by decide +kernel
theorem dX0_begin_19 : decode cX0_begin 19 = .ok (.iload_n 2, 1) := by decide +kernel
theorem dX0_begin_20 : decode cX0_begin 20 = .ok (.iload_n 2, 1) := by decide +kernel
theorem dX0_begin_21 : decode cX0_begin 21 = .ok (.imul, 1) := by decide +kernel
theorem dX0_begin_22 : decode cX0_begin 22 = .ok (.invokevirtual 30, 3) := by decide +kernel
theorem dX0_begin_25 : decode cX0_begin 25 = .ok (.iinc 2 1, 3) := by decide +kernel
theorem dX0_begin_28 : decode cX0_begin 28 = .ok (.goto (-21), 3) := by decide +kernel
theorem dX0_begin_31 : decode cX0_begin 31 = .ok (.return_, 1) := by decide +kernel
theorem dX0_copy_0 : decode cX0_copy 0 = .ok (.aload_n 0, 1) := by decide +kernel
theorem dX0_copy_1 : decode cX0_copy 1 = .ok (.aload_n 1, 1) := by decide +kernel
theorem dX0_copy_2 : decode cX0_copy 2 = .ok (.getfield 26, 3) := by decide +kernel
theorem dX0_copy_5 : decode cX0_copy 5 = .ok (.putfield 26, 3) := by decide +kernel
theorem dX0_copy_8 : decode cX0_copy 8 = .ok (.aload_n 1, 1) := by decide +kernel
theorem dX0_copy_9 : decode cX0_copy 9 = .ok (.getfield 11, 3) := by decide +kernel
theorem dX0_copy_12 : decode cX0_copy 12 = .ok (.iconst 0, 1) := by decide +kernel
theorem dX0_copy_13 : decode cX0_copy 13 = .ok (.aload_n 0, 1) := by decide +kernel
theorem dX0_copy_14 : decode cX0_copy 14 = .ok (.getfield 11, 3) := by decide +kernel
theorem dX0_copy_17 : decode cX0_copy 17 = .ok (.iconst 0, 1) := by decide +kernel
theorem dX0_copy_18 : decode cX0_copy 18 = .ok (.aload_n 0, 1) := by decide +kernel
theorem dX0_copy_19 : decode cX0_copy 19 = .ok (.getfield 11, 3) := by decide +kernel
theorem dX0_copy_22 : decode cX0_copy 22 = .ok (.arraylength, 1) := by decide +kernel
theorem dX0_copy_23 : decode cX0_copy 23 = .ok (.invokestatic 33, 3) := by decide +kernel
theorem dX0_copy_26 : decode cX0_copy 26 = .ok (.aload_n 1, 1) := by decide +kernel
theorem dX0_copy_27 : decode cX0_copy 27 = .ok (.getfield 15, 3) := by decide +kernel
theorem dX0_copy_30 : decode cX0_copy 30 = .ok (.iconst 0, 1) := by decide +kernel
theorem dX0_copy_31 : decode cX0_copy 31 = .ok (.aload_n 0, 1) := by decide +kernel
theorem dX0_copy_32 : decode cX0_copy 32 = .ok (.getfield 15, 3) := by decide +kernel
theorem dX0_copy_35 : decode cX0_copy 35 = .ok (.iconst 0, 1) := by decide +kernel
theorem dX0_copy_36 : decode cX0_copy 36 = .ok (.aload_n 0, 1) := by decide +kernel
theorem dX0_copy_37 : decode cX0_copy 37 = .ok (.getfield 15, 3) := by decide +kernel
theorem dX0_copy_40 : decode cX0_copy 40 = .ok (.arraylength, 1) := by decide +kernel
theorem dX0_copy_41 : decode cX0_copy 41 = .ok (.invokestatic 33, 3) := by decide +kernel
theorem dX0_copy_44 : decode cX0_copy 44 = .ok (.return_, 1) := by decide +kernel
theorem dX0_size_0 : decode cX0_size 0 = .ok (.aload_n 0, 1) := by decide +kernel
theorem dX0_size_1 : decode cX0_size 1 = .ok (.getfield 26, 3) := by decide +kernel
theorem dX0_size_4 : decode cX0_size 4 = .ok (.ireturn, 1) := by decide +kernel
theorem dX0_has_0 : decode cX0_has 0 = .ok (.iload_n 1, 1) := by decide +kernel
theorem dX0_has_1 : decode cX0_has 1 = .ok (.ifCond .lt 15, 3) := by decide +kernel
theorem dX0_has_4 : decode cX0_has 4 = .ok (.iload_n 1, 1) := by decide +kernel
theorem dX0_has_5 : decode cX0_has 5 = .ok (.aload_n 0, 1) := by decide +kernel
theorem dX0_has_6 : decode cX0_has 6 = .ok (.getfield 26, 3) := by decide +kernel
theorem dX0_has_9 : decode cX0_has 9 = .ok (.if_icmp .ge 7, 3) := by decide +kernel
theorem dX0_has_12 : decode cX0_has 12 = .ok (.iconst 1, 1) := by decide +kernel
theorem dX0_has_13 : decode cX0_has 13 = .ok (.goto 4, 3) := by decide +kernel
theorem dX0_has_16 : decode cX0_has 16 = .ok (.iconst 0, 1) := by decide +kernel
theorem dX0_has_17 : decode cX0_has 17 = .ok (.ireturn, 1) := by decide +kernel
theorem dX0_triples_0 : decode cX0_triples 0 = .ok (.aload_n 0, 1) := by decide +kernel
theorem dX0_triples_1 : decode cX0_triples 1 = .ok (.getfield 26, 3) := by decide +kernel
theorem dX0_triples_4 : decode cX0_triples 4 = .ok (.invokestatic 39, 3) := by decide +kernel
theorem dX0_triples_7 : decode cX0_triples 7 = .ok (.ireturn, 1) := by decide +kernel
theorem dX0_triplesOf_0 : decode cX0_triplesOf 0 = .ok (.iload_n 0, 1) := by decide +kernel
theorem dX0_triplesOf_1 : decode cX0_triplesOf 1 = .ok (.iload_n 0, 1) := by decide +kernel
theorem dX0_triplesOf_2 : decode cX0_triplesOf 2 = .ok (.iconst 1, 1) := by decide +kernel
theorem dX0_triplesOf_3 : decode cX0_triplesOf 3 = .ok (.isub, 1) := by decide +kernel
theorem dX0_triplesOf_4 : decode cX0_triplesOf 4 = .ok (.imul, 1) := by decide +kernel
theorem dX0_triplesOf_5 : decode cX0_triplesOf 5 = .ok (.iload_n 0, 1) := by decide +kernel
theorem dX0_triplesOf_6 : decode cX0_triplesOf 6 = .ok (.iconst 2, 1) := by decide +kernel
theorem dX0_triplesOf_7 : decode cX0_triplesOf 7 = .ok (.isub, 1) := by decide +kernel
theorem dX0_triplesOf_8 : decode cX0_triplesOf 8 = .ok (.imul, 1) := by decide +kernel
theorem dX0_triplesOf_9 : decode cX0_triplesOf 9 = .ok (.bipush 6, 2) := by decide +kernel
theorem dX0_triplesOf_11 : decode cX0_triplesOf 11 = .ok (.idiv, 1) := by decide +kernel
theorem dX0_triplesOf_12 : decode cX0_triplesOf 12 = .ok (.ireturn, 1) := by decide +kernel
theorem dX0_signOf_0 : decode cX0_signOf 0 = .ok (.aload_n 0, 1) := by decide +kernel
theorem dX0_signOf_1 : decode cX0_signOf 1 = .ok (.getfield 11, 3) := by decide +kernel
theorem dX0_signOf_4 : decode cX0_signOf 4 = .ok (.iload_n 1, 1) := by decide +kernel
theorem dX0_signOf_5 : decode cX0_signOf 5 = .ok (.bipush 6, 2) := by decide +kernel
theorem dX0_signOf_7 : decode cX0_signOf 7 = .ok (.imul, 1) := by decide +kernel
theorem dX0_signOf_8 : decode cX0_signOf 8 = .ok (.iload_n 2, 1) := by decide +kernel
theorem dX0_signOf_9 : decode cX0_signOf 9 = .ok (.iadd, 1) := by decide +kernel
theorem dX0_signOf_10 : decode cX0_signOf 10 = .ok (.bipush 6, 2) := by decide +kernel
theorem dX0_signOf_12 : decode cX0_signOf 12 = .ok (.imul, 1) := by decide +kernel
theorem dX0_signOf_13 : decode cX0_signOf 13 = .ok (.iload_n 3, 1) := by decide +kernel
theorem dX0_signOf_14 : decode cX0_signOf 14 = .ok (.iadd, 1) := by decide +kernel
theorem dX0_signOf_15 : decode cX0_signOf 15 = .ok (.iaload, 1) := by decide +kernel
theorem dX0_signOf_16 : decode cX0_signOf 16 = .ok (.ireturn, 1) := by decide +kernel
theorem dX0_giveInOrder_0 : decode cX0_giveInOrder 0 = .ok (.aload_n 0, 1) := by decide +kernel
theorem dX0_giveInOrder_1 : decode cX0_giveInOrder 1 = .ok (.getfield 11, 3) := by decide +kernel
theorem dX0_giveInOrder_4 : decode cX0_giveInOrder 4 = .ok (.iload_n 1, 1) := by decide +kernel
theorem dX0_giveInOrder_5 : decode cX0_giveInOrder 5 = .ok (.bipush 6, 2) := by decide +kernel
theorem dX0_giveInOrder_7 : decode cX0_giveInOrder 7 = .ok (.imul, 1) := by decide +kernel
theorem dX0_giveInOrder_8 : decode cX0_giveInOrder 8 = .ok (.iload_n 2, 1) := by decide +kernel
theorem dX0_giveInOrder_9 : decode cX0_giveInOrder 9 = .ok (.iadd, 1) := by decide +kernel
theorem dX0_giveInOrder_10 : decode cX0_giveInOrder 10 = .ok (.bipush 6, 2) := by decide +kernel
theorem dX0_giveInOrder_12 : decode cX0_giveInOrder 12 = .ok (.imul, 1) := by decide +kernel
theorem dX0_giveInOrder_13 : decode cX0_giveInOrder 13 = .ok (.iload_n 3, 1) := by decide +kernel
theorem dX0_giveInOrder_14 : decode cX0_giveInOrder 14 = .ok (.iadd, 1) := by decide +kernel
theorem dX0_giveInOrder_15 : decode cX0_giveInOrder 15 = .ok (.iload 4, 2) := by decide +kernel
theorem dX0_giveInOrder_17 : decode cX0_giveInOrder 17 = .ok (.iastore, 1) := by decide +kernel
theorem dX0_giveInOrder_18 : decode cX0_giveInOrder 18 = .ok (.return_, 1) := by decide +kernel
theorem dX0_giveSign_0 : decode cX0_giveSign 0 = .ok (.aload_n 0, 1) := by decide +kernel
theorem dX0_giveSign_1 : decode cX0_giveSign 1 = .ok (.iload_n 1, 1) := by decide +kernel
theorem dX0_giveSign_2 : decode cX0_giveSign 2 = .ok (.iload_n 2, 1) := by decide +kernel
theorem dX0_giveSign_3 : decode cX0_giveSign 3 = .ok (.iload_n 3, 1) := by decide +kernel
theorem dX0_giveSign_4 : decode cX0_giveSign 4 = .ok (.iload 4, 2) := by decide +kernel
theorem dX0_giveSign_6 : decode cX0_giveSign 6 = .ok (.invokevirtual 43, 3) := by decide +kernel
theorem dX0_giveSign_9 : decode cX0_giveSign 9 = .ok (.aload_n 0, 1) := by decide +kernel
theorem dX0_giveSign_10 : decode cX0_giveSign 10 = .ok (.iload_n 2, 1) := by decide +kernel
theorem dX0_giveSign_11 : decode cX0_giveSign 11 = .ok (.iload_n 3, 1) := by decide +kernel
theorem dX0_giveSign_12 : decode cX0_giveSign 12 = .ok (.iload_n 1, 1) := by decide +kernel
theorem dX0_giveSign_13 : decode cX0_giveSign 13 = .ok (.iload 4, 2) := by decide +kernel
theorem dX0_giveSign_15 : decode cX0_giveSign 15 = .ok (.invokevirtual 43, 3) := by decide +kernel
theorem dX0_giveSign_18 : decode cX0_giveSign 18 = .ok (.aload_n 0, 1) := by decide +kernel
theorem dX0_giveSign_19 : decode cX0_giveSign 19 = .ok (.iload_n 3, 1) := by decide +kernel
theorem dX0_giveSign_20 : decode cX0_giveSign 20 = .ok (.iload_n 1, 1) := by decide +kernel
theorem dX0_giveSign_21 : decode cX0_giveSign 21 = .ok (.iload_n 2, 1) := by decide +kernel
theorem dX0_giveSign_22 : decode cX0_giveSign 22 = .ok (.iload 4, 2) := by decide +kernel
theorem dX0_giveSign_24 : decode cX0_giveSign 24 = .ok (.invokevirtual 43, 3) := by decide +kernel
theorem dX0_giveSign_27 : decode cX0_giveSign 27 = .ok (.aload_n 0, 1) := by decide +kernel
theorem dX0_giveSign_28 : decode cX0_giveSign 28 = .ok (.iload_n 1, 1) := by decide +kernel
theorem dX0_giveSign_29 : decode cX0_giveSign 29 = .ok (.iload_n 3, 1) := by decide +kernel
theorem dX0_giveSign_30 : decode cX0_giveSign 30 = .ok (.iload_n 2, 1) := by decide +kernel
theorem dX0_giveSign_31 : decode cX0_giveSign 31 = .ok (.iload 4, 2) := by decide +kernel
theorem dX0_giveSign_33 : decode cX0_giveSign 33 = .ok (.ineg, 1) := by decide +kernel
theorem dX0_giveSign_34 : decode cX0_giveSign 34 = .ok (.invokevirtual 43, 3) := by decide +kernel
theorem dX0_giveSign_37 : decode cX0_giveSign 37 = .ok (.aload_n 0, 1) := by decide +kernel
theorem dX0_giveSign_38 : decode cX0_giveSign 38 = .ok (.iload_n 3, 1) := by decide +kernel
theorem dX0_giveSign_39 : decode cX0_giveSign 39 = .ok (.iload_n 2, 1) := by decide +kernel
theorem dX0_giveSign_40 : decode cX0_giveSign 40 = .ok (.iload_n 1, 1) := by decide +kernel
theorem dX0_giveSign_41 : decode cX0_giveSign 41 = .ok (.iload 4, 2) := by decide +kernel
theorem dX0_giveSign_43 : decode cX0_giveSign 43 = .ok (.ineg, 1) := by decide +kernel
theorem dX0_giveSign_44 : decode cX0_giveSign 44 = .ok (.invokevirtual 43, 3) := by decide +kernel
theorem dX0_giveSign_47 : decode cX0_giveSign 47 = .ok (.aload_n 0, 1) := by decide +kernel
theorem dX0_giveSign_48 : decode cX0_giveSign 48 = .ok (.iload_n 2, 1) := by decide +kernel
theorem dX0_giveSign_49 : decode cX0_giveSign 49 = .ok (.iload_n 1, 1) := by decide +kernel
theorem dX0_giveSign_50 : decode cX0_giveSign 50 = .ok (.iload_n 3, 1) := by decide +kernel
theorem dX0_giveSign_51 : decode cX0_giveSign 51 = .ok (.iload 4, 2) := by decide +kernel
theorem dX0_giveSign_53 : decode cX0_giveSign 53 = .ok (.ineg, 1) := by decide +kernel
theorem dX0_giveSign_54 : decode cX0_giveSign 54 = .ok (.invokevirtual 43, 3) := by decide +kernel
theorem dX0_giveSign_57 : decode cX0_giveSign 57 = .ok (.return_, 1) := by decide +kernel
theorem dX0_numberOf_0 : decode cX0_numberOf 0 = .ok (.aload_n 0, 1) := by decide +kernel
theorem dX0_numberOf_1 : decode cX0_numberOf 1 = .ok (.getfield 15, 3) := by decide +kernel
theorem dX0_numberOf_4 : decode cX0_numberOf 4 = .ok (.iload_n 1, 1) := by decide +kernel
theorem dX0_numberOf_5 : decode cX0_numberOf 5 = .ok (.iconst 3, 1) := by decide +kernel
theorem dX0_numberOf_6 : decode cX0_numberOf 6 = .ok (.imul, 1) := by decide +kernel
theorem dX0_numberOf_7 : decode cX0_numberOf 7 = .ok (.iload_n 2, 1) := by decide +kernel
theorem dX0_numberOf_8 : decode cX0_numberOf 8 = .ok (.iadd, 1) := by decide +kernel
theorem dX0_numberOf_9 : decode cX0_numberOf 9 = .ok (.iaload, 1) := by decide +kernel
theorem dX0_numberOf_10 : decode cX0_numberOf 10 = .ok (.ireturn, 1) := by decide +kernel
theorem dX0_isAt_0 : decode cX0_isAt 0 = .ok (.aload_n 0, 1) := by decide +kernel
theorem dX0_isAt_1 : decode cX0_isAt 1 = .ok (.iload_n 1, 1) := by decide +kernel
theorem dX0_isAt_2 : decode cX0_isAt 2 = .ok (.iconst 0, 1) := by decide +kernel
theorem dX0_isAt_3 : decode cX0_isAt 3 = .ok (.invokevirtual 46, 3) := by decide +kernel
theorem dX0_isAt_6 : decode cX0_isAt 6 = .ok (.iload_n 2, 1) := by decide +kernel
theorem dX0_isAt_7 : decode cX0_isAt 7 = .ok (.if_icmp .ne 28, 3) := by decide +kernel
theorem dX0_isAt_10 : decode cX0_isAt 10 = .ok (.aload_n 0, 1) := by decide +kernel
theorem dX0_isAt_11 : decode cX0_isAt 11 = .ok (.iload_n 1, 1) := by decide +kernel
theorem dX0_isAt_12 : decode cX0_isAt 12 = .ok (.iconst 1, 1) := by decide +kernel
theorem dX0_isAt_13 : decode cX0_isAt 13 = .ok (.invokevirtual 46, 3) := by decide +kernel
theorem dX0_isAt_16 : decode cX0_isAt 16 = .ok (.iload_n 3, 1) := by decide +kernel
theorem dX0_isAt_17 : decode cX0_isAt 17 = .ok (.if_icmp .ne 18, 3) := by decide +kernel
theorem dX0_isAt_20 : decode cX0_isAt 20 = .ok (.aload_n 0, 1) := by decide +kernel
theorem dX0_isAt_21 : decode cX0_isAt 21 = .ok (.iload_n 1, 1) := by decide +kernel
theorem dX0_isAt_22 : decode cX0_isAt 22 = .ok (.iconst 2, 1) := by decide +kernel
theorem dX0_isAt_23 : decode cX0_isAt 23 = .ok (.invokevirtual 46, 3) := by decide +kernel
theorem dX0_isAt_26 : decode cX0_isAt 26 = .ok (.iload 4, 2) := by decide +kernel
theorem dX0_isAt_28 : decode cX0_isAt 28 = .ok (.if_icmp .ne 7, 3) := by decide +kernel
theorem dX0_isAt_31 : decode cX0_isAt 31 = .ok (.iconst 1, 1) := by decide +kernel
theorem dX0_isAt_32 : decode cX0_isAt 32 = .ok (.goto 4, 3) := by decide +kernel
theorem dX0_isAt_35 : decode cX0_isAt 35 = .ok (.iconst 0, 1) := by decide +kernel
theorem dX0_isAt_36 : decode cX0_isAt 36 = .ok (.ireturn, 1) := by decide +kernel
theorem dX0_givePoint_0 : decode cX0_givePoint 0 = .ok (.aload_n 0, 1) := by decide +kernel
theorem dX0_givePoint_1 : decode cX0_givePoint 1 = .ok (.getfield 15, 3) := by decide +kernel
theorem dX0_givePoint_4 : decode cX0_givePoint 4 = .ok (.iload_n 1, 1) := by decide +kernel
theorem dX0_givePoint_5 : decode cX0_givePoint 5 = .ok (.iconst 3, 1) := by decide +kernel
theorem dX0_givePoint_6 : decode cX0_givePoint 6 = .ok (.imul, 1) := by decide +kernel
theorem dX0_givePoint_7 : decode cX0_givePoint 7 = .ok (.iload_n 2, 1) := by decide +kernel
theorem dX0_givePoint_8 : decode cX0_givePoint 8 = .ok (.iastore, 1) := by decide +kernel
theorem dX0_givePoint_9 : decode cX0_givePoint 9 = .ok (.aload_n 0, 1) := by decide +kernel
theorem dX0_givePoint_10 : decode cX0_givePoint 10 = .ok (.getfield 15, 3) := by decide +kernel
theorem dX0_givePoint_13 : decode cX0_givePoint 13 = .ok (.iload_n 1, 1) := by decide +kernel
theorem dX0_givePoint_14 : decode cX0_givePoint 14 = .ok (.iconst 3, 1) := by decide +kernel
theorem dX0_givePoint_15 : decode cX0_givePoint 15 = .ok (.imul, 1) := by decide +kernel
theorem dX0_givePoint_16 : decode cX0_givePoint 16 = .ok (.iconst 1, 1) := by decide +kernel
theorem dX0_givePoint_17 : decode cX0_givePoint 17 = .ok (.iadd, 1) := by decide +kernel
theorem dX0_givePoint_18 : decode cX0_givePoint 18 = .ok (.iload_n 3, 1) := by decide +kernel
theorem dX0_givePoint_19 : decode cX0_givePoint 19 = .ok (.iastore, 1) := by decide +kernel
theorem dX0_givePoint_20 : decode cX0_givePoint 20 = .ok (.aload_n 0, 1) := by decide +kernel
theorem dX0_givePoint_21 : decode cX0_givePoint 21 = .ok (.getfield 15, 3) := by decide +kernel
theorem dX0_givePoint_24 : decode cX0_givePoint 24 = .ok (.iload_n 1, 1) := by decide +kernel
theorem dX0_givePoint_25 : decode cX0_givePoint 25 = .ok (.iconst 3, 1) := by decide +kernel
theorem dX0_givePoint_26 : decode cX0_givePoint 26 = .ok (.imul, 1) := by decide +kernel
theorem dX0_givePoint_27 : decode cX0_givePoint 27 = .ok (.iconst 2, 1) := by decide +kernel
theorem dX0_givePoint_28 : decode cX0_givePoint 28 = .ok (.iadd, 1) := by decide +kernel
theorem dX0_givePoint_29 : decode cX0_givePoint 29 = .ok (.iload 4, 2) := by decide +kernel
theorem dX0_givePoint_31 : decode cX0_givePoint 31 = .ok (.iastore, 1) := by decide +kernel
theorem dX0_givePoint_32 : decode cX0_givePoint 32 = .ok (.return_, 1) := by decide +kernel
theorem dX0_turnOf_0 : decode cX0_turnOf 0 = .ok (.aload_n 0, 1) := by decide +kernel
theorem dX0_turnOf_1 : decode cX0_turnOf 1 = .ok (.iload_n 1, 1) := by decide +kernel
theorem dX0_turnOf_2 : decode cX0_turnOf 2 = .ok (.iconst 0, 1) := by decide +kernel
theorem dX0_turnOf_3 : decode cX0_turnOf 3 = .ok (.invokevirtual 46, 3) := by decide +kernel
theorem dX0_turnOf_6 : decode cX0_turnOf 6 = .ok (.aload_n 0, 1) := by decide +kernel
theorem dX0_turnOf_7 : decode cX0_turnOf 7 = .ok (.iload_n 2, 1) := by decide +kernel
theorem dX0_turnOf_8 : decode cX0_turnOf 8 = .ok (.iload_n 3, 1) := by decide +kernel
theorem dX0_turnOf_9 : decode cX0_turnOf 9 = .ok (.iconst 1, 1) := by decide +kernel
theorem dX0_turnOf_10 : decode cX0_turnOf 10 = .ok (.iconst 2, 1) := by decide +kernel
theorem dX0_turnOf_11 : decode cX0_turnOf 11 = .ok (.invokevirtual 50, 3) := by decide +kernel
theorem dX0_turnOf_14 : decode cX0_turnOf 14 = .ok (.imul, 1) := by decide +kernel
theorem dX0_turnOf_15 : decode cX0_turnOf 15 = .ok (.aload_n 0, 1) := by decide +kernel
theorem dX0_turnOf_16 : decode cX0_turnOf 16 = .ok (.iload_n 1, 1) := by decide +kernel
theorem dX0_turnOf_17 : decode cX0_turnOf 17 = .ok (.iconst 1, 1) := by decide +kernel
theorem dX0_turnOf_18 : decode cX0_turnOf 18 = .ok (.invokevirtual 46, 3) := by decide +kernel
theorem dX0_turnOf_21 : decode cX0_turnOf 21 = .ok (.aload_n 0, 1) := by decide +kernel
theorem dX0_turnOf_22 : decode cX0_turnOf 22 = .ok (.iload_n 2, 1) := by decide +kernel
theorem dX0_turnOf_23 : decode cX0_turnOf 23 = .ok (.iload_n 3, 1) := by decide +kernel
theorem dX0_turnOf_24 : decode cX0_turnOf 24 = .ok (.iconst 0, 1) := by decide +kernel
theorem dX0_turnOf_25 : decode cX0_turnOf 25 = .ok (.iconst 2, 1) := by decide +kernel
theorem dX0_turnOf_26 : decode cX0_turnOf 26 = .ok (.invokevirtual 50, 3) := by decide +kernel
theorem dX0_turnOf_29 : decode cX0_turnOf 29 = .ok (.imul, 1) := by decide +kernel
theorem dX0_turnOf_30 : decode cX0_turnOf 30 = .ok (.isub, 1) := by decide +kernel
theorem dX0_turnOf_31 : decode cX0_turnOf 31 = .ok (.aload_n 0, 1) := by decide +kernel
theorem dX0_turnOf_32 : decode cX0_turnOf 32 = .ok (.iload_n 1, 1) := by decide +kernel
theorem dX0_turnOf_33 : decode cX0_turnOf 33 = .ok (.iconst 2, 1) := by decide +kernel
theorem dX0_turnOf_34 : decode cX0_turnOf 34 = .ok (.invokevirtual 46, 3) := by decide +kernel
theorem dX0_turnOf_37 : decode cX0_turnOf 37 = .ok (.aload_n 0, 1) := by decide +kernel
theorem dX0_turnOf_38 : decode cX0_turnOf 38 = .ok (.iload_n 2, 1) := by decide +kernel
theorem dX0_turnOf_39 : decode cX0_turnOf 39 = .ok (.iload_n 3, 1) := by decide +kernel
theorem dX0_turnOf_40 : decode cX0_turnOf 40 = .ok (.iconst 0, 1) := by decide +kernel
theorem dX0_turnOf_41 : decode cX0_turnOf 41 = .ok (.iconst 1, 1) := by decide +kernel
theorem dX0_turnOf_42 : decode cX0_turnOf 42 = .ok (.invokevirtual 50, 3) := by decide +kernel
theorem dX0_turnOf_45 : decode cX0_turnOf 45 = .ok (.imul, 1) := by decide +kernel
theorem dX0_turnOf_46 : decode cX0_turnOf 46 = .ok (.iadd, 1) := by decide +kernel
theorem dX0_turnOf_47 : decode cX0_turnOf 47 = .ok (.istore 4, 2) := by decide +kernel
theorem dX0_turnOf_49 : decode cX0_turnOf 49 = .ok (.iload 4, 2) := by decide +kernel
theorem dX0_turnOf_51 : decode cX0_turnOf 51 = .ok (.ifCond .ne 5, 3) := by decide +kernel
theorem dX0_turnOf_54 : decode cX0_turnOf 54 = .ok (.iconst 0, 1) := by decide +kernel
theorem dX0_turnOf_55 : decode cX0_turnOf 55 = .ok (.ireturn, 1) := by decide +kernel
theorem dX0_turnOf_56 : decode cX0_turnOf 56 = .ok (.iload 4, 2) := by decide +kernel
theorem dX0_turnOf_58 : decode cX0_turnOf 58 = .ok (.ifCond .le 7, 3) := by decide +kernel
theorem dX0_turnOf_61 : decode cX0_turnOf 61 = .ok (.iconst 1, 1) := by decide +kernel
theorem dX0_turnOf_62 : decode cX0_turnOf 62 = .ok (.goto 4, 3) := by decide +kernel
theorem dX0_turnOf_65 : decode cX0_turnOf 65 = .ok (.iconst (-1), 1) := by decide +kernel
theorem dX0_turnOf_66 : decode cX0_turnOf 66 = .ok (.ireturn, 1) := by decide +kernel
theorem dX0_minor_0 : decode cX0_minor 0 = .ok (.aload_n 0, 1) := by decide +kernel
theorem dX0_minor_1 : decode cX0_minor 1 = .ok (.iload_n 1, 1) := by decide +kernel
theorem dX0_minor_2 : decode cX0_minor 2 = .ok (.iload_n 3, 1) := by decide +kernel
theorem dX0_minor_3 : decode cX0_minor 3 = .ok (.invokevirtual 46, 3) := by decide +kernel
theorem dX0_minor_6 : decode cX0_minor 6 = .ok (.aload_n 0, 1) := by decide +kernel
theorem dX0_minor_7 : decode cX0_minor 7 = .ok (.iload_n 2, 1) := by decide +kernel
theorem dX0_minor_8 : decode cX0_minor 8 = .ok (.iload 4, 2) := by decide +kernel
theorem dX0_minor_10 : decode cX0_minor 10 = .ok (.invokevirtual 46, 3) := by decide +kernel
theorem dX0_minor_13 : decode cX0_minor 13 = .ok (.imul, 1) := by decide +kernel
theorem dX0_minor_14 : decode cX0_minor 14 = .ok (.aload_n 0, 1) := by decide +kernel
theorem dX0_minor_15 : decode cX0_minor 15 = .ok (.iload_n 1, 1) := by decide +kernel
theorem dX0_minor_16 : decode cX0_minor 16 = .ok (.iload 4, 2) := by decide +kernel
theorem dX0_minor_18 : decode cX0_minor 18 = .ok (.invokevirtual 46, 3) := by decide +kernel
theorem dX0_minor_21 : decode cX0_minor 21 = .ok (.aload_n 0, 1) := by decide +kernel
theorem dX0_minor_22 : decode cX0_minor 22 = .ok (.iload_n 2, 1) := by decide +kernel
theorem dX0_minor_23 : decode cX0_minor 23 = .ok (.iload_n 3, 1) := by decide +kernel
theorem dX0_minor_24 : decode cX0_minor 24 = .ok (.invokevirtual 46, 3) := by decide +kernel
theorem dX0_minor_27 : decode cX0_minor 27 = .ok (.imul, 1) := by decide +kernel
theorem dX0_minor_28 : decode cX0_minor 28 = .ok (.isub, 1) := by decide +kernel
theorem dX0_minor_29 : decode cX0_minor 29 = .ok (.ireturn, 1) := by decide +kernel
theorem dX0_reverse_0 : decode cX0_reverse 0 = .ok (.aload_n 0, 1) := by decide +kernel
theorem dX0_reverse_1 : decode cX0_reverse 1 = .ok (.iload_n 1, 1) := by decide +kernel
theorem dX0_reverse_2 : decode cX0_reverse 2 = .ok (.aload_n 0, 1) := by decide +kernel
theorem dX0_reverse_3 : decode cX0_reverse 3 = .ok (.iload_n 1, 1) := by decide +kernel
theorem dX0_reverse_4 : decode cX0_reverse 4 = .ok (.iconst 0, 1) := by decide +kernel
theorem dX0_reverse_5 : decode cX0_reverse 5 = .ok (.invokevirtual 46, 3) := by decide +kernel
theorem dX0_reverse_8 : decode cX0_reverse 8 = .ok (.ineg, 1) := by decide +kernel
theorem dX0_reverse_9 : decode cX0_reverse 9 = .ok (.aload_n 0, 1) := by decide +kernel
theorem dX0_reverse_10 : decode cX0_reverse 10 = .ok (.iload_n 1, 1) := by decide +kernel
theorem dX0_reverse_11 : decode cX0_reverse 11 = .ok (.iconst 1, 1) := by decide +kernel
theorem dX0_reverse_12 : decode cX0_reverse 12 = .ok (.invokevirtual 46, 3) := by decide +kernel
theorem dX0_reverse_15 : decode cX0_reverse 15 = .ok (.ineg, 1) := by decide +kernel
theorem dX0_reverse_16 : decode cX0_reverse 16 = .ok (.aload_n 0, 1) := by decide +kernel
theorem dX0_reverse_17 : decode cX0_reverse 17 = .ok (.iload_n 1, 1) := by decide +kernel
theorem dX0_reverse_18 : decode cX0_reverse 18 = .ok (.iconst 2, 1) := by decide +kernel
theorem dX0_reverse_19 : decode cX0_reverse 19 = .ok (.invokevirtual 46, 3) := by decide +kernel
theorem dX0_reverse_22 : decode cX0_reverse 22 = .ok (.ineg, 1) := by decide +kernel
theorem dX0_reverse_23 : decode cX0_reverse 23 = .ok (.invokevirtual 30, 3) := by decide +kernel
theorem dX0_reverse_26 : decode cX0_reverse 26 = .ok (.iconst 0, 1) := by decide +kernel
theorem dX0_reverse_27 : decode cX0_reverse 27 = .ok (.istore_n 2, 1) := by decide +kernel
theorem dX0_reverse_28 : decode cX0_reverse 28 = .ok (.iconst 0, 1) := by decide +kernel
theorem dX0_reverse_29 : decode cX0_reverse 29 = .ok (.istore_n 3, 1) := by decide +kernel
theorem dX0_reverse_30 : decode cX0_reverse 30 = .ok (.iload_n 3, 1) := by decide +kernel
theorem dX0_reverse_31 : decode cX0_reverse 31 = .ok (.aload_n 0, 1) := by decide +kernel
theorem dX0_reverse_32 : decode cX0_reverse 32 = .ok (.getfield 26, 3) := by decide +kernel
theorem dX0_reverse_35 : decode cX0_reverse 35 = .ok (.if_icmp .ge 71, 3) := by decide +kernel
theorem dX0_reverse_38 : decode cX0_reverse 38 = .ok (.iload_n 3, 1) := by decide +kernel
theorem dX0_reverse_39 : decode cX0_reverse 39 = .ok (.iconst 1, 1) := by decide +kernel
theorem dX0_reverse_40 : decode cX0_reverse 40 = .ok (.iadd, 1) := by decide +kernel
theorem dX0_reverse_41 : decode cX0_reverse 41 = .ok (.istore 4, 2) := by decide +kernel
theorem dX0_reverse_43 : decode cX0_reverse 43 = .ok (.iload 4, 2) := by decide +kernel
theorem dX0_reverse_45 : decode cX0_reverse 45 = .ok (.aload_n 0, 1) := by decide +kernel
theorem dX0_reverse_46 : decode cX0_reverse 46 = .ok (.getfield 26, 3) := by decide +kernel
theorem dX0_reverse_49 : decode cX0_reverse 49 = .ok (.if_icmp .ge 51, 3) := by decide +kernel
theorem dX0_reverse_52 : decode cX0_reverse 52 = .ok (.iload_n 3, 1) := by decide +kernel
theorem dX0_reverse_53 : decode cX0_reverse 53 = .ok (.iload_n 1, 1) := by decide +kernel
theorem dX0_reverse_54 : decode cX0_reverse 54 = .ok (.if_icmp .eq 40, 3) := by decide +kernel
theorem dX0_reverse_57 : decode cX0_reverse 57 = .ok (.iload 4, 2) := by decide +kernel
theorem dX0_reverse_59 : decode cX0_reverse 59 = .ok (.iload_n 1, 1) := by decide +kernel
theorem dX0_reverse_60 : decode cX0_reverse 60 = .ok (.if_icmp .eq 34, 3) := by decide +kernel
theorem dX0_reverse_63 : decode cX0_reverse 63 = .ok (.aload_n 0, 1) := by decide +kernel
theorem dX0_reverse_64 : decode cX0_reverse 64 = .ok (.iload_n 1, 1) := by decide +kernel
theorem dX0_reverse_65 : decode cX0_reverse 65 = .ok (.iload_n 3, 1) := by decide +kernel
theorem dX0_reverse_66 : decode cX0_reverse 66 = .ok (.iload 4, 2) := by decide +kernel
theorem dX0_reverse_68 : decode cX0_reverse 68 = .ok (.invokevirtual 54, 3) := by decide +kernel
theorem dX0_reverse_71 : decode cX0_reverse 71 = .ok (.ifCond .eq 23, 3) := by decide +kernel
theorem dX0_reverse_74 : decode cX0_reverse 74 = .ok (.aload_n 0, 1) := by decide +kernel
theorem dX0_reverse_75 : decode cX0_reverse 75 = .ok (.iload_n 1, 1) := by decide +kernel
theorem dX0_reverse_76 : decode cX0_reverse 76 = .ok (.iload_n 3, 1) := by decide +kernel
theorem dX0_reverse_77 : decode cX0_reverse 77 = .ok (.iload 4, 2) := by decide +kernel
theorem dX0_reverse_79 : decode cX0_reverse 79 = .ok (.aload_n 0, 1) := by decide +kernel
theorem dX0_reverse_80 : decode cX0_reverse 80 = .ok (.iload_n 1, 1) := by decide +kernel
theorem dX0_reverse_81 : decode cX0_reverse 81 = .ok (.iload_n 3, 1) := by decide +kernel
theorem dX0_reverse_82 : decode cX0_reverse 82 = .ok (.iload 4, 2) := by decide +kernel
theorem dX0_reverse_84 : decode cX0_reverse 84 = .ok (.invokevirtual 54, 3) := by decide +kernel
theorem dX0_reverse_87 : decode cX0_reverse 87 = .ok (.ineg, 1) := by decide +kernel
theorem dX0_reverse_88 : decode cX0_reverse 88 = .ok (.invokevirtual 22, 3) := by decide +kernel
theorem dX0_reverse_91 : decode cX0_reverse 91 = .ok (.iinc 2 1, 3) := by decide +kernel
theorem dX0_reverse_94 : decode cX0_reverse 94 = .ok (.iinc 4 1, 3) := by decide +kernel
theorem dX0_reverse_97 : decode cX0_reverse 97 = .ok (.goto (-54), 3) := by decide +kernel
theorem dX0_reverse_100 : decode cX0_reverse 100 = .ok (.iinc 3 1, 3) := by decide +kernel
theorem dX0_reverse_103 : decode cX0_reverse 103 = .ok (.goto (-73), 3) := by decide +kernel
theorem dX0_reverse_106 : decode cX0_reverse 106 = .ok (.iload_n 2, 1) := by decide +kernel
theorem dX0_reverse_107 : decode cX0_reverse 107 = .ok (.ireturn, 1) := by decide +kernel
theorem dX0_trade_0 : decode cX0_trade 0 = .ok (.aload_n 0, 1) := by decide +kernel
theorem dX0_trade_1 : decode cX0_trade 1 = .ok (.iload_n 1, 1) := by decide +kernel
theorem dX0_trade_2 : decode cX0_trade 2 = .ok (.iload_n 2, 1) := by decide +kernel
theorem dX0_trade_3 : decode cX0_trade 3 = .ok (.invokevirtual 58, 3) := by decide +kernel
theorem dX0_trade_6 : decode cX0_trade 6 = .ok (.iconst 0, 1) := by decide +kernel
theorem dX0_trade_7 : decode cX0_trade 7 = .ok (.istore_n 3, 1) := by decide +kernel
theorem dX0_trade_8 : decode cX0_trade 8 = .ok (.iconst 0, 1) := by decide +kernel
theorem dX0_trade_9 : decode cX0_trade 9 = .ok (.istore 4, 2) := by decide +kernel
theorem dX0_trade_11 : decode cX0_trade 11 = .ok (.iload 4, 2) := by decide +kernel
theorem dX0_trade_13 : decode cX0_trade 13 = .ok (.aload_n 0, 1) := by decide +kernel
theorem dX0_trade_14 : decode cX0_trade 14 = .ok (.getfield 26, 3) := by decide +kernel
theorem dX0_trade_17 : decode cX0_trade 17 = .ok (.if_icmp .ge 101, 3) := by decide +kernel
theorem dX0_trade_20 : decode cX0_trade 20 = .ok (.iload 4, 2) := by decide +kernel
theorem dX0_trade_22 : decode cX0_trade 22 = .ok (.iload_n 1, 1) := by decide +kernel
theorem dX0_trade_23 : decode cX0_trade 23 = .ok (.if_icmp .eq 89, 3) := by decide +kernel
theorem dX0_trade_26 : decode cX0_trade 26 = .ok (.iload 4, 2) := by decide +kernel
theorem dX0_trade_28 : decode cX0_trade 28 = .ok (.iload_n 2, 1) := by decide +kernel
theorem dX0_trade_29 : decode cX0_trade 29 = .ok (.if_icmp .ne 6, 3) := by decide +kernel
theorem dX0_trade_32 : decode cX0_trade 32 = .ok (.goto 80, 3) := by decide +kernel
theorem dX0_trade_35 : decode cX0_trade 35 = .ok (.aload_n 0, 1) := by decide +kernel
theorem dX0_trade_36 : decode cX0_trade 36 = .ok (.iload_n 1, 1) := by decide +kernel
theorem dX0_trade_37 : decode cX0_trade 37 = .ok (.iload_n 2, 1) := by decide +kernel
theorem dX0_trade_38 : decode cX0_trade 38 = .ok (.iload 4, 2) := by decide +kernel
theorem dX0_trade_40 : decode cX0_trade 40 = .ok (.invokevirtual 54, 3) := by decide +kernel
theorem dX0_trade_43 : decode cX0_trade 43 = .ok (.ifCond .eq 23, 3) := by decide +kernel
theorem dX0_trade_46 : decode cX0_trade 46 = .ok (.aload_n 0, 1) := by decide +kernel
theorem dX0_trade_47 : decode cX0_trade 47 = .ok (.iload_n 1, 1) := by decide +kernel
theorem dX0_trade_48 : decode cX0_trade 48 = .ok (.iload_n 2, 1) := by decide +kernel
theorem dX0_trade_49 : decode cX0_trade 49 = .ok (.iload 4, 2) := by decide +kernel
theorem dX0_trade_51 : decode cX0_trade 51 = .ok (.aload_n 0, 1) := by decide +kernel
theorem dX0_trade_52 : decode cX0_trade 52 = .ok (.iload_n 1, 1) := by decide +kernel
theorem dX0_trade_53 : decode cX0_trade 53 = .ok (.iload_n 2, 1) := by decide +kernel
theorem dX0_trade_54 : decode cX0_trade 54 = .ok (.iload 4, 2) := by decide +kernel
theorem dX0_trade_56 : decode cX0_trade 56 = .ok (.invokevirtual 54, 3) := by decide +kernel
theorem dX0_trade_59 : decode cX0_trade 59 = .ok (.ineg, 1) := by decide +kernel
theorem dX0_trade_60 : decode cX0_trade 60 = .ok (.invokevirtual 22, 3) := by decide +kernel
theorem dX0_trade_63 : decode cX0_trade 63 = .ok (.iinc 3 1, 3) := by decide +kernel
theorem dX0_trade_66 : decode cX0_trade 66 = .ok (.iload 4, 2) := by decide +kernel
theorem dX0_trade_68 : decode cX0_trade 68 = .ok (.iconst 1, 1) := by decide +kernel
theorem dX0_trade_69 : decode cX0_trade 69 = .ok (.iadd, 1) := by decide +kernel
theorem dX0_trade_70 : decode cX0_trade 70 = .ok (.istore 5, 2) := by decide +kernel
theorem dX0_trade_72 : decode cX0_trade 72 = .ok (.iload 5, 2) := by decide +kernel
theorem dX0_trade_74 : decode cX0_trade 74 = .ok (.aload_n 0, 1) := by decide +kernel
theorem dX0_trade_75 : decode cX0_trade 75 = .ok (.getfield 26, 3) := by decide +kernel
theorem dX0_trade_78 : decode cX0_trade 78 = .ok (.if_icmp .ge 34, 3) := by decide +kernel
theorem dX0_trade_81 : decode cX0_trade 81 = .ok (.iload 5, 2) := by decide +kernel
theorem dX0_trade_83 : decode cX0_trade 83 = .ok (.iload_n 1, 1) := by decide +kernel
theorem dX0_trade_84 : decode cX0_trade 84 = .ok (.if_icmp .eq 22, 3) := by decide +kernel
theorem dX0_trade_87 : decode cX0_trade 87 = .ok (.iload 5, 2) := by decide +kernel
theorem dX0_trade_89 : decode cX0_trade 89 = .ok (.iload_n 2, 1) := by decide +kernel
theorem dX0_trade_90 : decode cX0_trade 90 = .ok (.if_icmp .eq 16, 3) := by decide +kernel
theorem dX0_trade_93 : decode cX0_trade 93 = .ok (.iload_n 3, 1) := by decide +kernel
theorem dX0_trade_94 : decode cX0_trade 94 = .ok (.aload_n 0, 1) := by decide +kernel
theorem dX0_trade_95 : decode cX0_trade 95 = .ok (.iload_n 1, 1) := by decide +kernel
theorem dX0_trade_96 : decode cX0_trade 96 = .ok (.iload_n 2, 1) := by decide +kernel
theorem dX0_trade_97 : decode cX0_trade 97 = .ok (.iload 4, 2) := by decide +kernel
theorem dX0_trade_99 : decode cX0_trade 99 = .ok (.iload 5, 2) := by decide +kernel
theorem dX0_trade_101 : decode cX0_trade 101 = .ok (.invokevirtual 62, 3) := by decide +kernel
theorem dX0_trade_104 : decode cX0_trade 104 = .ok (.iadd, 1) := by decide +kernel
theorem dX0_trade_105 : decode cX0_trade 105 = .ok (.istore_n 3, 1) := by decide +kernel
theorem dX0_trade_106 : decode cX0_trade 106 = .ok (.iinc 5 1, 3) := by decide +kernel
theorem dX0_trade_109 : decode cX0_trade 109 = .ok (.goto (-37), 3) := by decide +kernel
theorem dX0_trade_112 : decode cX0_trade 112 = .ok (.iinc 4 1, 3) := by decide +kernel
theorem dX0_trade_115 : decode cX0_trade 115 = .ok (.goto (-104), 3) := by decide +kernel
theorem dX0_trade_118 : decode cX0_trade 118 = .ok (.iload_n 3, 1) := by decide +kernel
theorem dX0_trade_119 : decode cX0_trade 119 = .ok (.ireturn, 1) := by decide +kernel
theorem dX0_tradeSigns_0 : decode cX0_tradeSigns 0 = .ok (.aload_n 0, 1) := by decide +kernel
theorem dX0_tradeSigns_1 : decode cX0_tradeSigns 1 = .ok (.iload_n 1, 1) := by decide +kernel
theorem dX0_tradeSigns_2 : decode cX0_tradeSigns 2 = .ok (.iload_n 3, 1) := by decide +kernel
theorem dX0_tradeSigns_3 : decode cX0_tradeSigns 3 = .ok (.iload 4, 2) := by decide +kernel
theorem dX0_tradeSigns_5 : decode cX0_tradeSigns 5 = .ok (.invokevirtual 54, 3) := by decide +kernel
theorem dX0_tradeSigns_8 : decode cX0_tradeSigns 8 = .ok (.istore 5, 2) := by decide +kernel
theorem dX0_tradeSigns_10 : decode cX0_tradeSigns 10 = .ok (.aload_n 0, 1) := by decide +kernel
theorem dX0_tradeSigns_11 : decode cX0_tradeSigns 11 = .ok (.iload_n 2, 1) := by decide +kernel
theorem dX0_tradeSigns_12 : decode cX0_tradeSigns 12 = .ok (.iload_n 3, 1) := by decide +kernel
theorem dX0_tradeSigns_13 : decode cX0_tradeSigns 13 = .ok (.iload 4, 2) := by decide +kernel
theorem dX0_tradeSigns_15 : decode cX0_tradeSigns 15 = .ok (.invokevirtual 54, 3) := by decide +kernel
theorem dX0_tradeSigns_18 : decode cX0_tradeSigns 18 = .ok (.istore 6, 2) := by decide +kernel
theorem dX0_tradeSigns_20 : decode cX0_tradeSigns 20 = .ok (.aload_n 0, 1) := by decide +kernel
theorem dX0_tradeSigns_21 : decode cX0_tradeSigns 21 = .ok (.iload_n 1, 1) := by decide +kernel
theorem dX0_tradeSigns_22 : decode cX0_tradeSigns 22 = .ok (.iload_n 3, 1) := by decide +kernel
theorem dX0_tradeSigns_23 : decode cX0_tradeSigns 23 = .ok (.iload 4, 2) := by decide +kernel
theorem dX0_tradeSigns_25 : decode cX0_tradeSigns 25 = .ok (.iload 6, 2) := by decide +kernel
theorem dX0_tradeSigns_27 : decode cX0_tradeSigns 27 = .ok (.invokevirtual 22, 3) := by decide +kernel
theorem dX0_tradeSigns_30 : decode cX0_tradeSigns 30 = .ok (.aload_n 0, 1) := by decide +kernel
theorem dX0_tradeSigns_31 : decode cX0_tradeSigns 31 = .ok (.iload_n 2, 1) := by decide +kernel
theorem dX0_tradeSigns_32 : decode cX0_tradeSigns 32 = .ok (.iload_n 3, 1) := by decide +kernel
theorem dX0_tradeSigns_33 : decode cX0_tradeSigns 33 = .ok (.iload 4, 2) := by decide +kernel
theorem dX0_tradeSigns_35 : decode cX0_tradeSigns 35 = .ok (.iload 5, 2) := by decide +kernel
theorem dX0_tradeSigns_37 : decode cX0_tradeSigns 37 = .ok (.invokevirtual 22, 3) := by decide +kernel
theorem dX0_tradeSigns_40 : decode cX0_tradeSigns 40 = .ok (.iload 5, 2) := by decide +kernel
theorem dX0_tradeSigns_42 : decode cX0_tradeSigns 42 = .ok (.iload 6, 2) := by decide +kernel
theorem dX0_tradeSigns_44 : decode cX0_tradeSigns 44 = .ok (.if_icmp .ne 7, 3) := by decide +kernel
theorem dX0_tradeSigns_47 : decode cX0_tradeSigns 47 = .ok (.iconst 0, 1) := by decide +kernel
theorem dX0_tradeSigns_48 : decode cX0_tradeSigns 48 = .ok (.goto 4, 3) := by decide +kernel
theorem dX0_tradeSigns_51 : decode cX0_tradeSigns 51 = .ok (.iconst 2, 1) := by decide +kernel
theorem dX0_tradeSigns_52 : decode cX0_tradeSigns 52 = .ok (.ireturn, 1) := by decide +kernel
theorem dX0_tradePoints_0 : decode cX0_tradePoints 0 = .ok (.aload_n 0, 1) := by decide +kernel
theorem dX0_tradePoints_1 : decode cX0_tradePoints 1 = .ok (.iload_n 1, 1) := by decide +kernel
theorem dX0_tradePoints_2 : decode cX0_tradePoints 2 = .ok (.iconst 0, 1) := by decide +kernel
theorem dX0_tradePoints_3 : decode cX0_tradePoints 3 = .ok (.invokevirtual 46, 3) := by decide +kernel
theorem dX0_tradePoints_6 : decode cX0_tradePoints 6 = .ok (.istore_n 3, 1) := by decide +kernel
theorem dX0_tradePoints_7 : decode cX0_tradePoints 7 = .ok (.aload_n 0, 1) := by decide +kernel
theorem dX0_tradePoints_8 : decode cX0_tradePoints 8 = .ok (.iload_n 1, 1) := by decide +kernel
theorem dX0_tradePoints_9 : decode cX0_tradePoints 9 = .ok (.iconst 1, 1) := by decide +kernel
theorem dX0_tradePoints_10 : decode cX0_tradePoints 10 = .ok (.invokevirtual 46, 3) := by decide +kernel
theorem dX0_tradePoints_13 : decode cX0_tradePoints 13 = .ok (.istore 4, 2) := by decide +kernel
theorem dX0_tradePoints_15 : decode cX0_tradePoints 15 = .ok (.aload_n 0, 1) := by decide +kernel
theorem dX0_tradePoints_16 : decode cX0_tradePoints 16 = .ok (.iload_n 1, 1) := by decide +kernel
theorem dX0_tradePoints_17 : decode cX0_tradePoints 17 = .ok (.iconst 2, 1) := by decide +kernel
theorem dX0_tradePoints_18 : decode cX0_tradePoints 18 = .ok (.invokevirtual 46, 3) := by decide +kernel
theorem dX0_tradePoints_21 : decode cX0_tradePoints 21 = .ok (.istore 5, 2) := by decide +kernel
theorem dX0_tradePoints_23 : decode cX0_tradePoints 23 = .ok (.aload_n 0, 1) := by decide +kernel
theorem dX0_tradePoints_24 : decode cX0_tradePoints 24 = .ok (.iload_n 1, 1) := by decide +kernel
theorem dX0_tradePoints_25 : decode cX0_tradePoints 25 = .ok (.aload_n 0, 1) := by decide +kernel
theorem dX0_tradePoints_26 : decode cX0_tradePoints 26 = .ok (.iload_n 2, 1) := by decide +kernel
theorem dX0_tradePoints_27 : decode cX0_tradePoints 27 = .ok (.iconst 0, 1) := by decide +kernel
theorem dX0_tradePoints_28 : decode cX0_tradePoints 28 = .ok (.invokevirtual 46, 3) := by decide +kernel
theorem dX0_tradePoints_31 : decode cX0_tradePoints 31 = .ok (.aload_n 0, 1) := by decide +kernel
theorem dX0_tradePoints_32 : decode cX0_tradePoints 32 = .ok (.iload_n 2, 1) := by decide +kernel
theorem dX0_tradePoints_33 : decode cX0_tradePoints 33 = .ok (.iconst 1, 1) := by decide +kernel
theorem dX0_tradePoints_34 : decode cX0_tradePoints 34 = .ok (.invokevirtual 46, 3) := by decide +kernel
theorem dX0_tradePoints_37 : decode cX0_tradePoints 37 = .ok (.aload_n 0, 1) := by decide +kernel
theorem dX0_tradePoints_38 : decode cX0_tradePoints 38 = .ok (.iload_n 2, 1) := by decide +kernel
theorem dX0_tradePoints_39 : decode cX0_tradePoints 39 = .ok (.iconst 2, 1) := by decide +kernel
theorem dX0_tradePoints_40 : decode cX0_tradePoints 40 = .ok (.invokevirtual 46, 3) := by decide +kernel
theorem dX0_tradePoints_43 : decode cX0_tradePoints 43 = .ok (.invokevirtual 30, 3) := by decide +kernel
theorem dX0_tradePoints_46 : decode cX0_tradePoints 46 = .ok (.aload_n 0, 1) := by decide +kernel
theorem dX0_tradePoints_47 : decode cX0_tradePoints 47 = .ok (.iload_n 2, 1) := by decide +kernel
theorem dX0_tradePoints_48 : decode cX0_tradePoints 48 = .ok (.iload_n 3, 1) := by decide +kernel
theorem dX0_tradePoints_49 : decode cX0_tradePoints 49 = .ok (.iload 4, 2) := by decide +kernel
theorem dX0_tradePoints_51 : decode cX0_tradePoints 51 = .ok (.iload 5, 2) := by decide +kernel
theorem dX0_tradePoints_53 : decode cX0_tradePoints 53 = .ok (.invokevirtual 30, 3) := by decide +kernel
theorem dX0_tradePoints_56 : decode cX0_tradePoints 56 = .ok (.return_, 1) := by decide +kernel
theorem dX0_append_0 : decode cX0_append 0 = .ok (.aload_n 0, 1) := by decide +kernel
theorem dX0_append_1 : decode cX0_append 1 = .ok (.getfield 26, 3) := by decide +kernel
theorem dX0_append_4 : decode cX0_append 4 = .ok (.istore 4, 2) := by decide +kernel
theorem dX0_append_6 : decode cX0_append 6 = .ok (.aload_n 0, 1) := by decide +kernel
theorem dX0_append_7 : decode cX0_append 7 = .ok (.dup, 1) := by decide +kernel
theorem dX0_append_8 : decode cX0_append 8 = .ok (.getfield 26, 3) := by decide +kernel
theorem dX0_append_11 : decode cX0_append 11 = .ok (.iconst 1, 1) := by decide +kernel
theorem dX0_append_12 : decode cX0_append 12 = .ok (.iadd, 1) := by decide +kernel
theorem dX0_append_13 : decode cX0_append 13 = .ok (.putfield 26, 3) := by decide +kernel
theorem dX0_append_16 : decode cX0_append 16 = .ok (.aload_n 0, 1) := by decide +kernel
theorem dX0_append_17 : decode cX0_append 17 = .ok (.iload 4, 2) := by decide +kernel
theorem dX0_append_19 : decode cX0_append 19 = .ok (.iload_n 1, 1) := by decide +kernel
theorem dX0_append_20 : decode cX0_append 20 = .ok (.iload_n 2, 1) := by decide +kernel
theorem dX0_append_21 : decode cX0_append 21 = .ok (.iload_n 3, 1) := by decide +kernel
theorem dX0_append_22 : decode cX0_append 22 = .ok (.invokevirtual 30, 3) := by decide +kernel
theorem dX0_append_25 : decode cX0_append 25 = .ok (.iconst 0, 1) := by decide +kernel
theorem dX0_append_26 : decode cX0_append 26 = .ok (.istore 5, 2) := by decide +kernel
theorem dX0_append_28 : decode cX0_append 28 = .ok (.iload 5, 2) := by decide +kernel
theorem dX0_append_30 : decode cX0_append 30 = .ok (.iload 4, 2) := by decide +kernel
theorem dX0_append_32 : decode cX0_append 32 = .ok (.if_icmp .ge 48, 3) := by decide +kernel
theorem dX0_append_35 : decode cX0_append 35 = .ok (.iload 5, 2) := by decide +kernel
theorem dX0_append_37 : decode cX0_append 37 = .ok (.iconst 1, 1) := by decide +kernel
theorem dX0_append_38 : decode cX0_append 38 = .ok (.iadd, 1) := by decide +kernel
theorem dX0_append_39 : decode cX0_append 39 = .ok (.istore 6, 2) := by decide +kernel
theorem dX0_append_41 : decode cX0_append 41 = .ok (.iload 6, 2) := by decide +kernel
theorem dX0_append_43 : decode cX0_append 43 = .ok (.iload 4, 2) := by decide +kernel
theorem dX0_append_45 : decode cX0_append 45 = .ok (.if_icmp .ge 29, 3) := by decide +kernel
theorem dX0_append_48 : decode cX0_append 48 = .ok (.aload_n 0, 1) := by decide +kernel
theorem dX0_append_49 : decode cX0_append 49 = .ok (.iload 5, 2) := by decide +kernel
theorem dX0_append_51 : decode cX0_append 51 = .ok (.iload 6, 2) := by decide +kernel
theorem dX0_append_53 : decode cX0_append 53 = .ok (.iload 4, 2) := by decide +kernel
theorem dX0_append_55 : decode cX0_append 55 = .ok (.aload_n 0, 1) := by decide +kernel
theorem dX0_append_56 : decode cX0_append 56 = .ok (.iload 5, 2) := by decide +kernel
theorem dX0_append_58 : decode cX0_append 58 = .ok (.iload 6, 2) := by decide +kernel
theorem dX0_append_60 : decode cX0_append 60 = .ok (.iload 4, 2) := by decide +kernel
theorem dX0_append_62 : decode cX0_append 62 = .ok (.invokevirtual 65, 3) := by decide +kernel
theorem dX0_append_65 : decode cX0_append 65 = .ok (.invokevirtual 22, 3) := by decide +kernel
theorem dX0_append_68 : decode cX0_append 68 = .ok (.iinc 6 1, 3) := by decide +kernel
theorem dX0_append_71 : decode cX0_append 71 = .ok (.goto (-30), 3) := by decide +kernel
theorem dX0_append_74 : decode cX0_append 74 = .ok (.iinc 5 1, 3) := by decide +kernel
theorem dX0_append_77 : decode cX0_append 77 = .ok (.goto (-49), 3) := by decide +kernel
theorem dX0_append_80 : decode cX0_append 80 = .ok (.return_, 1) := by decide +kernel
theorem dX0_widen_0 : decode cX0_widen 0 = .ok (.aload_n 0, 1) := by decide +kernel
theorem dX0_widen_1 : decode cX0_widen 1 = .ok (.getfield 26, 3) := by decide +kernel
theorem dX0_widen_4 : decode cX0_widen 4 = .ok (.bipush 6, 2) := by decide +kernel
theorem dX0_widen_6 : decode cX0_widen 6 = .ok (.if_icmp .ge 13, 3) := by decide +kernel
theorem dX0_widen_9 : decode cX0_widen 9 = .ok (.aload_n 0, 1) := by decide +kernel
theorem dX0_widen_10 : decode cX0_widen 10 = .ok (.dup, 1) := by decide +kernel
theorem dX0_widen_11 : decode cX0_widen 11 = .ok (.getfield 26, 3) := by decide +kernel
theorem dX0_widen_14 : decode cX0_widen 14 = .ok (.iconst 1, 1) := by decide +kernel
theorem dX0_widen_15 : decode cX0_widen 15 = .ok (.iadd, 1) := by decide +kernel
theorem dX0_widen_16 : decode cX0_widen 16 = .ok (.putfield 26, 3) := by decide +kernel
theorem dX0_widen_19 : decode cX0_widen 19 = .ok (.return_, 1) := by decide +kernel
theorem dX0_remove_0 : decode cX0_remove 0 = .ok (.aload_n 0, 1) := by decide +kernel
theorem dX0_remove_1 : decode cX0_remove 1 = .ok (.dup, 1) := by decide +kernel
theorem dX0_remove_2 : decode cX0_remove 2 = .ok (.getfield 26, 3) := by decide +kernel
theorem dX0_remove_5 : decode cX0_remove 5 = .ok (.iconst 1, 1) := by decide +kernel
theorem dX0_remove_6 : decode cX0_remove 6 = .ok (.isub, 1) := by decide +kernel
theorem dX0_remove_7 : decode cX0_remove 7 = .ok (.putfield 26, 3) := by decide +kernel
theorem dX0_remove_10 : decode cX0_remove 10 = .ok (.iconst 0, 1) := by decide +kernel
theorem dX0_remove_11 : decode cX0_remove 11 = .ok (.istore_n 2, 1) := by decide +kernel
theorem dX0_remove_12 : decode cX0_remove 12 = .ok (.iload_n 2, 1) := by decide +kernel
theorem dX0_remove_13 : decode cX0_remove 13 = .ok (.aload_n 0, 1) := by decide +kernel
theorem dX0_remove_14 : decode cX0_remove 14 = .ok (.getfield 26, 3) := by decide +kernel
theorem dX0_remove_17 : decode cX0_remove 17 = .ok (.if_icmp .ge 45, 3) := by decide +kernel
theorem dX0_remove_20 : decode cX0_remove 20 = .ok (.iload_n 2, 1) := by decide +kernel
theorem dX0_remove_21 : decode cX0_remove 21 = .ok (.iload_n 1, 1) := by decide +kernel
theorem dX0_remove_22 : decode cX0_remove 22 = .ok (.if_icmp .ge 7, 3) := by decide +kernel
theorem dX0_remove_25 : decode cX0_remove 25 = .ok (.iload_n 2, 1) := by decide +kernel
theorem dX0_remove_26 : decode cX0_remove 26 = .ok (.goto 6, 3) := by decide +kernel
theorem dX0_remove_29 : decode cX0_remove 29 = .ok (.iload_n 2, 1) := by decide +kernel
theorem dX0_remove_30 : decode cX0_remove 30 = .ok (.iconst 1, 1) := by decide +kernel
theorem dX0_remove_31 : decode cX0_remove 31 = .ok (.iadd, 1) := by decide +kernel
theorem dX0_remove_32 : decode cX0_remove 32 = .ok (.istore_n 3, 1) := by decide +kernel
theorem dX0_remove_33 : decode cX0_remove 33 = .ok (.aload_n 0, 1) := by decide +kernel
theorem dX0_remove_34 : decode cX0_remove 34 = .ok (.iload_n 2, 1) := by decide +kernel
theorem dX0_remove_35 : decode cX0_remove 35 = .ok (.aload_n 0, 1) := by decide +kernel
theorem dX0_remove_36 : decode cX0_remove 36 = .ok (.iload_n 3, 1) := by decide +kernel
theorem dX0_remove_37 : decode cX0_remove 37 = .ok (.iconst 0, 1) := by decide +kernel
theorem dX0_remove_38 : decode cX0_remove 38 = .ok (.invokevirtual 46, 3) := by decide +kernel
theorem dX0_remove_41 : decode cX0_remove 41 = .ok (.aload_n 0, 1) := by decide +kernel
theorem dX0_remove_42 : decode cX0_remove 42 = .ok (.iload_n 3, 1) := by decide +kernel
theorem dX0_remove_43 : decode cX0_remove 43 = .ok (.iconst 1, 1) := by decide +kernel
theorem dX0_remove_44 : decode cX0_remove 44 = .ok (.invokevirtual 46, 3) := by decide +kernel
theorem dX0_remove_47 : decode cX0_remove 47 = .ok (.aload_n 0, 1) := by decide +kernel
theorem dX0_remove_48 : decode cX0_remove 48 = .ok (.iload_n 3, 1) := by decide +kernel
theorem dX0_remove_49 : decode cX0_remove 49 = .ok (.iconst 2, 1) := by decide +kernel
theorem dX0_remove_50 : decode cX0_remove 50 = .ok (.invokevirtual 46, 3) := by decide +kernel
theorem dX0_remove_53 : decode cX0_remove 53 = .ok (.invokevirtual 30, 3) := by decide +kernel
theorem dX0_remove_56 : decode cX0_remove 56 = .ok (.iinc 2 1, 3) := by decide +kernel
theorem dX0_remove_59 : decode cX0_remove 59 = .ok (.goto (-47), 3) := by decide +kernel
theorem dX0_remove_62 : decode cX0_remove 62 = .ok (.iconst 0, 1) := by decide +kernel
theorem dX0_remove_63 : decode cX0_remove 63 = .ok (.istore_n 2, 1) := by decide +kernel
theorem dX0_remove_64 : decode cX0_remove 64 = .ok (.iload_n 2, 1) := by decide +kernel
theorem dX0_remove_65 : decode cX0_remove 65 = .ok (.aload_n 0, 1) := by decide +kernel
theorem dX0_remove_66 : decode cX0_remove 66 = .ok (.getfield 26, 3) := by decide +kernel
theorem dX0_remove_69 : decode cX0_remove 69 = .ok (.if_icmp .ge 98, 3) := by decide +kernel
theorem dX0_remove_72 : decode cX0_remove 72 = .ok (.iload_n 2, 1) := by decide +kernel
theorem dX0_remove_73 : decode cX0_remove 73 = .ok (.iconst 1, 1) := by decide +kernel
theorem dX0_remove_74 : decode cX0_remove 74 = .ok (.iadd, 1) := by decide +kernel
theorem dX0_remove_75 : decode cX0_remove 75 = .ok (.istore_n 3, 1) := by decide +kernel
theorem dX0_remove_76 : decode cX0_remove 76 = .ok (.iload_n 3, 1) := by decide +kernel
theorem dX0_remove_77 : decode cX0_remove 77 = .ok (.aload_n 0, 1) := by decide +kernel
theorem dX0_remove_78 : decode cX0_remove 78 = .ok (.getfield 26, 3) := by decide +kernel
theorem dX0_remove_81 : decode cX0_remove 81 = .ok (.if_icmp .ge 80, 3) := by decide +kernel
theorem dX0_remove_84 : decode cX0_remove 84 = .ok (.iload_n 3, 1) := by decide +kernel
theorem dX0_remove_85 : decode cX0_remove 85 = .ok (.iconst 1, 1) := by decide +kernel
theorem dX0_remove_86 : decode cX0_remove 86 = .ok (.iadd, 1) := by decide +kernel
theorem dX0_remove_87 : decode cX0_remove 87 = .ok (.istore 4, 2) := by decide +kernel
theorem dX0_remove_89 : decode cX0_remove 89 = .ok (.iload 4, 2) := by decide +kernel
theorem dX0_remove_91 : decode cX0_remove 91 = .ok (.aload_n 0, 1) := by decide +kernel
theorem dX0_remove_92 : decode cX0_remove 92 = .ok (.getfield 26, 3) := by decide +kernel
theorem dX0_remove_95 : decode cX0_remove 95 = .ok (.if_icmp .ge 60, 3) := by decide +kernel
theorem dX0_remove_98 : decode cX0_remove 98 = .ok (.aload_n 0, 1) := by decide +kernel
theorem dX0_remove_99 : decode cX0_remove 99 = .ok (.iload_n 2, 1) := by decide +kernel
theorem dX0_remove_100 : decode cX0_remove 100 = .ok (.iload_n 3, 1) := by decide +kernel
theorem dX0_remove_101 : decode cX0_remove 101 = .ok (.iload 4, 2) := by decide +kernel
theorem dX0_remove_103 : decode cX0_remove 103 = .ok (.aload_n 0, 1) := by decide +kernel
theorem dX0_remove_104 : decode cX0_remove 104 = .ok (.iload_n 2, 1) := by decide +kernel
theorem dX0_remove_105 : decode cX0_remove 105 = .ok (.iload_n 1, 1) := by decide +kernel
theorem dX0_remove_106 : decode cX0_remove 106 = .ok (.if_icmp .ge 7, 3) := by decide +kernel
theorem dX0_remove_109 : decode cX0_remove 109 = .ok (.iload_n 2, 1) := by decide +kernel
theorem dX0_remove_110 : decode cX0_remove 110 = .ok (.goto 6, 3) := by decide +kernel
theorem dX0_remove_113 : decode cX0_remove 113 = .ok (.iload_n 2, 1) := by decide +kernel
theorem dX0_remove_114 : decode cX0_remove 114 = .ok (.iconst 1, 1) := by decide +kernel
theorem dX0_remove_115 : decode cX0_remove 115 = .ok (.iadd, 1) := by decide +kernel
theorem dX0_remove_116 : decode cX0_remove 116 = .ok (.iload_n 3, 1) := by decide +kernel
theorem dX0_remove_117 : decode cX0_remove 117 = .ok (.iload_n 1, 1) := by decide +kernel
theorem dX0_remove_118 : decode cX0_remove 118 = .ok (.if_icmp .ge 7, 3) := by decide +kernel
theorem dX0_remove_121 : decode cX0_remove 121 = .ok (.iload_n 3, 1) := by decide +kernel
theorem dX0_remove_122 : decode cX0_remove 122 = .ok (.goto 6, 3) := by decide +kernel
theorem dX0_remove_125 : decode cX0_remove 125 = .ok (.iload_n 3, 1) := by decide +kernel
theorem dX0_remove_126 : decode cX0_remove 126 = .ok (.iconst 1, 1) := by decide +kernel
theorem dX0_remove_127 : decode cX0_remove 127 = .ok (.iadd, 1) := by decide +kernel
theorem dX0_remove_128 : decode cX0_remove 128 = .ok (.iload 4, 2) := by decide +kernel
theorem dX0_remove_130 : decode cX0_remove 130 = .ok (.iload_n 1, 1) := by decide +kernel
theorem dX0_remove_131 : decode cX0_remove 131 = .ok (.if_icmp .ge 8, 3) := by decide +kernel
theorem dX0_remove_134 : decode cX0_remove 134 = .ok (.iload 4, 2) := by decide +kernel
theorem dX0_remove_136 : decode cX0_remove 136 = .ok (.goto 7, 3) := by decide +kernel
theorem dX0_remove_139 : decode cX0_remove 139 = .ok (.iload 4, 2) := by decide +kernel
theorem dX0_remove_141 : decode cX0_remove 141 = .ok (.iconst 1, 1) := by decide +kernel
theorem dX0_remove_142 : decode cX0_remove 142 = .ok (.iadd, 1) := by decide +kernel
theorem dX0_remove_143 : decode cX0_remove 143 = .ok (.invokevirtual 54, 3) := by decide +kernel
theorem dX0_remove_146 : decode cX0_remove 146 = .ok (.invokevirtual 22, 3) := by decide +kernel
theorem dX0_remove_149 : decode cX0_remove 149 = .ok (.iinc 4 1, 3) := by decide +kernel
theorem dX0_remove_152 : decode cX0_remove 152 = .ok (.goto (-63), 3) := by decide +kernel
theorem dX0_remove_155 : decode cX0_remove 155 = .ok (.iinc 3 1, 3) := by decide +kernel
theorem dX0_remove_158 : decode cX0_remove 158 = .ok (.goto (-82), 3) := by decide +kernel
theorem dX0_remove_161 : decode cX0_remove 161 = .ok (.iinc 2 1, 3) := by decide +kernel
theorem dX0_remove_164 : decode cX0_remove 164 = .ok (.goto (-100), 3) := by decide +kernel
theorem dX0_remove_167 : decode cX0_remove 167 = .ok (.return_, 1) := by decide +kernel
theorem dX0_takeTurns_0 : decode cX0_takeTurns 0 = .ok (.iconst 0, 1) := by decide +kernel
theorem dX0_takeTurns_1 : decode cX0_takeTurns 1 = .ok (.istore_n 1, 1) := by decide +kernel
theorem dX0_takeTurns_2 : decode cX0_takeTurns 2 = .ok (.iconst 0, 1) := by decide +kernel
theorem dX0_takeTurns_3 : decode cX0_takeTurns 3 = .ok (.istore_n 2, 1) := by decide +kernel
theorem dX0_takeTurns_4 : decode cX0_takeTurns 4 = .ok (.iload_n 2, 1) := by decide +kernel
theorem dX0_takeTurns_5 : decode cX0_takeTurns 5 = .ok (.aload_n 0, 1) := by decide +kernel
theorem dX0_takeTurns_6 : decode cX0_takeTurns 6 = .ok (.getfield 26, 3) := by decide +kernel
theorem dX0_takeTurns_9 : decode cX0_takeTurns 9 = .ok (.if_icmp .ge 88, 3) := by decide +kernel
theorem dX0_takeTurns_12 : decode cX0_takeTurns 12 = .ok (.iload_n 2, 1) := by decide +kernel
theorem dX0_takeTurns_13 : decode cX0_takeTurns 13 = .ok (.iconst 1, 1) := by decide +kernel
theorem dX0_takeTurns_14 : decode cX0_takeTurns 14 = .ok (.iadd, 1) := by decide +kernel
theorem dX0_takeTurns_15 : decode cX0_takeTurns 15 = .ok (.istore_n 3, 1) := by decide +kernel
theorem dX0_takeTurns_16 : decode cX0_takeTurns 16 = .ok (.iload_n 3, 1) := by decide +kernel
theorem dX0_takeTurns_17 : decode cX0_takeTurns 17 = .ok (.aload_n 0, 1) := by decide +kernel
theorem dX0_takeTurns_18 : decode cX0_takeTurns 18 = .ok (.getfield 26, 3) := by decide +kernel
theorem dX0_takeTurns_21 : decode cX0_takeTurns 21 = .ok (.if_icmp .ge 70, 3) := by decide +kernel
theorem dX0_takeTurns_24 : decode cX0_takeTurns 24 = .ok (.iload_n 3, 1) := by decide +kernel
theorem dX0_takeTurns_25 : decode cX0_takeTurns 25 = .ok (.iconst 1, 1) := by decide +kernel
theorem dX0_takeTurns_26 : decode cX0_takeTurns 26 = .ok (.iadd, 1) := by decide +kernel
theorem dX0_takeTurns_27 : decode cX0_takeTurns 27 = .ok (.istore 4, 2) := by decide +kernel
theorem dX0_takeTurns_29 : decode cX0_takeTurns 29 = .ok (.iload 4, 2) := by decide +kernel
theorem dX0_takeTurns_31 : decode cX0_takeTurns 31 = .ok (.aload_n 0, 1) := by decide +kernel
theorem dX0_takeTurns_32 : decode cX0_takeTurns 32 = .ok (.getfield 26, 3) := by decide +kernel
theorem dX0_takeTurns_35 : decode cX0_takeTurns 35 = .ok (.if_icmp .ge 50, 3) := by decide +kernel
theorem dX0_takeTurns_38 : decode cX0_takeTurns 38 = .ok (.aload_n 0, 1) := by decide +kernel
theorem dX0_takeTurns_39 : decode cX0_takeTurns 39 = .ok (.iload_n 2, 1) := by decide +kernel
theorem dX0_takeTurns_40 : decode cX0_takeTurns 40 = .ok (.iload_n 3, 1) := by decide +kernel
theorem dX0_takeTurns_41 : decode cX0_takeTurns 41 = .ok (.iload 4, 2) := by decide +kernel
theorem dX0_takeTurns_43 : decode cX0_takeTurns 43 = .ok (.invokevirtual 65, 3) := by decide +kernel
theorem dX0_takeTurns_46 : decode cX0_takeTurns 46 = .ok (.istore 5, 2) := by decide +kernel
theorem dX0_takeTurns_48 : decode cX0_takeTurns 48 = .ok (.iload_n 1, 1) := by decide +kernel
theorem dX0_takeTurns_49 : decode cX0_takeTurns 49 = .ok (.iload 5, 2) := by decide +kernel
theorem dX0_takeTurns_51 : decode cX0_takeTurns 51 = .ok (.aload_n 0, 1) := by decide +kernel
theorem dX0_takeTurns_52 : decode cX0_takeTurns 52 = .ok (.iload_n 2, 1) := by decide +kernel
theorem dX0_takeTurns_53 : decode cX0_takeTurns 53 = .ok (.iload_n 3, 1) := by decide +kernel
theorem dX0_takeTurns_54 : decode cX0_takeTurns 54 = .ok (.iload 4, 2) := by decide +kernel
theorem dX0_takeTurns_56 : decode cX0_takeTurns 56 = .ok (.invokevirtual 54, 3) := by decide +kernel
theorem dX0_takeTurns_59 : decode cX0_takeTurns 59 = .ok (.if_icmp .ne 7, 3) := by decide +kernel
theorem dX0_takeTurns_62 : decode cX0_takeTurns 62 = .ok (.iconst 0, 1) := by decide +kernel
theorem dX0_takeTurns_63 : decode cX0_takeTurns 63 = .ok (.goto 4, 3) := by decide +kernel
theorem dX0_takeTurns_66 : decode cX0_takeTurns 66 = .ok (.iconst 1, 1) := by decide +kernel
theorem dX0_takeTurns_67 : decode cX0_takeTurns 67 = .ok (.iadd, 1) := by decide +kernel
theorem dX0_takeTurns_68 : decode cX0_takeTurns 68 = .ok (.istore_n 1, 1) := by decide +kernel
theorem dX0_takeTurns_69 : decode cX0_takeTurns 69 = .ok (.aload_n 0, 1) := by decide +kernel
theorem dX0_takeTurns_70 : decode cX0_takeTurns 70 = .ok (.iload_n 2, 1) := by decide +kernel
theorem dX0_takeTurns_71 : decode cX0_takeTurns 71 = .ok (.iload_n 3, 1) := by decide +kernel
theorem dX0_takeTurns_72 : decode cX0_takeTurns 72 = .ok (.iload 4, 2) := by decide +kernel
theorem dX0_takeTurns_74 : decode cX0_takeTurns 74 = .ok (.iload 5, 2) := by decide +kernel
theorem dX0_takeTurns_76 : decode cX0_takeTurns 76 = .ok (.invokevirtual 22, 3) := by decide +kernel
theorem dX0_takeTurns_79 : decode cX0_takeTurns 79 = .ok (.iinc 4 1, 3) := by decide +kernel
theorem dX0_takeTurns_82 : decode cX0_takeTurns 82 = .ok (.goto (-53), 3) := by decide +kernel
theorem dX0_takeTurns_85 : decode cX0_takeTurns 85 = .ok (.iinc 3 1, 3) := by decide +kernel
theorem dX0_takeTurns_88 : decode cX0_takeTurns 88 = .ok (.goto (-72), 3) := by decide +kernel
theorem dX0_takeTurns_91 : decode cX0_takeTurns 91 = .ok (.iinc 2 1, 3) := by decide +kernel
theorem dX0_takeTurns_94 : decode cX0_takeTurns 94 = .ok (.goto (-90), 3) := by decide +kernel
theorem dX0_takeTurns_97 : decode cX0_takeTurns 97 = .ok (.iload_n 1, 1) := by decide +kernel
theorem dX0_takeTurns_98 : decode cX0_takeTurns 98 = .ok (.ireturn, 1) := by decide +kernel
theorem dX0_isDrawn_0 : decode cX0_isDrawn 0 = .ok (.iconst 0, 1) := by decide +kernel
theorem dX0_isDrawn_1 : decode cX0_isDrawn 1 = .ok (.istore_n 1, 1) := by decide +kernel
theorem dX0_isDrawn_2 : decode cX0_isDrawn 2 = .ok (.iload_n 1, 1) := by decide +kernel
theorem dX0_isDrawn_3 : decode cX0_isDrawn 3 = .ok (.aload_n 0, 1) := by decide +kernel
theorem dX0_isDrawn_4 : decode cX0_isDrawn 4 = .ok (.getfield 26, 3) := by decide +kernel
theorem dX0_isDrawn_7 : decode cX0_isDrawn 7 = .ok (.if_icmp .ge 64, 3) := by decide +kernel
theorem dX0_isDrawn_10 : decode cX0_isDrawn 10 = .ok (.iload_n 1, 1) := by decide +kernel
theorem dX0_isDrawn_11 : decode cX0_isDrawn 11 = .ok (.iconst 1, 1) := by decide +kernel
theorem dX0_isDrawn_12 : decode cX0_isDrawn 12 = .ok (.iadd, 1) := by decide +kernel
theorem dX0_isDrawn_13 : decode cX0_isDrawn 13 = .ok (.istore_n 2, 1) := by decide +kernel
theorem dX0_isDrawn_14 : decode cX0_isDrawn 14 = .ok (.iload_n 2, 1) := by decide +kernel
theorem dX0_isDrawn_15 : decode cX0_isDrawn 15 = .ok (.aload_n 0, 1) := by decide +kernel
theorem dX0_isDrawn_16 : decode cX0_isDrawn 16 = .ok (.getfield 26, 3) := by decide +kernel
theorem dX0_isDrawn_19 : decode cX0_isDrawn 19 = .ok (.if_icmp .ge 46, 3) := by decide +kernel
theorem dX0_isDrawn_22 : decode cX0_isDrawn 22 = .ok (.iload_n 2, 1) := by decide +kernel
theorem dX0_isDrawn_23 : decode cX0_isDrawn 23 = .ok (.iconst 1, 1) := by decide +kernel
theorem dX0_isDrawn_24 : decode cX0_isDrawn 24 = .ok (.iadd, 1) := by decide +kernel
theorem dX0_isDrawn_25 : decode cX0_isDrawn 25 = .ok (.istore_n 3, 1) := by decide +kernel
theorem dX0_isDrawn_26 : decode cX0_isDrawn 26 = .ok (.iload_n 3, 1) := by decide +kernel
theorem dX0_isDrawn_27 : decode cX0_isDrawn 27 = .ok (.aload_n 0, 1) := by decide +kernel
theorem dX0_isDrawn_28 : decode cX0_isDrawn 28 = .ok (.getfield 26, 3) := by decide +kernel
theorem dX0_isDrawn_31 : decode cX0_isDrawn 31 = .ok (.if_icmp .ge 28, 3) := by decide +kernel
theorem dX0_isDrawn_34 : decode cX0_isDrawn 34 = .ok (.aload_n 0, 1) := by decide +kernel
theorem dX0_isDrawn_35 : decode cX0_isDrawn 35 = .ok (.iload_n 1, 1) := by decide +kernel
theorem dX0_isDrawn_36 : decode cX0_isDrawn 36 = .ok (.iload_n 2, 1) := by decide +kernel
theorem dX0_isDrawn_37 : decode cX0_isDrawn 37 = .ok (.iload_n 3, 1) := by decide +kernel
theorem dX0_isDrawn_38 : decode cX0_isDrawn 38 = .ok (.invokevirtual 65, 3) := by decide +kernel
theorem dX0_isDrawn_41 : decode cX0_isDrawn 41 = .ok (.aload_n 0, 1) := by decide +kernel
theorem dX0_isDrawn_42 : decode cX0_isDrawn 42 = .ok (.iload_n 1, 1) := by decide +kernel
theorem dX0_isDrawn_43 : decode cX0_isDrawn 43 = .ok (.iload_n 2, 1) := by decide +kernel
theorem dX0_isDrawn_44 : decode cX0_isDrawn 44 = .ok (.iload_n 3, 1) := by decide +kernel
theorem dX0_isDrawn_45 : decode cX0_isDrawn 45 = .ok (.invokevirtual 54, 3) := by decide +kernel
theorem dX0_isDrawn_48 : decode cX0_isDrawn 48 = .ok (.if_icmp .eq 5, 3) := by decide +kernel
theorem dX0_isDrawn_51 : decode cX0_isDrawn 51 = .ok (.iconst 0, 1) := by decide +kernel
theorem dX0_isDrawn_52 : decode cX0_isDrawn 52 = .ok (.ireturn, 1) := by decide +kernel
theorem dX0_isDrawn_53 : decode cX0_isDrawn 53 = .ok (.iinc 3 1, 3) := by decide +kernel
theorem dX0_isDrawn_56 : decode cX0_isDrawn 56 = .ok (.goto (-30), 3) := by decide +kernel
theorem dX0_isDrawn_59 : decode cX0_isDrawn 59 = .ok (.iinc 2 1, 3) := by decide +kernel
theorem dX0_isDrawn_62 : decode cX0_isDrawn 62 = .ok (.goto (-48), 3) := by decide +kernel
theorem dX0_isDrawn_65 : decode cX0_isDrawn 65 = .ok (.iinc 1 1, 3) := by decide +kernel
theorem dX0_isDrawn_68 : decode cX0_isDrawn 68 = .ok (.goto (-66), 3) := by decide +kernel
theorem dX0_isDrawn_71 : decode cX0_isDrawn 71 = .ok (.iconst 1, 1) := by decide +kernel
theorem dX0_isDrawn_72 : decode cX0_isDrawn 72 = .ok (.ireturn, 1) := by decide +kernel
theorem dX0_bases_0 : decode cX0_bases 0 = .ok (.iconst 0, 1) := by decide +kernel
theorem dX0_bases_1 : decode cX0_bases 1 = .ok (.istore_n 1, 1) := by decide +kernel
theorem dX0_bases_2 : decode cX0_bases 2 = .ok (.iconst 0, 1) := by decide +kernel
theorem dX0_bases_3 : decode cX0_bases 3 = .ok (.istore_n 2, 1) := by decide +kernel
theorem dX0_bases_4 : decode cX0_bases 4 = .ok (.iload_n 2, 1) := by decide +kernel
theorem dX0_bases_5 : decode cX0_bases 5 = .ok (.aload_n 0, 1) := by decide +kernel
theorem dX0_bases_6 : decode cX0_bases 6 = .ok (.getfield 26, 3) := by decide +kernel
theorem dX0_bases_9 : decode cX0_bases 9 = .ok (.if_icmp .ge 66, 3) := by decide +kernel
theorem dX0_bases_12 : decode cX0_bases 12 = .ok (.iload_n 2, 1) := by decide +kernel
theorem dX0_bases_13 : decode cX0_bases 13 = .ok (.iconst 1, 1) := by decide +kernel
theorem dX0_bases_14 : decode cX0_bases 14 = .ok (.iadd, 1) := by decide +kernel
theorem dX0_bases_15 : decode cX0_bases 15 = .ok (.istore_n 3, 1) := by decide +kernel
theorem dX0_bases_16 : decode cX0_bases 16 = .ok (.iload_n 3, 1) := by decide +kernel
theorem dX0_bases_17 : decode cX0_bases 17 = .ok (.aload_n 0, 1) := by decide +kernel
theorem dX0_bases_18 : decode cX0_bases 18 = .ok (.getfield 26, 3) := by decide +kernel
theorem dX0_bases_21 : decode cX0_bases 21 = .ok (.if_icmp .ge 48, 3) := by decide +kernel
theorem dX0_bases_24 : decode cX0_bases 24 = .ok (.iload_n 3, 1) := by decide +kernel
theorem dX0_bases_25 : decode cX0_bases 25 = .ok (.iconst 1, 1) := by decide +kernel
theorem dX0_bases_26 : decode cX0_bases 26 = .ok (.iadd, 1) := by decide +kernel
theorem dX0_bases_27 : decode cX0_bases 27 = .ok (.istore 4, 2) := by decide +kernel
theorem dX0_bases_29 : decode cX0_bases 29 = .ok (.iload 4, 2) := by decide +kernel
theorem dX0_bases_31 : decode cX0_bases 31 = .ok (.aload_n 0, 1) := by decide +kernel
theorem dX0_bases_32 : decode cX0_bases 32 = .ok (.getfield 26, 3) := by decide +kernel
theorem dX0_bases_35 : decode cX0_bases 35 = .ok (.if_icmp .ge 28, 3) := by decide +kernel
theorem dX0_bases_38 : decode cX0_bases 38 = .ok (.iload_n 1, 1) := by decide +kernel
theorem dX0_bases_39 : decode cX0_bases 39 = .ok (.aload_n 0, 1) := by decide +kernel
theorem dX0_bases_40 : decode cX0_bases 40 = .ok (.iload_n 2, 1) := by decide +kernel
theorem dX0_bases_41 : decode cX0_bases 41 = .ok (.iload_n 3, 1) := by decide +kernel
theorem dX0_bases_42 : decode cX0_bases 42 = .ok (.iload 4, 2) := by decide +kernel
theorem dX0_bases_44 : decode cX0_bases 44 = .ok (.invokevirtual 54, 3) := by decide +kernel
theorem dX0_bases_47 : decode cX0_bases 47 = .ok (.ifCond .ne 7, 3) := by decide +kernel
theorem dX0_bases_50 : decode cX0_bases 50 = .ok (.iconst 0, 1) := by decide +kernel
theorem dX0_bases_51 : decode cX0_bases 51 = .ok (.goto 4, 3) := by decide +kernel
theorem dX0_bases_54 : decode cX0_bases 54 = .ok (.iconst 1, 1) := by decide +kernel
theorem dX0_bases_55 : decode cX0_bases 55 = .ok (.iadd, 1) := by decide +kernel
theorem dX0_bases_56 : decode cX0_bases 56 = .ok (.istore_n 1, 1) := by decide +kernel
theorem dX0_bases_57 : decode cX0_bases 57 = .ok (.iinc 4 1, 3) := by decide +kernel
theorem dX0_bases_60 : decode cX0_bases 60 = .ok (.goto (-31), 3) := by decide +kernel
theorem dX0_bases_63 : decode cX0_bases 63 = .ok (.iinc 3 1, 3) := by decide +kernel
theorem dX0_bases_66 : decode cX0_bases 66 = .ok (.goto (-50), 3) := by decide +kernel
theorem dX0_bases_69 : decode cX0_bases 69 = .ok (.iinc 2 1, 3) := by decide +kernel
theorem dX0_bases_72 : decode cX0_bases 72 = .ok (.goto (-68), 3) := by decide +kernel
theorem dX0_bases_75 : decode cX0_bases 75 = .ok (.iload_n 1, 1) := by decide +kernel
theorem dX0_bases_76 : decode cX0_bases 76 = .ok (.ireturn, 1) := by decide +kernel
theorem dX1_init_0 : decode cX1_init 0 = .ok (.aload_n 0, 1) := by decide +kernel
theorem dX1_init_1 : decode cX1_init 1 = .ok (.invokespecial 3, 3) := by decide +kernel
theorem dX1_init_4 : decode cX1_init 4 = .ok (.aload_n 0, 1) := by decide +kernel
theorem dX1_init_5 : decode cX1_init 5 = .ok (.bipush 6, 2) := by decide +kernel
theorem dX1_init_7 : decode cX1_init 7 = .ok (.newarray .int, 2) := by decide +kernel
theorem dX1_init_9 : decode cX1_init 9 = .ok (.putfield 9, 3) := by decide +kernel
theorem dX1_init_12 : decode cX1_init 12 = .ok (.aload_n 0, 1) := by decide +kernel
theorem dX1_init_13 : decode cX1_init 13 = .ok (.bipush 6, 2) := by decide +kernel
theorem dX1_init_15 : decode cX1_init 15 = .ok (.newarray .int, 2) := by decide +kernel
theorem dX1_init_17 : decode cX1_init 17 = .ok (.putfield 15, 3) := by decide +kernel
theorem dX1_init_20 : decode cX1_init 20 = .ok (.return_, 1) := by decide +kernel
theorem dX1_make_0 : decode cX1_make 0 = .ok (.aload_n 0, 1) := by decide +kernel
theorem dX1_make_1 : decode cX1_make 1 = .ok (.iconst 1, 1) := by decide +kernel
theorem dX1_make_2 : decode cX1_make 2 = .ok (.putfield 18, 3) := by decide +kernel
theorem dX1_make_5 : decode cX1_make 5 = .ok (.aload_n 0, 1) := by decide +kernel
theorem dX1_make_6 : decode cX1_make 6 = .ok (.iload_n 1, 1) := by decide +kernel
theorem dX1_make_7 : decode cX1_make 7 = .ok (.putfield 22, 3) := by decide +kernel
theorem dX1_make_10 : decode cX1_make 10 = .ok (.aload_n 0, 1) := by decide +kernel
theorem dX1_make_11 : decode cX1_make 11 = .ok (.iload_n 2, 1) := by decide +kernel
theorem dX1_make_12 : decode cX1_make 12 = .ok (.putfield 25, 3) := by decide +kernel
theorem dX1_make_15 : decode cX1_make 15 = .ok (.aload_n 0, 1) := by decide +kernel
theorem dX1_make_16 : decode cX1_make 16 = .ok (.getfield 15, 3) := by decide +kernel
theorem dX1_make_19 : decode cX1_make 19 = .ok (.iconst 0, 1) := by decide +kernel
theorem dX1_make_20 : decode cX1_make 20 = .ok (.invokestatic 29, 3) := by decide +kernel
theorem dX1_make_23 : decode cX1_make 23 = .ok (.return_, 1) := by decide +kernel
theorem dX1_vanish_0 : decode cX1_vanish 0 = .ok (.aload_n 0, 1) := by decide +kernel
theorem dX1_vanish_1 : decode cX1_vanish 1 = .ok (.iconst 0, 1) := by decide +kernel
theorem dX1_vanish_2 : decode cX1_vanish 2 = .ok (.putfield 18, 3) := by decide +kernel
theorem dX1_vanish_5 : decode cX1_vanish 5 = .ok (.aload_n 0, 1) := by decide +kernel
theorem dX1_vanish_6 : decode cX1_vanish 6 = .ok (.iconst 0, 1) := by decide +kernel
theorem dX1_vanish_7 : decode cX1_vanish 7 = .ok (.putfield 25, 3) := by decide +kernel
theorem dX1_vanish_10 : decode cX1_vanish 10 = .ok (.return_, 1) := by decide +kernel
theorem dX1_isMissing_0 : decode cX1_isMissing 0 = .ok (.aload_n 0, 1) := by decide +kernel
theorem dX1_isMissing_1 : decode cX1_isMissing 1 = .ok (.getfield 18, 3) := by decide +kernel
theorem dX1_isMissing_4 : decode cX1_isMissing 4 = .ok (.ifCond .ne 7, 3) := by decide +kernel
theorem dX1_isMissing_7 : decode cX1_isMissing 7 = .ok (.iconst 1, 1) := by decide +kernel
theorem dX1_isMissing_8 : decode cX1_isMissing 8 = .ok (.goto 4, 3) := by decide +kernel
theorem dX1_isMissing_11 : decode cX1_isMissing 11 = .ok (.iconst 0, 1) := by decide +kernel
theorem dX1_isMissing_12 : decode cX1_isMissing 12 = .ok (.ireturn, 1) := by decide +kernel
theorem dX1_hasPlace_0 : decode cX1_hasPlace 0 = .ok (.iload_n 1, 1) := by decide +kernel
theorem dX1_hasPlace_1 : decode cX1_hasPlace 1 = .ok (.ifCond .lt 15, 3) := by decide +kernel
theorem dX1_hasPlace_4 : decode cX1_hasPlace 4 = .ok (.iload_n 1, 1) := by decide +kernel
theorem dX1_hasPlace_5 : decode cX1_hasPlace 5 = .ok (.aload_n 0, 1) := by decide +kernel
theorem dX1_hasPlace_6 : decode cX1_hasPlace 6 = .ok (.getfield 25, 3) := by decide +kernel
theorem dX1_hasPlace_9 : decode cX1_hasPlace 9 = .ok (.if_icmp .ge 7, 3) := by decide +kernel
theorem dX1_hasPlace_12 : decode cX1_hasPlace 12 = .ok (.iconst 1, 1) := by decide +kernel
theorem dX1_hasPlace_13 : decode cX1_hasPlace 13 = .ok (.goto 4, 3) := by decide +kernel
theorem dX1_hasPlace_16 : decode cX1_hasPlace 16 = .ok (.iconst 0, 1) := by decide +kernel
theorem dX1_hasPlace_17 : decode cX1_hasPlace 17 = .ok (.ireturn, 1) := by decide +kernel
theorem dX1_isEmptyAt_0 : decode cX1_isEmptyAt 0 = .ok (.aload_n 0, 1) := by decide +kernel
theorem dX1_isEmptyAt_1 : decode cX1_isEmptyAt 1 = .ok (.getfield 15, 3) := by decide +kernel
theorem dX1_isEmptyAt_4 : decode cX1_isEmptyAt 4 = .ok (.iload_n 1, 1) := by decide +kernel
theorem dX1_isEmptyAt_5 : decode cX1_isEmptyAt 5 = .ok (.iaload, 1) := by decide +kernel
theorem dX1_isEmptyAt_6 : decode cX1_isEmptyAt 6 = .ok (.ifCond .ne 7, 3) := by decide +kernel
theorem dX1_isEmptyAt_9 : decode cX1_isEmptyAt 9 = .ok (.iconst 1, 1) := by decide +kernel
theorem dX1_isEmptyAt_10 : decode cX1_isEmptyAt 10 = .ok (.goto 4, 3) := by decide +kernel
theorem dX1_isEmptyAt_13 : decode cX1_isEmptyAt 13 = .ok (.iconst 0, 1) := by decide +kernel
theorem dX1_isEmptyAt_14 : decode cX1_isEmptyAt 14 = .ok (.ireturn, 1) := by decide +kernel
theorem dX1_isMadeFor_0 : decode cX1_isMadeFor 0 = .ok (.aload_n 0, 1) := by decide +kernel
theorem dX1_isMadeFor_1 : decode cX1_isMadeFor 1 = .ok (.getfield 22, 3) := by decide +kernel
theorem dX1_isMadeFor_4 : decode cX1_isMadeFor 4 = .ok (.ifCond .eq 10, 3) := by decide +kernel
theorem dX1_isMadeFor_7 : decode cX1_isMadeFor 7 = .ok (.iload_n 1, 1) := by decide +kernel
theorem dX1_isMadeFor_8 : decode cX1_isMadeFor 8 = .ok (.invokestatic 35, 3) := by decide +kernel
theorem dX1_isMadeFor_11 : decode cX1_isMadeFor 11 = .ok (.ifCond .ne 7, 3) := by decide +kernel
theorem dX1_isMadeFor_14 : decode cX1_isMadeFor 14 = .ok (.iconst 1, 1) := by decide +kernel
theorem dX1_isMadeFor_15 : decode cX1_isMadeFor 15 = .ok (.goto 4, 3) := by decide +kernel
theorem dX1_isMadeFor_18 : decode cX1_isMadeFor 18 = .ok (.iconst 0, 1) := by decide +kernel
theorem dX1_isMadeFor_19 : decode cX1_isMadeFor 19 = .ok (.ireturn, 1) := by decide +kernel
theorem dX1_put_0 : decode cX1_put 0 = .ok (.aload_n 0, 1) := by decide +kernel
theorem dX1_put_1 : decode cX1_put 1 = .ok (.getfield 9, 3) := by decide +kernel
theorem dX1_put_4 : decode cX1_put 4 = .ok (.iload_n 1, 1) := by decide +kernel
theorem dX1_put_5 : decode cX1_put 5 = .ok (.iload_n 2, 1) := by decide +kernel
theorem dX1_put_6 : decode cX1_put 6 = .ok (.iastore, 1) := by decide +kernel
theorem dX1_put_7 : decode cX1_put 7 = .ok (.aload_n 0, 1) := by decide +kernel
theorem dX1_put_8 : decode cX1_put 8 = .ok (.getfield 15, 3) := by decide +kernel
theorem dX1_put_11 : decode cX1_put 11 = .ok (.iload_n 1, 1) := by decide +kernel
theorem dX1_put_12 : decode cX1_put 12 = .ok (.iload_n 3, 1) := by decide +kernel
theorem dX1_put_13 : decode cX1_put 13 = .ok (.iastore, 1) := by decide +kernel
theorem dX1_put_14 : decode cX1_put 14 = .ok (.return_, 1) := by decide +kernel
theorem dX1_keyAt_0 : decode cX1_keyAt 0 = .ok (.aload_n 0, 1) := by decide +kernel
theorem dX1_keyAt_1 : decode cX1_keyAt 1 = .ok (.getfield 9, 3) := by decide +kernel
theorem dX1_keyAt_4 : decode cX1_keyAt 4 = .ok (.iload_n 1, 1) := by decide +kernel
theorem dX1_keyAt_5 : decode cX1_keyAt 5 = .ok (.iaload, 1) := by decide +kernel
theorem dX1_keyAt_6 : decode cX1_keyAt 6 = .ok (.ireturn, 1) := by decide +kernel
theorem dX1_elementsAt_0 : decode cX1_elementsAt 0 = .ok (.aload_n 0, 1) := by decide +kernel
theorem dX1_elementsAt_1 : decode cX1_elementsAt 1 = .ok (.getfield 15, 3) := by decide +kernel
theorem dX1_elementsAt_4 : decode cX1_elementsAt 4 = .ok (.iload_n 1, 1) := by decide +kernel
theorem dX1_elementsAt_5 : decode cX1_elementsAt 5 = .ok (.iaload, 1) := by decide +kernel
theorem dX1_elementsAt_6 : decode cX1_elementsAt 6 = .ok (.ireturn, 1) := by decide +kernel
theorem dX1_vectors_0 : decode cX1_vectors 0 = .ok (.iconst 0, 1) := by decide +kernel
theorem dX1_vectors_1 : decode cX1_vectors 1 = .ok (.istore_n 1, 1) := by decide +kernel
theorem dX1_vectors_2 : decode cX1_vectors 2 = .ok (.iconst 0, 1) := by decide +kernel
theorem dX1_vectors_3 : decode cX1_vectors 3 = .ok (.istore_n 2, 1) := by decide +kernel
theorem dX1_vectors_4 : decode cX1_vectors 4 = .ok (.iload_n 2, 1) := by decide +kernel
theorem dX1_vectors_5 : decode cX1_vectors 5 = .ok (.aload_n 0, 1) := by decide +kernel
theorem dX1_vectors_6 : decode cX1_vectors 6 = .ok (.getfield 25, 3) := by decide +kernel
theorem dX1_vectors_9 : decode cX1_vectors 9 = .ok (.if_icmp .ge 25, 3) := by decide +kernel
theorem dX1_vectors_12 : decode cX1_vectors 12 = .ok (.iload_n 1, 1) := by decide +kernel
theorem dX1_vectors_13 : decode cX1_vectors 13 = .ok (.aload_n 0, 1) := by decide +kernel
theorem dX1_vectors_14 : decode cX1_vectors 14 = .ok (.iload_n 2, 1) := by decide +kernel
theorem dX1_vectors_15 : decode cX1_vectors 15 = .ok (.invokevirtual 41, 3) := by decide +kernel
theorem dX1_vectors_18 : decode cX1_vectors 18 = .ok (.ifCond .eq 7, 3) := by decide +kernel
theorem dX1_vectors_21 : decode cX1_vectors 21 = .ok (.iconst 0, 1) := by decide +kernel
theorem dX1_vectors_22 : decode cX1_vectors 22 = .ok (.goto 4, 3) := by decide +kernel
theorem dX1_vectors_25 : decode cX1_vectors 25 = .ok (.iconst 1, 1) := by decide +kernel
theorem dX1_vectors_26 : decode cX1_vectors 26 = .ok (.iadd, 1) := by decide +kernel
theorem dX1_vectors_27 : decode cX1_vectors 27 = .ok (.istore_n 1, 1) := by decide +kernel
theorem dX1_vectors_28 : decode cX1_vectors 28 = .ok (.iinc 2 1, 3) := by decide +kernel
theorem dX1_vectors_31 : decode cX1_vectors 31 = .ok (.goto (-27), 3) := by decide +kernel
theorem dX1_vectors_34 : decode cX1_vectors 34 = .ok (.iload_n 1, 1) := by decide +kernel
theorem dX1_vectors_35 : decode cX1_vectors 35 = .ok (.ireturn, 1) := by decide +kernel
theorem dX2_init_0 : decode cX2_init 0 = .ok (.aload_n 0, 1) := by decide +kernel
theorem dX2_init_1 : decode cX2_init 1 = .ok (.invokespecial 3, 3) := by decide +kernel
theorem dX2_init_4 : decode cX2_init 4 = .ok (.aload_n 0, 1) := by decide +kernel
theorem dX2_init_5 : decode cX2_init 5 = .ok (.aload_n 1, 1) := by decide +kernel
theorem dX2_init_6 : decode cX2_init 6 = .ok (.putfield 9, 3) := by decide +kernel
theorem dX2_init_9 : decode cX2_init 9 = .ok (.aload_n 0, 1) := by decide +kernel
theorem dX2_init_10 : decode cX2_init 10 = .ok (.new 15, 3) := by decide +kernel
theorem dX2_init_13 : decode cX2_init 13 = .ok (.dup, 1) := by decide +kernel
theorem dX2_init_14 : decode cX2_init 14 = .ok (.invokespecial 17, 3) := by decide +kernel
theorem dX2_init_17 : decode cX2_init 17 = .ok (.putfield 18, 3) := by decide +kernel
theorem dX2_init_20 : decode cX2_init 20 = .ok (.aload_n 0, 1) := by decide +kernel
theorem dX2_init_21 : decode cX2_init 21 = .ok (.new 22, 3) := by decide +kernel
theorem dX2_init_24 : decode cX2_init 24 = .ok (.dup, 1) := by decide +kernel
theorem dX2_init_25 : decode cX2_init 25 = .ok (.invokespecial 24, 3) := by decide +kernel
theorem dX2_init_28 : decode cX2_init 28 = .ok (.putfield 25, 3) := by decide +kernel
theorem dX2_init_31 : decode cX2_init 31 = .ok (.aload_n 0, 1) := by decide +kernel
theorem dX2_init_32 : decode cX2_init 32 = .ok (.new 29, 3) := by decide +kernel
theorem dX2_init_35 : decode cX2_init 35 = .ok (.dup, 1) := by decide +kernel
theorem dX2_init_36 : decode cX2_init 36 = .ok (.invokespecial 31, 3) := by decide +kernel
theorem dX2_init_39 : decode cX2_init 39 = .ok (.putfield 32, 3) := by decide +kernel
theorem dX2_init_42 : decode cX2_init 42 = .ok (.aload_n 0, 1) := by decide +kernel
theorem dX2_init_43 : decode cX2_init 43 = .ok (.new 36, 3) := by decide +kernel
theorem dX2_init_46 : decode cX2_init 46 = .ok (.dup, 1) := by decide +kernel
theorem dX2_init_47 : decode cX2_init 47 = .ok (.invokespecial 38, 3) := by decide +kernel
theorem dX2_init_50 : decode cX2_init 50 = .ok (.putfield 39, 3) := by decide +kernel
theorem dX2_init_53 : decode cX2_init 53 = .ok (.aload_n 0, 1) := by decide +kernel
theorem dX2_init_54 : decode cX2_init 54 = .ok (.iconst (-1), 1) := by decide +kernel
theorem dX2_init_55 : decode cX2_init 55 = .ok (.putfield 43, 3) := by decide +kernel
theorem dX2_init_58 : decode cX2_init 58 = .ok (.aload_n 0, 1) := by decide +kernel
theorem dX2_init_59 : decode cX2_init 59 = .ok (.iconst (-1), 1) := by decide +kernel
theorem dX2_init_60 : decode cX2_init 60 = .ok (.putfield 47, 3) := by decide +kernel
theorem dX2_init_63 : decode cX2_init 63 = .ok (.return_, 1) := by decide +kernel
theorem dX2_forget_0 : decode cX2_forget 0 = .ok (.aload_n 0, 1) := by decide +kernel
theorem dX2_forget_1 : decode cX2_forget 1 = .ok (.iconst 0, 1) := by decide +kernel
theorem dX2_forget_2 : decode cX2_forget 2 = .ok (.putfield 50, 3) := by decide +kernel
theorem dX2_forget_5 : decode cX2_forget 5 = .ok (.aload_n 0, 1) := by decide +kernel
theorem dX2_forget_6 : decode cX2_forget 6 = .ok (.iconst 0, 1) := by decide +kernel
theorem dX2_forget_7 : decode cX2_forget 7 = .ok (.putfield 54, 3) := by decide +kernel
theorem dX2_forget_10 : decode cX2_forget 10 = .ok (.aload_n 0, 1) := by decide +kernel
theorem dX2_forget_11 : decode cX2_forget 11 = .ok (.iconst (-1), 1) := by decide +kernel
theorem dX2_forget_12 : decode cX2_forget 12 = .ok (.putfield 43, 3) := by decide +kernel
theorem dX2_forget_15 : decode cX2_forget 15 = .ok (.aload_n 0, 1) := by decide +kernel
theorem dX2_forget_16 : decode cX2_forget 16 = .ok (.iconst (-1), 1) := by decide +kernel
theorem dX2_forget_17 : decode cX2_forget 17 = .ok (.putfield 47, 3) := by decide +kernel
theorem dX2_forget_20 : decode cX2_forget 20 = .ok (.aload_n 0, 1) := by decide +kernel
theorem dX2_forget_21 : decode cX2_forget 21 = .ok (.getfield 25, 3) := by decide +kernel
theorem dX2_forget_24 : decode cX2_forget 24 = .ok (.invokevirtual 57, 3) := by decide +kernel
theorem dX2_forget_27 : decode cX2_forget 27 = .ok (.return_, 1) := by decide +kernel
theorem dX2_hasExchange_0 : decode cX2_hasExchange 0 = .ok (.aload_n 0, 1) := by decide +kernel
theorem dX2_hasExchange_1 : decode cX2_hasExchange 1 = .ok (.getfield 18, 3) := by decide +kernel
theorem dX2_hasExchange_4 : decode cX2_hasExchange 4 = .ok (.aload_n 0, 1) := by decide +kernel
theorem dX2_hasExchange_5 : decode cX2_hasExchange 5 = .ok (.getfield 9, 3) := by decide +kernel
theorem dX2_hasExchange_8 : decode cX2_hasExchange 8 = .ok (.invokevirtual 60, 3) := by decide +kernel
theorem dX2_hasExchange_11 : decode cX2_hasExchange 11 = .ok (.ireturn, 1) := by decide +kernel
theorem dX2_isOrderly_0 : decode cX2_isOrderly 0 = .ok (.aload_n 0, 1) := by decide +kernel
theorem dX2_isOrderly_1 : decode cX2_isOrderly 1 = .ok (.getfield 50, 3) := by decide +kernel
theorem dX2_isOrderly_4 : decode cX2_isOrderly 4 = .ok (.ifCond .ne 23, 3) := by decide +kernel
theorem dX2_isOrderly_7 : decode cX2_isOrderly 7 = .ok (.aload_n 0, 1) := by decide +kernel
theorem dX2_isOrderly_8 : decode cX2_isOrderly 8 = .ok (.aload_n 0, 1) := by decide +kernel
theorem dX2_isOrderly_9 : decode cX2_isOrderly 9 = .ok (.getfield 18, 3) := by decide +kernel
theorem dX2_isOrderly_12 : decode cX2_isOrderly 12 = .ok (.aload_n 0, 1) := by decide +kernel
theorem dX2_isOrderly_13 : decode cX2_isOrderly 13 = .ok (.getfield 9, 3) := by decide +kernel
theorem dX2_isOrderly_16 : decode cX2_isOrderly 16 = .ok (.invokevirtual 64, 3) := by decide +kernel
theorem dX2_isOrderly_19 : decode cX2_isOrderly 19 = .ok (.putfield 67, 3) := by decide +kernel
theorem dX2_isOrderly_22 : decode cX2_isOrderly 22 = .ok (.aload_n 0, 1) := by decide +kernel
theorem dX2_isOrderly_23 : decode cX2_isOrderly 23 = .ok (.iconst 1, 1) := by decide +kernel
theorem dX2_isOrderly_24 : decode cX2_isOrderly 24 = .ok (.putfield 50, 3) := by decide +kernel
theorem dX2_isOrderly_27 : decode cX2_isOrderly 27 = .ok (.aload_n 0, 1) := by decide +kernel
theorem dX2_isOrderly_28 : decode cX2_isOrderly 28 = .ok (.getfield 67, 3) := by decide +kernel
theorem dX2_isOrderly_31 : decode cX2_isOrderly 31 = .ok (.ireturn, 1) := by decide +kernel
theorem dX2_loops_0 : decode cX2_loops 0 = .ok (.aload_n 0, 1) := by decide +kernel
theorem dX2_loops_1 : decode cX2_loops 1 = .ok (.getfield 18, 3) := by decide +kernel
theorem dX2_loops_4 : decode cX2_loops 4 = .ok (.aload_n 0, 1) := by decide +kernel
theorem dX2_loops_5 : decode cX2_loops 5 = .ok (.getfield 9, 3) := by decide +kernel
theorem dX2_loops_8 : decode cX2_loops 8 = .ok (.invokevirtual 70, 3) := by decide +kernel
theorem dX2_loops_11 : decode cX2_loops 11 = .ok (.ireturn, 1) := by decide +kernel
theorem dX2_parallels_0 : decode cX2_parallels 0 = .ok (.aload_n 0, 1) := by decide +kernel
theorem dX2_parallels_1 : decode cX2_parallels 1 = .ok (.getfield 18, 3) := by decide +kernel
theorem dX2_parallels_4 : decode cX2_parallels 4 = .ok (.aload_n 0, 1) := by decide +kernel
theorem dX2_parallels_5 : decode cX2_parallels 5 = .ok (.getfield 9, 3) := by decide +kernel
theorem dX2_parallels_8 : decode cX2_parallels 8 = .ok (.invokevirtual 74, 3) := by decide +kernel
theorem dX2_parallels_11 : decode cX2_parallels 11 = .ok (.ireturn, 1) := by decide +kernel
theorem dX2_canTellOf_0 : decode cX2_canTellOf 0 = .ok (.iload_n 1, 1) := by decide +kernel
theorem dX2_canTellOf_1 : decode cX2_canTellOf 1 = .ok (.ifCond .eq 15, 3) := by decide +kernel
theorem dX2_canTellOf_4 : decode cX2_canTellOf 4 = .ok (.iload_n 1, 1) := by decide +kernel
theorem dX2_canTellOf_5 : decode cX2_canTellOf 5 = .ok (.iconst 1, 1) := by decide +kernel
theorem dX2_canTellOf_6 : decode cX2_canTellOf 6 = .ok (.if_icmp .eq 10, 3) := by decide +kernel
theorem dX2_canTellOf_9 : decode cX2_canTellOf 9 = .ok (.aload_n 0, 1) := by decide +kernel
theorem dX2_canTellOf_10 : decode cX2_canTellOf 10 = .ok (.invokevirtual 77, 3) := by decide +kernel
theorem dX2_canTellOf_13 : decode cX2_canTellOf 13 = .ok (.ifCond .eq 7, 3) := by decide +kernel
theorem dX2_canTellOf_16 : decode cX2_canTellOf 16 = .ok (.iconst 1, 1) := by decide +kernel
theorem dX2_canTellOf_17 : decode cX2_canTellOf 17 = .ok (.goto 4, 3) := by decide +kernel
theorem dX2_canTellOf_20 : decode cX2_canTellOf 20 = .ok (.iconst 0, 1) := by decide +kernel
theorem dX2_canTellOf_21 : decode cX2_canTellOf 21 = .ok (.ireturn, 1) := by decide +kernel
theorem dX2_ofKind_0 : decode cX2_ofKind 0 = .ok (.iload_n 1, 1) := by decide +kernel
theorem dX2_ofKind_1 : decode cX2_ofKind 1 = .ok (.tableswitch 63 0 2 #[27, 39, 51], 27) := by decide +kernel
theorem dX2_ofKind_28 : decode cX2_ofKind 28 = .ok (.aload_n 0, 1) := by decide +kernel
theorem dX2_ofKind_29 : decode cX2_ofKind 29 = .ok (.getfield 25, 3) := by decide +kernel
theorem dX2_ofKind_32 : decode cX2_ofKind 32 = .ok (.aload_n 0, 1) := by decide +kernel
theorem dX2_ofKind_33 : decode cX2_ofKind 33 = .ok (.getfield 9, 3) := by decide +kernel
theorem dX2_ofKind_36 : decode cX2_ofKind 36 = .ok (.invokevirtual 80, 3) := by decide +kernel
theorem dX2_ofKind_39 : decode cX2_ofKind 39 = .ok (.areturn, 1) := by decide +kernel
theorem dX2_ofKind_40 : decode cX2_ofKind 40 = .ok (.aload_n 0, 1) := by decide +kernel
theorem dX2_ofKind_41 : decode cX2_ofKind 41 = .ok (.getfield 25, 3) := by decide +kernel
theorem dX2_ofKind_44 : decode cX2_ofKind 44 = .ok (.aload_n 0, 1) := by decide +kernel
theorem dX2_ofKind_45 : decode cX2_ofKind 45 = .ok (.getfield 9, 3) := by decide +kernel
theorem dX2_ofKind_48 : decode cX2_ofKind 48 = .ok (.invokevirtual 84, 3) := by decide +kernel
theorem dX2_ofKind_51 : decode cX2_ofKind 51 = .ok (.areturn, 1) := by decide +kernel
theorem dX2_ofKind_52 : decode cX2_ofKind 52 = .ok (.aload_n 0, 1) := by decide +kernel
theorem dX2_ofKind_53 : decode cX2_ofKind 53 = .ok (.getfield 25, 3) := by decide +kernel
theorem dX2_ofKind_56 : decode cX2_ofKind 56 = .ok (.aload_n 0, 1) := by decide +kernel
theorem dX2_ofKind_57 : decode cX2_ofKind 57 = .ok (.getfield 9, 3) := by decide +kernel
theorem dX2_ofKind_60 : decode cX2_ofKind 60 = .ok (.invokevirtual 87, 3) := by decide +kernel
theorem dX2_ofKind_63 : decode cX2_ofKind 63 = .ok (.areturn, 1) := by decide +kernel
theorem dX2_ofKind_64 : decode cX2_ofKind 64 = .ok (.aload_n 0, 1) := by decide +kernel
theorem dX2_ofKind_65 : decode cX2_ofKind 65 = .ok (.getfield 25, 3) := by decide +kernel
theorem dX2_ofKind_68 : decode cX2_ofKind 68 = .ok (.aload_n 0, 1) := by decide +kernel
theorem dX2_ofKind_69 : decode cX2_ofKind 69 = .ok (.getfield 9, 3) := by decide +kernel
theorem dX2_ofKind_72 : decode cX2_ofKind 72 = .ok (.invokevirtual 90, 3) := by decide +kernel
theorem dX2_ofKind_75 : decode cX2_ofKind 75 = .ok (.areturn, 1) := by decide +kernel
theorem dX2_graph_0 : decode cX2_graph 0 = .ok (.aload_n 0, 1) := by decide +kernel
theorem dX2_graph_1 : decode cX2_graph 1 = .ok (.getfield 54, 3) := by decide +kernel
theorem dX2_graph_4 : decode cX2_graph 4 = .ok (.ifCond .ne 20, 3) := by decide +kernel
theorem dX2_graph_7 : decode cX2_graph 7 = .ok (.aload_n 0, 1) := by decide +kernel
theorem dX2_graph_8 : decode cX2_graph 8 = .ok (.getfield 32, 3) := by decide +kernel
theorem dX2_graph_11 : decode cX2_graph 11 = .ok (.aload_n 0, 1) := by decide +kernel
theorem dX2_graph_12 : decode cX2_graph 12 = .ok (.iconst 3, 1) := by decide +kernel
theorem dX2_graph_13 : decode cX2_graph 13 = .ok (.invokevirtual 93, 3) := by decide +kernel
theorem dX2_graph_16 : decode cX2_graph 16 = .ok (.invokevirtual 97, 3) := by decide +kernel
theorem dX2_graph_19 : decode cX2_graph 19 = .ok (.aload_n 0, 1) := by decide +kernel
theorem dX2_graph_20 : decode cX2_graph 20 = .ok (.iconst 1, 1) := by decide +kernel
theorem dX2_graph_21 : decode cX2_graph 21 = .ok (.putfield 54, 3) := by decide +kernel
theorem dX2_graph_24 : decode cX2_graph 24 = .ok (.aload_n 0, 1) := by decide +kernel
theorem dX2_graph_25 : decode cX2_graph 25 = .ok (.getfield 32, 3) := by decide +kernel
theorem dX2_graph_28 : decode cX2_graph 28 = .ok (.areturn, 1) := by decide +kernel
theorem dX2_mutations_0 : decode cX2_mutations 0 = .ok (.aload_n 0, 1) := by decide +kernel
theorem dX2_mutations_1 : decode cX2_mutations 1 = .ok (.getfield 43, 3) := by decide +kernel
theorem dX2_mutations_4 : decode cX2_mutations 4 = .ok (.iconst (-1), 1) := by decide +kernel
theorem dX2_mutations_5 : decode cX2_mutations 5 = .ok (.if_icmp .ne 18, 3) := by decide +kernel
theorem dX2_mutations_8 : decode cX2_mutations 8 = .ok (.aload_n 0, 1) := by decide +kernel
theorem dX2_mutations_9 : decode cX2_mutations 9 = .ok (.aload_n 0, 1) := by decide +kernel
theorem dX2_mutations_10 : decode cX2_mutations 10 = .ok (.getfield 39, 3) := by decide +kernel
theorem dX2_mutations_13 : decode cX2_mutations 13 = .ok (.aload_n 0, 1) := by decide +kernel
theorem dX2_mutations_14 : decode cX2_mutations 14 = .ok (.getfield 9, 3) := by decide +kernel
theorem dX2_mutations_17 : decode cX2_mutations 17 = .ok (.invokevirtual 101, 3) := by decide +kernel
theorem dX2_mutations_20 : decode cX2_mutations 20 = .ok (.putfield 43, 3) := by decide +kernel
theorem dX2_mutations_23 : decode cX2_mutations 23 = .ok (.aload_n 0, 1) := by decide +kernel
theorem dX2_mutations_24 : decode cX2_mutations 24 = .ok (.getfield 43, 3) := by decide +kernel
theorem dX2_mutations_27 : decode cX2_mutations 27 = .ok (.ireturn, 1) := by decide +kernel
theorem dX2_extensionWays_0 : decode cX2_extensionWays 0 = .ok (.aload_n 0, 1) := by decide +kernel
theorem dX2_extensionWays_1 : decode cX2_extensionWays 1 = .ok (.getfield 47, 3) := by decide +kernel
theorem dX2_extensionWays_4 : decode cX2_extensionWays 4 = .ok (.iconst (-1), 1) := by decide +kernel
theorem dX2_extensionWays_5 : decode cX2_extensionWays 5 = .ok (.if_icmp .ne 22, 3) := by decide +kernel
theorem dX2_extensionWays_8 : decode cX2_extensionWays 8 = .ok (.aload_n 0, 1) := by decide +kernel
theorem dX2_extensionWays_9 : decode cX2_extensionWays 9 = .ok (.aload_n 0, 1) := by decide +kernel
theorem dX2_extensionWays_10 : decode cX2_extensionWays 10 = .ok (.getfield 39, 3) := by decide +kernel
theorem dX2_extensionWays_13 : decode cX2_extensionWays 13 = .ok (.aload_n 0, 1) := by decide +kernel
theorem dX2_extensionWays_14 : decode cX2_extensionWays 14 = .ok (.getfield 9, 3) := by decide +kernel
theorem dX2_extensionWays_17 : decode cX2_extensionWays 17 = .ok (.aload_n 0, 1) := by decide +kernel
theorem dX2_extensionWays_18 : decode cX2_extensionWays 18 = .ok (.getfield 18, 3) := by decide +kernel
theorem dX2_extensionWays_21 : decode cX2_extensionWays 21 = .ok (.invokevirtual 103, 3) := by decide +kernel
theorem dX2_extensionWays_24 : decode cX2_extensionWays 24 = .ok (.putfield 47, 3) := by decide +kernel
theorem dX2_extensionWays_27 : decode cX2_extensionWays 27 = .ok (.aload_n 0, 1) := by decide +kernel
theorem dX2_extensionWays_28 : decode cX2_extensionWays 28 = .ok (.getfield 47, 3) := by decide +kernel
theorem dX2_extensionWays_31 : decode cX2_extensionWays 31 = .ok (.ireturn, 1) := by decide +kernel
theorem dX3_init_0 : decode cX3_init 0 = .ok (.aload_n 0, 1) := by decide +kernel
theorem dX3_init_1 : decode cX3_init 1 = .ok (.invokespecial 1, 3) := by decide +kernel
theorem dX3_init_4 : decode cX3_init 4 = .ok (.aload_n 0, 1) := by decide +kernel
theorem dX3_init_5 : decode cX3_init 5 = .ok (.new 7, 3) := by decide +kernel
theorem dX3_init_8 : decode cX3_init 8 = .ok (.dup, 1) := by decide +kernel
theorem dX3_init_9 : decode cX3_init 9 = .ok (.invokespecial 9, 3) := by decide +kernel
theorem dX3_init_12 : decode cX3_init 12 = .ok (.putfield 10, 3) := by decide +kernel
theorem dX3_init_15 : decode cX3_init 15 = .ok (.return_, 1) := by decide +kernel
theorem dX3_mutations_0 : decode cX3_mutations 0 = .ok (.aload_n 0, 1) := by decide +kernel
theorem dX3_mutations_1 : decode cX3_mutations 1 = .ok (.getfield 10, 3) := by decide +kernel
theorem dX3_mutations_4 : decode cX3_mutations 4 = .ok (.aload_n 1, 1) := by decide +kernel
theorem dX3_mutations_5 : decode cX3_mutations 5 = .ok (.invokevirtual 16, 3) := by decide +kernel
theorem dX3_mutations_8 : decode cX3_mutations 8 = .ok (.iconst 0, 1) := by decide +kernel
theorem dX3_mutations_9 : decode cX3_mutations 9 = .ok (.istore_n 2, 1) := by decide +kernel
theorem dX3_mutations_10 : decode cX3_mutations 10 = .ok (.iconst 0, 1) := by decide +kernel
theorem dX3_mutations_11 : decode cX3_mutations 11 = .ok (.istore_n 3, 1) := by decide +kernel
theorem dX3_mutations_12 : decode cX3_mutations 12 = .ok (.iconst 0, 1) := by decide +kernel
theorem dX3_mutations_13 : decode cX3_mutations 13 = .ok (.istore 4, 2) := by decide +kernel
theorem dX3_mutations_15 : decode cX3_mutations 15 = .ok (.iload 4, 2) := by decide +kernel
theorem dX3_mutations_17 : decode cX3_mutations 17 = .ok (.aload_n 1, 1) := by decide +kernel
theorem dX3_mutations_18 : decode cX3_mutations 18 = .ok (.invokevirtual 20, 3) := by decide +kernel
theorem dX3_mutations_21 : decode cX3_mutations 21 = .ok (.if_icmp .ge 77, 3) := by decide +kernel
theorem dX3_mutations_24 : decode cX3_mutations 24 = .ok (.iload 4, 2) := by decide +kernel
theorem dX3_mutations_26 : decode cX3_mutations 26 = .ok (.iconst 1, 1) := by decide +kernel
theorem dX3_mutations_27 : decode cX3_mutations 27 = .ok (.iadd, 1) := by decide +kernel
theorem dX3_mutations_28 : decode cX3_mutations 28 = .ok (.istore 5, 2) := by decide +kernel
theorem dX3_mutations_30 : decode cX3_mutations 30 = .ok (.iload 5, 2) := by decide +kernel
theorem dX3_mutations_32 : decode cX3_mutations 32 = .ok (.aload_n 1, 1) := by decide +kernel
theorem dX3_mutations_33 : decode cX3_mutations 33 = .ok (.invokevirtual 20, 3) := by decide +kernel
theorem dX3_mutations_36 : decode cX3_mutations 36 = .ok (.if_icmp .ge 56, 3) := by decide +kernel
theorem dX3_mutations_39 : decode cX3_mutations 39 = .ok (.iload 5, 2) := by decide +kernel
theorem dX3_mutations_41 : decode cX3_mutations 41 = .ok (.iconst 1, 1) := by decide +kernel
theorem dX3_mutations_42 : decode cX3_mutations 42 = .ok (.iadd, 1) := by decide +kernel
theorem dX3_mutations_43 : decode cX3_mutations 43 = .ok (.istore 6, 2) := by decide +kernel
theorem dX3_mutations_45 : decode cX3_mutations 45 = .ok (.iload 6, 2) := by decide +kernel
theorem dX3_mutations_47 : decode cX3_mutations 47 = .ok (.aload_n 1, 1) := by decide +kernel
theorem dX3_mutations_48 : decode cX3_mutations 48 = .ok (.invokevirtual 20, 3) := by decide +kernel
theorem dX3_mutations_51 : decode cX3_mutations 51 = .ok (.if_icmp .ge 35, 3) := by decide +kernel
theorem dX3_mutations_54 : decode cX3_mutations 54 = .ok (.iload_n 2, 1) := by decide +kernel
theorem dX3_mutations_55 : decode cX3_mutations 55 = .ok (.aload_n 0, 1) := by decide +kernel
theorem dX3_mutations_56 : decode cX3_mutations 56 = .ok (.iload 4, 2) := by decide +kernel
theorem dX3_mutations_58 : decode cX3_mutations 58 = .ok (.iload 5, 2) := by decide +kernel
theorem dX3_mutations_60 : decode cX3_mutations 60 = .ok (.iload 6, 2) := by decide +kernel
theorem dX3_mutations_62 : decode cX3_mutations 62 = .ok (.invokevirtual 24, 3) := by decide +kernel
theorem dX3_mutations_65 : decode cX3_mutations 65 = .ok (.ifCond .eq 9, 3) := by decide +kernel
theorem dX3_mutations_68 : decode cX3_mutations 68 = .ok (.iconst 1, 1) := by decide +kernel
theorem dX3_mutations_69 : decode cX3_mutations 69 = .ok (.iload_n 3, 1) := by decide +kernel
theorem dX3_mutations_70 : decode cX3_mutations 70 = .ok (.ishl, 1) := by decide +kernel
theorem dX3_mutations_71 : decode cX3_mutations 71 = .ok (.goto 4, 3) := by decide +kernel
theorem dX3_mutations_74 : decode cX3_mutations 74 = .ok (.iconst 0, 1) := by decide +kernel
theorem dX3_mutations_75 : decode cX3_mutations 75 = .ok (.ior, 1) := by decide +kernel
theorem dX3_mutations_76 : decode cX3_mutations 76 = .ok (.istore_n 2, 1) := by decide +kernel
theorem dX3_mutations_77 : decode cX3_mutations 77 = .ok (.iinc 3 1, 3) := by decide +kernel
theorem dX3_mutations_80 : decode cX3_mutations 80 = .ok (.iinc 6 1, 3) := by decide +kernel
theorem dX3_mutations_83 : decode cX3_mutations 83 = .ok (.goto (-38), 3) := by decide +kernel
theorem dX3_mutations_86 : decode cX3_mutations 86 = .ok (.iinc 5 1, 3) := by decide +kernel
theorem dX3_mutations_89 : decode cX3_mutations 89 = .ok (.goto (-59), 3) := by decide +kernel
theorem dX3_mutations_92 : decode cX3_mutations 92 = .ok (.iinc 4 1, 3) := by decide +kernel
theorem dX3_mutations_95 : decode cX3_mutations 95 = .ok (.goto (-80), 3) := by decide +kernel
theorem dX3_mutations_98 : decode cX3_mutations 98 = .ok (.iload_n 2, 1) := by decide +kernel
theorem dX3_mutations_99 : decode cX3_mutations 99 = .ok (.ireturn, 1) := by decide +kernel
theorem dX3_isMutation_0 : decode cX3_isMutation 0 = .ok (.aload_n 0, 1) := by decide +kernel
theorem dX3_isMutation_1 : decode cX3_isMutation 1 = .ok (.getfield 10, 3) := by decide +kernel
theorem dX3_isMutation_4 : decode cX3_isMutation 4 = .ok (.iload_n 1, 1) := by decide +kernel
theorem dX3_isMutation_5 : decode cX3_isMutation 5 = .ok (.iload_n 2, 1) := by decide +kernel
theorem dX3_isMutation_6 : decode cX3_isMutation 6 = .ok (.iload_n 3, 1) := by decide +kernel
theorem dX3_isMutation_7 : decode cX3_isMutation 7 = .ok (.invokevirtual 28, 3) := by decide +kernel
theorem dX3_isMutation_10 : decode cX3_isMutation 10 = .ok (.istore 4, 2) := by decide +kernel
theorem dX3_isMutation_12 : decode cX3_isMutation 12 = .ok (.iload 4, 2) := by decide +kernel
theorem dX3_isMutation_14 : decode cX3_isMutation 14 = .ok (.ifCond .ne 5, 3) := by decide +kernel
theorem dX3_isMutation_17 : decode cX3_isMutation 17 = .ok (.iconst 0, 1) := by decide +kernel
theorem dX3_isMutation_18 : decode cX3_isMutation 18 = .ok (.ireturn, 1) := by decide +kernel
theorem dX3_isMutation_19 : decode cX3_isMutation 19 = .ok (.aload_n 0, 1) := by decide +kernel
theorem dX3_isMutation_20 : decode cX3_isMutation 20 = .ok (.getfield 10, 3) := by decide +kernel
theorem dX3_isMutation_23 : decode cX3_isMutation 23 = .ok (.iload_n 1, 1) := by decide +kernel
theorem dX3_isMutation_24 : decode cX3_isMutation 24 = .ok (.iload_n 2, 1) := by decide +kernel
theorem dX3_isMutation_25 : decode cX3_isMutation 25 = .ok (.iload_n 3, 1) := by decide +kernel
theorem dX3_isMutation_26 : decode cX3_isMutation 26 = .ok (.iload 4, 2) := by decide +kernel
theorem dX3_isMutation_28 : decode cX3_isMutation 28 = .ok (.ineg, 1) := by decide +kernel
theorem dX3_isMutation_29 : decode cX3_isMutation 29 = .ok (.invokevirtual 32, 3) := by decide +kernel
theorem dX3_isMutation_32 : decode cX3_isMutation 32 = .ok (.aload_n 0, 1) := by decide +kernel
theorem dX3_isMutation_33 : decode cX3_isMutation 33 = .ok (.getfield 10, 3) := by decide +kernel
theorem dX3_isMutation_36 : decode cX3_isMutation 36 = .ok (.iconst 0, 1) := by decide +kernel
theorem dX3_isMutation_37 : decode cX3_isMutation 37 = .ok (.aload_n 0, 1) := by decide +kernel
theorem dX3_isMutation_38 : decode cX3_isMutation 38 = .ok (.getfield 10, 3) := by decide +kernel
theorem dX3_isMutation_41 : decode cX3_isMutation 41 = .ok (.invokevirtual 20, 3) := by decide +kernel
theorem dX3_isMutation_44 : decode cX3_isMutation 44 = .ok (.invokestatic 36, 3) := by decide +kernel
theorem dX3_isMutation_47 : decode cX3_isMutation 47 = .ok (.ifCond .ne 7, 3) := by decide +kernel
theorem dX3_isMutation_50 : decode cX3_isMutation 50 = .ok (.iconst 1, 1) := by decide +kernel
theorem dX3_isMutation_51 : decode cX3_isMutation 51 = .ok (.goto 4, 3) := by decide +kernel
theorem dX3_isMutation_54 : decode cX3_isMutation 54 = .ok (.iconst 0, 1) := by decide +kernel
theorem dX3_isMutation_55 : decode cX3_isMutation 55 = .ok (.istore 5, 2) := by decide +kernel
theorem dX3_isMutation_57 : decode cX3_isMutation 57 = .ok (.aload_n 0, 1) := by decide +kernel
theorem dX3_isMutation_58 : decode cX3_isMutation 58 = .ok (.getfield 10, 3) := by decide +kernel
theorem dX3_isMutation_61 : decode cX3_isMutation 61 = .ok (.iload_n 1, 1) := by decide +kernel
theorem dX3_isMutation_62 : decode cX3_isMutation 62 = .ok (.iload_n 2, 1) := by decide +kernel
theorem dX3_isMutation_63 : decode cX3_isMutation 63 = .ok (.iload_n 3, 1) := by decide +kernel
theorem dX3_isMutation_64 : decode cX3_isMutation 64 = .ok (.iload 4, 2) := by decide +kernel
theorem dX3_isMutation_66 : decode cX3_isMutation 66 = .ok (.invokevirtual 32, 3) := by decide +kernel
theorem dX3_isMutation_69 : decode cX3_isMutation 69 = .ok (.iload 5, 2) := by decide +kernel
theorem dX3_isMutation_71 : decode cX3_isMutation 71 = .ok (.ireturn, 1) := by decide +kernel
theorem dX3_extensionWays_0 : decode cX3_extensionWays 0 = .ok (.aload_n 1, 1) := by decide +kernel
theorem dX3_extensionWays_1 : decode cX3_extensionWays 1 = .ok (.invokevirtual 20, 3) := by decide +kernel
theorem dX3_extensionWays_4 : decode cX3_extensionWays 4 = .ok (.iconst 4, 1) := by decide +kernel
theorem dX3_extensionWays_5 : decode cX3_extensionWays 5 = .ok (.if_icmp .le 5, 3) := by decide +kernel
theorem dX3_extensionWays_8 : decode cX3_extensionWays 8 = .ok (.iconst 0, 1) := by decide +kernel
theorem dX3_extensionWays_9 : decode cX3_extensionWays 9 = .ok (.ireturn, 1) := by decide +kernel
theorem dX3_extensionWays_10 : decode cX3_extensionWays 10 = .ok (.aload_n 0, 1) := by decide +kernel
theorem dX3_extensionWays_11 : decode cX3_extensionWays 11 = .ok (.getfield 10, 3) := by decide +kernel
theorem dX3_extensionWays_14 : decode cX3_extensionWays 14 = .ok (.aload_n 1, 1) := by decide +kernel
theorem dX3_extensionWays_15 : decode cX3_extensionWays 15 = .ok (.invokevirtual 16, 3) := by decide +kernel
theorem dX3_extensionWays_18 : decode cX3_extensionWays 18 = .ok (.aload_n 0, 1) := by decide +kernel
theorem dX3_extensionWays_19 : decode cX3_extensionWays 19 = .ok (.getfield 10, 3) := by decide +kernel
theorem dX3_extensionWays_22 : decode cX3_extensionWays 22 = .ok (.invokevirtual 42, 3) := by decide +kernel
theorem dX3_extensionWays_25 : decode cX3_extensionWays 25 = .ok (.aload_n 0, 1) := by decide +kernel
theorem dX3_extensionWays_26 : decode cX3_extensionWays 26 = .ok (.getfield 10, 3) := by decide +kernel
theorem dX3_extensionWays_29 : decode cX3_extensionWays 29 = .ok (.aload_n 2, 1) := by decide +kernel
theorem dX3_extensionWays_30 : decode cX3_extensionWays 30 = .ok (.iconst 0, 1) := by decide +kernel
theorem dX3_extensionWays_31 : decode cX3_extensionWays 31 = .ok (.iconst 1, 1) := by decide +kernel
theorem dX3_extensionWays_32 : decode cX3_extensionWays 32 = .ok (.invokestatic 45, 3) := by decide +kernel
theorem dX3_extensionWays_35 : decode cX3_extensionWays 35 = .ok (.ireturn, 1) := by decide +kernel
theorem dX3_ways_0 : decode cX3_ways 0 = .ok (.aload_n 0, 1) := by decide +kernel
theorem dX3_ways_1 : decode cX3_ways 1 = .ok (.invokevirtual 20, 3) := by decide +kernel
theorem dX3_ways_4 : decode cX3_ways 4 = .ok (.iconst 1, 1) := by decide +kernel
theorem dX3_ways_5 : decode cX3_ways 5 = .ok (.isub, 1) := by decide +kernel
theorem dX3_ways_6 : decode cX3_ways 6 = .ok (.istore 4, 2) := by decide +kernel
theorem dX3_ways_8 : decode cX3_ways 8 = .ok (.iload_n 2, 1) := by decide +kernel
theorem dX3_ways_9 : decode cX3_ways 9 = .ok (.iload 4, 2) := by decide +kernel
theorem dX3_ways_11 : decode cX3_ways 11 = .ok (.iconst 1, 1) := by decide +kernel
theorem dX3_ways_12 : decode cX3_ways 12 = .ok (.isub, 1) := by decide +kernel
theorem dX3_ways_13 : decode cX3_ways 13 = .ok (.if_icmp .ge 9, 3) := by decide +kernel
theorem dX3_ways_16 : decode cX3_ways 16 = .ok (.iload_n 3, 1) := by decide +kernel
theorem dX3_ways_17 : decode cX3_ways 17 = .ok (.iload 4, 2) := by decide +kernel
theorem dX3_ways_19 : decode cX3_ways 19 = .ok (.if_icmp .lt 17, 3) := by decide +kernel
theorem dX3_ways_22 : decode cX3_ways 22 = .ok (.aload_n 1, 1) := by decide +kernel
theorem dX3_ways_23 : decode cX3_ways 23 = .ok (.aload_n 0, 1) := by decide +kernel
theorem dX3_ways_24 : decode cX3_ways 24 = .ok (.invokevirtual 49, 3) := by decide +kernel
theorem dX3_ways_27 : decode cX3_ways 27 = .ok (.ifCond .eq 7, 3) := by decide +kernel
theorem dX3_ways_30 : decode cX3_ways 30 = .ok (.iconst 1, 1) := by decide +kernel
theorem dX3_ways_31 : decode cX3_ways 31 = .ok (.goto 4, 3) := by decide +kernel
theorem dX3_ways_34 : decode cX3_ways 34 = .ok (.iconst 0, 1) := by decide +kernel
theorem dX3_ways_35 : decode cX3_ways 35 = .ok (.ireturn, 1) := by decide +kernel
theorem dX3_ways_36 : decode cX3_ways 36 = .ok (.iconst 0, 1) := by decide +kernel
theorem dX3_ways_37 : decode cX3_ways 37 = .ok (.istore 5, 2) := by decide +kernel
theorem dX3_ways_39 : decode cX3_ways 39 = .ok (.iconst (-1), 1) := by decide +kernel
theorem dX3_ways_40 : decode cX3_ways 40 = .ok (.istore 6, 2) := by decide +kernel
theorem dX3_ways_42 : decode cX3_ways 42 = .ok (.iload 6, 2) := by decide +kernel
theorem dX3_ways_44 : decode cX3_ways 44 = .ok (.iconst 1, 1) := by decide +kernel
theorem dX3_ways_45 : decode cX3_ways 45 = .ok (.if_icmp .gt 71, 3) := by decide +kernel
theorem dX3_ways_48 : decode cX3_ways 48 = .ok (.aload_n 0, 1) := by decide +kernel
theorem dX3_ways_49 : decode cX3_ways 49 = .ok (.iload_n 2, 1) := by decide +kernel
theorem dX3_ways_50 : decode cX3_ways 50 = .ok (.iload_n 3, 1) := by decide +kernel
theorem dX3_ways_51 : decode cX3_ways 51 = .ok (.iload 4, 2) := by decide +kernel
theorem dX3_ways_53 : decode cX3_ways 53 = .ok (.iload 6, 2) := by decide +kernel
theorem dX3_ways_55 : decode cX3_ways 55 = .ok (.invokevirtual 32, 3) := by decide +kernel
theorem dX3_ways_58 : decode cX3_ways 58 = .ok (.iload_n 3, 1) := by decide +kernel
theorem dX3_ways_59 : decode cX3_ways 59 = .ok (.iload 4, 2) := by decide +kernel
theorem dX3_ways_61 : decode cX3_ways 61 = .ok (.iconst 1, 1) := by decide +kernel
theorem dX3_ways_62 : decode cX3_ways 62 = .ok (.isub, 1) := by decide +kernel
theorem dX3_ways_63 : decode cX3_ways 63 = .ok (.if_icmp .ge 20, 3) := by decide +kernel
theorem dX3_ways_66 : decode cX3_ways 66 = .ok (.iload 5, 2) := by decide +kernel
theorem dX3_ways_68 : decode cX3_ways 68 = .ok (.aload_n 0, 1) := by decide +kernel
theorem dX3_ways_69 : decode cX3_ways 69 = .ok (.aload_n 1, 1) := by decide +kernel
theorem dX3_ways_70 : decode cX3_ways 70 = .ok (.iload_n 2, 1) := by decide +kernel
theorem dX3_ways_71 : decode cX3_ways 71 = .ok (.iload_n 3, 1) := by decide +kernel
theorem dX3_ways_72 : decode cX3_ways 72 = .ok (.iconst 1, 1) := by decide +kernel
theorem dX3_ways_73 : decode cX3_ways 73 = .ok (.iadd, 1) := by decide +kernel
theorem dX3_ways_74 : decode cX3_ways 74 = .ok (.invokestatic 45, 3) := by decide +kernel
theorem dX3_ways_77 : decode cX3_ways 77 = .ok (.iadd, 1) := by decide +kernel
theorem dX3_ways_78 : decode cX3_ways 78 = .ok (.istore 5, 2) := by decide +kernel
theorem dX3_ways_80 : decode cX3_ways 80 = .ok (.goto 30, 3) := by decide +kernel
theorem dX3_ways_83 : decode cX3_ways 83 = .ok (.aload_n 0, 1) := by decide +kernel
theorem dX3_ways_84 : decode cX3_ways 84 = .ok (.iload_n 2, 1) := by decide +kernel
theorem dX3_ways_85 : decode cX3_ways 85 = .ok (.iload_n 2, 1) := by decide +kernel
theorem dX3_ways_86 : decode cX3_ways 86 = .ok (.iconst 1, 1) := by decide +kernel
theorem dX3_ways_87 : decode cX3_ways 87 = .ok (.iadd, 1) := by decide +kernel
theorem dX3_ways_88 : decode cX3_ways 88 = .ok (.invokestatic 36, 3) := by decide +kernel
theorem dX3_ways_91 : decode cX3_ways 91 = .ok (.ifCond .ne 19, 3) := by decide +kernel
theorem dX3_ways_94 : decode cX3_ways 94 = .ok (.iload 5, 2) := by decide +kernel
theorem dX3_ways_96 : decode cX3_ways 96 = .ok (.aload_n 0, 1) := by decide +kernel
theorem dX3_ways_97 : decode cX3_ways 97 = .ok (.aload_n 1, 1) := by decide +kernel
theorem dX3_ways_98 : decode cX3_ways 98 = .ok (.iload_n 2, 1) := by decide +kernel
theorem dX3_ways_99 : decode cX3_ways 99 = .ok (.iconst 1, 1) := by decide +kernel
theorem dX3_ways_100 : decode cX3_ways 100 = .ok (.iadd, 1) := by decide +kernel
theorem dX3_ways_101 : decode cX3_ways 101 = .ok (.iload_n 2, 1) := by decide +kernel
theorem dX3_ways_102 : decode cX3_ways 102 = .ok (.iconst 2, 1) := by decide +kernel
theorem dX3_ways_103 : decode cX3_ways 103 = .ok (.iadd, 1) := by decide +kernel
theorem dX3_ways_104 : decode cX3_ways 104 = .ok (.invokestatic 45, 3) := by decide +kernel
theorem dX3_ways_107 : decode cX3_ways 107 = .ok (.iadd, 1) := by decide +kernel
theorem dX3_ways_108 : decode cX3_ways 108 = .ok (.istore 5, 2) := by decide +kernel
theorem dX3_ways_110 : decode cX3_ways 110 = .ok (.iinc 6 1, 3) := by decide +kernel
theorem dX3_ways_113 : decode cX3_ways 113 = .ok (.goto (-71), 3) := by decide +kernel
theorem dX3_ways_116 : decode cX3_ways 116 = .ok (.iload 5, 2) := by decide +kernel
theorem dX3_ways_118 : decode cX3_ways 118 = .ok (.ireturn, 1) := by decide +kernel
theorem dX4_init_0 : decode cX4_init 0 = .ok (.aload_n 0, 1) := by decide +kernel
theorem dX4_init_1 : decode cX4_init 1 = .ok (.invokespecial 1, 3) := by decide +kernel
theorem dX4_init_4 : decode cX4_init 4 = .ok (.aload_n 0, 1) := by decide +kernel
theorem dX4_init_5 : decode cX4_init 5 = .ok (.bipush 8, 2) := by decide +kernel
theorem dX4_init_7 : decode cX4_init 7 = .ok (.anewarray 9, 3) := by decide +kernel
theorem dX4_init_10 : decode cX4_init 10 = .ok (.putfield 11, 3) := by decide +kernel
theorem dX4_init_13 : decode cX4_init 13 = .ok (.iconst 0, 1) := by decide +kernel
theorem dX4_init_14 : decode cX4_init 14 = .ok (.istore_n 1, 1) := by decide +kernel
theorem dX4_init_15 : decode cX4_init 15 = .ok (.iload_n 1, 1) := by decide +kernel
theorem dX4_init_16 : decode cX4_init 16 = .ok (.bipush 8, 2) := by decide +kernel
theorem dX4_init_18 : decode cX4_init 18 = .ok (.if_icmp .ge 22, 3) := by decide +kernel
theorem dX4_init_21 : decode cX4_init 21 = .ok (.aload_n 0, 1) := by decide +kernel
theorem dX4_init_22 : decode cX4_init 22 = .ok (.getfield 11, 3) := by decide +kernel
theorem dX4_init_25 : decode cX4_init 25 = .ok (.iload_n 1, 1) := by decide +kernel
theorem dX4_init_26 : decode cX4_init 26 = .ok (.new 9, 3) := by decide +kernel
theorem dX4_init_29 : decode cX4_init 29 = .ok (.dup, 1) := by decide +kernel
theorem dX4_init_30 : decode cX4_init 30 = .ok (.invokespecial 15, 3) := by decide +kernel
theorem dX4_init_33 : decode cX4_init 33 = .ok (.aastore, 1) := by decide +kernel
theorem dX4_init_34 : decode cX4_init 34 = .ok (.iinc 1 1, 3) := by decide +kernel
theorem dX4_init_37 : decode cX4_init 37 = .ok (.goto (-22), 3) := by decide +kernel
theorem dX4_init_40 : decode cX4_init 40 = .ok (.return_, 1) := by decide +kernel
theorem dX4_size_0 : decode cX4_size 0 = .ok (.aload_n 0, 1) := by decide +kernel
theorem dX4_size_1 : decode cX4_size 1 = .ok (.getfield 16, 3) := by decide +kernel
theorem dX4_size_4 : decode cX4_size 4 = .ok (.ireturn, 1) := by decide +kernel
theorem dX4_clear_0 : decode cX4_clear 0 = .ok (.aload_n 0, 1) := by decide +kernel
theorem dX4_clear_1 : decode cX4_clear 1 = .ok (.iconst 0, 1) := by decide +kernel
theorem dX4_clear_2 : decode cX4_clear 2 = .ok (.putfield 16, 3) := by decide +kernel
theorem dX4_clear_5 : decode cX4_clear 5 = .ok (.return_, 1) := by decide +kernel
theorem dX4_remember_0 : decode cX4_remember 0 = .ok (.aload_n 0, 1) := by decide +kernel
theorem dX4_remember_1 : decode cX4_remember 1 = .ok (.getfield 11, 3) := by decide +kernel
theorem dX4_remember_4 : decode cX4_remember 4 = .ok (.aload_n 0, 1) := by decide +kernel
theorem dX4_remember_5 : decode cX4_remember 5 = .ok (.getfield 20, 3) := by decide +kernel
theorem dX4_remember_8 : decode cX4_remember 8 = .ok (.aaload, 1) := by decide +kernel
theorem dX4_remember_9 : decode cX4_remember 9 = .ok (.aload_n 1, 1) := by decide +kernel
theorem dX4_remember_10 : decode cX4_remember 10 = .ok (.invokevirtual 23, 3) := by decide +kernel
theorem dX4_remember_13 : decode cX4_remember 13 = .ok (.aload_n 0, 1) := by decide +kernel
theorem dX4_remember_14 : decode cX4_remember 14 = .ok (.aload_n 0, 1) := by decide +kernel
theorem dX4_remember_15 : decode cX4_remember 15 = .ok (.getfield 20, 3) := by decide +kernel
theorem dX4_remember_18 : decode cX4_remember 18 = .ok (.iconst 1, 1) := by decide +kernel
theorem dX4_remember_19 : decode cX4_remember 19 = .ok (.iadd, 1) := by decide +kernel
theorem dX4_remember_20 : decode cX4_remember 20 = .ok (.bipush 8, 2) := by decide +kernel
theorem dX4_remember_22 : decode cX4_remember 22 = .ok (.if_icmp .ge 12, 3) := by decide +kernel
theorem dX4_remember_25 : decode cX4_remember 25 = .ok (.aload_n 0, 1) := by decide +kernel
theorem dX4_remember_26 : decode cX4_remember 26 = .ok (.getfield 20, 3) := by decide +kernel
theorem dX4_remember_29 : decode cX4_remember 29 = .ok (.iconst 1, 1) := by decide +kernel
theorem dX4_remember_30 : decode cX4_remember 30 = .ok (.iadd, 1) := by decide +kernel
theorem dX4_remember_31 : decode cX4_remember 31 = .ok (.goto 4, 3) := by decide +kernel
theorem dX4_remember_34 : decode cX4_remember 34 = .ok (.iconst 0, 1) := by decide +kernel
theorem dX4_remember_35 : decode cX4_remember 35 = .ok (.putfield 20, 3) := by decide +kernel
theorem dX4_remember_38 : decode cX4_remember 38 = .ok (.aload_n 0, 1) := by decide +kernel
theorem dX4_remember_39 : decode cX4_remember 39 = .ok (.aload_n 0, 1) := by decide +kernel
theorem dX4_remember_40 : decode cX4_remember 40 = .ok (.getfield 16, 3) := by decide +kernel
theorem dX4_remember_43 : decode cX4_remember 43 = .ok (.bipush 8, 2) := by decide +kernel
theorem dX4_remember_45 : decode cX4_remember 45 = .ok (.if_icmp .ge 12, 3) := by decide +kernel
theorem dX4_remember_48 : decode cX4_remember 48 = .ok (.aload_n 0, 1) := by decide +kernel
theorem dX4_remember_49 : decode cX4_remember 49 = .ok (.getfield 16, 3) := by decide +kernel
theorem dX4_remember_52 : decode cX4_remember 52 = .ok (.iconst 1, 1) := by decide +kernel
theorem dX4_remember_53 : decode cX4_remember 53 = .ok (.iadd, 1) := by decide +kernel
theorem dX4_remember_54 : decode cX4_remember 54 = .ok (.goto 5, 3) := by decide +kernel
theorem dX4_remember_57 : decode cX4_remember 57 = .ok (.bipush 8, 2) := by decide +kernel
theorem dX4_remember_59 : decode cX4_remember 59 = .ok (.putfield 16, 3) := by decide +kernel
theorem dX4_remember_62 : decode cX4_remember 62 = .ok (.return_, 1) := by decide +kernel
theorem dX4_takeLatest_0 : decode cX4_takeLatest 0 = .ok (.aload_n 0, 1) := by decide +kernel
theorem dX4_takeLatest_1 : decode cX4_takeLatest 1 = .ok (.aload_n 0, 1) := by decide +kernel
theorem dX4_takeLatest_2 : decode cX4_takeLatest 2 = .ok (.getfield 20, 3) := by decide +kernel
theorem dX4_takeLatest_5 : decode cX4_takeLatest 5 = .ok (.ifCond .le 12, 3) := by decide +kernel
theorem dX4_takeLatest_8 : decode cX4_takeLatest 8 = .ok (.aload_n 0, 1) := by decide +kernel
theorem dX4_takeLatest_9 : decode cX4_takeLatest 9 = .ok (.getfield 20, 3) := by decide +kernel
theorem dX4_takeLatest_12 : decode cX4_takeLatest 12 = .ok (.iconst 1, 1) := by decide +kernel
theorem dX4_takeLatest_13 : decode cX4_takeLatest 13 = .ok (.isub, 1) := by decide +kernel
theorem dX4_takeLatest_14 : decode cX4_takeLatest 14 = .ok (.goto 5, 3) := by decide +kernel
theorem dX4_takeLatest_17 : decode cX4_takeLatest 17 = .ok (.bipush 7, 2) := by decide +kernel
theorem dX4_takeLatest_19 : decode cX4_takeLatest 19 = .ok (.putfield 20, 3) := by decide +kernel
theorem dX4_takeLatest_22 : decode cX4_takeLatest 22 = .ok (.aload_n 0, 1) := by decide +kernel
theorem dX4_takeLatest_23 : decode cX4_takeLatest 23 = .ok (.dup, 1) := by decide +kernel
theorem dX4_takeLatest_24 : decode cX4_takeLatest 24 = .ok (.getfield 16, 3) := by decide +kernel
theorem dX4_takeLatest_27 : decode cX4_takeLatest 27 = .ok (.iconst 1, 1) := by decide +kernel
theorem dX4_takeLatest_28 : decode cX4_takeLatest 28 = .ok (.isub, 1) := by decide +kernel
theorem dX4_takeLatest_29 : decode cX4_takeLatest 29 = .ok (.putfield 16, 3) := by decide +kernel
theorem dX4_takeLatest_32 : decode cX4_takeLatest 32 = .ok (.aload_n 1, 1) := by decide +kernel
theorem dX4_takeLatest_33 : decode cX4_takeLatest 33 = .ok (.aload_n 0, 1) := by decide +kernel
theorem dX4_takeLatest_34 : decode cX4_takeLatest 34 = .ok (.getfield 11, 3) := by decide +kernel
theorem dX4_takeLatest_37 : decode cX4_takeLatest 37 = .ok (.aload_n 0, 1) := by decide +kernel
theorem dX4_takeLatest_38 : decode cX4_takeLatest 38 = .ok (.getfield 20, 3) := by decide +kernel
theorem dX4_takeLatest_41 : decode cX4_takeLatest 41 = .ok (.aaload, 1) := by decide +kernel
theorem dX4_takeLatest_42 : decode cX4_takeLatest 42 = .ok (.invokevirtual 23, 3) := by decide +kernel
theorem dX4_takeLatest_45 : decode cX4_takeLatest 45 = .ok (.return_, 1) := by decide +kernel
theorem dX5_zero_0 : decode cX5_zero 0 = .ok (.sipush 1365, 3) := by decide +kernel
theorem dX5_zero_3 : decode cX5_zero 3 = .ok (.iconst 1, 1) := by decide +kernel
theorem dX5_zero_4 : decode cX5_zero 4 = .ok (.iconst 2, 1) := by decide +kernel
theorem dX5_zero_5 : decode cX5_zero 5 = .ok (.iload_n 0, 1) := by decide +kernel
theorem dX5_zero_6 : decode cX5_zero 6 = .ok (.imul, 1) := by decide +kernel
theorem dX5_zero_7 : decode cX5_zero 7 = .ok (.ishl, 1) := by decide +kernel
theorem dX5_zero_8 : decode cX5_zero 8 = .ok (.iconst 1, 1) := by decide +kernel
theorem dX5_zero_9 : decode cX5_zero 9 = .ok (.isub, 1) := by decide +kernel
theorem dX5_zero_10 : decode cX5_zero 10 = .ok (.iand, 1) := by decide +kernel
theorem dX5_zero_11 : decode cX5_zero 11 = .ok (.ireturn, 1) := by decide +kernel
theorem dX5_withNumber_0 : decode cX5_withNumber 0 = .ok (.iload_n 0, 1) := by decide +kernel
theorem dX5_withNumber_1 : decode cX5_withNumber 1 = .ok (.iconst 2, 1) := by decide +kernel
theorem dX5_withNumber_2 : decode cX5_withNumber 2 = .ok (.ishl, 1) := by decide +kernel
theorem dX5_withNumber_3 : decode cX5_withNumber 3 = .ok (.iload_n 1, 1) := by decide +kernel
theorem dX5_withNumber_4 : decode cX5_withNumber 4 = .ok (.iconst 1, 1) := by decide +kernel
theorem dX5_withNumber_5 : decode cX5_withNumber 5 = .ok (.iadd, 1) := by decide +kernel
theorem dX5_withNumber_6 : decode cX5_withNumber 6 = .ok (.ior, 1) := by decide +kernel
theorem dX5_withNumber_7 : decode cX5_withNumber 7 = .ok (.ireturn, 1) := by decide +kernel
theorem dX5_numberAt_0 : decode cX5_numberAt 0 = .ok (.iload_n 0, 1) := by decide +kernel
theorem dX5_numberAt_1 : decode cX5_numberAt 1 = .ok (.iconst 2, 1) := by decide +kernel
theorem dX5_numberAt_2 : decode cX5_numberAt 2 = .ok (.iload_n 1, 1) := by decide +kernel
theorem dX5_numberAt_3 : decode cX5_numberAt 3 = .ok (.iconst 1, 1) := by decide +kernel
theorem dX5_numberAt_4 : decode cX5_numberAt 4 = .ok (.isub, 1) := by decide +kernel
theorem dX5_numberAt_5 : decode cX5_numberAt 5 = .ok (.iload_n 2, 1) := by decide +kernel
theorem dX5_numberAt_6 : decode cX5_numberAt 6 = .ok (.isub, 1) := by decide +kernel
theorem dX5_numberAt_7 : decode cX5_numberAt 7 = .ok (.imul, 1) := by decide +kernel
theorem dX5_numberAt_8 : decode cX5_numberAt 8 = .ok (.ishr, 1) := by decide +kernel
theorem dX5_numberAt_9 : decode cX5_numberAt 9 = .ok (.iconst 3, 1) := by decide +kernel
theorem dX5_numberAt_10 : decode cX5_numberAt 10 = .ok (.iand, 1) := by decide +kernel
theorem dX5_numberAt_11 : decode cX5_numberAt 11 = .ok (.iconst 1, 1) := by decide +kernel
theorem dX5_numberAt_12 : decode cX5_numberAt 12 = .ok (.isub, 1) := by decide +kernel
theorem dX5_numberAt_13 : decode cX5_numberAt 13 = .ok (.ireturn, 1) := by decide +kernel
theorem dX5_opposite_0 : decode cX5_opposite 0 = .ok (.iconst 2, 1) := by decide +kernel
theorem dX5_opposite_1 : decode cX5_opposite 1 = .ok (.iload_n 1, 1) := by decide +kernel
theorem dX5_opposite_2 : decode cX5_opposite 2 = .ok (.imul, 1) := by decide +kernel
theorem dX5_opposite_3 : decode cX5_opposite 3 = .ok (.iload_n 0, 1) := by decide +kernel
theorem dX5_opposite_4 : decode cX5_opposite 4 = .ok (.isub, 1) := by decide +kernel
theorem dX5_opposite_5 : decode cX5_opposite 5 = .ok (.ireturn, 1) := by decide +kernel
theorem dX5_composed_0 : decode cX5_composed 0 = .ok (.iconst 3, 1) := by decide +kernel
theorem dX5_composed_1 : decode cX5_composed 1 = .ok (.iload_n 0, 1) := by decide +kernel
theorem dX5_composed_2 : decode cX5_composed 2 = .ok (.sipush 1365, 3) := by decide +kernel
theorem dX5_composed_5 : decode cX5_composed 5 = .ok (.iand, 1) := by decide +kernel
theorem dX5_composed_6 : decode cX5_composed 6 = .ok (.imul, 1) := by decide +kernel
theorem dX5_composed_7 : decode cX5_composed 7 = .ok (.istore_n 2, 1) := by decide +kernel
theorem dX5_composed_8 : decode cX5_composed 8 = .ok (.iload_n 0, 1) := by decide +kernel
theorem dX5_composed_9 : decode cX5_composed 9 = .ok (.iload_n 2, 1) := by decide +kernel
theorem dX5_composed_10 : decode cX5_composed 10 = .ok (.iconst (-1), 1) := by decide +kernel
theorem dX5_composed_11 : decode cX5_composed 11 = .ok (.ixor, 1) := by decide +kernel
theorem dX5_composed_12 : decode cX5_composed 12 = .ok (.iand, 1) := by decide +kernel
theorem dX5_composed_13 : decode cX5_composed 13 = .ok (.iload_n 1, 1) := by decide +kernel
theorem dX5_composed_14 : decode cX5_composed 14 = .ok (.iload_n 2, 1) := by decide +kernel
theorem dX5_composed_15 : decode cX5_composed 15 = .ok (.iand, 1) := by decide +kernel
theorem dX5_composed_16 : decode cX5_composed 16 = .ok (.ior, 1) := by decide +kernel
theorem dX5_composed_17 : decode cX5_composed 17 = .ok (.ireturn, 1) := by decide +kernel
theorem dX5_zeros_0 : decode cX5_zeros 0 = .ok (.iload_n 0, 1) := by decide +kernel
theorem dX5_zeros_1 : decode cX5_zeros 1 = .ok (.sipush 1365, 3) := by decide +kernel
theorem dX5_zeros_4 : decode cX5_zeros 4 = .ok (.iand, 1) := by decide +kernel
theorem dX5_zeros_5 : decode cX5_zeros 5 = .ok (.invokestatic 9, 3) := by decide +kernel
theorem dX5_zeros_8 : decode cX5_zeros 8 = .ok (.ireturn, 1) := by decide +kernel
theorem dX5_separation_0 : decode cX5_separation 0 = .ok (.iload_n 0, 1) := by decide +kernel
theorem dX5_separation_1 : decode cX5_separation 1 = .ok (.iload_n 1, 1) := by decide +kernel
theorem dX5_separation_2 : decode cX5_separation 2 = .ok (.ixor, 1) := by decide +kernel
theorem dX5_separation_3 : decode cX5_separation 3 = .ok (.istore_n 2, 1) := by decide +kernel
theorem dX5_separation_4 : decode cX5_separation 4 = .ok (.iload_n 2, 1) := by decide +kernel
theorem dX5_separation_5 : decode cX5_separation 5 = .ok (.iload_n 2, 1) := by decide +kernel
theorem dX5_separation_6 : decode cX5_separation 6 = .ok (.iconst 1, 1) := by decide +kernel
