theorem dX0_init_0 : decode cX0_init 0 = .ok (.aload_n 0, 1) := by decide +kernel
theorem dX0_init_1 : decode cX0_init 1 = .ok (.iconst 0, 1) := by decide +kernel
theorem dX0_init_2 : decode cX0_init 2 = .ok (.iconst 0, 1) := by decide +kernel
theorem dX0_init_3 : decode cX0_init 3 = .ok (.invokespecial 3, 3) := by decide +kernel
theorem dX0_init_6 : decode cX0_init 6 = .ok (.aload_n 0, 1) := by decide +kernel
theorem dX0_init_7 : decode cX0_init 7 = .ok (.new 9, 3) := by decide +kernel
theorem dX0_init_10 : decode cX0_init 10 = .ok (.dup, 1) := by decide +kernel
theorem dX0_init_11 : decode cX0_init 11 = .ok (.invokespecial 11, 3) := by decide +kernel
theorem dX0_init_14 : decode cX0_init 14 = .ok (.putfield 14, 3) := by decide +kernel
theorem dX0_init_17 : decode cX0_init 17 = .ok (.return_, 1) := by decide +kernel
theorem dX0_begin_0 : decode cX0_begin 0 = .ok (.aload_n 0, 1) := by decide +kernel
theorem dX0_begin_1 : decode cX0_begin 1 = .ok (.iconst (-1), 1) := by decide +kernel
theorem dX0_begin_2 : decode cX0_begin 2 = .ok (.putfield 20, 3) := by decide +kernel
theorem dX0_begin_5 : decode cX0_begin 5 = .ok (.aload_n 0, 1) := by decide +kernel
theorem dX0_begin_6 : decode cX0_begin 6 = .ok (.bipush (-9), 2) := by decide +kernel
theorem dX0_begin_8 : decode cX0_begin 8 = .ok (.putfield 24, 3) := by decide +kernel
theorem dX0_begin_11 : decode cX0_begin 11 = .ok (.return_, 1) := by decide +kernel
theorem dX0_meet_0 : decode cX0_meet 0 = .ok (.iconst 0, 1) := by decide +kernel
theorem dX0_meet_1 : decode cX0_meet 1 = .ok (.istore_n 3, 1) := by decide +kernel
theorem dX0_meet_2 : decode cX0_meet 2 = .ok (.iconst 0, 1) := by decide +kernel
theorem dX0_meet_3 : decode cX0_meet 3 = .ok (.istore 4, 2) := by decide +kernel
theorem dX0_meet_5 : decode cX0_meet 5 = .ok (.iload 4, 2) := by decide +kernel
theorem dX0_meet_7 : decode cX0_meet 7 = .ok (.aload_n 1, 1) := by decide +kernel
theorem dX0_meet_8 : decode cX0_meet 8 = .ok (.getfield 27, 3) := by decide +kernel
theorem dX0_meet_11 : decode cX0_meet 11 = .ok (.if_icmp .ge 33, 3) := by decide +kernel
theorem dX0_meet_14 : decode cX0_meet 14 = .ok (.aload_n 0, 1) := by decide +kernel
theorem dX0_meet_15 : decode cX0_meet 15 = .ok (.getfield 14, 3) := by decide +kernel
theorem dX0_meet_18 : decode cX0_meet 18 = .ok (.aload_n 1, 1) := by decide +kernel
theorem dX0_meet_19 : decode cX0_meet 19 = .ok (.aload_n 0, 1) := by decide +kernel
theorem dX0_meet_20 : decode cX0_meet 20 = .ok (.getfield 32, 3) := by decide +kernel
theorem dX0_meet_23 : decode cX0_meet 23 = .ok (.iload 4, 2) := by decide +kernel
theorem dX0_meet_25 : decode cX0_meet 25 = .ok (.invokevirtual 36, 3) := by decide +kernel
theorem dX0_meet_28 : decode cX0_meet 28 = .ok (.iload_n 3, 1) := by decide +kernel
theorem dX0_meet_29 : decode cX0_meet 29 = .ok (.aload_n 0, 1) := by decide +kernel
theorem dX0_meet_30 : decode cX0_meet 30 = .ok (.getfield 14, 3) := by decide +kernel
theorem dX0_meet_33 : decode cX0_meet 33 = .ok (.getfield 40, 3) := by decide +kernel
theorem dX0_meet_36 : decode cX0_meet 36 = .ok (.iadd, 1) := by decide +kernel
theorem dX0_meet_37 : decode cX0_meet 37 = .ok (.istore_n 3, 1) := by decide +kernel
theorem dX0_meet_38 : decode cX0_meet 38 = .ok (.iinc 4 1, 3) := by decide +kernel
theorem dX0_meet_41 : decode cX0_meet 41 = .ok (.goto (-36), 3) := by decide +kernel
theorem dX0_meet_44 : decode cX0_meet 44 = .ok (.iload_n 3, 1) := by decide +kernel
theorem dX0_meet_45 : decode cX0_meet 45 = .ok (.aload_n 0, 1) := by decide +kernel
theorem dX0_meet_46 : decode cX0_meet 46 = .ok (.getfield 20, 3) := by decide +kernel
theorem dX0_meet_49 : decode cX0_meet 49 = .ok (.if_icmp .le 13, 3) := by decide +kernel
theorem dX0_meet_52 : decode cX0_meet 52 = .ok (.aload_n 0, 1) := by decide +kernel
theorem dX0_meet_53 : decode cX0_meet 53 = .ok (.iload_n 3, 1) := by decide +kernel
theorem dX0_meet_54 : decode cX0_meet 54 = .ok (.putfield 20, 3) := by decide +kernel
theorem dX0_meet_57 : decode cX0_meet 57 = .ok (.aload_n 0, 1) := by decide +kernel
theorem dX0_meet_58 : decode cX0_meet 58 = .ok (.iload_n 2, 1) := by decide +kernel
theorem dX0_meet_59 : decode cX0_meet 59 = .ok (.putfield 24, 3) := by decide +kernel
theorem dX0_meet_62 : decode cX0_meet 62 = .ok (.return_, 1) := by decide +kernel
theorem dX1_init_0 : decode cX1_init 0 = .ok (.aload_n 0, 1) := by decide +kernel
theorem dX1_init_1 : decode cX1_init 1 = .ok (.invokespecial 3, 3) := by decide +kernel
theorem dX1_init_4 : decode cX1_init 4 = .ok (.aload_n 0, 1) := by decide +kernel
theorem dX1_init_5 : decode cX1_init 5 = .ok (.new 9, 3) := by decide +kernel
theorem dX1_init_8 : decode cX1_init 8 = .ok (.dup, 1) := by decide +kernel
theorem dX1_init_9 : decode cX1_init 9 = .ok (.invokespecial 11, 3) := by decide +kernel
theorem dX1_init_12 : decode cX1_init 12 = .ok (.putfield 12, 3) := by decide +kernel
theorem dX1_init_15 : decode cX1_init 15 = .ok (.aload_n 0, 1) := by decide +kernel
theorem dX1_init_16 : decode cX1_init 16 = .ok (.bipush 10, 2) := by decide +kernel
theorem dX1_init_18 : decode cX1_init 18 = .ok (.anewarray 9, 3) := by decide +kernel
theorem dX1_init_21 : decode cX1_init 21 = .ok (.putfield 18, 3) := by decide +kernel
theorem dX1_init_24 : decode cX1_init 24 = .ok (.iconst 0, 1) := by decide +kernel
theorem dX1_init_25 : decode cX1_init 25 = .ok (.istore_n 1, 1) := by decide +kernel
theorem dX1_init_26 : decode cX1_init 26 = .ok (.iload_n 1, 1) := by decide +kernel
theorem dX1_init_27 : decode cX1_init 27 = .ok (.bipush 10, 2) := by decide +kernel
theorem dX1_init_29 : decode cX1_init 29 = .ok (.if_icmp .ge 22, 3) := by decide +kernel
theorem dX1_init_32 : decode cX1_init 32 = .ok (.aload_n 0, 1) := by decide +kernel
theorem dX1_init_33 : decode cX1_init 33 = .ok (.getfield 18, 3) := by decide +kernel
theorem dX1_init_36 : decode cX1_init 36 = .ok (.iload_n 1, 1) := by decide +kernel
theorem dX1_init_37 : decode cX1_init 37 = .ok (.new 9, 3) := by decide +kernel
theorem dX1_init_40 : decode cX1_init 40 = .ok (.dup, 1) := by decide +kernel
theorem dX1_init_41 : decode cX1_init 41 = .ok (.invokespecial 11, 3) := by decide +kernel
theorem dX1_init_44 : decode cX1_init 44 = .ok (.aastore, 1) := by decide +kernel
theorem dX1_init_45 : decode cX1_init 45 = .ok (.iinc 1 1, 3) := by decide +kernel
theorem dX1_init_48 : decode cX1_init 48 = .ok (.goto (-22), 3) := by decide +kernel
theorem dX1_init_51 : decode cX1_init 51 = .ok (.return_, 1) := by decide +kernel
theorem dX1_layAll_0 : decode cX1_layAll 0 = .ok (.aload_n 0, 1) := by decide +kernel
theorem dX1_layAll_1 : decode cX1_layAll 1 = .ok (.getfield 12, 3) := by decide +kernel
theorem dX1_layAll_4 : decode cX1_layAll 4 = .ok (.iconst 0, 1) := by decide +kernel
theorem dX1_layAll_5 : decode cX1_layAll 5 = .ok (.putfield 22, 3) := by decide +kernel
theorem dX1_layAll_8 : decode cX1_layAll 8 = .ok (.aload_n 0, 1) := by decide +kernel
theorem dX1_layAll_9 : decode cX1_layAll 9 = .ok (.getfield 12, 3) := by decide +kernel
theorem dX1_layAll_12 : decode cX1_layAll 12 = .ok (.iconst 0, 1) := by decide +kernel
theorem dX1_layAll_13 : decode cX1_layAll 13 = .ok (.putfield 26, 3) := by decide +kernel
theorem dX1_layAll_16 : decode cX1_layAll 16 = .ok (.iconst 0, 1) := by decide +kernel
theorem dX1_layAll_17 : decode cX1_layAll 17 = .ok (.istore_n 2, 1) := by decide +kernel
theorem dX1_layAll_18 : decode cX1_layAll 18 = .ok (.iload_n 2, 1) := by decide +kernel
theorem dX1_layAll_19 : decode cX1_layAll 19 = .ok (.iload_n 1, 1) := by decide +kernel
theorem dX1_layAll_20 : decode cX1_layAll 20 = .ok (.if_icmp .ge 17, 3) := by decide +kernel
theorem dX1_layAll_23 : decode cX1_layAll 23 = .ok (.aload_n 0, 1) := by decide +kernel
theorem dX1_layAll_24 : decode cX1_layAll 24 = .ok (.getfield 12, 3) := by decide +kernel
theorem dX1_layAll_27 : decode cX1_layAll 27 = .ok (.iload_n 2, 1) := by decide +kernel
theorem dX1_layAll_28 : decode cX1_layAll 28 = .ok (.invokevirtual 29, 3) := by decide +kernel
theorem dX1_layAll_31 : decode cX1_layAll 31 = .ok (.iinc 2 1, 3) := by decide +kernel
theorem dX1_layAll_34 : decode cX1_layAll 34 = .ok (.goto (-16), 3) := by decide +kernel
theorem dX1_layAll_37 : decode cX1_layAll 37 = .ok (.aload_n 0, 1) := by decide +kernel
theorem dX1_layAll_38 : decode cX1_layAll 38 = .ok (.iconst 0, 1) := by decide +kernel
theorem dX1_layAll_39 : decode cX1_layAll 39 = .ok (.putfield 33, 3) := by decide +kernel
theorem dX1_layAll_42 : decode cX1_layAll 42 = .ok (.return_, 1) := by decide +kernel
theorem dX1_remember_0 : decode cX1_remember 0 = .ok (.aload_n 0, 1) := by decide +kernel
theorem dX1_remember_1 : decode cX1_remember 1 = .ok (.getfield 33, 3) := by decide +kernel
theorem dX1_remember_4 : decode cX1_remember 4 = .ok (.bipush 10, 2) := by decide +kernel
theorem dX1_remember_6 : decode cX1_remember 6 = .ok (.if_icmp .lt 7, 3) := by decide +kernel
theorem dX1_remember_9 : decode cX1_remember 9 = .ok (.aload_n 0, 1) := by decide +kernel
theorem dX1_remember_10 : decode cX1_remember 10 = .ok (.invokevirtual 36, 3) := by decide +kernel
theorem dX1_remember_13 : decode cX1_remember 13 = .ok (.aload_n 0, 1) := by decide +kernel
theorem dX1_remember_14 : decode cX1_remember 14 = .ok (.getfield 18, 3) := by decide +kernel
theorem dX1_remember_17 : decode cX1_remember 17 = .ok (.aload_n 0, 1) := by decide +kernel
theorem dX1_remember_18 : decode cX1_remember 18 = .ok (.getfield 33, 3) := by decide +kernel
theorem dX1_remember_21 : decode cX1_remember 21 = .ok (.aaload, 1) := by decide +kernel
theorem dX1_remember_22 : decode cX1_remember 22 = .ok (.aload_n 0, 1) := by decide +kernel
theorem dX1_remember_23 : decode cX1_remember 23 = .ok (.getfield 12, 3) := by decide +kernel
theorem dX1_remember_26 : decode cX1_remember 26 = .ok (.invokevirtual 39, 3) := by decide +kernel
theorem dX1_remember_29 : decode cX1_remember 29 = .ok (.aload_n 0, 1) := by decide +kernel
theorem dX1_remember_30 : decode cX1_remember 30 = .ok (.dup, 1) := by decide +kernel
theorem dX1_remember_31 : decode cX1_remember 31 = .ok (.getfield 33, 3) := by decide +kernel
theorem dX1_remember_34 : decode cX1_remember 34 = .ok (.iconst 1, 1) := by decide +kernel
theorem dX1_remember_35 : decode cX1_remember 35 = .ok (.iadd, 1) := by decide +kernel
theorem dX1_remember_36 : decode cX1_remember 36 = .ok (.putfield 33, 3) := by decide +kernel
theorem dX1_remember_39 : decode cX1_remember 39 = .ok (.return_, 1) := by decide +kernel
theorem dX1_loseOldest_0 : decode cX1_loseOldest 0 = .ok (.iconst 1, 1) := by decide +kernel
theorem dX1_loseOldest_1 : decode cX1_loseOldest 1 = .ok (.istore_n 1, 1) := by decide +kernel
theorem dX1_loseOldest_2 : decode cX1_loseOldest 2 = .ok (.iload_n 1, 1) := by decide +kernel
theorem dX1_loseOldest_3 : decode cX1_loseOldest 3 = .ok (.bipush 10, 2) := by decide +kernel
theorem dX1_loseOldest_5 : decode cX1_loseOldest 5 = .ok (.if_icmp .ge 26, 3) := by decide +kernel
theorem dX1_loseOldest_8 : decode cX1_loseOldest 8 = .ok (.aload_n 0, 1) := by decide +kernel
theorem dX1_loseOldest_9 : decode cX1_loseOldest 9 = .ok (.getfield 18, 3) := by decide +kernel
theorem dX1_loseOldest_12 : decode cX1_loseOldest 12 = .ok (.iload_n 1, 1) := by decide +kernel
theorem dX1_loseOldest_13 : decode cX1_loseOldest 13 = .ok (.iconst 1, 1) := by decide +kernel
theorem dX1_loseOldest_14 : decode cX1_loseOldest 14 = .ok (.isub, 1) := by decide +kernel
theorem dX1_loseOldest_15 : decode cX1_loseOldest 15 = .ok (.aaload, 1) := by decide +kernel
theorem dX1_loseOldest_16 : decode cX1_loseOldest 16 = .ok (.aload_n 0, 1) := by decide +kernel
theorem dX1_loseOldest_17 : decode cX1_loseOldest 17 = .ok (.getfield 18, 3) := by decide +kernel
theorem dX1_loseOldest_20 : decode cX1_loseOldest 20 = .ok (.iload_n 1, 1) := by decide +kernel
theorem dX1_loseOldest_21 : decode cX1_loseOldest 21 = .ok (.aaload, 1) := by decide +kernel
theorem dX1_loseOldest_22 : decode cX1_loseOldest 22 = .ok (.invokevirtual 39, 3) := by decide +kernel
theorem dX1_loseOldest_25 : decode cX1_loseOldest 25 = .ok (.iinc 1 1, 3) := by decide +kernel
theorem dX1_loseOldest_28 : decode cX1_loseOldest 28 = .ok (.goto (-26), 3) := by decide +kernel
theorem dX1_loseOldest_31 : decode cX1_loseOldest 31 = .ok (.aload_n 0, 1) := by decide +kernel
theorem dX1_loseOldest_32 : decode cX1_loseOldest 32 = .ok (.bipush 9, 2) := by decide +kernel
theorem dX1_loseOldest_34 : decode cX1_loseOldest 34 = .ok (.putfield 33, 3) := by decide +kernel
theorem dX1_loseOldest_37 : decode cX1_loseOldest 37 = .ok (.return_, 1) := by decide +kernel
theorem dX1_goBack_0 : decode cX1_goBack 0 = .ok (.aload_n 0, 1) := by decide +kernel
theorem dX1_goBack_1 : decode cX1_goBack 1 = .ok (.getfield 33, 3) := by decide +kernel
theorem dX1_goBack_4 : decode cX1_goBack 4 = .ok (.ifCond .gt 5, 3) := by decide +kernel
theorem dX1_goBack_7 : decode cX1_goBack 7 = .ok (.iconst 0, 1) := by decide +kernel
theorem dX1_goBack_8 : decode cX1_goBack 8 = .ok (.ireturn, 1) := by decide +kernel
theorem dX1_goBack_9 : decode cX1_goBack 9 = .ok (.aload_n 0, 1) := by decide +kernel
theorem dX1_goBack_10 : decode cX1_goBack 10 = .ok (.dup, 1) := by decide +kernel
theorem dX1_goBack_11 : decode cX1_goBack 11 = .ok (.getfield 33, 3) := by decide +kernel
theorem dX1_goBack_14 : decode cX1_goBack 14 = .ok (.iconst 1, 1) := by decide +kernel
theorem dX1_goBack_15 : decode cX1_goBack 15 = .ok (.isub, 1) := by decide +kernel
theorem dX1_goBack_16 : decode cX1_goBack 16 = .ok (.putfield 33, 3) := by decide +kernel
theorem dX1_goBack_19 : decode cX1_goBack 19 = .ok (.aload_n 0, 1) := by decide +kernel
theorem dX1_goBack_20 : decode cX1_goBack 20 = .ok (.getfield 12, 3) := by decide +kernel
theorem dX1_goBack_23 : decode cX1_goBack 23 = .ok (.aload_n 0, 1) := by decide +kernel
theorem dX1_goBack_24 : decode cX1_goBack 24 = .ok (.getfield 18, 3) := by decide +kernel
theorem dX1_goBack_27 : decode cX1_goBack 27 = .ok (.aload_n 0, 1) := by decide +kernel
theorem dX1_goBack_28 : decode cX1_goBack 28 = .ok (.getfield 33, 3) := by decide +kernel
theorem dX1_goBack_31 : decode cX1_goBack 31 = .ok (.aaload, 1) := by decide +kernel
theorem dX1_goBack_32 : decode cX1_goBack 32 = .ok (.invokevirtual 39, 3) := by decide +kernel
theorem dX1_goBack_35 : decode cX1_goBack 35 = .ok (.iconst 1, 1) := by decide +kernel
theorem dX1_goBack_36 : decode cX1_goBack 36 = .ok (.ireturn, 1) := by decide +kernel
theorem dX1_copy_0 : decode cX1_copy 0 = .ok (.aload_n 0, 1) := by decide +kernel
theorem dX1_copy_1 : decode cX1_copy 1 = .ok (.getfield 12, 3) := by decide +kernel
theorem dX1_copy_4 : decode cX1_copy 4 = .ok (.aload_n 1, 1) := by decide +kernel
theorem dX1_copy_5 : decode cX1_copy 5 = .ok (.getfield 12, 3) := by decide +kernel
theorem dX1_copy_8 : decode cX1_copy 8 = .ok (.invokevirtual 39, 3) := by decide +kernel
theorem dX1_copy_11 : decode cX1_copy 11 = .ok (.aload_n 0, 1) := by decide +kernel
theorem dX1_copy_12 : decode cX1_copy 12 = .ok (.aload_n 1, 1) := by decide +kernel
theorem dX1_copy_13 : decode cX1_copy 13 = .ok (.getfield 33, 3) := by decide +kernel
theorem dX1_copy_16 : decode cX1_copy 16 = .ok (.putfield 33, 3) := by decide +kernel
theorem dX1_copy_19 : decode cX1_copy 19 = .ok (.iconst 0, 1) := by decide +kernel
theorem dX1_copy_20 : decode cX1_copy 20 = .ok (.istore_n 2, 1) := by decide +kernel
theorem dX1_copy_21 : decode cX1_copy 21 = .ok (.iload_n 2, 1) := by decide +kernel
theorem dX1_copy_22 : decode cX1_copy 22 = .ok (.aload_n 0, 1) := by decide +kernel
theorem dX1_copy_23 : decode cX1_copy 23 = .ok (.getfield 33, 3) := by decide +kernel
theorem dX1_copy_26 : decode cX1_copy 26 = .ok (.if_icmp .ge 24, 3) := by decide +kernel
theorem dX1_copy_29 : decode cX1_copy 29 = .ok (.aload_n 0, 1) := by decide +kernel
theorem dX1_copy_30 : decode cX1_copy 30 = .ok (.getfield 18, 3) := by decide +kernel
theorem dX1_copy_33 : decode cX1_copy 33 = .ok (.iload_n 2, 1) := by decide +kernel
theorem dX1_copy_34 : decode cX1_copy 34 = .ok (.aaload, 1) := by decide +kernel
theorem dX1_copy_35 : decode cX1_copy 35 = .ok (.aload_n 1, 1) := by decide +kernel
theorem dX1_copy_36 : decode cX1_copy 36 = .ok (.getfield 18, 3) := by decide +kernel
theorem dX1_copy_39 : decode cX1_copy 39 = .ok (.iload_n 2, 1) := by decide +kernel
theorem dX1_copy_40 : decode cX1_copy 40 = .ok (.aaload, 1) := by decide +kernel
theorem dX1_copy_41 : decode cX1_copy 41 = .ok (.invokevirtual 39, 3) := by decide +kernel
theorem dX1_copy_44 : decode cX1_copy 44 = .ok (.iinc 2 1, 3) := by decide +kernel
theorem dX1_copy_47 : decode cX1_copy 47 = .ok (.goto (-26), 3) := by decide +kernel
theorem dX1_copy_50 : decode cX1_copy 50 = .ok (.return_, 1) := by decide +kernel
theorem dX2_init_0 : decode cX2_init 0 = .ok (.aload_n 0, 1) := by decide +kernel
theorem dX2_init_1 : decode cX2_init 1 = .ok (.invokespecial 3, 3) := by decide +kernel
theorem dX2_init_4 : decode cX2_init 4 = .ok (.aload_n 0, 1) := by decide +kernel
theorem dX2_init_5 : decode cX2_init 5 = .ok (.sipush 1350, 3) := by decide +kernel
theorem dX2_init_8 : decode cX2_init 8 = .ok (.newarray .int, 2) := by decide +kernel
theorem dX2_init_10 : decode cX2_init 10 = .ok (.putfield 11, 3) := by decide +kernel
theorem dX2_init_13 : decode cX2_init 13 = .ok (.aload_n 0, 1) := by decide +kernel
theorem dX2_init_14 : decode cX2_init 14 = .ok (.invokevirtual 15, 3) := by decide +kernel
theorem dX2_init_17 : decode cX2_init 17 = .ok (.return_, 1) := by decide +kernel
theorem dX2_empty_0 : decode cX2_empty 0 = .ok (.aload_n 0, 1) := by decide +kernel
theorem dX2_empty_1 : decode cX2_empty 1 = .ok (.getfield 11, 3) := by decide +kernel
theorem dX2_empty_4 : decode cX2_empty 4 = .ok (.iconst 0, 1) := by decide +kernel
theorem dX2_empty_5 : decode cX2_empty 5 = .ok (.invokestatic 18, 3) := by decide +kernel
theorem dX2_empty_8 : decode cX2_empty 8 = .ok (.aload_n 0, 1) := by decide +kernel
theorem dX2_empty_9 : decode cX2_empty 9 = .ok (.iconst 1, 1) := by decide +kernel
theorem dX2_empty_10 : decode cX2_empty 10 = .ok (.invokevirtual 24, 3) := by decide +kernel
theorem dX2_empty_13 : decode cX2_empty 13 = .ok (.aload_n 0, 1) := by decide +kernel
theorem dX2_empty_14 : decode cX2_empty 14 = .ok (.iconst 2, 1) := by decide +kernel
theorem dX2_empty_15 : decode cX2_empty 15 = .ok (.putfield 28, 3) := by decide +kernel
theorem dX2_empty_18 : decode cX2_empty 18 = .ok (.return_, 1) := by decide +kernel
theorem dX2_add_0 : decode cX2_add 0 = .ok (.iconst 1, 1) := by decide +kernel
theorem dX2_add_1 : decode cX2_add 1 = .ok (.istore 4, 2) := by decide +kernel
theorem dX2_add_3 : decode cX2_add 3 = .ok (.iload_n 2, 1) := by decide +kernel
theorem dX2_add_4 : decode cX2_add 4 = .ok (.istore 5, 2) := by decide +kernel
theorem dX2_add_6 : decode cX2_add 6 = .ok (.iload 5, 2) := by decide +kernel
theorem dX2_add_8 : decode cX2_add 8 = .ok (.iload_n 2, 1) := by decide +kernel
theorem dX2_add_9 : decode cX2_add 9 = .ok (.iload_n 3, 1) := by decide +kernel
theorem dX2_add_10 : decode cX2_add 10 = .ok (.iadd, 1) := by decide +kernel
theorem dX2_add_11 : decode cX2_add 11 = .ok (.if_icmp .ge 21, 3) := by decide +kernel
theorem dX2_add_14 : decode cX2_add 14 = .ok (.aload_n 0, 1) := by decide +kernel
theorem dX2_add_15 : decode cX2_add 15 = .ok (.iload 4, 2) := by decide +kernel
theorem dX2_add_17 : decode cX2_add 17 = .ok (.aload_n 1, 1) := by decide +kernel
theorem dX2_add_18 : decode cX2_add 18 = .ok (.iload 5, 2) := by decide +kernel
theorem dX2_add_20 : decode cX2_add 20 = .ok (.iaload, 1) := by decide +kernel
theorem dX2_add_21 : decode cX2_add 21 = .ok (.invokevirtual 32, 3) := by decide +kernel
theorem dX2_add_24 : decode cX2_add 24 = .ok (.istore 4, 2) := by decide +kernel
theorem dX2_add_26 : decode cX2_add 26 = .ok (.iinc 5 1, 3) := by decide +kernel
theorem dX2_add_29 : decode cX2_add 29 = .ok (.goto (-23), 3) := by decide +kernel
theorem dX2_add_32 : decode cX2_add 32 = .ok (.aload_n 0, 1) := by decide +kernel
theorem dX2_add_33 : decode cX2_add 33 = .ok (.iload 4, 2) := by decide +kernel
theorem dX2_add_35 : decode cX2_add 35 = .ok (.invokevirtual 24, 3) := by decide +kernel
theorem dX2_add_38 : decode cX2_add 38 = .ok (.return_, 1) := by decide +kernel
theorem dX2_grow_0 : decode cX2_grow 0 = .ok (.iload_n 1, 1) := by decide +kernel
theorem dX2_grow_1 : decode cX2_grow 1 = .ok (.bipush 27, 2) := by decide +kernel
theorem dX2_grow_3 : decode cX2_grow 3 = .ok (.imul, 1) := by decide +kernel
theorem dX2_grow_4 : decode cX2_grow 4 = .ok (.iload_n 2, 1) := by decide +kernel
theorem dX2_grow_5 : decode cX2_grow 5 = .ok (.iadd, 1) := by decide +kernel
theorem dX2_grow_6 : decode cX2_grow 6 = .ok (.istore_n 3, 1) := by decide +kernel
theorem dX2_grow_7 : decode cX2_grow 7 = .ok (.aload_n 0, 1) := by decide +kernel
theorem dX2_grow_8 : decode cX2_grow 8 = .ok (.getfield 11, 3) := by decide +kernel
theorem dX2_grow_11 : decode cX2_grow 11 = .ok (.iload_n 3, 1) := by decide +kernel
theorem dX2_grow_12 : decode cX2_grow 12 = .ok (.iaload, 1) := by decide +kernel
theorem dX2_grow_13 : decode cX2_grow 13 = .ok (.ifCond .ne 32, 3) := by decide +kernel
theorem dX2_grow_16 : decode cX2_grow 16 = .ok (.aload_n 0, 1) := by decide +kernel
theorem dX2_grow_17 : decode cX2_grow 17 = .ok (.getfield 28, 3) := by decide +kernel
theorem dX2_grow_20 : decode cX2_grow 20 = .ok (.bipush 50, 2) := by decide +kernel
theorem dX2_grow_22 : decode cX2_grow 22 = .ok (.if_icmp .ge 23, 3) := by decide +kernel
theorem dX2_grow_25 : decode cX2_grow 25 = .ok (.aload_n 0, 1) := by decide +kernel
theorem dX2_grow_26 : decode cX2_grow 26 = .ok (.getfield 11, 3) := by decide +kernel
theorem dX2_grow_29 : decode cX2_grow 29 = .ok (.iload_n 3, 1) := by decide +kernel
theorem dX2_grow_30 : decode cX2_grow 30 = .ok (.aload_n 0, 1) := by decide +kernel
theorem dX2_grow_31 : decode cX2_grow 31 = .ok (.getfield 28, 3) := by decide +kernel
theorem dX2_grow_34 : decode cX2_grow 34 = .ok (.iastore, 1) := by decide +kernel
theorem dX2_grow_35 : decode cX2_grow 35 = .ok (.aload_n 0, 1) := by decide +kernel
theorem dX2_grow_36 : decode cX2_grow 36 = .ok (.dup, 1) := by decide +kernel
theorem dX2_grow_37 : decode cX2_grow 37 = .ok (.getfield 28, 3) := by decide +kernel
theorem dX2_grow_40 : decode cX2_grow 40 = .ok (.iconst 1, 1) := by decide +kernel
theorem dX2_grow_41 : decode cX2_grow 41 = .ok (.iadd, 1) := by decide +kernel
theorem dX2_grow_42 : decode cX2_grow 42 = .ok (.putfield 28, 3) := by decide +kernel
theorem dX2_grow_45 : decode cX2_grow 45 = .ok (.aload_n 0, 1) := by decide +kernel
theorem dX2_grow_46 : decode cX2_grow 46 = .ok (.getfield 11, 3) := by decide +kernel
theorem dX2_grow_49 : decode cX2_grow 49 = .ok (.iload_n 3, 1) := by decide +kernel
theorem dX2_grow_50 : decode cX2_grow 50 = .ok (.iaload, 1) := by decide +kernel
theorem dX2_grow_51 : decode cX2_grow 51 = .ok (.ireturn, 1) := by decide +kernel
theorem dX2_mayEndAt_0 : decode cX2_mayEndAt 0 = .ok (.aload_n 0, 1) := by decide +kernel
theorem dX2_mayEndAt_1 : decode cX2_mayEndAt 1 = .ok (.getfield 11, 3) := by decide +kernel
theorem dX2_mayEndAt_4 : decode cX2_mayEndAt 4 = .ok (.iload_n 1, 1) := by decide +kernel
theorem dX2_mayEndAt_5 : decode cX2_mayEndAt 5 = .ok (.bipush 27, 2) := by decide +kernel
theorem dX2_mayEndAt_7 : decode cX2_mayEndAt 7 = .ok (.imul, 1) := by decide +kernel
theorem dX2_mayEndAt_8 : decode cX2_mayEndAt 8 = .ok (.bipush 26, 2) := by decide +kernel
theorem dX2_mayEndAt_10 : decode cX2_mayEndAt 10 = .ok (.iadd, 1) := by decide +kernel
theorem dX2_mayEndAt_11 : decode cX2_mayEndAt 11 = .ok (.iconst 1, 1) := by decide +kernel
theorem dX2_mayEndAt_12 : decode cX2_mayEndAt 12 = .ok (.iastore, 1) := by decide +kernel
theorem dX2_mayEndAt_13 : decode cX2_mayEndAt 13 = .ok (.return_, 1) := by decide +kernel
theorem dX2_step_0 : decode cX2_step 0 = .ok (.aload_n 0, 1) := by decide +kernel
theorem dX2_step_1 : decode cX2_step 1 = .ok (.getfield 11, 3) := by decide +kernel
theorem dX2_step_4 : decode cX2_step 4 = .ok (.iload_n 1, 1) := by decide +kernel
theorem dX2_step_5 : decode cX2_step 5 = .ok (.bipush 27, 2) := by decide +kernel
theorem dX2_step_7 : decode cX2_step 7 = .ok (.imul, 1) := by decide +kernel
theorem dX2_step_8 : decode cX2_step 8 = .ok (.iload_n 2, 1) := by decide +kernel
theorem dX2_step_9 : decode cX2_step 9 = .ok (.iadd, 1) := by decide +kernel
theorem dX2_step_10 : decode cX2_step 10 = .ok (.iaload, 1) := by decide +kernel
theorem dX2_step_11 : decode cX2_step 11 = .ok (.ireturn, 1) := by decide +kernel
theorem dX2_endsAt_0 : decode cX2_endsAt 0 = .ok (.aload_n 0, 1) := by decide +kernel
theorem dX2_endsAt_1 : decode cX2_endsAt 1 = .ok (.getfield 11, 3) := by decide +kernel
theorem dX2_endsAt_4 : decode cX2_endsAt 4 = .ok (.iload_n 1, 1) := by decide +kernel
theorem dX2_endsAt_5 : decode cX2_endsAt 5 = .ok (.bipush 27, 2) := by decide +kernel
theorem dX2_endsAt_7 : decode cX2_endsAt 7 = .ok (.imul, 1) := by decide +kernel
theorem dX2_endsAt_8 : decode cX2_endsAt 8 = .ok (.bipush 26, 2) := by decide +kernel
theorem dX2_endsAt_10 : decode cX2_endsAt 10 = .ok (.iadd, 1) := by decide +kernel
theorem dX2_endsAt_11 : decode cX2_endsAt 11 = .ok (.iaload, 1) := by decide +kernel
theorem dX2_endsAt_12 : decode cX2_endsAt 12 = .ok (.iconst 1, 1) := by decide +kernel
theorem dX2_endsAt_13 : decode cX2_endsAt 13 = .ok (.if_icmp .ne 7, 3) := by decide +kernel
theorem dX2_endsAt_16 : decode cX2_endsAt 16 = .ok (.iconst 1, 1) := by decide +kernel
theorem dX2_endsAt_17 : decode cX2_endsAt 17 = .ok (.goto 4, 3) := by decide +kernel
theorem dX2_endsAt_20 : decode cX2_endsAt 20 = .ok (.iconst 0, 1) := by decide +kernel
theorem dX2_endsAt_21 : decode cX2_endsAt 21 = .ok (.ireturn, 1) := by decide +kernel
theorem dX3_init_0 : decode cX3_init 0 = .ok (.aload_n 0, 1) := by decide +kernel
theorem dX3_init_1 : decode cX3_init 1 = .ok (.iconst 1, 1) := by decide +kernel
theorem dX3_init_2 : decode cX3_init 2 = .ok (.iconst 1, 1) := by decide +kernel
theorem dX3_init_3 : decode cX3_init 3 = .ok (.invokespecial 3, 3) := by decide +kernel
theorem dX3_init_6 : decode cX3_init 6 = .ok (.aload_n 0, 1) := by decide +kernel
theorem dX3_init_7 : decode cX3_init 7 = .ok (.iconst (-1), 1) := by decide +kernel
theorem dX3_init_8 : decode cX3_init 8 = .ok (.putfield 11, 3) := by decide +kernel
theorem dX3_init_11 : decode cX3_init 11 = .ok (.return_, 1) := by decide +kernel
theorem dX3_drop_0 : decode cX3_drop 0 = .ok (.aload_n 0, 1) := by decide +kernel
theorem dX3_drop_1 : decode cX3_drop 1 = .ok (.iconst (-1), 1) := by decide +kernel
theorem dX3_drop_2 : decode cX3_drop 2 = .ok (.putfield 11, 3) := by decide +kernel
theorem dX3_drop_5 : decode cX3_drop 5 = .ok (.return_, 1) := by decide +kernel
theorem dX3_knows_0 : decode cX3_knows 0 = .ok (.aload_n 1, 1) := by decide +kernel
theorem dX3_knows_1 : decode cX3_knows 1 = .ok (.invokevirtual 15, 3) := by decide +kernel
theorem dX3_knows_4 : decode cX3_knows 4 = .ok (.aload_n 0, 1) := by decide +kernel
theorem dX3_knows_5 : decode cX3_knows 5 = .ok (.getfield 11, 3) := by decide +kernel
theorem dX3_knows_8 : decode cX3_knows 8 = .ok (.if_icmp .ne 7, 3) := by decide +kernel
theorem dX3_knows_11 : decode cX3_knows 11 = .ok (.iconst 1, 1) := by decide +kernel
theorem dX3_knows_12 : decode cX3_knows 12 = .ok (.goto 4, 3) := by decide +kernel
theorem dX3_knows_15 : decode cX3_knows 15 = .ok (.iconst 0, 1) := by decide +kernel
theorem dX3_knows_16 : decode cX3_knows 16 = .ok (.ireturn, 1) := by decide +kernel
theorem dX3_begin_0 : decode cX3_begin 0 = .ok (.aload_n 0, 1) := by decide +kernel
theorem dX3_begin_1 : decode cX3_begin 1 = .ok (.aload_n 1, 1) := by decide +kernel
theorem dX3_begin_2 : decode cX3_begin 2 = .ok (.invokevirtual 15, 3) := by decide +kernel
theorem dX3_begin_5 : decode cX3_begin 5 = .ok (.putfield 11, 3) := by decide +kernel
theorem dX3_begin_8 : decode cX3_begin 8 = .ok (.aload_n 0, 1) := by decide +kernel
theorem dX3_begin_9 : decode cX3_begin 9 = .ok (.iconst 0, 1) := by decide +kernel
theorem dX3_begin_10 : decode cX3_begin 10 = .ok (.putfield 21, 3) := by decide +kernel
theorem dX3_begin_13 : decode cX3_begin 13 = .ok (.aload_n 0, 1) := by decide +kernel
theorem dX3_begin_14 : decode cX3_begin 14 = .ok (.bipush (-9), 2) := by decide +kernel
theorem dX3_begin_16 : decode cX3_begin 16 = .ok (.putfield 24, 3) := by decide +kernel
theorem dX3_begin_19 : decode cX3_begin 19 = .ok (.aload_n 0, 1) := by decide +kernel
theorem dX3_begin_20 : decode cX3_begin 20 = .ok (.bipush (-9), 2) := by decide +kernel
theorem dX3_begin_22 : decode cX3_begin 22 = .ok (.putfield 27, 3) := by decide +kernel
theorem dX3_begin_25 : decode cX3_begin 25 = .ok (.return_, 1) := by decide +kernel
theorem dX3_meet_0 : decode cX3_meet 0 = .ok (.aload_n 0, 1) := by decide +kernel
theorem dX3_meet_1 : decode cX3_meet 1 = .ok (.getfield 30, 3) := by decide +kernel
theorem dX3_meet_4 : decode cX3_meet 4 = .ok (.getfield 34, 3) := by decide +kernel
theorem dX3_meet_7 : decode cX3_meet 7 = .ok (.aload_n 0, 1) := by decide +kernel
theorem dX3_meet_8 : decode cX3_meet 8 = .ok (.getfield 11, 3) := by decide +kernel
theorem dX3_meet_11 : decode cX3_meet 11 = .ok (.iand, 1) := by decide +kernel
theorem dX3_meet_12 : decode cX3_meet 12 = .ok (.istore_n 3, 1) := by decide +kernel
theorem dX3_meet_13 : decode cX3_meet 13 = .ok (.aload_n 0, 1) := by decide +kernel
theorem dX3_meet_14 : decode cX3_meet 14 = .ok (.getfield 21, 3) := by decide +kernel
theorem dX3_meet_17 : decode cX3_meet 17 = .ok (.ifCond .eq 27, 3) := by decide +kernel
theorem dX3_meet_20 : decode cX3_meet 20 = .ok (.iload_n 2, 1) := by decide +kernel
theorem dX3_meet_21 : decode cX3_meet 21 = .ok (.aload_n 0, 1) := by decide +kernel
theorem dX3_meet_22 : decode cX3_meet 22 = .ok (.getfield 24, 3) := by decide +kernel
theorem dX3_meet_25 : decode cX3_meet 25 = .ok (.if_icmp .lt 19, 3) := by decide +kernel
theorem dX3_meet_28 : decode cX3_meet 28 = .ok (.iload_n 2, 1) := by decide +kernel
theorem dX3_meet_29 : decode cX3_meet 29 = .ok (.aload_n 0, 1) := by decide +kernel
theorem dX3_meet_30 : decode cX3_meet 30 = .ok (.getfield 24, 3) := by decide +kernel
theorem dX3_meet_33 : decode cX3_meet 33 = .ok (.if_icmp .ne 21, 3) := by decide +kernel
theorem dX3_meet_36 : decode cX3_meet 36 = .ok (.iload_n 3, 1) := by decide +kernel
theorem dX3_meet_37 : decode cX3_meet 37 = .ok (.aload_n 0, 1) := by decide +kernel
theorem dX3_meet_38 : decode cX3_meet 38 = .ok (.getfield 27, 3) := by decide +kernel
theorem dX3_meet_41 : decode cX3_meet 41 = .ok (.if_icmp .ge 13, 3) := by decide +kernel
theorem dX3_meet_44 : decode cX3_meet 44 = .ok (.aload_n 0, 1) := by decide +kernel
theorem dX3_meet_45 : decode cX3_meet 45 = .ok (.iload_n 2, 1) := by decide +kernel
theorem dX3_meet_46 : decode cX3_meet 46 = .ok (.putfield 24, 3) := by decide +kernel
theorem dX3_meet_49 : decode cX3_meet 49 = .ok (.aload_n 0, 1) := by decide +kernel
theorem dX3_meet_50 : decode cX3_meet 50 = .ok (.iload_n 3, 1) := by decide +kernel
theorem dX3_meet_51 : decode cX3_meet 51 = .ok (.putfield 27, 3) := by decide +kernel
theorem dX3_meet_54 : decode cX3_meet 54 = .ok (.aload_n 0, 1) := by decide +kernel
theorem dX3_meet_55 : decode cX3_meet 55 = .ok (.dup, 1) := by decide +kernel
theorem dX3_meet_56 : decode cX3_meet 56 = .ok (.getfield 21, 3) := by decide +kernel
theorem dX3_meet_59 : decode cX3_meet 59 = .ok (.iconst 1, 1) := by decide +kernel
theorem dX3_meet_60 : decode cX3_meet 60 = .ok (.iadd, 1) := by decide +kernel
theorem dX3_meet_61 : decode cX3_meet 61 = .ok (.putfield 21, 3) := by decide +kernel
theorem dX3_meet_64 : decode cX3_meet 64 = .ok (.return_, 1) := by decide +kernel
theorem dX4_init_0 : decode cX4_init 0 = .ok (.aload_n 0, 1) := by decide +kernel
theorem dX4_init_1 : decode cX4_init 1 = .ok (.invokespecial 3, 3) := by decide +kernel
theorem dX4_init_4 : decode cX4_init 4 = .ok (.return_, 1) := by decide +kernel
theorem dX4_read_0 : decode cX4_read 0 = .ok (.aload_n 0, 1) := by decide +kernel
theorem dX4_read_1 : decode cX4_read 1 = .ok (.iconst 0, 1) := by decide +kernel
theorem dX4_read_2 : decode cX4_read 2 = .ok (.putfield 9, 3) := by decide +kernel
theorem dX4_read_5 : decode cX4_read 5 = .ok (.aload_n 0, 1) := by decide +kernel
theorem dX4_read_6 : decode cX4_read 6 = .ok (.iconst 0, 1) := by decide +kernel
theorem dX4_read_7 : decode cX4_read 7 = .ok (.putfield 15, 3) := by decide +kernel
theorem dX4_read_10 : decode cX4_read 10 = .ok (.aload_n 0, 1) := by decide +kernel
theorem dX4_read_11 : decode cX4_read 11 = .ok (.iconst 0, 1) := by decide +kernel
theorem dX4_read_12 : decode cX4_read 12 = .ok (.putfield 18, 3) := by decide +kernel
theorem dX4_read_15 : decode cX4_read 15 = .ok (.aload_n 0, 1) := by decide +kernel
theorem dX4_read_16 : decode cX4_read 16 = .ok (.iconst 0, 1) := by decide +kernel
theorem dX4_read_17 : decode cX4_read 17 = .ok (.putfield 21, 3) := by decide +kernel
theorem dX4_read_20 : decode cX4_read 20 = .ok (.aload_n 0, 1) := by decide +kernel
theorem dX4_read_21 : decode cX4_read 21 = .ok (.iconst 1, 1) := by decide +kernel
theorem dX4_read_22 : decode cX4_read 22 = .ok (.putfield 26, 3) := by decide +kernel
theorem dX4_read_25 : decode cX4_read 25 = .ok (.aload_n 0, 1) := by decide +kernel
theorem dX4_read_26 : decode cX4_read 26 = .ok (.iconst 0, 1) := by decide +kernel
theorem dX4_read_27 : decode cX4_read 27 = .ok (.putfield 29, 3) := by decide +kernel
theorem dX4_read_30 : decode cX4_read 30 = .ok (.iconst 0, 1) := by decide +kernel
theorem dX4_read_31 : decode cX4_read 31 = .ok (.istore 4, 2) := by decide +kernel
theorem dX4_read_33 : decode cX4_read 33 = .ok (.iload 4, 2) := by decide +kernel
theorem dX4_read_35 : decode cX4_read 35 = .ok (.iconst 2, 1) := by decide +kernel
theorem dX4_read_36 : decode cX4_read 36 = .ok (.aload_n 2, 1) := by decide +kernel
theorem dX4_read_37 : decode cX4_read 37 = .ok (.getfield 32, 3) := by decide +kernel
theorem dX4_read_40 : decode cX4_read 40 = .ok (.imul, 1) := by decide +kernel
theorem dX4_read_41 : decode cX4_read 41 = .ok (.if_icmp .ge 84, 3) := by decide +kernel
theorem dX4_read_44 : decode cX4_read 44 = .ok (.aload_n 2, 1) := by decide +kernel
theorem dX4_read_45 : decode cX4_read 45 = .ok (.getfield 37, 3) := by decide +kernel
theorem dX4_read_48 : decode cX4_read 48 = .ok (.iload 4, 2) := by decide +kernel
theorem dX4_read_50 : decode cX4_read 50 = .ok (.iconst 2, 1) := by decide +kernel
theorem dX4_read_51 : decode cX4_read 51 = .ok (.idiv, 1) := by decide +kernel
theorem dX4_read_52 : decode cX4_read 52 = .ok (.iaload, 1) := by decide +kernel
theorem dX4_read_53 : decode cX4_read 53 = .ok (.istore 5, 2) := by decide +kernel
theorem dX4_read_55 : decode cX4_read 55 = .ok (.aload_n 1, 1) := by decide +kernel
theorem dX4_read_56 : decode cX4_read 56 = .ok (.iload 5, 2) := by decide +kernel
theorem dX4_read_58 : decode cX4_read 58 = .ok (.aload_n 2, 1) := by decide +kernel
theorem dX4_read_59 : decode cX4_read 59 = .ok (.iload 5, 2) := by decide +kernel
theorem dX4_read_61 : decode cX4_read 61 = .ok (.invokevirtual 41, 3) := by decide +kernel
theorem dX4_read_64 : decode cX4_read 64 = .ok (.iload_n 3, 1) := by decide +kernel
theorem dX4_read_65 : decode cX4_read 65 = .ok (.iload 4, 2) := by decide +kernel
theorem dX4_read_67 : decode cX4_read 67 = .ok (.iconst 2, 1) := by decide +kernel
theorem dX4_read_68 : decode cX4_read 68 = .ok (.irem, 1) := by decide +kernel
theorem dX4_read_69 : decode cX4_read 69 = .ok (.invokevirtual 45, 3) := by decide +kernel
theorem dX4_read_72 : decode cX4_read 72 = .ok (.istore 6, 2) := by decide +kernel
theorem dX4_read_74 : decode cX4_read 74 = .ok (.iload 6, 2) := by decide +kernel
theorem dX4_read_76 : decode cX4_read 76 = .ok (.bipush 26, 2) := by decide +kernel
theorem dX4_read_78 : decode cX4_read 78 = .ok (.if_icmp .ne 14, 3) := by decide +kernel
theorem dX4_read_81 : decode cX4_read 81 = .ok (.aload_n 0, 1) := by decide +kernel
theorem dX4_read_82 : decode cX4_read 82 = .ok (.aload_n 1, 1) := by decide +kernel
theorem dX4_read_83 : decode cX4_read 83 = .ok (.getfield 51, 3) := by decide +kernel
theorem dX4_read_86 : decode cX4_read 86 = .ok (.invokevirtual 55, 3) := by decide +kernel
theorem dX4_read_89 : decode cX4_read 89 = .ok (.goto 30, 3) := by decide +kernel
theorem dX4_read_92 : decode cX4_read 92 = .ok (.aload_n 0, 1) := by decide +kernel
theorem dX4_read_93 : decode cX4_read 93 = .ok (.dup, 1) := by decide +kernel
theorem dX4_read_94 : decode cX4_read 94 = .ok (.getfield 29, 3) := by decide +kernel
theorem dX4_read_97 : decode cX4_read 97 = .ok (.iconst 1, 1) := by decide +kernel
theorem dX4_read_98 : decode cX4_read 98 = .ok (.iadd, 1) := by decide +kernel
theorem dX4_read_99 : decode cX4_read 99 = .ok (.putfield 29, 3) := by decide +kernel
theorem dX4_read_102 : decode cX4_read 102 = .ok (.aload_n 0, 1) := by decide +kernel
theorem dX4_read_103 : decode cX4_read 103 = .ok (.aload_n 1, 1) := by decide +kernel
theorem dX4_read_104 : decode cX4_read 104 = .ok (.getfield 51, 3) := by decide +kernel
theorem dX4_read_107 : decode cX4_read 107 = .ok (.aload_n 0, 1) := by decide +kernel
theorem dX4_read_108 : decode cX4_read 108 = .ok (.getfield 26, 3) := by decide +kernel
theorem dX4_read_111 : decode cX4_read 111 = .ok (.iload 6, 2) := by decide +kernel
theorem dX4_read_113 : decode cX4_read 113 = .ok (.invokevirtual 59, 3) := by decide +kernel
theorem dX4_read_116 : decode cX4_read 116 = .ok (.putfield 26, 3) := by decide +kernel
theorem dX4_read_119 : decode cX4_read 119 = .ok (.iinc 4 1, 3) := by decide +kernel
theorem dX4_read_122 : decode cX4_read 122 = .ok (.goto (-89), 3) := by decide +kernel
theorem dX4_read_125 : decode cX4_read 125 = .ok (.aload_n 0, 1) := by decide +kernel
theorem dX4_read_126 : decode cX4_read 126 = .ok (.aload_n 1, 1) := by decide +kernel
theorem dX4_read_127 : decode cX4_read 127 = .ok (.getfield 51, 3) := by decide +kernel
theorem dX4_read_130 : decode cX4_read 130 = .ok (.invokevirtual 55, 3) := by decide +kernel
theorem dX4_read_133 : decode cX4_read 133 = .ok (.return_, 1) := by decide +kernel
theorem dX4_endRun_0 : decode cX4_endRun 0 = .ok (.aload_n 0, 1) := by decide +kernel
theorem dX4_endRun_1 : decode cX4_endRun 1 = .ok (.getfield 29, 3) := by decide +kernel
theorem dX4_endRun_4 : decode cX4_endRun 4 = .ok (.ifCond .le 60, 3) := by decide +kernel
theorem dX4_endRun_7 : decode cX4_endRun 7 = .ok (.aload_n 0, 1) := by decide +kernel
theorem dX4_endRun_8 : decode cX4_endRun 8 = .ok (.dup, 1) := by decide +kernel
theorem dX4_endRun_9 : decode cX4_endRun 9 = .ok (.getfield 9, 3) := by decide +kernel
theorem dX4_endRun_12 : decode cX4_endRun 12 = .ok (.iconst 1, 1) := by decide +kernel
theorem dX4_endRun_13 : decode cX4_endRun 13 = .ok (.iadd, 1) := by decide +kernel
theorem dX4_endRun_14 : decode cX4_endRun 14 = .ok (.putfield 9, 3) := by decide +kernel
theorem dX4_endRun_17 : decode cX4_endRun 17 = .ok (.aload_n 0, 1) := by decide +kernel
theorem dX4_endRun_18 : decode cX4_endRun 18 = .ok (.dup, 1) := by decide +kernel
theorem dX4_endRun_19 : decode cX4_endRun 19 = .ok (.getfield 18, 3) := by decide +kernel
theorem dX4_endRun_22 : decode cX4_endRun 22 = .ok (.aload_n 0, 1) := by decide +kernel
theorem dX4_endRun_23 : decode cX4_endRun 23 = .ok (.getfield 29, 3) := by decide +kernel
theorem dX4_endRun_26 : decode cX4_endRun 26 = .ok (.iadd, 1) := by decide +kernel
theorem dX4_endRun_27 : decode cX4_endRun 27 = .ok (.putfield 18, 3) := by decide +kernel
theorem dX4_endRun_30 : decode cX4_endRun 30 = .ok (.aload_n 1, 1) := by decide +kernel
theorem dX4_endRun_31 : decode cX4_endRun 31 = .ok (.aload_n 0, 1) := by decide +kernel
theorem dX4_endRun_32 : decode cX4_endRun 32 = .ok (.getfield 26, 3) := by decide +kernel
theorem dX4_endRun_35 : decode cX4_endRun 35 = .ok (.invokevirtual 63, 3) := by decide +kernel
theorem dX4_endRun_38 : decode cX4_endRun 38 = .ok (.ifCond .eq 26, 3) := by decide +kernel
theorem dX4_endRun_41 : decode cX4_endRun 41 = .ok (.aload_n 0, 1) := by decide +kernel
theorem dX4_endRun_42 : decode cX4_endRun 42 = .ok (.dup, 1) := by decide +kernel
theorem dX4_endRun_43 : decode cX4_endRun 43 = .ok (.getfield 15, 3) := by decide +kernel
theorem dX4_endRun_46 : decode cX4_endRun 46 = .ok (.iconst 1, 1) := by decide +kernel
theorem dX4_endRun_47 : decode cX4_endRun 47 = .ok (.iadd, 1) := by decide +kernel
theorem dX4_endRun_48 : decode cX4_endRun 48 = .ok (.putfield 15, 3) := by decide +kernel
theorem dX4_endRun_51 : decode cX4_endRun 51 = .ok (.aload_n 0, 1) := by decide +kernel
theorem dX4_endRun_52 : decode cX4_endRun 52 = .ok (.dup, 1) := by decide +kernel
theorem dX4_endRun_53 : decode cX4_endRun 53 = .ok (.getfield 21, 3) := by decide +kernel
theorem dX4_endRun_56 : decode cX4_endRun 56 = .ok (.aload_n 0, 1) := by decide +kernel
theorem dX4_endRun_57 : decode cX4_endRun 57 = .ok (.getfield 29, 3) := by decide +kernel
theorem dX4_endRun_60 : decode cX4_endRun 60 = .ok (.iadd, 1) := by decide +kernel
theorem dX4_endRun_61 : decode cX4_endRun 61 = .ok (.putfield 21, 3) := by decide +kernel
theorem dX4_endRun_64 : decode cX4_endRun 64 = .ok (.aload_n 0, 1) := by decide +kernel
theorem dX4_endRun_65 : decode cX4_endRun 65 = .ok (.iconst 1, 1) := by decide +kernel
theorem dX4_endRun_66 : decode cX4_endRun 66 = .ok (.putfield 26, 3) := by decide +kernel
theorem dX4_endRun_69 : decode cX4_endRun 69 = .ok (.aload_n 0, 1) := by decide +kernel
theorem dX4_endRun_70 : decode cX4_endRun 70 = .ok (.iconst 0, 1) := by decide +kernel
theorem dX4_endRun_71 : decode cX4_endRun 71 = .ok (.putfield 29, 3) := by decide +kernel
theorem dX4_endRun_74 : decode cX4_endRun 74 = .ok (.return_, 1) := by decide +kernel
theorem dX5_init_0 : decode cX5_init 0 = .ok (.aload_n 0, 1) := by decide +kernel
theorem dX5_init_1 : decode cX5_init 1 = .ok (.iconst 0, 1) := by decide +kernel
theorem dX5_init_2 : decode cX5_init 2 = .ok (.iconst 1, 1) := by decide +kernel
theorem dX5_init_3 : decode cX5_init 3 = .ok (.invokespecial 3, 3) := by decide +kernel
theorem dX5_init_6 : decode cX5_init 6 = .ok (.aload_n 0, 1) := by decide +kernel
theorem dX5_init_7 : decode cX5_init 7 = .ok (.bipush 6, 2) := by decide +kernel
theorem dX5_init_9 : decode cX5_init 9 = .ok (.newarray .int, 2) := by decide +kernel
theorem dX5_init_11 : decode cX5_init 11 = .ok (.putfield 9, 3) := by decide +kernel
theorem dX5_init_14 : decode cX5_init 14 = .ok (.aload_n 0, 1) := by decide +kernel
theorem dX5_init_15 : decode cX5_init 15 = .ok (.bipush 6, 2) := by decide +kernel
theorem dX5_init_17 : decode cX5_init 17 = .ok (.newarray .int, 2) := by decide +kernel
theorem dX5_init_19 : decode cX5_init 19 = .ok (.putfield 15, 3) := by decide +kernel
theorem dX5_init_22 : decode cX5_init 22 = .ok (.aload_n 0, 1) := by decide +kernel
theorem dX5_init_23 : decode cX5_init 23 = .ok (.bipush 6, 2) := by decide +kernel
theorem dX5_init_25 : decode cX5_init 25 = .ok (.newarray .int, 2) := by decide +kernel
theorem dX5_init_27 : decode cX5_init 27 = .ok (.putfield 18, 3) := by decide +kernel
theorem dX5_init_30 : decode cX5_init 30 = .ok (.return_, 1) := by decide +kernel
theorem dX5_begin_0 : decode cX5_begin 0 = .ok (.aload_n 0, 1) := by decide +kernel
theorem dX5_begin_1 : decode cX5_begin 1 = .ok (.iconst 0, 1) := by decide +kernel
theorem dX5_begin_2 : decode cX5_begin 2 = .ok (.putfield 21, 3) := by decide +kernel
theorem dX5_begin_5 : decode cX5_begin 5 = .ok (.aload_n 0, 1) := by decide +kernel
theorem dX5_begin_6 : decode cX5_begin 6 = .ok (.bipush (-9), 2) := by decide +kernel
theorem dX5_begin_8 : decode cX5_begin 8 = .ok (.putfield 25, 3) := by decide +kernel
theorem dX5_begin_11 : decode cX5_begin 11 = .ok (.aload_n 0, 1) := by decide +kernel
theorem dX5_begin_12 : decode cX5_begin 12 = .ok (.bipush (-9), 2) := by decide +kernel
theorem dX5_begin_14 : decode cX5_begin 14 = .ok (.putfield 28, 3) := by decide +kernel
theorem dX5_begin_17 : decode cX5_begin 17 = .ok (.aload_n 0, 1) := by decide +kernel
theorem dX5_begin_18 : decode cX5_begin 18 = .ok (.getfield 9, 3) := by decide +kernel
theorem dX5_begin_21 : decode cX5_begin 21 = .ok (.bipush (-9), 2) := by decide +kernel
theorem dX5_begin_23 : decode cX5_begin 23 = .ok (.invokestatic 31, 3) := by decide +kernel
theorem dX5_begin_26 : decode cX5_begin 26 = .ok (.iconst 0, 1) := by decide +kernel
theorem dX5_begin_27 : decode cX5_begin 27 = .ok (.istore_n 2, 1) := by decide +kernel
theorem dX5_begin_28 : decode cX5_begin 28 = .ok (.iload_n 2, 1) := by decide +kernel
theorem dX5_begin_29 : decode cX5_begin 29 = .ok (.aload_n 1, 1) := by decide +kernel
theorem dX5_begin_30 : decode cX5_begin 30 = .ok (.getfield 37, 3) := by decide +kernel
theorem dX5_begin_33 : decode cX5_begin 33 = .ok (.if_icmp .ge 21, 3) := by decide +kernel
theorem dX5_begin_36 : decode cX5_begin 36 = .ok (.aload_n 0, 1) := by decide +kernel
theorem dX5_begin_37 : decode cX5_begin 37 = .ok (.getfield 15, 3) := by decide +kernel
theorem dX5_begin_40 : decode cX5_begin 40 = .ok (.aload_n 1, 1) := by decide +kernel
theorem dX5_begin_41 : decode cX5_begin 41 = .ok (.getfield 42, 3) := by decide +kernel
theorem dX5_begin_44 : decode cX5_begin 44 = .ok (.iload_n 2, 1) := by decide +kernel
theorem dX5_begin_45 : decode cX5_begin 45 = .ok (.iaload, 1) := by decide +kernel
theorem dX5_begin_46 : decode cX5_begin 46 = .ok (.iload_n 2, 1) := by decide +kernel
theorem dX5_begin_47 : decode cX5_begin 47 = .ok (.iastore, 1) := by decide +kernel
theorem dX5_begin_48 : decode cX5_begin 48 = .ok (.iinc 2 1, 3) := by decide +kernel
theorem dX5_begin_51 : decode cX5_begin 51 = .ok (.goto (-23), 3) := by decide +kernel
theorem dX5_begin_54 : decode cX5_begin 54 = .ok (.return_, 1) := by decide +kernel
theorem dX5_meet_0 : decode cX5_meet 0 = .ok (.aload_n 0, 1) := by decide +kernel
theorem dX5_meet_1 : decode cX5_meet 1 = .ok (.getfield 21, 3) := by decide +kernel
theorem dX5_meet_4 : decode cX5_meet 4 = .ok (.ifCond .ne 8, 3) := by decide +kernel
theorem dX5_meet_7 : decode cX5_meet 7 = .ok (.aload_n 0, 1) := by decide +kernel
theorem dX5_meet_8 : decode cX5_meet 8 = .ok (.iload_n 2, 1) := by decide +kernel
theorem dX5_meet_9 : decode cX5_meet 9 = .ok (.putfield 25, 3) := by decide +kernel
theorem dX5_meet_12 : decode cX5_meet 12 = .ok (.aload_n 0, 1) := by decide +kernel
theorem dX5_meet_13 : decode cX5_meet 13 = .ok (.invokevirtual 45, 3) := by decide +kernel
theorem dX5_meet_16 : decode cX5_meet 16 = .ok (.aload_n 0, 1) := by decide +kernel
theorem dX5_meet_17 : decode cX5_meet 17 = .ok (.getfield 49, 3) := by decide +kernel
theorem dX5_meet_20 : decode cX5_meet 20 = .ok (.getfield 37, 3) := by decide +kernel
theorem dX5_meet_23 : decode cX5_meet 23 = .ok (.aload_n 0, 1) := by decide +kernel
theorem dX5_meet_24 : decode cX5_meet 24 = .ok (.invokevirtual 53, 3) := by decide +kernel
theorem dX5_meet_27 : decode cX5_meet 27 = .ok (.isub, 1) := by decide +kernel
theorem dX5_meet_28 : decode cX5_meet 28 = .ok (.istore_n 3, 1) := by decide +kernel
theorem dX5_meet_29 : decode cX5_meet 29 = .ok (.aload_n 0, 1) := by decide +kernel
theorem dX5_meet_30 : decode cX5_meet 30 = .ok (.getfield 21, 3) := by decide +kernel
theorem dX5_meet_33 : decode cX5_meet 33 = .ok (.ifCond .eq 11, 3) := by decide +kernel
theorem dX5_meet_36 : decode cX5_meet 36 = .ok (.iload_n 3, 1) := by decide +kernel
theorem dX5_meet_37 : decode cX5_meet 37 = .ok (.aload_n 0, 1) := by decide +kernel
theorem dX5_meet_38 : decode cX5_meet 38 = .ok (.getfield 28, 3) := by decide +kernel
theorem dX5_meet_41 : decode cX5_meet 41 = .ok (.if_icmp .ge 8, 3) := by decide +kernel
theorem dX5_meet_44 : decode cX5_meet 44 = .ok (.aload_n 0, 1) := by decide +kernel
theorem dX5_meet_45 : decode cX5_meet 45 = .ok (.iload_n 3, 1) := by decide +kernel
theorem dX5_meet_46 : decode cX5_meet 46 = .ok (.putfield 28, 3) := by decide +kernel
theorem dX5_meet_49 : decode cX5_meet 49 = .ok (.aload_n 0, 1) := by decide +kernel
theorem dX5_meet_50 : decode cX5_meet 50 = .ok (.dup, 1) := by decide +kernel
theorem dX5_meet_51 : decode cX5_meet 51 = .ok (.getfield 21, 3) := by decide +kernel
theorem dX5_meet_54 : decode cX5_meet 54 = .ok (.iconst 1, 1) := by decide +kernel
theorem dX5_meet_55 : decode cX5_meet 55 = .ok (.iadd, 1) := by decide +kernel
theorem dX5_meet_56 : decode cX5_meet 56 = .ok (.putfield 21, 3) := by decide +kernel
theorem dX5_meet_59 : decode cX5_meet 59 = .ok (.return_, 1) := by decide +kernel
theorem dX5_noteFollowers_0 : decode cX5_noteFollowers 0 = .ok (.iconst 0, 1) := by decide +kernel
theorem dX5_noteFollowers_1 : decode cX5_noteFollowers 1 = .ok (.istore_n 1, 1) := by decide +kernel
theorem dX5_noteFollowers_2 : decode cX5_noteFollowers 2 = .ok (.iload_n 1, 1) := by decide +kernel
theorem dX5_noteFollowers_3 : decode cX5_noteFollowers 3 = .ok (.aload_n 0, 1) := by decide +kernel
theorem dX5_noteFollowers_4 : decode cX5_noteFollowers 4 = .ok (.getfield 49, 3) := by decide +kernel
theorem dX5_noteFollowers_7 : decode cX5_noteFollowers 7 = .ok (.getfield 37, 3) := by decide +kernel
theorem dX5_noteFollowers_10 : decode cX5_noteFollowers 10 = .ok (.if_icmp .ge 84, 3) := by decide +kernel
theorem dX5_noteFollowers_13 : decode cX5_noteFollowers 13 = .ok (.aload_n 0, 1) := by decide +kernel
theorem dX5_noteFollowers_14 : decode cX5_noteFollowers 14 = .ok (.getfield 49, 3) := by decide +kernel
theorem dX5_noteFollowers_17 : decode cX5_noteFollowers 17 = .ok (.getfield 42, 3) := by decide +kernel
theorem dX5_noteFollowers_20 : decode cX5_noteFollowers 20 = .ok (.iload_n 1, 1) := by decide +kernel
theorem dX5_noteFollowers_21 : decode cX5_noteFollowers 21 = .ok (.iaload, 1) := by decide +kernel
theorem dX5_noteFollowers_22 : decode cX5_noteFollowers 22 = .ok (.istore_n 2, 1) := by decide +kernel
theorem dX5_noteFollowers_23 : decode cX5_noteFollowers 23 = .ok (.iload_n 1, 1) := by decide +kernel
theorem dX5_noteFollowers_24 : decode cX5_noteFollowers 24 = .ok (.iconst 1, 1) := by decide +kernel
theorem dX5_noteFollowers_25 : decode cX5_noteFollowers 25 = .ok (.iadd, 1) := by decide +kernel
theorem dX5_noteFollowers_26 : decode cX5_noteFollowers 26 = .ok (.aload_n 0, 1) := by decide +kernel
theorem dX5_noteFollowers_27 : decode cX5_noteFollowers 27 = .ok (.getfield 49, 3) := by decide +kernel
theorem dX5_noteFollowers_30 : decode cX5_noteFollowers 30 = .ok (.getfield 37, 3) := by decide +kernel
theorem dX5_noteFollowers_33 : decode cX5_noteFollowers 33 = .ok (.if_icmp .ge 17, 3) := by decide +kernel
theorem dX5_noteFollowers_36 : decode cX5_noteFollowers 36 = .ok (.aload_n 0, 1) := by decide +kernel
theorem dX5_noteFollowers_37 : decode cX5_noteFollowers 37 = .ok (.getfield 49, 3) := by decide +kernel
theorem dX5_noteFollowers_40 : decode cX5_noteFollowers 40 = .ok (.getfield 42, 3) := by decide +kernel
theorem dX5_noteFollowers_43 : decode cX5_noteFollowers 43 = .ok (.iload_n 1, 1) := by decide +kernel
theorem dX5_noteFollowers_44 : decode cX5_noteFollowers 44 = .ok (.iconst 1, 1) := by decide +kernel
theorem dX5_noteFollowers_45 : decode cX5_noteFollowers 45 = .ok (.iadd, 1) := by decide +kernel
theorem dX5_noteFollowers_46 : decode cX5_noteFollowers 46 = .ok (.iaload, 1) := by decide +kernel
theorem dX5_noteFollowers_47 : decode cX5_noteFollowers 47 = .ok (.goto 5, 3) := by decide +kernel
theorem dX5_noteFollowers_50 : decode cX5_noteFollowers 50 = .ok (.bipush (-9), 2) := by decide +kernel
theorem dX5_noteFollowers_52 : decode cX5_noteFollowers 52 = .ok (.istore_n 3, 1) := by decide +kernel
theorem dX5_noteFollowers_53 : decode cX5_noteFollowers 53 = .ok (.aload_n 0, 1) := by decide +kernel
theorem dX5_noteFollowers_54 : decode cX5_noteFollowers 54 = .ok (.getfield 21, 3) := by decide +kernel
theorem dX5_noteFollowers_57 : decode cX5_noteFollowers 57 = .ok (.ifCond .ne 13, 3) := by decide +kernel
theorem dX5_noteFollowers_60 : decode cX5_noteFollowers 60 = .ok (.aload_n 0, 1) := by decide +kernel
theorem dX5_noteFollowers_61 : decode cX5_noteFollowers 61 = .ok (.getfield 9, 3) := by decide +kernel
theorem dX5_noteFollowers_64 : decode cX5_noteFollowers 64 = .ok (.iload_n 2, 1) := by decide +kernel
theorem dX5_noteFollowers_65 : decode cX5_noteFollowers 65 = .ok (.iload_n 3, 1) := by decide +kernel
theorem dX5_noteFollowers_66 : decode cX5_noteFollowers 66 = .ok (.iastore, 1) := by decide +kernel
theorem dX5_noteFollowers_67 : decode cX5_noteFollowers 67 = .ok (.goto 21, 3) := by decide +kernel
theorem dX5_noteFollowers_70 : decode cX5_noteFollowers 70 = .ok (.aload_n 0, 1) := by decide +kernel
theorem dX5_noteFollowers_71 : decode cX5_noteFollowers 71 = .ok (.getfield 9, 3) := by decide +kernel
theorem dX5_noteFollowers_74 : decode cX5_noteFollowers 74 = .ok (.iload_n 2, 1) := by decide +kernel
theorem dX5_noteFollowers_75 : decode cX5_noteFollowers 75 = .ok (.iaload, 1) := by decide +kernel
theorem dX5_noteFollowers_76 : decode cX5_noteFollowers 76 = .ok (.iload_n 3, 1) := by decide +kernel
theorem dX5_noteFollowers_77 : decode cX5_noteFollowers 77 = .ok (.if_icmp .eq 11, 3) := by decide +kernel
theorem dX5_noteFollowers_80 : decode cX5_noteFollowers 80 = .ok (.aload_n 0, 1) := by decide +kernel
theorem dX5_noteFollowers_81 : decode cX5_noteFollowers 81 = .ok (.getfield 9, 3) := by decide +kernel
theorem dX5_noteFollowers_84 : decode cX5_noteFollowers 84 = .ok (.iload_n 2, 1) := by decide +kernel
theorem dX5_noteFollowers_85 : decode cX5_noteFollowers 85 = .ok (.bipush (-9), 2) := by decide +kernel
theorem dX5_noteFollowers_87 : decode cX5_noteFollowers 87 = .ok (.iastore, 1) := by decide +kernel
theorem dX5_noteFollowers_88 : decode cX5_noteFollowers 88 = .ok (.iinc 1 1, 3) := by decide +kernel
theorem dX5_noteFollowers_91 : decode cX5_noteFollowers 91 = .ok (.goto (-89), 3) := by decide +kernel
theorem dX5_noteFollowers_94 : decode cX5_noteFollowers 94 = .ok (.return_, 1) := by decide +kernel
theorem dX5_mostThatStay_0 : decode cX5_mostThatStay 0 = .ok (.iconst 0, 1) := by decide +kernel
theorem dX5_mostThatStay_1 : decode cX5_mostThatStay 1 = .ok (.istore_n 1, 1) := by decide +kernel
theorem dX5_mostThatStay_2 : decode cX5_mostThatStay 2 = .ok (.iconst 0, 1) := by decide +kernel
theorem dX5_mostThatStay_3 : decode cX5_mostThatStay 3 = .ok (.istore_n 2, 1) := by decide +kernel
theorem dX5_mostThatStay_4 : decode cX5_mostThatStay 4 = .ok (.iload_n 2, 1) := by decide +kernel
theorem dX5_mostThatStay_5 : decode cX5_mostThatStay 5 = .ok (.aload_n 0, 1) := by decide +kernel
theorem dX5_mostThatStay_6 : decode cX5_mostThatStay 6 = .ok (.getfield 49, 3) := by decide +kernel
theorem dX5_mostThatStay_9 : decode cX5_mostThatStay 9 = .ok (.getfield 37, 3) := by decide +kernel
theorem dX5_mostThatStay_12 : decode cX5_mostThatStay 12 = .ok (.if_icmp .ge 94, 3) := by decide +kernel
theorem dX5_mostThatStay_15 : decode cX5_mostThatStay 15 = .ok (.aload_n 0, 1) := by decide +kernel
theorem dX5_mostThatStay_16 : decode cX5_mostThatStay 16 = .ok (.getfield 18, 3) := by decide +kernel
theorem dX5_mostThatStay_19 : decode cX5_mostThatStay 19 = .ok (.iload_n 2, 1) := by decide +kernel
theorem dX5_mostThatStay_20 : decode cX5_mostThatStay 20 = .ok (.iconst 1, 1) := by decide +kernel
theorem dX5_mostThatStay_21 : decode cX5_mostThatStay 21 = .ok (.iastore, 1) := by decide +kernel
theorem dX5_mostThatStay_22 : decode cX5_mostThatStay 22 = .ok (.iconst 0, 1) := by decide +kernel
theorem dX5_mostThatStay_23 : decode cX5_mostThatStay 23 = .ok (.istore_n 3, 1) := by decide +kernel
theorem dX5_mostThatStay_24 : decode cX5_mostThatStay 24 = .ok (.iload_n 3, 1) := by decide +kernel
theorem dX5_mostThatStay_25 : decode cX5_mostThatStay 25 = .ok (.iload_n 2, 1) := by decide +kernel
theorem dX5_mostThatStay_26 : decode cX5_mostThatStay 26 = .ok (.if_icmp .ge 63, 3) := by decide +kernel
theorem dX5_mostThatStay_29 : decode cX5_mostThatStay 29 = .ok (.aload_n 0, 1) := by decide +kernel
theorem dX5_mostThatStay_30 : decode cX5_mostThatStay 30 = .ok (.getfield 15, 3) := by decide +kernel
theorem dX5_mostThatStay_33 : decode cX5_mostThatStay 33 = .ok (.aload_n 0, 1) := by decide +kernel
theorem dX5_mostThatStay_34 : decode cX5_mostThatStay 34 = .ok (.getfield 49, 3) := by decide +kernel
theorem dX5_mostThatStay_37 : decode cX5_mostThatStay 37 = .ok (.getfield 42, 3) := by decide +kernel
theorem dX5_mostThatStay_40 : decode cX5_mostThatStay 40 = .ok (.iload_n 3, 1) := by decide +kernel
theorem dX5_mostThatStay_41 : decode cX5_mostThatStay 41 = .ok (.iaload, 1) := by decide +kernel
theorem dX5_mostThatStay_42 : decode cX5_mostThatStay 42 = .ok (.iaload, 1) := by decide +kernel
theorem dX5_mostThatStay_43 : decode cX5_mostThatStay 43 = .ok (.aload_n 0, 1) := by decide +kernel
theorem dX5_mostThatStay_44 : decode cX5_mostThatStay 44 = .ok (.getfield 15, 3) := by decide +kernel
theorem dX5_mostThatStay_47 : decode cX5_mostThatStay 47 = .ok (.aload_n 0, 1) := by decide +kernel
theorem dX5_mostThatStay_48 : decode cX5_mostThatStay 48 = .ok (.getfield 49, 3) := by decide +kernel
theorem dX5_mostThatStay_51 : decode cX5_mostThatStay 51 = .ok (.getfield 42, 3) := by decide +kernel
theorem dX5_mostThatStay_54 : decode cX5_mostThatStay 54 = .ok (.iload_n 2, 1) := by decide +kernel
theorem dX5_mostThatStay_55 : decode cX5_mostThatStay 55 = .ok (.iaload, 1) := by decide +kernel
theorem dX5_mostThatStay_56 : decode cX5_mostThatStay 56 = .ok (.iaload, 1) := by decide +kernel
theorem dX5_mostThatStay_57 : decode cX5_mostThatStay 57 = .ok (.if_icmp .ge 26, 3) := by decide +kernel
theorem dX5_mostThatStay_60 : decode cX5_mostThatStay 60 = .ok (.aload_n 0, 1) := by decide +kernel
theorem dX5_mostThatStay_61 : decode cX5_mostThatStay 61 = .ok (.getfield 18, 3) := by decide +kernel
theorem dX5_mostThatStay_64 : decode cX5_mostThatStay 64 = .ok (.iload_n 2, 1) := by decide +kernel
theorem dX5_mostThatStay_65 : decode cX5_mostThatStay 65 = .ok (.aload_n 0, 1) := by decide +kernel
theorem dX5_mostThatStay_66 : decode cX5_mostThatStay 66 = .ok (.getfield 18, 3) := by decide +kernel
theorem dX5_mostThatStay_69 : decode cX5_mostThatStay 69 = .ok (.iload_n 2, 1) := by decide +kernel
theorem dX5_mostThatStay_70 : decode cX5_mostThatStay 70 = .ok (.iaload, 1) := by decide +kernel
theorem dX5_mostThatStay_71 : decode cX5_mostThatStay 71 = .ok (.aload_n 0, 1) := by decide +kernel
theorem dX5_mostThatStay_72 : decode cX5_mostThatStay 72 = .ok (.getfield 18, 3) := by decide +kernel
theorem dX5_mostThatStay_75 : decode cX5_mostThatStay 75 = .ok (.iload_n 3, 1) := by decide +kernel
theorem dX5_mostThatStay_76 : decode cX5_mostThatStay 76 = .ok (.iaload, 1) := by decide +kernel
theorem dX5_mostThatStay_77 : decode cX5_mostThatStay 77 = .ok (.iconst 1, 1) := by decide +kernel
theorem dX5_mostThatStay_78 : decode cX5_mostThatStay 78 = .ok (.iadd, 1) := by decide +kernel
theorem dX5_mostThatStay_79 : decode cX5_mostThatStay 79 = .ok (.invokestatic 57, 3) := by decide +kernel
theorem dX5_mostThatStay_82 : decode cX5_mostThatStay 82 = .ok (.iastore, 1) := by decide +kernel
theorem dX5_mostThatStay_83 : decode cX5_mostThatStay 83 = .ok (.iinc 3 1, 3) := by decide +kernel
theorem dX5_mostThatStay_86 : decode cX5_mostThatStay 86 = .ok (.goto (-62), 3) := by decide +kernel
theorem dX5_mostThatStay_89 : decode cX5_mostThatStay 89 = .ok (.iload_n 1, 1) := by decide +kernel
theorem dX5_mostThatStay_90 : decode cX5_mostThatStay 90 = .ok (.aload_n 0, 1) := by decide +kernel
theorem dX5_mostThatStay_91 : decode cX5_mostThatStay 91 = .ok (.getfield 18, 3) := by decide +kernel
theorem dX5_mostThatStay_94 : decode cX5_mostThatStay 94 = .ok (.iload_n 2, 1) := by decide +kernel
theorem dX5_mostThatStay_95 : decode cX5_mostThatStay 95 = .ok (.iaload, 1) := by decide +kernel
theorem dX5_mostThatStay_96 : decode cX5_mostThatStay 96 = .ok (.invokestatic 57, 3) := by decide +kernel
theorem dX5_mostThatStay_99 : decode cX5_mostThatStay 99 = .ok (.istore_n 1, 1) := by decide +kernel
theorem dX5_mostThatStay_100 : decode cX5_mostThatStay 100 = .ok (.iinc 2 1, 3) := by decide +kernel
theorem dX5_mostThatStay_103 : decode cX5_mostThatStay 103 = .ok (.goto (-99), 3) := by decide +kernel
theorem dX5_mostThatStay_106 : decode cX5_mostThatStay 106 = .ok (.iload_n 1, 1) := by decide +kernel
theorem dX5_mostThatStay_107 : decode cX5_mostThatStay 107 = .ok (.ireturn, 1) := by decide +kernel
theorem dX6_init_0 : decode cX6_init 0 = .ok (.aload_n 0, 1) := by decide +kernel
theorem dX6_init_1 : decode cX6_init 1 = .ok (.invokespecial 3, 3) := by decide +kernel
theorem dX6_init_4 : decode cX6_init 4 = .ok (.aload_n 0, 1) := by decide +kernel
theorem dX6_init_5 : decode cX6_init 5 = .ok (.bipush 6, 2) := by decide +kernel
theorem dX6_init_7 : decode cX6_init 7 = .ok (.newarray .int, 2) := by decide +kernel
theorem dX6_init_9 : decode cX6_init 9 = .ok (.putfield 9, 3) := by decide +kernel
theorem dX6_init_12 : decode cX6_init 12 = .ok (.return_, 1) := by decide +kernel
theorem dX6_copy_0 : decode cX6_copy 0 = .ok (.aload_n 1, 1) := by decide +kernel
theorem dX6_copy_1 : decode cX6_copy 1 = .ok (.getfield 9, 3) := by decide +kernel
theorem dX6_copy_4 : decode cX6_copy 4 = .ok (.iconst 0, 1) := by decide +kernel
theorem dX6_copy_5 : decode cX6_copy 5 = .ok (.aload_n 0, 1) := by decide +kernel
theorem dX6_copy_6 : decode cX6_copy 6 = .ok (.getfield 9, 3) := by decide +kernel
theorem dX6_copy_9 : decode cX6_copy 9 = .ok (.iconst 0, 1) := by decide +kernel
theorem dX6_copy_10 : decode cX6_copy 10 = .ok (.bipush 6, 2) := by decide +kernel
theorem dX6_copy_12 : decode cX6_copy 12 = .ok (.invokestatic 15, 3) := by decide +kernel
theorem dX6_copy_15 : decode cX6_copy 15 = .ok (.aload_n 0, 1) := by decide +kernel
theorem dX6_copy_16 : decode cX6_copy 16 = .ok (.aload_n 1, 1) := by decide +kernel
theorem dX6_copy_17 : decode cX6_copy 17 = .ok (.getfield 21, 3) := by decide +kernel
theorem dX6_copy_20 : decode cX6_copy 20 = .ok (.putfield 21, 3) := by decide +kernel
theorem dX6_copy_23 : decode cX6_copy 23 = .ok (.aload_n 0, 1) := by decide +kernel
theorem dX6_copy_24 : decode cX6_copy 24 = .ok (.aload_n 1, 1) := by decide +kernel
theorem dX6_copy_25 : decode cX6_copy 25 = .ok (.getfield 25, 3) := by decide +kernel
theorem dX6_copy_28 : decode cX6_copy 28 = .ok (.putfield 25, 3) := by decide +kernel
theorem dX6_copy_31 : decode cX6_copy 31 = .ok (.return_, 1) := by decide +kernel
theorem dX6_wayOf_0 : decode cX6_wayOf 0 = .ok (.aload_n 0, 1) := by decide +kernel
theorem dX6_wayOf_1 : decode cX6_wayOf 1 = .ok (.getfield 25, 3) := by decide +kernel
theorem dX6_wayOf_4 : decode cX6_wayOf 4 = .ok (.iload_n 1, 1) := by decide +kernel
theorem dX6_wayOf_5 : decode cX6_wayOf 5 = .ok (.ishr, 1) := by decide +kernel
theorem dX6_wayOf_6 : decode cX6_wayOf 6 = .ok (.iconst 1, 1) := by decide +kernel
theorem dX6_wayOf_7 : decode cX6_wayOf 7 = .ok (.iand, 1) := by decide +kernel
theorem dX6_wayOf_8 : decode cX6_wayOf 8 = .ok (.ireturn, 1) := by decide +kernel
theorem dX6_placeOf_0 : decode cX6_placeOf 0 = .ok (.iconst 0, 1) := by decide +kernel
theorem dX6_placeOf_1 : decode cX6_placeOf 1 = .ok (.istore_n 2, 1) := by decide +kernel
theorem dX6_placeOf_2 : decode cX6_placeOf 2 = .ok (.iload_n 2, 1) := by decide +kernel
theorem dX6_placeOf_3 : decode cX6_placeOf 3 = .ok (.aload_n 0, 1) := by decide +kernel
theorem dX6_placeOf_4 : decode cX6_placeOf 4 = .ok (.getfield 21, 3) := by decide +kernel
theorem dX6_placeOf_7 : decode cX6_placeOf 7 = .ok (.if_icmp .ge 21, 3) := by decide +kernel
theorem dX6_placeOf_10 : decode cX6_placeOf 10 = .ok (.aload_n 0, 1) := by decide +kernel
theorem dX6_placeOf_11 : decode cX6_placeOf 11 = .ok (.getfield 9, 3) := by decide +kernel
theorem dX6_placeOf_14 : decode cX6_placeOf 14 = .ok (.iload_n 2, 1) := by decide +kernel
theorem dX6_placeOf_15 : decode cX6_placeOf 15 = .ok (.iaload, 1) := by decide +kernel
theorem dX6_placeOf_16 : decode cX6_placeOf 16 = .ok (.iload_n 1, 1) := by decide +kernel
theorem dX6_placeOf_17 : decode cX6_placeOf 17 = .ok (.if_icmp .ne 5, 3) := by decide +kernel
theorem dX6_placeOf_20 : decode cX6_placeOf 20 = .ok (.iload_n 2, 1) := by decide +kernel
theorem dX6_placeOf_21 : decode cX6_placeOf 21 = .ok (.ireturn, 1) := by decide +kernel
theorem dX6_placeOf_22 : decode cX6_placeOf 22 = .ok (.iinc 2 1, 3) := by decide +kernel
theorem dX6_placeOf_25 : decode cX6_placeOf 25 = .ok (.goto (-23), 3) := by decide +kernel
theorem dX6_placeOf_28 : decode cX6_placeOf 28 = .ok (.bipush (-9), 2) := by decide +kernel
theorem dX6_placeOf_30 : decode cX6_placeOf 30 = .ok (.ireturn, 1) := by decide +kernel
theorem dX6_number_0 : decode cX6_number 0 = .ok (.iconst 0, 1) := by decide +kernel
theorem dX6_number_1 : decode cX6_number 1 = .ok (.istore_n 1, 1) := by decide +kernel
theorem dX6_number_2 : decode cX6_number 2 = .ok (.iconst 0, 1) := by decide +kernel
theorem dX6_number_3 : decode cX6_number 3 = .ok (.istore_n 2, 1) := by decide +kernel
theorem dX6_number_4 : decode cX6_number 4 = .ok (.iload_n 2, 1) := by decide +kernel
theorem dX6_number_5 : decode cX6_number 5 = .ok (.aload_n 0, 1) := by decide +kernel
theorem dX6_number_6 : decode cX6_number 6 = .ok (.getfield 21, 3) := by decide +kernel
theorem dX6_number_9 : decode cX6_number 9 = .ok (.if_icmp .ge 23, 3) := by decide +kernel
theorem dX6_number_12 : decode cX6_number 12 = .ok (.iload_n 1, 1) := by decide +kernel
theorem dX6_number_13 : decode cX6_number 13 = .ok (.bipush 10, 2) := by decide +kernel
theorem dX6_number_15 : decode cX6_number 15 = .ok (.imul, 1) := by decide +kernel
theorem dX6_number_16 : decode cX6_number 16 = .ok (.aload_n 0, 1) := by decide +kernel
theorem dX6_number_17 : decode cX6_number 17 = .ok (.getfield 9, 3) := by decide +kernel
theorem dX6_number_20 : decode cX6_number 20 = .ok (.iload_n 2, 1) := by decide +kernel
theorem dX6_number_21 : decode cX6_number 21 = .ok (.iaload, 1) := by decide +kernel
theorem dX6_number_22 : decode cX6_number 22 = .ok (.iadd, 1) := by decide +kernel
theorem dX6_number_23 : decode cX6_number 23 = .ok (.iconst 1, 1) := by decide +kernel
theorem dX6_number_24 : decode cX6_number 24 = .ok (.iadd, 1) := by decide +kernel
theorem dX6_number_25 : decode cX6_number 25 = .ok (.istore_n 1, 1) := by decide +kernel
theorem dX6_number_26 : decode cX6_number 26 = .ok (.iinc 2 1, 3) := by decide +kernel
theorem dX6_number_29 : decode cX6_number 29 = .ok (.goto (-25), 3) := by decide +kernel
theorem dX6_number_32 : decode cX6_number 32 = .ok (.iload_n 1, 1) := by decide +kernel
theorem dX6_number_33 : decode cX6_number 33 = .ok (.ireturn, 1) := by decide +kernel
theorem dX6_set_0 : decode cX6_set 0 = .ok (.iconst 0, 1) := by decide +kernel
theorem dX6_set_1 : decode cX6_set 1 = .ok (.istore_n 1, 1) := by decide +kernel
theorem dX6_set_2 : decode cX6_set 2 = .ok (.iconst 0, 1) := by decide +kernel
theorem dX6_set_3 : decode cX6_set 3 = .ok (.istore_n 2, 1) := by decide +kernel
theorem dX6_set_4 : decode cX6_set 4 = .ok (.iload_n 2, 1) := by decide +kernel
theorem dX6_set_5 : decode cX6_set 5 = .ok (.aload_n 0, 1) := by decide +kernel
theorem dX6_set_6 : decode cX6_set 6 = .ok (.getfield 21, 3) := by decide +kernel
theorem dX6_set_9 : decode cX6_set 9 = .ok (.if_icmp .ge 20, 3) := by decide +kernel
theorem dX6_set_12 : decode cX6_set 12 = .ok (.iload_n 1, 1) := by decide +kernel
theorem dX6_set_13 : decode cX6_set 13 = .ok (.iconst 1, 1) := by decide +kernel
theorem dX6_set_14 : decode cX6_set 14 = .ok (.aload_n 0, 1) := by decide +kernel
theorem dX6_set_15 : decode cX6_set 15 = .ok (.getfield 9, 3) := by decide +kernel
theorem dX6_set_18 : decode cX6_set 18 = .ok (.iload_n 2, 1) := by decide +kernel
theorem dX6_set_19 : decode cX6_set 19 = .ok (.iaload, 1) := by decide +kernel
theorem dX6_set_20 : decode cX6_set 20 = .ok (.ishl, 1) := by decide +kernel
theorem dX6_set_21 : decode cX6_set 21 = .ok (.ior, 1) := by decide +kernel
theorem dX6_set_22 : decode cX6_set 22 = .ok (.istore_n 1, 1) := by decide +kernel
theorem dX6_set_23 : decode cX6_set 23 = .ok (.iinc 2 1, 3) := by decide +kernel
theorem dX6_set_26 : decode cX6_set 26 = .ok (.goto (-22), 3) := by decide +kernel
theorem dX6_set_29 : decode cX6_set 29 = .ok (.iload_n 1, 1) := by decide +kernel
theorem dX6_set_30 : decode cX6_set 30 = .ok (.ireturn, 1) := by decide +kernel
theorem dX6_put_0 : decode cX6_put 0 = .ok (.aload_n 0, 1) := by decide +kernel
theorem dX6_put_1 : decode cX6_put 1 = .ok (.getfield 9, 3) := by decide +kernel
theorem dX6_put_4 : decode cX6_put 4 = .ok (.iload_n 1, 1) := by decide +kernel
theorem dX6_put_5 : decode cX6_put 5 = .ok (.iload_n 2, 1) := by decide +kernel
theorem dX6_put_6 : decode cX6_put 6 = .ok (.iastore, 1) := by decide +kernel
theorem dX6_put_7 : decode cX6_put 7 = .ok (.aload_n 0, 1) := by decide +kernel
theorem dX6_put_8 : decode cX6_put 8 = .ok (.aload_n 0, 1) := by decide +kernel
theorem dX6_put_9 : decode cX6_put 9 = .ok (.getfield 25, 3) := by decide +kernel
theorem dX6_put_12 : decode cX6_put 12 = .ok (.iconst 1, 1) := by decide +kernel
theorem dX6_put_13 : decode cX6_put 13 = .ok (.iload_n 2, 1) := by decide +kernel
theorem dX6_put_14 : decode cX6_put 14 = .ok (.ishl, 1) := by decide +kernel
theorem dX6_put_15 : decode cX6_put 15 = .ok (.iconst (-1), 1) := by decide +kernel
theorem dX6_put_16 : decode cX6_put 16 = .ok (.ixor, 1) := by decide +kernel
theorem dX6_put_17 : decode cX6_put 17 = .ok (.iand, 1) := by decide +kernel
theorem dX6_put_18 : decode cX6_put 18 = .ok (.iload_n 3, 1) := by decide +kernel
theorem dX6_put_19 : decode cX6_put 19 = .ok (.iload_n 2, 1) := by decide +kernel
theorem dX6_put_20 : decode cX6_put 20 = .ok (.ishl, 1) := by decide +kernel
theorem dX6_put_21 : decode cX6_put 21 = .ok (.ior, 1) := by decide +kernel
theorem dX6_put_22 : decode cX6_put 22 = .ok (.putfield 25, 3) := by decide +kernel
theorem dX6_put_25 : decode cX6_put 25 = .ok (.return_, 1) := by decide +kernel
theorem dX6_exchange_0 : decode cX6_exchange 0 = .ok (.aload_n 0, 1) := by decide +kernel
theorem dX6_exchange_1 : decode cX6_exchange 1 = .ok (.getfield 9, 3) := by decide +kernel
theorem dX6_exchange_4 : decode cX6_exchange 4 = .ok (.iload_n 1, 1) := by decide +kernel
theorem dX6_exchange_5 : decode cX6_exchange 5 = .ok (.iaload, 1) := by decide +kernel
theorem dX6_exchange_6 : decode cX6_exchange 6 = .ok (.istore_n 3, 1) := by decide +kernel
theorem dX6_exchange_7 : decode cX6_exchange 7 = .ok (.aload_n 0, 1) := by decide +kernel
theorem dX6_exchange_8 : decode cX6_exchange 8 = .ok (.getfield 9, 3) := by decide +kernel
theorem dX6_exchange_11 : decode cX6_exchange 11 = .ok (.iload_n 1, 1) := by decide +kernel
theorem dX6_exchange_12 : decode cX6_exchange 12 = .ok (.aload_n 0, 1) := by decide +kernel
theorem dX6_exchange_13 : decode cX6_exchange 13 = .ok (.getfield 9, 3) := by decide +kernel
theorem dX6_exchange_16 : decode cX6_exchange 16 = .ok (.iload_n 2, 1) := by decide +kernel
theorem dX6_exchange_17 : decode cX6_exchange 17 = .ok (.iaload, 1) := by decide +kernel
theorem dX6_exchange_18 : decode cX6_exchange 18 = .ok (.iastore, 1) := by decide +kernel
theorem dX6_exchange_19 : decode cX6_exchange 19 = .ok (.aload_n 0, 1) := by decide +kernel
theorem dX6_exchange_20 : decode cX6_exchange 20 = .ok (.getfield 9, 3) := by decide +kernel
theorem dX6_exchange_23 : decode cX6_exchange 23 = .ok (.iload_n 2, 1) := by decide +kernel
theorem dX6_exchange_24 : decode cX6_exchange 24 = .ok (.iload_n 3, 1) := by decide +kernel
theorem dX6_exchange_25 : decode cX6_exchange 25 = .ok (.iastore, 1) := by decide +kernel
theorem dX6_exchange_26 : decode cX6_exchange 26 = .ok (.return_, 1) := by decide +kernel
theorem dX6_carry_0 : decode cX6_carry 0 = .ok (.iload_n 1, 1) := by decide +kernel
theorem dX6_carry_1 : decode cX6_carry 1 = .ok (.iload_n 2, 1) := by decide +kernel
theorem dX6_carry_2 : decode cX6_carry 2 = .ok (.if_icmp .ge 7, 3) := by decide +kernel
theorem dX6_carry_5 : decode cX6_carry 5 = .ok (.iconst 1, 1) := by decide +kernel
theorem dX6_carry_6 : decode cX6_carry 6 = .ok (.goto 4, 3) := by decide +kernel
theorem dX6_carry_9 : decode cX6_carry 9 = .ok (.iconst (-1), 1) := by decide +kernel
theorem dX6_carry_10 : decode cX6_carry 10 = .ok (.istore_n 3, 1) := by decide +kernel
theorem dX6_carry_11 : decode cX6_carry 11 = .ok (.iload_n 2, 1) := by decide +kernel
theorem dX6_carry_12 : decode cX6_carry 12 = .ok (.iload_n 1, 1) := by decide +kernel
theorem dX6_carry_13 : decode cX6_carry 13 = .ok (.isub, 1) := by decide +kernel
theorem dX6_carry_14 : decode cX6_carry 14 = .ok (.invokestatic 28, 3) := by decide +kernel
theorem dX6_carry_17 : decode cX6_carry 17 = .ok (.istore 4, 2) := by decide +kernel
theorem dX6_carry_19 : decode cX6_carry 19 = .ok (.iconst 0, 1) := by decide +kernel
theorem dX6_carry_20 : decode cX6_carry 20 = .ok (.istore 5, 2) := by decide +kernel
theorem dX6_carry_22 : decode cX6_carry 22 = .ok (.iload 5, 2) := by decide +kernel
theorem dX6_carry_24 : decode cX6_carry 24 = .ok (.iload 4, 2) := by decide +kernel
theorem dX6_carry_26 : decode cX6_carry 26 = .ok (.if_icmp .ge 27, 3) := by decide +kernel
theorem dX6_carry_29 : decode cX6_carry 29 = .ok (.aload_n 0, 1) := by decide +kernel
theorem dX6_carry_30 : decode cX6_carry 30 = .ok (.iload_n 1, 1) := by decide +kernel
theorem dX6_carry_31 : decode cX6_carry 31 = .ok (.iload 5, 2) := by decide +kernel
theorem dX6_carry_33 : decode cX6_carry 33 = .ok (.iload_n 3, 1) := by decide +kernel
theorem dX6_carry_34 : decode cX6_carry 34 = .ok (.imul, 1) := by decide +kernel
theorem dX6_carry_35 : decode cX6_carry 35 = .ok (.iadd, 1) := by decide +kernel
theorem dX6_carry_36 : decode cX6_carry 36 = .ok (.iload_n 1, 1) := by decide +kernel
theorem dX6_carry_37 : decode cX6_carry 37 = .ok (.iload 5, 2) := by decide +kernel
theorem dX6_carry_39 : decode cX6_carry 39 = .ok (.iconst 1, 1) := by decide +kernel
theorem dX6_carry_40 : decode cX6_carry 40 = .ok (.iadd, 1) := by decide +kernel
theorem dX6_carry_41 : decode cX6_carry 41 = .ok (.iload_n 3, 1) := by decide +kernel
theorem dX6_carry_42 : decode cX6_carry 42 = .ok (.imul, 1) := by decide +kernel
theorem dX6_carry_43 : decode cX6_carry 43 = .ok (.iadd, 1) := by decide +kernel
theorem dX6_carry_44 : decode cX6_carry 44 = .ok (.invokevirtual 34, 3) := by decide +kernel
theorem dX6_carry_47 : decode cX6_carry 47 = .ok (.iinc 5 1, 3) := by decide +kernel
theorem dX6_carry_50 : decode cX6_carry 50 = .ok (.goto (-28), 3) := by decide +kernel
theorem dX6_carry_53 : decode cX6_carry 53 = .ok (.return_, 1) := by decide +kernel
theorem dX6_append_0 : decode cX6_append 0 = .ok (.aload_n 0, 1) := by decide +kernel
theorem dX6_append_1 : decode cX6_append 1 = .ok (.getfield 21, 3) := by decide +kernel
theorem dX6_append_4 : decode cX6_append 4 = .ok (.bipush 6, 2) := by decide +kernel
theorem dX6_append_6 : decode cX6_append 6 = .ok (.if_icmp .ge 23, 3) := by decide +kernel
theorem dX6_append_9 : decode cX6_append 9 = .ok (.aload_n 0, 1) := by decide +kernel
theorem dX6_append_10 : decode cX6_append 10 = .ok (.getfield 9, 3) := by decide +kernel
theorem dX6_append_13 : decode cX6_append 13 = .ok (.aload_n 0, 1) := by decide +kernel
theorem dX6_append_14 : decode cX6_append 14 = .ok (.getfield 21, 3) := by decide +kernel
theorem dX6_append_17 : decode cX6_append 17 = .ok (.iload_n 1, 1) := by decide +kernel
theorem dX6_append_18 : decode cX6_append 18 = .ok (.iastore, 1) := by decide +kernel
theorem dX6_append_19 : decode cX6_append 19 = .ok (.aload_n 0, 1) := by decide +kernel
theorem dX6_append_20 : decode cX6_append 20 = .ok (.dup, 1) := by decide +kernel
theorem dX6_append_21 : decode cX6_append 21 = .ok (.getfield 21, 3) := by decide +kernel
theorem dX6_append_24 : decode cX6_append 24 = .ok (.iconst 1, 1) := by decide +kernel
theorem dX6_append_25 : decode cX6_append 25 = .ok (.iadd, 1) := by decide +kernel
theorem dX6_append_26 : decode cX6_append 26 = .ok (.putfield 21, 3) := by decide +kernel
theorem dX6_append_29 : decode cX6_append 29 = .ok (.return_, 1) := by decide +kernel
theorem dX6_remove_0 : decode cX6_remove 0 = .ok (.aload_n 0, 1) := by decide +kernel
theorem dX6_remove_1 : decode cX6_remove 1 = .ok (.iload_n 1, 1) := by decide +kernel
theorem dX6_remove_2 : decode cX6_remove 2 = .ok (.invokevirtual 38, 3) := by decide +kernel
theorem dX6_remove_5 : decode cX6_remove 5 = .ok (.istore_n 2, 1) := by decide +kernel
theorem dX6_remove_6 : decode cX6_remove 6 = .ok (.iload_n 2, 1) := by decide +kernel
theorem dX6_remove_7 : decode cX6_remove 7 = .ok (.bipush (-9), 2) := by decide +kernel
theorem dX6_remove_9 : decode cX6_remove 9 = .ok (.if_icmp .ne 4, 3) := by decide +kernel
theorem dX6_remove_12 : decode cX6_remove 12 = .ok (.return_, 1) := by decide +kernel
theorem dX6_remove_13 : decode cX6_remove 13 = .ok (.aload_n 0, 1) := by decide +kernel
theorem dX6_remove_14 : decode cX6_remove 14 = .ok (.iload_n 2, 1) := by decide +kernel
theorem dX6_remove_15 : decode cX6_remove 15 = .ok (.aload_n 0, 1) := by decide +kernel
theorem dX6_remove_16 : decode cX6_remove 16 = .ok (.getfield 21, 3) := by decide +kernel
theorem dX6_remove_19 : decode cX6_remove 19 = .ok (.iconst 1, 1) := by decide +kernel
theorem dX6_remove_20 : decode cX6_remove 20 = .ok (.isub, 1) := by decide +kernel
theorem dX6_remove_21 : decode cX6_remove 21 = .ok (.invokevirtual 41, 3) := by decide +kernel
theorem dX6_remove_24 : decode cX6_remove 24 = .ok (.aload_n 0, 1) := by decide +kernel
theorem dX6_remove_25 : decode cX6_remove 25 = .ok (.dup, 1) := by decide +kernel
theorem dX6_remove_26 : decode cX6_remove 26 = .ok (.getfield 21, 3) := by decide +kernel
theorem dX6_remove_29 : decode cX6_remove 29 = .ok (.iconst 1, 1) := by decide +kernel
theorem dX6_remove_30 : decode cX6_remove 30 = .ok (.isub, 1) := by decide +kernel
theorem dX6_remove_31 : decode cX6_remove 31 = .ok (.putfield 21, 3) := by decide +kernel
theorem dX6_remove_34 : decode cX6_remove 34 = .ok (.return_, 1) := by decide +kernel
theorem dX7_init_0 : decode cX7_init 0 = .ok (.aload_n 0, 1) := by decide +kernel
theorem dX7_init_1 : decode cX7_init 1 = .ok (.invokespecial 3, 3) := by decide +kernel
theorem dX7_init_4 : decode cX7_init 4 = .ok (.aload_n 0, 1) := by decide +kernel
theorem dX7_init_5 : decode cX7_init 5 = .ok (.iconst 2, 1) := by decide +kernel
theorem dX7_init_6 : decode cX7_init 6 = .ok (.putfield 9, 3) := by decide +kernel
theorem dX7_init_9 : decode cX7_init 9 = .ok (.aload_n 0, 1) := by decide +kernel
theorem dX7_init_10 : decode cX7_init 10 = .ok (.bipush 48, 2) := by decide +kernel
theorem dX7_init_12 : decode cX7_init 12 = .ok (.newarray .int, 2) := by decide +kernel
theorem dX7_init_14 : decode cX7_init 14 = .ok (.putfield 15, 3) := by decide +kernel
theorem dX7_init_17 : decode cX7_init 17 = .ok (.aload_n 0, 1) := by decide +kernel
theorem dX7_init_18 : decode cX7_init 18 = .ok (.bipush 8, 2) := by decide +kernel
theorem dX7_init_20 : decode cX7_init 20 = .ok (.newarray .int, 2) := by decide +kernel
theorem dX7_init_22 : decode cX7_init 22 = .ok (.putfield 19, 3) := by decide +kernel
theorem dX7_init_25 : decode cX7_init 25 = .ok (.aload_n 0, 1) := by decide +kernel
theorem dX7_init_26 : decode cX7_init 26 = .ok (.new 22, 3) := by decide +kernel
theorem dX7_init_29 : decode cX7_init 29 = .ok (.dup, 1) := by decide +kernel
theorem dX7_init_30 : decode cX7_init 30 = .ok (.invokespecial 24, 3) := by decide +kernel
theorem dX7_init_33 : decode cX7_init 33 = .ok (.putfield 25, 3) := by decide +kernel
theorem dX7_init_36 : decode cX7_init 36 = .ok (.aload_n 0, 1) := by decide +kernel
theorem dX7_init_37 : decode cX7_init 37 = .ok (.bipush 72, 2) := by decide +kernel
theorem dX7_init_39 : decode cX7_init 39 = .ok (.newarray .int, 2) := by decide +kernel
theorem dX7_init_41 : decode cX7_init 41 = .ok (.putfield 29, 3) := by decide +kernel
theorem dX7_init_44 : decode cX7_init 44 = .ok (.return_, 1) := by decide +kernel
theorem dX7_empty_0 : decode cX7_empty 0 = .ok (.aload_n 0, 1) := by decide +kernel
theorem dX7_empty_1 : decode cX7_empty 1 = .ok (.iconst 2, 1) := by decide +kernel
theorem dX7_empty_2 : decode cX7_empty 2 = .ok (.putfield 9, 3) := by decide +kernel
theorem dX7_empty_5 : decode cX7_empty 5 = .ok (.aload_n 0, 1) := by decide +kernel
theorem dX7_empty_6 : decode cX7_empty 6 = .ok (.iconst 0, 1) := by decide +kernel
theorem dX7_empty_7 : decode cX7_empty 7 = .ok (.putfield 32, 3) := by decide +kernel
theorem dX7_empty_10 : decode cX7_empty 10 = .ok (.aload_n 0, 1) := by decide +kernel
theorem dX7_empty_11 : decode cX7_empty 11 = .ok (.iconst 0, 1) := by decide +kernel
theorem dX7_empty_12 : decode cX7_empty 12 = .ok (.putfield 35, 3) := by decide +kernel
theorem dX7_empty_15 : decode cX7_empty 15 = .ok (.aload_n 0, 1) := by decide +kernel
theorem dX7_empty_16 : decode cX7_empty 16 = .ok (.getfield 25, 3) := by decide +kernel
theorem dX7_empty_19 : decode cX7_empty 19 = .ok (.invokevirtual 38, 3) := by decide +kernel
theorem dX7_empty_22 : decode cX7_empty 22 = .ok (.return_, 1) := by decide +kernel
theorem dX7_spotOf_0 : decode cX7_spotOf 0 = .ok (.iload_n 0, 1) := by decide +kernel
theorem dX7_spotOf_1 : decode cX7_spotOf 1 = .ok (.iconst 2, 1) := by decide +kernel
theorem dX7_spotOf_2 : decode cX7_spotOf 2 = .ok (.imul, 1) := by decide +kernel
theorem dX7_spotOf_3 : decode cX7_spotOf 3 = .ok (.iload_n 1, 1) := by decide +kernel
theorem dX7_spotOf_4 : decode cX7_spotOf 4 = .ok (.iadd, 1) := by decide +kernel
theorem dX7_spotOf_5 : decode cX7_spotOf 5 = .ok (.iconst 3, 1) := by decide +kernel
theorem dX7_spotOf_6 : decode cX7_spotOf 6 = .ok (.imul, 1) := by decide +kernel
theorem dX7_spotOf_7 : decode cX7_spotOf 7 = .ok (.iload_n 2, 1) := by decide +kernel
theorem dX7_spotOf_8 : decode cX7_spotOf 8 = .ok (.iadd, 1) := by decide +kernel
theorem dX7_spotOf_9 : decode cX7_spotOf 9 = .ok (.iconst 2, 1) := by decide +kernel
theorem dX7_spotOf_10 : decode cX7_spotOf 10 = .ok (.imul, 1) := by decide +kernel
theorem dX7_spotOf_11 : decode cX7_spotOf 11 = .ok (.ireturn, 1) := by decide +kernel
theorem dX7_tellPair_0 : decode cX7_tellPair 0 = .ok (.aload_n 0, 1) := by decide +kernel
theorem dX7_tellPair_1 : decode cX7_tellPair 1 = .ok (.getfield 32, 3) := by decide +kernel
theorem dX7_tellPair_4 : decode cX7_tellPair 4 = .ok (.iconst 0, 1) := by decide +kernel
theorem dX7_tellPair_5 : decode cX7_tellPair 5 = .ok (.iload_n 1, 1) := by decide +kernel
theorem dX7_tellPair_6 : decode cX7_tellPair 6 = .ok (.invokestatic 41, 3) := by decide +kernel
theorem dX7_tellPair_9 : decode cX7_tellPair 9 = .ok (.istore 4, 2) := by decide +kernel
theorem dX7_tellPair_11 : decode cX7_tellPair 11 = .ok (.aload_n 0, 1) := by decide +kernel
theorem dX7_tellPair_12 : decode cX7_tellPair 12 = .ok (.getfield 29, 3) := by decide +kernel
theorem dX7_tellPair_15 : decode cX7_tellPair 15 = .ok (.iload 4, 2) := by decide +kernel
theorem dX7_tellPair_17 : decode cX7_tellPair 17 = .ok (.iload_n 2, 1) := by decide +kernel
theorem dX7_tellPair_18 : decode cX7_tellPair 18 = .ok (.iastore, 1) := by decide +kernel
theorem dX7_tellPair_19 : decode cX7_tellPair 19 = .ok (.aload_n 0, 1) := by decide +kernel
theorem dX7_tellPair_20 : decode cX7_tellPair 20 = .ok (.getfield 29, 3) := by decide +kernel
theorem dX7_tellPair_23 : decode cX7_tellPair 23 = .ok (.iload 4, 2) := by decide +kernel
theorem dX7_tellPair_25 : decode cX7_tellPair 25 = .ok (.iconst 1, 1) := by decide +kernel
theorem dX7_tellPair_26 : decode cX7_tellPair 26 = .ok (.iadd, 1) := by decide +kernel
theorem dX7_tellPair_27 : decode cX7_tellPair 27 = .ok (.iload_n 3, 1) := by decide +kernel
theorem dX7_tellPair_28 : decode cX7_tellPair 28 = .ok (.iastore, 1) := by decide +kernel
theorem dX7_tellPair_29 : decode cX7_tellPair 29 = .ok (.aload_n 0, 1) := by decide +kernel
theorem dX7_tellPair_30 : decode cX7_tellPair 30 = .ok (.getfield 32, 3) := by decide +kernel
theorem dX7_tellPair_33 : decode cX7_tellPair 33 = .ok (.iconst 1, 1) := by decide +kernel
theorem dX7_tellPair_34 : decode cX7_tellPair 34 = .ok (.aload_n 0, 1) := by decide +kernel
theorem dX7_tellPair_35 : decode cX7_tellPair 35 = .ok (.getfield 9, 3) := by decide +kernel
theorem dX7_tellPair_38 : decode cX7_tellPair 38 = .ok (.iconst 1, 1) := by decide +kernel
theorem dX7_tellPair_39 : decode cX7_tellPair 39 = .ok (.isub, 1) := by decide +kernel
theorem dX7_tellPair_40 : decode cX7_tellPair 40 = .ok (.iload_n 1, 1) := by decide +kernel
theorem dX7_tellPair_41 : decode cX7_tellPair 41 = .ok (.isub, 1) := by decide +kernel
theorem dX7_tellPair_42 : decode cX7_tellPair 42 = .ok (.invokestatic 41, 3) := by decide +kernel
theorem dX7_tellPair_45 : decode cX7_tellPair 45 = .ok (.istore 5, 2) := by decide +kernel
theorem dX7_tellPair_47 : decode cX7_tellPair 47 = .ok (.aload_n 0, 1) := by decide +kernel
theorem dX7_tellPair_48 : decode cX7_tellPair 48 = .ok (.getfield 29, 3) := by decide +kernel
theorem dX7_tellPair_51 : decode cX7_tellPair 51 = .ok (.iload 5, 2) := by decide +kernel
theorem dX7_tellPair_53 : decode cX7_tellPair 53 = .ok (.iload_n 3, 1) := by decide +kernel
theorem dX7_tellPair_54 : decode cX7_tellPair 54 = .ok (.iastore, 1) := by decide +kernel
theorem dX7_tellPair_55 : decode cX7_tellPair 55 = .ok (.aload_n 0, 1) := by decide +kernel
theorem dX7_tellPair_56 : decode cX7_tellPair 56 = .ok (.getfield 29, 3) := by decide +kernel
theorem dX7_tellPair_59 : decode cX7_tellPair 59 = .ok (.iload 5, 2) := by decide +kernel
theorem dX7_tellPair_61 : decode cX7_tellPair 61 = .ok (.iconst 1, 1) := by decide +kernel
theorem dX7_tellPair_62 : decode cX7_tellPair 62 = .ok (.iadd, 1) := by decide +kernel
theorem dX7_tellPair_63 : decode cX7_tellPair 63 = .ok (.iload_n 2, 1) := by decide +kernel
theorem dX7_tellPair_64 : decode cX7_tellPair 64 = .ok (.iastore, 1) := by decide +kernel
theorem dX7_tellPair_65 : decode cX7_tellPair 65 = .ok (.return_, 1) := by decide +kernel
theorem dX7_tellLetter_0 : decode cX7_tellLetter 0 = .ok (.aload_n 0, 1) := by decide +kernel
theorem dX7_tellLetter_1 : decode cX7_tellLetter 1 = .ok (.getfield 15, 3) := by decide +kernel
theorem dX7_tellLetter_4 : decode cX7_tellLetter 4 = .ok (.aload_n 0, 1) := by decide +kernel
theorem dX7_tellLetter_5 : decode cX7_tellLetter 5 = .ok (.getfield 35, 3) := by decide +kernel
theorem dX7_tellLetter_8 : decode cX7_tellLetter 8 = .ok (.bipush 6, 2) := by decide +kernel
theorem dX7_tellLetter_10 : decode cX7_tellLetter 10 = .ok (.imul, 1) := by decide +kernel
theorem dX7_tellLetter_11 : decode cX7_tellLetter 11 = .ok (.iload_n 1, 1) := by decide +kernel
theorem dX7_tellLetter_12 : decode cX7_tellLetter 12 = .ok (.iadd, 1) := by decide +kernel
theorem dX7_tellLetter_13 : decode cX7_tellLetter 13 = .ok (.iload_n 2, 1) := by decide +kernel
theorem dX7_tellLetter_14 : decode cX7_tellLetter 14 = .ok (.iastore, 1) := by decide +kernel
theorem dX7_tellLetter_15 : decode cX7_tellLetter 15 = .ok (.return_, 1) := by decide +kernel
theorem dX7_endWord_0 : decode cX7_endWord 0 = .ok (.aload_n 0, 1) := by decide +kernel
theorem dX7_endWord_1 : decode cX7_endWord 1 = .ok (.getfield 19, 3) := by decide +kernel
theorem dX7_endWord_4 : decode cX7_endWord 4 = .ok (.aload_n 0, 1) := by decide +kernel
theorem dX7_endWord_5 : decode cX7_endWord 5 = .ok (.getfield 35, 3) := by decide +kernel
theorem dX7_endWord_8 : decode cX7_endWord 8 = .ok (.iload_n 1, 1) := by decide +kernel
theorem dX7_endWord_9 : decode cX7_endWord 9 = .ok (.iastore, 1) := by decide +kernel
theorem dX7_endWord_10 : decode cX7_endWord 10 = .ok (.aload_n 0, 1) := by decide +kernel
theorem dX7_endWord_11 : decode cX7_endWord 11 = .ok (.getfield 25, 3) := by decide +kernel
theorem dX7_endWord_14 : decode cX7_endWord 14 = .ok (.aload_n 0, 1) := by decide +kernel
theorem dX7_endWord_15 : decode cX7_endWord 15 = .ok (.getfield 15, 3) := by decide +kernel
theorem dX7_endWord_18 : decode cX7_endWord 18 = .ok (.aload_n 0, 1) := by decide +kernel
theorem dX7_endWord_19 : decode cX7_endWord 19 = .ok (.getfield 35, 3) := by decide +kernel
theorem dX7_endWord_22 : decode cX7_endWord 22 = .ok (.bipush 6, 2) := by decide +kernel
theorem dX7_endWord_24 : decode cX7_endWord 24 = .ok (.imul, 1) := by decide +kernel
theorem dX7_endWord_25 : decode cX7_endWord 25 = .ok (.iload_n 1, 1) := by decide +kernel
theorem dX7_endWord_26 : decode cX7_endWord 26 = .ok (.invokevirtual 45, 3) := by decide +kernel
theorem dX7_endWord_29 : decode cX7_endWord 29 = .ok (.aload_n 0, 1) := by decide +kernel
theorem dX7_endWord_30 : decode cX7_endWord 30 = .ok (.dup, 1) := by decide +kernel
theorem dX7_endWord_31 : decode cX7_endWord 31 = .ok (.getfield 35, 3) := by decide +kernel
theorem dX7_endWord_34 : decode cX7_endWord 34 = .ok (.iconst 1, 1) := by decide +kernel
theorem dX7_endWord_35 : decode cX7_endWord 35 = .ok (.iadd, 1) := by decide +kernel
theorem dX7_endWord_36 : decode cX7_endWord 36 = .ok (.putfield 35, 3) := by decide +kernel
theorem dX7_endWord_39 : decode cX7_endWord 39 = .ok (.return_, 1) := by decide +kernel
theorem dX7_shown_0 : decode cX7_shown 0 = .ok (.aload_n 0, 1) := by decide +kernel
theorem dX7_shown_1 : decode cX7_shown 1 = .ok (.getfield 29, 3) := by decide +kernel
theorem dX7_shown_4 : decode cX7_shown 4 = .ok (.iload_n 1, 1) := by decide +kernel
theorem dX7_shown_5 : decode cX7_shown 5 = .ok (.iload_n 2, 1) := by decide +kernel
theorem dX7_shown_6 : decode cX7_shown 6 = .ok (.iload_n 3, 1) := by decide +kernel
theorem dX7_shown_7 : decode cX7_shown 7 = .ok (.invokestatic 41, 3) := by decide +kernel
theorem dX7_shown_10 : decode cX7_shown 10 = .ok (.iload 4, 2) := by decide +kernel
theorem dX7_shown_12 : decode cX7_shown 12 = .ok (.iadd, 1) := by decide +kernel
theorem dX7_shown_13 : decode cX7_shown 13 = .ok (.iaload, 1) := by decide +kernel
theorem dX7_shown_14 : decode cX7_shown 14 = .ok (.ireturn, 1) := by decide +kernel
theorem dX7_pass_0 : decode cX7_pass 0 = .ok (.iload_n 2, 1) := by decide +kernel
theorem dX7_pass_1 : decode cX7_pass 1 = .ok (.iload_n 3, 1) := by decide +kernel
theorem dX7_pass_2 : decode cX7_pass 2 = .ok (.iload 4, 2) := by decide +kernel
theorem dX7_pass_4 : decode cX7_pass 4 = .ok (.invokestatic 41, 3) := by decide +kernel
theorem dX7_pass_7 : decode cX7_pass 7 = .ok (.istore 5, 2) := by decide +kernel
theorem dX7_pass_9 : decode cX7_pass 9 = .ok (.aload_n 0, 1) := by decide +kernel
theorem dX7_pass_10 : decode cX7_pass 10 = .ok (.getfield 25, 3) := by decide +kernel
theorem dX7_pass_13 : decode cX7_pass 13 = .ok (.aload_n 0, 1) := by decide +kernel
theorem dX7_pass_14 : decode cX7_pass 14 = .ok (.getfield 25, 3) := by decide +kernel
theorem dX7_pass_17 : decode cX7_pass 17 = .ok (.iload_n 1, 1) := by decide +kernel
theorem dX7_pass_18 : decode cX7_pass 18 = .ok (.aload_n 0, 1) := by decide +kernel
theorem dX7_pass_19 : decode cX7_pass 19 = .ok (.getfield 29, 3) := by decide +kernel
theorem dX7_pass_22 : decode cX7_pass 22 = .ok (.iload 5, 2) := by decide +kernel
theorem dX7_pass_24 : decode cX7_pass 24 = .ok (.iaload, 1) := by decide +kernel
theorem dX7_pass_25 : decode cX7_pass 25 = .ok (.invokevirtual 49, 3) := by decide +kernel
theorem dX7_pass_28 : decode cX7_pass 28 = .ok (.aload_n 0, 1) := by decide +kernel
theorem dX7_pass_29 : decode cX7_pass 29 = .ok (.getfield 29, 3) := by decide +kernel
theorem dX7_pass_32 : decode cX7_pass 32 = .ok (.iload 5, 2) := by decide +kernel
theorem dX7_pass_34 : decode cX7_pass 34 = .ok (.iconst 1, 1) := by decide +kernel
theorem dX7_pass_35 : decode cX7_pass 35 = .ok (.iadd, 1) := by decide +kernel
theorem dX7_pass_36 : decode cX7_pass 36 = .ok (.iaload, 1) := by decide +kernel
theorem dX7_pass_37 : decode cX7_pass 37 = .ok (.invokevirtual 49, 3) := by decide +kernel
theorem dX7_pass_40 : decode cX7_pass 40 = .ok (.ireturn, 1) := by decide +kernel
theorem dX7_lettersOn_0 : decode cX7_lettersOn 0 = .ok (.iconst 0, 1) := by decide +kernel
theorem dX7_lettersOn_1 : decode cX7_lettersOn 1 = .ok (.istore_n 2, 1) := by decide +kernel
theorem dX7_lettersOn_2 : decode cX7_lettersOn 2 = .ok (.iload_n 1, 1) := by decide +kernel
theorem dX7_lettersOn_3 : decode cX7_lettersOn 3 = .ok (.iconst 0, 1) := by decide +kernel
theorem dX7_lettersOn_4 : decode cX7_lettersOn 4 = .ok (.iconst 0, 1) := by decide +kernel
theorem dX7_lettersOn_5 : decode cX7_lettersOn 5 = .ok (.invokestatic 41, 3) := by decide +kernel
theorem dX7_lettersOn_8 : decode cX7_lettersOn 8 = .ok (.istore_n 3, 1) := by decide +kernel
theorem dX7_lettersOn_9 : decode cX7_lettersOn 9 = .ok (.iload_n 3, 1) := by decide +kernel
theorem dX7_lettersOn_10 : decode cX7_lettersOn 10 = .ok (.istore 4, 2) := by decide +kernel
theorem dX7_lettersOn_12 : decode cX7_lettersOn 12 = .ok (.iload 4, 2) := by decide +kernel
theorem dX7_lettersOn_14 : decode cX7_lettersOn 14 = .ok (.iload_n 3, 1) := by decide +kernel
theorem dX7_lettersOn_15 : decode cX7_lettersOn 15 = .ok (.iconst 2, 1) := by decide +kernel
theorem dX7_lettersOn_16 : decode cX7_lettersOn 16 = .ok (.aload_n 0, 1) := by decide +kernel
theorem dX7_lettersOn_17 : decode cX7_lettersOn 17 = .ok (.getfield 9, 3) := by decide +kernel
theorem dX7_lettersOn_20 : decode cX7_lettersOn 20 = .ok (.imul, 1) := by decide +kernel
theorem dX7_lettersOn_21 : decode cX7_lettersOn 21 = .ok (.iadd, 1) := by decide +kernel
theorem dX7_lettersOn_22 : decode cX7_lettersOn 22 = .ok (.if_icmp .ge 33, 3) := by decide +kernel
theorem dX7_lettersOn_25 : decode cX7_lettersOn 25 = .ok (.aload_n 0, 1) := by decide +kernel
theorem dX7_lettersOn_26 : decode cX7_lettersOn 26 = .ok (.getfield 29, 3) := by decide +kernel
theorem dX7_lettersOn_29 : decode cX7_lettersOn 29 = .ok (.iload 4, 2) := by decide +kernel
theorem dX7_lettersOn_31 : decode cX7_lettersOn 31 = .ok (.iaload, 1) := by decide +kernel
theorem dX7_lettersOn_32 : decode cX7_lettersOn 32 = .ok (.bipush 26, 2) := by decide +kernel
theorem dX7_lettersOn_34 : decode cX7_lettersOn 34 = .ok (.if_icmp .eq 15, 3) := by decide +kernel
theorem dX7_lettersOn_37 : decode cX7_lettersOn 37 = .ok (.iload_n 2, 1) := by decide +kernel
theorem dX7_lettersOn_38 : decode cX7_lettersOn 38 = .ok (.iconst 1, 1) := by decide +kernel
theorem dX7_lettersOn_39 : decode cX7_lettersOn 39 = .ok (.aload_n 0, 1) := by decide +kernel
theorem dX7_lettersOn_40 : decode cX7_lettersOn 40 = .ok (.getfield 29, 3) := by decide +kernel
theorem dX7_lettersOn_43 : decode cX7_lettersOn 43 = .ok (.iload 4, 2) := by decide +kernel
theorem dX7_lettersOn_45 : decode cX7_lettersOn 45 = .ok (.iaload, 1) := by decide +kernel
theorem dX7_lettersOn_46 : decode cX7_lettersOn 46 = .ok (.ishl, 1) := by decide +kernel
theorem dX7_lettersOn_47 : decode cX7_lettersOn 47 = .ok (.ior, 1) := by decide +kernel
theorem dX7_lettersOn_48 : decode cX7_lettersOn 48 = .ok (.istore_n 2, 1) := by decide +kernel
theorem dX7_lettersOn_49 : decode cX7_lettersOn 49 = .ok (.iinc 4 1, 3) := by decide +kernel
theorem dX7_lettersOn_52 : decode cX7_lettersOn 52 = .ok (.goto (-40), 3) := by decide +kernel
theorem dX7_lettersOn_55 : decode cX7_lettersOn 55 = .ok (.iload_n 2, 1) := by decide +kernel
theorem dX7_lettersOn_56 : decode cX7_lettersOn 56 = .ok (.ireturn, 1) := by decide +kernel
theorem dX7_blanksOn_0 : decode cX7_blanksOn 0 = .ok (.iconst 0, 1) := by decide +kernel
theorem dX7_blanksOn_1 : decode cX7_blanksOn 1 = .ok (.istore_n 2, 1) := by decide +kernel
theorem dX7_blanksOn_2 : decode cX7_blanksOn 2 = .ok (.iload_n 1, 1) := by decide +kernel
theorem dX7_blanksOn_3 : decode cX7_blanksOn 3 = .ok (.iconst 0, 1) := by decide +kernel
theorem dX7_blanksOn_4 : decode cX7_blanksOn 4 = .ok (.iconst 0, 1) := by decide +kernel
theorem dX7_blanksOn_5 : decode cX7_blanksOn 5 = .ok (.invokestatic 41, 3) := by decide +kernel
theorem dX7_blanksOn_8 : decode cX7_blanksOn 8 = .ok (.istore_n 3, 1) := by decide +kernel
theorem dX7_blanksOn_9 : decode cX7_blanksOn 9 = .ok (.iload_n 3, 1) := by decide +kernel
theorem dX7_blanksOn_10 : decode cX7_blanksOn 10 = .ok (.istore 4, 2) := by decide +kernel
theorem dX7_blanksOn_12 : decode cX7_blanksOn 12 = .ok (.iload 4, 2) := by decide +kernel
theorem dX7_blanksOn_14 : decode cX7_blanksOn 14 = .ok (.iload_n 3, 1) := by decide +kernel
theorem dX7_blanksOn_15 : decode cX7_blanksOn 15 = .ok (.iconst 2, 1) := by decide +kernel
theorem dX7_blanksOn_16 : decode cX7_blanksOn 16 = .ok (.aload_n 0, 1) := by decide +kernel
theorem dX7_blanksOn_17 : decode cX7_blanksOn 17 = .ok (.getfield 9, 3) := by decide +kernel
theorem dX7_blanksOn_20 : decode cX7_blanksOn 20 = .ok (.imul, 1) := by decide +kernel
theorem dX7_blanksOn_21 : decode cX7_blanksOn 21 = .ok (.iadd, 1) := by decide +kernel
theorem dX7_blanksOn_22 : decode cX7_blanksOn 22 = .ok (.if_icmp .ge 24, 3) := by decide +kernel
theorem dX7_blanksOn_25 : decode cX7_blanksOn 25 = .ok (.aload_n 0, 1) := by decide +kernel
theorem dX7_blanksOn_26 : decode cX7_blanksOn 26 = .ok (.getfield 29, 3) := by decide +kernel
theorem dX7_blanksOn_29 : decode cX7_blanksOn 29 = .ok (.iload 4, 2) := by decide +kernel
theorem dX7_blanksOn_31 : decode cX7_blanksOn 31 = .ok (.iaload, 1) := by decide +kernel
theorem dX7_blanksOn_32 : decode cX7_blanksOn 32 = .ok (.bipush 26, 2) := by decide +kernel
theorem dX7_blanksOn_34 : decode cX7_blanksOn 34 = .ok (.if_icmp .ne 6, 3) := by decide +kernel
theorem dX7_blanksOn_37 : decode cX7_blanksOn 37 = .ok (.iinc 2 1, 3) := by decide +kernel
theorem dX7_blanksOn_40 : decode cX7_blanksOn 40 = .ok (.iinc 4 1, 3) := by decide +kernel
theorem dX7_blanksOn_43 : decode cX7_blanksOn 43 = .ok (.goto (-31), 3) := by decide +kernel
theorem dX7_blanksOn_46 : decode cX7_blanksOn 46 = .ok (.iload_n 2, 1) := by decide +kernel
theorem dX7_blanksOn_47 : decode cX7_blanksOn 47 = .ok (.ireturn, 1) := by decide +kernel
theorem dX8_init_0 : decode cX8_init 0 = .ok (.aload_n 0, 1) := by decide +kernel
theorem dX8_init_1 : decode cX8_init 1 = .ok (.invokespecial 3, 3) := by decide +kernel
theorem dX8_init_4 : decode cX8_init 4 = .ok (.aload_n 0, 1) := by decide +kernel
theorem dX8_init_5 : decode cX8_init 5 = .ok (.sipush 150, 3) := by decide +kernel
theorem dX8_init_8 : decode cX8_init 8 = .ok (.newarray .int, 2) := by decide +kernel
theorem dX8_init_10 : decode cX8_init 10 = .ok (.putfield 9, 3) := by decide +kernel
theorem dX8_init_13 : decode cX8_init 13 = .ok (.return_, 1) := by decide +kernel
theorem dX8_append_0 : decode cX8_append 0 = .ok (.aload_n 0, 1) := by decide +kernel
theorem dX8_append_1 : decode cX8_append 1 = .ok (.getfield 15, 3) := by decide +kernel
theorem dX8_append_4 : decode cX8_append 4 = .ok (.sipush 150, 3) := by decide +kernel
theorem dX8_append_7 : decode cX8_append 7 = .ok (.if_icmp .lt 5, 3) := by decide +kernel
theorem dX8_append_10 : decode cX8_append 10 = .ok (.iconst 0, 1) := by decide +kernel
theorem dX8_append_11 : decode cX8_append 11 = .ok (.ireturn, 1) := by decide +kernel
theorem dX8_append_12 : decode cX8_append 12 = .ok (.aload_n 0, 1) := by decide +kernel
theorem dX8_append_13 : decode cX8_append 13 = .ok (.getfield 9, 3) := by decide +kernel
theorem dX8_append_16 : decode cX8_append 16 = .ok (.aload_n 0, 1) := by decide +kernel
theorem dX8_append_17 : decode cX8_append 17 = .ok (.getfield 15, 3) := by decide +kernel
theorem dX8_append_20 : decode cX8_append 20 = .ok (.iload_n 1, 1) := by decide +kernel
theorem dX8_append_21 : decode cX8_append 21 = .ok (.iastore, 1) := by decide +kernel
theorem dX8_append_22 : decode cX8_append 22 = .ok (.aload_n 0, 1) := by decide +kernel
theorem dX8_append_23 : decode cX8_append 23 = .ok (.dup, 1) := by decide +kernel
theorem dX8_append_24 : decode cX8_append 24 = .ok (.getfield 15, 3) := by decide +kernel
theorem dX8_append_27 : decode cX8_append 27 = .ok (.iconst 1, 1) := by decide +kernel
theorem dX8_append_28 : decode cX8_append 28 = .ok (.iadd, 1) := by decide +kernel
theorem dX8_append_29 : decode cX8_append 29 = .ok (.putfield 15, 3) := by decide +kernel
theorem dX8_append_32 : decode cX8_append 32 = .ok (.iconst 1, 1) := by decide +kernel
theorem dX8_append_33 : decode cX8_append 33 = .ok (.ireturn, 1) := by decide +kernel
theorem dX8_wipe_0 : decode cX8_wipe 0 = .ok (.aload_n 0, 1) := by decide +kernel
theorem dX8_wipe_1 : decode cX8_wipe 1 = .ok (.getfield 15, 3) := by decide +kernel
theorem dX8_wipe_4 : decode cX8_wipe 4 = .ok (.istore_n 1, 1) := by decide +kernel
theorem dX8_wipe_5 : decode cX8_wipe 5 = .ok (.aload_n 0, 1) := by decide +kernel
theorem dX8_wipe_6 : decode cX8_wipe 6 = .ok (.iconst 0, 1) := by decide +kernel
theorem dX8_wipe_7 : decode cX8_wipe 7 = .ok (.putfield 15, 3) := by decide +kernel
theorem dX8_wipe_10 : decode cX8_wipe 10 = .ok (.iload_n 1, 1) := by decide +kernel
theorem dX8_wipe_11 : decode cX8_wipe 11 = .ok (.ireturn, 1) := by decide +kernel
theorem dX8_readInto_0 : decode cX8_readInto 0 = .ok (.aload_n 1, 1) := by decide +kernel
theorem dX8_readInto_1 : decode cX8_readInto 1 = .ok (.invokevirtual 19, 3) := by decide +kernel
theorem dX8_readInto_4 : decode cX8_readInto 4 = .ok (.aload_n 0, 1) := by decide +kernel
theorem dX8_readInto_5 : decode cX8_readInto 5 = .ok (.iconst 0, 1) := by decide +kernel
theorem dX8_readInto_6 : decode cX8_readInto 6 = .ok (.putfield 24, 3) := by decide +kernel
theorem dX8_readInto_9 : decode cX8_readInto 9 = .ok (.aload_n 0, 1) := by decide +kernel
theorem dX8_readInto_10 : decode cX8_readInto 10 = .ok (.invokevirtual 27, 3) := by decide +kernel
theorem dX8_readInto_13 : decode cX8_readInto 13 = .ok (.iconst 0, 1) := by decide +kernel
theorem dX8_readInto_14 : decode cX8_readInto 14 = .ok (.istore_n 2, 1) := by decide +kernel
theorem dX8_readInto_15 : decode cX8_readInto 15 = .ok (.aload_n 0, 1) := by decide +kernel
theorem dX8_readInto_16 : decode cX8_readInto 16 = .ok (.getfield 30, 3) := by decide +kernel
theorem dX8_readInto_19 : decode cX8_readInto 19 = .ok (.ifCond .eq 41, 3) := by decide +kernel
theorem dX8_readInto_22 : decode cX8_readInto 22 = .ok (.iload_n 2, 1) := by decide +kernel
theorem dX8_readInto_23 : decode cX8_readInto 23 = .ok (.sipush 150, 3) := by decide +kernel
theorem dX8_readInto_26 : decode cX8_readInto 26 = .ok (.if_icmp .ge 34, 3) := by decide +kernel
theorem dX8_readInto_29 : decode cX8_readInto 29 = .ok (.aload_n 0, 1) := by decide +kernel
theorem dX8_readInto_30 : decode cX8_readInto 30 = .ok (.aload_n 1, 1) := by decide +kernel
theorem dX8_readInto_31 : decode cX8_readInto 31 = .ok (.iload_n 2, 1) := by decide +kernel
theorem dX8_readInto_32 : decode cX8_readInto 32 = .ok (.ifCond .ne 7, 3) := by decide +kernel
theorem dX8_readInto_35 : decode cX8_readInto 35 = .ok (.iconst 1, 1) := by decide +kernel
theorem dX8_readInto_36 : decode cX8_readInto 36 = .ok (.goto 4, 3) := by decide +kernel
theorem dX8_readInto_39 : decode cX8_readInto 39 = .ok (.iconst 0, 1) := by decide +kernel
theorem dX8_readInto_40 : decode cX8_readInto 40 = .ok (.invokevirtual 33, 3) := by decide +kernel
theorem dX8_readInto_43 : decode cX8_readInto 43 = .ok (.ifCond .ne 11, 3) := by decide +kernel
theorem dX8_readInto_46 : decode cX8_readInto 46 = .ok (.bipush (-10), 2) := by decide +kernel
theorem dX8_readInto_48 : decode cX8_readInto 48 = .ok (.aload_n 0, 1) := by decide +kernel
theorem dX8_readInto_49 : decode cX8_readInto 49 = .ok (.getfield 37, 3) := by decide +kernel
theorem dX8_readInto_52 : decode cX8_readInto 52 = .ok (.isub, 1) := by decide +kernel
theorem dX8_readInto_53 : decode cX8_readInto 53 = .ok (.ireturn, 1) := by decide +kernel
theorem dX8_readInto_54 : decode cX8_readInto 54 = .ok (.iinc 2 1, 3) := by decide +kernel
theorem dX8_readInto_57 : decode cX8_readInto 57 = .ok (.goto (-42), 3) := by decide +kernel
theorem dX8_readInto_60 : decode cX8_readInto 60 = .ok (.iload_n 2, 1) := by decide +kernel
theorem dX8_readInto_61 : decode cX8_readInto 61 = .ok (.ireturn, 1) := by decide +kernel
theorem dX8_readItem_0 : decode cX8_readItem 0 = .ok (.aload_n 0, 1) := by decide +kernel
theorem dX8_readItem_1 : decode cX8_readItem 1 = .ok (.getfield 30, 3) := by decide +kernel
theorem dX8_readItem_4 : decode cX8_readItem 4 = .ok (.iconst 1, 1) := by decide +kernel
theorem dX8_readItem_5 : decode cX8_readItem 5 = .ok (.if_icmp .ne 16, 3) := by decide +kernel
theorem dX8_readItem_8 : decode cX8_readItem 8 = .ok (.aload_n 0, 1) := by decide +kernel
theorem dX8_readItem_9 : decode cX8_readItem 9 = .ok (.getfield 24, 3) := by decide +kernel
theorem dX8_readItem_12 : decode cX8_readItem 12 = .ok (.aload_n 0, 1) := by decide +kernel
theorem dX8_readItem_13 : decode cX8_readItem 13 = .ok (.getfield 37, 3) := by decide +kernel
theorem dX8_readItem_16 : decode cX8_readItem 16 = .ok (.isub, 1) := by decide +kernel
theorem dX8_readItem_17 : decode cX8_readItem 17 = .ok (.iconst 1, 1) := by decide +kernel
theorem dX8_readItem_18 : decode cX8_readItem 18 = .ok (.if_icmp .eq 5, 3) := by decide +kernel
theorem dX8_readItem_21 : decode cX8_readItem 21 = .ok (.iconst 0, 1) := by decide +kernel
theorem dX8_readItem_22 : decode cX8_readItem 22 = .ok (.ireturn, 1) := by decide +kernel
theorem dX8_readItem_23 : decode cX8_readItem 23 = .ok (.aload_n 0, 1) := by decide +kernel
theorem dX8_readItem_24 : decode cX8_readItem 24 = .ok (.getfield 9, 3) := by decide +kernel
theorem dX8_readItem_27 : decode cX8_readItem 27 = .ok (.aload_n 0, 1) := by decide +kernel
theorem dX8_readItem_28 : decode cX8_readItem 28 = .ok (.getfield 37, 3) := by decide +kernel
theorem dX8_readItem_31 : decode cX8_readItem 31 = .ok (.iaload, 1) := by decide +kernel
theorem dX8_readItem_32 : decode cX8_readItem 32 = .ok (.lookupswitch 121 #[(110, 36), (115, 61), (119, 91)], 36) := by decide +kernel
theorem dX8_readItem_68 : decode cX8_readItem 68 = .ok (.iload_n 2, 1) := by decide +kernel
theorem dX8_readItem_69 : decode cX8_readItem 69 = .ok (.ifCond .eq 22, 3) := by decide +kernel
theorem dX8_readItem_72 : decode cX8_readItem 72 = .ok (.aload_n 0, 1) := by decide +kernel
theorem dX8_readItem_73 : decode cX8_readItem 73 = .ok (.aload_n 1, 1) := by decide +kernel
theorem dX8_readItem_74 : decode cX8_readItem 74 = .ok (.invokevirtual 40, 3) := by decide +kernel
theorem dX8_readItem_77 : decode cX8_readItem 77 = .ok (.ifCond .eq 14, 3) := by decide +kernel
theorem dX8_readItem_80 : decode cX8_readItem 80 = .ok (.aload_n 0, 1) := by decide +kernel
theorem dX8_readItem_81 : decode cX8_readItem 81 = .ok (.invokevirtual 44, 3) := by decide +kernel
theorem dX8_readItem_84 : decode cX8_readItem 84 = .ok (.ifCond .eq 7, 3) := by decide +kernel
theorem dX8_readItem_87 : decode cX8_readItem 87 = .ok (.iconst 1, 1) := by decide +kernel
theorem dX8_readItem_88 : decode cX8_readItem 88 = .ok (.goto 4, 3) := by decide +kernel
theorem dX8_readItem_91 : decode cX8_readItem 91 = .ok (.iconst 0, 1) := by decide +kernel
theorem dX8_readItem_92 : decode cX8_readItem 92 = .ok (.ireturn, 1) := by decide +kernel
theorem dX8_readItem_93 : decode cX8_readItem 93 = .ok (.aload_n 1, 1) := by decide +kernel
theorem dX8_readItem_94 : decode cX8_readItem 94 = .ok (.getfield 48, 3) := by decide +kernel
theorem dX8_readItem_97 : decode cX8_readItem 97 = .ok (.bipush 6, 2) := by decide +kernel
theorem dX8_readItem_99 : decode cX8_readItem 99 = .ok (.if_icmp .ge 22, 3) := by decide +kernel
theorem dX8_readItem_102 : decode cX8_readItem 102 = .ok (.aload_n 0, 1) := by decide +kernel
theorem dX8_readItem_103 : decode cX8_readItem 103 = .ok (.aload_n 1, 1) := by decide +kernel
theorem dX8_readItem_104 : decode cX8_readItem 104 = .ok (.invokevirtual 51, 3) := by decide +kernel
theorem dX8_readItem_107 : decode cX8_readItem 107 = .ok (.ifCond .eq 14, 3) := by decide +kernel
theorem dX8_readItem_110 : decode cX8_readItem 110 = .ok (.aload_n 0, 1) := by decide +kernel
theorem dX8_readItem_111 : decode cX8_readItem 111 = .ok (.invokevirtual 44, 3) := by decide +kernel
theorem dX8_readItem_114 : decode cX8_readItem 114 = .ok (.ifCond .eq 7, 3) := by decide +kernel
theorem dX8_readItem_117 : decode cX8_readItem 117 = .ok (.iconst 1, 1) := by decide +kernel
theorem dX8_readItem_118 : decode cX8_readItem 118 = .ok (.goto 4, 3) := by decide +kernel
theorem dX8_readItem_121 : decode cX8_readItem 121 = .ok (.iconst 0, 1) := by decide +kernel
theorem dX8_readItem_122 : decode cX8_readItem 122 = .ok (.ireturn, 1) := by decide +kernel
theorem dX8_readItem_123 : decode cX8_readItem 123 = .ok (.aload_n 1, 1) := by decide +kernel
theorem dX8_readItem_124 : decode cX8_readItem 124 = .ok (.getfield 54, 3) := by decide +kernel
theorem dX8_readItem_127 : decode cX8_readItem 127 = .ok (.bipush 8, 2) := by decide +kernel
theorem dX8_readItem_129 : decode cX8_readItem 129 = .ok (.if_icmp .ge 22, 3) := by decide +kernel
theorem dX8_readItem_132 : decode cX8_readItem 132 = .ok (.aload_n 0, 1) := by decide +kernel
theorem dX8_readItem_133 : decode cX8_readItem 133 = .ok (.aload_n 1, 1) := by decide +kernel
theorem dX8_readItem_134 : decode cX8_readItem 134 = .ok (.invokevirtual 57, 3) := by decide +kernel
theorem dX8_readItem_137 : decode cX8_readItem 137 = .ok (.ifCond .eq 14, 3) := by decide +kernel
theorem dX8_readItem_140 : decode cX8_readItem 140 = .ok (.aload_n 0, 1) := by decide +kernel
theorem dX8_readItem_141 : decode cX8_readItem 141 = .ok (.invokevirtual 44, 3) := by decide +kernel
theorem dX8_readItem_144 : decode cX8_readItem 144 = .ok (.ifCond .eq 7, 3) := by decide +kernel
theorem dX8_readItem_147 : decode cX8_readItem 147 = .ok (.iconst 1, 1) := by decide +kernel
theorem dX8_readItem_148 : decode cX8_readItem 148 = .ok (.goto 4, 3) := by decide +kernel
theorem dX8_readItem_151 : decode cX8_readItem 151 = .ok (.iconst 0, 1) := by decide +kernel
theorem dX8_readItem_152 : decode cX8_readItem 152 = .ok (.ireturn, 1) := by decide +kernel
theorem dX8_readItem_153 : decode cX8_readItem 153 = .ok (.iconst 0, 1) := by decide +kernel
theorem dX8_readItem_154 : decode cX8_readItem 154 = .ok (.ireturn, 1) := by decide +kernel
theorem dX8_readLines_0 : decode cX8_readLines 0 = .ok (.aload_n 0, 1) := by decide +kernel
theorem dX8_readLines_1 : decode cX8_readLines 1 = .ok (.invokevirtual 27, 3) := by decide +kernel
theorem dX8_readLines_4 : decode cX8_readLines 4 = .ok (.aload_n 0, 1) := by decide +kernel
theorem dX8_readLines_5 : decode cX8_readLines 5 = .ok (.getfield 30, 3) := by decide +kernel
theorem dX8_readLines_8 : decode cX8_readLines 8 = .ok (.iconst 2, 1) := by decide +kernel
theorem dX8_readLines_9 : decode cX8_readLines 9 = .ok (.if_icmp .ne 16, 3) := by decide +kernel
theorem dX8_readLines_12 : decode cX8_readLines 12 = .ok (.aload_n 0, 1) := by decide +kernel
theorem dX8_readLines_13 : decode cX8_readLines 13 = .ok (.getfield 24, 3) := by decide +kernel
theorem dX8_readLines_16 : decode cX8_readLines 16 = .ok (.aload_n 0, 1) := by decide +kernel
theorem dX8_readLines_17 : decode cX8_readLines 17 = .ok (.getfield 37, 3) := by decide +kernel
theorem dX8_readLines_20 : decode cX8_readLines 20 = .ok (.isub, 1) := by decide +kernel
theorem dX8_readLines_21 : decode cX8_readLines 21 = .ok (.iconst 1, 1) := by decide +kernel
theorem dX8_readLines_22 : decode cX8_readLines 22 = .ok (.if_icmp .eq 5, 3) := by decide +kernel
theorem dX8_readLines_25 : decode cX8_readLines 25 = .ok (.iconst 0, 1) := by decide +kernel
theorem dX8_readLines_26 : decode cX8_readLines 26 = .ok (.ireturn, 1) := by decide +kernel
theorem dX8_readLines_27 : decode cX8_readLines 27 = .ok (.aload_n 0, 1) := by decide +kernel
theorem dX8_readLines_28 : decode cX8_readLines 28 = .ok (.getfield 9, 3) := by decide +kernel
theorem dX8_readLines_31 : decode cX8_readLines 31 = .ok (.aload_n 0, 1) := by decide +kernel
theorem dX8_readLines_32 : decode cX8_readLines 32 = .ok (.getfield 37, 3) := by decide +kernel
theorem dX8_readLines_35 : decode cX8_readLines 35 = .ok (.iaload, 1) := by decide +kernel
theorem dX8_readLines_36 : decode cX8_readLines 36 = .ok (.bipush 48, 2) := by decide +kernel
theorem dX8_readLines_38 : decode cX8_readLines 38 = .ok (.isub, 1) := by decide +kernel
theorem dX8_readLines_39 : decode cX8_readLines 39 = .ok (.istore_n 2, 1) := by decide +kernel
theorem dX8_readLines_40 : decode cX8_readLines 40 = .ok (.iload_n 2, 1) := by decide +kernel
theorem dX8_readLines_41 : decode cX8_readLines 41 = .ok (.iconst 1, 1) := by decide +kernel
theorem dX8_readLines_42 : decode cX8_readLines 42 = .ok (.if_icmp .lt 8, 3) := by decide +kernel
theorem dX8_readLines_45 : decode cX8_readLines 45 = .ok (.iload_n 2, 1) := by decide +kernel
theorem dX8_readLines_46 : decode cX8_readLines 46 = .ok (.iconst 3, 1) := by decide +kernel
theorem dX8_readLines_47 : decode cX8_readLines 47 = .ok (.if_icmp .le 5, 3) := by decide +kernel
theorem dX8_readLines_50 : decode cX8_readLines 50 = .ok (.iconst 0, 1) := by decide +kernel
theorem dX8_readLines_51 : decode cX8_readLines 51 = .ok (.ireturn, 1) := by decide +kernel
theorem dX8_readLines_52 : decode cX8_readLines 52 = .ok (.aload_n 1, 1) := by decide +kernel
theorem dX8_readLines_53 : decode cX8_readLines 53 = .ok (.iload_n 2, 1) := by decide +kernel
theorem dX8_readLines_54 : decode cX8_readLines 54 = .ok (.putfield 60, 3) := by decide +kernel
theorem dX8_readLines_57 : decode cX8_readLines 57 = .ok (.iconst 1, 1) := by decide +kernel
theorem dX8_readLines_58 : decode cX8_readLines 58 = .ok (.ireturn, 1) := by decide +kernel
theorem dX8_readStrip_0 : decode cX8_readStrip 0 = .ok (.iconst 0, 1) := by decide +kernel
theorem dX8_readStrip_1 : decode cX8_readStrip 1 = .ok (.istore_n 2, 1) := by decide +kernel
theorem dX8_readStrip_2 : decode cX8_readStrip 2 = .ok (.iload_n 2, 1) := by decide +kernel
theorem dX8_readStrip_3 : decode cX8_readStrip 3 = .ok (.aload_n 1, 1) := by decide +kernel
theorem dX8_readStrip_4 : decode cX8_readStrip 4 = .ok (.getfield 60, 3) := by decide +kernel
theorem dX8_readStrip_7 : decode cX8_readStrip 7 = .ok (.if_icmp .ge 67, 3) := by decide +kernel
theorem dX8_readStrip_10 : decode cX8_readStrip 10 = .ok (.aload_n 0, 1) := by decide +kernel
theorem dX8_readStrip_11 : decode cX8_readStrip 11 = .ok (.invokevirtual 27, 3) := by decide +kernel
theorem dX8_readStrip_14 : decode cX8_readStrip 14 = .ok (.aload_n 0, 1) := by decide +kernel
theorem dX8_readStrip_15 : decode cX8_readStrip 15 = .ok (.getfield 30, 3) := by decide +kernel
theorem dX8_readStrip_18 : decode cX8_readStrip 18 = .ok (.iconst 1, 1) := by decide +kernel
theorem dX8_readStrip_19 : decode cX8_readStrip 19 = .ok (.if_icmp .ne 16, 3) := by decide +kernel
theorem dX8_readStrip_22 : decode cX8_readStrip 22 = .ok (.aload_n 0, 1) := by decide +kernel
theorem dX8_readStrip_23 : decode cX8_readStrip 23 = .ok (.getfield 24, 3) := by decide +kernel
theorem dX8_readStrip_26 : decode cX8_readStrip 26 = .ok (.aload_n 0, 1) := by decide +kernel
theorem dX8_readStrip_27 : decode cX8_readStrip 27 = .ok (.getfield 37, 3) := by decide +kernel
theorem dX8_readStrip_30 : decode cX8_readStrip 30 = .ok (.isub, 1) := by decide +kernel
theorem dX8_readStrip_31 : decode cX8_readStrip 31 = .ok (.iconst 2, 1) := by decide +kernel
theorem dX8_readStrip_32 : decode cX8_readStrip 32 = .ok (.if_icmp .eq 5, 3) := by decide +kernel
theorem dX8_readStrip_35 : decode cX8_readStrip 35 = .ok (.iconst 0, 1) := by decide +kernel
theorem dX8_readStrip_36 : decode cX8_readStrip 36 = .ok (.ireturn, 1) := by decide +kernel
theorem dX8_readStrip_37 : decode cX8_readStrip 37 = .ok (.aload_n 1, 1) := by decide +kernel
theorem dX8_readStrip_38 : decode cX8_readStrip 38 = .ok (.iload_n 2, 1) := by decide +kernel
theorem dX8_readStrip_39 : decode cX8_readStrip 39 = .ok (.aload_n 0, 1) := by decide +kernel
theorem dX8_readStrip_40 : decode cX8_readStrip 40 = .ok (.getfield 9, 3) := by decide +kernel
theorem dX8_readStrip_43 : decode cX8_readStrip 43 = .ok (.aload_n 0, 1) := by decide +kernel
theorem dX8_readStrip_44 : decode cX8_readStrip 44 = .ok (.getfield 37, 3) := by decide +kernel
theorem dX8_readStrip_47 : decode cX8_readStrip 47 = .ok (.iaload, 1) := by decide +kernel
theorem dX8_readStrip_48 : decode cX8_readStrip 48 = .ok (.invokestatic 63, 3) := by decide +kernel
theorem dX8_readStrip_51 : decode cX8_readStrip 51 = .ok (.aload_n 0, 1) := by decide +kernel
theorem dX8_readStrip_52 : decode cX8_readStrip 52 = .ok (.getfield 9, 3) := by decide +kernel
theorem dX8_readStrip_55 : decode cX8_readStrip 55 = .ok (.aload_n 0, 1) := by decide +kernel
theorem dX8_readStrip_56 : decode cX8_readStrip 56 = .ok (.getfield 37, 3) := by decide +kernel
theorem dX8_readStrip_59 : decode cX8_readStrip 59 = .ok (.iconst 1, 1) := by decide +kernel
theorem dX8_readStrip_60 : decode cX8_readStrip 60 = .ok (.iadd, 1) := by decide +kernel
theorem dX8_readStrip_61 : decode cX8_readStrip 61 = .ok (.iaload, 1) := by decide +kernel
theorem dX8_readStrip_62 : decode cX8_readStrip 62 = .ok (.invokestatic 63, 3) := by decide +kernel
theorem dX8_readStrip_65 : decode cX8_readStrip 65 = .ok (.invokevirtual 67, 3) := by decide +kernel
theorem dX8_readStrip_68 : decode cX8_readStrip 68 = .ok (.iinc 2 1, 3) := by decide +kernel
theorem dX8_readStrip_71 : decode cX8_readStrip 71 = .ok (.goto (-69), 3) := by decide +kernel
theorem dX8_readStrip_74 : decode cX8_readStrip 74 = .ok (.aload_n 1, 1) := by decide +kernel
theorem dX8_readStrip_75 : decode cX8_readStrip 75 = .ok (.dup, 1) := by decide +kernel
theorem dX8_readStrip_76 : decode cX8_readStrip 76 = .ok (.getfield 48, 3) := by decide +kernel
theorem dX8_readStrip_79 : decode cX8_readStrip 79 = .ok (.iconst 1, 1) := by decide +kernel
theorem dX8_readStrip_80 : decode cX8_readStrip 80 = .ok (.iadd, 1) := by decide +kernel
theorem dX8_readStrip_81 : decode cX8_readStrip 81 = .ok (.putfield 48, 3) := by decide +kernel
theorem dX8_readStrip_84 : decode cX8_readStrip 84 = .ok (.iconst 1, 1) := by decide +kernel
theorem dX8_readStrip_85 : decode cX8_readStrip 85 = .ok (.ireturn, 1) := by decide +kernel
theorem dX8_readWord_0 : decode cX8_readWord 0 = .ok (.aload_n 0, 1) := by decide +kernel
theorem dX8_readWord_1 : decode cX8_readWord 1 = .ok (.invokevirtual 27, 3) := by decide +kernel
theorem dX8_readWord_4 : decode cX8_readWord 4 = .ok (.aload_n 0, 1) := by decide +kernel
theorem dX8_readWord_5 : decode cX8_readWord 5 = .ok (.getfield 30, 3) := by decide +kernel
theorem dX8_readWord_8 : decode cX8_readWord 8 = .ok (.iconst 1, 1) := by decide +kernel
theorem dX8_readWord_9 : decode cX8_readWord 9 = .ok (.if_icmp .ne 17, 3) := by decide +kernel
theorem dX8_readWord_12 : decode cX8_readWord 12 = .ok (.aload_n 0, 1) := by decide +kernel
theorem dX8_readWord_13 : decode cX8_readWord 13 = .ok (.getfield 24, 3) := by decide +kernel
theorem dX8_readWord_16 : decode cX8_readWord 16 = .ok (.aload_n 0, 1) := by decide +kernel
theorem dX8_readWord_17 : decode cX8_readWord 17 = .ok (.getfield 37, 3) := by decide +kernel
theorem dX8_readWord_20 : decode cX8_readWord 20 = .ok (.isub, 1) := by decide +kernel
theorem dX8_readWord_21 : decode cX8_readWord 21 = .ok (.bipush 6, 2) := by decide +kernel
theorem dX8_readWord_23 : decode cX8_readWord 23 = .ok (.if_icmp .le 5, 3) := by decide +kernel
theorem dX8_readWord_26 : decode cX8_readWord 26 = .ok (.iconst 0, 1) := by decide +kernel
theorem dX8_readWord_27 : decode cX8_readWord 27 = .ok (.ireturn, 1) := by decide +kernel
theorem dX8_readWord_28 : decode cX8_readWord 28 = .ok (.iconst 0, 1) := by decide +kernel
theorem dX8_readWord_29 : decode cX8_readWord 29 = .ok (.istore_n 2, 1) := by decide +kernel
theorem dX8_readWord_30 : decode cX8_readWord 30 = .ok (.iload_n 2, 1) := by decide +kernel
theorem dX8_readWord_31 : decode cX8_readWord 31 = .ok (.aload_n 0, 1) := by decide +kernel
theorem dX8_readWord_32 : decode cX8_readWord 32 = .ok (.getfield 24, 3) := by decide +kernel
theorem dX8_readWord_35 : decode cX8_readWord 35 = .ok (.aload_n 0, 1) := by decide +kernel
theorem dX8_readWord_36 : decode cX8_readWord 36 = .ok (.getfield 37, 3) := by decide +kernel
theorem dX8_readWord_39 : decode cX8_readWord 39 = .ok (.isub, 1) := by decide +kernel
theorem dX8_readWord_40 : decode cX8_readWord 40 = .ok (.if_icmp .ge 38, 3) := by decide +kernel
theorem dX8_readWord_43 : decode cX8_readWord 43 = .ok (.aload_n 0, 1) := by decide +kernel
theorem dX8_readWord_44 : decode cX8_readWord 44 = .ok (.getfield 9, 3) := by decide +kernel
theorem dX8_readWord_47 : decode cX8_readWord 47 = .ok (.aload_n 0, 1) := by decide +kernel
theorem dX8_readWord_48 : decode cX8_readWord 48 = .ok (.getfield 37, 3) := by decide +kernel
theorem dX8_readWord_51 : decode cX8_readWord 51 = .ok (.iload_n 2, 1) := by decide +kernel
theorem dX8_readWord_52 : decode cX8_readWord 52 = .ok (.iadd, 1) := by decide +kernel
theorem dX8_readWord_53 : decode cX8_readWord 53 = .ok (.iaload, 1) := by decide +kernel
theorem dX8_readWord_54 : decode cX8_readWord 54 = .ok (.invokestatic 63, 3) := by decide +kernel
theorem dX8_readWord_57 : decode cX8_readWord 57 = .ok (.istore_n 3, 1) := by decide +kernel
theorem dX8_readWord_58 : decode cX8_readWord 58 = .ok (.iload_n 3, 1) := by decide +kernel
theorem dX8_readWord_59 : decode cX8_readWord 59 = .ok (.bipush 26, 2) := by decide +kernel
theorem dX8_readWord_61 : decode cX8_readWord 61 = .ok (.if_icmp .ne 5, 3) := by decide +kernel
theorem dX8_readWord_64 : decode cX8_readWord 64 = .ok (.iconst 0, 1) := by decide +kernel
theorem dX8_readWord_65 : decode cX8_readWord 65 = .ok (.ireturn, 1) := by decide +kernel
theorem dX8_readWord_66 : decode cX8_readWord 66 = .ok (.aload_n 1, 1) := by decide +kernel
theorem dX8_readWord_67 : decode cX8_readWord 67 = .ok (.iload_n 2, 1) := by decide +kernel
theorem dX8_readWord_68 : decode cX8_readWord 68 = .ok (.iload_n 3, 1) := by decide +kernel
theorem dX8_readWord_69 : decode cX8_readWord 69 = .ok (.invokevirtual 71, 3) := by decide +kernel
theorem dX8_readWord_72 : decode cX8_readWord 72 = .ok (.iinc 2 1, 3) := by decide +kernel
theorem dX8_readWord_75 : decode cX8_readWord 75 = .ok (.goto (-45), 3) := by decide +kernel
theorem dX8_readWord_78 : decode cX8_readWord 78 = .ok (.aload_n 1, 1) := by decide +kernel
theorem dX8_readWord_79 : decode cX8_readWord 79 = .ok (.aload_n 0, 1) := by decide +kernel
theorem dX8_readWord_80 : decode cX8_readWord 80 = .ok (.getfield 24, 3) := by decide +kernel
theorem dX8_readWord_83 : decode cX8_readWord 83 = .ok (.aload_n 0, 1) := by decide +kernel
theorem dX8_readWord_84 : decode cX8_readWord 84 = .ok (.getfield 37, 3) := by decide +kernel
theorem dX8_readWord_87 : decode cX8_readWord 87 = .ok (.isub, 1) := by decide +kernel
theorem dX8_readWord_88 : decode cX8_readWord 88 = .ok (.invokevirtual 75, 3) := by decide +kernel
theorem dX8_readWord_91 : decode cX8_readWord 91 = .ok (.iconst 1, 1) := by decide +kernel
theorem dX8_readWord_92 : decode cX8_readWord 92 = .ok (.ireturn, 1) := by decide +kernel
theorem dX8_readStop_0 : decode cX8_readStop 0 = .ok (.aload_n 0, 1) := by decide +kernel
theorem dX8_readStop_1 : decode cX8_readStop 1 = .ok (.invokevirtual 27, 3) := by decide +kernel
theorem dX8_readStop_4 : decode cX8_readStop 4 = .ok (.aload_n 0, 1) := by decide +kernel
theorem dX8_readStop_5 : decode cX8_readStop 5 = .ok (.getfield 30, 3) := by decide +kernel
theorem dX8_readStop_8 : decode cX8_readStop 8 = .ok (.iconst 3, 1) := by decide +kernel
theorem dX8_readStop_9 : decode cX8_readStop 9 = .ok (.if_icmp .eq 5, 3) := by decide +kernel
theorem dX8_readStop_12 : decode cX8_readStop 12 = .ok (.iconst 0, 1) := by decide +kernel
theorem dX8_readStop_13 : decode cX8_readStop 13 = .ok (.ireturn, 1) := by decide +kernel
theorem dX8_readStop_14 : decode cX8_readStop 14 = .ok (.aload_n 0, 1) := by decide +kernel
theorem dX8_readStop_15 : decode cX8_readStop 15 = .ok (.invokevirtual 27, 3) := by decide +kernel
theorem dX8_readStop_18 : decode cX8_readStop 18 = .ok (.iconst 1, 1) := by decide +kernel
theorem dX8_readStop_19 : decode cX8_readStop 19 = .ok (.ireturn, 1) := by decide +kernel
theorem dX8_advance_0 : decode cX8_advance 0 = .ok (.aload_n 0, 1) := by decide +kernel
theorem dX8_advance_1 : decode cX8_advance 1 = .ok (.aload_n 0, 1) := by decide +kernel
theorem dX8_advance_2 : decode cX8_advance 2 = .ok (.getfield 24, 3) := by decide +kernel
theorem dX8_advance_5 : decode cX8_advance 5 = .ok (.putfield 37, 3) := by decide +kernel
theorem dX8_advance_8 : decode cX8_advance 8 = .ok (.aload_n 0, 1) := by decide +kernel
theorem dX8_advance_9 : decode cX8_advance 9 = .ok (.getfield 37, 3) := by decide +kernel
theorem dX8_advance_12 : decode cX8_advance 12 = .ok (.aload_n 0, 1) := by decide +kernel
theorem dX8_advance_13 : decode cX8_advance 13 = .ok (.getfield 15, 3) := by decide +kernel
theorem dX8_advance_16 : decode cX8_advance 16 = .ok (.if_icmp .ge 30, 3) := by decide +kernel
theorem dX8_advance_19 : decode cX8_advance 19 = .ok (.aload_n 0, 1) := by decide +kernel
theorem dX8_advance_20 : decode cX8_advance 20 = .ok (.getfield 9, 3) := by decide +kernel
theorem dX8_advance_23 : decode cX8_advance 23 = .ok (.aload_n 0, 1) := by decide +kernel
theorem dX8_advance_24 : decode cX8_advance 24 = .ok (.getfield 37, 3) := by decide +kernel
theorem dX8_advance_27 : decode cX8_advance 27 = .ok (.iaload, 1) := by decide +kernel
theorem dX8_advance_28 : decode cX8_advance 28 = .ok (.bipush 32, 2) := by decide +kernel
theorem dX8_advance_30 : decode cX8_advance 30 = .ok (.if_icmp .ne 16, 3) := by decide +kernel
theorem dX8_advance_33 : decode cX8_advance 33 = .ok (.aload_n 0, 1) := by decide +kernel
theorem dX8_advance_34 : decode cX8_advance 34 = .ok (.dup, 1) := by decide +kernel
theorem dX8_advance_35 : decode cX8_advance 35 = .ok (.getfield 37, 3) := by decide +kernel
theorem dX8_advance_38 : decode cX8_advance 38 = .ok (.iconst 1, 1) := by decide +kernel
theorem dX8_advance_39 : decode cX8_advance 39 = .ok (.iadd, 1) := by decide +kernel
theorem dX8_advance_40 : decode cX8_advance 40 = .ok (.putfield 37, 3) := by decide +kernel
theorem dX8_advance_43 : decode cX8_advance 43 = .ok (.goto (-35), 3) := by decide +kernel
theorem dX8_advance_46 : decode cX8_advance 46 = .ok (.aload_n 0, 1) := by decide +kernel
theorem dX8_advance_47 : decode cX8_advance 47 = .ok (.aload_n 0, 1) := by decide +kernel
theorem dX8_advance_48 : decode cX8_advance 48 = .ok (.getfield 37, 3) := by decide +kernel
theorem dX8_advance_51 : decode cX8_advance 51 = .ok (.putfield 24, 3) := by decide +kernel
theorem dX8_advance_54 : decode cX8_advance 54 = .ok (.aload_n 0, 1) := by decide +kernel
theorem dX8_advance_55 : decode cX8_advance 55 = .ok (.getfield 37, 3) := by decide +kernel
theorem dX8_advance_58 : decode cX8_advance 58 = .ok (.aload_n 0, 1) := by decide +kernel
theorem dX8_advance_59 : decode cX8_advance 59 = .ok (.getfield 15, 3) := by decide +kernel
theorem dX8_advance_62 : decode cX8_advance 62 = .ok (.if_icmp .lt 9, 3) := by decide +kernel
theorem dX8_advance_65 : decode cX8_advance 65 = .ok (.aload_n 0, 1) := by decide +kernel
theorem dX8_advance_66 : decode cX8_advance 66 = .ok (.iconst 0, 1) := by decide +kernel
theorem dX8_advance_67 : decode cX8_advance 67 = .ok (.putfield 30, 3) := by decide +kernel
theorem dX8_advance_70 : decode cX8_advance 70 = .ok (.return_, 1) := by decide +kernel
theorem dX8_advance_71 : decode cX8_advance 71 = .ok (.aload_n 0, 1) := by decide +kernel
theorem dX8_advance_72 : decode cX8_advance 72 = .ok (.aload_n 0, 1) := by decide +kernel
theorem dX8_advance_73 : decode cX8_advance 73 = .ok (.getfield 9, 3) := by decide +kernel
theorem dX8_advance_76 : decode cX8_advance 76 = .ok (.aload_n 0, 1) := by decide +kernel
theorem dX8_advance_77 : decode cX8_advance 77 = .ok (.getfield 37, 3) := by decide +kernel
theorem dX8_advance_80 : decode cX8_advance 80 = .ok (.iaload, 1) := by decide +kernel
theorem dX8_advance_81 : decode cX8_advance 81 = .ok (.invokestatic 79, 3) := by decide +kernel
theorem dX8_advance_84 : decode cX8_advance 84 = .ok (.putfield 30, 3) := by decide +kernel
theorem dX8_advance_87 : decode cX8_advance 87 = .ok (.aload_n 0, 1) := by decide +kernel
theorem dX8_advance_88 : decode cX8_advance 88 = .ok (.aload_n 0, 1) := by decide +kernel
theorem dX8_advance_89 : decode cX8_advance 89 = .ok (.getfield 37, 3) := by decide +kernel
theorem dX8_advance_92 : decode cX8_advance 92 = .ok (.iconst 1, 1) := by decide +kernel
theorem dX8_advance_93 : decode cX8_advance 93 = .ok (.iadd, 1) := by decide +kernel
theorem dX8_advance_94 : decode cX8_advance 94 = .ok (.putfield 24, 3) := by decide +kernel
theorem dX8_advance_97 : decode cX8_advance 97 = .ok (.aload_n 0, 1) := by decide +kernel
theorem dX8_advance_98 : decode cX8_advance 98 = .ok (.getfield 30, 3) := by decide +kernel
theorem dX8_advance_101 : decode cX8_advance 101 = .ok (.iconst 1, 1) := by decide +kernel
theorem dX8_advance_102 : decode cX8_advance 102 = .ok (.if_icmp .eq 11, 3) := by decide +kernel
theorem dX8_advance_105 : decode cX8_advance 105 = .ok (.aload_n 0, 1) := by decide +kernel
theorem dX8_advance_106 : decode cX8_advance 106 = .ok (.getfield 30, 3) := by decide +kernel
theorem dX8_advance_109 : decode cX8_advance 109 = .ok (.iconst 2, 1) := by decide +kernel
theorem dX8_advance_110 : decode cX8_advance 110 = .ok (.if_icmp .ne 7, 3) := by decide +kernel
theorem dX8_advance_113 : decode cX8_advance 113 = .ok (.iconst 1, 1) := by decide +kernel
theorem dX8_advance_114 : decode cX8_advance 114 = .ok (.goto 4, 3) := by decide +kernel
theorem dX8_advance_117 : decode cX8_advance 117 = .ok (.iconst 0, 1) := by decide +kernel
theorem dX8_advance_118 : decode cX8_advance 118 = .ok (.istore_n 1, 1) := by decide +kernel
theorem dX8_advance_119 : decode cX8_advance 119 = .ok (.iload_n 1, 1) := by decide +kernel
theorem dX8_advance_120 : decode cX8_advance 120 = .ok (.ifCond .eq 46, 3) := by decide +kernel
theorem dX8_advance_123 : decode cX8_advance 123 = .ok (.aload_n 0, 1) := by decide +kernel
theorem dX8_advance_124 : decode cX8_advance 124 = .ok (.getfield 24, 3) := by decide +kernel
theorem dX8_advance_127 : decode cX8_advance 127 = .ok (.aload_n 0, 1) := by decide +kernel
theorem dX8_advance_128 : decode cX8_advance 128 = .ok (.getfield 15, 3) := by decide +kernel
theorem dX8_advance_131 : decode cX8_advance 131 = .ok (.if_icmp .ge 35, 3) := by decide +kernel
theorem dX8_advance_134 : decode cX8_advance 134 = .ok (.aload_n 0, 1) := by decide +kernel
theorem dX8_advance_135 : decode cX8_advance 135 = .ok (.getfield 9, 3) := by decide +kernel
theorem dX8_advance_138 : decode cX8_advance 138 = .ok (.aload_n 0, 1) := by decide +kernel
theorem dX8_advance_139 : decode cX8_advance 139 = .ok (.getfield 24, 3) := by decide +kernel
theorem dX8_advance_142 : decode cX8_advance 142 = .ok (.iaload, 1) := by decide +kernel
theorem dX8_advance_143 : decode cX8_advance 143 = .ok (.invokestatic 79, 3) := by decide +kernel
theorem dX8_advance_146 : decode cX8_advance 146 = .ok (.aload_n 0, 1) := by decide +kernel
theorem dX8_advance_147 : decode cX8_advance 147 = .ok (.getfield 30, 3) := by decide +kernel
theorem dX8_advance_150 : decode cX8_advance 150 = .ok (.if_icmp .ne 16, 3) := by decide +kernel
theorem dX8_advance_153 : decode cX8_advance 153 = .ok (.aload_n 0, 1) := by decide +kernel
theorem dX8_advance_154 : decode cX8_advance 154 = .ok (.dup, 1) := by decide +kernel
theorem dX8_advance_155 : decode cX8_advance 155 = .ok (.getfield 24, 3) := by decide +kernel
theorem dX8_advance_158 : decode cX8_advance 158 = .ok (.iconst 1, 1) := by decide +kernel
theorem dX8_advance_159 : decode cX8_advance 159 = .ok (.iadd, 1) := by decide +kernel
theorem dX8_advance_160 : decode cX8_advance 160 = .ok (.putfield 24, 3) := by decide +kernel
theorem dX8_advance_163 : decode cX8_advance 163 = .ok (.goto (-44), 3) := by decide +kernel
theorem dX8_advance_166 : decode cX8_advance 166 = .ok (.return_, 1) := by decide +kernel
theorem dX8_tokenOf_0 : decode cX8_tokenOf 0 = .ok (.iload_n 0, 1) := by decide +kernel
theorem dX8_tokenOf_1 : decode cX8_tokenOf 1 = .ok (.bipush 97, 2) := by decide +kernel
theorem dX8_tokenOf_3 : decode cX8_tokenOf 3 = .ok (.if_icmp .lt 9, 3) := by decide +kernel
theorem dX8_tokenOf_6 : decode cX8_tokenOf 6 = .ok (.iload_n 0, 1) := by decide +kernel
theorem dX8_tokenOf_7 : decode cX8_tokenOf 7 = .ok (.bipush 122, 2) := by decide +kernel
theorem dX8_tokenOf_9 : decode cX8_tokenOf 9 = .ok (.if_icmp .le 9, 3) := by decide +kernel
theorem dX8_tokenOf_12 : decode cX8_tokenOf 12 = .ok (.iload_n 0, 1) := by decide +kernel
theorem dX8_tokenOf_13 : decode cX8_tokenOf 13 = .ok (.bipush 46, 2) := by decide +kernel
theorem dX8_tokenOf_15 : decode cX8_tokenOf 15 = .ok (.if_icmp .ne 5, 3) := by decide +kernel
theorem dX8_tokenOf_18 : decode cX8_tokenOf 18 = .ok (.iconst 1, 1) := by decide +kernel
theorem dX8_tokenOf_19 : decode cX8_tokenOf 19 = .ok (.ireturn, 1) := by decide +kernel
theorem dX8_tokenOf_20 : decode cX8_tokenOf 20 = .ok (.iload_n 0, 1) := by decide +kernel
theorem dX8_tokenOf_21 : decode cX8_tokenOf 21 = .ok (.bipush 48, 2) := by decide +kernel
theorem dX8_tokenOf_23 : decode cX8_tokenOf 23 = .ok (.if_icmp .lt 11, 3) := by decide +kernel
theorem dX8_tokenOf_26 : decode cX8_tokenOf 26 = .ok (.iload_n 0, 1) := by decide +kernel
theorem dX8_tokenOf_27 : decode cX8_tokenOf 27 = .ok (.bipush 57, 2) := by decide +kernel
theorem dX8_tokenOf_29 : decode cX8_tokenOf 29 = .ok (.if_icmp .gt 5, 3) := by decide +kernel
theorem dX8_tokenOf_32 : decode cX8_tokenOf 32 = .ok (.iconst 2, 1) := by decide +kernel
theorem dX8_tokenOf_33 : decode cX8_tokenOf 33 = .ok (.ireturn, 1) := by decide +kernel
theorem dX8_tokenOf_34 : decode cX8_tokenOf 34 = .ok (.iload_n 0, 1) := by decide +kernel
theorem dX8_tokenOf_35 : decode cX8_tokenOf 35 = .ok (.bipush 59, 2) := by decide +kernel
theorem dX8_tokenOf_37 : decode cX8_tokenOf 37 = .ok (.if_icmp .ne 7, 3) := by decide +kernel
theorem dX8_tokenOf_40 : decode cX8_tokenOf 40 = .ok (.iconst 3, 1) := by decide +kernel
theorem dX8_tokenOf_41 : decode cX8_tokenOf 41 = .ok (.goto 4, 3) := by decide +kernel
theorem dX8_tokenOf_44 : decode cX8_tokenOf 44 = .ok (.iconst 4, 1) := by decide +kernel
theorem dX8_tokenOf_45 : decode cX8_tokenOf 45 = .ok (.ireturn, 1) := by decide +kernel
theorem dX8_signOf_0 : decode cX8_signOf 0 = .ok (.iload_n 0, 1) := by decide +kernel
theorem dX8_signOf_1 : decode cX8_signOf 1 = .ok (.bipush 46, 2) := by decide +kernel
theorem dX8_signOf_3 : decode cX8_signOf 3 = .ok (.if_icmp .ne 8, 3) := by decide +kernel
theorem dX8_signOf_6 : decode cX8_signOf 6 = .ok (.bipush 26, 2) := by decide +kernel
theorem dX8_signOf_8 : decode cX8_signOf 8 = .ok (.goto 7, 3) := by decide +kernel
theorem dX8_signOf_11 : decode cX8_signOf 11 = .ok (.iload_n 0, 1) := by decide +kernel
theorem dX8_signOf_12 : decode cX8_signOf 12 = .ok (.bipush 97, 2) := by decide +kernel
theorem dX8_signOf_14 : decode cX8_signOf 14 = .ok (.isub, 1) := by decide +kernel
theorem dX8_signOf_15 : decode cX8_signOf 15 = .ok (.ireturn, 1) := by decide +kernel
theorem dX9_init_0 : decode cX9_init 0 = .ok (.aload_n 0, 1) := by decide +kernel
theorem dX9_init_1 : decode cX9_init 1 = .ok (.invokespecial 3, 3) := by decide +kernel
theorem dX9_init_4 : decode cX9_init 4 = .ok (.aload_n 0, 1) := by decide +kernel
theorem dX9_init_5 : decode cX9_init 5 = .ok (.new 9, 3) := by decide +kernel
theorem dX9_init_8 : decode cX9_init 8 = .ok (.dup, 1) := by decide +kernel
theorem dX9_init_9 : decode cX9_init 9 = .ok (.invokespecial 11, 3) := by decide +kernel
theorem dX9_init_12 : decode cX9_init 12 = .ok (.putfield 12, 3) := by decide +kernel
theorem dX9_init_15 : decode cX9_init 15 = .ok (.aload_n 0, 1) := by decide +kernel
theorem dX9_init_16 : decode cX9_init 16 = .ok (.bipush 21, 2) := by decide +kernel
theorem dX9_init_18 : decode cX9_init 18 = .ok (.newarray .int, 2) := by decide +kernel
theorem dX9_init_20 : decode cX9_init 20 = .ok (.putfield 18, 3) := by decide +kernel
theorem dX9_init_23 : decode cX9_init 23 = .ok (.aload_n 0, 1) := by decide +kernel
theorem dX9_init_24 : decode cX9_init 24 = .ok (.iload_n 1, 1) := by decide +kernel
theorem dX9_init_25 : decode cX9_init 25 = .ok (.putfield 22, 3) := by decide +kernel
theorem dX9_init_28 : decode cX9_init 28 = .ok (.aload_n 0, 1) := by decide +kernel
theorem dX9_init_29 : decode cX9_init 29 = .ok (.iload_n 2, 1) := by decide +kernel
theorem dX9_init_30 : decode cX9_init 30 = .ok (.putfield 26, 3) := by decide +kernel
theorem dX9_init_33 : decode cX9_init 33 = .ok (.return_, 1) := by decide +kernel
theorem dX9_search_0 : decode cX9_search 0 = .ok (.aload_n 0, 1) := by decide +kernel
theorem dX9_search_1 : decode cX9_search 1 = .ok (.aload_n 2, 1) := by decide +kernel
theorem dX9_search_2 : decode cX9_search 2 = .ok (.invokevirtual 29, 3) := by decide +kernel
theorem dX9_search_5 : decode cX9_search 5 = .ok (.aload_n 0, 1) := by decide +kernel
theorem dX9_search_6 : decode cX9_search 6 = .ok (.getfield 12, 3) := by decide +kernel
theorem dX9_search_9 : decode cX9_search 9 = .ok (.aload_n 2, 1) := by decide +kernel
theorem dX9_search_10 : decode cX9_search 10 = .ok (.invokevirtual 33, 3) := by decide +kernel
theorem dX9_search_13 : decode cX9_search 13 = .ok (.iconst 0, 1) := by decide +kernel
theorem dX9_search_14 : decode cX9_search 14 = .ok (.istore_n 3, 1) := by decide +kernel
theorem dX9_search_15 : decode cX9_search 15 = .ok (.iload_n 3, 1) := by decide +kernel
theorem dX9_search_16 : decode cX9_search 16 = .ok (.iconst 3, 1) := by decide +kernel
theorem dX9_search_17 : decode cX9_search 17 = .ok (.if_icmp .ge 16, 3) := by decide +kernel
theorem dX9_search_20 : decode cX9_search 20 = .ok (.aload_n 0, 1) := by decide +kernel
theorem dX9_search_21 : decode cX9_search 21 = .ok (.getfield 18, 3) := by decide +kernel
theorem dX9_search_24 : decode cX9_search 24 = .ok (.iload_n 3, 1) := by decide +kernel
theorem dX9_search_25 : decode cX9_search 25 = .ok (.iconst 1, 1) := by decide +kernel
theorem dX9_search_26 : decode cX9_search 26 = .ok (.iastore, 1) := by decide +kernel
theorem dX9_search_27 : decode cX9_search 27 = .ok (.iinc 3 1, 3) := by decide +kernel
theorem dX9_search_30 : decode cX9_search 30 = .ok (.goto (-15), 3) := by decide +kernel
theorem dX9_search_33 : decode cX9_search 33 = .ok (.aload_n 0, 1) := by decide +kernel
theorem dX9_search_34 : decode cX9_search 34 = .ok (.aload_n 1, 1) := by decide +kernel
theorem dX9_search_35 : decode cX9_search 35 = .ok (.iconst 0, 1) := by decide +kernel
theorem dX9_search_36 : decode cX9_search 36 = .ok (.aload_n 2, 1) := by decide +kernel
theorem dX9_search_37 : decode cX9_search 37 = .ok (.invokevirtual 38, 3) := by decide +kernel
theorem dX9_search_40 : decode cX9_search 40 = .ok (.iconst 0, 1) := by decide +kernel
theorem dX9_search_41 : decode cX9_search 41 = .ok (.invokevirtual 42, 3) := by decide +kernel
theorem dX9_search_44 : decode cX9_search 44 = .ok (.return_, 1) := by decide +kernel
theorem dX9_lengthen_0 : decode cX9_lengthen 0 = .ok (.iload_n 2, 1) := by decide +kernel
theorem dX9_lengthen_1 : decode cX9_lengthen 1 = .ok (.aload_n 0, 1) := by decide +kernel
theorem dX9_lengthen_2 : decode cX9_lengthen 2 = .ok (.getfield 12, 3) := by decide +kernel
theorem dX9_lengthen_5 : decode cX9_lengthen 5 = .ok (.getfield 46, 3) := by decide +kernel
theorem dX9_lengthen_8 : decode cX9_lengthen 8 = .ok (.if_icmp .lt 27, 3) := by decide +kernel
theorem dX9_lengthen_11 : decode cX9_lengthen 11 = .ok (.aload_n 0, 1) := by decide +kernel
theorem dX9_lengthen_12 : decode cX9_lengthen 12 = .ok (.getfield 26, 3) := by decide +kernel
theorem dX9_lengthen_15 : decode cX9_lengthen 15 = .ok (.ifCond .eq 12, 3) := by decide +kernel
theorem dX9_lengthen_18 : decode cX9_lengthen 18 = .ok (.aload_n 0, 1) := by decide +kernel
theorem dX9_lengthen_19 : decode cX9_lengthen 19 = .ok (.aload_n 1, 1) := by decide +kernel
theorem dX9_lengthen_20 : decode cX9_lengthen 20 = .ok (.iload_n 2, 1) := by decide +kernel
theorem dX9_lengthen_21 : decode cX9_lengthen 21 = .ok (.invokevirtual 50, 3) := by decide +kernel
theorem dX9_lengthen_24 : decode cX9_lengthen 24 = .ok (.ifCond .eq 10, 3) := by decide +kernel
theorem dX9_lengthen_27 : decode cX9_lengthen 27 = .ok (.aload_n 0, 1) := by decide +kernel
theorem dX9_lengthen_28 : decode cX9_lengthen 28 = .ok (.aload_n 1, 1) := by decide +kernel
theorem dX9_lengthen_29 : decode cX9_lengthen 29 = .ok (.iload 4, 2) := by decide +kernel
theorem dX9_lengthen_31 : decode cX9_lengthen 31 = .ok (.invokevirtual 54, 3) := by decide +kernel
theorem dX9_lengthen_34 : decode cX9_lengthen 34 = .ok (.return_, 1) := by decide +kernel
theorem dX9_lengthen_35 : decode cX9_lengthen 35 = .ok (.iconst 0, 1) := by decide +kernel
theorem dX9_lengthen_36 : decode cX9_lengthen 36 = .ok (.istore 5, 2) := by decide +kernel
theorem dX9_lengthen_38 : decode cX9_lengthen 38 = .ok (.iload 5, 2) := by decide +kernel
theorem dX9_lengthen_40 : decode cX9_lengthen 40 = .ok (.aload_n 1, 1) := by decide +kernel
theorem dX9_lengthen_41 : decode cX9_lengthen 41 = .ok (.getfield 58, 3) := by decide +kernel
theorem dX9_lengthen_44 : decode cX9_lengthen 44 = .ok (.if_icmp .ge 96, 3) := by decide +kernel
theorem dX9_lengthen_47 : decode cX9_lengthen 47 = .ok (.iconst 0, 1) := by decide +kernel
theorem dX9_lengthen_48 : decode cX9_lengthen 48 = .ok (.istore 6, 2) := by decide +kernel
theorem dX9_lengthen_50 : decode cX9_lengthen 50 = .ok (.iload 6, 2) := by decide +kernel
theorem dX9_lengthen_52 : decode cX9_lengthen 52 = .ok (.iconst 2, 1) := by decide +kernel
theorem dX9_lengthen_53 : decode cX9_lengthen 53 = .ok (.if_icmp .ge 81, 3) := by decide +kernel
theorem dX9_lengthen_56 : decode cX9_lengthen 56 = .ok (.iload_n 3, 1) := by decide +kernel
theorem dX9_lengthen_57 : decode cX9_lengthen 57 = .ok (.iload 5, 2) := by decide +kernel
theorem dX9_lengthen_59 : decode cX9_lengthen 59 = .ok (.ishr, 1) := by decide +kernel
theorem dX9_lengthen_60 : decode cX9_lengthen 60 = .ok (.iconst 1, 1) := by decide +kernel
theorem dX9_lengthen_61 : decode cX9_lengthen 61 = .ok (.iand, 1) := by decide +kernel
theorem dX9_lengthen_62 : decode cX9_lengthen 62 = .ok (.iconst 1, 1) := by decide +kernel
theorem dX9_lengthen_63 : decode cX9_lengthen 63 = .ok (.if_icmp .ne 65, 3) := by decide +kernel
theorem dX9_lengthen_66 : decode cX9_lengthen 66 = .ok (.aload_n 0, 1) := by decide +kernel
theorem dX9_lengthen_67 : decode cX9_lengthen 67 = .ok (.iload 5, 2) := by decide +kernel
theorem dX9_lengthen_69 : decode cX9_lengthen 69 = .ok (.iload 6, 2) := by decide +kernel
theorem dX9_lengthen_71 : decode cX9_lengthen 71 = .ok (.invokevirtual 63, 3) := by decide +kernel
theorem dX9_lengthen_74 : decode cX9_lengthen 74 = .ok (.ifCond .eq 54, 3) := by decide +kernel
theorem dX9_lengthen_77 : decode cX9_lengthen 77 = .ok (.aload_n 0, 1) := by decide +kernel
theorem dX9_lengthen_78 : decode cX9_lengthen 78 = .ok (.aload_n 1, 1) := by decide +kernel
theorem dX9_lengthen_79 : decode cX9_lengthen 79 = .ok (.iload_n 2, 1) := by decide +kernel
theorem dX9_lengthen_80 : decode cX9_lengthen 80 = .ok (.iload 5, 2) := by decide +kernel
theorem dX9_lengthen_82 : decode cX9_lengthen 82 = .ok (.iload 6, 2) := by decide +kernel
theorem dX9_lengthen_84 : decode cX9_lengthen 84 = .ok (.invokevirtual 67, 3) := by decide +kernel
theorem dX9_lengthen_87 : decode cX9_lengthen 87 = .ok (.ifCond .eq 41, 3) := by decide +kernel
theorem dX9_lengthen_90 : decode cX9_lengthen 90 = .ok (.aload_n 0, 1) := by decide +kernel
theorem dX9_lengthen_91 : decode cX9_lengthen 91 = .ok (.getfield 12, 3) := by decide +kernel
theorem dX9_lengthen_94 : decode cX9_lengthen 94 = .ok (.iload_n 2, 1) := by decide +kernel
theorem dX9_lengthen_95 : decode cX9_lengthen 95 = .ok (.iload 5, 2) := by decide +kernel
theorem dX9_lengthen_97 : decode cX9_lengthen 97 = .ok (.iload 6, 2) := by decide +kernel
theorem dX9_lengthen_99 : decode cX9_lengthen 99 = .ok (.invokevirtual 71, 3) := by decide +kernel
theorem dX9_lengthen_102 : decode cX9_lengthen 102 = .ok (.aload_n 0, 1) := by decide +kernel
theorem dX9_lengthen_103 : decode cX9_lengthen 103 = .ok (.aload_n 1, 1) := by decide +kernel
theorem dX9_lengthen_104 : decode cX9_lengthen 104 = .ok (.iload_n 2, 1) := by decide +kernel
theorem dX9_lengthen_105 : decode cX9_lengthen 105 = .ok (.iconst 1, 1) := by decide +kernel
theorem dX9_lengthen_106 : decode cX9_lengthen 106 = .ok (.iadd, 1) := by decide +kernel
theorem dX9_lengthen_107 : decode cX9_lengthen 107 = .ok (.iload_n 3, 1) := by decide +kernel
theorem dX9_lengthen_108 : decode cX9_lengthen 108 = .ok (.iconst 1, 1) := by decide +kernel
theorem dX9_lengthen_109 : decode cX9_lengthen 109 = .ok (.iload 5, 2) := by decide +kernel
theorem dX9_lengthen_111 : decode cX9_lengthen 111 = .ok (.ishl, 1) := by decide +kernel
theorem dX9_lengthen_112 : decode cX9_lengthen 112 = .ok (.iconst (-1), 1) := by decide +kernel
theorem dX9_lengthen_113 : decode cX9_lengthen 113 = .ok (.ixor, 1) := by decide +kernel
theorem dX9_lengthen_114 : decode cX9_lengthen 114 = .ok (.iand, 1) := by decide +kernel
theorem dX9_lengthen_115 : decode cX9_lengthen 115 = .ok (.iload 4, 2) := by decide +kernel
theorem dX9_lengthen_117 : decode cX9_lengthen 117 = .ok (.bipush 10, 2) := by decide +kernel
theorem dX9_lengthen_119 : decode cX9_lengthen 119 = .ok (.imul, 1) := by decide +kernel
theorem dX9_lengthen_120 : decode cX9_lengthen 120 = .ok (.iload 5, 2) := by decide +kernel
theorem dX9_lengthen_122 : decode cX9_lengthen 122 = .ok (.iadd, 1) := by decide +kernel
theorem dX9_lengthen_123 : decode cX9_lengthen 123 = .ok (.iconst 1, 1) := by decide +kernel
theorem dX9_lengthen_124 : decode cX9_lengthen 124 = .ok (.iadd, 1) := by decide +kernel
theorem dX9_lengthen_125 : decode cX9_lengthen 125 = .ok (.invokevirtual 42, 3) := by decide +kernel
theorem dX9_lengthen_128 : decode cX9_lengthen 128 = .ok (.iinc 6 1, 3) := by decide +kernel
theorem dX9_lengthen_131 : decode cX9_lengthen 131 = .ok (.goto (-81), 3) := by decide +kernel
theorem dX9_lengthen_134 : decode cX9_lengthen 134 = .ok (.iinc 5 1, 3) := by decide +kernel
theorem dX9_lengthen_137 : decode cX9_lengthen 137 = .ok (.goto (-99), 3) := by decide +kernel
theorem dX9_lengthen_140 : decode cX9_lengthen 140 = .ok (.return_, 1) := by decide +kernel
theorem dX9_mayLie_0 : decode cX9_mayLie 0 = .ok (.aload_n 0, 1) := by decide +kernel
theorem dX9_mayLie_1 : decode cX9_mayLie 1 = .ok (.getfield 22, 3) := by decide +kernel
theorem dX9_mayLie_4 : decode cX9_mayLie 4 = .ok (.ifCond .ne 15, 3) := by decide +kernel
theorem dX9_mayLie_7 : decode cX9_mayLie 7 = .ok (.aload_n 0, 1) := by decide +kernel
theorem dX9_mayLie_8 : decode cX9_mayLie 8 = .ok (.getfield 12, 3) := by decide +kernel
theorem dX9_mayLie_11 : decode cX9_mayLie 11 = .ok (.iload_n 1, 1) := by decide +kernel
theorem dX9_mayLie_12 : decode cX9_mayLie 12 = .ok (.invokevirtual 75, 3) := by decide +kernel
theorem dX9_mayLie_15 : decode cX9_mayLie 15 = .ok (.iload_n 2, 1) := by decide +kernel
theorem dX9_mayLie_16 : decode cX9_mayLie 16 = .ok (.if_icmp .ne 7, 3) := by decide +kernel
theorem dX9_mayLie_19 : decode cX9_mayLie 19 = .ok (.iconst 1, 1) := by decide +kernel
theorem dX9_mayLie_20 : decode cX9_mayLie 20 = .ok (.goto 4, 3) := by decide +kernel
theorem dX9_mayLie_23 : decode cX9_mayLie 23 = .ok (.iconst 0, 1) := by decide +kernel
theorem dX9_mayLie_24 : decode cX9_mayLie 24 = .ok (.ireturn, 1) := by decide +kernel
theorem dX9_goesOn_0 : decode cX9_goesOn 0 = .ok (.aload_n 0, 1) := by decide +kernel
theorem dX9_goesOn_1 : decode cX9_goesOn 1 = .ok (.getfield 26, 3) := by decide +kernel
theorem dX9_goesOn_4 : decode cX9_goesOn 4 = .ok (.ifCond .ne 5, 3) := by decide +kernel
theorem dX9_goesOn_7 : decode cX9_goesOn 7 = .ok (.iconst 1, 1) := by decide +kernel
theorem dX9_goesOn_8 : decode cX9_goesOn 8 = .ok (.ireturn, 1) := by decide +kernel
theorem dX9_goesOn_9 : decode cX9_goesOn 9 = .ok (.iload_n 2, 1) := by decide +kernel
theorem dX9_goesOn_10 : decode cX9_goesOn 10 = .ok (.iconst 3, 1) := by decide +kernel
theorem dX9_goesOn_11 : decode cX9_goesOn 11 = .ok (.imul, 1) := by decide +kernel
theorem dX9_goesOn_12 : decode cX9_goesOn 12 = .ok (.istore 5, 2) := by decide +kernel
theorem dX9_goesOn_14 : decode cX9_goesOn 14 = .ok (.iconst 0, 1) := by decide +kernel
theorem dX9_goesOn_15 : decode cX9_goesOn 15 = .ok (.istore 6, 2) := by decide +kernel
theorem dX9_goesOn_17 : decode cX9_goesOn 17 = .ok (.iload 6, 2) := by decide +kernel
theorem dX9_goesOn_19 : decode cX9_goesOn 19 = .ok (.aload_n 1, 1) := by decide +kernel
theorem dX9_goesOn_20 : decode cX9_goesOn 20 = .ok (.getfield 79, 3) := by decide +kernel
theorem dX9_goesOn_23 : decode cX9_goesOn 23 = .ok (.if_icmp .ge 51, 3) := by decide +kernel
theorem dX9_goesOn_26 : decode cX9_goesOn 26 = .ok (.aload_n 1, 1) := by decide +kernel
theorem dX9_goesOn_27 : decode cX9_goesOn 27 = .ok (.aload_n 0, 1) := by decide +kernel
theorem dX9_goesOn_28 : decode cX9_goesOn 28 = .ok (.getfield 18, 3) := by decide +kernel
theorem dX9_goesOn_31 : decode cX9_goesOn 31 = .ok (.iload 5, 2) := by decide +kernel
theorem dX9_goesOn_33 : decode cX9_goesOn 33 = .ok (.iload 6, 2) := by decide +kernel
theorem dX9_goesOn_35 : decode cX9_goesOn 35 = .ok (.iadd, 1) := by decide +kernel
theorem dX9_goesOn_36 : decode cX9_goesOn 36 = .ok (.iaload, 1) := by decide +kernel
theorem dX9_goesOn_37 : decode cX9_goesOn 37 = .ok (.iload_n 3, 1) := by decide +kernel
theorem dX9_goesOn_38 : decode cX9_goesOn 38 = .ok (.iload 4, 2) := by decide +kernel
theorem dX9_goesOn_40 : decode cX9_goesOn 40 = .ok (.iload 6, 2) := by decide +kernel
theorem dX9_goesOn_42 : decode cX9_goesOn 42 = .ok (.invokevirtual 82, 3) := by decide +kernel
theorem dX9_goesOn_45 : decode cX9_goesOn 45 = .ok (.istore 7, 2) := by decide +kernel
theorem dX9_goesOn_47 : decode cX9_goesOn 47 = .ok (.iload 7, 2) := by decide +kernel
theorem dX9_goesOn_49 : decode cX9_goesOn 49 = .ok (.ifCond .ne 5, 3) := by decide +kernel
theorem dX9_goesOn_52 : decode cX9_goesOn 52 = .ok (.iconst 0, 1) := by decide +kernel
theorem dX9_goesOn_53 : decode cX9_goesOn 53 = .ok (.ireturn, 1) := by decide +kernel
theorem dX9_goesOn_54 : decode cX9_goesOn 54 = .ok (.aload_n 0, 1) := by decide +kernel
theorem dX9_goesOn_55 : decode cX9_goesOn 55 = .ok (.getfield 18, 3) := by decide +kernel
theorem dX9_goesOn_58 : decode cX9_goesOn 58 = .ok (.iload 5, 2) := by decide +kernel
theorem dX9_goesOn_60 : decode cX9_goesOn 60 = .ok (.iconst 3, 1) := by decide +kernel
theorem dX9_goesOn_61 : decode cX9_goesOn 61 = .ok (.iadd, 1) := by decide +kernel
theorem dX9_goesOn_62 : decode cX9_goesOn 62 = .ok (.iload 6, 2) := by decide +kernel
theorem dX9_goesOn_64 : decode cX9_goesOn 64 = .ok (.iadd, 1) := by decide +kernel
theorem dX9_goesOn_65 : decode cX9_goesOn 65 = .ok (.iload 7, 2) := by decide +kernel
theorem dX9_goesOn_67 : decode cX9_goesOn 67 = .ok (.iastore, 1) := by decide +kernel
theorem dX9_goesOn_68 : decode cX9_goesOn 68 = .ok (.iinc 6 1, 3) := by decide +kernel
theorem dX9_goesOn_71 : decode cX9_goesOn 71 = .ok (.goto (-54), 3) := by decide +kernel
theorem dX9_goesOn_74 : decode cX9_goesOn 74 = .ok (.iconst 1, 1) := by decide +kernel
theorem dX9_goesOn_75 : decode cX9_goesOn 75 = .ok (.ireturn, 1) := by decide +kernel
theorem dX9_endsRight_0 : decode cX9_endsRight 0 = .ok (.iload_n 2, 1) := by decide +kernel
theorem dX9_endsRight_1 : decode cX9_endsRight 1 = .ok (.iconst 3, 1) := by decide +kernel
theorem dX9_endsRight_2 : decode cX9_endsRight 2 = .ok (.imul, 1) := by decide +kernel
theorem dX9_endsRight_3 : decode cX9_endsRight 3 = .ok (.istore_n 3, 1) := by decide +kernel
theorem dX9_endsRight_4 : decode cX9_endsRight 4 = .ok (.iconst 0, 1) := by decide +kernel
theorem dX9_endsRight_5 : decode cX9_endsRight 5 = .ok (.istore 4, 2) := by decide +kernel
theorem dX9_endsRight_7 : decode cX9_endsRight 7 = .ok (.iload 4, 2) := by decide +kernel
theorem dX9_endsRight_9 : decode cX9_endsRight 9 = .ok (.aload_n 1, 1) := by decide +kernel
theorem dX9_endsRight_10 : decode cX9_endsRight 10 = .ok (.getfield 79, 3) := by decide +kernel
theorem dX9_endsRight_13 : decode cX9_endsRight 13 = .ok (.if_icmp .ge 30, 3) := by decide +kernel
theorem dX9_endsRight_16 : decode cX9_endsRight 16 = .ok (.aload_n 1, 1) := by decide +kernel
theorem dX9_endsRight_17 : decode cX9_endsRight 17 = .ok (.getfield 86, 3) := by decide +kernel
theorem dX9_endsRight_20 : decode cX9_endsRight 20 = .ok (.aload_n 0, 1) := by decide +kernel
theorem dX9_endsRight_21 : decode cX9_endsRight 21 = .ok (.getfield 18, 3) := by decide +kernel
theorem dX9_endsRight_24 : decode cX9_endsRight 24 = .ok (.iload_n 3, 1) := by decide +kernel
theorem dX9_endsRight_25 : decode cX9_endsRight 25 = .ok (.iload 4, 2) := by decide +kernel
theorem dX9_endsRight_27 : decode cX9_endsRight 27 = .ok (.iadd, 1) := by decide +kernel
theorem dX9_endsRight_28 : decode cX9_endsRight 28 = .ok (.iaload, 1) := by decide +kernel
theorem dX9_endsRight_29 : decode cX9_endsRight 29 = .ok (.invokevirtual 90, 3) := by decide +kernel
theorem dX9_endsRight_32 : decode cX9_endsRight 32 = .ok (.ifCond .ne 5, 3) := by decide +kernel
theorem dX9_endsRight_35 : decode cX9_endsRight 35 = .ok (.iconst 0, 1) := by decide +kernel
theorem dX9_endsRight_36 : decode cX9_endsRight 36 = .ok (.ireturn, 1) := by decide +kernel
theorem dX9_endsRight_37 : decode cX9_endsRight 37 = .ok (.iinc 4 1, 3) := by decide +kernel
theorem dX9_endsRight_40 : decode cX9_endsRight 40 = .ok (.goto (-33), 3) := by decide +kernel
theorem dX9_endsRight_43 : decode cX9_endsRight 43 = .ok (.iconst 1, 1) := by decide +kernel
theorem dX9_endsRight_44 : decode cX9_endsRight 44 = .ok (.ireturn, 1) := by decide +kernel
theorem dX10_init_0 : decode cX10_init 0 = .ok (.aload_n 0, 1) := by decide +kernel
theorem dX10_init_1 : decode cX10_init 1 = .ok (.invokespecial 1, 3) := by decide +kernel
theorem dX10_init_4 : decode cX10_init 4 = .ok (.aload_n 0, 1) := by decide +kernel
theorem dX10_init_5 : decode cX10_init 5 = .ok (.new 7, 3) := by decide +kernel
theorem dX10_init_8 : decode cX10_init 8 = .ok (.dup, 1) := by decide +kernel
theorem dX10_init_9 : decode cX10_init 9 = .ok (.invokespecial 9, 3) := by decide +kernel
theorem dX10_init_12 : decode cX10_init 12 = .ok (.putfield 10, 3) := by decide +kernel
theorem dX10_init_15 : decode cX10_init 15 = .ok (.aload_n 0, 1) := by decide +kernel
theorem dX10_init_16 : decode cX10_init 16 = .ok (.new 16, 3) := by decide +kernel
theorem dX10_init_19 : decode cX10_init 19 = .ok (.dup, 1) := by decide +kernel
theorem dX10_init_20 : decode cX10_init 20 = .ok (.invokespecial 18, 3) := by decide +kernel
theorem dX10_init_23 : decode cX10_init 23 = .ok (.putfield 19, 3) := by decide +kernel
theorem dX10_init_26 : decode cX10_init 26 = .ok (.aload_n 0, 1) := by decide +kernel
theorem dX10_init_27 : decode cX10_init 27 = .ok (.new 16, 3) := by decide +kernel
theorem dX10_init_30 : decode cX10_init 30 = .ok (.dup, 1) := by decide +kernel
theorem dX10_init_31 : decode cX10_init 31 = .ok (.invokespecial 18, 3) := by decide +kernel
theorem dX10_init_34 : decode cX10_init 34 = .ok (.putfield 23, 3) := by decide +kernel
theorem dX10_init_37 : decode cX10_init 37 = .ok (.aload_n 0, 1) := by decide +kernel
theorem dX10_init_38 : decode cX10_init 38 = .ok (.new 26, 3) := by decide +kernel
theorem dX10_init_41 : decode cX10_init 41 = .ok (.dup, 1) := by decide +kernel
theorem dX10_init_42 : decode cX10_init 42 = .ok (.invokespecial 28, 3) := by decide +kernel
theorem dX10_init_45 : decode cX10_init 45 = .ok (.putfield 29, 3) := by decide +kernel
theorem dX10_init_48 : decode cX10_init 48 = .ok (.aload_n 0, 1) := by decide +kernel
theorem dX10_init_49 : decode cX10_init 49 = .ok (.new 26, 3) := by decide +kernel
theorem dX10_init_52 : decode cX10_init 52 = .ok (.dup, 1) := by decide +kernel
theorem dX10_init_53 : decode cX10_init 53 = .ok (.invokespecial 28, 3) := by decide +kernel
theorem dX10_init_56 : decode cX10_init 56 = .ok (.putfield 33, 3) := by decide +kernel
theorem dX10_init_59 : decode cX10_init 59 = .ok (.aload_n 0, 1) := by decide +kernel
theorem dX10_init_60 : decode cX10_init 60 = .ok (.new 26, 3) := by decide +kernel
theorem dX10_init_63 : decode cX10_init 63 = .ok (.dup, 1) := by decide +kernel
theorem dX10_init_64 : decode cX10_init 64 = .ok (.invokespecial 28, 3) := by decide +kernel
theorem dX10_init_67 : decode cX10_init 67 = .ok (.putfield 36, 3) := by decide +kernel
theorem dX10_init_70 : decode cX10_init 70 = .ok (.aload_n 0, 1) := by decide +kernel
theorem dX10_init_71 : decode cX10_init 71 = .ok (.new 39, 3) := by decide +kernel
theorem dX10_init_74 : decode cX10_init 74 = .ok (.dup, 1) := by decide +kernel
theorem dX10_init_75 : decode cX10_init 75 = .ok (.invokespecial 41, 3) := by decide +kernel
theorem dX10_init_78 : decode cX10_init 78 = .ok (.putfield 42, 3) := by decide +kernel
theorem dX10_init_81 : decode cX10_init 81 = .ok (.aload_n 0, 1) := by decide +kernel
theorem dX10_init_82 : decode cX10_init 82 = .ok (.new 46, 3) := by decide +kernel
theorem dX10_init_85 : decode cX10_init 85 = .ok (.dup, 1) := by decide +kernel
theorem dX10_init_86 : decode cX10_init 86 = .ok (.invokespecial 48, 3) := by decide +kernel
theorem dX10_init_89 : decode cX10_init 89 = .ok (.putfield 49, 3) := by decide +kernel
theorem dX10_init_92 : decode cX10_init 92 = .ok (.aload_n 0, 1) := by decide +kernel
theorem dX10_init_93 : decode cX10_init 93 = .ok (.new 53, 3) := by decide +kernel
theorem dX10_init_96 : decode cX10_init 96 = .ok (.dup, 1) := by decide +kernel
theorem dX10_init_97 : decode cX10_init 97 = .ok (.invokespecial 55, 3) := by decide +kernel
theorem dX10_init_100 : decode cX10_init 100 = .ok (.putfield 56, 3) := by decide +kernel
theorem dX10_init_103 : decode cX10_init 103 = .ok (.aload_n 0, 1) := by decide +kernel
theorem dX10_init_104 : decode cX10_init 104 = .ok (.new 60, 3) := by decide +kernel
theorem dX10_init_107 : decode cX10_init 107 = .ok (.dup, 1) := by decide +kernel
theorem dX10_init_108 : decode cX10_init 108 = .ok (.invokespecial 62, 3) := by decide +kernel
theorem dX10_init_111 : decode cX10_init 111 = .ok (.putfield 63, 3) := by decide +kernel
theorem dX10_init_114 : decode cX10_init 114 = .ok (.aload_n 0, 1) := by decide +kernel
theorem dX10_init_115 : decode cX10_init 115 = .ok (.new 67, 3) := by decide +kernel
theorem dX10_init_118 : decode cX10_init 118 = .ok (.dup, 1) := by decide +kernel
theorem dX10_init_119 : decode cX10_init 119 = .ok (.invokespecial 69, 3) := by decide +kernel
theorem dX10_init_122 : decode cX10_init 122 = .ok (.putfield 70, 3) := by decide +kernel
theorem dX10_init_125 : decode cX10_init 125 = .ok (.return_, 1) := by decide +kernel
theorem dX10_type_0 : decode cX10_type 0 = .ok (.iload_n 1, 1) := by decide +kernel
theorem dX10_type_1 : decode cX10_type 1 = .ok (.ifCond .lt 10, 3) := by decide +kernel
theorem dX10_type_4 : decode cX10_type 4 = .ok (.iload_n 1, 1) := by decide +kernel
theorem dX10_type_5 : decode cX10_type 5 = .ok (.sipush 255, 3) := by decide +kernel
theorem dX10_type_8 : decode cX10_type 8 = .ok (.if_icmp .le 5, 3) := by decide +kernel
theorem dX10_type_11 : decode cX10_type 11 = .ok (.iconst (-1), 1) := by decide +kernel
theorem dX10_type_12 : decode cX10_type 12 = .ok (.ireturn, 1) := by decide +kernel
theorem dX10_type_13 : decode cX10_type 13 = .ok (.aload_n 0, 1) := by decide +kernel
theorem dX10_type_14 : decode cX10_type 14 = .ok (.getfield 10, 3) := by decide +kernel
theorem dX10_type_17 : decode cX10_type 17 = .ok (.iload_n 1, 1) := by decide +kernel
theorem dX10_type_18 : decode cX10_type 18 = .ok (.invokevirtual 74, 3) := by decide +kernel
theorem dX10_type_21 : decode cX10_type 21 = .ok (.ifCond .eq 13, 3) := by decide +kernel
theorem dX10_type_24 : decode cX10_type 24 = .ok (.aload_n 0, 1) := by decide +kernel
theorem dX10_type_25 : decode cX10_type 25 = .ok (.getfield 10, 3) := by decide +kernel
theorem dX10_type_28 : decode cX10_type 28 = .ok (.getfield 78, 3) := by decide +kernel
theorem dX10_type_31 : decode cX10_type 31 = .ok (.goto 5, 3) := by decide +kernel
theorem dX10_type_34 : decode cX10_type 34 = .ok (.bipush (-3), 2) := by decide +kernel
theorem dX10_type_36 : decode cX10_type 36 = .ok (.ireturn, 1) := by decide +kernel
theorem dX10_clear_0 : decode cX10_clear 0 = .ok (.aload_n 0, 1) := by decide +kernel
theorem dX10_clear_1 : decode cX10_clear 1 = .ok (.getfield 10, 3) := by decide +kernel
theorem dX10_clear_4 : decode cX10_clear 4 = .ok (.invokevirtual 82, 3) := by decide +kernel
theorem dX10_clear_7 : decode cX10_clear 7 = .ok (.ireturn, 1) := by decide +kernel
theorem dX10_page_0 : decode cX10_page 0 = .ok (.aload_n 0, 1) := by decide +kernel
theorem dX10_page_1 : decode cX10_page 1 = .ok (.getfield 10, 3) := by decide +kernel
theorem dX10_page_4 : decode cX10_page 4 = .ok (.aload_n 0, 1) := by decide +kernel
theorem dX10_page_5 : decode cX10_page 5 = .ok (.getfield 23, 3) := by decide +kernel
theorem dX10_page_8 : decode cX10_page 8 = .ok (.invokevirtual 86, 3) := by decide +kernel
theorem dX10_page_11 : decode cX10_page 11 = .ok (.istore_n 1, 1) := by decide +kernel
theorem dX10_page_12 : decode cX10_page 12 = .ok (.iload_n 1, 1) := by decide +kernel
theorem dX10_page_13 : decode cX10_page 13 = .ok (.ifCond .ge 5, 3) := by decide +kernel
theorem dX10_page_16 : decode cX10_page 16 = .ok (.iload_n 1, 1) := by decide +kernel
theorem dX10_page_17 : decode cX10_page 17 = .ok (.ireturn, 1) := by decide +kernel
theorem dX10_page_18 : decode cX10_page 18 = .ok (.aload_n 0, 1) := by decide +kernel
theorem dX10_page_19 : decode cX10_page 19 = .ok (.getfield 19, 3) := by decide +kernel
theorem dX10_page_22 : decode cX10_page 22 = .ok (.astore_n 2, 1) := by decide +kernel
theorem dX10_page_23 : decode cX10_page 23 = .ok (.aload_n 0, 1) := by decide +kernel
theorem dX10_page_24 : decode cX10_page 24 = .ok (.aload_n 0, 1) := by decide +kernel
theorem dX10_page_25 : decode cX10_page 25 = .ok (.getfield 23, 3) := by decide +kernel
theorem dX10_page_28 : decode cX10_page 28 = .ok (.putfield 19, 3) := by decide +kernel
theorem dX10_page_31 : decode cX10_page 31 = .ok (.aload_n 0, 1) := by decide +kernel
theorem dX10_page_32 : decode cX10_page 32 = .ok (.aload_n 2, 1) := by decide +kernel
theorem dX10_page_33 : decode cX10_page 33 = .ok (.putfield 23, 3) := by decide +kernel
theorem dX10_page_36 : decode cX10_page 36 = .ok (.aload_n 0, 1) := by decide +kernel
theorem dX10_page_37 : decode cX10_page 37 = .ok (.getfield 10, 3) := by decide +kernel
theorem dX10_page_40 : decode cX10_page 40 = .ok (.invokevirtual 82, 3) := by decide +kernel
theorem dX10_page_43 : decode cX10_page 43 = .ok (.pop, 1) := by decide +kernel
theorem dX10_page_44 : decode cX10_page 44 = .ok (.aload_n 0, 1) := by decide +kernel
theorem dX10_page_45 : decode cX10_page 45 = .ok (.getfield 29, 3) := by decide +kernel
theorem dX10_page_48 : decode cX10_page 48 = .ok (.aload_n 0, 1) := by decide +kernel
theorem dX10_page_49 : decode cX10_page 49 = .ok (.getfield 19, 3) := by decide +kernel
theorem dX10_page_52 : decode cX10_page 52 = .ok (.getfield 90, 3) := by decide +kernel
theorem dX10_page_55 : decode cX10_page 55 = .ok (.invokevirtual 93, 3) := by decide +kernel
theorem dX10_page_58 : decode cX10_page 58 = .ok (.aload_n 0, 1) := by decide +kernel
theorem dX10_page_59 : decode cX10_page 59 = .ok (.getfield 56, 3) := by decide +kernel
theorem dX10_page_62 : decode cX10_page 62 = .ok (.invokevirtual 97, 3) := by decide +kernel
theorem dX10_page_65 : decode cX10_page 65 = .ok (.aload_n 0, 1) := by decide +kernel
theorem dX10_page_66 : decode cX10_page 66 = .ok (.invokevirtual 100, 3) := by decide +kernel
theorem dX10_page_69 : decode cX10_page 69 = .ok (.pop, 1) := by decide +kernel
theorem dX10_page_70 : decode cX10_page 70 = .ok (.aload_n 0, 1) := by decide +kernel
theorem dX10_page_71 : decode cX10_page 71 = .ok (.iconst 0, 1) := by decide +kernel
theorem dX10_page_72 : decode cX10_page 72 = .ok (.putfield 103, 3) := by decide +kernel
theorem dX10_page_75 : decode cX10_page 75 = .ok (.iload_n 1, 1) := by decide +kernel
theorem dX10_page_76 : decode cX10_page 76 = .ok (.ireturn, 1) := by decide +kernel
theorem dX10_strip_0 : decode cX10_strip 0 = .ok (.aload_n 0, 1) := by decide +kernel
theorem dX10_strip_1 : decode cX10_strip 1 = .ok (.iload_n 1, 1) := by decide +kernel
theorem dX10_strip_2 : decode cX10_strip 2 = .ok (.invokevirtual 106, 3) := by decide +kernel
theorem dX10_strip_5 : decode cX10_strip 5 = .ok (.ifCond .ne 5, 3) := by decide +kernel
theorem dX10_strip_8 : decode cX10_strip 8 = .ok (.iconst (-1), 1) := by decide +kernel
theorem dX10_strip_9 : decode cX10_strip 9 = .ok (.ireturn, 1) := by decide +kernel
theorem dX10_strip_10 : decode cX10_strip 10 = .ok (.iload_n 2, 1) := by decide +kernel
theorem dX10_strip_11 : decode cX10_strip 11 = .ok (.tableswitch 90 0 3 #[29, 41, 53, 62], 29) := by decide +kernel
theorem dX10_strip_40 : decode cX10_strip 40 = .ok (.aload_n 0, 1) := by decide +kernel
theorem dX10_strip_41 : decode cX10_strip 41 = .ok (.getfield 29, 3) := by decide +kernel
theorem dX10_strip_44 : decode cX10_strip 44 = .ok (.getfield 109, 3) := by decide +kernel
theorem dX10_strip_47 : decode cX10_strip 47 = .ok (.iload_n 1, 1) := by decide +kernel
theorem dX10_strip_48 : decode cX10_strip 48 = .ok (.invokevirtual 112, 3) := by decide +kernel
theorem dX10_strip_51 : decode cX10_strip 51 = .ok (.ireturn, 1) := by decide +kernel
theorem dX10_strip_52 : decode cX10_strip 52 = .ok (.aload_n 0, 1) := by decide +kernel
theorem dX10_strip_53 : decode cX10_strip 53 = .ok (.getfield 29, 3) := by decide +kernel
theorem dX10_strip_56 : decode cX10_strip 56 = .ok (.getfield 109, 3) := by decide +kernel
theorem dX10_strip_59 : decode cX10_strip 59 = .ok (.iload_n 1, 1) := by decide +kernel
theorem dX10_strip_60 : decode cX10_strip 60 = .ok (.invokevirtual 116, 3) := by decide +kernel
theorem dX10_strip_63 : decode cX10_strip 63 = .ok (.ireturn, 1) := by decide +kernel
theorem dX10_strip_64 : decode cX10_strip 64 = .ok (.aload_n 0, 1) := by decide +kernel
theorem dX10_strip_65 : decode cX10_strip 65 = .ok (.getfield 19, 3) := by decide +kernel
theorem dX10_strip_68 : decode cX10_strip 68 = .ok (.iload_n 1, 1) := by decide +kernel
theorem dX10_strip_69 : decode cX10_strip 69 = .ok (.invokevirtual 119, 3) := by decide +kernel
theorem dX10_strip_72 : decode cX10_strip 72 = .ok (.ireturn, 1) := by decide +kernel
theorem dX10_strip_73 : decode cX10_strip 73 = .ok (.aload_n 0, 1) := by decide +kernel
theorem dX10_strip_74 : decode cX10_strip 74 = .ok (.getfield 49, 3) := by decide +kernel
theorem dX10_strip_77 : decode cX10_strip 77 = .ok (.aload_n 0, 1) := by decide +kernel
theorem dX10_strip_78 : decode cX10_strip 78 = .ok (.getfield 19, 3) := by decide +kernel
theorem dX10_strip_81 : decode cX10_strip 81 = .ok (.aload_n 0, 1) := by decide +kernel
theorem dX10_strip_82 : decode cX10_strip 82 = .ok (.getfield 29, 3) := by decide +kernel
theorem dX10_strip_85 : decode cX10_strip 85 = .ok (.getfield 109, 3) := by decide +kernel
theorem dX10_strip_88 : decode cX10_strip 88 = .ok (.invokevirtual 122, 3) := by decide +kernel
theorem dX10_strip_91 : decode cX10_strip 91 = .ok (.aload_n 0, 1) := by decide +kernel
theorem dX10_strip_92 : decode cX10_strip 92 = .ok (.getfield 49, 3) := by decide +kernel
theorem dX10_strip_95 : decode cX10_strip 95 = .ok (.getfield 126, 3) := by decide +kernel
theorem dX10_strip_98 : decode cX10_strip 98 = .ok (.iload_n 1, 1) := by decide +kernel
theorem dX10_strip_99 : decode cX10_strip 99 = .ok (.iaload, 1) := by decide +kernel
theorem dX10_strip_100 : decode cX10_strip 100 = .ok (.ireturn, 1) := by decide +kernel
theorem dX10_strip_101 : decode cX10_strip 101 = .ok (.iconst (-1), 1) := by decide +kernel
theorem dX10_strip_102 : decode cX10_strip 102 = .ok (.ireturn, 1) := by decide +kernel
theorem dX10_sign_0 : decode cX10_sign 0 = .ok (.aload_n 0, 1) := by decide +kernel
theorem dX10_sign_1 : decode cX10_sign 1 = .ok (.iload_n 1, 1) := by decide +kernel
theorem dX10_sign_2 : decode cX10_sign 2 = .ok (.invokevirtual 106, 3) := by decide +kernel
theorem dX10_sign_5 : decode cX10_sign 5 = .ok (.ifCond .eq 20, 3) := by decide +kernel
theorem dX10_sign_8 : decode cX10_sign 8 = .ok (.aload_n 0, 1) := by decide +kernel
theorem dX10_sign_9 : decode cX10_sign 9 = .ok (.iload_n 2, 1) := by decide +kernel
theorem dX10_sign_10 : decode cX10_sign 10 = .ok (.invokevirtual 130, 3) := by decide +kernel
theorem dX10_sign_13 : decode cX10_sign 13 = .ok (.ifCond .eq 12, 3) := by decide +kernel
theorem dX10_sign_16 : decode cX10_sign 16 = .ok (.iload_n 3, 1) := by decide +kernel
theorem dX10_sign_17 : decode cX10_sign 17 = .ok (.ifCond .lt 8, 3) := by decide +kernel
theorem dX10_sign_20 : decode cX10_sign 20 = .ok (.iload_n 3, 1) := by decide +kernel
theorem dX10_sign_21 : decode cX10_sign 21 = .ok (.iconst 1, 1) := by decide +kernel
theorem dX10_sign_22 : decode cX10_sign 22 = .ok (.if_icmp .le 5, 3) := by decide +kernel
theorem dX10_sign_25 : decode cX10_sign 25 = .ok (.iconst (-1), 1) := by decide +kernel
theorem dX10_sign_26 : decode cX10_sign 26 = .ok (.ireturn, 1) := by decide +kernel
theorem dX10_sign_27 : decode cX10_sign 27 = .ok (.aload_n 0, 1) := by decide +kernel
theorem dX10_sign_28 : decode cX10_sign 28 = .ok (.getfield 19, 3) := by decide +kernel
theorem dX10_sign_31 : decode cX10_sign 31 = .ok (.iload_n 1, 1) := by decide +kernel
theorem dX10_sign_32 : decode cX10_sign 32 = .ok (.iconst 0, 1) := by decide +kernel
theorem dX10_sign_33 : decode cX10_sign 33 = .ok (.iload_n 2, 1) := by decide +kernel
theorem dX10_sign_34 : decode cX10_sign 34 = .ok (.iload_n 3, 1) := by decide +kernel
theorem dX10_sign_35 : decode cX10_sign 35 = .ok (.invokevirtual 133, 3) := by decide +kernel
theorem dX10_sign_38 : decode cX10_sign 38 = .ok (.invokestatic 137, 3) := by decide +kernel
theorem dX10_sign_41 : decode cX10_sign 41 = .ok (.ireturn, 1) := by decide +kernel
theorem dX10_place_0 : decode cX10_place 0 = .ok (.aload_n 0, 1) := by decide +kernel
theorem dX10_place_1 : decode cX10_place 1 = .ok (.iload_n 1, 1) := by decide +kernel
theorem dX10_place_2 : decode cX10_place 2 = .ok (.invokevirtual 140, 3) := by decide +kernel
theorem dX10_place_5 : decode cX10_place 5 = .ok (.ifCond .eq 18, 3) := by decide +kernel
theorem dX10_place_8 : decode cX10_place 8 = .ok (.aload_n 0, 1) := by decide +kernel
theorem dX10_place_9 : decode cX10_place 9 = .ok (.getfield 29, 3) := by decide +kernel
theorem dX10_place_12 : decode cX10_place 12 = .ok (.getfield 109, 3) := by decide +kernel
theorem dX10_place_15 : decode cX10_place 15 = .ok (.getfield 143, 3) := by decide +kernel
theorem dX10_place_18 : decode cX10_place 18 = .ok (.iload_n 1, 1) := by decide +kernel
theorem dX10_place_19 : decode cX10_place 19 = .ok (.iaload, 1) := by decide +kernel
theorem dX10_place_20 : decode cX10_place 20 = .ok (.goto 4, 3) := by decide +kernel
theorem dX10_place_23 : decode cX10_place 23 = .ok (.iconst (-1), 1) := by decide +kernel
theorem dX10_place_24 : decode cX10_place 24 = .ok (.ireturn, 1) := by decide +kernel
theorem dX10_word_0 : decode cX10_word 0 = .ok (.iload_n 1, 1) := by decide +kernel
theorem dX10_word_1 : decode cX10_word 1 = .ok (.ifCond .lt 24, 3) := by decide +kernel
theorem dX10_word_4 : decode cX10_word 4 = .ok (.iload_n 1, 1) := by decide +kernel
theorem dX10_word_5 : decode cX10_word 5 = .ok (.aload_n 0, 1) := by decide +kernel
theorem dX10_word_6 : decode cX10_word 6 = .ok (.getfield 19, 3) := by decide +kernel
theorem dX10_word_9 : decode cX10_word 9 = .ok (.getfield 145, 3) := by decide +kernel
theorem dX10_word_12 : decode cX10_word 12 = .ok (.if_icmp .ge 13, 3) := by decide +kernel
theorem dX10_word_15 : decode cX10_word 15 = .ok (.iload_n 2, 1) := by decide +kernel
theorem dX10_word_16 : decode cX10_word 16 = .ok (.ifCond .lt 9, 3) := by decide +kernel
theorem dX10_word_19 : decode cX10_word 19 = .ok (.iload_n 2, 1) := by decide +kernel
theorem dX10_word_20 : decode cX10_word 20 = .ok (.bipush 6, 2) := by decide +kernel
theorem dX10_word_22 : decode cX10_word 22 = .ok (.if_icmp .lt 5, 3) := by decide +kernel
theorem dX10_word_25 : decode cX10_word 25 = .ok (.iconst (-1), 1) := by decide +kernel
theorem dX10_word_26 : decode cX10_word 26 = .ok (.ireturn, 1) := by decide +kernel
theorem dX10_word_27 : decode cX10_word 27 = .ok (.iload_n 2, 1) := by decide +kernel
theorem dX10_word_28 : decode cX10_word 28 = .ok (.aload_n 0, 1) := by decide +kernel
theorem dX10_word_29 : decode cX10_word 29 = .ok (.getfield 19, 3) := by decide +kernel
theorem dX10_word_32 : decode cX10_word 32 = .ok (.getfield 148, 3) := by decide +kernel
theorem dX10_word_35 : decode cX10_word 35 = .ok (.iload_n 1, 1) := by decide +kernel
theorem dX10_word_36 : decode cX10_word 36 = .ok (.iaload, 1) := by decide +kernel
theorem dX10_word_37 : decode cX10_word 37 = .ok (.if_icmp .ge 23, 3) := by decide +kernel
theorem dX10_word_40 : decode cX10_word 40 = .ok (.aload_n 0, 1) := by decide +kernel
theorem dX10_word_41 : decode cX10_word 41 = .ok (.getfield 19, 3) := by decide +kernel
theorem dX10_word_44 : decode cX10_word 44 = .ok (.getfield 151, 3) := by decide +kernel
theorem dX10_word_47 : decode cX10_word 47 = .ok (.iload_n 1, 1) := by decide +kernel
theorem dX10_word_48 : decode cX10_word 48 = .ok (.bipush 6, 2) := by decide +kernel
theorem dX10_word_50 : decode cX10_word 50 = .ok (.imul, 1) := by decide +kernel
theorem dX10_word_51 : decode cX10_word 51 = .ok (.iload_n 2, 1) := by decide +kernel
theorem dX10_word_52 : decode cX10_word 52 = .ok (.iadd, 1) := by decide +kernel
theorem dX10_word_53 : decode cX10_word 53 = .ok (.iaload, 1) := by decide +kernel
theorem dX10_word_54 : decode cX10_word 54 = .ok (.invokestatic 137, 3) := by decide +kernel
theorem dX10_word_57 : decode cX10_word 57 = .ok (.goto 5, 3) := by decide +kernel
theorem dX10_word_60 : decode cX10_word 60 = .ok (.bipush (-9), 2) := by decide +kernel
theorem dX10_word_62 : decode cX10_word 62 = .ok (.ireturn, 1) := by decide +kernel
theorem dX10_swaps_0 : decode cX10_swaps 0 = .ok (.aload_n 0, 1) := by decide +kernel
theorem dX10_swaps_1 : decode cX10_swaps 1 = .ok (.iload_n 1, 1) := by decide +kernel
theorem dX10_swaps_2 : decode cX10_swaps 2 = .ok (.invokevirtual 140, 3) := by decide +kernel
theorem dX10_swaps_5 : decode cX10_swaps 5 = .ok (.ifCond .eq 16, 3) := by decide +kernel
theorem dX10_swaps_8 : decode cX10_swaps 8 = .ok (.aload_n 0, 1) := by decide +kernel
theorem dX10_swaps_9 : decode cX10_swaps 9 = .ok (.iload_n 2, 1) := by decide +kernel
theorem dX10_swaps_10 : decode cX10_swaps 10 = .ok (.invokevirtual 140, 3) := by decide +kernel
theorem dX10_swaps_13 : decode cX10_swaps 13 = .ok (.ifCond .eq 8, 3) := by decide +kernel
theorem dX10_swaps_16 : decode cX10_swaps 16 = .ok (.iload_n 1, 1) := by decide +kernel
theorem dX10_swaps_17 : decode cX10_swaps 17 = .ok (.iload_n 2, 1) := by decide +kernel
theorem dX10_swaps_18 : decode cX10_swaps 18 = .ok (.if_icmp .ne 5, 3) := by decide +kernel
theorem dX10_swaps_21 : decode cX10_swaps 21 = .ok (.iconst (-1), 1) := by decide +kernel
theorem dX10_swaps_22 : decode cX10_swaps 22 = .ok (.ireturn, 1) := by decide +kernel
theorem dX10_swaps_23 : decode cX10_swaps 23 = .ok (.aload_n 0, 1) := by decide +kernel
theorem dX10_swaps_24 : decode cX10_swaps 24 = .ok (.getfield 29, 3) := by decide +kernel
theorem dX10_swaps_27 : decode cX10_swaps 27 = .ok (.invokevirtual 154, 3) := by decide +kernel
theorem dX10_swaps_30 : decode cX10_swaps 30 = .ok (.aload_n 0, 1) := by decide +kernel
theorem dX10_swaps_31 : decode cX10_swaps 31 = .ok (.getfield 29, 3) := by decide +kernel
theorem dX10_swaps_34 : decode cX10_swaps 34 = .ok (.getfield 109, 3) := by decide +kernel
theorem dX10_swaps_37 : decode cX10_swaps 37 = .ok (.iload_n 1, 1) := by decide +kernel
theorem dX10_swaps_38 : decode cX10_swaps 38 = .ok (.iload_n 2, 1) := by decide +kernel
theorem dX10_swaps_39 : decode cX10_swaps 39 = .ok (.invokevirtual 157, 3) := by decide +kernel
theorem dX10_swaps_42 : decode cX10_swaps 42 = .ok (.aload_n 0, 1) := by decide +kernel
theorem dX10_swaps_43 : decode cX10_swaps 43 = .ok (.invokevirtual 161, 3) := by decide +kernel
theorem dX10_swaps_46 : decode cX10_swaps 46 = .ok (.invokestatic 164, 3) := by decide +kernel
theorem dX10_swaps_49 : decode cX10_swaps 49 = .ok (.ireturn, 1) := by decide +kernel
theorem dX10_moves_0 : decode cX10_moves 0 = .ok (.aload_n 0, 1) := by decide +kernel
theorem dX10_moves_1 : decode cX10_moves 1 = .ok (.iload_n 1, 1) := by decide +kernel
theorem dX10_moves_2 : decode cX10_moves 2 = .ok (.invokevirtual 140, 3) := by decide +kernel
theorem dX10_moves_5 : decode cX10_moves 5 = .ok (.ifCond .eq 16, 3) := by decide +kernel
theorem dX10_moves_8 : decode cX10_moves 8 = .ok (.aload_n 0, 1) := by decide +kernel
theorem dX10_moves_9 : decode cX10_moves 9 = .ok (.iload_n 2, 1) := by decide +kernel
theorem dX10_moves_10 : decode cX10_moves 10 = .ok (.invokevirtual 140, 3) := by decide +kernel
theorem dX10_moves_13 : decode cX10_moves 13 = .ok (.ifCond .eq 8, 3) := by decide +kernel
theorem dX10_moves_16 : decode cX10_moves 16 = .ok (.iload_n 1, 1) := by decide +kernel
theorem dX10_moves_17 : decode cX10_moves 17 = .ok (.iload_n 2, 1) := by decide +kernel
theorem dX10_moves_18 : decode cX10_moves 18 = .ok (.if_icmp .ne 5, 3) := by decide +kernel
theorem dX10_moves_21 : decode cX10_moves 21 = .ok (.iconst (-1), 1) := by decide +kernel
theorem dX10_moves_22 : decode cX10_moves 22 = .ok (.ireturn, 1) := by decide +kernel
theorem dX10_moves_23 : decode cX10_moves 23 = .ok (.aload_n 0, 1) := by decide +kernel
theorem dX10_moves_24 : decode cX10_moves 24 = .ok (.getfield 29, 3) := by decide +kernel
theorem dX10_moves_27 : decode cX10_moves 27 = .ok (.invokevirtual 154, 3) := by decide +kernel
theorem dX10_moves_30 : decode cX10_moves 30 = .ok (.aload_n 0, 1) := by decide +kernel
theorem dX10_moves_31 : decode cX10_moves 31 = .ok (.getfield 29, 3) := by decide +kernel
theorem dX10_moves_34 : decode cX10_moves 34 = .ok (.getfield 109, 3) := by decide +kernel
theorem dX10_moves_37 : decode cX10_moves 37 = .ok (.iload_n 1, 1) := by decide +kernel
theorem dX10_moves_38 : decode cX10_moves 38 = .ok (.iload_n 2, 1) := by decide +kernel
theorem dX10_moves_39 : decode cX10_moves 39 = .ok (.invokevirtual 169, 3) := by decide +kernel
theorem dX10_moves_42 : decode cX10_moves 42 = .ok (.aload_n 0, 1) := by decide +kernel
theorem dX10_moves_43 : decode cX10_moves 43 = .ok (.invokevirtual 161, 3) := by decide +kernel
theorem dX10_moves_46 : decode cX10_moves 46 = .ok (.invokestatic 164, 3) := by decide +kernel
theorem dX10_moves_49 : decode cX10_moves 49 = .ok (.ireturn, 1) := by decide +kernel
theorem dX10_turn_0 : decode cX10_turn 0 = .ok (.aload_n 0, 1) := by decide +kernel
theorem dX10_turn_1 : decode cX10_turn 1 = .ok (.iload_n 1, 1) := by decide +kernel
theorem dX10_turn_2 : decode cX10_turn 2 = .ok (.iconst 1, 1) := by decide +kernel
theorem dX10_turn_3 : decode cX10_turn 3 = .ok (.invokevirtual 172, 3) := by decide +kernel
theorem dX10_turn_6 : decode cX10_turn 6 = .ok (.istore_n 2, 1) := by decide +kernel
theorem dX10_turn_7 : decode cX10_turn 7 = .ok (.iload_n 2, 1) := by decide +kernel
theorem dX10_turn_8 : decode cX10_turn 8 = .ok (.ifCond .eq 5, 3) := by decide +kernel
theorem dX10_turn_11 : decode cX10_turn 11 = .ok (.iload_n 2, 1) := by decide +kernel
theorem dX10_turn_12 : decode cX10_turn 12 = .ok (.ireturn, 1) := by decide +kernel
theorem dX10_turn_13 : decode cX10_turn 13 = .ok (.aload_n 0, 1) := by decide +kernel
theorem dX10_turn_14 : decode cX10_turn 14 = .ok (.getfield 29, 3) := by decide +kernel
theorem dX10_turn_17 : decode cX10_turn 17 = .ok (.invokevirtual 154, 3) := by decide +kernel
theorem dX10_turn_20 : decode cX10_turn 20 = .ok (.aload_n 0, 1) := by decide +kernel
theorem dX10_turn_21 : decode cX10_turn 21 = .ok (.getfield 29, 3) := by decide +kernel
theorem dX10_turn_24 : decode cX10_turn 24 = .ok (.getfield 109, 3) := by decide +kernel
theorem dX10_turn_27 : decode cX10_turn 27 = .ok (.dup, 1) := by decide +kernel
theorem dX10_turn_28 : decode cX10_turn 28 = .ok (.getfield 176, 3) := by decide +kernel
theorem dX10_turn_31 : decode cX10_turn 31 = .ok (.iconst 1, 1) := by decide +kernel
theorem dX10_turn_32 : decode cX10_turn 32 = .ok (.iload_n 1, 1) := by decide +kernel
theorem dX10_turn_33 : decode cX10_turn 33 = .ok (.ishl, 1) := by decide +kernel
theorem dX10_turn_34 : decode cX10_turn 34 = .ok (.ixor, 1) := by decide +kernel
theorem dX10_turn_35 : decode cX10_turn 35 = .ok (.putfield 176, 3) := by decide +kernel
theorem dX10_turn_38 : decode cX10_turn 38 = .ok (.aload_n 0, 1) := by decide +kernel
theorem dX10_turn_39 : decode cX10_turn 39 = .ok (.getfield 29, 3) := by decide +kernel
theorem dX10_turn_42 : decode cX10_turn 42 = .ok (.getfield 109, 3) := by decide +kernel
theorem dX10_turn_45 : decode cX10_turn 45 = .ok (.iload_n 1, 1) := by decide +kernel
theorem dX10_turn_46 : decode cX10_turn 46 = .ok (.invokevirtual 116, 3) := by decide +kernel
theorem dX10_turn_49 : decode cX10_turn 49 = .ok (.ireturn, 1) := by decide +kernel
theorem dX10_takes_0 : decode cX10_takes 0 = .ok (.aload_n 0, 1) := by decide +kernel
theorem dX10_takes_1 : decode cX10_takes 1 = .ok (.iload_n 1, 1) := by decide +kernel
theorem dX10_takes_2 : decode cX10_takes 2 = .ok (.iconst 1, 1) := by decide +kernel
theorem dX10_takes_3 : decode cX10_takes 3 = .ok (.invokevirtual 172, 3) := by decide +kernel
theorem dX10_takes_6 : decode cX10_takes 6 = .ok (.istore_n 2, 1) := by decide +kernel
theorem dX10_takes_7 : decode cX10_takes 7 = .ok (.iload_n 2, 1) := by decide +kernel
theorem dX10_takes_8 : decode cX10_takes 8 = .ok (.ifCond .eq 5, 3) := by decide +kernel
theorem dX10_takes_11 : decode cX10_takes 11 = .ok (.iload_n 2, 1) := by decide +kernel
theorem dX10_takes_12 : decode cX10_takes 12 = .ok (.ireturn, 1) := by decide +kernel
theorem dX10_takes_13 : decode cX10_takes 13 = .ok (.aload_n 0, 1) := by decide +kernel
theorem dX10_takes_14 : decode cX10_takes 14 = .ok (.getfield 29, 3) := by decide +kernel
theorem dX10_takes_17 : decode cX10_takes 17 = .ok (.invokevirtual 154, 3) := by decide +kernel
theorem dX10_takes_20 : decode cX10_takes 20 = .ok (.aload_n 0, 1) := by decide +kernel
theorem dX10_takes_21 : decode cX10_takes 21 = .ok (.getfield 29, 3) := by decide +kernel
theorem dX10_takes_24 : decode cX10_takes 24 = .ok (.getfield 109, 3) := by decide +kernel
theorem dX10_takes_27 : decode cX10_takes 27 = .ok (.iload_n 1, 1) := by decide +kernel
theorem dX10_takes_28 : decode cX10_takes 28 = .ok (.invokevirtual 179, 3) := by decide +kernel
theorem dX10_takes_31 : decode cX10_takes 31 = .ok (.aload_n 0, 1) := by decide +kernel
theorem dX10_takes_32 : decode cX10_takes 32 = .ok (.getfield 29, 3) := by decide +kernel
theorem dX10_takes_35 : decode cX10_takes 35 = .ok (.getfield 109, 3) := by decide +kernel
theorem dX10_takes_38 : decode cX10_takes 38 = .ok (.getfield 182, 3) := by decide +kernel
theorem dX10_takes_41 : decode cX10_takes 41 = .ok (.ireturn, 1) := by decide +kernel
theorem dX10_lays_0 : decode cX10_lays 0 = .ok (.aload_n 0, 1) := by decide +kernel
theorem dX10_lays_1 : decode cX10_lays 1 = .ok (.iload_n 1, 1) := by decide +kernel
theorem dX10_lays_2 : decode cX10_lays 2 = .ok (.iconst 0, 1) := by decide +kernel
theorem dX10_lays_3 : decode cX10_lays 3 = .ok (.invokevirtual 172, 3) := by decide +kernel
theorem dX10_lays_6 : decode cX10_lays 6 = .ok (.istore_n 2, 1) := by decide +kernel
theorem dX10_lays_7 : decode cX10_lays 7 = .ok (.iload_n 2, 1) := by decide +kernel
theorem dX10_lays_8 : decode cX10_lays 8 = .ok (.ifCond .eq 5, 3) := by decide +kernel
theorem dX10_lays_11 : decode cX10_lays 11 = .ok (.iload_n 2, 1) := by decide +kernel
theorem dX10_lays_12 : decode cX10_lays 12 = .ok (.ireturn, 1) := by decide +kernel
theorem dX10_lays_13 : decode cX10_lays 13 = .ok (.aload_n 0, 1) := by decide +kernel
theorem dX10_lays_14 : decode cX10_lays 14 = .ok (.getfield 29, 3) := by decide +kernel
theorem dX10_lays_17 : decode cX10_lays 17 = .ok (.invokevirtual 154, 3) := by decide +kernel
theorem dX10_lays_20 : decode cX10_lays 20 = .ok (.aload_n 0, 1) := by decide +kernel
theorem dX10_lays_21 : decode cX10_lays 21 = .ok (.getfield 29, 3) := by decide +kernel
theorem dX10_lays_24 : decode cX10_lays 24 = .ok (.getfield 109, 3) := by decide +kernel
theorem dX10_lays_27 : decode cX10_lays 27 = .ok (.iload_n 1, 1) := by decide +kernel
theorem dX10_lays_28 : decode cX10_lays 28 = .ok (.invokevirtual 185, 3) := by decide +kernel
theorem dX10_lays_31 : decode cX10_lays 31 = .ok (.aload_n 0, 1) := by decide +kernel
theorem dX10_lays_32 : decode cX10_lays 32 = .ok (.getfield 29, 3) := by decide +kernel
theorem dX10_lays_35 : decode cX10_lays 35 = .ok (.getfield 109, 3) := by decide +kernel
theorem dX10_lays_38 : decode cX10_lays 38 = .ok (.getfield 182, 3) := by decide +kernel
theorem dX10_lays_41 : decode cX10_lays 41 = .ok (.ireturn, 1) := by decide +kernel
theorem dX10_undo_0 : decode cX10_undo 0 = .ok (.aload_n 0, 1) := by decide +kernel
theorem dX10_undo_1 : decode cX10_undo 1 = .ok (.getfield 29, 3) := by decide +kernel
theorem dX10_undo_4 : decode cX10_undo 4 = .ok (.invokevirtual 187, 3) := by decide +kernel
theorem dX10_undo_7 : decode cX10_undo 7 = .ok (.ifCond .eq 13, 3) := by decide +kernel
theorem dX10_undo_10 : decode cX10_undo 10 = .ok (.aload_n 0, 1) := by decide +kernel
theorem dX10_undo_11 : decode cX10_undo 11 = .ok (.getfield 29, 3) := by decide +kernel
theorem dX10_undo_14 : decode cX10_undo 14 = .ok (.getfield 191, 3) := by decide +kernel
theorem dX10_undo_17 : decode cX10_undo 17 = .ok (.goto 5, 3) := by decide +kernel
theorem dX10_undo_20 : decode cX10_undo 20 = .ok (.bipush (-2), 2) := by decide +kernel
theorem dX10_undo_22 : decode cX10_undo 22 = .ok (.ireturn, 1) := by decide +kernel
theorem dX10_now_0 : decode cX10_now 0 = .ok (.iload_n 1, 1) := by decide +kernel
theorem dX10_now_1 : decode cX10_now 1 = .ok (.tableswitch 102 0 5 #[39, 50, 55, 60, 71, 76], 39) := by decide +kernel
theorem dX10_now_40 : decode cX10_now 40 = .ok (.aload_n 0, 1) := by decide +kernel
theorem dX10_now_41 : decode cX10_now 41 = .ok (.getfield 29, 3) := by decide +kernel
theorem dX10_now_44 : decode cX10_now 44 = .ok (.getfield 109, 3) := by decide +kernel
theorem dX10_now_47 : decode cX10_now 47 = .ok (.getfield 182, 3) := by decide +kernel
theorem dX10_now_50 : decode cX10_now 50 = .ok (.ireturn, 1) := by decide +kernel
theorem dX10_now_51 : decode cX10_now 51 = .ok (.aload_n 0, 1) := by decide +kernel
theorem dX10_now_52 : decode cX10_now 52 = .ok (.invokevirtual 161, 3) := by decide +kernel
theorem dX10_now_55 : decode cX10_now 55 = .ok (.ireturn, 1) := by decide +kernel
theorem dX10_now_56 : decode cX10_now 56 = .ok (.aload_n 0, 1) := by decide +kernel
theorem dX10_now_57 : decode cX10_now 57 = .ok (.invokevirtual 194, 3) := by decide +kernel
theorem dX10_now_60 : decode cX10_now 60 = .ok (.ireturn, 1) := by decide +kernel
theorem dX10_now_61 : decode cX10_now 61 = .ok (.aload_n 0, 1) := by decide +kernel
theorem dX10_now_62 : decode cX10_now 62 = .ok (.getfield 29, 3) := by decide +kernel
theorem dX10_now_65 : decode cX10_now 65 = .ok (.getfield 109, 3) := by decide +kernel
theorem dX10_now_68 : decode cX10_now 68 = .ok (.invokevirtual 197, 3) := by decide +kernel
theorem dX10_now_71 : decode cX10_now 71 = .ok (.ireturn, 1) := by decide +kernel
theorem dX10_now_72 : decode cX10_now 72 = .ok (.aload_n 0, 1) := by decide +kernel
theorem dX10_now_73 : decode cX10_now 73 = .ok (.invokevirtual 200, 3) := by decide +kernel
theorem dX10_now_76 : decode cX10_now 76 = .ok (.ireturn, 1) := by decide +kernel
theorem dX10_now_77 : decode cX10_now 77 = .ok (.aload_n 0, 1) := by decide +kernel
theorem dX10_now_78 : decode cX10_now 78 = .ok (.getfield 49, 3) := by decide +kernel
theorem dX10_now_81 : decode cX10_now 81 = .ok (.aload_n 0, 1) := by decide +kernel
theorem dX10_now_82 : decode cX10_now 82 = .ok (.getfield 19, 3) := by decide +kernel
theorem dX10_now_85 : decode cX10_now 85 = .ok (.aload_n 0, 1) := by decide +kernel
theorem dX10_now_86 : decode cX10_now 86 = .ok (.getfield 29, 3) := by decide +kernel
theorem dX10_now_89 : decode cX10_now 89 = .ok (.getfield 109, 3) := by decide +kernel
theorem dX10_now_92 : decode cX10_now 92 = .ok (.invokevirtual 122, 3) := by decide +kernel
theorem dX10_now_95 : decode cX10_now 95 = .ok (.aload_n 0, 1) := by decide +kernel
theorem dX10_now_96 : decode cX10_now 96 = .ok (.getfield 49, 3) := by decide +kernel
theorem dX10_now_99 : decode cX10_now 99 = .ok (.getfield 203, 3) := by decide +kernel
theorem dX10_now_102 : decode cX10_now 102 = .ok (.ireturn, 1) := by decide +kernel
theorem dX10_now_103 : decode cX10_now 103 = .ok (.iconst (-1), 1) := by decide +kernel
theorem dX10_now_104 : decode cX10_now 104 = .ok (.ireturn, 1) := by decide +kernel
theorem dX10_line_0 : decode cX10_line 0 = .ok (.aload_n 0, 1) := by decide +kernel
theorem dX10_line_1 : decode cX10_line 1 = .ok (.iload_n 1, 1) := by decide +kernel
theorem dX10_line_2 : decode cX10_line 2 = .ok (.invokevirtual 130, 3) := by decide +kernel
theorem dX10_line_5 : decode cX10_line 5 = .ok (.ifCond .ne 5, 3) := by decide +kernel
theorem dX10_line_8 : decode cX10_line 8 = .ok (.iconst (-1), 1) := by decide +kernel
theorem dX10_line_9 : decode cX10_line 9 = .ok (.ireturn, 1) := by decide +kernel
theorem dX10_line_10 : decode cX10_line 10 = .ok (.aload_n 0, 1) := by decide +kernel
theorem dX10_line_11 : decode cX10_line 11 = .ok (.getfield 42, 3) := by decide +kernel
theorem dX10_line_14 : decode cX10_line 14 = .ok (.aload_n 0, 1) := by decide +kernel
theorem dX10_line_15 : decode cX10_line 15 = .ok (.getfield 19, 3) := by decide +kernel
theorem dX10_line_18 : decode cX10_line 18 = .ok (.aload_n 0, 1) := by decide +kernel
theorem dX10_line_19 : decode cX10_line 19 = .ok (.getfield 29, 3) := by decide +kernel
theorem dX10_line_22 : decode cX10_line 22 = .ok (.getfield 109, 3) := by decide +kernel
theorem dX10_line_25 : decode cX10_line 25 = .ok (.iload_n 1, 1) := by decide +kernel
theorem dX10_line_26 : decode cX10_line 26 = .ok (.invokevirtual 206, 3) := by decide +kernel
theorem dX10_line_29 : decode cX10_line 29 = .ok (.iload_n 2, 1) := by decide +kernel
theorem dX10_line_30 : decode cX10_line 30 = .ok (.tableswitch 50 0 2 #[26, 34, 42], 26) := by decide +kernel
theorem dX10_line_56 : decode cX10_line 56 = .ok (.aload_n 0, 1) := by decide +kernel
theorem dX10_line_57 : decode cX10_line 57 = .ok (.getfield 42, 3) := by decide +kernel
theorem dX10_line_60 : decode cX10_line 60 = .ok (.getfield 210, 3) := by decide +kernel
theorem dX10_line_63 : decode cX10_line 63 = .ok (.ireturn, 1) := by decide +kernel
theorem dX10_line_64 : decode cX10_line 64 = .ok (.aload_n 0, 1) := by decide +kernel
theorem dX10_line_65 : decode cX10_line 65 = .ok (.getfield 42, 3) := by decide +kernel
theorem dX10_line_68 : decode cX10_line 68 = .ok (.getfield 213, 3) := by decide +kernel
theorem dX10_line_71 : decode cX10_line 71 = .ok (.ireturn, 1) := by decide +kernel
theorem dX10_line_72 : decode cX10_line 72 = .ok (.aload_n 0, 1) := by decide +kernel
theorem dX10_line_73 : decode cX10_line 73 = .ok (.getfield 42, 3) := by decide +kernel
theorem dX10_line_76 : decode cX10_line 76 = .ok (.getfield 215, 3) := by decide +kernel
theorem dX10_line_79 : decode cX10_line 79 = .ok (.ireturn, 1) := by decide +kernel
theorem dX10_line_80 : decode cX10_line 80 = .ok (.iconst (-1), 1) := by decide +kernel
theorem dX10_line_81 : decode cX10_line 81 = .ok (.ireturn, 1) := by decide +kernel
theorem dX10_reads_0 : decode cX10_reads 0 = .ok (.aload_n 0, 1) := by decide +kernel
theorem dX10_reads_1 : decode cX10_reads 1 = .ok (.iload_n 1, 1) := by decide +kernel
theorem dX10_reads_2 : decode cX10_reads 2 = .ok (.invokevirtual 130, 3) := by decide +kernel
theorem dX10_reads_5 : decode cX10_reads 5 = .ok (.ifCond .eq 23, 3) := by decide +kernel
theorem dX10_reads_8 : decode cX10_reads 8 = .ok (.iload_n 2, 1) := by decide +kernel
theorem dX10_reads_9 : decode cX10_reads 9 = .ok (.ifCond .lt 19, 3) := by decide +kernel
theorem dX10_reads_12 : decode cX10_reads 12 = .ok (.iload_n 2, 1) := by decide +kernel
theorem dX10_reads_13 : decode cX10_reads 13 = .ok (.iconst 2, 1) := by decide +kernel
theorem dX10_reads_14 : decode cX10_reads 14 = .ok (.aload_n 0, 1) := by decide +kernel
theorem dX10_reads_15 : decode cX10_reads 15 = .ok (.getfield 29, 3) := by decide +kernel
theorem dX10_reads_18 : decode cX10_reads 18 = .ok (.getfield 109, 3) := by decide +kernel
theorem dX10_reads_21 : decode cX10_reads 21 = .ok (.getfield 182, 3) := by decide +kernel
theorem dX10_reads_24 : decode cX10_reads 24 = .ok (.imul, 1) := by decide +kernel
theorem dX10_reads_25 : decode cX10_reads 25 = .ok (.if_icmp .lt 5, 3) := by decide +kernel
theorem dX10_reads_28 : decode cX10_reads 28 = .ok (.iconst (-1), 1) := by decide +kernel
theorem dX10_reads_29 : decode cX10_reads 29 = .ok (.ireturn, 1) := by decide +kernel
theorem dX10_reads_30 : decode cX10_reads 30 = .ok (.aload_n 0, 1) := by decide +kernel
theorem dX10_reads_31 : decode cX10_reads 31 = .ok (.getfield 29, 3) := by decide +kernel
theorem dX10_reads_34 : decode cX10_reads 34 = .ok (.getfield 109, 3) := by decide +kernel
theorem dX10_reads_37 : decode cX10_reads 37 = .ok (.getfield 143, 3) := by decide +kernel
theorem dX10_reads_40 : decode cX10_reads 40 = .ok (.iload_n 2, 1) := by decide +kernel
theorem dX10_reads_41 : decode cX10_reads 41 = .ok (.iconst 2, 1) := by decide +kernel
theorem dX10_reads_42 : decode cX10_reads 42 = .ok (.idiv, 1) := by decide +kernel
theorem dX10_reads_43 : decode cX10_reads 43 = .ok (.iaload, 1) := by decide +kernel
theorem dX10_reads_44 : decode cX10_reads 44 = .ok (.istore_n 3, 1) := by decide +kernel
theorem dX10_reads_45 : decode cX10_reads 45 = .ok (.aload_n 0, 1) := by decide +kernel
theorem dX10_reads_46 : decode cX10_reads 46 = .ok (.getfield 19, 3) := by decide +kernel
theorem dX10_reads_49 : decode cX10_reads 49 = .ok (.iload_n 3, 1) := by decide +kernel
theorem dX10_reads_50 : decode cX10_reads 50 = .ok (.aload_n 0, 1) := by decide +kernel
theorem dX10_reads_51 : decode cX10_reads 51 = .ok (.getfield 29, 3) := by decide +kernel
theorem dX10_reads_54 : decode cX10_reads 54 = .ok (.getfield 109, 3) := by decide +kernel
theorem dX10_reads_57 : decode cX10_reads 57 = .ok (.iload_n 3, 1) := by decide +kernel
theorem dX10_reads_58 : decode cX10_reads 58 = .ok (.invokevirtual 116, 3) := by decide +kernel
theorem dX10_reads_61 : decode cX10_reads 61 = .ok (.iload_n 1, 1) := by decide +kernel
theorem dX10_reads_62 : decode cX10_reads 62 = .ok (.iload_n 2, 1) := by decide +kernel
theorem dX10_reads_63 : decode cX10_reads 63 = .ok (.iconst 2, 1) := by decide +kernel
theorem dX10_reads_64 : decode cX10_reads 64 = .ok (.irem, 1) := by decide +kernel
theorem dX10_reads_65 : decode cX10_reads 65 = .ok (.invokevirtual 133, 3) := by decide +kernel
theorem dX10_reads_68 : decode cX10_reads 68 = .ok (.invokestatic 137, 3) := by decide +kernel
theorem dX10_reads_71 : decode cX10_reads 71 = .ok (.ireturn, 1) := by decide +kernel
theorem dX10_orders_0 : decode cX10_orders 0 = .ok (.iload_n 1, 1) := by decide +kernel
theorem dX10_orders_1 : decode cX10_orders 1 = .ok (.ifCond .lt 8, 3) := by decide +kernel
theorem dX10_orders_4 : decode cX10_orders 4 = .ok (.iload_n 1, 1) := by decide +kernel
theorem dX10_orders_5 : decode cX10_orders 5 = .ok (.iconst 1, 1) := by decide +kernel
theorem dX10_orders_6 : decode cX10_orders 6 = .ok (.if_icmp .le 5, 3) := by decide +kernel
theorem dX10_orders_9 : decode cX10_orders 9 = .ok (.iconst (-1), 1) := by decide +kernel
theorem dX10_orders_10 : decode cX10_orders 10 = .ok (.ireturn, 1) := by decide +kernel
theorem dX10_orders_11 : decode cX10_orders 11 = .ok (.aload_n 0, 1) := by decide +kernel
theorem dX10_orders_12 : decode cX10_orders 12 = .ok (.getfield 49, 3) := by decide +kernel
theorem dX10_orders_15 : decode cX10_orders 15 = .ok (.aload_n 0, 1) := by decide +kernel
theorem dX10_orders_16 : decode cX10_orders 16 = .ok (.getfield 19, 3) := by decide +kernel
theorem dX10_orders_19 : decode cX10_orders 19 = .ok (.aload_n 0, 1) := by decide +kernel
theorem dX10_orders_20 : decode cX10_orders 20 = .ok (.getfield 29, 3) := by decide +kernel
theorem dX10_orders_23 : decode cX10_orders 23 = .ok (.getfield 109, 3) := by decide +kernel
theorem dX10_orders_26 : decode cX10_orders 26 = .ok (.invokevirtual 122, 3) := by decide +kernel
theorem dX10_orders_29 : decode cX10_orders 29 = .ok (.iload_n 1, 1) := by decide +kernel
theorem dX10_orders_30 : decode cX10_orders 30 = .ok (.ifCond .ne 13, 3) := by decide +kernel
theorem dX10_orders_33 : decode cX10_orders 33 = .ok (.aload_n 0, 1) := by decide +kernel
theorem dX10_orders_34 : decode cX10_orders 34 = .ok (.getfield 49, 3) := by decide +kernel
theorem dX10_orders_37 : decode cX10_orders 37 = .ok (.getfield 217, 3) := by decide +kernel
theorem dX10_orders_40 : decode cX10_orders 40 = .ok (.goto 10, 3) := by decide +kernel
theorem dX10_orders_43 : decode cX10_orders 43 = .ok (.aload_n 0, 1) := by decide +kernel
theorem dX10_orders_44 : decode cX10_orders 44 = .ok (.getfield 49, 3) := by decide +kernel
theorem dX10_orders_47 : decode cX10_orders 47 = .ok (.getfield 220, 3) := by decide +kernel
theorem dX10_orders_50 : decode cX10_orders 50 = .ok (.ireturn, 1) := by decide +kernel
theorem dX10_either_0 : decode cX10_either 0 = .ok (.iload_n 1, 1) := by decide +kernel
theorem dX10_either_1 : decode cX10_either 1 = .ok (.ifCond .lt 8, 3) := by decide +kernel
theorem dX10_either_4 : decode cX10_either 4 = .ok (.iload_n 1, 1) := by decide +kernel
theorem dX10_either_5 : decode cX10_either 5 = .ok (.iconst 2, 1) := by decide +kernel
theorem dX10_either_6 : decode cX10_either 6 = .ok (.if_icmp .le 5, 3) := by decide +kernel
theorem dX10_either_9 : decode cX10_either 9 = .ok (.iconst (-1), 1) := by decide +kernel
theorem dX10_either_10 : decode cX10_either 10 = .ok (.ireturn, 1) := by decide +kernel
theorem dX10_either_11 : decode cX10_either 11 = .ok (.aload_n 0, 1) := by decide +kernel
theorem dX10_either_12 : decode cX10_either 12 = .ok (.getfield 56, 3) := by decide +kernel
theorem dX10_either_15 : decode cX10_either 15 = .ok (.aload_n 0, 1) := by decide +kernel
theorem dX10_either_16 : decode cX10_either 16 = .ok (.getfield 29, 3) := by decide +kernel
theorem dX10_either_19 : decode cX10_either 19 = .ok (.getfield 109, 3) := by decide +kernel
theorem dX10_either_22 : decode cX10_either 22 = .ok (.invokevirtual 223, 3) := by decide +kernel
theorem dX10_either_25 : decode cX10_either 25 = .ok (.ifCond .ne 21, 3) := by decide +kernel
theorem dX10_either_28 : decode cX10_either 28 = .ok (.aload_n 0, 1) := by decide +kernel
theorem dX10_either_29 : decode cX10_either 29 = .ok (.getfield 56, 3) := by decide +kernel
theorem dX10_either_32 : decode cX10_either 32 = .ok (.aload_n 0, 1) := by decide +kernel
theorem dX10_either_33 : decode cX10_either 33 = .ok (.getfield 19, 3) := by decide +kernel
theorem dX10_either_36 : decode cX10_either 36 = .ok (.aload_n 0, 1) := by decide +kernel
theorem dX10_either_37 : decode cX10_either 37 = .ok (.getfield 29, 3) := by decide +kernel
theorem dX10_either_40 : decode cX10_either 40 = .ok (.getfield 109, 3) := by decide +kernel
theorem dX10_either_43 : decode cX10_either 43 = .ok (.invokevirtual 227, 3) := by decide +kernel
theorem dX10_either_46 : decode cX10_either 46 = .ok (.iload_n 1, 1) := by decide +kernel
theorem dX10_either_47 : decode cX10_either 47 = .ok (.ifCond .ne 11, 3) := by decide +kernel
theorem dX10_either_50 : decode cX10_either 50 = .ok (.aload_n 0, 1) := by decide +kernel
theorem dX10_either_51 : decode cX10_either 51 = .ok (.getfield 56, 3) := by decide +kernel
theorem dX10_either_54 : decode cX10_either 54 = .ok (.getfield 228, 3) := by decide +kernel
theorem dX10_either_57 : decode cX10_either 57 = .ok (.ireturn, 1) := by decide +kernel
theorem dX10_either_58 : decode cX10_either 58 = .ok (.iload_n 1, 1) := by decide +kernel
theorem dX10_either_59 : decode cX10_either 59 = .ok (.iconst 1, 1) := by decide +kernel
theorem dX10_either_60 : decode cX10_either 60 = .ok (.if_icmp .ne 13, 3) := by decide +kernel
theorem dX10_either_63 : decode cX10_either 63 = .ok (.aload_n 0, 1) := by decide +kernel
theorem dX10_either_64 : decode cX10_either 64 = .ok (.getfield 56, 3) := by decide +kernel
theorem dX10_either_67 : decode cX10_either 67 = .ok (.getfield 229, 3) := by decide +kernel
theorem dX10_either_70 : decode cX10_either 70 = .ok (.goto 10, 3) := by decide +kernel
theorem dX10_either_73 : decode cX10_either 73 = .ok (.aload_n 0, 1) := by decide +kernel
theorem dX10_either_74 : decode cX10_either 74 = .ok (.getfield 56, 3) := by decide +kernel
theorem dX10_either_77 : decode cX10_either 77 = .ok (.getfield 230, 3) := by decide +kernel
theorem dX10_either_80 : decode cX10_either 80 = .ok (.ireturn, 1) := by decide +kernel
theorem dX10_best_0 : decode cX10_best 0 = .ok (.iload_n 1, 1) := by decide +kernel
theorem dX10_best_1 : decode cX10_best 1 = .ok (.ifCond .lt 8, 3) := by decide +kernel
theorem dX10_best_4 : decode cX10_best 4 = .ok (.iload_n 1, 1) := by decide +kernel
theorem dX10_best_5 : decode cX10_best 5 = .ok (.iconst 1, 1) := by decide +kernel
theorem dX10_best_6 : decode cX10_best 6 = .ok (.if_icmp .le 5, 3) := by decide +kernel
theorem dX10_best_9 : decode cX10_best 9 = .ok (.iconst (-1), 1) := by decide +kernel
theorem dX10_best_10 : decode cX10_best 10 = .ok (.ireturn, 1) := by decide +kernel
theorem dX10_best_11 : decode cX10_best 11 = .ok (.aload_n 0, 1) := by decide +kernel
theorem dX10_best_12 : decode cX10_best 12 = .ok (.getfield 63, 3) := by decide +kernel
theorem dX10_best_15 : decode cX10_best 15 = .ok (.aload_n 0, 1) := by decide +kernel
theorem dX10_best_16 : decode cX10_best 16 = .ok (.getfield 19, 3) := by decide +kernel
theorem dX10_best_19 : decode cX10_best 19 = .ok (.aload_n 0, 1) := by decide +kernel
theorem dX10_best_20 : decode cX10_best 20 = .ok (.getfield 29, 3) := by decide +kernel
theorem dX10_best_23 : decode cX10_best 23 = .ok (.getfield 109, 3) := by decide +kernel
theorem dX10_best_26 : decode cX10_best 26 = .ok (.invokevirtual 233, 3) := by decide +kernel
theorem dX10_best_29 : decode cX10_best 29 = .ok (.iload_n 1, 1) := by decide +kernel
theorem dX10_best_30 : decode cX10_best 30 = .ok (.ifCond .ne 13, 3) := by decide +kernel
theorem dX10_best_33 : decode cX10_best 33 = .ok (.aload_n 0, 1) := by decide +kernel
theorem dX10_best_34 : decode cX10_best 34 = .ok (.getfield 63, 3) := by decide +kernel
theorem dX10_best_37 : decode cX10_best 37 = .ok (.getfield 234, 3) := by decide +kernel
theorem dX10_best_40 : decode cX10_best 40 = .ok (.goto 10, 3) := by decide +kernel
theorem dX10_best_43 : decode cX10_best 43 = .ok (.aload_n 0, 1) := by decide +kernel
theorem dX10_best_44 : decode cX10_best 44 = .ok (.getfield 63, 3) := by decide +kernel
theorem dX10_best_47 : decode cX10_best 47 = .ok (.getfield 237, 3) := by decide +kernel
theorem dX10_best_50 : decode cX10_best 50 = .ok (.ireturn, 1) := by decide +kernel
theorem dX10_odds_0 : decode cX10_odds 0 = .ok (.iload_n 1, 1) := by decide +kernel
theorem dX10_odds_1 : decode cX10_odds 1 = .ok (.ifCond .lt 8, 3) := by decide +kernel
theorem dX10_odds_4 : decode cX10_odds 4 = .ok (.iload_n 1, 1) := by decide +kernel
theorem dX10_odds_5 : decode cX10_odds 5 = .ok (.iconst 1, 1) := by decide +kernel
theorem dX10_odds_6 : decode cX10_odds 6 = .ok (.if_icmp .le 5, 3) := by decide +kernel
theorem dX10_odds_9 : decode cX10_odds 9 = .ok (.iconst (-1), 1) := by decide +kernel
theorem dX10_odds_10 : decode cX10_odds 10 = .ok (.ireturn, 1) := by decide +kernel
theorem dX10_odds_11 : decode cX10_odds 11 = .ok (.aload_n 0, 1) := by decide +kernel
theorem dX10_odds_12 : decode cX10_odds 12 = .ok (.getfield 49, 3) := by decide +kernel
theorem dX10_odds_15 : decode cX10_odds 15 = .ok (.aload_n 0, 1) := by decide +kernel
theorem dX10_odds_16 : decode cX10_odds 16 = .ok (.getfield 19, 3) := by decide +kernel
theorem dX10_odds_19 : decode cX10_odds 19 = .ok (.aload_n 0, 1) := by decide +kernel
theorem dX10_odds_20 : decode cX10_odds 20 = .ok (.getfield 29, 3) := by decide +kernel
theorem dX10_odds_23 : decode cX10_odds 23 = .ok (.getfield 109, 3) := by decide +kernel
theorem dX10_odds_26 : decode cX10_odds 26 = .ok (.invokevirtual 122, 3) := by decide +kernel
theorem dX10_odds_29 : decode cX10_odds 29 = .ok (.aload_n 0, 1) := by decide +kernel
theorem dX10_odds_30 : decode cX10_odds 30 = .ok (.getfield 49, 3) := by decide +kernel
theorem dX10_odds_33 : decode cX10_odds 33 = .ok (.getfield 217, 3) := by decide +kernel
theorem dX10_odds_36 : decode cX10_odds 36 = .ok (.istore_n 2, 1) := by decide +kernel
theorem dX10_odds_37 : decode cX10_odds 37 = .ok (.aload_n 0, 1) := by decide +kernel
theorem dX10_odds_38 : decode cX10_odds 38 = .ok (.getfield 29, 3) := by decide +kernel
theorem dX10_odds_41 : decode cX10_odds 41 = .ok (.getfield 109, 3) := by decide +kernel
theorem dX10_odds_44 : decode cX10_odds 44 = .ok (.getfield 182, 3) := by decide +kernel
theorem dX10_odds_47 : decode cX10_odds 47 = .ok (.invokestatic 238, 3) := by decide +kernel
theorem dX10_odds_50 : decode cX10_odds 50 = .ok (.istore_n 3, 1) := by decide +kernel
theorem dX10_odds_51 : decode cX10_odds 51 = .ok (.iload_n 1, 1) := by decide +kernel
theorem dX10_odds_52 : decode cX10_odds 52 = .ok (.ifCond .ne 7, 3) := by decide +kernel
theorem dX10_odds_55 : decode cX10_odds 55 = .ok (.iload_n 2, 1) := by decide +kernel
theorem dX10_odds_56 : decode cX10_odds 56 = .ok (.goto 4, 3) := by decide +kernel
theorem dX10_odds_59 : decode cX10_odds 59 = .ok (.iload_n 3, 1) := by decide +kernel
theorem dX10_odds_60 : decode cX10_odds 60 = .ok (.iload_n 2, 1) := by decide +kernel
theorem dX10_odds_61 : decode cX10_odds 61 = .ok (.iload_n 3, 1) := by decide +kernel
theorem dX10_odds_62 : decode cX10_odds 62 = .ok (.invokestatic 241, 3) := by decide +kernel
theorem dX10_odds_65 : decode cX10_odds 65 = .ok (.ireturn, 1) := by decide +kernel
theorem dX10_sees_0 : decode cX10_sees 0 = .ok (.iload_n 1, 1) := by decide +kernel
theorem dX10_sees_1 : decode cX10_sees 1 = .ok (.ifCond .lt 18, 3) := by decide +kernel
theorem dX10_sees_4 : decode cX10_sees 4 = .ok (.iload_n 1, 1) := by decide +kernel
theorem dX10_sees_5 : decode cX10_sees 5 = .ok (.bipush 26, 2) := by decide +kernel
theorem dX10_sees_7 : decode cX10_sees 7 = .ok (.if_icmp .ge 12, 3) := by decide +kernel
theorem dX10_sees_10 : decode cX10_sees 10 = .ok (.iload_n 2, 1) := by decide +kernel
theorem dX10_sees_11 : decode cX10_sees 11 = .ok (.ifCond .lt 8, 3) := by decide +kernel
theorem dX10_sees_14 : decode cX10_sees 14 = .ok (.iload_n 2, 1) := by decide +kernel
theorem dX10_sees_15 : decode cX10_sees 15 = .ok (.iconst 1, 1) := by decide +kernel
theorem dX10_sees_16 : decode cX10_sees 16 = .ok (.if_icmp .le 5, 3) := by decide +kernel
theorem dX10_sees_19 : decode cX10_sees 19 = .ok (.iconst (-1), 1) := by decide +kernel
theorem dX10_sees_20 : decode cX10_sees 20 = .ok (.ireturn, 1) := by decide +kernel
theorem dX10_sees_21 : decode cX10_sees 21 = .ok (.aload_n 0, 1) := by decide +kernel
theorem dX10_sees_22 : decode cX10_sees 22 = .ok (.getfield 245, 3) := by decide +kernel
theorem dX10_sees_25 : decode cX10_sees 25 = .ok (.bipush 6, 2) := by decide +kernel
theorem dX10_sees_27 : decode cX10_sees 27 = .ok (.if_icmp .lt 6, 3) := by decide +kernel
theorem dX10_sees_30 : decode cX10_sees 30 = .ok (.bipush (-3), 2) := by decide +kernel
theorem dX10_sees_32 : decode cX10_sees 32 = .ok (.ireturn, 1) := by decide +kernel
theorem dX10_sees_33 : decode cX10_sees 33 = .ok (.iload_n 2, 1) := by decide +kernel
theorem dX10_sees_34 : decode cX10_sees 34 = .ok (.iconst 1, 1) := by decide +kernel
theorem dX10_sees_35 : decode cX10_sees 35 = .ok (.if_icmp .ne 18, 3) := by decide +kernel
theorem dX10_sees_38 : decode cX10_sees 38 = .ok (.aload_n 0, 1) := by decide +kernel
theorem dX10_sees_39 : decode cX10_sees 39 = .ok (.dup, 1) := by decide +kernel
theorem dX10_sees_40 : decode cX10_sees 40 = .ok (.getfield 248, 3) := by decide +kernel
theorem dX10_sees_43 : decode cX10_sees 43 = .ok (.iconst 1, 1) := by decide +kernel
theorem dX10_sees_44 : decode cX10_sees 44 = .ok (.iload_n 1, 1) := by decide +kernel
theorem dX10_sees_45 : decode cX10_sees 45 = .ok (.ishl, 1) := by decide +kernel
theorem dX10_sees_46 : decode cX10_sees 46 = .ok (.ior, 1) := by decide +kernel
theorem dX10_sees_47 : decode cX10_sees 47 = .ok (.putfield 248, 3) := by decide +kernel
theorem dX10_sees_50 : decode cX10_sees 50 = .ok (.goto 15, 3) := by decide +kernel
theorem dX10_sees_53 : decode cX10_sees 53 = .ok (.aload_n 0, 1) := by decide +kernel
theorem dX10_sees_54 : decode cX10_sees 54 = .ok (.dup, 1) := by decide +kernel
theorem dX10_sees_55 : decode cX10_sees 55 = .ok (.getfield 251, 3) := by decide +kernel
theorem dX10_sees_58 : decode cX10_sees 58 = .ok (.iconst 1, 1) := by decide +kernel
theorem dX10_sees_59 : decode cX10_sees 59 = .ok (.iload_n 1, 1) := by decide +kernel
theorem dX10_sees_60 : decode cX10_sees 60 = .ok (.ishl, 1) := by decide +kernel
theorem dX10_sees_61 : decode cX10_sees 61 = .ok (.ior, 1) := by decide +kernel
theorem dX10_sees_62 : decode cX10_sees 62 = .ok (.putfield 251, 3) := by decide +kernel
theorem dX10_sees_65 : decode cX10_sees 65 = .ok (.aload_n 0, 1) := by decide +kernel
theorem dX10_sees_66 : decode cX10_sees 66 = .ok (.dup, 1) := by decide +kernel
theorem dX10_sees_67 : decode cX10_sees 67 = .ok (.getfield 245, 3) := by decide +kernel
theorem dX10_sees_70 : decode cX10_sees 70 = .ok (.iconst 1, 1) := by decide +kernel
theorem dX10_sees_71 : decode cX10_sees 71 = .ok (.iadd, 1) := by decide +kernel
theorem dX10_sees_72 : decode cX10_sees 72 = .ok (.putfield 245, 3) := by decide +kernel
theorem dX10_sees_75 : decode cX10_sees 75 = .ok (.aload_n 0, 1) := by decide +kernel
theorem dX10_sees_76 : decode cX10_sees 76 = .ok (.getfield 245, 3) := by decide +kernel
theorem dX10_sees_79 : decode cX10_sees 79 = .ok (.ireturn, 1) := by decide +kernel
theorem dX10_forget_0 : decode cX10_forget 0 = .ok (.aload_n 0, 1) := by decide +kernel
theorem dX10_forget_1 : decode cX10_forget 1 = .ok (.getfield 245, 3) := by decide +kernel
theorem dX10_forget_4 : decode cX10_forget 4 = .ok (.istore_n 1, 1) := by decide +kernel
theorem dX10_forget_5 : decode cX10_forget 5 = .ok (.aload_n 0, 1) := by decide +kernel
theorem dX10_forget_6 : decode cX10_forget 6 = .ok (.iconst 0, 1) := by decide +kernel
theorem dX10_forget_7 : decode cX10_forget 7 = .ok (.putfield 245, 3) := by decide +kernel
theorem dX10_forget_10 : decode cX10_forget 10 = .ok (.aload_n 0, 1) := by decide +kernel
theorem dX10_forget_11 : decode cX10_forget 11 = .ok (.iconst 0, 1) := by decide +kernel
theorem dX10_forget_12 : decode cX10_forget 12 = .ok (.putfield 248, 3) := by decide +kernel
theorem dX10_forget_15 : decode cX10_forget 15 = .ok (.aload_n 0, 1) := by decide +kernel
theorem dX10_forget_16 : decode cX10_forget 16 = .ok (.iconst 0, 1) := by decide +kernel
theorem dX10_forget_17 : decode cX10_forget 17 = .ok (.putfield 251, 3) := by decide +kernel
theorem dX10_forget_20 : decode cX10_forget 20 = .ok (.iload_n 1, 1) := by decide +kernel
theorem dX10_forget_21 : decode cX10_forget 21 = .ok (.ireturn, 1) := by decide +kernel
theorem dX10_which_0 : decode cX10_which 0 = .ok (.iconst 0, 1) := by decide +kernel
theorem dX10_which_1 : decode cX10_which 1 = .ok (.istore_n 1, 1) := by decide +kernel
theorem dX10_which_2 : decode cX10_which 2 = .ok (.iconst 0, 1) := by decide +kernel
theorem dX10_which_3 : decode cX10_which 3 = .ok (.istore_n 2, 1) := by decide +kernel
theorem dX10_which_4 : decode cX10_which 4 = .ok (.iload_n 2, 1) := by decide +kernel
theorem dX10_which_5 : decode cX10_which 5 = .ok (.aload_n 0, 1) := by decide +kernel
theorem dX10_which_6 : decode cX10_which 6 = .ok (.getfield 19, 3) := by decide +kernel
theorem dX10_which_9 : decode cX10_which 9 = .ok (.getfield 90, 3) := by decide +kernel
theorem dX10_which_12 : decode cX10_which 12 = .ok (.if_icmp .ge 46, 3) := by decide +kernel
theorem dX10_which_15 : decode cX10_which 15 = .ok (.aload_n 0, 1) := by decide +kernel
theorem dX10_which_16 : decode cX10_which 16 = .ok (.getfield 19, 3) := by decide +kernel
theorem dX10_which_19 : decode cX10_which 19 = .ok (.iload_n 2, 1) := by decide +kernel
theorem dX10_which_20 : decode cX10_which 20 = .ok (.invokevirtual 119, 3) := by decide +kernel
theorem dX10_which_23 : decode cX10_which 23 = .ok (.istore_n 3, 1) := by decide +kernel
theorem dX10_which_24 : decode cX10_which 24 = .ok (.iload_n 3, 1) := by decide +kernel
theorem dX10_which_25 : decode cX10_which 25 = .ok (.aload_n 0, 1) := by decide +kernel
theorem dX10_which_26 : decode cX10_which 26 = .ok (.getfield 248, 3) := by decide +kernel
theorem dX10_which_29 : decode cX10_which 29 = .ok (.iand, 1) := by decide +kernel
theorem dX10_which_30 : decode cX10_which 30 = .ok (.aload_n 0, 1) := by decide +kernel
theorem dX10_which_31 : decode cX10_which 31 = .ok (.getfield 248, 3) := by decide +kernel
theorem dX10_which_34 : decode cX10_which 34 = .ok (.if_icmp .ne 18, 3) := by decide +kernel
theorem dX10_which_37 : decode cX10_which 37 = .ok (.iload_n 3, 1) := by decide +kernel
theorem dX10_which_38 : decode cX10_which 38 = .ok (.aload_n 0, 1) := by decide +kernel
theorem dX10_which_39 : decode cX10_which 39 = .ok (.getfield 251, 3) := by decide +kernel
theorem dX10_which_42 : decode cX10_which 42 = .ok (.iand, 1) := by decide +kernel
theorem dX10_which_43 : decode cX10_which 43 = .ok (.ifCond .ne 9, 3) := by decide +kernel
theorem dX10_which_46 : decode cX10_which 46 = .ok (.iload_n 1, 1) := by decide +kernel
theorem dX10_which_47 : decode cX10_which 47 = .ok (.iconst 1, 1) := by decide +kernel
theorem dX10_which_48 : decode cX10_which 48 = .ok (.iload_n 2, 1) := by decide +kernel
theorem dX10_which_49 : decode cX10_which 49 = .ok (.ishl, 1) := by decide +kernel
theorem dX10_which_50 : decode cX10_which 50 = .ok (.ior, 1) := by decide +kernel
theorem dX10_which_51 : decode cX10_which 51 = .ok (.istore_n 1, 1) := by decide +kernel
theorem dX10_which_52 : decode cX10_which 52 = .ok (.iinc 2 1, 3) := by decide +kernel
theorem dX10_which_55 : decode cX10_which 55 = .ok (.goto (-51), 3) := by decide +kernel
theorem dX10_which_58 : decode cX10_which 58 = .ok (.iload_n 1, 1) := by decide +kernel
theorem dX10_which_59 : decode cX10_which 59 = .ok (.ireturn, 1) := by decide +kernel
theorem dX10_look_0 : decode cX10_look 0 = .ok (.aload_n 0, 1) := by decide +kernel
theorem dX10_look_1 : decode cX10_look 1 = .ok (.invokevirtual 254, 3) := by decide +kernel
theorem dX10_look_4 : decode cX10_look 4 = .ok (.istore_n 1, 1) := by decide +kernel
theorem dX10_look_5 : decode cX10_look 5 = .ok (.iload_n 1, 1) := by decide +kernel
theorem dX10_look_6 : decode cX10_look 6 = .ok (.invokestatic 164, 3) := by decide +kernel
theorem dX10_look_9 : decode cX10_look 9 = .ok (.istore_n 2, 1) := by decide +kernel
theorem dX10_look_10 : decode cX10_look 10 = .ok (.bipush (-9), 2) := by decide +kernel
theorem dX10_look_12 : decode cX10_look 12 = .ok (.istore_n 3, 1) := by decide +kernel
theorem dX10_look_13 : decode cX10_look 13 = .ok (.iconst 0, 1) := by decide +kernel
theorem dX10_look_14 : decode cX10_look 14 = .ok (.istore 4, 2) := by decide +kernel
theorem dX10_look_16 : decode cX10_look 16 = .ok (.iload 4, 2) := by decide +kernel
theorem dX10_look_18 : decode cX10_look 18 = .ok (.bipush 26, 2) := by decide +kernel
theorem dX10_look_20 : decode cX10_look 20 = .ok (.if_icmp .ge 30, 3) := by decide +kernel
theorem dX10_look_23 : decode cX10_look 23 = .ok (.aload_n 0, 1) := by decide +kernel
theorem dX10_look_24 : decode cX10_look 24 = .ok (.iload_n 1, 1) := by decide +kernel
theorem dX10_look_25 : decode cX10_look 25 = .ok (.iload 4, 2) := by decide +kernel
theorem dX10_look_27 : decode cX10_look 27 = .ok (.invokevirtual 257, 3) := by decide +kernel
theorem dX10_look_30 : decode cX10_look 30 = .ok (.istore 5, 2) := by decide +kernel
theorem dX10_look_32 : decode cX10_look 32 = .ok (.iload 5, 2) := by decide +kernel
theorem dX10_look_34 : decode cX10_look 34 = .ok (.iload_n 2, 1) := by decide +kernel
theorem dX10_look_35 : decode cX10_look 35 = .ok (.if_icmp .ge 9, 3) := by decide +kernel
theorem dX10_look_38 : decode cX10_look 38 = .ok (.iload 5, 2) := by decide +kernel
theorem dX10_look_40 : decode cX10_look 40 = .ok (.istore_n 2, 1) := by decide +kernel
theorem dX10_look_41 : decode cX10_look 41 = .ok (.iload 4, 2) := by decide +kernel
theorem dX10_look_43 : decode cX10_look 43 = .ok (.istore_n 3, 1) := by decide +kernel
theorem dX10_look_44 : decode cX10_look 44 = .ok (.iinc 4 1, 3) := by decide +kernel
theorem dX10_look_47 : decode cX10_look 47 = .ok (.goto (-31), 3) := by decide +kernel
theorem dX10_look_50 : decode cX10_look 50 = .ok (.iload_n 3, 1) := by decide +kernel
theorem dX10_look_51 : decode cX10_look 51 = .ok (.ireturn, 1) := by decide +kernel
theorem dX10_mark_0 : decode cX10_mark 0 = .ok (.iload_n 1, 1) := by decide +kernel
theorem dX10_mark_1 : decode cX10_mark 1 = .ok (.ifCond .lt 17, 3) := by decide +kernel
theorem dX10_mark_4 : decode cX10_mark 4 = .ok (.iload_n 1, 1) := by decide +kernel
theorem dX10_mark_5 : decode cX10_mark 5 = .ok (.bipush 6, 2) := by decide +kernel
theorem dX10_mark_7 : decode cX10_mark 7 = .ok (.if_icmp .ge 11, 3) := by decide +kernel
theorem dX10_mark_10 : decode cX10_mark 10 = .ok (.aload_n 0, 1) := by decide +kernel
theorem dX10_mark_11 : decode cX10_mark 11 = .ok (.iload_n 2, 1) := by decide +kernel
theorem dX10_mark_12 : decode cX10_mark 12 = .ok (.invokevirtual 106, 3) := by decide +kernel
theorem dX10_mark_15 : decode cX10_mark 15 = .ok (.ifCond .ne 7, 3) := by decide +kernel
theorem dX10_mark_18 : decode cX10_mark 18 = .ok (.ldc_w 261, 3) := by decide +kernel
theorem dX10_mark_21 : decode cX10_mark 21 = .ok (.ireturn, 1) := by decide +kernel
theorem dX10_mark_22 : decode cX10_mark 22 = .ok (.iload_n 1, 1) := by decide +kernel
theorem dX10_mark_23 : decode cX10_mark 23 = .ok (.tableswitch 63 1 5 #[33, 39, 45, 51, 57], 33) := by decide +kernel
theorem dX10_mark_56 : decode cX10_mark 56 = .ok (.aload_n 0, 1) := by decide +kernel
theorem dX10_mark_57 : decode cX10_mark 57 = .ok (.iload_n 2, 1) := by decide +kernel
theorem dX10_mark_58 : decode cX10_mark 58 = .ok (.invokevirtual 262, 3) := by decide +kernel
theorem dX10_mark_61 : decode cX10_mark 61 = .ok (.ireturn, 1) := by decide +kernel
theorem dX10_mark_62 : decode cX10_mark 62 = .ok (.aload_n 0, 1) := by decide +kernel
theorem dX10_mark_63 : decode cX10_mark 63 = .ok (.iload_n 2, 1) := by decide +kernel
theorem dX10_mark_64 : decode cX10_mark 64 = .ok (.invokevirtual 265, 3) := by decide +kernel
theorem dX10_mark_67 : decode cX10_mark 67 = .ok (.ireturn, 1) := by decide +kernel
theorem dX10_mark_68 : decode cX10_mark 68 = .ok (.aload_n 0, 1) := by decide +kernel
theorem dX10_mark_69 : decode cX10_mark 69 = .ok (.iload_n 2, 1) := by decide +kernel
theorem dX10_mark_70 : decode cX10_mark 70 = .ok (.invokevirtual 268, 3) := by decide +kernel
theorem dX10_mark_73 : decode cX10_mark 73 = .ok (.ireturn, 1) := by decide +kernel
theorem dX10_mark_74 : decode cX10_mark 74 = .ok (.aload_n 0, 1) := by decide +kernel
theorem dX10_mark_75 : decode cX10_mark 75 = .ok (.iload_n 2, 1) := by decide +kernel
theorem dX10_mark_76 : decode cX10_mark 76 = .ok (.invokevirtual 271, 3) := by decide +kernel
theorem dX10_mark_79 : decode cX10_mark 79 = .ok (.ireturn, 1) := by decide +kernel
theorem dX10_mark_80 : decode cX10_mark 80 = .ok (.aload_n 0, 1) := by decide +kernel
theorem dX10_mark_81 : decode cX10_mark 81 = .ok (.iload_n 2, 1) := by decide +kernel
theorem dX10_mark_82 : decode cX10_mark 82 = .ok (.invokevirtual 274, 3) := by decide +kernel
theorem dX10_mark_85 : decode cX10_mark 85 = .ok (.ireturn, 1) := by decide +kernel
theorem dX10_mark_86 : decode cX10_mark 86 = .ok (.aload_n 0, 1) := by decide +kernel
theorem dX10_mark_87 : decode cX10_mark 87 = .ok (.iload_n 2, 1) := by decide +kernel
theorem dX10_mark_88 : decode cX10_mark 88 = .ok (.invokevirtual 277, 3) := by decide +kernel
theorem dX10_mark_91 : decode cX10_mark 91 = .ok (.ireturn, 1) := by decide +kernel
theorem dX10_keep_0 : decode cX10_keep 0 = .ok (.iload_n 1, 1) := by decide +kernel
theorem dX10_keep_1 : decode cX10_keep 1 = .ok (.ifCond .lt 8, 3) := by decide +kernel
theorem dX10_keep_4 : decode cX10_keep 4 = .ok (.iload_n 1, 1) := by decide +kernel
theorem dX10_keep_5 : decode cX10_keep 5 = .ok (.iconst 2, 1) := by decide +kernel
theorem dX10_keep_6 : decode cX10_keep 6 = .ok (.if_icmp .lt 5, 3) := by decide +kernel
theorem dX10_keep_9 : decode cX10_keep 9 = .ok (.iconst (-1), 1) := by decide +kernel
theorem dX10_keep_10 : decode cX10_keep 10 = .ok (.ireturn, 1) := by decide +kernel
theorem dX10_keep_11 : decode cX10_keep 11 = .ok (.aload_n 0, 1) := by decide +kernel
theorem dX10_keep_12 : decode cX10_keep 12 = .ok (.iload_n 1, 1) := by decide +kernel
theorem dX10_keep_13 : decode cX10_keep 13 = .ok (.invokevirtual 280, 3) := by decide +kernel
theorem dX10_keep_16 : decode cX10_keep 16 = .ok (.aload_n 0, 1) := by decide +kernel
theorem dX10_keep_17 : decode cX10_keep 17 = .ok (.getfield 29, 3) := by decide +kernel
theorem dX10_keep_20 : decode cX10_keep 20 = .ok (.invokevirtual 284, 3) := by decide +kernel
theorem dX10_keep_23 : decode cX10_keep 23 = .ok (.aload_n 0, 1) := by decide +kernel
theorem dX10_keep_24 : decode cX10_keep 24 = .ok (.dup, 1) := by decide +kernel
theorem dX10_keep_25 : decode cX10_keep 25 = .ok (.getfield 103, 3) := by decide +kernel
theorem dX10_keep_28 : decode cX10_keep 28 = .ok (.iconst 1, 1) := by decide +kernel
theorem dX10_keep_29 : decode cX10_keep 29 = .ok (.iload_n 1, 1) := by decide +kernel
theorem dX10_keep_30 : decode cX10_keep 30 = .ok (.ishl, 1) := by decide +kernel
theorem dX10_keep_31 : decode cX10_keep 31 = .ok (.ior, 1) := by decide +kernel
theorem dX10_keep_32 : decode cX10_keep 32 = .ok (.putfield 103, 3) := by decide +kernel
theorem dX10_keep_35 : decode cX10_keep 35 = .ok (.aload_n 0, 1) := by decide +kernel
theorem dX10_keep_36 : decode cX10_keep 36 = .ok (.getfield 29, 3) := by decide +kernel
theorem dX10_keep_39 : decode cX10_keep 39 = .ok (.getfield 109, 3) := by decide +kernel
theorem dX10_keep_42 : decode cX10_keep 42 = .ok (.getfield 182, 3) := by decide +kernel
theorem dX10_keep_45 : decode cX10_keep 45 = .ok (.ireturn, 1) := by decide +kernel
theorem dX10_back_0 : decode cX10_back 0 = .ok (.iload_n 1, 1) := by decide +kernel
theorem dX10_back_1 : decode cX10_back 1 = .ok (.ifCond .lt 8, 3) := by decide +kernel
theorem dX10_back_4 : decode cX10_back 4 = .ok (.iload_n 1, 1) := by decide +kernel
theorem dX10_back_5 : decode cX10_back 5 = .ok (.iconst 2, 1) := by decide +kernel
theorem dX10_back_6 : decode cX10_back 6 = .ok (.if_icmp .lt 5, 3) := by decide +kernel
theorem dX10_back_9 : decode cX10_back 9 = .ok (.iconst (-1), 1) := by decide +kernel
theorem dX10_back_10 : decode cX10_back 10 = .ok (.ireturn, 1) := by decide +kernel
theorem dX10_back_11 : decode cX10_back 11 = .ok (.aload_n 0, 1) := by decide +kernel
theorem dX10_back_12 : decode cX10_back 12 = .ok (.getfield 103, 3) := by decide +kernel
theorem dX10_back_15 : decode cX10_back 15 = .ok (.iload_n 1, 1) := by decide +kernel
theorem dX10_back_16 : decode cX10_back 16 = .ok (.ishr, 1) := by decide +kernel
theorem dX10_back_17 : decode cX10_back 17 = .ok (.iconst 1, 1) := by decide +kernel
theorem dX10_back_18 : decode cX10_back 18 = .ok (.iand, 1) := by decide +kernel
theorem dX10_back_19 : decode cX10_back 19 = .ok (.ifCond .ne 6, 3) := by decide +kernel
theorem dX10_back_22 : decode cX10_back 22 = .ok (.bipush (-2), 2) := by decide +kernel
theorem dX10_back_24 : decode cX10_back 24 = .ok (.ireturn, 1) := by decide +kernel
theorem dX10_back_25 : decode cX10_back 25 = .ok (.aload_n 0, 1) := by decide +kernel
theorem dX10_back_26 : decode cX10_back 26 = .ok (.getfield 29, 3) := by decide +kernel
theorem dX10_back_29 : decode cX10_back 29 = .ok (.aload_n 0, 1) := by decide +kernel
theorem dX10_back_30 : decode cX10_back 30 = .ok (.iload_n 1, 1) := by decide +kernel
theorem dX10_back_31 : decode cX10_back 31 = .ok (.invokevirtual 280, 3) := by decide +kernel
theorem dX10_back_34 : decode cX10_back 34 = .ok (.invokevirtual 284, 3) := by decide +kernel
theorem dX10_back_37 : decode cX10_back 37 = .ok (.aload_n 0, 1) := by decide +kernel
theorem dX10_back_38 : decode cX10_back 38 = .ok (.getfield 29, 3) := by decide +kernel
theorem dX10_back_41 : decode cX10_back 41 = .ok (.getfield 109, 3) := by decide +kernel
theorem dX10_back_44 : decode cX10_back 44 = .ok (.getfield 182, 3) := by decide +kernel
theorem dX10_back_47 : decode cX10_back 47 = .ok (.ireturn, 1) := by decide +kernel
theorem dX10_count_0 : decode cX10_count 0 = .ok (.iload_n 1, 1) := by decide +kernel
theorem dX10_count_1 : decode cX10_count 1 = .ok (.tableswitch 84 0 5 #[39, 47, 55, 63, 68, 76], 39) := by decide +kernel
theorem dX10_count_40 : decode cX10_count 40 = .ok (.aload_n 0, 1) := by decide +kernel
theorem dX10_count_41 : decode cX10_count 41 = .ok (.getfield 19, 3) := by decide +kernel
theorem dX10_count_44 : decode cX10_count 44 = .ok (.getfield 288, 3) := by decide +kernel
theorem dX10_count_47 : decode cX10_count 47 = .ok (.ireturn, 1) := by decide +kernel
theorem dX10_count_48 : decode cX10_count 48 = .ok (.aload_n 0, 1) := by decide +kernel
theorem dX10_count_49 : decode cX10_count 49 = .ok (.getfield 19, 3) := by decide +kernel
theorem dX10_count_52 : decode cX10_count 52 = .ok (.getfield 90, 3) := by decide +kernel
theorem dX10_count_55 : decode cX10_count 55 = .ok (.ireturn, 1) := by decide +kernel
theorem dX10_count_56 : decode cX10_count 56 = .ok (.aload_n 0, 1) := by decide +kernel
theorem dX10_count_57 : decode cX10_count 57 = .ok (.getfield 19, 3) := by decide +kernel
theorem dX10_count_60 : decode cX10_count 60 = .ok (.getfield 145, 3) := by decide +kernel
theorem dX10_count_63 : decode cX10_count 63 = .ok (.ireturn, 1) := by decide +kernel
theorem dX10_count_64 : decode cX10_count 64 = .ok (.aload_n 0, 1) := by decide +kernel
theorem dX10_count_65 : decode cX10_count 65 = .ok (.getfield 245, 3) := by decide +kernel
theorem dX10_count_68 : decode cX10_count 68 = .ok (.ireturn, 1) := by decide +kernel
theorem dX10_count_69 : decode cX10_count 69 = .ok (.aload_n 0, 1) := by decide +kernel
theorem dX10_count_70 : decode cX10_count 70 = .ok (.getfield 29, 3) := by decide +kernel
theorem dX10_count_73 : decode cX10_count 73 = .ok (.getfield 191, 3) := by decide +kernel
theorem dX10_count_76 : decode cX10_count 76 = .ok (.ireturn, 1) := by decide +kernel
theorem dX10_count_77 : decode cX10_count 77 = .ok (.aload_n 0, 1) := by decide +kernel
theorem dX10_count_78 : decode cX10_count 78 = .ok (.getfield 10, 3) := by decide +kernel
theorem dX10_count_81 : decode cX10_count 81 = .ok (.getfield 78, 3) := by decide +kernel
theorem dX10_count_84 : decode cX10_count 84 = .ok (.ireturn, 1) := by decide +kernel
theorem dX10_count_85 : decode cX10_count 85 = .ok (.iconst (-1), 1) := by decide +kernel
theorem dX10_count_86 : decode cX10_count 86 = .ok (.ireturn, 1) := by decide +kernel
theorem dX10_trace_0 : decode cX10_trace 0 = .ok (.aload_n 0, 1) := by decide +kernel
theorem dX10_trace_1 : decode cX10_trace 1 = .ok (.getfield 291, 3) := by decide +kernel
theorem dX10_trace_4 : decode cX10_trace 4 = .ok (.lreturn, 1) := by decide +kernel
theorem dX10_isStrip_0 : decode cX10_isStrip 0 = .ok (.iload_n 1, 1) := by decide +kernel
theorem dX10_isStrip_1 : decode cX10_isStrip 1 = .ok (.ifCond .lt 18, 3) := by decide +kernel
theorem dX10_isStrip_4 : decode cX10_isStrip 4 = .ok (.iload_n 1, 1) := by decide +kernel
theorem dX10_isStrip_5 : decode cX10_isStrip 5 = .ok (.aload_n 0, 1) := by decide +kernel
theorem dX10_isStrip_6 : decode cX10_isStrip 6 = .ok (.getfield 19, 3) := by decide +kernel
theorem dX10_isStrip_9 : decode cX10_isStrip 9 = .ok (.getfield 90, 3) := by decide +kernel
theorem dX10_isStrip_12 : decode cX10_isStrip 12 = .ok (.if_icmp .ge 7, 3) := by decide +kernel
theorem dX10_isStrip_15 : decode cX10_isStrip 15 = .ok (.iconst 1, 1) := by decide +kernel
theorem dX10_isStrip_16 : decode cX10_isStrip 16 = .ok (.goto 4, 3) := by decide +kernel
theorem dX10_isStrip_19 : decode cX10_isStrip 19 = .ok (.iconst 0, 1) := by decide +kernel
theorem dX10_isStrip_20 : decode cX10_isStrip 20 = .ok (.ireturn, 1) := by decide +kernel
theorem dX10_isLine_0 : decode cX10_isLine 0 = .ok (.iload_n 1, 1) := by decide +kernel
theorem dX10_isLine_1 : decode cX10_isLine 1 = .ok (.ifCond .lt 18, 3) := by decide +kernel
theorem dX10_isLine_4 : decode cX10_isLine 4 = .ok (.iload_n 1, 1) := by decide +kernel
theorem dX10_isLine_5 : decode cX10_isLine 5 = .ok (.aload_n 0, 1) := by decide +kernel
theorem dX10_isLine_6 : decode cX10_isLine 6 = .ok (.getfield 19, 3) := by decide +kernel
theorem dX10_isLine_9 : decode cX10_isLine 9 = .ok (.getfield 288, 3) := by decide +kernel
theorem dX10_isLine_12 : decode cX10_isLine 12 = .ok (.if_icmp .ge 7, 3) := by decide +kernel
theorem dX10_isLine_15 : decode cX10_isLine 15 = .ok (.iconst 1, 1) := by decide +kernel
theorem dX10_isLine_16 : decode cX10_isLine 16 = .ok (.goto 4, 3) := by decide +kernel
theorem dX10_isLine_19 : decode cX10_isLine 19 = .ok (.iconst 0, 1) := by decide +kernel
theorem dX10_isLine_20 : decode cX10_isLine 20 = .ok (.ireturn, 1) := by decide +kernel
theorem dX10_isPlace_0 : decode cX10_isPlace 0 = .ok (.iload_n 1, 1) := by decide +kernel
theorem dX10_isPlace_1 : decode cX10_isPlace 1 = .ok (.ifCond .lt 21, 3) := by decide +kernel
theorem dX10_isPlace_4 : decode cX10_isPlace 4 = .ok (.iload_n 1, 1) := by decide +kernel
theorem dX10_isPlace_5 : decode cX10_isPlace 5 = .ok (.aload_n 0, 1) := by decide +kernel
theorem dX10_isPlace_6 : decode cX10_isPlace 6 = .ok (.getfield 29, 3) := by decide +kernel
theorem dX10_isPlace_9 : decode cX10_isPlace 9 = .ok (.getfield 109, 3) := by decide +kernel
theorem dX10_isPlace_12 : decode cX10_isPlace 12 = .ok (.getfield 182, 3) := by decide +kernel
theorem dX10_isPlace_15 : decode cX10_isPlace 15 = .ok (.if_icmp .ge 7, 3) := by decide +kernel
theorem dX10_isPlace_18 : decode cX10_isPlace 18 = .ok (.iconst 1, 1) := by decide +kernel
theorem dX10_isPlace_19 : decode cX10_isPlace 19 = .ok (.goto 4, 3) := by decide +kernel
theorem dX10_isPlace_22 : decode cX10_isPlace 22 = .ok (.iconst 0, 1) := by decide +kernel
theorem dX10_isPlace_23 : decode cX10_isPlace 23 = .ok (.ireturn, 1) := by decide +kernel
theorem dX10_refusalOf_0 : decode cX10_refusalOf 0 = .ok (.aload_n 0, 1) := by decide +kernel
theorem dX10_refusalOf_1 : decode cX10_refusalOf 1 = .ok (.iload_n 1, 1) := by decide +kernel
theorem dX10_refusalOf_2 : decode cX10_refusalOf 2 = .ok (.invokevirtual 106, 3) := by decide +kernel
theorem dX10_refusalOf_5 : decode cX10_refusalOf 5 = .ok (.ifCond .ne 5, 3) := by decide +kernel
theorem dX10_refusalOf_8 : decode cX10_refusalOf 8 = .ok (.iconst (-1), 1) := by decide +kernel
theorem dX10_refusalOf_9 : decode cX10_refusalOf 9 = .ok (.ireturn, 1) := by decide +kernel
theorem dX10_refusalOf_10 : decode cX10_refusalOf 10 = .ok (.aload_n 0, 1) := by decide +kernel
theorem dX10_refusalOf_11 : decode cX10_refusalOf 11 = .ok (.getfield 29, 3) := by decide +kernel
theorem dX10_refusalOf_14 : decode cX10_refusalOf 14 = .ok (.getfield 109, 3) := by decide +kernel
theorem dX10_refusalOf_17 : decode cX10_refusalOf 17 = .ok (.iload_n 1, 1) := by decide +kernel
theorem dX10_refusalOf_18 : decode cX10_refusalOf 18 = .ok (.invokevirtual 112, 3) := by decide +kernel
theorem dX10_refusalOf_21 : decode cX10_refusalOf 21 = .ok (.bipush (-9), 2) := by decide +kernel
theorem dX10_refusalOf_23 : decode cX10_refusalOf 23 = .ok (.if_icmp .eq 7, 3) := by decide +kernel
theorem dX10_refusalOf_26 : decode cX10_refusalOf 26 = .ok (.iconst 1, 1) := by decide +kernel
theorem dX10_refusalOf_27 : decode cX10_refusalOf 27 = .ok (.goto 4, 3) := by decide +kernel
theorem dX10_refusalOf_30 : decode cX10_refusalOf 30 = .ok (.iconst 0, 1) := by decide +kernel
theorem dX10_refusalOf_31 : decode cX10_refusalOf 31 = .ok (.istore_n 3, 1) := by decide +kernel
theorem dX10_refusalOf_32 : decode cX10_refusalOf 32 = .ok (.iload_n 3, 1) := by decide +kernel
theorem dX10_refusalOf_33 : decode cX10_refusalOf 33 = .ok (.iload_n 2, 1) := by decide +kernel
theorem dX10_refusalOf_34 : decode cX10_refusalOf 34 = .ok (.if_icmp .ne 7, 3) := by decide +kernel
theorem dX10_refusalOf_37 : decode cX10_refusalOf 37 = .ok (.iconst 0, 1) := by decide +kernel
theorem dX10_refusalOf_38 : decode cX10_refusalOf 38 = .ok (.goto 5, 3) := by decide +kernel
theorem dX10_refusalOf_41 : decode cX10_refusalOf 41 = .ok (.bipush (-2), 2) := by decide +kernel
theorem dX10_refusalOf_43 : decode cX10_refusalOf 43 = .ok (.ireturn, 1) := by decide +kernel
theorem dX10_imageOf_0 : decode cX10_imageOf 0 = .ok (.iload_n 1, 1) := by decide +kernel
theorem dX10_imageOf_1 : decode cX10_imageOf 1 = .ok (.ifCond .ne 10, 3) := by decide +kernel
theorem dX10_imageOf_4 : decode cX10_imageOf 4 = .ok (.aload_n 0, 1) := by decide +kernel
theorem dX10_imageOf_5 : decode cX10_imageOf 5 = .ok (.getfield 33, 3) := by decide +kernel
theorem dX10_imageOf_8 : decode cX10_imageOf 8 = .ok (.goto 7, 3) := by decide +kernel
theorem dX10_imageOf_11 : decode cX10_imageOf 11 = .ok (.aload_n 0, 1) := by decide +kernel
theorem dX10_imageOf_12 : decode cX10_imageOf 12 = .ok (.getfield 36, 3) := by decide +kernel
theorem dX10_imageOf_15 : decode cX10_imageOf 15 = .ok (.areturn, 1) := by decide +kernel
theorem dX10_rightLines_0 : decode cX10_rightLines 0 = .ok (.iconst 0, 1) := by decide +kernel
theorem dX10_rightLines_1 : decode cX10_rightLines 1 = .ok (.istore_n 1, 1) := by decide +kernel
theorem dX10_rightLines_2 : decode cX10_rightLines 2 = .ok (.iconst 0, 1) := by decide +kernel
theorem dX10_rightLines_3 : decode cX10_rightLines 3 = .ok (.istore_n 2, 1) := by decide +kernel
theorem dX10_rightLines_4 : decode cX10_rightLines 4 = .ok (.iload_n 2, 1) := by decide +kernel
theorem dX10_rightLines_5 : decode cX10_rightLines 5 = .ok (.aload_n 0, 1) := by decide +kernel
theorem dX10_rightLines_6 : decode cX10_rightLines 6 = .ok (.getfield 19, 3) := by decide +kernel
theorem dX10_rightLines_9 : decode cX10_rightLines 9 = .ok (.getfield 288, 3) := by decide +kernel
theorem dX10_rightLines_12 : decode cX10_rightLines 12 = .ok (.if_icmp .ge 51, 3) := by decide +kernel
theorem dX10_rightLines_15 : decode cX10_rightLines 15 = .ok (.aload_n 0, 1) := by decide +kernel
theorem dX10_rightLines_16 : decode cX10_rightLines 16 = .ok (.getfield 42, 3) := by decide +kernel
theorem dX10_rightLines_19 : decode cX10_rightLines 19 = .ok (.aload_n 0, 1) := by decide +kernel
theorem dX10_rightLines_20 : decode cX10_rightLines 20 = .ok (.getfield 19, 3) := by decide +kernel
theorem dX10_rightLines_23 : decode cX10_rightLines 23 = .ok (.aload_n 0, 1) := by decide +kernel
theorem dX10_rightLines_24 : decode cX10_rightLines 24 = .ok (.getfield 29, 3) := by decide +kernel
theorem dX10_rightLines_27 : decode cX10_rightLines 27 = .ok (.getfield 109, 3) := by decide +kernel
theorem dX10_rightLines_30 : decode cX10_rightLines 30 = .ok (.iload_n 2, 1) := by decide +kernel
theorem dX10_rightLines_31 : decode cX10_rightLines 31 = .ok (.invokevirtual 206, 3) := by decide +kernel
theorem dX10_rightLines_34 : decode cX10_rightLines 34 = .ok (.aload_n 0, 1) := by decide +kernel
theorem dX10_rightLines_35 : decode cX10_rightLines 35 = .ok (.getfield 42, 3) := by decide +kernel
theorem dX10_rightLines_38 : decode cX10_rightLines 38 = .ok (.getfield 213, 3) := by decide +kernel
theorem dX10_rightLines_41 : decode cX10_rightLines 41 = .ok (.aload_n 0, 1) := by decide +kernel
theorem dX10_rightLines_42 : decode cX10_rightLines 42 = .ok (.getfield 42, 3) := by decide +kernel
theorem dX10_rightLines_45 : decode cX10_rightLines 45 = .ok (.getfield 210, 3) := by decide +kernel
theorem dX10_rightLines_48 : decode cX10_rightLines 48 = .ok (.if_icmp .ne 9, 3) := by decide +kernel
theorem dX10_rightLines_51 : decode cX10_rightLines 51 = .ok (.iload_n 1, 1) := by decide +kernel
theorem dX10_rightLines_52 : decode cX10_rightLines 52 = .ok (.iconst 1, 1) := by decide +kernel
theorem dX10_rightLines_53 : decode cX10_rightLines 53 = .ok (.iload_n 2, 1) := by decide +kernel
theorem dX10_rightLines_54 : decode cX10_rightLines 54 = .ok (.ishl, 1) := by decide +kernel
theorem dX10_rightLines_55 : decode cX10_rightLines 55 = .ok (.ior, 1) := by decide +kernel
theorem dX10_rightLines_56 : decode cX10_rightLines 56 = .ok (.istore_n 1, 1) := by decide +kernel
theorem dX10_rightLines_57 : decode cX10_rightLines 57 = .ok (.iinc 2 1, 3) := by decide +kernel
theorem dX10_rightLines_60 : decode cX10_rightLines 60 = .ok (.goto (-56), 3) := by decide +kernel
theorem dX10_rightLines_63 : decode cX10_rightLines 63 = .ok (.iload_n 1, 1) := by decide +kernel
theorem dX10_rightLines_64 : decode cX10_rightLines 64 = .ok (.ireturn, 1) := by decide +kernel
theorem dX10_rightRuns_0 : decode cX10_rightRuns 0 = .ok (.iconst 0, 1) := by decide +kernel
theorem dX10_rightRuns_1 : decode cX10_rightRuns 1 = .ok (.istore_n 1, 1) := by decide +kernel
theorem dX10_rightRuns_2 : decode cX10_rightRuns 2 = .ok (.iconst 0, 1) := by decide +kernel
theorem dX10_rightRuns_3 : decode cX10_rightRuns 3 = .ok (.istore_n 2, 1) := by decide +kernel
theorem dX10_rightRuns_4 : decode cX10_rightRuns 4 = .ok (.iload_n 2, 1) := by decide +kernel
theorem dX10_rightRuns_5 : decode cX10_rightRuns 5 = .ok (.aload_n 0, 1) := by decide +kernel
theorem dX10_rightRuns_6 : decode cX10_rightRuns 6 = .ok (.getfield 19, 3) := by decide +kernel
theorem dX10_rightRuns_9 : decode cX10_rightRuns 9 = .ok (.getfield 288, 3) := by decide +kernel
theorem dX10_rightRuns_12 : decode cX10_rightRuns 12 = .ok (.if_icmp .ge 38, 3) := by decide +kernel
theorem dX10_rightRuns_15 : decode cX10_rightRuns 15 = .ok (.aload_n 0, 1) := by decide +kernel
theorem dX10_rightRuns_16 : decode cX10_rightRuns 16 = .ok (.getfield 42, 3) := by decide +kernel
theorem dX10_rightRuns_19 : decode cX10_rightRuns 19 = .ok (.aload_n 0, 1) := by decide +kernel
theorem dX10_rightRuns_20 : decode cX10_rightRuns 20 = .ok (.getfield 19, 3) := by decide +kernel
theorem dX10_rightRuns_23 : decode cX10_rightRuns 23 = .ok (.aload_n 0, 1) := by decide +kernel
theorem dX10_rightRuns_24 : decode cX10_rightRuns 24 = .ok (.getfield 29, 3) := by decide +kernel
theorem dX10_rightRuns_27 : decode cX10_rightRuns 27 = .ok (.getfield 109, 3) := by decide +kernel
theorem dX10_rightRuns_30 : decode cX10_rightRuns 30 = .ok (.iload_n 2, 1) := by decide +kernel
theorem dX10_rightRuns_31 : decode cX10_rightRuns 31 = .ok (.invokevirtual 206, 3) := by decide +kernel
theorem dX10_rightRuns_34 : decode cX10_rightRuns 34 = .ok (.iload_n 1, 1) := by decide +kernel
theorem dX10_rightRuns_35 : decode cX10_rightRuns 35 = .ok (.aload_n 0, 1) := by decide +kernel
theorem dX10_rightRuns_36 : decode cX10_rightRuns 36 = .ok (.getfield 42, 3) := by decide +kernel
theorem dX10_rightRuns_39 : decode cX10_rightRuns 39 = .ok (.getfield 213, 3) := by decide +kernel
theorem dX10_rightRuns_42 : decode cX10_rightRuns 42 = .ok (.iadd, 1) := by decide +kernel
theorem dX10_rightRuns_43 : decode cX10_rightRuns 43 = .ok (.istore_n 1, 1) := by decide +kernel
theorem dX10_rightRuns_44 : decode cX10_rightRuns 44 = .ok (.iinc 2 1, 3) := by decide +kernel
theorem dX10_rightRuns_47 : decode cX10_rightRuns 47 = .ok (.goto (-43), 3) := by decide +kernel
theorem dX10_rightRuns_50 : decode cX10_rightRuns 50 = .ok (.iload_n 1, 1) := by decide +kernel
theorem dX10_rightRuns_51 : decode cX10_rightRuns 51 = .ok (.ireturn, 1) := by decide +kernel
theorem dX10_aliens_0 : decode cX10_aliens 0 = .ok (.iconst 0, 1) := by decide +kernel
theorem dX10_aliens_1 : decode cX10_aliens 1 = .ok (.istore_n 1, 1) := by decide +kernel
theorem dX10_aliens_2 : decode cX10_aliens 2 = .ok (.iconst 0, 1) := by decide +kernel
theorem dX10_aliens_3 : decode cX10_aliens 3 = .ok (.istore_n 2, 1) := by decide +kernel
theorem dX10_aliens_4 : decode cX10_aliens 4 = .ok (.iload_n 2, 1) := by decide +kernel
theorem dX10_aliens_5 : decode cX10_aliens 5 = .ok (.aload_n 0, 1) := by decide +kernel
theorem dX10_aliens_6 : decode cX10_aliens 6 = .ok (.getfield 29, 3) := by decide +kernel
theorem dX10_aliens_9 : decode cX10_aliens 9 = .ok (.getfield 109, 3) := by decide +kernel
theorem dX10_aliens_12 : decode cX10_aliens 12 = .ok (.getfield 182, 3) := by decide +kernel
theorem dX10_aliens_15 : decode cX10_aliens 15 = .ok (.if_icmp .ge 75, 3) := by decide +kernel
theorem dX10_aliens_18 : decode cX10_aliens 18 = .ok (.aload_n 0, 1) := by decide +kernel
theorem dX10_aliens_19 : decode cX10_aliens 19 = .ok (.getfield 29, 3) := by decide +kernel
theorem dX10_aliens_22 : decode cX10_aliens 22 = .ok (.getfield 109, 3) := by decide +kernel
theorem dX10_aliens_25 : decode cX10_aliens 25 = .ok (.getfield 143, 3) := by decide +kernel
theorem dX10_aliens_28 : decode cX10_aliens 28 = .ok (.iload_n 2, 1) := by decide +kernel
theorem dX10_aliens_29 : decode cX10_aliens 29 = .ok (.iaload, 1) := by decide +kernel
theorem dX10_aliens_30 : decode cX10_aliens 30 = .ok (.istore_n 3, 1) := by decide +kernel
theorem dX10_aliens_31 : decode cX10_aliens 31 = .ok (.aload_n 0, 1) := by decide +kernel
theorem dX10_aliens_32 : decode cX10_aliens 32 = .ok (.getfield 70, 3) := by decide +kernel
theorem dX10_aliens_35 : decode cX10_aliens 35 = .ok (.aload_n 0, 1) := by decide +kernel
theorem dX10_aliens_36 : decode cX10_aliens 36 = .ok (.getfield 29, 3) := by decide +kernel
theorem dX10_aliens_39 : decode cX10_aliens 39 = .ok (.getfield 109, 3) := by decide +kernel
theorem dX10_aliens_42 : decode cX10_aliens 42 = .ok (.invokevirtual 295, 3) := by decide +kernel
theorem dX10_aliens_45 : decode cX10_aliens 45 = .ok (.aload_n 0, 1) := by decide +kernel
theorem dX10_aliens_46 : decode cX10_aliens 46 = .ok (.getfield 70, 3) := by decide +kernel
theorem dX10_aliens_49 : decode cX10_aliens 49 = .ok (.iload_n 3, 1) := by decide +kernel
theorem dX10_aliens_50 : decode cX10_aliens 50 = .ok (.invokevirtual 179, 3) := by decide +kernel
theorem dX10_aliens_53 : decode cX10_aliens 53 = .ok (.aload_n 0, 1) := by decide +kernel
theorem dX10_aliens_54 : decode cX10_aliens 54 = .ok (.getfield 49, 3) := by decide +kernel
theorem dX10_aliens_57 : decode cX10_aliens 57 = .ok (.aload_n 0, 1) := by decide +kernel
theorem dX10_aliens_58 : decode cX10_aliens 58 = .ok (.getfield 19, 3) := by decide +kernel
theorem dX10_aliens_61 : decode cX10_aliens 61 = .ok (.aload_n 0, 1) := by decide +kernel
theorem dX10_aliens_62 : decode cX10_aliens 62 = .ok (.getfield 70, 3) := by decide +kernel
theorem dX10_aliens_65 : decode cX10_aliens 65 = .ok (.invokevirtual 122, 3) := by decide +kernel
theorem dX10_aliens_68 : decode cX10_aliens 68 = .ok (.aload_n 0, 1) := by decide +kernel
theorem dX10_aliens_69 : decode cX10_aliens 69 = .ok (.getfield 49, 3) := by decide +kernel
theorem dX10_aliens_72 : decode cX10_aliens 72 = .ok (.getfield 217, 3) := by decide +kernel
theorem dX10_aliens_75 : decode cX10_aliens 75 = .ok (.ifCond .le 9, 3) := by decide +kernel
theorem dX10_aliens_78 : decode cX10_aliens 78 = .ok (.iload_n 1, 1) := by decide +kernel
theorem dX10_aliens_79 : decode cX10_aliens 79 = .ok (.iconst 1, 1) := by decide +kernel
theorem dX10_aliens_80 : decode cX10_aliens 80 = .ok (.iload_n 3, 1) := by decide +kernel
theorem dX10_aliens_81 : decode cX10_aliens 81 = .ok (.ishl, 1) := by decide +kernel
theorem dX10_aliens_82 : decode cX10_aliens 82 = .ok (.ior, 1) := by decide +kernel
theorem dX10_aliens_83 : decode cX10_aliens 83 = .ok (.istore_n 1, 1) := by decide +kernel
theorem dX10_aliens_84 : decode cX10_aliens 84 = .ok (.iinc 2 1, 3) := by decide +kernel
theorem dX10_aliens_87 : decode cX10_aliens 87 = .ok (.goto (-83), 3) := by decide +kernel
theorem dX10_aliens_90 : decode cX10_aliens 90 = .ok (.iload_n 1, 1) := by decide +kernel
theorem dX10_aliens_91 : decode cX10_aliens 91 = .ok (.ireturn, 1) := by decide +kernel
theorem dX10_greaterPart_0 : decode cX10_greaterPart 0 = .ok (.iconst 0, 1) := by decide +kernel
theorem dX10_greaterPart_1 : decode cX10_greaterPart 1 = .ok (.istore_n 3, 1) := by decide +kernel
theorem dX10_greaterPart_2 : decode cX10_greaterPart 2 = .ok (.iconst 0, 1) := by decide +kernel
theorem dX10_greaterPart_3 : decode cX10_greaterPart 3 = .ok (.istore 4, 2) := by decide +kernel
theorem dX10_greaterPart_5 : decode cX10_greaterPart 5 = .ok (.iload 4, 2) := by decide +kernel
theorem dX10_greaterPart_7 : decode cX10_greaterPart 7 = .ok (.aload_n 0, 1) := by decide +kernel
theorem dX10_greaterPart_8 : decode cX10_greaterPart 8 = .ok (.getfield 19, 3) := by decide +kernel
theorem dX10_greaterPart_11 : decode cX10_greaterPart 11 = .ok (.getfield 90, 3) := by decide +kernel
theorem dX10_greaterPart_14 : decode cX10_greaterPart 14 = .ok (.if_icmp .ge 30, 3) := by decide +kernel
theorem dX10_greaterPart_17 : decode cX10_greaterPart 17 = .ok (.iload_n 3, 1) := by decide +kernel
theorem dX10_greaterPart_18 : decode cX10_greaterPart 18 = .ok (.iload_n 1, 1) := by decide +kernel
theorem dX10_greaterPart_19 : decode cX10_greaterPart 19 = .ok (.iload 4, 2) := by decide +kernel
theorem dX10_greaterPart_21 : decode cX10_greaterPart 21 = .ok (.ishr, 1) := by decide +kernel
theorem dX10_greaterPart_22 : decode cX10_greaterPart 22 = .ok (.aload_n 0, 1) := by decide +kernel
theorem dX10_greaterPart_23 : decode cX10_greaterPart 23 = .ok (.getfield 19, 3) := by decide +kernel
theorem dX10_greaterPart_26 : decode cX10_greaterPart 26 = .ok (.iload 4, 2) := by decide +kernel
theorem dX10_greaterPart_28 : decode cX10_greaterPart 28 = .ok (.invokevirtual 119, 3) := by decide +kernel
theorem dX10_greaterPart_31 : decode cX10_greaterPart 31 = .ok (.iload_n 2, 1) := by decide +kernel
theorem dX10_greaterPart_32 : decode cX10_greaterPart 32 = .ok (.ishr, 1) := by decide +kernel
theorem dX10_greaterPart_33 : decode cX10_greaterPart 33 = .ok (.iand, 1) := by decide +kernel
theorem dX10_greaterPart_34 : decode cX10_greaterPart 34 = .ok (.iconst 1, 1) := by decide +kernel
theorem dX10_greaterPart_35 : decode cX10_greaterPart 35 = .ok (.iand, 1) := by decide +kernel
theorem dX10_greaterPart_36 : decode cX10_greaterPart 36 = .ok (.iadd, 1) := by decide +kernel
theorem dX10_greaterPart_37 : decode cX10_greaterPart 37 = .ok (.istore_n 3, 1) := by decide +kernel
theorem dX10_greaterPart_38 : decode cX10_greaterPart 38 = .ok (.iinc 4 1, 3) := by decide +kernel
theorem dX10_greaterPart_41 : decode cX10_greaterPart 41 = .ok (.goto (-36), 3) := by decide +kernel
theorem dX10_greaterPart_44 : decode cX10_greaterPart 44 = .ok (.iload_n 3, 1) := by decide +kernel
theorem dX10_greaterPart_45 : decode cX10_greaterPart 45 = .ok (.iload_n 1, 1) := by decide +kernel
theorem dX10_greaterPart_46 : decode cX10_greaterPart 46 = .ok (.invokestatic 164, 3) := by decide +kernel
theorem dX10_greaterPart_49 : decode cX10_greaterPart 49 = .ok (.iload_n 3, 1) := by decide +kernel
theorem dX10_greaterPart_50 : decode cX10_greaterPart 50 = .ok (.isub, 1) := by decide +kernel
theorem dX10_greaterPart_51 : decode cX10_greaterPart 51 = .ok (.invokestatic 298, 3) := by decide +kernel
theorem dX10_greaterPart_54 : decode cX10_greaterPart 54 = .ok (.ireturn, 1) := by decide +kernel
theorem dX10_byteOf_0 : decode cX10_byteOf 0 = .ok (.iload_n 0, 1) := by decide +kernel
theorem dX10_byteOf_1 : decode cX10_byteOf 1 = .ok (.bipush 26, 2) := by decide +kernel
theorem dX10_byteOf_3 : decode cX10_byteOf 3 = .ok (.if_icmp .ne 8, 3) := by decide +kernel
theorem dX10_byteOf_6 : decode cX10_byteOf 6 = .ok (.bipush 46, 2) := by decide +kernel
theorem dX10_byteOf_8 : decode cX10_byteOf 8 = .ok (.goto 7, 3) := by decide +kernel
theorem dX10_byteOf_11 : decode cX10_byteOf 11 = .ok (.bipush 97, 2) := by decide +kernel
theorem dX10_byteOf_13 : decode cX10_byteOf 13 = .ok (.iload_n 0, 1) := by decide +kernel
theorem dX10_byteOf_14 : decode cX10_byteOf 14 = .ok (.iadd, 1) := by decide +kernel
theorem dX10_byteOf_15 : decode cX10_byteOf 15 = .ok (.ireturn, 1) := by decide +kernel
theorem dX10_ordersOf_0 : decode cX10_ordersOf 0 = .ok (.iconst 1, 1) := by decide +kernel
theorem dX10_ordersOf_1 : decode cX10_ordersOf 1 = .ok (.istore_n 1, 1) := by decide +kernel
theorem dX10_ordersOf_2 : decode cX10_ordersOf 2 = .ok (.iconst 2, 1) := by decide +kernel
theorem dX10_ordersOf_3 : decode cX10_ordersOf 3 = .ok (.istore_n 2, 1) := by decide +kernel
theorem dX10_ordersOf_4 : decode cX10_ordersOf 4 = .ok (.iload_n 2, 1) := by decide +kernel
theorem dX10_ordersOf_5 : decode cX10_ordersOf 5 = .ok (.iload_n 0, 1) := by decide +kernel
theorem dX10_ordersOf_6 : decode cX10_ordersOf 6 = .ok (.if_icmp .gt 13, 3) := by decide +kernel
theorem dX10_ordersOf_9 : decode cX10_ordersOf 9 = .ok (.iload_n 1, 1) := by decide +kernel
theorem dX10_ordersOf_10 : decode cX10_ordersOf 10 = .ok (.iload_n 2, 1) := by decide +kernel
theorem dX10_ordersOf_11 : decode cX10_ordersOf 11 = .ok (.imul, 1) := by decide +kernel
theorem dX10_ordersOf_12 : decode cX10_ordersOf 12 = .ok (.istore_n 1, 1) := by decide +kernel
theorem dX10_ordersOf_13 : decode cX10_ordersOf 13 = .ok (.iinc 2 1, 3) := by decide +kernel
theorem dX10_ordersOf_16 : decode cX10_ordersOf 16 = .ok (.goto (-12), 3) := by decide +kernel
theorem dX10_ordersOf_19 : decode cX10_ordersOf 19 = .ok (.iload_n 1, 1) := by decide +kernel
theorem dX10_ordersOf_20 : decode cX10_ordersOf 20 = .ok (.ireturn, 1) := by decide +kernel
theorem dX10_inLeastTerms_0 : decode cX10_inLeastTerms 0 = .ok (.iload_n 2, 1) := by decide +kernel
theorem dX10_inLeastTerms_1 : decode cX10_inLeastTerms 1 = .ok (.istore_n 3, 1) := by decide +kernel
theorem dX10_inLeastTerms_2 : decode cX10_inLeastTerms 2 = .ok (.iload_n 3, 1) := by decide +kernel
theorem dX10_inLeastTerms_3 : decode cX10_inLeastTerms 3 = .ok (.iconst 1, 1) := by decide +kernel
theorem dX10_inLeastTerms_4 : decode cX10_inLeastTerms 4 = .ok (.if_icmp .le 25, 3) := by decide +kernel
theorem dX10_inLeastTerms_7 : decode cX10_inLeastTerms 7 = .ok (.iload_n 1, 1) := by decide +kernel
theorem dX10_inLeastTerms_8 : decode cX10_inLeastTerms 8 = .ok (.iload_n 3, 1) := by decide +kernel
theorem dX10_inLeastTerms_9 : decode cX10_inLeastTerms 9 = .ok (.irem, 1) := by decide +kernel
theorem dX10_inLeastTerms_10 : decode cX10_inLeastTerms 10 = .ok (.ifCond .ne 13, 3) := by decide +kernel
theorem dX10_inLeastTerms_13 : decode cX10_inLeastTerms 13 = .ok (.iload_n 2, 1) := by decide +kernel
theorem dX10_inLeastTerms_14 : decode cX10_inLeastTerms 14 = .ok (.iload_n 3, 1) := by decide +kernel
theorem dX10_inLeastTerms_15 : decode cX10_inLeastTerms 15 = .ok (.irem, 1) := by decide +kernel
theorem dX10_inLeastTerms_16 : decode cX10_inLeastTerms 16 = .ok (.ifCond .ne 7, 3) := by decide +kernel
theorem dX10_inLeastTerms_19 : decode cX10_inLeastTerms 19 = .ok (.iload_n 0, 1) := by decide +kernel
theorem dX10_inLeastTerms_20 : decode cX10_inLeastTerms 20 = .ok (.iload_n 3, 1) := by decide +kernel
theorem dX10_inLeastTerms_21 : decode cX10_inLeastTerms 21 = .ok (.idiv, 1) := by decide +kernel
theorem dX10_inLeastTerms_22 : decode cX10_inLeastTerms 22 = .ok (.ireturn, 1) := by decide +kernel
theorem dX10_inLeastTerms_23 : decode cX10_inLeastTerms 23 = .ok (.iinc 3 (-1), 3) := by decide +kernel
theorem dX10_inLeastTerms_26 : decode cX10_inLeastTerms 26 = .ok (.goto (-24), 3) := by decide +kernel
theorem dX10_inLeastTerms_29 : decode cX10_inLeastTerms 29 = .ok (.iload_n 0, 1) := by decide +kernel
theorem dX10_inLeastTerms_30 : decode cX10_inLeastTerms 30 = .ok (.ireturn, 1) := by decide +kernel
theorem dX10_plainMark_0 : decode cX10_plainMark 0 = .ok (.aload_n 0, 1) := by decide +kernel
theorem dX10_plainMark_1 : decode cX10_plainMark 1 = .ok (.dup, 1) := by decide +kernel
theorem dX10_plainMark_2 : decode cX10_plainMark 2 = .ok (.getfield 291, 3) := by decide +kernel
theorem dX10_plainMark_5 : decode cX10_plainMark 5 = .ok (.lconst 1, 1) := by decide +kernel
theorem dX10_plainMark_6 : decode cX10_plainMark 6 = .ok (.ladd, 1) := by decide +kernel
theorem dX10_plainMark_7 : decode cX10_plainMark 7 = .ok (.putfield 291, 3) := by decide +kernel
theorem dX10_plainMark_10 : decode cX10_plainMark 10 = .ok (.aload_n 0, 1) := by decide +kernel
theorem dX10_plainMark_11 : decode cX10_plainMark 11 = .ok (.getfield 19, 3) := by decide +kernel
theorem dX10_plainMark_14 : decode cX10_plainMark 14 = .ok (.iload_n 1, 1) := by decide +kernel
theorem dX10_plainMark_15 : decode cX10_plainMark 15 = .ok (.invokevirtual 303, 3) := by decide +kernel
theorem dX10_plainMark_18 : decode cX10_plainMark 18 = .ok (.ireturn, 1) := by decide +kernel
theorem dX10_creasedMark_0 : decode cX10_creasedMark 0 = .ok (.aload_n 0, 1) := by decide +kernel
theorem dX10_creasedMark_1 : decode cX10_creasedMark 1 = .ok (.dup, 1) := by decide +kernel
theorem dX10_creasedMark_2 : decode cX10_creasedMark 2 = .ok (.getfield 291, 3) := by decide +kernel
theorem dX10_creasedMark_5 : decode cX10_creasedMark 5 = .ok (.ldc2_w 306, 3) := by decide +kernel
theorem dX10_creasedMark_8 : decode cX10_creasedMark 8 = .ok (.ladd, 1) := by decide +kernel
theorem dX10_creasedMark_9 : decode cX10_creasedMark 9 = .ok (.putfield 291, 3) := by decide +kernel
theorem dX10_creasedMark_12 : decode cX10_creasedMark 12 = .ok (.aload_n 0, 1) := by decide +kernel
theorem dX10_creasedMark_13 : decode cX10_creasedMark 13 = .ok (.iload_n 1, 1) := by decide +kernel
theorem dX10_creasedMark_14 : decode cX10_creasedMark 14 = .ok (.invokevirtual 277, 3) := by decide +kernel
theorem dX10_creasedMark_17 : decode cX10_creasedMark 17 = .ok (.bipush 10, 2) := by decide +kernel
theorem dX10_creasedMark_19 : decode cX10_creasedMark 19 = .ok (.aload_n 0, 1) := by decide +kernel
theorem dX10_creasedMark_20 : decode cX10_creasedMark 20 = .ok (.getfield 29, 3) := by decide +kernel
theorem dX10_creasedMark_23 : decode cX10_creasedMark 23 = .ok (.getfield 109, 3) := by decide +kernel
theorem dX10_creasedMark_26 : decode cX10_creasedMark 26 = .ok (.iload_n 1, 1) := by decide +kernel
theorem dX10_creasedMark_27 : decode cX10_creasedMark 27 = .ok (.invokevirtual 116, 3) := by decide +kernel
theorem dX10_creasedMark_30 : decode cX10_creasedMark 30 = .ok (.imul, 1) := by decide +kernel
theorem dX10_creasedMark_31 : decode cX10_creasedMark 31 = .ok (.iadd, 1) := by decide +kernel
theorem dX10_creasedMark_32 : decode cX10_creasedMark 32 = .ok (.ireturn, 1) := by decide +kernel
theorem dX10_smudgedMark_0 : decode cX10_smudgedMark 0 = .ok (.aload_n 0, 1) := by decide +kernel
theorem dX10_smudgedMark_1 : decode cX10_smudgedMark 1 = .ok (.dup, 1) := by decide +kernel
theorem dX10_smudgedMark_2 : decode cX10_smudgedMark 2 = .ok (.getfield 291, 3) := by decide +kernel
theorem dX10_smudgedMark_5 : decode cX10_smudgedMark 5 = .ok (.ldc2_w 308, 3) := by decide +kernel
theorem dX10_smudgedMark_8 : decode cX10_smudgedMark 8 = .ok (.ladd, 1) := by decide +kernel
theorem dX10_smudgedMark_9 : decode cX10_smudgedMark 9 = .ok (.putfield 291, 3) := by decide +kernel
theorem dX10_smudgedMark_12 : decode cX10_smudgedMark 12 = .ok (.aload_n 0, 1) := by decide +kernel
theorem dX10_smudgedMark_13 : decode cX10_smudgedMark 13 = .ok (.iload_n 1, 1) := by decide +kernel
theorem dX10_smudgedMark_14 : decode cX10_smudgedMark 14 = .ok (.invokevirtual 277, 3) := by decide +kernel
theorem dX10_smudgedMark_17 : decode cX10_smudgedMark 17 = .ok (.aload_n 0, 1) := by decide +kernel
theorem dX10_smudgedMark_18 : decode cX10_smudgedMark 18 = .ok (.getfield 29, 3) := by decide +kernel
theorem dX10_smudgedMark_21 : decode cX10_smudgedMark 21 = .ok (.getfield 109, 3) := by decide +kernel
theorem dX10_smudgedMark_24 : decode cX10_smudgedMark 24 = .ok (.getfield 182, 3) := by decide +kernel
theorem dX10_smudgedMark_27 : decode cX10_smudgedMark 27 = .ok (.isub, 1) := by decide +kernel
theorem dX10_smudgedMark_28 : decode cX10_smudgedMark 28 = .ok (.ireturn, 1) := by decide +kernel
theorem dX10_tornMark_0 : decode cX10_tornMark 0 = .ok (.aload_n 0, 1) := by decide +kernel
theorem dX10_tornMark_1 : decode cX10_tornMark 1 = .ok (.dup, 1) := by decide +kernel
theorem dX10_tornMark_2 : decode cX10_tornMark 2 = .ok (.getfield 291, 3) := by decide +kernel
theorem dX10_tornMark_5 : decode cX10_tornMark 5 = .ok (.ldc2_w 310, 3) := by decide +kernel
theorem dX10_tornMark_8 : decode cX10_tornMark 8 = .ok (.ladd, 1) := by decide +kernel
theorem dX10_tornMark_9 : decode cX10_tornMark 9 = .ok (.putfield 291, 3) := by decide +kernel
theorem dX10_tornMark_12 : decode cX10_tornMark 12 = .ok (.aload_n 0, 1) := by decide +kernel
theorem dX10_tornMark_13 : decode cX10_tornMark 13 = .ok (.iload_n 1, 1) := by decide +kernel
theorem dX10_tornMark_14 : decode cX10_tornMark 14 = .ok (.invokevirtual 262, 3) := by decide +kernel
theorem dX10_tornMark_17 : decode cX10_tornMark 17 = .ok (.iconst 2, 1) := by decide +kernel
theorem dX10_tornMark_18 : decode cX10_tornMark 18 = .ok (.imul, 1) := by decide +kernel
theorem dX10_tornMark_19 : decode cX10_tornMark 19 = .ok (.ireturn, 1) := by decide +kernel
theorem dX10_greasyMark_0 : decode cX10_greasyMark 0 = .ok (.aload_n 0, 1) := by decide +kernel
theorem dX10_greasyMark_1 : decode cX10_greasyMark 1 = .ok (.dup, 1) := by decide +kernel
theorem dX10_greasyMark_2 : decode cX10_greasyMark 2 = .ok (.getfield 291, 3) := by decide +kernel
theorem dX10_greasyMark_5 : decode cX10_greasyMark 5 = .ok (.ldc2_w 312, 3) := by decide +kernel
theorem dX10_greasyMark_8 : decode cX10_greasyMark 8 = .ok (.ladd, 1) := by decide +kernel
theorem dX10_greasyMark_9 : decode cX10_greasyMark 9 = .ok (.putfield 291, 3) := by decide +kernel
theorem dX10_greasyMark_12 : decode cX10_greasyMark 12 = .ok (.aload_n 0, 1) := by decide +kernel
theorem dX10_greasyMark_13 : decode cX10_greasyMark 13 = .ok (.iload_n 1, 1) := by decide +kernel
theorem dX10_greasyMark_14 : decode cX10_greasyMark 14 = .ok (.invokevirtual 265, 3) := by decide +kernel
theorem dX10_greasyMark_17 : decode cX10_greasyMark 17 = .ok (.iload_n 1, 1) := by decide +kernel
theorem dX10_greasyMark_18 : decode cX10_greasyMark 18 = .ok (.iadd, 1) := by decide +kernel
theorem dX10_greasyMark_19 : decode cX10_greasyMark 19 = .ok (.ireturn, 1) := by decide +kernel
theorem dX10_singedMark_0 : decode cX10_singedMark 0 = .ok (.aload_n 0, 1) := by decide +kernel
theorem dX10_singedMark_1 : decode cX10_singedMark 1 = .ok (.dup, 1) := by decide +kernel
theorem dX10_singedMark_2 : decode cX10_singedMark 2 = .ok (.getfield 291, 3) := by decide +kernel
theorem dX10_singedMark_5 : decode cX10_singedMark 5 = .ok (.ldc2_w 314, 3) := by decide +kernel
theorem dX10_singedMark_8 : decode cX10_singedMark 8 = .ok (.ladd, 1) := by decide +kernel
theorem dX10_singedMark_9 : decode cX10_singedMark 9 = .ok (.putfield 291, 3) := by decide +kernel
theorem dX10_singedMark_12 : decode cX10_singedMark 12 = .ok (.aload_n 0, 1) := by decide +kernel
theorem dX10_singedMark_13 : decode cX10_singedMark 13 = .ok (.iload_n 1, 1) := by decide +kernel
theorem dX10_singedMark_14 : decode cX10_singedMark 14 = .ok (.invokevirtual 277, 3) := by decide +kernel
theorem dX10_singedMark_17 : decode cX10_singedMark 17 = .ok (.aload_n 0, 1) := by decide +kernel
theorem dX10_singedMark_18 : decode cX10_singedMark 18 = .ok (.invokevirtual 194, 3) := by decide +kernel
theorem dX10_singedMark_21 : decode cX10_singedMark 21 = .ok (.iadd, 1) := by decide +kernel
theorem dX10_singedMark_22 : decode cX10_singedMark 22 = .ok (.ireturn, 1) := by decide +kernel
theorem dJ6_bitCount_0f7a4_0 : decode cJ6_bitCount_0f7a4 0 = .ok (.iload_n 0, 1) := by decide +kernel
theorem dJ6_bitCount_0f7a4_1 : decode cJ6_bitCount_0f7a4 1 = .ok (.iload_n 0, 1) := by decide +kernel
theorem dJ6_bitCount_0f7a4_2 : decode cJ6_bitCount_0f7a4 2 = .ok (.iconst 1, 1) := by decide +kernel
theorem dJ6_bitCount_0f7a4_3 : decode cJ6_bitCount_0f7a4 3 = .ok (.iushr, 1) := by decide +kernel
theorem dJ6_bitCount_0f7a4_4 : decode cJ6_bitCount_0f7a4 4 = .ok (.ldc_w 265, 3) := by decide +kernel
theorem dJ6_bitCount_0f7a4_7 : decode cJ6_bitCount_0f7a4 7 = .ok (.iand, 1) := by decide +kernel
theorem dJ6_bitCount_0f7a4_8 : decode cJ6_bitCount_0f7a4 8 = .ok (.isub, 1) := by decide +kernel
theorem dJ6_bitCount_0f7a4_9 : decode cJ6_bitCount_0f7a4 9 = .ok (.istore_n 0, 1) := by decide +kernel
theorem dJ6_bitCount_0f7a4_10 : decode cJ6_bitCount_0f7a4 10 = .ok (.iload_n 0, 1) := by decide +kernel
theorem dJ6_bitCount_0f7a4_11 : decode cJ6_bitCount_0f7a4 11 = .ok (.ldc_w 266, 3) := by decide +kernel
theorem dJ6_bitCount_0f7a4_14 : decode cJ6_bitCount_0f7a4 14 = .ok (.iand, 1) := by decide +kernel
theorem dJ6_bitCount_0f7a4_15 : decode cJ6_bitCount_0f7a4 15 = .ok (.iload_n 0, 1) := by decide +kernel
theorem dJ6_bitCount_0f7a4_16 : decode cJ6_bitCount_0f7a4 16 = .ok (.iconst 2, 1) := by decide +kernel
theorem dJ6_bitCount_0f7a4_17 : decode cJ6_bitCount_0f7a4 17 = .ok (.iushr, 1) := by decide +kernel
theorem dJ6_bitCount_0f7a4_18 : decode cJ6_bitCount_0f7a4 18 = .ok (.ldc_w 266, 3) := by decide +kernel
theorem dJ6_bitCount_0f7a4_21 : decode cJ6_bitCount_0f7a4 21 = .ok (.iand, 1) := by decide +kernel
theorem dJ6_bitCount_0f7a4_22 : decode cJ6_bitCount_0f7a4 22 = .ok (.iadd, 1) := by decide +kernel
theorem dJ6_bitCount_0f7a4_23 : decode cJ6_bitCount_0f7a4 23 = .ok (.istore_n 0, 1) := by decide +kernel
theorem dJ6_bitCount_0f7a4_24 : decode cJ6_bitCount_0f7a4 24 = .ok (.iload_n 0, 1) := by decide +kernel
theorem dJ6_bitCount_0f7a4_25 : decode cJ6_bitCount_0f7a4 25 = .ok (.iload_n 0, 1) := by decide +kernel
theorem dJ6_bitCount_0f7a4_26 : decode cJ6_bitCount_0f7a4 26 = .ok (.iconst 4, 1) := by decide +kernel
theorem dJ6_bitCount_0f7a4_27 : decode cJ6_bitCount_0f7a4 27 = .ok (.iushr, 1) := by decide +kernel
theorem dJ6_bitCount_0f7a4_28 : decode cJ6_bitCount_0f7a4 28 = .ok (.iadd, 1) := by decide +kernel
theorem dJ6_bitCount_0f7a4_29 : decode cJ6_bitCount_0f7a4 29 = .ok (.ldc_w 267, 3) := by decide +kernel
theorem dJ6_bitCount_0f7a4_32 : decode cJ6_bitCount_0f7a4 32 = .ok (.iand, 1) := by decide +kernel
theorem dJ6_bitCount_0f7a4_33 : decode cJ6_bitCount_0f7a4 33 = .ok (.istore_n 0, 1) := by decide +kernel
theorem dJ6_bitCount_0f7a4_34 : decode cJ6_bitCount_0f7a4 34 = .ok (.iload_n 0, 1) := by decide +kernel
theorem dJ6_bitCount_0f7a4_35 : decode cJ6_bitCount_0f7a4 35 = .ok (.iload_n 0, 1) := by decide +kernel
theorem dJ6_bitCount_0f7a4_36 : decode cJ6_bitCount_0f7a4 36 = .ok (.bipush 8, 2) := by decide +kernel
theorem dJ6_bitCount_0f7a4_38 : decode cJ6_bitCount_0f7a4 38 = .ok (.iushr, 1) := by decide +kernel
theorem dJ6_bitCount_0f7a4_39 : decode cJ6_bitCount_0f7a4 39 = .ok (.iadd, 1) := by decide +kernel
theorem dJ6_bitCount_0f7a4_40 : decode cJ6_bitCount_0f7a4 40 = .ok (.istore_n 0, 1) := by decide +kernel
theorem dJ6_bitCount_0f7a4_41 : decode cJ6_bitCount_0f7a4 41 = .ok (.iload_n 0, 1) := by decide +kernel
theorem dJ6_bitCount_0f7a4_42 : decode cJ6_bitCount_0f7a4 42 = .ok (.iload_n 0, 1) := by decide +kernel
theorem dJ6_bitCount_0f7a4_43 : decode cJ6_bitCount_0f7a4 43 = .ok (.bipush 16, 2) := by decide +kernel
theorem dJ6_bitCount_0f7a4_45 : decode cJ6_bitCount_0f7a4 45 = .ok (.iushr, 1) := by decide +kernel
theorem dJ6_bitCount_0f7a4_46 : decode cJ6_bitCount_0f7a4 46 = .ok (.iadd, 1) := by decide +kernel
theorem dJ6_bitCount_0f7a4_47 : decode cJ6_bitCount_0f7a4 47 = .ok (.istore_n 0, 1) := by decide +kernel
theorem dJ6_bitCount_0f7a4_48 : decode cJ6_bitCount_0f7a4 48 = .ok (.iload_n 0, 1) := by decide +kernel
theorem dJ6_bitCount_0f7a4_49 : decode cJ6_bitCount_0f7a4 49 = .ok (.bipush 63, 2) := by decide +kernel
theorem dJ6_bitCount_0f7a4_51 : decode cJ6_bitCount_0f7a4 51 = .ok (.iand, 1) := by decide +kernel
theorem dJ6_bitCount_0f7a4_52 : decode cJ6_bitCount_0f7a4 52 = .ok (.ireturn, 1) := by decide +kernel
theorem dJ9_abs_0f7a4_0 : decode cJ9_abs_0f7a4 0 = .ok (.iload_n 0, 1) := by decide +kernel
theorem dJ9_abs_0f7a4_1 : decode cJ9_abs_0f7a4 1 = .ok (.ifCond .ge 8, 3) := by decide +kernel
theorem dJ9_abs_0f7a4_4 : decode cJ9_abs_0f7a4 4 = .ok (.iload_n 0, 1) := by decide +kernel
theorem dJ9_abs_0f7a4_5 : decode cJ9_abs_0f7a4 5 = .ok (.ineg, 1) := by decide +kernel
theorem dJ9_abs_0f7a4_6 : decode cJ9_abs_0f7a4 6 = .ok (.goto 4, 3) := by decide +kernel
theorem dJ9_abs_0f7a4_9 : decode cJ9_abs_0f7a4 9 = .ok (.iload_n 0, 1) := by decide +kernel
theorem dJ9_abs_0f7a4_10 : decode cJ9_abs_0f7a4 10 = .ok (.ireturn, 1) := by decide +kernel
theorem dJ9_max_7cf53_0 : decode cJ9_max_7cf53 0 = .ok (.iload_n 0, 1) := by decide +kernel
theorem dJ9_max_7cf53_1 : decode cJ9_max_7cf53 1 = .ok (.iload_n 1, 1) := by decide +kernel
theorem dJ9_max_7cf53_2 : decode cJ9_max_7cf53 2 = .ok (.if_icmp .lt 7, 3) := by decide +kernel
theorem dJ9_max_7cf53_5 : decode cJ9_max_7cf53 5 = .ok (.iload_n 0, 1) := by decide +kernel
theorem dJ9_max_7cf53_6 : decode cJ9_max_7cf53 6 = .ok (.goto 4, 3) := by decide +kernel
theorem dJ9_max_7cf53_9 : decode cJ9_max_7cf53 9 = .ok (.iload_n 1, 1) := by decide +kernel
theorem dJ9_max_7cf53_10 : decode cJ9_max_7cf53 10 = .ok (.ireturn, 1) := by decide +kernel
theorem dJ7_fill_53178_0 : decode cJ7_fill_53178 0 = .ok (.iconst 0, 1) := by decide +kernel
theorem dJ7_fill_53178_1 : decode cJ7_fill_53178 1 = .ok (.istore_n 2, 1) := by decide +kernel
theorem dJ7_fill_53178_2 : decode cJ7_fill_53178 2 = .ok (.aload_n 0, 1) := by decide +kernel
theorem dJ7_fill_53178_3 : decode cJ7_fill_53178 3 = .ok (.arraylength, 1) := by decide +kernel
theorem dJ7_fill_53178_4 : decode cJ7_fill_53178 4 = .ok (.istore_n 3, 1) := by decide +kernel
theorem dJ7_fill_53178_5 : decode cJ7_fill_53178 5 = .ok (.iload_n 2, 1) := by decide +kernel
theorem dJ7_fill_53178_6 : decode cJ7_fill_53178 6 = .ok (.iload_n 3, 1) := by decide +kernel
theorem dJ7_fill_53178_7 : decode cJ7_fill_53178 7 = .ok (.if_icmp .ge 13, 3) := by decide +kernel
theorem dJ7_fill_53178_10 : decode cJ7_fill_53178 10 = .ok (.aload_n 0, 1) := by decide +kernel
theorem dJ7_fill_53178_11 : decode cJ7_fill_53178 11 = .ok (.iload_n 2, 1) := by decide +kernel
theorem dJ7_fill_53178_12 : decode cJ7_fill_53178 12 = .ok (.iload_n 1, 1) := by decide +kernel
theorem dJ7_fill_53178_13 : decode cJ7_fill_53178 13 = .ok (.iastore, 1) := by decide +kernel
theorem dJ7_fill_53178_14 : decode cJ7_fill_53178 14 = .ok (.iinc 2 1, 3) := by decide +kernel
theorem dJ7_fill_53178_17 : decode cJ7_fill_53178 17 = .ok (.goto (-12), 3) := by decide +kernel
theorem dJ7_fill_53178_20 : decode cJ7_fill_53178 20 = .ok (.return_, 1) := by decide +kernel
