theorem dX11_init_0 : decode cX11_init 0 = .ok (.aload_n 0, 1) := by decide +kernel
theorem dX11_init_1 : decode cX11_init 1 = .ok (.invokespecial 1, 3) := by decide +kernel
theorem dX11_init_4 : decode cX11_init 4 = .ok (.aload_n 0, 1) := by decide +kernel
theorem dX11_init_5 : decode cX11_init 5 = .ok (.iconst 2, 1) := by decide +kernel
theorem dX11_init_6 : decode cX11_init 6 = .ok (.putfield 7, 3) := by decide +kernel
theorem dX11_init_9 : decode cX11_init 9 = .ok (.aload_n 0, 1) := by decide +kernel
theorem dX11_init_10 : decode cX11_init 10 = .ok (.bipush 36, 2) := by decide +kernel
theorem dX11_init_12 : decode cX11_init 12 = .ok (.newarray .int, 2) := by decide +kernel
theorem dX11_init_14 : decode cX11_init 14 = .ok (.putfield 13, 3) := by decide +kernel
theorem dX11_init_17 : decode cX11_init 17 = .ok (.aload_n 0, 1) := by decide +kernel
theorem dX11_init_18 : decode cX11_init 18 = .ok (.bipush 48, 2) := by decide +kernel
theorem dX11_init_20 : decode cX11_init 20 = .ok (.newarray .int, 2) := by decide +kernel
theorem dX11_init_22 : decode cX11_init 22 = .ok (.putfield 17, 3) := by decide +kernel
theorem dX11_init_25 : decode cX11_init 25 = .ok (.aload_n 0, 1) := by decide +kernel
theorem dX11_init_26 : decode cX11_init 26 = .ok (.bipush 8, 2) := by decide +kernel
theorem dX11_init_28 : decode cX11_init 28 = .ok (.newarray .int, 2) := by decide +kernel
theorem dX11_init_30 : decode cX11_init 30 = .ok (.putfield 20, 3) := by decide +kernel
theorem dX11_init_33 : decode cX11_init 33 = .ok (.aload_n 0, 1) := by decide +kernel
theorem dX11_init_34 : decode cX11_init 34 = .ok (.bipush 6, 2) := by decide +kernel
theorem dX11_init_36 : decode cX11_init 36 = .ok (.newarray .int, 2) := by decide +kernel
theorem dX11_init_38 : decode cX11_init 38 = .ok (.putfield 23, 3) := by decide +kernel
theorem dX11_init_41 : decode cX11_init 41 = .ok (.aload_n 0, 1) := by decide +kernel
theorem dX11_init_42 : decode cX11_init 42 = .ok (.bipush 6, 2) := by decide +kernel
theorem dX11_init_44 : decode cX11_init 44 = .ok (.newarray .int, 2) := by decide +kernel
theorem dX11_init_46 : decode cX11_init 46 = .ok (.putfield 26, 3) := by decide +kernel
theorem dX11_init_49 : decode cX11_init 49 = .ok (.aload_n 0, 1) := by decide +kernel
theorem dX11_init_50 : decode cX11_init 50 = .ok (.bipush 6, 2) := by decide +kernel
theorem dX11_init_52 : decode cX11_init 52 = .ok (.newarray .int, 2) := by decide +kernel
theorem dX11_init_54 : decode cX11_init 54 = .ok (.putfield 29, 3) := by decide +kernel
theorem dX11_init_57 : decode cX11_init 57 = .ok (.aload_n 0, 1) := by decide +kernel
theorem dX11_init_58 : decode cX11_init 58 = .ok (.sipush 150, 3) := by decide +kernel
theorem dX11_init_61 : decode cX11_init 61 = .ok (.newarray .int, 2) := by decide +kernel
theorem dX11_init_63 : decode cX11_init 63 = .ok (.putfield 32, 3) := by decide +kernel
theorem dX11_init_66 : decode cX11_init 66 = .ok (.aload_n 0, 1) := by decide +kernel
theorem dX11_init_67 : decode cX11_init 67 = .ok (.bipush 36, 2) := by decide +kernel
theorem dX11_init_69 : decode cX11_init 69 = .ok (.newarray .int, 2) := by decide +kernel
theorem dX11_init_71 : decode cX11_init 71 = .ok (.putfield 35, 3) := by decide +kernel
theorem dX11_init_74 : decode cX11_init 74 = .ok (.aload_n 0, 1) := by decide +kernel
theorem dX11_init_75 : decode cX11_init 75 = .ok (.bipush 48, 2) := by decide +kernel
theorem dX11_init_77 : decode cX11_init 77 = .ok (.newarray .int, 2) := by decide +kernel
theorem dX11_init_79 : decode cX11_init 79 = .ok (.putfield 38, 3) := by decide +kernel
theorem dX11_init_82 : decode cX11_init 82 = .ok (.aload_n 0, 1) := by decide +kernel
theorem dX11_init_83 : decode cX11_init 83 = .ok (.bipush 8, 2) := by decide +kernel
theorem dX11_init_85 : decode cX11_init 85 = .ok (.newarray .int, 2) := by decide +kernel
theorem dX11_init_87 : decode cX11_init 87 = .ok (.putfield 41, 3) := by decide +kernel
theorem dX11_init_90 : decode cX11_init 90 = .ok (.aload_n 0, 1) := by decide +kernel
theorem dX11_init_91 : decode cX11_init 91 = .ok (.iconst 3, 1) := by decide +kernel
theorem dX11_init_92 : decode cX11_init 92 = .ok (.newarray .int, 2) := by decide +kernel
theorem dX11_init_94 : decode cX11_init 94 = .ok (.putfield 44, 3) := by decide +kernel
theorem dX11_init_97 : decode cX11_init 97 = .ok (.aload_n 0, 1) := by decide +kernel
theorem dX11_init_98 : decode cX11_init 98 = .ok (.iconst 3, 1) := by decide +kernel
theorem dX11_init_99 : decode cX11_init 99 = .ok (.newarray .int, 2) := by decide +kernel
theorem dX11_init_101 : decode cX11_init 101 = .ok (.putfield 47, 3) := by decide +kernel
theorem dX11_init_104 : decode cX11_init 104 = .ok (.aload_n 0, 1) := by decide +kernel
theorem dX11_init_105 : decode cX11_init 105 = .ok (.iconst 3, 1) := by decide +kernel
theorem dX11_init_106 : decode cX11_init 106 = .ok (.newarray .int, 2) := by decide +kernel
theorem dX11_init_108 : decode cX11_init 108 = .ok (.putfield 50, 3) := by decide +kernel
theorem dX11_init_111 : decode cX11_init 111 = .ok (.aload_n 0, 1) := by decide +kernel
theorem dX11_init_112 : decode cX11_init 112 = .ok (.bipush 80, 2) := by decide +kernel
theorem dX11_init_114 : decode cX11_init 114 = .ok (.newarray .int, 2) := by decide +kernel
theorem dX11_init_116 : decode cX11_init 116 = .ok (.putfield 53, 3) := by decide +kernel
theorem dX11_init_119 : decode cX11_init 119 = .ok (.aload_n 0, 1) := by decide +kernel
theorem dX11_init_120 : decode cX11_init 120 = .ok (.bipush 6, 2) := by decide +kernel
theorem dX11_init_122 : decode cX11_init 122 = .ok (.newarray .int, 2) := by decide +kernel
theorem dX11_init_124 : decode cX11_init 124 = .ok (.putfield 56, 3) := by decide +kernel
theorem dX11_init_127 : decode cX11_init 127 = .ok (.aload_n 0, 1) := by decide +kernel
theorem dX11_init_128 : decode cX11_init 128 = .ok (.bipush 6, 2) := by decide +kernel
theorem dX11_init_130 : decode cX11_init 130 = .ok (.newarray .int, 2) := by decide +kernel
theorem dX11_init_132 : decode cX11_init 132 = .ok (.putfield 59, 3) := by decide +kernel
theorem dX11_init_135 : decode cX11_init 135 = .ok (.aload_n 0, 1) := by decide +kernel
theorem dX11_init_136 : decode cX11_init 136 = .ok (.bipush 6, 2) := by decide +kernel
theorem dX11_init_138 : decode cX11_init 138 = .ok (.newarray .int, 2) := by decide +kernel
theorem dX11_init_140 : decode cX11_init 140 = .ok (.putfield 62, 3) := by decide +kernel
theorem dX11_init_143 : decode cX11_init 143 = .ok (.aload_n 0, 1) := by decide +kernel
theorem dX11_init_144 : decode cX11_init 144 = .ok (.sipush 180, 3) := by decide +kernel
theorem dX11_init_147 : decode cX11_init 147 = .ok (.newarray .int, 2) := by decide +kernel
theorem dX11_init_149 : decode cX11_init 149 = .ok (.putfield 65, 3) := by decide +kernel
theorem dX11_init_152 : decode cX11_init 152 = .ok (.return_, 1) := by decide +kernel
theorem dX11_in_0 : decode cX11_in 0 = .ok (.iload_n 0, 1) := by decide +kernel
theorem dX11_in_1 : decode cX11_in 1 = .ok (.iload_n 1, 1) := by decide +kernel
theorem dX11_in_2 : decode cX11_in 2 = .ok (.if_icmp .lt 12, 3) := by decide +kernel
theorem dX11_in_5 : decode cX11_in 5 = .ok (.iload_n 0, 1) := by decide +kernel
theorem dX11_in_6 : decode cX11_in 6 = .ok (.iload_n 2, 1) := by decide +kernel
theorem dX11_in_7 : decode cX11_in 7 = .ok (.if_icmp .gt 7, 3) := by decide +kernel
theorem dX11_in_10 : decode cX11_in 10 = .ok (.iconst 1, 1) := by decide +kernel
theorem dX11_in_11 : decode cX11_in 11 = .ok (.goto 4, 3) := by decide +kernel
theorem dX11_in_14 : decode cX11_in 14 = .ok (.iconst 0, 1) := by decide +kernel
theorem dX11_in_15 : decode cX11_in 15 = .ok (.ireturn, 1) := by decide +kernel
theorem dX11_has_0 : decode cX11_has 0 = .ok (.iload_n 0, 1) := by decide +kernel
theorem dX11_has_1 : decode cX11_has 1 = .ok (.iload_n 1, 1) := by decide +kernel
theorem dX11_has_2 : decode cX11_has 2 = .ok (.ishr, 1) := by decide +kernel
theorem dX11_has_3 : decode cX11_has 3 = .ok (.iconst 1, 1) := by decide +kernel
theorem dX11_has_4 : decode cX11_has 4 = .ok (.iand, 1) := by decide +kernel
theorem dX11_has_5 : decode cX11_has 5 = .ok (.iconst 1, 1) := by decide +kernel
theorem dX11_has_6 : decode cX11_has 6 = .ok (.if_icmp .ne 7, 3) := by decide +kernel
theorem dX11_has_9 : decode cX11_has 9 = .ok (.iconst 1, 1) := by decide +kernel
theorem dX11_has_10 : decode cX11_has 10 = .ok (.goto 4, 3) := by decide +kernel
theorem dX11_has_13 : decode cX11_has 13 = .ok (.iconst 0, 1) := by decide +kernel
theorem dX11_has_14 : decode cX11_has 14 = .ok (.ireturn, 1) := by decide +kernel
theorem dX11_common_0 : decode cX11_common 0 = .ok (.iload_n 0, 1) := by decide +kernel
theorem dX11_common_1 : decode cX11_common 1 = .ok (.istore_n 2, 1) := by decide +kernel
theorem dX11_common_2 : decode cX11_common 2 = .ok (.iload_n 1, 1) := by decide +kernel
theorem dX11_common_3 : decode cX11_common 3 = .ok (.istore_n 3, 1) := by decide +kernel
theorem dX11_common_4 : decode cX11_common 4 = .ok (.iload_n 3, 1) := by decide +kernel
theorem dX11_common_5 : decode cX11_common 5 = .ok (.ifCond .eq 16, 3) := by decide +kernel
theorem dX11_common_8 : decode cX11_common 8 = .ok (.iload_n 2, 1) := by decide +kernel
theorem dX11_common_9 : decode cX11_common 9 = .ok (.iload_n 3, 1) := by decide +kernel
theorem dX11_common_10 : decode cX11_common 10 = .ok (.irem, 1) := by decide +kernel
theorem dX11_common_11 : decode cX11_common 11 = .ok (.istore 4, 2) := by decide +kernel
theorem dX11_common_13 : decode cX11_common 13 = .ok (.iload_n 3, 1) := by decide +kernel
theorem dX11_common_14 : decode cX11_common 14 = .ok (.istore_n 2, 1) := by decide +kernel
theorem dX11_common_15 : decode cX11_common 15 = .ok (.iload 4, 2) := by decide +kernel
theorem dX11_common_17 : decode cX11_common 17 = .ok (.istore_n 3, 1) := by decide +kernel
theorem dX11_common_18 : decode cX11_common 18 = .ok (.goto (-14), 3) := by decide +kernel
theorem dX11_common_21 : decode cX11_common 21 = .ok (.iload_n 2, 1) := by decide +kernel
theorem dX11_common_22 : decode cX11_common 22 = .ok (.ireturn, 1) := by decide +kernel
theorem dX11_isStrip_0 : decode cX11_isStrip 0 = .ok (.iload_n 1, 1) := by decide +kernel
theorem dX11_isStrip_1 : decode cX11_isStrip 1 = .ok (.iconst 0, 1) := by decide +kernel
theorem dX11_isStrip_2 : decode cX11_isStrip 2 = .ok (.aload_n 0, 1) := by decide +kernel
theorem dX11_isStrip_3 : decode cX11_isStrip 3 = .ok (.getfield 68, 3) := by decide +kernel
theorem dX11_isStrip_6 : decode cX11_isStrip 6 = .ok (.iconst 1, 1) := by decide +kernel
theorem dX11_isStrip_7 : decode cX11_isStrip 7 = .ok (.isub, 1) := by decide +kernel
theorem dX11_isStrip_8 : decode cX11_isStrip 8 = .ok (.invokestatic 71, 3) := by decide +kernel
theorem dX11_isStrip_11 : decode cX11_isStrip 11 = .ok (.ireturn, 1) := by decide +kernel
theorem dX11_isPlace_0 : decode cX11_isPlace 0 = .ok (.iload_n 1, 1) := by decide +kernel
theorem dX11_isPlace_1 : decode cX11_isPlace 1 = .ok (.iconst 0, 1) := by decide +kernel
theorem dX11_isPlace_2 : decode cX11_isPlace 2 = .ok (.aload_n 0, 1) := by decide +kernel
theorem dX11_isPlace_3 : decode cX11_isPlace 3 = .ok (.getfield 75, 3) := by decide +kernel
theorem dX11_isPlace_6 : decode cX11_isPlace 6 = .ok (.iconst 1, 1) := by decide +kernel
theorem dX11_isPlace_7 : decode cX11_isPlace 7 = .ok (.isub, 1) := by decide +kernel
theorem dX11_isPlace_8 : decode cX11_isPlace 8 = .ok (.invokestatic 71, 3) := by decide +kernel
theorem dX11_isPlace_11 : decode cX11_isPlace 11 = .ok (.ireturn, 1) := by decide +kernel
theorem dX11_isLine_0 : decode cX11_isLine 0 = .ok (.iload_n 1, 1) := by decide +kernel
theorem dX11_isLine_1 : decode cX11_isLine 1 = .ok (.iconst 0, 1) := by decide +kernel
theorem dX11_isLine_2 : decode cX11_isLine 2 = .ok (.aload_n 0, 1) := by decide +kernel
theorem dX11_isLine_3 : decode cX11_isLine 3 = .ok (.getfield 7, 3) := by decide +kernel
theorem dX11_isLine_6 : decode cX11_isLine 6 = .ok (.iconst 1, 1) := by decide +kernel
theorem dX11_isLine_7 : decode cX11_isLine 7 = .ok (.isub, 1) := by decide +kernel
theorem dX11_isLine_8 : decode cX11_isLine 8 = .ok (.invokestatic 71, 3) := by decide +kernel
theorem dX11_isLine_11 : decode cX11_isLine 11 = .ok (.ireturn, 1) := by decide +kernel
theorem dX11_at_0 : decode cX11_at 0 = .ok (.bipush 6, 2) := by decide +kernel
theorem dX11_at_2 : decode cX11_at 2 = .ok (.iload_n 0, 1) := by decide +kernel
theorem dX11_at_3 : decode cX11_at 3 = .ok (.imul, 1) := by decide +kernel
theorem dX11_at_4 : decode cX11_at 4 = .ok (.iconst 2, 1) := by decide +kernel
theorem dX11_at_5 : decode cX11_at 5 = .ok (.iload_n 1, 1) := by decide +kernel
theorem dX11_at_6 : decode cX11_at 6 = .ok (.imul, 1) := by decide +kernel
theorem dX11_at_7 : decode cX11_at 7 = .ok (.iadd, 1) := by decide +kernel
theorem dX11_at_8 : decode cX11_at 8 = .ok (.iload_n 2, 1) := by decide +kernel
theorem dX11_at_9 : decode cX11_at 9 = .ok (.iadd, 1) := by decide +kernel
theorem dX11_at_10 : decode cX11_at 10 = .ok (.ireturn, 1) := by decide +kernel
theorem dX11_type_0 : decode cX11_type 0 = .ok (.iload_n 1, 1) := by decide +kernel
theorem dX11_type_1 : decode cX11_type 1 = .ok (.iconst 0, 1) := by decide +kernel
theorem dX11_type_2 : decode cX11_type 2 = .ok (.sipush 255, 3) := by decide +kernel
theorem dX11_type_5 : decode cX11_type 5 = .ok (.invokestatic 71, 3) := by decide +kernel
theorem dX11_type_8 : decode cX11_type 8 = .ok (.ifCond .ne 5, 3) := by decide +kernel
theorem dX11_type_11 : decode cX11_type 11 = .ok (.iconst (-1), 1) := by decide +kernel
theorem dX11_type_12 : decode cX11_type 12 = .ok (.ireturn, 1) := by decide +kernel
theorem dX11_type_13 : decode cX11_type 13 = .ok (.aload_n 0, 1) := by decide +kernel
theorem dX11_type_14 : decode cX11_type 14 = .ok (.getfield 78, 3) := by decide +kernel
theorem dX11_type_17 : decode cX11_type 17 = .ok (.sipush 150, 3) := by decide +kernel
theorem dX11_type_20 : decode cX11_type 20 = .ok (.if_icmp .ne 6, 3) := by decide +kernel
theorem dX11_type_23 : decode cX11_type 23 = .ok (.bipush (-3), 2) := by decide +kernel
theorem dX11_type_25 : decode cX11_type 25 = .ok (.ireturn, 1) := by decide +kernel
theorem dX11_type_26 : decode cX11_type 26 = .ok (.aload_n 0, 1) := by decide +kernel
theorem dX11_type_27 : decode cX11_type 27 = .ok (.getfield 32, 3) := by decide +kernel
theorem dX11_type_30 : decode cX11_type 30 = .ok (.aload_n 0, 1) := by decide +kernel
theorem dX11_type_31 : decode cX11_type 31 = .ok (.getfield 78, 3) := by decide +kernel
theorem dX11_type_34 : decode cX11_type 34 = .ok (.iload_n 1, 1) := by decide +kernel
theorem dX11_type_35 : decode cX11_type 35 = .ok (.iastore, 1) := by decide +kernel
theorem dX11_type_36 : decode cX11_type 36 = .ok (.aload_n 0, 1) := by decide +kernel
theorem dX11_type_37 : decode cX11_type 37 = .ok (.dup, 1) := by decide +kernel
theorem dX11_type_38 : decode cX11_type 38 = .ok (.getfield 78, 3) := by decide +kernel
theorem dX11_type_41 : decode cX11_type 41 = .ok (.iconst 1, 1) := by decide +kernel
theorem dX11_type_42 : decode cX11_type 42 = .ok (.iadd, 1) := by decide +kernel
theorem dX11_type_43 : decode cX11_type 43 = .ok (.putfield 78, 3) := by decide +kernel
theorem dX11_type_46 : decode cX11_type 46 = .ok (.aload_n 0, 1) := by decide +kernel
theorem dX11_type_47 : decode cX11_type 47 = .ok (.getfield 78, 3) := by decide +kernel
theorem dX11_type_50 : decode cX11_type 50 = .ok (.ireturn, 1) := by decide +kernel
theorem dX11_clear_0 : decode cX11_clear 0 = .ok (.aload_n 0, 1) := by decide +kernel
theorem dX11_clear_1 : decode cX11_clear 1 = .ok (.getfield 78, 3) := by decide +kernel
theorem dX11_clear_4 : decode cX11_clear 4 = .ok (.istore_n 1, 1) := by decide +kernel
theorem dX11_clear_5 : decode cX11_clear 5 = .ok (.aload_n 0, 1) := by decide +kernel
theorem dX11_clear_6 : decode cX11_clear 6 = .ok (.iconst 0, 1) := by decide +kernel
theorem dX11_clear_7 : decode cX11_clear 7 = .ok (.putfield 78, 3) := by decide +kernel
theorem dX11_clear_10 : decode cX11_clear 10 = .ok (.iload_n 1, 1) := by decide +kernel
theorem dX11_clear_11 : decode cX11_clear 11 = .ok (.ireturn, 1) := by decide +kernel
theorem dX11_here_0 : decode cX11_here 0 = .ok (.aload_n 0, 1) := by decide +kernel
theorem dX11_here_1 : decode cX11_here 1 = .ok (.getfield 81, 3) := by decide +kernel
theorem dX11_here_4 : decode cX11_here 4 = .ok (.aload_n 0, 1) := by decide +kernel
theorem dX11_here_5 : decode cX11_here 5 = .ok (.getfield 78, 3) := by decide +kernel
theorem dX11_here_8 : decode cX11_here 8 = .ok (.if_icmp .ge 15, 3) := by decide +kernel
theorem dX11_here_11 : decode cX11_here 11 = .ok (.aload_n 0, 1) := by decide +kernel
theorem dX11_here_12 : decode cX11_here 12 = .ok (.getfield 32, 3) := by decide +kernel
theorem dX11_here_15 : decode cX11_here 15 = .ok (.aload_n 0, 1) := by decide +kernel
theorem dX11_here_16 : decode cX11_here 16 = .ok (.getfield 81, 3) := by decide +kernel
theorem dX11_here_19 : decode cX11_here 19 = .ok (.iaload, 1) := by decide +kernel
theorem dX11_here_20 : decode cX11_here 20 = .ok (.goto 5, 3) := by decide +kernel
theorem dX11_here_23 : decode cX11_here 23 = .ok (.bipush (-9), 2) := by decide +kernel
theorem dX11_here_25 : decode cX11_here 25 = .ok (.ireturn, 1) := by decide +kernel
theorem dX11_skip_0 : decode cX11_skip 0 = .ok (.aload_n 0, 1) := by decide +kernel
theorem dX11_skip_1 : decode cX11_skip 1 = .ok (.invokevirtual 84, 3) := by decide +kernel
theorem dX11_skip_4 : decode cX11_skip 4 = .ok (.bipush 32, 2) := by decide +kernel
theorem dX11_skip_6 : decode cX11_skip 6 = .ok (.if_icmp .ne 16, 3) := by decide +kernel
theorem dX11_skip_9 : decode cX11_skip 9 = .ok (.aload_n 0, 1) := by decide +kernel
theorem dX11_skip_10 : decode cX11_skip 10 = .ok (.dup, 1) := by decide +kernel
theorem dX11_skip_11 : decode cX11_skip 11 = .ok (.getfield 81, 3) := by decide +kernel
theorem dX11_skip_14 : decode cX11_skip 14 = .ok (.iconst 1, 1) := by decide +kernel
theorem dX11_skip_15 : decode cX11_skip 15 = .ok (.iadd, 1) := by decide +kernel
theorem dX11_skip_16 : decode cX11_skip 16 = .ok (.putfield 81, 3) := by decide +kernel
theorem dX11_skip_19 : decode cX11_skip 19 = .ok (.goto (-19), 3) := by decide +kernel
theorem dX11_skip_22 : decode cX11_skip 22 = .ok (.return_, 1) := by decide +kernel
theorem dX11_isLetter_0 : decode cX11_isLetter 0 = .ok (.iload_n 0, 1) := by decide +kernel
theorem dX11_isLetter_1 : decode cX11_isLetter 1 = .ok (.bipush 97, 2) := by decide +kernel
theorem dX11_isLetter_3 : decode cX11_isLetter 3 = .ok (.bipush 122, 2) := by decide +kernel
theorem dX11_isLetter_5 : decode cX11_isLetter 5 = .ok (.invokestatic 71, 3) := by decide +kernel
theorem dX11_isLetter_8 : decode cX11_isLetter 8 = .ok (.ireturn, 1) := by decide +kernel
theorem dX11_rowSize_0 : decode cX11_rowSize 0 = .ok (.iconst 0, 1) := by decide +kernel
theorem dX11_rowSize_1 : decode cX11_rowSize 1 = .ok (.istore_n 1, 1) := by decide +kernel
theorem dX11_rowSize_2 : decode cX11_rowSize 2 = .ok (.aload_n 0, 1) := by decide +kernel
theorem dX11_rowSize_3 : decode cX11_rowSize 3 = .ok (.getfield 81, 3) := by decide +kernel
theorem dX11_rowSize_6 : decode cX11_rowSize 6 = .ok (.iload_n 1, 1) := by decide +kernel
theorem dX11_rowSize_7 : decode cX11_rowSize 7 = .ok (.iadd, 1) := by decide +kernel
theorem dX11_rowSize_8 : decode cX11_rowSize 8 = .ok (.aload_n 0, 1) := by decide +kernel
theorem dX11_rowSize_9 : decode cX11_rowSize 9 = .ok (.getfield 78, 3) := by decide +kernel
theorem dX11_rowSize_12 : decode cX11_rowSize 12 = .ok (.if_icmp .ge 42, 3) := by decide +kernel
theorem dX11_rowSize_15 : decode cX11_rowSize 15 = .ok (.aload_n 0, 1) := by decide +kernel
theorem dX11_rowSize_16 : decode cX11_rowSize 16 = .ok (.getfield 32, 3) := by decide +kernel
theorem dX11_rowSize_19 : decode cX11_rowSize 19 = .ok (.aload_n 0, 1) := by decide +kernel
theorem dX11_rowSize_20 : decode cX11_rowSize 20 = .ok (.getfield 81, 3) := by decide +kernel
theorem dX11_rowSize_23 : decode cX11_rowSize 23 = .ok (.iload_n 1, 1) := by decide +kernel
theorem dX11_rowSize_24 : decode cX11_rowSize 24 = .ok (.iadd, 1) := by decide +kernel
theorem dX11_rowSize_25 : decode cX11_rowSize 25 = .ok (.iaload, 1) := by decide +kernel
theorem dX11_rowSize_26 : decode cX11_rowSize 26 = .ok (.invokestatic 88, 3) := by decide +kernel
theorem dX11_rowSize_29 : decode cX11_rowSize 29 = .ok (.ifCond .ne 19, 3) := by decide +kernel
theorem dX11_rowSize_32 : decode cX11_rowSize 32 = .ok (.aload_n 0, 1) := by decide +kernel
theorem dX11_rowSize_33 : decode cX11_rowSize 33 = .ok (.getfield 32, 3) := by decide +kernel
theorem dX11_rowSize_36 : decode cX11_rowSize 36 = .ok (.aload_n 0, 1) := by decide +kernel
theorem dX11_rowSize_37 : decode cX11_rowSize 37 = .ok (.getfield 81, 3) := by decide +kernel
theorem dX11_rowSize_40 : decode cX11_rowSize 40 = .ok (.iload_n 1, 1) := by decide +kernel
theorem dX11_rowSize_41 : decode cX11_rowSize 41 = .ok (.iadd, 1) := by decide +kernel
theorem dX11_rowSize_42 : decode cX11_rowSize 42 = .ok (.iaload, 1) := by decide +kernel
theorem dX11_rowSize_43 : decode cX11_rowSize 43 = .ok (.bipush 46, 2) := by decide +kernel
theorem dX11_rowSize_45 : decode cX11_rowSize 45 = .ok (.if_icmp .ne 9, 3) := by decide +kernel
theorem dX11_rowSize_48 : decode cX11_rowSize 48 = .ok (.iinc 1 1, 3) := by decide +kernel
theorem dX11_rowSize_51 : decode cX11_rowSize 51 = .ok (.goto (-49), 3) := by decide +kernel
theorem dX11_rowSize_54 : decode cX11_rowSize 54 = .ok (.iload_n 1, 1) := by decide +kernel
theorem dX11_rowSize_55 : decode cX11_rowSize 55 = .ok (.ireturn, 1) := by decide +kernel
theorem dX11_ends_0 : decode cX11_ends 0 = .ok (.aload_n 0, 1) := by decide +kernel
theorem dX11_ends_1 : decode cX11_ends 1 = .ok (.invokevirtual 92, 3) := by decide +kernel
theorem dX11_ends_4 : decode cX11_ends 4 = .ok (.aload_n 0, 1) := by decide +kernel
theorem dX11_ends_5 : decode cX11_ends 5 = .ok (.invokevirtual 84, 3) := by decide +kernel
theorem dX11_ends_8 : decode cX11_ends 8 = .ok (.bipush 59, 2) := by decide +kernel
theorem dX11_ends_10 : decode cX11_ends 10 = .ok (.if_icmp .eq 5, 3) := by decide +kernel
theorem dX11_ends_13 : decode cX11_ends 13 = .ok (.iconst 0, 1) := by decide +kernel
theorem dX11_ends_14 : decode cX11_ends 14 = .ok (.ireturn, 1) := by decide +kernel
theorem dX11_ends_15 : decode cX11_ends 15 = .ok (.aload_n 0, 1) := by decide +kernel
theorem dX11_ends_16 : decode cX11_ends 16 = .ok (.dup, 1) := by decide +kernel
theorem dX11_ends_17 : decode cX11_ends 17 = .ok (.getfield 81, 3) := by decide +kernel
theorem dX11_ends_20 : decode cX11_ends 20 = .ok (.iconst 1, 1) := by decide +kernel
theorem dX11_ends_21 : decode cX11_ends 21 = .ok (.iadd, 1) := by decide +kernel
theorem dX11_ends_22 : decode cX11_ends 22 = .ok (.putfield 81, 3) := by decide +kernel
theorem dX11_ends_25 : decode cX11_ends 25 = .ok (.iconst 1, 1) := by decide +kernel
theorem dX11_ends_26 : decode cX11_ends 26 = .ok (.ireturn, 1) := by decide +kernel
theorem dX11_readsLines_0 : decode cX11_readsLines 0 = .ok (.aload_n 0, 1) := by decide +kernel
theorem dX11_readsLines_1 : decode cX11_readsLines 1 = .ok (.invokevirtual 92, 3) := by decide +kernel
theorem dX11_readsLines_4 : decode cX11_readsLines 4 = .ok (.aload_n 0, 1) := by decide +kernel
theorem dX11_readsLines_5 : decode cX11_readsLines 5 = .ok (.getfield 81, 3) := by decide +kernel
theorem dX11_readsLines_8 : decode cX11_readsLines 8 = .ok (.iconst 1, 1) := by decide +kernel
theorem dX11_readsLines_9 : decode cX11_readsLines 9 = .ok (.iadd, 1) := by decide +kernel
theorem dX11_readsLines_10 : decode cX11_readsLines 10 = .ok (.aload_n 0, 1) := by decide +kernel
theorem dX11_readsLines_11 : decode cX11_readsLines 11 = .ok (.getfield 78, 3) := by decide +kernel
theorem dX11_readsLines_14 : decode cX11_readsLines 14 = .ok (.if_icmp .ge 28, 3) := by decide +kernel
theorem dX11_readsLines_17 : decode cX11_readsLines 17 = .ok (.aload_n 0, 1) := by decide +kernel
theorem dX11_readsLines_18 : decode cX11_readsLines 18 = .ok (.getfield 32, 3) := by decide +kernel
theorem dX11_readsLines_21 : decode cX11_readsLines 21 = .ok (.aload_n 0, 1) := by decide +kernel
theorem dX11_readsLines_22 : decode cX11_readsLines 22 = .ok (.getfield 81, 3) := by decide +kernel
theorem dX11_readsLines_25 : decode cX11_readsLines 25 = .ok (.iconst 1, 1) := by decide +kernel
theorem dX11_readsLines_26 : decode cX11_readsLines 26 = .ok (.iadd, 1) := by decide +kernel
theorem dX11_readsLines_27 : decode cX11_readsLines 27 = .ok (.iaload, 1) := by decide +kernel
theorem dX11_readsLines_28 : decode cX11_readsLines 28 = .ok (.bipush 48, 2) := by decide +kernel
theorem dX11_readsLines_30 : decode cX11_readsLines 30 = .ok (.bipush 57, 2) := by decide +kernel
theorem dX11_readsLines_32 : decode cX11_readsLines 32 = .ok (.invokestatic 71, 3) := by decide +kernel
theorem dX11_readsLines_35 : decode cX11_readsLines 35 = .ok (.ifCond .eq 7, 3) := by decide +kernel
theorem dX11_readsLines_38 : decode cX11_readsLines 38 = .ok (.iconst 1, 1) := by decide +kernel
theorem dX11_readsLines_39 : decode cX11_readsLines 39 = .ok (.goto 4, 3) := by decide +kernel
theorem dX11_readsLines_42 : decode cX11_readsLines 42 = .ok (.iconst 0, 1) := by decide +kernel
theorem dX11_readsLines_43 : decode cX11_readsLines 43 = .ok (.istore_n 1, 1) := by decide +kernel
theorem dX11_readsLines_44 : decode cX11_readsLines 44 = .ok (.iload_n 1, 1) := by decide +kernel
theorem dX11_readsLines_45 : decode cX11_readsLines 45 = .ok (.ifCond .ne 17, 3) := by decide +kernel
theorem dX11_readsLines_48 : decode cX11_readsLines 48 = .ok (.aload_n 0, 1) := by decide +kernel
theorem dX11_readsLines_49 : decode cX11_readsLines 49 = .ok (.invokevirtual 84, 3) := by decide +kernel
theorem dX11_readsLines_52 : decode cX11_readsLines 52 = .ok (.bipush 49, 2) := by decide +kernel
theorem dX11_readsLines_54 : decode cX11_readsLines 54 = .ok (.bipush 51, 2) := by decide +kernel
theorem dX11_readsLines_56 : decode cX11_readsLines 56 = .ok (.invokestatic 71, 3) := by decide +kernel
theorem dX11_readsLines_59 : decode cX11_readsLines 59 = .ok (.ifCond .ne 5, 3) := by decide +kernel
theorem dX11_readsLines_62 : decode cX11_readsLines 62 = .ok (.iconst 0, 1) := by decide +kernel
theorem dX11_readsLines_63 : decode cX11_readsLines 63 = .ok (.ireturn, 1) := by decide +kernel
theorem dX11_readsLines_64 : decode cX11_readsLines 64 = .ok (.aload_n 0, 1) := by decide +kernel
theorem dX11_readsLines_65 : decode cX11_readsLines 65 = .ok (.aload_n 0, 1) := by decide +kernel
theorem dX11_readsLines_66 : decode cX11_readsLines 66 = .ok (.invokevirtual 84, 3) := by decide +kernel
theorem dX11_readsLines_69 : decode cX11_readsLines 69 = .ok (.bipush 48, 2) := by decide +kernel
theorem dX11_readsLines_71 : decode cX11_readsLines 71 = .ok (.isub, 1) := by decide +kernel
theorem dX11_readsLines_72 : decode cX11_readsLines 72 = .ok (.putfield 95, 3) := by decide +kernel
theorem dX11_readsLines_75 : decode cX11_readsLines 75 = .ok (.aload_n 0, 1) := by decide +kernel
theorem dX11_readsLines_76 : decode cX11_readsLines 76 = .ok (.dup, 1) := by decide +kernel
theorem dX11_readsLines_77 : decode cX11_readsLines 77 = .ok (.getfield 81, 3) := by decide +kernel
theorem dX11_readsLines_80 : decode cX11_readsLines 80 = .ok (.iconst 1, 1) := by decide +kernel
theorem dX11_readsLines_81 : decode cX11_readsLines 81 = .ok (.iadd, 1) := by decide +kernel
theorem dX11_readsLines_82 : decode cX11_readsLines 82 = .ok (.putfield 81, 3) := by decide +kernel
theorem dX11_readsLines_85 : decode cX11_readsLines 85 = .ok (.aload_n 0, 1) := by decide +kernel
theorem dX11_readsLines_86 : decode cX11_readsLines 86 = .ok (.invokevirtual 98, 3) := by decide +kernel
theorem dX11_readsLines_89 : decode cX11_readsLines 89 = .ok (.ireturn, 1) := by decide +kernel
theorem dX11_readsStrip_0 : decode cX11_readsStrip 0 = .ok (.iconst 0, 1) := by decide +kernel
theorem dX11_readsStrip_1 : decode cX11_readsStrip 1 = .ok (.istore_n 1, 1) := by decide +kernel
theorem dX11_readsStrip_2 : decode cX11_readsStrip 2 = .ok (.iload_n 1, 1) := by decide +kernel
theorem dX11_readsStrip_3 : decode cX11_readsStrip 3 = .ok (.aload_n 0, 1) := by decide +kernel
theorem dX11_readsStrip_4 : decode cX11_readsStrip 4 = .ok (.getfield 95, 3) := by decide +kernel
theorem dX11_readsStrip_7 : decode cX11_readsStrip 7 = .ok (.if_icmp .ge 81, 3) := by decide +kernel
theorem dX11_readsStrip_10 : decode cX11_readsStrip 10 = .ok (.aload_n 0, 1) := by decide +kernel
theorem dX11_readsStrip_11 : decode cX11_readsStrip 11 = .ok (.invokevirtual 92, 3) := by decide +kernel
theorem dX11_readsStrip_14 : decode cX11_readsStrip 14 = .ok (.aload_n 0, 1) := by decide +kernel
theorem dX11_readsStrip_15 : decode cX11_readsStrip 15 = .ok (.invokevirtual 102, 3) := by decide +kernel
theorem dX11_readsStrip_18 : decode cX11_readsStrip 18 = .ok (.iconst 2, 1) := by decide +kernel
theorem dX11_readsStrip_19 : decode cX11_readsStrip 19 = .ok (.if_icmp .eq 5, 3) := by decide +kernel
theorem dX11_readsStrip_22 : decode cX11_readsStrip 22 = .ok (.iconst 0, 1) := by decide +kernel
theorem dX11_readsStrip_23 : decode cX11_readsStrip 23 = .ok (.ireturn, 1) := by decide +kernel
theorem dX11_readsStrip_24 : decode cX11_readsStrip 24 = .ok (.aload_n 0, 1) := by decide +kernel
theorem dX11_readsStrip_25 : decode cX11_readsStrip 25 = .ok (.getfield 35, 3) := by decide +kernel
theorem dX11_readsStrip_28 : decode cX11_readsStrip 28 = .ok (.aload_n 0, 1) := by decide +kernel
theorem dX11_readsStrip_29 : decode cX11_readsStrip 29 = .ok (.getfield 105, 3) := by decide +kernel
theorem dX11_readsStrip_32 : decode cX11_readsStrip 32 = .ok (.iload_n 1, 1) := by decide +kernel
theorem dX11_readsStrip_33 : decode cX11_readsStrip 33 = .ok (.iconst 0, 1) := by decide +kernel
theorem dX11_readsStrip_34 : decode cX11_readsStrip 34 = .ok (.invokestatic 108, 3) := by decide +kernel
theorem dX11_readsStrip_37 : decode cX11_readsStrip 37 = .ok (.aload_n 0, 1) := by decide +kernel
theorem dX11_readsStrip_38 : decode cX11_readsStrip 38 = .ok (.getfield 32, 3) := by decide +kernel
theorem dX11_readsStrip_41 : decode cX11_readsStrip 41 = .ok (.aload_n 0, 1) := by decide +kernel
theorem dX11_readsStrip_42 : decode cX11_readsStrip 42 = .ok (.getfield 81, 3) := by decide +kernel
theorem dX11_readsStrip_45 : decode cX11_readsStrip 45 = .ok (.iaload, 1) := by decide +kernel
theorem dX11_readsStrip_46 : decode cX11_readsStrip 46 = .ok (.iastore, 1) := by decide +kernel
theorem dX11_readsStrip_47 : decode cX11_readsStrip 47 = .ok (.aload_n 0, 1) := by decide +kernel
theorem dX11_readsStrip_48 : decode cX11_readsStrip 48 = .ok (.getfield 35, 3) := by decide +kernel
theorem dX11_readsStrip_51 : decode cX11_readsStrip 51 = .ok (.aload_n 0, 1) := by decide +kernel
theorem dX11_readsStrip_52 : decode cX11_readsStrip 52 = .ok (.getfield 105, 3) := by decide +kernel
theorem dX11_readsStrip_55 : decode cX11_readsStrip 55 = .ok (.iload_n 1, 1) := by decide +kernel
theorem dX11_readsStrip_56 : decode cX11_readsStrip 56 = .ok (.iconst 1, 1) := by decide +kernel
theorem dX11_readsStrip_57 : decode cX11_readsStrip 57 = .ok (.invokestatic 108, 3) := by decide +kernel
theorem dX11_readsStrip_60 : decode cX11_readsStrip 60 = .ok (.aload_n 0, 1) := by decide +kernel
theorem dX11_readsStrip_61 : decode cX11_readsStrip 61 = .ok (.getfield 32, 3) := by decide +kernel
theorem dX11_readsStrip_64 : decode cX11_readsStrip 64 = .ok (.aload_n 0, 1) := by decide +kernel
theorem dX11_readsStrip_65 : decode cX11_readsStrip 65 = .ok (.getfield 81, 3) := by decide +kernel
theorem dX11_readsStrip_68 : decode cX11_readsStrip 68 = .ok (.iconst 1, 1) := by decide +kernel
theorem dX11_readsStrip_69 : decode cX11_readsStrip 69 = .ok (.iadd, 1) := by decide +kernel
theorem dX11_readsStrip_70 : decode cX11_readsStrip 70 = .ok (.iaload, 1) := by decide +kernel
theorem dX11_readsStrip_71 : decode cX11_readsStrip 71 = .ok (.iastore, 1) := by decide +kernel
theorem dX11_readsStrip_72 : decode cX11_readsStrip 72 = .ok (.aload_n 0, 1) := by decide +kernel
theorem dX11_readsStrip_73 : decode cX11_readsStrip 73 = .ok (.dup, 1) := by decide +kernel
theorem dX11_readsStrip_74 : decode cX11_readsStrip 74 = .ok (.getfield 81, 3) := by decide +kernel
theorem dX11_readsStrip_77 : decode cX11_readsStrip 77 = .ok (.iconst 2, 1) := by decide +kernel
theorem dX11_readsStrip_78 : decode cX11_readsStrip 78 = .ok (.iadd, 1) := by decide +kernel
theorem dX11_readsStrip_79 : decode cX11_readsStrip 79 = .ok (.putfield 81, 3) := by decide +kernel
theorem dX11_readsStrip_82 : decode cX11_readsStrip 82 = .ok (.iinc 1 1, 3) := by decide +kernel
theorem dX11_readsStrip_85 : decode cX11_readsStrip 85 = .ok (.goto (-83), 3) := by decide +kernel
theorem dX11_readsStrip_88 : decode cX11_readsStrip 88 = .ok (.aload_n 0, 1) := by decide +kernel
theorem dX11_readsStrip_89 : decode cX11_readsStrip 89 = .ok (.dup, 1) := by decide +kernel
theorem dX11_readsStrip_90 : decode cX11_readsStrip 90 = .ok (.getfield 105, 3) := by decide +kernel
theorem dX11_readsStrip_93 : decode cX11_readsStrip 93 = .ok (.iconst 1, 1) := by decide +kernel
theorem dX11_readsStrip_94 : decode cX11_readsStrip 94 = .ok (.iadd, 1) := by decide +kernel
theorem dX11_readsStrip_95 : decode cX11_readsStrip 95 = .ok (.putfield 105, 3) := by decide +kernel
theorem dX11_readsStrip_98 : decode cX11_readsStrip 98 = .ok (.aload_n 0, 1) := by decide +kernel
theorem dX11_readsStrip_99 : decode cX11_readsStrip 99 = .ok (.invokevirtual 98, 3) := by decide +kernel
theorem dX11_readsStrip_102 : decode cX11_readsStrip 102 = .ok (.ireturn, 1) := by decide +kernel
theorem dX11_readsWord_0 : decode cX11_readsWord 0 = .ok (.aload_n 0, 1) := by decide +kernel
theorem dX11_readsWord_1 : decode cX11_readsWord 1 = .ok (.invokevirtual 92, 3) := by decide +kernel
theorem dX11_readsWord_4 : decode cX11_readsWord 4 = .ok (.aload_n 0, 1) := by decide +kernel
theorem dX11_readsWord_5 : decode cX11_readsWord 5 = .ok (.invokevirtual 102, 3) := by decide +kernel
theorem dX11_readsWord_8 : decode cX11_readsWord 8 = .ok (.istore_n 1, 1) := by decide +kernel
theorem dX11_readsWord_9 : decode cX11_readsWord 9 = .ok (.iload_n 1, 1) := by decide +kernel
theorem dX11_readsWord_10 : decode cX11_readsWord 10 = .ok (.iconst 1, 1) := by decide +kernel
theorem dX11_readsWord_11 : decode cX11_readsWord 11 = .ok (.bipush 6, 2) := by decide +kernel
theorem dX11_readsWord_13 : decode cX11_readsWord 13 = .ok (.invokestatic 71, 3) := by decide +kernel
theorem dX11_readsWord_16 : decode cX11_readsWord 16 = .ok (.istore_n 2, 1) := by decide +kernel
theorem dX11_readsWord_17 : decode cX11_readsWord 17 = .ok (.iconst 0, 1) := by decide +kernel
theorem dX11_readsWord_18 : decode cX11_readsWord 18 = .ok (.istore_n 3, 1) := by decide +kernel
theorem dX11_readsWord_19 : decode cX11_readsWord 19 = .ok (.iload_n 3, 1) := by decide +kernel
theorem dX11_readsWord_20 : decode cX11_readsWord 20 = .ok (.iload_n 1, 1) := by decide +kernel
theorem dX11_readsWord_21 : decode cX11_readsWord 21 = .ok (.if_icmp .ge 28, 3) := by decide +kernel
theorem dX11_readsWord_24 : decode cX11_readsWord 24 = .ok (.iload_n 2, 1) := by decide +kernel
theorem dX11_readsWord_25 : decode cX11_readsWord 25 = .ok (.ifCond .eq 24, 3) := by decide +kernel
theorem dX11_readsWord_28 : decode cX11_readsWord 28 = .ok (.aload_n 0, 1) := by decide +kernel
theorem dX11_readsWord_29 : decode cX11_readsWord 29 = .ok (.getfield 32, 3) := by decide +kernel
theorem dX11_readsWord_32 : decode cX11_readsWord 32 = .ok (.aload_n 0, 1) := by decide +kernel
theorem dX11_readsWord_33 : decode cX11_readsWord 33 = .ok (.getfield 81, 3) := by decide +kernel
theorem dX11_readsWord_36 : decode cX11_readsWord 36 = .ok (.iload_n 3, 1) := by decide +kernel
theorem dX11_readsWord_37 : decode cX11_readsWord 37 = .ok (.iadd, 1) := by decide +kernel
theorem dX11_readsWord_38 : decode cX11_readsWord 38 = .ok (.iaload, 1) := by decide +kernel
theorem dX11_readsWord_39 : decode cX11_readsWord 39 = .ok (.invokestatic 88, 3) := by decide +kernel
theorem dX11_readsWord_42 : decode cX11_readsWord 42 = .ok (.istore_n 2, 1) := by decide +kernel
theorem dX11_readsWord_43 : decode cX11_readsWord 43 = .ok (.iinc 3 1, 3) := by decide +kernel
theorem dX11_readsWord_46 : decode cX11_readsWord 46 = .ok (.goto (-27), 3) := by decide +kernel
theorem dX11_readsWord_49 : decode cX11_readsWord 49 = .ok (.iload_n 2, 1) := by decide +kernel
theorem dX11_readsWord_50 : decode cX11_readsWord 50 = .ok (.ifCond .ne 5, 3) := by decide +kernel
theorem dX11_readsWord_53 : decode cX11_readsWord 53 = .ok (.iconst 0, 1) := by decide +kernel
theorem dX11_readsWord_54 : decode cX11_readsWord 54 = .ok (.ireturn, 1) := by decide +kernel
theorem dX11_readsWord_55 : decode cX11_readsWord 55 = .ok (.iconst 0, 1) := by decide +kernel
theorem dX11_readsWord_56 : decode cX11_readsWord 56 = .ok (.istore_n 3, 1) := by decide +kernel
theorem dX11_readsWord_57 : decode cX11_readsWord 57 = .ok (.iload_n 3, 1) := by decide +kernel
theorem dX11_readsWord_58 : decode cX11_readsWord 58 = .ok (.iload_n 1, 1) := by decide +kernel
theorem dX11_readsWord_59 : decode cX11_readsWord 59 = .ok (.if_icmp .ge 34, 3) := by decide +kernel
theorem dX11_readsWord_62 : decode cX11_readsWord 62 = .ok (.aload_n 0, 1) := by decide +kernel
theorem dX11_readsWord_63 : decode cX11_readsWord 63 = .ok (.getfield 38, 3) := by decide +kernel
theorem dX11_readsWord_66 : decode cX11_readsWord 66 = .ok (.bipush 6, 2) := by decide +kernel
theorem dX11_readsWord_68 : decode cX11_readsWord 68 = .ok (.aload_n 0, 1) := by decide +kernel
theorem dX11_readsWord_69 : decode cX11_readsWord 69 = .ok (.getfield 112, 3) := by decide +kernel
theorem dX11_readsWord_72 : decode cX11_readsWord 72 = .ok (.imul, 1) := by decide +kernel
theorem dX11_readsWord_73 : decode cX11_readsWord 73 = .ok (.iload_n 3, 1) := by decide +kernel
theorem dX11_readsWord_74 : decode cX11_readsWord 74 = .ok (.iadd, 1) := by decide +kernel
theorem dX11_readsWord_75 : decode cX11_readsWord 75 = .ok (.aload_n 0, 1) := by decide +kernel
theorem dX11_readsWord_76 : decode cX11_readsWord 76 = .ok (.getfield 32, 3) := by decide +kernel
theorem dX11_readsWord_79 : decode cX11_readsWord 79 = .ok (.aload_n 0, 1) := by decide +kernel
theorem dX11_readsWord_80 : decode cX11_readsWord 80 = .ok (.getfield 81, 3) := by decide +kernel
theorem dX11_readsWord_83 : decode cX11_readsWord 83 = .ok (.iload_n 3, 1) := by decide +kernel
theorem dX11_readsWord_84 : decode cX11_readsWord 84 = .ok (.iadd, 1) := by decide +kernel
theorem dX11_readsWord_85 : decode cX11_readsWord 85 = .ok (.iaload, 1) := by decide +kernel
theorem dX11_readsWord_86 : decode cX11_readsWord 86 = .ok (.iastore, 1) := by decide +kernel
theorem dX11_readsWord_87 : decode cX11_readsWord 87 = .ok (.iinc 3 1, 3) := by decide +kernel
theorem dX11_readsWord_90 : decode cX11_readsWord 90 = .ok (.goto (-33), 3) := by decide +kernel
theorem dX11_readsWord_93 : decode cX11_readsWord 93 = .ok (.aload_n 0, 1) := by decide +kernel
theorem dX11_readsWord_94 : decode cX11_readsWord 94 = .ok (.getfield 41, 3) := by decide +kernel
theorem dX11_readsWord_97 : decode cX11_readsWord 97 = .ok (.aload_n 0, 1) := by decide +kernel
theorem dX11_readsWord_98 : decode cX11_readsWord 98 = .ok (.getfield 112, 3) := by decide +kernel
theorem dX11_readsWord_101 : decode cX11_readsWord 101 = .ok (.iload_n 1, 1) := by decide +kernel
theorem dX11_readsWord_102 : decode cX11_readsWord 102 = .ok (.iastore, 1) := by decide +kernel
theorem dX11_readsWord_103 : decode cX11_readsWord 103 = .ok (.aload_n 0, 1) := by decide +kernel
theorem dX11_readsWord_104 : decode cX11_readsWord 104 = .ok (.dup, 1) := by decide +kernel
theorem dX11_readsWord_105 : decode cX11_readsWord 105 = .ok (.getfield 112, 3) := by decide +kernel
theorem dX11_readsWord_108 : decode cX11_readsWord 108 = .ok (.iconst 1, 1) := by decide +kernel
theorem dX11_readsWord_109 : decode cX11_readsWord 109 = .ok (.iadd, 1) := by decide +kernel
theorem dX11_readsWord_110 : decode cX11_readsWord 110 = .ok (.putfield 112, 3) := by decide +kernel
theorem dX11_readsWord_113 : decode cX11_readsWord 113 = .ok (.aload_n 0, 1) := by decide +kernel
theorem dX11_readsWord_114 : decode cX11_readsWord 114 = .ok (.dup, 1) := by decide +kernel
theorem dX11_readsWord_115 : decode cX11_readsWord 115 = .ok (.getfield 81, 3) := by decide +kernel
theorem dX11_readsWord_118 : decode cX11_readsWord 118 = .ok (.iload_n 1, 1) := by decide +kernel
theorem dX11_readsWord_119 : decode cX11_readsWord 119 = .ok (.iadd, 1) := by decide +kernel
theorem dX11_readsWord_120 : decode cX11_readsWord 120 = .ok (.putfield 81, 3) := by decide +kernel
theorem dX11_readsWord_123 : decode cX11_readsWord 123 = .ok (.aload_n 0, 1) := by decide +kernel
theorem dX11_readsWord_124 : decode cX11_readsWord 124 = .ok (.invokevirtual 98, 3) := by decide +kernel
theorem dX11_readsWord_127 : decode cX11_readsWord 127 = .ok (.ireturn, 1) := by decide +kernel
theorem dX11_readsItem_0 : decode cX11_readsItem 0 = .ok (.aload_n 0, 1) := by decide +kernel
theorem dX11_readsItem_1 : decode cX11_readsItem 1 = .ok (.invokevirtual 102, 3) := by decide +kernel
theorem dX11_readsItem_4 : decode cX11_readsItem 4 = .ok (.iconst 1, 1) := by decide +kernel
theorem dX11_readsItem_5 : decode cX11_readsItem 5 = .ok (.if_icmp .ne 10, 3) := by decide +kernel
theorem dX11_readsItem_8 : decode cX11_readsItem 8 = .ok (.aload_n 0, 1) := by decide +kernel
theorem dX11_readsItem_9 : decode cX11_readsItem 9 = .ok (.invokevirtual 84, 3) := by decide +kernel
theorem dX11_readsItem_12 : decode cX11_readsItem 12 = .ok (.goto 5, 3) := by decide +kernel
theorem dX11_readsItem_15 : decode cX11_readsItem 15 = .ok (.bipush (-9), 2) := by decide +kernel
theorem dX11_readsItem_17 : decode cX11_readsItem 17 = .ok (.istore_n 1, 1) := by decide +kernel
theorem dX11_readsItem_18 : decode cX11_readsItem 18 = .ok (.iload_n 1, 1) := by decide +kernel
theorem dX11_readsItem_19 : decode cX11_readsItem 19 = .ok (.bipush 110, 2) := by decide +kernel
theorem dX11_readsItem_21 : decode cX11_readsItem 21 = .ok (.if_icmp .ne 18, 3) := by decide +kernel
theorem dX11_readsItem_24 : decode cX11_readsItem 24 = .ok (.aload_n 0, 1) := by decide +kernel
theorem dX11_readsItem_25 : decode cX11_readsItem 25 = .ok (.getfield 115, 3) := by decide +kernel
theorem dX11_readsItem_28 : decode cX11_readsItem 28 = .ok (.ifCond .ne 7, 3) := by decide +kernel
theorem dX11_readsItem_31 : decode cX11_readsItem 31 = .ok (.iconst 1, 1) := by decide +kernel
theorem dX11_readsItem_32 : decode cX11_readsItem 32 = .ok (.goto 50, 3) := by decide +kernel
theorem dX11_readsItem_35 : decode cX11_readsItem 35 = .ok (.iconst 0, 1) := by decide +kernel
theorem dX11_readsItem_36 : decode cX11_readsItem 36 = .ok (.goto 46, 3) := by decide +kernel
theorem dX11_readsItem_39 : decode cX11_readsItem 39 = .ok (.iload_n 1, 1) := by decide +kernel
theorem dX11_readsItem_40 : decode cX11_readsItem 40 = .ok (.bipush 115, 2) := by decide +kernel
theorem dX11_readsItem_42 : decode cX11_readsItem 42 = .ok (.if_icmp .ne 20, 3) := by decide +kernel
theorem dX11_readsItem_45 : decode cX11_readsItem 45 = .ok (.aload_n 0, 1) := by decide +kernel
theorem dX11_readsItem_46 : decode cX11_readsItem 46 = .ok (.getfield 105, 3) := by decide +kernel
theorem dX11_readsItem_49 : decode cX11_readsItem 49 = .ok (.bipush 6, 2) := by decide +kernel
theorem dX11_readsItem_51 : decode cX11_readsItem 51 = .ok (.if_icmp .ge 7, 3) := by decide +kernel
theorem dX11_readsItem_54 : decode cX11_readsItem 54 = .ok (.iconst 1, 1) := by decide +kernel
theorem dX11_readsItem_55 : decode cX11_readsItem 55 = .ok (.goto 27, 3) := by decide +kernel
theorem dX11_readsItem_58 : decode cX11_readsItem 58 = .ok (.iconst 0, 1) := by decide +kernel
theorem dX11_readsItem_59 : decode cX11_readsItem 59 = .ok (.goto 23, 3) := by decide +kernel
theorem dX11_readsItem_62 : decode cX11_readsItem 62 = .ok (.iload_n 1, 1) := by decide +kernel
theorem dX11_readsItem_63 : decode cX11_readsItem 63 = .ok (.bipush 119, 2) := by decide +kernel
theorem dX11_readsItem_65 : decode cX11_readsItem 65 = .ok (.if_icmp .ne 16, 3) := by decide +kernel
theorem dX11_readsItem_68 : decode cX11_readsItem 68 = .ok (.aload_n 0, 1) := by decide +kernel
theorem dX11_readsItem_69 : decode cX11_readsItem 69 = .ok (.getfield 112, 3) := by decide +kernel
theorem dX11_readsItem_72 : decode cX11_readsItem 72 = .ok (.bipush 8, 2) := by decide +kernel
theorem dX11_readsItem_74 : decode cX11_readsItem 74 = .ok (.if_icmp .ge 7, 3) := by decide +kernel
theorem dX11_readsItem_77 : decode cX11_readsItem 77 = .ok (.iconst 1, 1) := by decide +kernel
theorem dX11_readsItem_78 : decode cX11_readsItem 78 = .ok (.goto 4, 3) := by decide +kernel
theorem dX11_readsItem_81 : decode cX11_readsItem 81 = .ok (.iconst 0, 1) := by decide +kernel
theorem dX11_readsItem_82 : decode cX11_readsItem 82 = .ok (.istore_n 2, 1) := by decide +kernel
theorem dX11_readsItem_83 : decode cX11_readsItem 83 = .ok (.iload_n 2, 1) := by decide +kernel
theorem dX11_readsItem_84 : decode cX11_readsItem 84 = .ok (.ifCond .ne 5, 3) := by decide +kernel
theorem dX11_readsItem_87 : decode cX11_readsItem 87 = .ok (.iconst 0, 1) := by decide +kernel
theorem dX11_readsItem_88 : decode cX11_readsItem 88 = .ok (.ireturn, 1) := by decide +kernel
theorem dX11_readsItem_89 : decode cX11_readsItem 89 = .ok (.aload_n 0, 1) := by decide +kernel
theorem dX11_readsItem_90 : decode cX11_readsItem 90 = .ok (.dup, 1) := by decide +kernel
theorem dX11_readsItem_91 : decode cX11_readsItem 91 = .ok (.getfield 81, 3) := by decide +kernel
theorem dX11_readsItem_94 : decode cX11_readsItem 94 = .ok (.iconst 1, 1) := by decide +kernel
theorem dX11_readsItem_95 : decode cX11_readsItem 95 = .ok (.iadd, 1) := by decide +kernel
theorem dX11_readsItem_96 : decode cX11_readsItem 96 = .ok (.putfield 81, 3) := by decide +kernel
theorem dX11_readsItem_99 : decode cX11_readsItem 99 = .ok (.aload_n 0, 1) := by decide +kernel
theorem dX11_readsItem_100 : decode cX11_readsItem 100 = .ok (.dup, 1) := by decide +kernel
theorem dX11_readsItem_101 : decode cX11_readsItem 101 = .ok (.getfield 115, 3) := by decide +kernel
theorem dX11_readsItem_104 : decode cX11_readsItem 104 = .ok (.iconst 1, 1) := by decide +kernel
theorem dX11_readsItem_105 : decode cX11_readsItem 105 = .ok (.iadd, 1) := by decide +kernel
theorem dX11_readsItem_106 : decode cX11_readsItem 106 = .ok (.putfield 115, 3) := by decide +kernel
theorem dX11_readsItem_109 : decode cX11_readsItem 109 = .ok (.iload_n 1, 1) := by decide +kernel
theorem dX11_readsItem_110 : decode cX11_readsItem 110 = .ok (.bipush 110, 2) := by decide +kernel
theorem dX11_readsItem_112 : decode cX11_readsItem 112 = .ok (.if_icmp .ne 10, 3) := by decide +kernel
theorem dX11_readsItem_115 : decode cX11_readsItem 115 = .ok (.aload_n 0, 1) := by decide +kernel
theorem dX11_readsItem_116 : decode cX11_readsItem 116 = .ok (.invokevirtual 118, 3) := by decide +kernel
theorem dX11_readsItem_119 : decode cX11_readsItem 119 = .ok (.goto 20, 3) := by decide +kernel
theorem dX11_readsItem_122 : decode cX11_readsItem 122 = .ok (.iload_n 1, 1) := by decide +kernel
theorem dX11_readsItem_123 : decode cX11_readsItem 123 = .ok (.bipush 115, 2) := by decide +kernel
theorem dX11_readsItem_125 : decode cX11_readsItem 125 = .ok (.if_icmp .ne 10, 3) := by decide +kernel
theorem dX11_readsItem_128 : decode cX11_readsItem 128 = .ok (.aload_n 0, 1) := by decide +kernel
theorem dX11_readsItem_129 : decode cX11_readsItem 129 = .ok (.invokevirtual 121, 3) := by decide +kernel
theorem dX11_readsItem_132 : decode cX11_readsItem 132 = .ok (.goto 7, 3) := by decide +kernel
theorem dX11_readsItem_135 : decode cX11_readsItem 135 = .ok (.aload_n 0, 1) := by decide +kernel
theorem dX11_readsItem_136 : decode cX11_readsItem 136 = .ok (.invokevirtual 124, 3) := by decide +kernel
theorem dX11_readsItem_139 : decode cX11_readsItem 139 = .ok (.ireturn, 1) := by decide +kernel
theorem dX11_page_0 : decode cX11_page 0 = .ok (.aload_n 0, 1) := by decide +kernel
theorem dX11_page_1 : decode cX11_page 1 = .ok (.iconst 0, 1) := by decide +kernel
theorem dX11_page_2 : decode cX11_page 2 = .ok (.putfield 81, 3) := by decide +kernel
theorem dX11_page_5 : decode cX11_page 5 = .ok (.aload_n 0, 1) := by decide +kernel
theorem dX11_page_6 : decode cX11_page 6 = .ok (.iconst 2, 1) := by decide +kernel
theorem dX11_page_7 : decode cX11_page 7 = .ok (.putfield 95, 3) := by decide +kernel
theorem dX11_page_10 : decode cX11_page 10 = .ok (.aload_n 0, 1) := by decide +kernel
theorem dX11_page_11 : decode cX11_page 11 = .ok (.iconst 0, 1) := by decide +kernel
theorem dX11_page_12 : decode cX11_page 12 = .ok (.putfield 105, 3) := by decide +kernel
theorem dX11_page_15 : decode cX11_page 15 = .ok (.aload_n 0, 1) := by decide +kernel
theorem dX11_page_16 : decode cX11_page 16 = .ok (.iconst 0, 1) := by decide +kernel
theorem dX11_page_17 : decode cX11_page 17 = .ok (.putfield 112, 3) := by decide +kernel
theorem dX11_page_20 : decode cX11_page 20 = .ok (.aload_n 0, 1) := by decide +kernel
theorem dX11_page_21 : decode cX11_page 21 = .ok (.iconst 0, 1) := by decide +kernel
theorem dX11_page_22 : decode cX11_page 22 = .ok (.putfield 115, 3) := by decide +kernel
theorem dX11_page_25 : decode cX11_page 25 = .ok (.aload_n 0, 1) := by decide +kernel
theorem dX11_page_26 : decode cX11_page 26 = .ok (.invokevirtual 92, 3) := by decide +kernel
theorem dX11_page_29 : decode cX11_page 29 = .ok (.aload_n 0, 1) := by decide +kernel
theorem dX11_page_30 : decode cX11_page 30 = .ok (.getfield 81, 3) := by decide +kernel
theorem dX11_page_33 : decode cX11_page 33 = .ok (.aload_n 0, 1) := by decide +kernel
theorem dX11_page_34 : decode cX11_page 34 = .ok (.getfield 78, 3) := by decide +kernel
theorem dX11_page_37 : decode cX11_page 37 = .ok (.if_icmp .ge 25, 3) := by decide +kernel
theorem dX11_page_40 : decode cX11_page 40 = .ok (.aload_n 0, 1) := by decide +kernel
theorem dX11_page_41 : decode cX11_page 41 = .ok (.invokevirtual 127, 3) := by decide +kernel
theorem dX11_page_44 : decode cX11_page 44 = .ok (.ifCond .ne 11, 3) := by decide +kernel
theorem dX11_page_47 : decode cX11_page 47 = .ok (.bipush (-10), 2) := by decide +kernel
theorem dX11_page_49 : decode cX11_page 49 = .ok (.aload_n 0, 1) := by decide +kernel
theorem dX11_page_50 : decode cX11_page 50 = .ok (.getfield 81, 3) := by decide +kernel
theorem dX11_page_53 : decode cX11_page 53 = .ok (.isub, 1) := by decide +kernel
theorem dX11_page_54 : decode cX11_page 54 = .ok (.ireturn, 1) := by decide +kernel
theorem dX11_page_55 : decode cX11_page 55 = .ok (.aload_n 0, 1) := by decide +kernel
theorem dX11_page_56 : decode cX11_page 56 = .ok (.invokevirtual 92, 3) := by decide +kernel
theorem dX11_page_59 : decode cX11_page 59 = .ok (.goto (-30), 3) := by decide +kernel
theorem dX11_page_62 : decode cX11_page 62 = .ok (.aload_n 0, 1) := by decide +kernel
theorem dX11_page_63 : decode cX11_page 63 = .ok (.iconst 0, 1) := by decide +kernel
theorem dX11_page_64 : decode cX11_page 64 = .ok (.putfield 78, 3) := by decide +kernel
theorem dX11_page_67 : decode cX11_page 67 = .ok (.aload_n 0, 1) := by decide +kernel
theorem dX11_page_68 : decode cX11_page 68 = .ok (.aload_n 0, 1) := by decide +kernel
theorem dX11_page_69 : decode cX11_page 69 = .ok (.getfield 95, 3) := by decide +kernel
theorem dX11_page_72 : decode cX11_page 72 = .ok (.putfield 7, 3) := by decide +kernel
theorem dX11_page_75 : decode cX11_page 75 = .ok (.aload_n 0, 1) := by decide +kernel
theorem dX11_page_76 : decode cX11_page 76 = .ok (.aload_n 0, 1) := by decide +kernel
theorem dX11_page_77 : decode cX11_page 77 = .ok (.getfield 105, 3) := by decide +kernel
theorem dX11_page_80 : decode cX11_page 80 = .ok (.putfield 68, 3) := by decide +kernel
theorem dX11_page_83 : decode cX11_page 83 = .ok (.aload_n 0, 1) := by decide +kernel
theorem dX11_page_84 : decode cX11_page 84 = .ok (.aload_n 0, 1) := by decide +kernel
theorem dX11_page_85 : decode cX11_page 85 = .ok (.getfield 112, 3) := by decide +kernel
theorem dX11_page_88 : decode cX11_page 88 = .ok (.putfield 130, 3) := by decide +kernel
theorem dX11_page_91 : decode cX11_page 91 = .ok (.iconst 0, 1) := by decide +kernel
theorem dX11_page_92 : decode cX11_page 92 = .ok (.istore_n 1, 1) := by decide +kernel
theorem dX11_page_93 : decode cX11_page 93 = .ok (.iload_n 1, 1) := by decide +kernel
theorem dX11_page_94 : decode cX11_page 94 = .ok (.bipush 36, 2) := by decide +kernel
theorem dX11_page_96 : decode cX11_page 96 = .ok (.if_icmp .ge 21, 3) := by decide +kernel
theorem dX11_page_99 : decode cX11_page 99 = .ok (.aload_n 0, 1) := by decide +kernel
theorem dX11_page_100 : decode cX11_page 100 = .ok (.getfield 13, 3) := by decide +kernel
theorem dX11_page_103 : decode cX11_page 103 = .ok (.iload_n 1, 1) := by decide +kernel
theorem dX11_page_104 : decode cX11_page 104 = .ok (.aload_n 0, 1) := by decide +kernel
theorem dX11_page_105 : decode cX11_page 105 = .ok (.getfield 35, 3) := by decide +kernel
theorem dX11_page_108 : decode cX11_page 108 = .ok (.iload_n 1, 1) := by decide +kernel
theorem dX11_page_109 : decode cX11_page 109 = .ok (.iaload, 1) := by decide +kernel
theorem dX11_page_110 : decode cX11_page 110 = .ok (.iastore, 1) := by decide +kernel
theorem dX11_page_111 : decode cX11_page 111 = .ok (.iinc 1 1, 3) := by decide +kernel
theorem dX11_page_114 : decode cX11_page 114 = .ok (.goto (-21), 3) := by decide +kernel
theorem dX11_page_117 : decode cX11_page 117 = .ok (.iconst 0, 1) := by decide +kernel
theorem dX11_page_118 : decode cX11_page 118 = .ok (.istore_n 1, 1) := by decide +kernel
theorem dX11_page_119 : decode cX11_page 119 = .ok (.iload_n 1, 1) := by decide +kernel
theorem dX11_page_120 : decode cX11_page 120 = .ok (.bipush 48, 2) := by decide +kernel
theorem dX11_page_122 : decode cX11_page 122 = .ok (.if_icmp .ge 21, 3) := by decide +kernel
theorem dX11_page_125 : decode cX11_page 125 = .ok (.aload_n 0, 1) := by decide +kernel
theorem dX11_page_126 : decode cX11_page 126 = .ok (.getfield 17, 3) := by decide +kernel
theorem dX11_page_129 : decode cX11_page 129 = .ok (.iload_n 1, 1) := by decide +kernel
theorem dX11_page_130 : decode cX11_page 130 = .ok (.aload_n 0, 1) := by decide +kernel
theorem dX11_page_131 : decode cX11_page 131 = .ok (.getfield 38, 3) := by decide +kernel
theorem dX11_page_134 : decode cX11_page 134 = .ok (.iload_n 1, 1) := by decide +kernel
theorem dX11_page_135 : decode cX11_page 135 = .ok (.iaload, 1) := by decide +kernel
theorem dX11_page_136 : decode cX11_page 136 = .ok (.iastore, 1) := by decide +kernel
theorem dX11_page_137 : decode cX11_page 137 = .ok (.iinc 1 1, 3) := by decide +kernel
theorem dX11_page_140 : decode cX11_page 140 = .ok (.goto (-21), 3) := by decide +kernel
theorem dX11_page_143 : decode cX11_page 143 = .ok (.iconst 0, 1) := by decide +kernel
theorem dX11_page_144 : decode cX11_page 144 = .ok (.istore_n 1, 1) := by decide +kernel
theorem dX11_page_145 : decode cX11_page 145 = .ok (.iload_n 1, 1) := by decide +kernel
theorem dX11_page_146 : decode cX11_page 146 = .ok (.aload_n 0, 1) := by decide +kernel
theorem dX11_page_147 : decode cX11_page 147 = .ok (.getfield 130, 3) := by decide +kernel
theorem dX11_page_150 : decode cX11_page 150 = .ok (.if_icmp .ge 21, 3) := by decide +kernel
theorem dX11_page_153 : decode cX11_page 153 = .ok (.aload_n 0, 1) := by decide +kernel
theorem dX11_page_154 : decode cX11_page 154 = .ok (.getfield 20, 3) := by decide +kernel
theorem dX11_page_157 : decode cX11_page 157 = .ok (.iload_n 1, 1) := by decide +kernel
theorem dX11_page_158 : decode cX11_page 158 = .ok (.aload_n 0, 1) := by decide +kernel
theorem dX11_page_159 : decode cX11_page 159 = .ok (.getfield 41, 3) := by decide +kernel
theorem dX11_page_162 : decode cX11_page 162 = .ok (.iload_n 1, 1) := by decide +kernel
theorem dX11_page_163 : decode cX11_page 163 = .ok (.iaload, 1) := by decide +kernel
theorem dX11_page_164 : decode cX11_page 164 = .ok (.iastore, 1) := by decide +kernel
theorem dX11_page_165 : decode cX11_page 165 = .ok (.iinc 1 1, 3) := by decide +kernel
theorem dX11_page_168 : decode cX11_page 168 = .ok (.goto (-23), 3) := by decide +kernel
theorem dX11_page_171 : decode cX11_page 171 = .ok (.aload_n 0, 1) := by decide +kernel
theorem dX11_page_172 : decode cX11_page 172 = .ok (.aload_n 0, 1) := by decide +kernel
theorem dX11_page_173 : decode cX11_page 173 = .ok (.getfield 68, 3) := by decide +kernel
theorem dX11_page_176 : decode cX11_page 176 = .ok (.putfield 75, 3) := by decide +kernel
theorem dX11_page_179 : decode cX11_page 179 = .ok (.iconst 0, 1) := by decide +kernel
theorem dX11_page_180 : decode cX11_page 180 = .ok (.istore_n 1, 1) := by decide +kernel
theorem dX11_page_181 : decode cX11_page 181 = .ok (.iload_n 1, 1) := by decide +kernel
theorem dX11_page_182 : decode cX11_page 182 = .ok (.bipush 6, 2) := by decide +kernel
theorem dX11_page_184 : decode cX11_page 184 = .ok (.if_icmp .ge 16, 3) := by decide +kernel
theorem dX11_page_187 : decode cX11_page 187 = .ok (.aload_n 0, 1) := by decide +kernel
theorem dX11_page_188 : decode cX11_page 188 = .ok (.getfield 23, 3) := by decide +kernel
theorem dX11_page_191 : decode cX11_page 191 = .ok (.iload_n 1, 1) := by decide +kernel
theorem dX11_page_192 : decode cX11_page 192 = .ok (.iload_n 1, 1) := by decide +kernel
theorem dX11_page_193 : decode cX11_page 193 = .ok (.iastore, 1) := by decide +kernel
theorem dX11_page_194 : decode cX11_page 194 = .ok (.iinc 1 1, 3) := by decide +kernel
theorem dX11_page_197 : decode cX11_page 197 = .ok (.goto (-16), 3) := by decide +kernel
theorem dX11_page_200 : decode cX11_page 200 = .ok (.aload_n 0, 1) := by decide +kernel
theorem dX11_page_201 : decode cX11_page 201 = .ok (.iconst 0, 1) := by decide +kernel
theorem dX11_page_202 : decode cX11_page 202 = .ok (.putfield 133, 3) := by decide +kernel
theorem dX11_page_205 : decode cX11_page 205 = .ok (.aload_n 0, 1) := by decide +kernel
theorem dX11_page_206 : decode cX11_page 206 = .ok (.iconst 0, 1) := by decide +kernel
theorem dX11_page_207 : decode cX11_page 207 = .ok (.putfield 136, 3) := by decide +kernel
theorem dX11_page_210 : decode cX11_page 210 = .ok (.aload_n 0, 1) := by decide +kernel
theorem dX11_page_211 : decode cX11_page 211 = .ok (.iconst 0, 1) := by decide +kernel
theorem dX11_page_212 : decode cX11_page 212 = .ok (.putfield 139, 3) := by decide +kernel
theorem dX11_page_215 : decode cX11_page 215 = .ok (.aload_n 0, 1) := by decide +kernel
theorem dX11_page_216 : decode cX11_page 216 = .ok (.getfield 65, 3) := by decide +kernel
theorem dX11_page_219 : decode cX11_page 219 = .ok (.iconst 0, 1) := by decide +kernel
theorem dX11_page_220 : decode cX11_page 220 = .ok (.iconst 0, 1) := by decide +kernel
theorem dX11_page_221 : decode cX11_page 221 = .ok (.iastore, 1) := by decide +kernel
theorem dX11_page_222 : decode cX11_page 222 = .ok (.aload_n 0, 1) := by decide +kernel
theorem dX11_page_223 : decode cX11_page 223 = .ok (.getfield 65, 3) := by decide +kernel
theorem dX11_page_226 : decode cX11_page 226 = .ok (.bipush 90, 2) := by decide +kernel
theorem dX11_page_228 : decode cX11_page 228 = .ok (.iconst 0, 1) := by decide +kernel
theorem dX11_page_229 : decode cX11_page 229 = .ok (.iastore, 1) := by decide +kernel
theorem dX11_page_230 : decode cX11_page 230 = .ok (.aload_n 0, 1) := by decide +kernel
theorem dX11_page_231 : decode cX11_page 231 = .ok (.getfield 115, 3) := by decide +kernel
theorem dX11_page_234 : decode cX11_page 234 = .ok (.ireturn, 1) := by decide +kernel
theorem dX11_signBy_0 : decode cX11_signBy 0 = .ok (.iload 4, 2) := by decide +kernel
theorem dX11_signBy_2 : decode cX11_signBy 2 = .ok (.iload_n 1, 1) := by decide +kernel
theorem dX11_signBy_3 : decode cX11_signBy 3 = .ok (.invokestatic 142, 3) := by decide +kernel
theorem dX11_signBy_6 : decode cX11_signBy 6 = .ok (.ifCond .eq 26, 3) := by decide +kernel
theorem dX11_signBy_9 : decode cX11_signBy 9 = .ok (.aload_n 0, 1) := by decide +kernel
theorem dX11_signBy_10 : decode cX11_signBy 10 = .ok (.getfield 13, 3) := by decide +kernel
theorem dX11_signBy_13 : decode cX11_signBy 13 = .ok (.iload_n 1, 1) := by decide +kernel
theorem dX11_signBy_14 : decode cX11_signBy 14 = .ok (.aload_n 0, 1) := by decide +kernel
theorem dX11_signBy_15 : decode cX11_signBy 15 = .ok (.getfield 7, 3) := by decide +kernel
theorem dX11_signBy_18 : decode cX11_signBy 18 = .ok (.iconst 1, 1) := by decide +kernel
theorem dX11_signBy_19 : decode cX11_signBy 19 = .ok (.isub, 1) := by decide +kernel
theorem dX11_signBy_20 : decode cX11_signBy 20 = .ok (.iload_n 2, 1) := by decide +kernel
theorem dX11_signBy_21 : decode cX11_signBy 21 = .ok (.isub, 1) := by decide +kernel
theorem dX11_signBy_22 : decode cX11_signBy 22 = .ok (.iconst 1, 1) := by decide +kernel
theorem dX11_signBy_23 : decode cX11_signBy 23 = .ok (.iload_n 3, 1) := by decide +kernel
theorem dX11_signBy_24 : decode cX11_signBy 24 = .ok (.isub, 1) := by decide +kernel
theorem dX11_signBy_25 : decode cX11_signBy 25 = .ok (.invokestatic 108, 3) := by decide +kernel
theorem dX11_signBy_28 : decode cX11_signBy 28 = .ok (.iaload, 1) := by decide +kernel
theorem dX11_signBy_29 : decode cX11_signBy 29 = .ok (.goto 14, 3) := by decide +kernel
theorem dX11_signBy_32 : decode cX11_signBy 32 = .ok (.aload_n 0, 1) := by decide +kernel
theorem dX11_signBy_33 : decode cX11_signBy 33 = .ok (.getfield 13, 3) := by decide +kernel
theorem dX11_signBy_36 : decode cX11_signBy 36 = .ok (.iload_n 1, 1) := by decide +kernel
theorem dX11_signBy_37 : decode cX11_signBy 37 = .ok (.iload_n 2, 1) := by decide +kernel
theorem dX11_signBy_38 : decode cX11_signBy 38 = .ok (.iload_n 3, 1) := by decide +kernel
theorem dX11_signBy_39 : decode cX11_signBy 39 = .ok (.invokestatic 108, 3) := by decide +kernel
theorem dX11_signBy_42 : decode cX11_signBy 42 = .ok (.iaload, 1) := by decide +kernel
theorem dX11_signBy_43 : decode cX11_signBy 43 = .ok (.ireturn, 1) := by decide +kernel
theorem dX11_readBy_0 : decode cX11_readBy 0 = .ok (.aload_n 0, 1) := by decide +kernel
theorem dX11_readBy_1 : decode cX11_readBy 1 = .ok (.aload_n 1, 1) := by decide +kernel
theorem dX11_readBy_2 : decode cX11_readBy 2 = .ok (.iload_n 3, 1) := by decide +kernel
theorem dX11_readBy_3 : decode cX11_readBy 3 = .ok (.iconst 2, 1) := by decide +kernel
theorem dX11_readBy_4 : decode cX11_readBy 4 = .ok (.idiv, 1) := by decide +kernel
theorem dX11_readBy_5 : decode cX11_readBy 5 = .ok (.iaload, 1) := by decide +kernel
theorem dX11_readBy_6 : decode cX11_readBy 6 = .ok (.iload_n 2, 1) := by decide +kernel
theorem dX11_readBy_7 : decode cX11_readBy 7 = .ok (.iload_n 3, 1) := by decide +kernel
theorem dX11_readBy_8 : decode cX11_readBy 8 = .ok (.iconst 2, 1) := by decide +kernel
theorem dX11_readBy_9 : decode cX11_readBy 9 = .ok (.irem, 1) := by decide +kernel
theorem dX11_readBy_10 : decode cX11_readBy 10 = .ok (.iload 4, 2) := by decide +kernel
theorem dX11_readBy_12 : decode cX11_readBy 12 = .ok (.invokevirtual 146, 3) := by decide +kernel
theorem dX11_readBy_15 : decode cX11_readBy 15 = .ok (.ireturn, 1) := by decide +kernel
theorem dX11_isSpelled_0 : decode cX11_isSpelled 0 = .ok (.iconst 1, 1) := by decide +kernel
theorem dX11_isSpelled_1 : decode cX11_isSpelled 1 = .ok (.istore 6, 2) := by decide +kernel
theorem dX11_isSpelled_3 : decode cX11_isSpelled 3 = .ok (.iconst 0, 1) := by decide +kernel
theorem dX11_isSpelled_4 : decode cX11_isSpelled 4 = .ok (.istore 7, 2) := by decide +kernel
theorem dX11_isSpelled_6 : decode cX11_isSpelled 6 = .ok (.iload 7, 2) := by decide +kernel
theorem dX11_isSpelled_8 : decode cX11_isSpelled 8 = .ok (.aload_n 0, 1) := by decide +kernel
theorem dX11_isSpelled_9 : decode cX11_isSpelled 9 = .ok (.getfield 20, 3) := by decide +kernel
theorem dX11_isSpelled_12 : decode cX11_isSpelled 12 = .ok (.iload_n 1, 1) := by decide +kernel
theorem dX11_isSpelled_13 : decode cX11_isSpelled 13 = .ok (.iaload, 1) := by decide +kernel
theorem dX11_isSpelled_14 : decode cX11_isSpelled 14 = .ok (.if_icmp .ge 49, 3) := by decide +kernel
theorem dX11_isSpelled_17 : decode cX11_isSpelled 17 = .ok (.iload 6, 2) := by decide +kernel
theorem dX11_isSpelled_19 : decode cX11_isSpelled 19 = .ok (.ifCond .eq 35, 3) := by decide +kernel
theorem dX11_isSpelled_22 : decode cX11_isSpelled 22 = .ok (.aload_n 0, 1) := by decide +kernel
theorem dX11_isSpelled_23 : decode cX11_isSpelled 23 = .ok (.aload_n 2, 1) := by decide +kernel
theorem dX11_isSpelled_24 : decode cX11_isSpelled 24 = .ok (.iload_n 3, 1) := by decide +kernel
theorem dX11_isSpelled_25 : decode cX11_isSpelled 25 = .ok (.iload 4, 2) := by decide +kernel
theorem dX11_isSpelled_27 : decode cX11_isSpelled 27 = .ok (.iload 7, 2) := by decide +kernel
theorem dX11_isSpelled_29 : decode cX11_isSpelled 29 = .ok (.iadd, 1) := by decide +kernel
theorem dX11_isSpelled_30 : decode cX11_isSpelled 30 = .ok (.iload 5, 2) := by decide +kernel
theorem dX11_isSpelled_32 : decode cX11_isSpelled 32 = .ok (.invokevirtual 150, 3) := by decide +kernel
theorem dX11_isSpelled_35 : decode cX11_isSpelled 35 = .ok (.aload_n 0, 1) := by decide +kernel
theorem dX11_isSpelled_36 : decode cX11_isSpelled 36 = .ok (.getfield 17, 3) := by decide +kernel
theorem dX11_isSpelled_39 : decode cX11_isSpelled 39 = .ok (.bipush 6, 2) := by decide +kernel
theorem dX11_isSpelled_41 : decode cX11_isSpelled 41 = .ok (.iload_n 1, 1) := by decide +kernel
theorem dX11_isSpelled_42 : decode cX11_isSpelled 42 = .ok (.imul, 1) := by decide +kernel
theorem dX11_isSpelled_43 : decode cX11_isSpelled 43 = .ok (.iload 7, 2) := by decide +kernel
theorem dX11_isSpelled_45 : decode cX11_isSpelled 45 = .ok (.iadd, 1) := by decide +kernel
theorem dX11_isSpelled_46 : decode cX11_isSpelled 46 = .ok (.iaload, 1) := by decide +kernel
theorem dX11_isSpelled_47 : decode cX11_isSpelled 47 = .ok (.if_icmp .ne 7, 3) := by decide +kernel
theorem dX11_isSpelled_50 : decode cX11_isSpelled 50 = .ok (.iconst 1, 1) := by decide +kernel
theorem dX11_isSpelled_51 : decode cX11_isSpelled 51 = .ok (.goto 4, 3) := by decide +kernel
theorem dX11_isSpelled_54 : decode cX11_isSpelled 54 = .ok (.iconst 0, 1) := by decide +kernel
theorem dX11_isSpelled_55 : decode cX11_isSpelled 55 = .ok (.istore 6, 2) := by decide +kernel
theorem dX11_isSpelled_57 : decode cX11_isSpelled 57 = .ok (.iinc 7 1, 3) := by decide +kernel
theorem dX11_isSpelled_60 : decode cX11_isSpelled 60 = .ok (.goto (-54), 3) := by decide +kernel
theorem dX11_isSpelled_63 : decode cX11_isSpelled 63 = .ok (.iload 6, 2) := by decide +kernel
theorem dX11_isSpelled_65 : decode cX11_isSpelled 65 = .ok (.ireturn, 1) := by decide +kernel
theorem dX11_isWord_0 : decode cX11_isWord 0 = .ok (.iconst 0, 1) := by decide +kernel
theorem dX11_isWord_1 : decode cX11_isWord 1 = .ok (.istore 6, 2) := by decide +kernel
theorem dX11_isWord_3 : decode cX11_isWord 3 = .ok (.iconst 0, 1) := by decide +kernel
theorem dX11_isWord_4 : decode cX11_isWord 4 = .ok (.istore 7, 2) := by decide +kernel
theorem dX11_isWord_6 : decode cX11_isWord 6 = .ok (.iload 7, 2) := by decide +kernel
theorem dX11_isWord_8 : decode cX11_isWord 8 = .ok (.aload_n 0, 1) := by decide +kernel
theorem dX11_isWord_9 : decode cX11_isWord 9 = .ok (.getfield 130, 3) := by decide +kernel
theorem dX11_isWord_12 : decode cX11_isWord 12 = .ok (.if_icmp .ge 47, 3) := by decide +kernel
theorem dX11_isWord_15 : decode cX11_isWord 15 = .ok (.iload 6, 2) := by decide +kernel
theorem dX11_isWord_17 : decode cX11_isWord 17 = .ok (.ifCond .ne 29, 3) := by decide +kernel
theorem dX11_isWord_20 : decode cX11_isWord 20 = .ok (.aload_n 0, 1) := by decide +kernel
theorem dX11_isWord_21 : decode cX11_isWord 21 = .ok (.getfield 20, 3) := by decide +kernel
theorem dX11_isWord_24 : decode cX11_isWord 24 = .ok (.iload 7, 2) := by decide +kernel
theorem dX11_isWord_26 : decode cX11_isWord 26 = .ok (.iaload, 1) := by decide +kernel
theorem dX11_isWord_27 : decode cX11_isWord 27 = .ok (.iload 4, 2) := by decide +kernel
theorem dX11_isWord_29 : decode cX11_isWord 29 = .ok (.if_icmp .ne 21, 3) := by decide +kernel
theorem dX11_isWord_32 : decode cX11_isWord 32 = .ok (.aload_n 0, 1) := by decide +kernel
theorem dX11_isWord_33 : decode cX11_isWord 33 = .ok (.iload 7, 2) := by decide +kernel
theorem dX11_isWord_35 : decode cX11_isWord 35 = .ok (.aload_n 1, 1) := by decide +kernel
theorem dX11_isWord_36 : decode cX11_isWord 36 = .ok (.iload_n 2, 1) := by decide +kernel
theorem dX11_isWord_37 : decode cX11_isWord 37 = .ok (.iload_n 3, 1) := by decide +kernel
theorem dX11_isWord_38 : decode cX11_isWord 38 = .ok (.iload 5, 2) := by decide +kernel
theorem dX11_isWord_40 : decode cX11_isWord 40 = .ok (.invokevirtual 154, 3) := by decide +kernel
theorem dX11_isWord_43 : decode cX11_isWord 43 = .ok (.ifCond .eq 7, 3) := by decide +kernel
theorem dX11_isWord_46 : decode cX11_isWord 46 = .ok (.iconst 1, 1) := by decide +kernel
theorem dX11_isWord_47 : decode cX11_isWord 47 = .ok (.goto 4, 3) := by decide +kernel
theorem dX11_isWord_50 : decode cX11_isWord 50 = .ok (.iconst 0, 1) := by decide +kernel
theorem dX11_isWord_51 : decode cX11_isWord 51 = .ok (.istore 6, 2) := by decide +kernel
theorem dX11_isWord_53 : decode cX11_isWord 53 = .ok (.iinc 7 1, 3) := by decide +kernel
theorem dX11_isWord_56 : decode cX11_isWord 56 = .ok (.goto (-50), 3) := by decide +kernel
theorem dX11_isWord_59 : decode cX11_isWord 59 = .ok (.iload 6, 2) := by decide +kernel
theorem dX11_isWord_61 : decode cX11_isWord 61 = .ok (.ireturn, 1) := by decide +kernel
theorem dX11_comesRun_0 : decode cX11_comesRun 0 = .ok (.iload 4, 2) := by decide +kernel
theorem dX11_comesRun_2 : decode cX11_comesRun 2 = .ok (.ifCond .le 76, 3) := by decide +kernel
theorem dX11_comesRun_5 : decode cX11_comesRun 5 = .ok (.aload_n 0, 1) := by decide +kernel
theorem dX11_comesRun_6 : decode cX11_comesRun 6 = .ok (.aload_n 1, 1) := by decide +kernel
theorem dX11_comesRun_7 : decode cX11_comesRun 7 = .ok (.iload_n 2, 1) := by decide +kernel
theorem dX11_comesRun_8 : decode cX11_comesRun 8 = .ok (.iload_n 3, 1) := by decide +kernel
theorem dX11_comesRun_9 : decode cX11_comesRun 9 = .ok (.iload 4, 2) := by decide +kernel
theorem dX11_comesRun_11 : decode cX11_comesRun 11 = .ok (.iload 5, 2) := by decide +kernel
theorem dX11_comesRun_13 : decode cX11_comesRun 13 = .ok (.invokevirtual 158, 3) := by decide +kernel
theorem dX11_comesRun_16 : decode cX11_comesRun 16 = .ok (.istore 6, 2) := by decide +kernel
theorem dX11_comesRun_18 : decode cX11_comesRun 18 = .ok (.aload_n 0, 1) := by decide +kernel
theorem dX11_comesRun_19 : decode cX11_comesRun 19 = .ok (.getfield 44, 3) := by decide +kernel
theorem dX11_comesRun_22 : decode cX11_comesRun 22 = .ok (.iload_n 2, 1) := by decide +kernel
theorem dX11_comesRun_23 : decode cX11_comesRun 23 = .ok (.dup2, 1) := by decide +kernel
theorem dX11_comesRun_24 : decode cX11_comesRun 24 = .ok (.iaload, 1) := by decide +kernel
theorem dX11_comesRun_25 : decode cX11_comesRun 25 = .ok (.iconst 1, 1) := by decide +kernel
theorem dX11_comesRun_26 : decode cX11_comesRun 26 = .ok (.iadd, 1) := by decide +kernel
theorem dX11_comesRun_27 : decode cX11_comesRun 27 = .ok (.iastore, 1) := by decide +kernel
theorem dX11_comesRun_28 : decode cX11_comesRun 28 = .ok (.aload_n 0, 1) := by decide +kernel
theorem dX11_comesRun_29 : decode cX11_comesRun 29 = .ok (.getfield 47, 3) := by decide +kernel
theorem dX11_comesRun_32 : decode cX11_comesRun 32 = .ok (.iload_n 2, 1) := by decide +kernel
theorem dX11_comesRun_33 : decode cX11_comesRun 33 = .ok (.dup2, 1) := by decide +kernel
theorem dX11_comesRun_34 : decode cX11_comesRun 34 = .ok (.iaload, 1) := by decide +kernel
theorem dX11_comesRun_35 : decode cX11_comesRun 35 = .ok (.iload 6, 2) := by decide +kernel
theorem dX11_comesRun_37 : decode cX11_comesRun 37 = .ok (.ifCond .eq 7, 3) := by decide +kernel
theorem dX11_comesRun_40 : decode cX11_comesRun 40 = .ok (.iconst 1, 1) := by decide +kernel
theorem dX11_comesRun_41 : decode cX11_comesRun 41 = .ok (.goto 4, 3) := by decide +kernel
theorem dX11_comesRun_44 : decode cX11_comesRun 44 = .ok (.iconst 0, 1) := by decide +kernel
theorem dX11_comesRun_45 : decode cX11_comesRun 45 = .ok (.iadd, 1) := by decide +kernel
theorem dX11_comesRun_46 : decode cX11_comesRun 46 = .ok (.iastore, 1) := by decide +kernel
theorem dX11_comesRun_47 : decode cX11_comesRun 47 = .ok (.aload_n 0, 1) := by decide +kernel
theorem dX11_comesRun_48 : decode cX11_comesRun 48 = .ok (.getfield 50, 3) := by decide +kernel
theorem dX11_comesRun_51 : decode cX11_comesRun 51 = .ok (.iload_n 2, 1) := by decide +kernel
theorem dX11_comesRun_52 : decode cX11_comesRun 52 = .ok (.dup2, 1) := by decide +kernel
theorem dX11_comesRun_53 : decode cX11_comesRun 53 = .ok (.iaload, 1) := by decide +kernel
theorem dX11_comesRun_54 : decode cX11_comesRun 54 = .ok (.iload 4, 2) := by decide +kernel
theorem dX11_comesRun_56 : decode cX11_comesRun 56 = .ok (.iadd, 1) := by decide +kernel
theorem dX11_comesRun_57 : decode cX11_comesRun 57 = .ok (.iastore, 1) := by decide +kernel
theorem dX11_comesRun_58 : decode cX11_comesRun 58 = .ok (.aload_n 0, 1) := by decide +kernel
theorem dX11_comesRun_59 : decode cX11_comesRun 59 = .ok (.dup, 1) := by decide +kernel
theorem dX11_comesRun_60 : decode cX11_comesRun 60 = .ok (.getfield 162, 3) := by decide +kernel
theorem dX11_comesRun_63 : decode cX11_comesRun 63 = .ok (.iload 6, 2) := by decide +kernel
theorem dX11_comesRun_65 : decode cX11_comesRun 65 = .ok (.ifCond .eq 8, 3) := by decide +kernel
theorem dX11_comesRun_68 : decode cX11_comesRun 68 = .ok (.iload 4, 2) := by decide +kernel
theorem dX11_comesRun_70 : decode cX11_comesRun 70 = .ok (.goto 4, 3) := by decide +kernel
theorem dX11_comesRun_73 : decode cX11_comesRun 73 = .ok (.iconst 0, 1) := by decide +kernel
theorem dX11_comesRun_74 : decode cX11_comesRun 74 = .ok (.iadd, 1) := by decide +kernel
theorem dX11_comesRun_75 : decode cX11_comesRun 75 = .ok (.putfield 162, 3) := by decide +kernel
theorem dX11_comesRun_78 : decode cX11_comesRun 78 = .ok (.return_, 1) := by decide +kernel
theorem dX11_readsAll_0 : decode cX11_readsAll 0 = .ok (.aload_n 0, 1) := by decide +kernel
theorem dX11_readsAll_1 : decode cX11_readsAll 1 = .ok (.iconst 0, 1) := by decide +kernel
theorem dX11_readsAll_2 : decode cX11_readsAll 2 = .ok (.putfield 162, 3) := by decide +kernel
theorem dX11_readsAll_5 : decode cX11_readsAll 5 = .ok (.iconst 0, 1) := by decide +kernel
theorem dX11_readsAll_6 : decode cX11_readsAll 6 = .ok (.istore 4, 2) := by decide +kernel
theorem dX11_readsAll_8 : decode cX11_readsAll 8 = .ok (.iload 4, 2) := by decide +kernel
theorem dX11_readsAll_10 : decode cX11_readsAll 10 = .ok (.aload_n 0, 1) := by decide +kernel
theorem dX11_readsAll_11 : decode cX11_readsAll 11 = .ok (.getfield 7, 3) := by decide +kernel
theorem dX11_readsAll_14 : decode cX11_readsAll 14 = .ok (.if_icmp .ge 105, 3) := by decide +kernel
theorem dX11_readsAll_17 : decode cX11_readsAll 17 = .ok (.aload_n 0, 1) := by decide +kernel
theorem dX11_readsAll_18 : decode cX11_readsAll 18 = .ok (.getfield 44, 3) := by decide +kernel
theorem dX11_readsAll_21 : decode cX11_readsAll 21 = .ok (.iload 4, 2) := by decide +kernel
theorem dX11_readsAll_23 : decode cX11_readsAll 23 = .ok (.iconst 0, 1) := by decide +kernel
theorem dX11_readsAll_24 : decode cX11_readsAll 24 = .ok (.iastore, 1) := by decide +kernel
theorem dX11_readsAll_25 : decode cX11_readsAll 25 = .ok (.aload_n 0, 1) := by decide +kernel
theorem dX11_readsAll_26 : decode cX11_readsAll 26 = .ok (.getfield 47, 3) := by decide +kernel
theorem dX11_readsAll_29 : decode cX11_readsAll 29 = .ok (.iload 4, 2) := by decide +kernel
theorem dX11_readsAll_31 : decode cX11_readsAll 31 = .ok (.iconst 0, 1) := by decide +kernel
theorem dX11_readsAll_32 : decode cX11_readsAll 32 = .ok (.iastore, 1) := by decide +kernel
theorem dX11_readsAll_33 : decode cX11_readsAll 33 = .ok (.aload_n 0, 1) := by decide +kernel
theorem dX11_readsAll_34 : decode cX11_readsAll 34 = .ok (.getfield 50, 3) := by decide +kernel
theorem dX11_readsAll_37 : decode cX11_readsAll 37 = .ok (.iload 4, 2) := by decide +kernel
theorem dX11_readsAll_39 : decode cX11_readsAll 39 = .ok (.iconst 0, 1) := by decide +kernel
theorem dX11_readsAll_40 : decode cX11_readsAll 40 = .ok (.iastore, 1) := by decide +kernel
theorem dX11_readsAll_41 : decode cX11_readsAll 41 = .ok (.iconst 0, 1) := by decide +kernel
theorem dX11_readsAll_42 : decode cX11_readsAll 42 = .ok (.istore 5, 2) := by decide +kernel
theorem dX11_readsAll_44 : decode cX11_readsAll 44 = .ok (.iconst 0, 1) := by decide +kernel
theorem dX11_readsAll_45 : decode cX11_readsAll 45 = .ok (.istore 6, 2) := by decide +kernel
theorem dX11_readsAll_47 : decode cX11_readsAll 47 = .ok (.iload 6, 2) := by decide +kernel
theorem dX11_readsAll_49 : decode cX11_readsAll 49 = .ok (.iconst 2, 1) := by decide +kernel
theorem dX11_readsAll_50 : decode cX11_readsAll 50 = .ok (.iload_n 2, 1) := by decide +kernel
theorem dX11_readsAll_51 : decode cX11_readsAll 51 = .ok (.imul, 1) := by decide +kernel
theorem dX11_readsAll_52 : decode cX11_readsAll 52 = .ok (.if_icmp .ge 45, 3) := by decide +kernel
theorem dX11_readsAll_55 : decode cX11_readsAll 55 = .ok (.aload_n 0, 1) := by decide +kernel
theorem dX11_readsAll_56 : decode cX11_readsAll 56 = .ok (.aload_n 1, 1) := by decide +kernel
theorem dX11_readsAll_57 : decode cX11_readsAll 57 = .ok (.iload 4, 2) := by decide +kernel
theorem dX11_readsAll_59 : decode cX11_readsAll 59 = .ok (.iload 6, 2) := by decide +kernel
theorem dX11_readsAll_61 : decode cX11_readsAll 61 = .ok (.iload_n 3, 1) := by decide +kernel
theorem dX11_readsAll_62 : decode cX11_readsAll 62 = .ok (.invokevirtual 150, 3) := by decide +kernel
theorem dX11_readsAll_65 : decode cX11_readsAll 65 = .ok (.bipush 46, 2) := by decide +kernel
theorem dX11_readsAll_67 : decode cX11_readsAll 67 = .ok (.if_icmp .ne 24, 3) := by decide +kernel
theorem dX11_readsAll_70 : decode cX11_readsAll 70 = .ok (.aload_n 0, 1) := by decide +kernel
theorem dX11_readsAll_71 : decode cX11_readsAll 71 = .ok (.aload_n 1, 1) := by decide +kernel
theorem dX11_readsAll_72 : decode cX11_readsAll 72 = .ok (.iload 4, 2) := by decide +kernel
theorem dX11_readsAll_74 : decode cX11_readsAll 74 = .ok (.iload 5, 2) := by decide +kernel
theorem dX11_readsAll_76 : decode cX11_readsAll 76 = .ok (.iload 6, 2) := by decide +kernel
theorem dX11_readsAll_78 : decode cX11_readsAll 78 = .ok (.iload 5, 2) := by decide +kernel
theorem dX11_readsAll_80 : decode cX11_readsAll 80 = .ok (.isub, 1) := by decide +kernel
theorem dX11_readsAll_81 : decode cX11_readsAll 81 = .ok (.iload_n 3, 1) := by decide +kernel
theorem dX11_readsAll_82 : decode cX11_readsAll 82 = .ok (.invokevirtual 165, 3) := by decide +kernel
theorem dX11_readsAll_85 : decode cX11_readsAll 85 = .ok (.iload 6, 2) := by decide +kernel
theorem dX11_readsAll_87 : decode cX11_readsAll 87 = .ok (.iconst 1, 1) := by decide +kernel
theorem dX11_readsAll_88 : decode cX11_readsAll 88 = .ok (.iadd, 1) := by decide +kernel
theorem dX11_readsAll_89 : decode cX11_readsAll 89 = .ok (.istore 5, 2) := by decide +kernel
theorem dX11_readsAll_91 : decode cX11_readsAll 91 = .ok (.iinc 6 1, 3) := by decide +kernel
theorem dX11_readsAll_94 : decode cX11_readsAll 94 = .ok (.goto (-47), 3) := by decide +kernel
theorem dX11_readsAll_97 : decode cX11_readsAll 97 = .ok (.aload_n 0, 1) := by decide +kernel
theorem dX11_readsAll_98 : decode cX11_readsAll 98 = .ok (.aload_n 1, 1) := by decide +kernel
theorem dX11_readsAll_99 : decode cX11_readsAll 99 = .ok (.iload 4, 2) := by decide +kernel
theorem dX11_readsAll_101 : decode cX11_readsAll 101 = .ok (.iload 5, 2) := by decide +kernel
theorem dX11_readsAll_103 : decode cX11_readsAll 103 = .ok (.iconst 2, 1) := by decide +kernel
theorem dX11_readsAll_104 : decode cX11_readsAll 104 = .ok (.iload_n 2, 1) := by decide +kernel
theorem dX11_readsAll_105 : decode cX11_readsAll 105 = .ok (.imul, 1) := by decide +kernel
theorem dX11_readsAll_106 : decode cX11_readsAll 106 = .ok (.iload 5, 2) := by decide +kernel
theorem dX11_readsAll_108 : decode cX11_readsAll 108 = .ok (.isub, 1) := by decide +kernel
theorem dX11_readsAll_109 : decode cX11_readsAll 109 = .ok (.iload_n 3, 1) := by decide +kernel
theorem dX11_readsAll_110 : decode cX11_readsAll 110 = .ok (.invokevirtual 165, 3) := by decide +kernel
theorem dX11_readsAll_113 : decode cX11_readsAll 113 = .ok (.iinc 4 1, 3) := by decide +kernel
theorem dX11_readsAll_116 : decode cX11_readsAll 116 = .ok (.goto (-108), 3) := by decide +kernel
theorem dX11_readsAll_119 : decode cX11_readsAll 119 = .ok (.return_, 1) := by decide +kernel
theorem dX11_rightLines_0 : decode cX11_rightLines 0 = .ok (.iconst 0, 1) := by decide +kernel
theorem dX11_rightLines_1 : decode cX11_rightLines 1 = .ok (.istore_n 1, 1) := by decide +kernel
theorem dX11_rightLines_2 : decode cX11_rightLines 2 = .ok (.iconst 0, 1) := by decide +kernel
theorem dX11_rightLines_3 : decode cX11_rightLines 3 = .ok (.istore_n 2, 1) := by decide +kernel
theorem dX11_rightLines_4 : decode cX11_rightLines 4 = .ok (.iload_n 2, 1) := by decide +kernel
theorem dX11_rightLines_5 : decode cX11_rightLines 5 = .ok (.aload_n 0, 1) := by decide +kernel
theorem dX11_rightLines_6 : decode cX11_rightLines 6 = .ok (.getfield 7, 3) := by decide +kernel
theorem dX11_rightLines_9 : decode cX11_rightLines 9 = .ok (.if_icmp .ge 34, 3) := by decide +kernel
theorem dX11_rightLines_12 : decode cX11_rightLines 12 = .ok (.iload_n 1, 1) := by decide +kernel
theorem dX11_rightLines_13 : decode cX11_rightLines 13 = .ok (.aload_n 0, 1) := by decide +kernel
theorem dX11_rightLines_14 : decode cX11_rightLines 14 = .ok (.getfield 44, 3) := by decide +kernel
theorem dX11_rightLines_17 : decode cX11_rightLines 17 = .ok (.iload_n 2, 1) := by decide +kernel
theorem dX11_rightLines_18 : decode cX11_rightLines 18 = .ok (.iaload, 1) := by decide +kernel
theorem dX11_rightLines_19 : decode cX11_rightLines 19 = .ok (.aload_n 0, 1) := by decide +kernel
theorem dX11_rightLines_20 : decode cX11_rightLines 20 = .ok (.getfield 47, 3) := by decide +kernel
theorem dX11_rightLines_23 : decode cX11_rightLines 23 = .ok (.iload_n 2, 1) := by decide +kernel
theorem dX11_rightLines_24 : decode cX11_rightLines 24 = .ok (.iaload, 1) := by decide +kernel
theorem dX11_rightLines_25 : decode cX11_rightLines 25 = .ok (.if_icmp .ne 9, 3) := by decide +kernel
theorem dX11_rightLines_28 : decode cX11_rightLines 28 = .ok (.iconst 1, 1) := by decide +kernel
theorem dX11_rightLines_29 : decode cX11_rightLines 29 = .ok (.iload_n 2, 1) := by decide +kernel
theorem dX11_rightLines_30 : decode cX11_rightLines 30 = .ok (.ishl, 1) := by decide +kernel
theorem dX11_rightLines_31 : decode cX11_rightLines 31 = .ok (.goto 4, 3) := by decide +kernel
theorem dX11_rightLines_34 : decode cX11_rightLines 34 = .ok (.iconst 0, 1) := by decide +kernel
theorem dX11_rightLines_35 : decode cX11_rightLines 35 = .ok (.ior, 1) := by decide +kernel
theorem dX11_rightLines_36 : decode cX11_rightLines 36 = .ok (.istore_n 1, 1) := by decide +kernel
theorem dX11_rightLines_37 : decode cX11_rightLines 37 = .ok (.iinc 2 1, 3) := by decide +kernel
theorem dX11_rightLines_40 : decode cX11_rightLines 40 = .ok (.goto (-36), 3) := by decide +kernel
theorem dX11_rightLines_43 : decode cX11_rightLines 43 = .ok (.iload_n 1, 1) := by decide +kernel
theorem dX11_rightLines_44 : decode cX11_rightLines 44 = .ok (.ireturn, 1) := by decide +kernel
theorem dX11_isRight_0 : decode cX11_isRight 0 = .ok (.aload_n 0, 1) := by decide +kernel
theorem dX11_isRight_1 : decode cX11_isRight 1 = .ok (.aload_n 1, 1) := by decide +kernel
theorem dX11_isRight_2 : decode cX11_isRight 2 = .ok (.iload_n 2, 1) := by decide +kernel
theorem dX11_isRight_3 : decode cX11_isRight 3 = .ok (.iload_n 3, 1) := by decide +kernel
theorem dX11_isRight_4 : decode cX11_isRight 4 = .ok (.invokevirtual 169, 3) := by decide +kernel
theorem dX11_isRight_7 : decode cX11_isRight 7 = .ok (.aload_n 0, 1) := by decide +kernel
theorem dX11_isRight_8 : decode cX11_isRight 8 = .ok (.invokevirtual 173, 3) := by decide +kernel
theorem dX11_isRight_11 : decode cX11_isRight 11 = .ok (.iconst 1, 1) := by decide +kernel
theorem dX11_isRight_12 : decode cX11_isRight 12 = .ok (.aload_n 0, 1) := by decide +kernel
theorem dX11_isRight_13 : decode cX11_isRight 13 = .ok (.getfield 7, 3) := by decide +kernel
theorem dX11_isRight_16 : decode cX11_isRight 16 = .ok (.ishl, 1) := by decide +kernel
theorem dX11_isRight_17 : decode cX11_isRight 17 = .ok (.iconst 1, 1) := by decide +kernel
theorem dX11_isRight_18 : decode cX11_isRight 18 = .ok (.isub, 1) := by decide +kernel
theorem dX11_isRight_19 : decode cX11_isRight 19 = .ok (.if_icmp .ne 7, 3) := by decide +kernel
theorem dX11_isRight_22 : decode cX11_isRight 22 = .ok (.iconst 1, 1) := by decide +kernel
theorem dX11_isRight_23 : decode cX11_isRight 23 = .ok (.goto 4, 3) := by decide +kernel
theorem dX11_isRight_26 : decode cX11_isRight 26 = .ok (.iconst 0, 1) := by decide +kernel
theorem dX11_isRight_27 : decode cX11_isRight 27 = .ok (.ireturn, 1) := by decide +kernel
theorem dX11_rightMany_0 : decode cX11_rightMany 0 = .ok (.aload_n 0, 1) := by decide +kernel
theorem dX11_rightMany_1 : decode cX11_rightMany 1 = .ok (.aload_n 0, 1) := by decide +kernel
theorem dX11_rightMany_2 : decode cX11_rightMany 2 = .ok (.getfield 23, 3) := by decide +kernel
theorem dX11_rightMany_5 : decode cX11_rightMany 5 = .ok (.aload_n 0, 1) := by decide +kernel
theorem dX11_rightMany_6 : decode cX11_rightMany 6 = .ok (.getfield 75, 3) := by decide +kernel
theorem dX11_rightMany_9 : decode cX11_rightMany 9 = .ok (.aload_n 0, 1) := by decide +kernel
theorem dX11_rightMany_10 : decode cX11_rightMany 10 = .ok (.getfield 133, 3) := by decide +kernel
theorem dX11_rightMany_13 : decode cX11_rightMany 13 = .ok (.invokevirtual 169, 3) := by decide +kernel
theorem dX11_rightMany_16 : decode cX11_rightMany 16 = .ok (.aload_n 0, 1) := by decide +kernel
theorem dX11_rightMany_17 : decode cX11_rightMany 17 = .ok (.invokevirtual 173, 3) := by decide +kernel
theorem dX11_rightMany_20 : decode cX11_rightMany 20 = .ok (.istore_n 1, 1) := by decide +kernel
theorem dX11_rightMany_21 : decode cX11_rightMany 21 = .ok (.iconst 0, 1) := by decide +kernel
theorem dX11_rightMany_22 : decode cX11_rightMany 22 = .ok (.istore_n 2, 1) := by decide +kernel
theorem dX11_rightMany_23 : decode cX11_rightMany 23 = .ok (.iconst 0, 1) := by decide +kernel
theorem dX11_rightMany_24 : decode cX11_rightMany 24 = .ok (.istore_n 3, 1) := by decide +kernel
theorem dX11_rightMany_25 : decode cX11_rightMany 25 = .ok (.iload_n 3, 1) := by decide +kernel
theorem dX11_rightMany_26 : decode cX11_rightMany 26 = .ok (.aload_n 0, 1) := by decide +kernel
theorem dX11_rightMany_27 : decode cX11_rightMany 27 = .ok (.getfield 7, 3) := by decide +kernel
theorem dX11_rightMany_30 : decode cX11_rightMany 30 = .ok (.if_icmp .ge 17, 3) := by decide +kernel
theorem dX11_rightMany_33 : decode cX11_rightMany 33 = .ok (.iload_n 2, 1) := by decide +kernel
theorem dX11_rightMany_34 : decode cX11_rightMany 34 = .ok (.iload_n 1, 1) := by decide +kernel
theorem dX11_rightMany_35 : decode cX11_rightMany 35 = .ok (.iload_n 3, 1) := by decide +kernel
theorem dX11_rightMany_36 : decode cX11_rightMany 36 = .ok (.ishr, 1) := by decide +kernel
theorem dX11_rightMany_37 : decode cX11_rightMany 37 = .ok (.iconst 1, 1) := by decide +kernel
theorem dX11_rightMany_38 : decode cX11_rightMany 38 = .ok (.iand, 1) := by decide +kernel
theorem dX11_rightMany_39 : decode cX11_rightMany 39 = .ok (.iadd, 1) := by decide +kernel
theorem dX11_rightMany_40 : decode cX11_rightMany 40 = .ok (.istore_n 2, 1) := by decide +kernel
theorem dX11_rightMany_41 : decode cX11_rightMany 41 = .ok (.iinc 3 1, 3) := by decide +kernel
theorem dX11_rightMany_44 : decode cX11_rightMany 44 = .ok (.goto (-19), 3) := by decide +kernel
theorem dX11_rightMany_47 : decode cX11_rightMany 47 = .ok (.iload_n 2, 1) := by decide +kernel
theorem dX11_rightMany_48 : decode cX11_rightMany 48 = .ok (.ireturn, 1) := by decide +kernel
theorem dX11_rightRunsNow_0 : decode cX11_rightRunsNow 0 = .ok (.aload_n 0, 1) := by decide +kernel
theorem dX11_rightRunsNow_1 : decode cX11_rightRunsNow 1 = .ok (.aload_n 0, 1) := by decide +kernel
theorem dX11_rightRunsNow_2 : decode cX11_rightRunsNow 2 = .ok (.getfield 23, 3) := by decide +kernel
theorem dX11_rightRunsNow_5 : decode cX11_rightRunsNow 5 = .ok (.aload_n 0, 1) := by decide +kernel
theorem dX11_rightRunsNow_6 : decode cX11_rightRunsNow 6 = .ok (.getfield 75, 3) := by decide +kernel
theorem dX11_rightRunsNow_9 : decode cX11_rightRunsNow 9 = .ok (.aload_n 0, 1) := by decide +kernel
theorem dX11_rightRunsNow_10 : decode cX11_rightRunsNow 10 = .ok (.getfield 133, 3) := by decide +kernel
theorem dX11_rightRunsNow_13 : decode cX11_rightRunsNow 13 = .ok (.invokevirtual 169, 3) := by decide +kernel
theorem dX11_rightRunsNow_16 : decode cX11_rightRunsNow 16 = .ok (.iconst 0, 1) := by decide +kernel
theorem dX11_rightRunsNow_17 : decode cX11_rightRunsNow 17 = .ok (.istore_n 1, 1) := by decide +kernel
theorem dX11_rightRunsNow_18 : decode cX11_rightRunsNow 18 = .ok (.iconst 0, 1) := by decide +kernel
theorem dX11_rightRunsNow_19 : decode cX11_rightRunsNow 19 = .ok (.istore_n 2, 1) := by decide +kernel
theorem dX11_rightRunsNow_20 : decode cX11_rightRunsNow 20 = .ok (.iload_n 2, 1) := by decide +kernel
theorem dX11_rightRunsNow_21 : decode cX11_rightRunsNow 21 = .ok (.aload_n 0, 1) := by decide +kernel
theorem dX11_rightRunsNow_22 : decode cX11_rightRunsNow 22 = .ok (.getfield 7, 3) := by decide +kernel
theorem dX11_rightRunsNow_25 : decode cX11_rightRunsNow 25 = .ok (.if_icmp .ge 18, 3) := by decide +kernel
theorem dX11_rightRunsNow_28 : decode cX11_rightRunsNow 28 = .ok (.iload_n 1, 1) := by decide +kernel
theorem dX11_rightRunsNow_29 : decode cX11_rightRunsNow 29 = .ok (.aload_n 0, 1) := by decide +kernel
theorem dX11_rightRunsNow_30 : decode cX11_rightRunsNow 30 = .ok (.getfield 47, 3) := by decide +kernel
theorem dX11_rightRunsNow_33 : decode cX11_rightRunsNow 33 = .ok (.iload_n 2, 1) := by decide +kernel
theorem dX11_rightRunsNow_34 : decode cX11_rightRunsNow 34 = .ok (.iaload, 1) := by decide +kernel
theorem dX11_rightRunsNow_35 : decode cX11_rightRunsNow 35 = .ok (.iadd, 1) := by decide +kernel
theorem dX11_rightRunsNow_36 : decode cX11_rightRunsNow 36 = .ok (.istore_n 1, 1) := by decide +kernel
theorem dX11_rightRunsNow_37 : decode cX11_rightRunsNow 37 = .ok (.iinc 2 1, 3) := by decide +kernel
theorem dX11_rightRunsNow_40 : decode cX11_rightRunsNow 40 = .ok (.goto (-20), 3) := by decide +kernel
theorem dX11_rightRunsNow_43 : decode cX11_rightRunsNow 43 = .ok (.iload_n 1, 1) := by decide +kernel
theorem dX11_rightRunsNow_44 : decode cX11_rightRunsNow 44 = .ok (.ireturn, 1) := by decide +kernel
theorem dX11_placeOf_0 : decode cX11_placeOf 0 = .ok (.bipush (-9), 2) := by decide +kernel
theorem dX11_placeOf_2 : decode cX11_placeOf 2 = .ok (.istore_n 2, 1) := by decide +kernel
theorem dX11_placeOf_3 : decode cX11_placeOf 3 = .ok (.iconst 0, 1) := by decide +kernel
theorem dX11_placeOf_4 : decode cX11_placeOf 4 = .ok (.istore_n 3, 1) := by decide +kernel
theorem dX11_placeOf_5 : decode cX11_placeOf 5 = .ok (.iload_n 3, 1) := by decide +kernel
theorem dX11_placeOf_6 : decode cX11_placeOf 6 = .ok (.aload_n 0, 1) := by decide +kernel
theorem dX11_placeOf_7 : decode cX11_placeOf 7 = .ok (.getfield 75, 3) := by decide +kernel
theorem dX11_placeOf_10 : decode cX11_placeOf 10 = .ok (.if_icmp .ge 25, 3) := by decide +kernel
theorem dX11_placeOf_13 : decode cX11_placeOf 13 = .ok (.aload_n 0, 1) := by decide +kernel
theorem dX11_placeOf_14 : decode cX11_placeOf 14 = .ok (.getfield 23, 3) := by decide +kernel
theorem dX11_placeOf_17 : decode cX11_placeOf 17 = .ok (.iload_n 3, 1) := by decide +kernel
theorem dX11_placeOf_18 : decode cX11_placeOf 18 = .ok (.iaload, 1) := by decide +kernel
theorem dX11_placeOf_19 : decode cX11_placeOf 19 = .ok (.iload_n 1, 1) := by decide +kernel
theorem dX11_placeOf_20 : decode cX11_placeOf 20 = .ok (.if_icmp .ne 7, 3) := by decide +kernel
theorem dX11_placeOf_23 : decode cX11_placeOf 23 = .ok (.iload_n 3, 1) := by decide +kernel
theorem dX11_placeOf_24 : decode cX11_placeOf 24 = .ok (.goto 4, 3) := by decide +kernel
theorem dX11_placeOf_27 : decode cX11_placeOf 27 = .ok (.iload_n 2, 1) := by decide +kernel
theorem dX11_placeOf_28 : decode cX11_placeOf 28 = .ok (.istore_n 2, 1) := by decide +kernel
theorem dX11_placeOf_29 : decode cX11_placeOf 29 = .ok (.iinc 3 1, 3) := by decide +kernel
theorem dX11_placeOf_32 : decode cX11_placeOf 32 = .ok (.goto (-27), 3) := by decide +kernel
theorem dX11_placeOf_35 : decode cX11_placeOf 35 = .ok (.iload_n 2, 1) := by decide +kernel
theorem dX11_placeOf_36 : decode cX11_placeOf 36 = .ok (.ireturn, 1) := by decide +kernel
theorem dX11_lettersOn_0 : decode cX11_lettersOn 0 = .ok (.iconst 0, 1) := by decide +kernel
theorem dX11_lettersOn_1 : decode cX11_lettersOn 1 = .ok (.istore_n 2, 1) := by decide +kernel
theorem dX11_lettersOn_2 : decode cX11_lettersOn 2 = .ok (.iconst 0, 1) := by decide +kernel
theorem dX11_lettersOn_3 : decode cX11_lettersOn 3 = .ok (.istore_n 3, 1) := by decide +kernel
theorem dX11_lettersOn_4 : decode cX11_lettersOn 4 = .ok (.iload_n 3, 1) := by decide +kernel
theorem dX11_lettersOn_5 : decode cX11_lettersOn 5 = .ok (.iconst 2, 1) := by decide +kernel
theorem dX11_lettersOn_6 : decode cX11_lettersOn 6 = .ok (.aload_n 0, 1) := by decide +kernel
theorem dX11_lettersOn_7 : decode cX11_lettersOn 7 = .ok (.getfield 7, 3) := by decide +kernel
theorem dX11_lettersOn_10 : decode cX11_lettersOn 10 = .ok (.imul, 1) := by decide +kernel
theorem dX11_lettersOn_11 : decode cX11_lettersOn 11 = .ok (.if_icmp .ge 43, 3) := by decide +kernel
theorem dX11_lettersOn_14 : decode cX11_lettersOn 14 = .ok (.aload_n 0, 1) := by decide +kernel
theorem dX11_lettersOn_15 : decode cX11_lettersOn 15 = .ok (.getfield 13, 3) := by decide +kernel
theorem dX11_lettersOn_18 : decode cX11_lettersOn 18 = .ok (.bipush 6, 2) := by decide +kernel
theorem dX11_lettersOn_20 : decode cX11_lettersOn 20 = .ok (.iload_n 1, 1) := by decide +kernel
theorem dX11_lettersOn_21 : decode cX11_lettersOn 21 = .ok (.imul, 1) := by decide +kernel
theorem dX11_lettersOn_22 : decode cX11_lettersOn 22 = .ok (.iload_n 3, 1) := by decide +kernel
theorem dX11_lettersOn_23 : decode cX11_lettersOn 23 = .ok (.iadd, 1) := by decide +kernel
theorem dX11_lettersOn_24 : decode cX11_lettersOn 24 = .ok (.iaload, 1) := by decide +kernel
theorem dX11_lettersOn_25 : decode cX11_lettersOn 25 = .ok (.istore 4, 2) := by decide +kernel
theorem dX11_lettersOn_27 : decode cX11_lettersOn 27 = .ok (.iload_n 2, 1) := by decide +kernel
theorem dX11_lettersOn_28 : decode cX11_lettersOn 28 = .ok (.iload 4, 2) := by decide +kernel
theorem dX11_lettersOn_30 : decode cX11_lettersOn 30 = .ok (.bipush 46, 2) := by decide +kernel
theorem dX11_lettersOn_32 : decode cX11_lettersOn 32 = .ok (.if_icmp .ne 7, 3) := by decide +kernel
theorem dX11_lettersOn_35 : decode cX11_lettersOn 35 = .ok (.iconst 0, 1) := by decide +kernel
theorem dX11_lettersOn_36 : decode cX11_lettersOn 36 = .ok (.goto 10, 3) := by decide +kernel
theorem dX11_lettersOn_39 : decode cX11_lettersOn 39 = .ok (.iconst 1, 1) := by decide +kernel
theorem dX11_lettersOn_40 : decode cX11_lettersOn 40 = .ok (.iload 4, 2) := by decide +kernel
theorem dX11_lettersOn_42 : decode cX11_lettersOn 42 = .ok (.bipush 97, 2) := by decide +kernel
theorem dX11_lettersOn_44 : decode cX11_lettersOn 44 = .ok (.isub, 1) := by decide +kernel
theorem dX11_lettersOn_45 : decode cX11_lettersOn 45 = .ok (.ishl, 1) := by decide +kernel
theorem dX11_lettersOn_46 : decode cX11_lettersOn 46 = .ok (.ior, 1) := by decide +kernel
theorem dX11_lettersOn_47 : decode cX11_lettersOn 47 = .ok (.istore_n 2, 1) := by decide +kernel
theorem dX11_lettersOn_48 : decode cX11_lettersOn 48 = .ok (.iinc 3 1, 3) := by decide +kernel
theorem dX11_lettersOn_51 : decode cX11_lettersOn 51 = .ok (.goto (-47), 3) := by decide +kernel
theorem dX11_lettersOn_54 : decode cX11_lettersOn 54 = .ok (.iload_n 2, 1) := by decide +kernel
theorem dX11_lettersOn_55 : decode cX11_lettersOn 55 = .ok (.ireturn, 1) := by decide +kernel
theorem dX11_blanksOn_0 : decode cX11_blanksOn 0 = .ok (.iconst 0, 1) := by decide +kernel
theorem dX11_blanksOn_1 : decode cX11_blanksOn 1 = .ok (.istore_n 2, 1) := by decide +kernel
theorem dX11_blanksOn_2 : decode cX11_blanksOn 2 = .ok (.iconst 0, 1) := by decide +kernel
theorem dX11_blanksOn_3 : decode cX11_blanksOn 3 = .ok (.istore_n 3, 1) := by decide +kernel
theorem dX11_blanksOn_4 : decode cX11_blanksOn 4 = .ok (.iload_n 3, 1) := by decide +kernel
theorem dX11_blanksOn_5 : decode cX11_blanksOn 5 = .ok (.iconst 2, 1) := by decide +kernel
theorem dX11_blanksOn_6 : decode cX11_blanksOn 6 = .ok (.aload_n 0, 1) := by decide +kernel
theorem dX11_blanksOn_7 : decode cX11_blanksOn 7 = .ok (.getfield 7, 3) := by decide +kernel
theorem dX11_blanksOn_10 : decode cX11_blanksOn 10 = .ok (.imul, 1) := by decide +kernel
theorem dX11_blanksOn_11 : decode cX11_blanksOn 11 = .ok (.if_icmp .ge 33, 3) := by decide +kernel
theorem dX11_blanksOn_14 : decode cX11_blanksOn 14 = .ok (.iload_n 2, 1) := by decide +kernel
theorem dX11_blanksOn_15 : decode cX11_blanksOn 15 = .ok (.aload_n 0, 1) := by decide +kernel
theorem dX11_blanksOn_16 : decode cX11_blanksOn 16 = .ok (.getfield 13, 3) := by decide +kernel
theorem dX11_blanksOn_19 : decode cX11_blanksOn 19 = .ok (.bipush 6, 2) := by decide +kernel
theorem dX11_blanksOn_21 : decode cX11_blanksOn 21 = .ok (.iload_n 1, 1) := by decide +kernel
theorem dX11_blanksOn_22 : decode cX11_blanksOn 22 = .ok (.imul, 1) := by decide +kernel
theorem dX11_blanksOn_23 : decode cX11_blanksOn 23 = .ok (.iload_n 3, 1) := by decide +kernel
theorem dX11_blanksOn_24 : decode cX11_blanksOn 24 = .ok (.iadd, 1) := by decide +kernel
theorem dX11_blanksOn_25 : decode cX11_blanksOn 25 = .ok (.iaload, 1) := by decide +kernel
theorem dX11_blanksOn_26 : decode cX11_blanksOn 26 = .ok (.bipush 46, 2) := by decide +kernel
theorem dX11_blanksOn_28 : decode cX11_blanksOn 28 = .ok (.if_icmp .ne 7, 3) := by decide +kernel
theorem dX11_blanksOn_31 : decode cX11_blanksOn 31 = .ok (.iconst 1, 1) := by decide +kernel
theorem dX11_blanksOn_32 : decode cX11_blanksOn 32 = .ok (.goto 4, 3) := by decide +kernel
theorem dX11_blanksOn_35 : decode cX11_blanksOn 35 = .ok (.iconst 0, 1) := by decide +kernel
theorem dX11_blanksOn_36 : decode cX11_blanksOn 36 = .ok (.iadd, 1) := by decide +kernel
theorem dX11_blanksOn_37 : decode cX11_blanksOn 37 = .ok (.istore_n 2, 1) := by decide +kernel
theorem dX11_blanksOn_38 : decode cX11_blanksOn 38 = .ok (.iinc 3 1, 3) := by decide +kernel
theorem dX11_blanksOn_41 : decode cX11_blanksOn 41 = .ok (.goto (-37), 3) := by decide +kernel
theorem dX11_blanksOn_44 : decode cX11_blanksOn 44 = .ok (.iload_n 2, 1) := by decide +kernel
theorem dX11_blanksOn_45 : decode cX11_blanksOn 45 = .ok (.ireturn, 1) := by decide +kernel
theorem dX11_strip_0 : decode cX11_strip 0 = .ok (.aload_n 0, 1) := by decide +kernel
theorem dX11_strip_1 : decode cX11_strip 1 = .ok (.iload_n 1, 1) := by decide +kernel
theorem dX11_strip_2 : decode cX11_strip 2 = .ok (.invokevirtual 176, 3) := by decide +kernel
theorem dX11_strip_5 : decode cX11_strip 5 = .ok (.ifCond .eq 12, 3) := by decide +kernel
theorem dX11_strip_8 : decode cX11_strip 8 = .ok (.iload_n 2, 1) := by decide +kernel
theorem dX11_strip_9 : decode cX11_strip 9 = .ok (.iconst 0, 1) := by decide +kernel
theorem dX11_strip_10 : decode cX11_strip 10 = .ok (.iconst 3, 1) := by decide +kernel
theorem dX11_strip_11 : decode cX11_strip 11 = .ok (.invokestatic 71, 3) := by decide +kernel
theorem dX11_strip_14 : decode cX11_strip 14 = .ok (.ifCond .ne 5, 3) := by decide +kernel
theorem dX11_strip_17 : decode cX11_strip 17 = .ok (.iconst (-1), 1) := by decide +kernel
theorem dX11_strip_18 : decode cX11_strip 18 = .ok (.ireturn, 1) := by decide +kernel
theorem dX11_strip_19 : decode cX11_strip 19 = .ok (.iload_n 2, 1) := by decide +kernel
theorem dX11_strip_20 : decode cX11_strip 20 = .ok (.ifCond .ne 11, 3) := by decide +kernel
theorem dX11_strip_23 : decode cX11_strip 23 = .ok (.aload_n 0, 1) := by decide +kernel
theorem dX11_strip_24 : decode cX11_strip 24 = .ok (.iload_n 1, 1) := by decide +kernel
theorem dX11_strip_25 : decode cX11_strip 25 = .ok (.invokevirtual 179, 3) := by decide +kernel
theorem dX11_strip_28 : decode cX11_strip 28 = .ok (.goto 37, 3) := by decide +kernel
theorem dX11_strip_31 : decode cX11_strip 31 = .ok (.iload_n 2, 1) := by decide +kernel
theorem dX11_strip_32 : decode cX11_strip 32 = .ok (.iconst 1, 1) := by decide +kernel
theorem dX11_strip_33 : decode cX11_strip 33 = .ok (.if_icmp .ne 14, 3) := by decide +kernel
theorem dX11_strip_36 : decode cX11_strip 36 = .ok (.aload_n 0, 1) := by decide +kernel
theorem dX11_strip_37 : decode cX11_strip 37 = .ok (.getfield 133, 3) := by decide +kernel
theorem dX11_strip_40 : decode cX11_strip 40 = .ok (.iload_n 1, 1) := by decide +kernel
theorem dX11_strip_41 : decode cX11_strip 41 = .ok (.ishr, 1) := by decide +kernel
theorem dX11_strip_42 : decode cX11_strip 42 = .ok (.iconst 1, 1) := by decide +kernel
theorem dX11_strip_43 : decode cX11_strip 43 = .ok (.iand, 1) := by decide +kernel
theorem dX11_strip_44 : decode cX11_strip 44 = .ok (.goto 21, 3) := by decide +kernel
theorem dX11_strip_47 : decode cX11_strip 47 = .ok (.iload_n 2, 1) := by decide +kernel
theorem dX11_strip_48 : decode cX11_strip 48 = .ok (.iconst 2, 1) := by decide +kernel
theorem dX11_strip_49 : decode cX11_strip 49 = .ok (.if_icmp .ne 11, 3) := by decide +kernel
theorem dX11_strip_52 : decode cX11_strip 52 = .ok (.aload_n 0, 1) := by decide +kernel
theorem dX11_strip_53 : decode cX11_strip 53 = .ok (.iload_n 1, 1) := by decide +kernel
theorem dX11_strip_54 : decode cX11_strip 54 = .ok (.invokevirtual 183, 3) := by decide +kernel
theorem dX11_strip_57 : decode cX11_strip 57 = .ok (.goto 8, 3) := by decide +kernel
theorem dX11_strip_60 : decode cX11_strip 60 = .ok (.aload_n 0, 1) := by decide +kernel
theorem dX11_strip_61 : decode cX11_strip 61 = .ok (.iload_n 1, 1) := by decide +kernel
theorem dX11_strip_62 : decode cX11_strip 62 = .ok (.invokevirtual 186, 3) := by decide +kernel
theorem dX11_strip_65 : decode cX11_strip 65 = .ok (.ireturn, 1) := by decide +kernel
theorem dX11_sign_0 : decode cX11_sign 0 = .ok (.aload_n 0, 1) := by decide +kernel
theorem dX11_sign_1 : decode cX11_sign 1 = .ok (.iload_n 1, 1) := by decide +kernel
theorem dX11_sign_2 : decode cX11_sign 2 = .ok (.invokevirtual 176, 3) := by decide +kernel
theorem dX11_sign_5 : decode cX11_sign 5 = .ok (.ifCond .eq 34, 3) := by decide +kernel
theorem dX11_sign_8 : decode cX11_sign 8 = .ok (.aload_n 0, 1) := by decide +kernel
theorem dX11_sign_9 : decode cX11_sign 9 = .ok (.iload_n 2, 1) := by decide +kernel
theorem dX11_sign_10 : decode cX11_sign 10 = .ok (.invokevirtual 189, 3) := by decide +kernel
theorem dX11_sign_13 : decode cX11_sign 13 = .ok (.ifCond .eq 26, 3) := by decide +kernel
theorem dX11_sign_16 : decode cX11_sign 16 = .ok (.iload_n 3, 1) := by decide +kernel
theorem dX11_sign_17 : decode cX11_sign 17 = .ok (.iconst 0, 1) := by decide +kernel
theorem dX11_sign_18 : decode cX11_sign 18 = .ok (.iconst 1, 1) := by decide +kernel
theorem dX11_sign_19 : decode cX11_sign 19 = .ok (.invokestatic 71, 3) := by decide +kernel
theorem dX11_sign_22 : decode cX11_sign 22 = .ok (.ifCond .eq 17, 3) := by decide +kernel
theorem dX11_sign_25 : decode cX11_sign 25 = .ok (.aload_n 0, 1) := by decide +kernel
theorem dX11_sign_26 : decode cX11_sign 26 = .ok (.getfield 13, 3) := by decide +kernel
theorem dX11_sign_29 : decode cX11_sign 29 = .ok (.iload_n 1, 1) := by decide +kernel
theorem dX11_sign_30 : decode cX11_sign 30 = .ok (.iload_n 2, 1) := by decide +kernel
theorem dX11_sign_31 : decode cX11_sign 31 = .ok (.iload_n 3, 1) := by decide +kernel
theorem dX11_sign_32 : decode cX11_sign 32 = .ok (.invokestatic 108, 3) := by decide +kernel
theorem dX11_sign_35 : decode cX11_sign 35 = .ok (.iaload, 1) := by decide +kernel
theorem dX11_sign_36 : decode cX11_sign 36 = .ok (.goto 4, 3) := by decide +kernel
theorem dX11_sign_39 : decode cX11_sign 39 = .ok (.iconst (-1), 1) := by decide +kernel
theorem dX11_sign_40 : decode cX11_sign 40 = .ok (.ireturn, 1) := by decide +kernel
theorem dX11_place_0 : decode cX11_place 0 = .ok (.aload_n 0, 1) := by decide +kernel
theorem dX11_place_1 : decode cX11_place 1 = .ok (.iload_n 1, 1) := by decide +kernel
theorem dX11_place_2 : decode cX11_place 2 = .ok (.invokevirtual 192, 3) := by decide +kernel
theorem dX11_place_5 : decode cX11_place 5 = .ok (.ifCond .eq 12, 3) := by decide +kernel
theorem dX11_place_8 : decode cX11_place 8 = .ok (.aload_n 0, 1) := by decide +kernel
theorem dX11_place_9 : decode cX11_place 9 = .ok (.getfield 23, 3) := by decide +kernel
theorem dX11_place_12 : decode cX11_place 12 = .ok (.iload_n 1, 1) := by decide +kernel
theorem dX11_place_13 : decode cX11_place 13 = .ok (.iaload, 1) := by decide +kernel
theorem dX11_place_14 : decode cX11_place 14 = .ok (.goto 4, 3) := by decide +kernel
theorem dX11_place_17 : decode cX11_place 17 = .ok (.iconst (-1), 1) := by decide +kernel
theorem dX11_place_18 : decode cX11_place 18 = .ok (.ireturn, 1) := by decide +kernel
theorem dX11_word_0 : decode cX11_word 0 = .ok (.iload_n 1, 1) := by decide +kernel
theorem dX11_word_1 : decode cX11_word 1 = .ok (.iconst 0, 1) := by decide +kernel
theorem dX11_word_2 : decode cX11_word 2 = .ok (.aload_n 0, 1) := by decide +kernel
theorem dX11_word_3 : decode cX11_word 3 = .ok (.getfield 130, 3) := by decide +kernel
theorem dX11_word_6 : decode cX11_word 6 = .ok (.iconst 1, 1) := by decide +kernel
theorem dX11_word_7 : decode cX11_word 7 = .ok (.isub, 1) := by decide +kernel
theorem dX11_word_8 : decode cX11_word 8 = .ok (.invokestatic 71, 3) := by decide +kernel
theorem dX11_word_11 : decode cX11_word 11 = .ok (.ifCond .eq 12, 3) := by decide +kernel
theorem dX11_word_14 : decode cX11_word 14 = .ok (.iload_n 2, 1) := by decide +kernel
theorem dX11_word_15 : decode cX11_word 15 = .ok (.iconst 0, 1) := by decide +kernel
theorem dX11_word_16 : decode cX11_word 16 = .ok (.iconst 5, 1) := by decide +kernel
theorem dX11_word_17 : decode cX11_word 17 = .ok (.invokestatic 71, 3) := by decide +kernel
theorem dX11_word_20 : decode cX11_word 20 = .ok (.ifCond .ne 5, 3) := by decide +kernel
theorem dX11_word_23 : decode cX11_word 23 = .ok (.iconst (-1), 1) := by decide +kernel
theorem dX11_word_24 : decode cX11_word 24 = .ok (.ireturn, 1) := by decide +kernel
theorem dX11_word_25 : decode cX11_word 25 = .ok (.iload_n 2, 1) := by decide +kernel
theorem dX11_word_26 : decode cX11_word 26 = .ok (.aload_n 0, 1) := by decide +kernel
theorem dX11_word_27 : decode cX11_word 27 = .ok (.getfield 20, 3) := by decide +kernel
theorem dX11_word_30 : decode cX11_word 30 = .ok (.iload_n 1, 1) := by decide +kernel
theorem dX11_word_31 : decode cX11_word 31 = .ok (.iaload, 1) := by decide +kernel
theorem dX11_word_32 : decode cX11_word 32 = .ok (.if_icmp .ge 17, 3) := by decide +kernel
theorem dX11_word_35 : decode cX11_word 35 = .ok (.aload_n 0, 1) := by decide +kernel
theorem dX11_word_36 : decode cX11_word 36 = .ok (.getfield 17, 3) := by decide +kernel
theorem dX11_word_39 : decode cX11_word 39 = .ok (.bipush 6, 2) := by decide +kernel
theorem dX11_word_41 : decode cX11_word 41 = .ok (.iload_n 1, 1) := by decide +kernel
theorem dX11_word_42 : decode cX11_word 42 = .ok (.imul, 1) := by decide +kernel
theorem dX11_word_43 : decode cX11_word 43 = .ok (.iload_n 2, 1) := by decide +kernel
theorem dX11_word_44 : decode cX11_word 44 = .ok (.iadd, 1) := by decide +kernel
theorem dX11_word_45 : decode cX11_word 45 = .ok (.iaload, 1) := by decide +kernel
theorem dX11_word_46 : decode cX11_word 46 = .ok (.goto 5, 3) := by decide +kernel
theorem dX11_word_49 : decode cX11_word 49 = .ok (.bipush (-9), 2) := by decide +kernel
theorem dX11_word_51 : decode cX11_word 51 = .ok (.ireturn, 1) := by decide +kernel
theorem dX11_writes_0 : decode cX11_writes 0 = .ok (.aload_n 1, 1) := by decide +kernel
theorem dX11_writes_1 : decode cX11_writes 1 = .ok (.iload_n 2, 1) := by decide +kernel
theorem dX11_writes_2 : decode cX11_writes 2 = .ok (.aload_n 0, 1) := by decide +kernel
theorem dX11_writes_3 : decode cX11_writes 3 = .ok (.getfield 75, 3) := by decide +kernel
theorem dX11_writes_6 : decode cX11_writes 6 = .ok (.iastore, 1) := by decide +kernel
theorem dX11_writes_7 : decode cX11_writes 7 = .ok (.aload_n 1, 1) := by decide +kernel
theorem dX11_writes_8 : decode cX11_writes 8 = .ok (.iload_n 2, 1) := by decide +kernel
theorem dX11_writes_9 : decode cX11_writes 9 = .ok (.iconst 1, 1) := by decide +kernel
theorem dX11_writes_10 : decode cX11_writes 10 = .ok (.iadd, 1) := by decide +kernel
theorem dX11_writes_11 : decode cX11_writes 11 = .ok (.aload_n 0, 1) := by decide +kernel
theorem dX11_writes_12 : decode cX11_writes 12 = .ok (.getfield 133, 3) := by decide +kernel
theorem dX11_writes_15 : decode cX11_writes 15 = .ok (.iastore, 1) := by decide +kernel
theorem dX11_writes_16 : decode cX11_writes 16 = .ok (.iconst 0, 1) := by decide +kernel
theorem dX11_writes_17 : decode cX11_writes 17 = .ok (.istore_n 3, 1) := by decide +kernel
theorem dX11_writes_18 : decode cX11_writes 18 = .ok (.iload_n 3, 1) := by decide +kernel
theorem dX11_writes_19 : decode cX11_writes 19 = .ok (.bipush 6, 2) := by decide +kernel
theorem dX11_writes_21 : decode cX11_writes 21 = .ok (.if_icmp .ge 22, 3) := by decide +kernel
theorem dX11_writes_24 : decode cX11_writes 24 = .ok (.aload_n 1, 1) := by decide +kernel
theorem dX11_writes_25 : decode cX11_writes 25 = .ok (.iload_n 2, 1) := by decide +kernel
theorem dX11_writes_26 : decode cX11_writes 26 = .ok (.iconst 2, 1) := by decide +kernel
theorem dX11_writes_27 : decode cX11_writes 27 = .ok (.iadd, 1) := by decide +kernel
theorem dX11_writes_28 : decode cX11_writes 28 = .ok (.iload_n 3, 1) := by decide +kernel
theorem dX11_writes_29 : decode cX11_writes 29 = .ok (.iadd, 1) := by decide +kernel
theorem dX11_writes_30 : decode cX11_writes 30 = .ok (.aload_n 0, 1) := by decide +kernel
theorem dX11_writes_31 : decode cX11_writes 31 = .ok (.getfield 23, 3) := by decide +kernel
theorem dX11_writes_34 : decode cX11_writes 34 = .ok (.iload_n 3, 1) := by decide +kernel
theorem dX11_writes_35 : decode cX11_writes 35 = .ok (.iaload, 1) := by decide +kernel
theorem dX11_writes_36 : decode cX11_writes 36 = .ok (.iastore, 1) := by decide +kernel
theorem dX11_writes_37 : decode cX11_writes 37 = .ok (.iinc 3 1, 3) := by decide +kernel
theorem dX11_writes_40 : decode cX11_writes 40 = .ok (.goto (-22), 3) := by decide +kernel
theorem dX11_writes_43 : decode cX11_writes 43 = .ok (.return_, 1) := by decide +kernel
theorem dX11_readsBack_0 : decode cX11_readsBack 0 = .ok (.aload_n 0, 1) := by decide +kernel
theorem dX11_readsBack_1 : decode cX11_readsBack 1 = .ok (.aload_n 1, 1) := by decide +kernel
theorem dX11_readsBack_2 : decode cX11_readsBack 2 = .ok (.iload_n 2, 1) := by decide +kernel
theorem dX11_readsBack_3 : decode cX11_readsBack 3 = .ok (.iaload, 1) := by decide +kernel
theorem dX11_readsBack_4 : decode cX11_readsBack 4 = .ok (.putfield 75, 3) := by decide +kernel
theorem dX11_readsBack_7 : decode cX11_readsBack 7 = .ok (.aload_n 0, 1) := by decide +kernel
theorem dX11_readsBack_8 : decode cX11_readsBack 8 = .ok (.aload_n 1, 1) := by decide +kernel
theorem dX11_readsBack_9 : decode cX11_readsBack 9 = .ok (.iload_n 2, 1) := by decide +kernel
theorem dX11_readsBack_10 : decode cX11_readsBack 10 = .ok (.iconst 1, 1) := by decide +kernel
theorem dX11_readsBack_11 : decode cX11_readsBack 11 = .ok (.iadd, 1) := by decide +kernel
theorem dX11_readsBack_12 : decode cX11_readsBack 12 = .ok (.iaload, 1) := by decide +kernel
theorem dX11_readsBack_13 : decode cX11_readsBack 13 = .ok (.putfield 133, 3) := by decide +kernel
theorem dX11_readsBack_16 : decode cX11_readsBack 16 = .ok (.iconst 0, 1) := by decide +kernel
theorem dX11_readsBack_17 : decode cX11_readsBack 17 = .ok (.istore_n 3, 1) := by decide +kernel
theorem dX11_readsBack_18 : decode cX11_readsBack 18 = .ok (.iload_n 3, 1) := by decide +kernel
theorem dX11_readsBack_19 : decode cX11_readsBack 19 = .ok (.bipush 6, 2) := by decide +kernel
theorem dX11_readsBack_21 : decode cX11_readsBack 21 = .ok (.if_icmp .ge 22, 3) := by decide +kernel
theorem dX11_readsBack_24 : decode cX11_readsBack 24 = .ok (.aload_n 0, 1) := by decide +kernel
theorem dX11_readsBack_25 : decode cX11_readsBack 25 = .ok (.getfield 23, 3) := by decide +kernel
theorem dX11_readsBack_28 : decode cX11_readsBack 28 = .ok (.iload_n 3, 1) := by decide +kernel
theorem dX11_readsBack_29 : decode cX11_readsBack 29 = .ok (.aload_n 1, 1) := by decide +kernel
theorem dX11_readsBack_30 : decode cX11_readsBack 30 = .ok (.iload_n 2, 1) := by decide +kernel
theorem dX11_readsBack_31 : decode cX11_readsBack 31 = .ok (.iconst 2, 1) := by decide +kernel
theorem dX11_readsBack_32 : decode cX11_readsBack 32 = .ok (.iadd, 1) := by decide +kernel
theorem dX11_readsBack_33 : decode cX11_readsBack 33 = .ok (.iload_n 3, 1) := by decide +kernel
theorem dX11_readsBack_34 : decode cX11_readsBack 34 = .ok (.iadd, 1) := by decide +kernel
theorem dX11_readsBack_35 : decode cX11_readsBack 35 = .ok (.iaload, 1) := by decide +kernel
theorem dX11_readsBack_36 : decode cX11_readsBack 36 = .ok (.iastore, 1) := by decide +kernel
theorem dX11_readsBack_37 : decode cX11_readsBack 37 = .ok (.iinc 3 1, 3) := by decide +kernel
theorem dX11_readsBack_40 : decode cX11_readsBack 40 = .ok (.goto (-22), 3) := by decide +kernel
theorem dX11_readsBack_43 : decode cX11_readsBack 43 = .ok (.return_, 1) := by decide +kernel
theorem dX11_notes_0 : decode cX11_notes 0 = .ok (.aload_n 0, 1) := by decide +kernel
theorem dX11_notes_1 : decode cX11_notes 1 = .ok (.getfield 139, 3) := by decide +kernel
theorem dX11_notes_4 : decode cX11_notes 4 = .ok (.bipush 10, 2) := by decide +kernel
theorem dX11_notes_6 : decode cX11_notes 6 = .ok (.if_icmp .ne 42, 3) := by decide +kernel
theorem dX11_notes_9 : decode cX11_notes 9 = .ok (.iconst 0, 1) := by decide +kernel
theorem dX11_notes_10 : decode cX11_notes 10 = .ok (.istore_n 1, 1) := by decide +kernel
theorem dX11_notes_11 : decode cX11_notes 11 = .ok (.iload_n 1, 1) := by decide +kernel
theorem dX11_notes_12 : decode cX11_notes 12 = .ok (.bipush 72, 2) := by decide +kernel
theorem dX11_notes_14 : decode cX11_notes 14 = .ok (.if_icmp .ge 24, 3) := by decide +kernel
theorem dX11_notes_17 : decode cX11_notes 17 = .ok (.aload_n 0, 1) := by decide +kernel
theorem dX11_notes_18 : decode cX11_notes 18 = .ok (.getfield 53, 3) := by decide +kernel
theorem dX11_notes_21 : decode cX11_notes 21 = .ok (.iload_n 1, 1) := by decide +kernel
theorem dX11_notes_22 : decode cX11_notes 22 = .ok (.aload_n 0, 1) := by decide +kernel
theorem dX11_notes_23 : decode cX11_notes 23 = .ok (.getfield 53, 3) := by decide +kernel
theorem dX11_notes_26 : decode cX11_notes 26 = .ok (.iload_n 1, 1) := by decide +kernel
theorem dX11_notes_27 : decode cX11_notes 27 = .ok (.bipush 8, 2) := by decide +kernel
theorem dX11_notes_29 : decode cX11_notes 29 = .ok (.iadd, 1) := by decide +kernel
theorem dX11_notes_30 : decode cX11_notes 30 = .ok (.iaload, 1) := by decide +kernel
theorem dX11_notes_31 : decode cX11_notes 31 = .ok (.iastore, 1) := by decide +kernel
theorem dX11_notes_32 : decode cX11_notes 32 = .ok (.iinc 1 1, 3) := by decide +kernel
theorem dX11_notes_35 : decode cX11_notes 35 = .ok (.goto (-24), 3) := by decide +kernel
theorem dX11_notes_38 : decode cX11_notes 38 = .ok (.aload_n 0, 1) := by decide +kernel
theorem dX11_notes_39 : decode cX11_notes 39 = .ok (.dup, 1) := by decide +kernel
theorem dX11_notes_40 : decode cX11_notes 40 = .ok (.getfield 139, 3) := by decide +kernel
theorem dX11_notes_43 : decode cX11_notes 43 = .ok (.iconst 1, 1) := by decide +kernel
theorem dX11_notes_44 : decode cX11_notes 44 = .ok (.isub, 1) := by decide +kernel
theorem dX11_notes_45 : decode cX11_notes 45 = .ok (.putfield 139, 3) := by decide +kernel
theorem dX11_notes_48 : decode cX11_notes 48 = .ok (.aload_n 0, 1) := by decide +kernel
theorem dX11_notes_49 : decode cX11_notes 49 = .ok (.aload_n 0, 1) := by decide +kernel
theorem dX11_notes_50 : decode cX11_notes 50 = .ok (.getfield 53, 3) := by decide +kernel
theorem dX11_notes_53 : decode cX11_notes 53 = .ok (.bipush 8, 2) := by decide +kernel
theorem dX11_notes_55 : decode cX11_notes 55 = .ok (.aload_n 0, 1) := by decide +kernel
theorem dX11_notes_56 : decode cX11_notes 56 = .ok (.getfield 139, 3) := by decide +kernel
theorem dX11_notes_59 : decode cX11_notes 59 = .ok (.imul, 1) := by decide +kernel
theorem dX11_notes_60 : decode cX11_notes 60 = .ok (.invokevirtual 195, 3) := by decide +kernel
theorem dX11_notes_63 : decode cX11_notes 63 = .ok (.aload_n 0, 1) := by decide +kernel
theorem dX11_notes_64 : decode cX11_notes 64 = .ok (.dup, 1) := by decide +kernel
theorem dX11_notes_65 : decode cX11_notes 65 = .ok (.getfield 139, 3) := by decide +kernel
theorem dX11_notes_68 : decode cX11_notes 68 = .ok (.iconst 1, 1) := by decide +kernel
theorem dX11_notes_69 : decode cX11_notes 69 = .ok (.iadd, 1) := by decide +kernel
theorem dX11_notes_70 : decode cX11_notes 70 = .ok (.putfield 139, 3) := by decide +kernel
theorem dX11_notes_73 : decode cX11_notes 73 = .ok (.return_, 1) := by decide +kernel
theorem dX11_comesTo_0 : decode cX11_comesTo 0 = .ok (.aload_n 0, 1) := by decide +kernel
theorem dX11_comesTo_1 : decode cX11_comesTo 1 = .ok (.getfield 23, 3) := by decide +kernel
theorem dX11_comesTo_4 : decode cX11_comesTo 4 = .ok (.iload_n 1, 1) := by decide +kernel
theorem dX11_comesTo_5 : decode cX11_comesTo 5 = .ok (.iaload, 1) := by decide +kernel
theorem dX11_comesTo_6 : decode cX11_comesTo 6 = .ok (.istore_n 3, 1) := by decide +kernel
theorem dX11_comesTo_7 : decode cX11_comesTo 7 = .ok (.iload_n 1, 1) := by decide +kernel
theorem dX11_comesTo_8 : decode cX11_comesTo 8 = .ok (.iload_n 2, 1) := by decide +kernel
theorem dX11_comesTo_9 : decode cX11_comesTo 9 = .ok (.if_icmp .ge 7, 3) := by decide +kernel
theorem dX11_comesTo_12 : decode cX11_comesTo 12 = .ok (.iconst 1, 1) := by decide +kernel
theorem dX11_comesTo_13 : decode cX11_comesTo 13 = .ok (.goto 4, 3) := by decide +kernel
theorem dX11_comesTo_16 : decode cX11_comesTo 16 = .ok (.iconst (-1), 1) := by decide +kernel
theorem dX11_comesTo_17 : decode cX11_comesTo 17 = .ok (.istore 4, 2) := by decide +kernel
theorem dX11_comesTo_19 : decode cX11_comesTo 19 = .ok (.iload_n 1, 1) := by decide +kernel
theorem dX11_comesTo_20 : decode cX11_comesTo 20 = .ok (.istore 5, 2) := by decide +kernel
theorem dX11_comesTo_22 : decode cX11_comesTo 22 = .ok (.iload 5, 2) := by decide +kernel
theorem dX11_comesTo_24 : decode cX11_comesTo 24 = .ok (.iload_n 2, 1) := by decide +kernel
theorem dX11_comesTo_25 : decode cX11_comesTo 25 = .ok (.if_icmp .eq 30, 3) := by decide +kernel
theorem dX11_comesTo_28 : decode cX11_comesTo 28 = .ok (.aload_n 0, 1) := by decide +kernel
theorem dX11_comesTo_29 : decode cX11_comesTo 29 = .ok (.getfield 23, 3) := by decide +kernel
theorem dX11_comesTo_32 : decode cX11_comesTo 32 = .ok (.iload 5, 2) := by decide +kernel
theorem dX11_comesTo_34 : decode cX11_comesTo 34 = .ok (.aload_n 0, 1) := by decide +kernel
theorem dX11_comesTo_35 : decode cX11_comesTo 35 = .ok (.getfield 23, 3) := by decide +kernel
theorem dX11_comesTo_38 : decode cX11_comesTo 38 = .ok (.iload 5, 2) := by decide +kernel
theorem dX11_comesTo_40 : decode cX11_comesTo 40 = .ok (.iload 4, 2) := by decide +kernel
theorem dX11_comesTo_42 : decode cX11_comesTo 42 = .ok (.iadd, 1) := by decide +kernel
theorem dX11_comesTo_43 : decode cX11_comesTo 43 = .ok (.iaload, 1) := by decide +kernel
theorem dX11_comesTo_44 : decode cX11_comesTo 44 = .ok (.iastore, 1) := by decide +kernel
theorem dX11_comesTo_45 : decode cX11_comesTo 45 = .ok (.iload 5, 2) := by decide +kernel
theorem dX11_comesTo_47 : decode cX11_comesTo 47 = .ok (.iload 4, 2) := by decide +kernel
theorem dX11_comesTo_49 : decode cX11_comesTo 49 = .ok (.iadd, 1) := by decide +kernel
theorem dX11_comesTo_50 : decode cX11_comesTo 50 = .ok (.istore 5, 2) := by decide +kernel
theorem dX11_comesTo_52 : decode cX11_comesTo 52 = .ok (.goto (-30), 3) := by decide +kernel
theorem dX11_comesTo_55 : decode cX11_comesTo 55 = .ok (.aload_n 0, 1) := by decide +kernel
theorem dX11_comesTo_56 : decode cX11_comesTo 56 = .ok (.getfield 23, 3) := by decide +kernel
theorem dX11_comesTo_59 : decode cX11_comesTo 59 = .ok (.iload_n 2, 1) := by decide +kernel
theorem dX11_comesTo_60 : decode cX11_comesTo 60 = .ok (.iload_n 3, 1) := by decide +kernel
theorem dX11_comesTo_61 : decode cX11_comesTo 61 = .ok (.iastore, 1) := by decide +kernel
theorem dX11_comesTo_62 : decode cX11_comesTo 62 = .ok (.return_, 1) := by decide +kernel
theorem dX11_swaps_0 : decode cX11_swaps 0 = .ok (.aload_n 0, 1) := by decide +kernel
theorem dX11_swaps_1 : decode cX11_swaps 1 = .ok (.iload_n 1, 1) := by decide +kernel
theorem dX11_swaps_2 : decode cX11_swaps 2 = .ok (.invokevirtual 192, 3) := by decide +kernel
theorem dX11_swaps_5 : decode cX11_swaps 5 = .ok (.ifCond .eq 16, 3) := by decide +kernel
theorem dX11_swaps_8 : decode cX11_swaps 8 = .ok (.aload_n 0, 1) := by decide +kernel
theorem dX11_swaps_9 : decode cX11_swaps 9 = .ok (.iload_n 2, 1) := by decide +kernel
theorem dX11_swaps_10 : decode cX11_swaps 10 = .ok (.invokevirtual 192, 3) := by decide +kernel
theorem dX11_swaps_13 : decode cX11_swaps 13 = .ok (.ifCond .eq 8, 3) := by decide +kernel
theorem dX11_swaps_16 : decode cX11_swaps 16 = .ok (.iload_n 1, 1) := by decide +kernel
theorem dX11_swaps_17 : decode cX11_swaps 17 = .ok (.iload_n 2, 1) := by decide +kernel
theorem dX11_swaps_18 : decode cX11_swaps 18 = .ok (.if_icmp .ne 5, 3) := by decide +kernel
theorem dX11_swaps_21 : decode cX11_swaps 21 = .ok (.iconst (-1), 1) := by decide +kernel
theorem dX11_swaps_22 : decode cX11_swaps 22 = .ok (.ireturn, 1) := by decide +kernel
theorem dX11_swaps_23 : decode cX11_swaps 23 = .ok (.aload_n 0, 1) := by decide +kernel
theorem dX11_swaps_24 : decode cX11_swaps 24 = .ok (.invokevirtual 199, 3) := by decide +kernel
theorem dX11_swaps_27 : decode cX11_swaps 27 = .ok (.aload_n 0, 1) := by decide +kernel
theorem dX11_swaps_28 : decode cX11_swaps 28 = .ok (.getfield 23, 3) := by decide +kernel
theorem dX11_swaps_31 : decode cX11_swaps 31 = .ok (.iload_n 1, 1) := by decide +kernel
theorem dX11_swaps_32 : decode cX11_swaps 32 = .ok (.iaload, 1) := by decide +kernel
theorem dX11_swaps_33 : decode cX11_swaps 33 = .ok (.istore_n 3, 1) := by decide +kernel
theorem dX11_swaps_34 : decode cX11_swaps 34 = .ok (.aload_n 0, 1) := by decide +kernel
theorem dX11_swaps_35 : decode cX11_swaps 35 = .ok (.getfield 23, 3) := by decide +kernel
theorem dX11_swaps_38 : decode cX11_swaps 38 = .ok (.iload_n 1, 1) := by decide +kernel
theorem dX11_swaps_39 : decode cX11_swaps 39 = .ok (.aload_n 0, 1) := by decide +kernel
theorem dX11_swaps_40 : decode cX11_swaps 40 = .ok (.getfield 23, 3) := by decide +kernel
theorem dX11_swaps_43 : decode cX11_swaps 43 = .ok (.iload_n 2, 1) := by decide +kernel
theorem dX11_swaps_44 : decode cX11_swaps 44 = .ok (.iaload, 1) := by decide +kernel
theorem dX11_swaps_45 : decode cX11_swaps 45 = .ok (.iastore, 1) := by decide +kernel
theorem dX11_swaps_46 : decode cX11_swaps 46 = .ok (.aload_n 0, 1) := by decide +kernel
theorem dX11_swaps_47 : decode cX11_swaps 47 = .ok (.getfield 23, 3) := by decide +kernel
theorem dX11_swaps_50 : decode cX11_swaps 50 = .ok (.iload_n 2, 1) := by decide +kernel
theorem dX11_swaps_51 : decode cX11_swaps 51 = .ok (.iload_n 3, 1) := by decide +kernel
theorem dX11_swaps_52 : decode cX11_swaps 52 = .ok (.iastore, 1) := by decide +kernel
theorem dX11_swaps_53 : decode cX11_swaps 53 = .ok (.aload_n 0, 1) := by decide +kernel
theorem dX11_swaps_54 : decode cX11_swaps 54 = .ok (.invokevirtual 202, 3) := by decide +kernel
theorem dX11_swaps_57 : decode cX11_swaps 57 = .ok (.ireturn, 1) := by decide +kernel
theorem dX11_moves_0 : decode cX11_moves 0 = .ok (.aload_n 0, 1) := by decide +kernel
theorem dX11_moves_1 : decode cX11_moves 1 = .ok (.iload_n 1, 1) := by decide +kernel
theorem dX11_moves_2 : decode cX11_moves 2 = .ok (.invokevirtual 192, 3) := by decide +kernel
theorem dX11_moves_5 : decode cX11_moves 5 = .ok (.ifCond .eq 16, 3) := by decide +kernel
theorem dX11_moves_8 : decode cX11_moves 8 = .ok (.aload_n 0, 1) := by decide +kernel
theorem dX11_moves_9 : decode cX11_moves 9 = .ok (.iload_n 2, 1) := by decide +kernel
theorem dX11_moves_10 : decode cX11_moves 10 = .ok (.invokevirtual 192, 3) := by decide +kernel
theorem dX11_moves_13 : decode cX11_moves 13 = .ok (.ifCond .eq 8, 3) := by decide +kernel
theorem dX11_moves_16 : decode cX11_moves 16 = .ok (.iload_n 1, 1) := by decide +kernel
theorem dX11_moves_17 : decode cX11_moves 17 = .ok (.iload_n 2, 1) := by decide +kernel
theorem dX11_moves_18 : decode cX11_moves 18 = .ok (.if_icmp .ne 5, 3) := by decide +kernel
theorem dX11_moves_21 : decode cX11_moves 21 = .ok (.iconst (-1), 1) := by decide +kernel
theorem dX11_moves_22 : decode cX11_moves 22 = .ok (.ireturn, 1) := by decide +kernel
theorem dX11_moves_23 : decode cX11_moves 23 = .ok (.aload_n 0, 1) := by decide +kernel
theorem dX11_moves_24 : decode cX11_moves 24 = .ok (.invokevirtual 199, 3) := by decide +kernel
theorem dX11_moves_27 : decode cX11_moves 27 = .ok (.aload_n 0, 1) := by decide +kernel
theorem dX11_moves_28 : decode cX11_moves 28 = .ok (.iload_n 1, 1) := by decide +kernel
theorem dX11_moves_29 : decode cX11_moves 29 = .ok (.iload_n 2, 1) := by decide +kernel
theorem dX11_moves_30 : decode cX11_moves 30 = .ok (.invokevirtual 205, 3) := by decide +kernel
theorem dX11_moves_33 : decode cX11_moves 33 = .ok (.aload_n 0, 1) := by decide +kernel
theorem dX11_moves_34 : decode cX11_moves 34 = .ok (.invokevirtual 202, 3) := by decide +kernel
theorem dX11_moves_37 : decode cX11_moves 37 = .ok (.ireturn, 1) := by decide +kernel
theorem dX11_turn_0 : decode cX11_turn 0 = .ok (.aload_n 0, 1) := by decide +kernel
theorem dX11_turn_1 : decode cX11_turn 1 = .ok (.iload_n 1, 1) := by decide +kernel
theorem dX11_turn_2 : decode cX11_turn 2 = .ok (.invokevirtual 176, 3) := by decide +kernel
theorem dX11_turn_5 : decode cX11_turn 5 = .ok (.ifCond .ne 5, 3) := by decide +kernel
theorem dX11_turn_8 : decode cX11_turn 8 = .ok (.iconst (-1), 1) := by decide +kernel
theorem dX11_turn_9 : decode cX11_turn 9 = .ok (.ireturn, 1) := by decide +kernel
theorem dX11_turn_10 : decode cX11_turn 10 = .ok (.aload_n 0, 1) := by decide +kernel
theorem dX11_turn_11 : decode cX11_turn 11 = .ok (.iload_n 1, 1) := by decide +kernel
theorem dX11_turn_12 : decode cX11_turn 12 = .ok (.invokevirtual 179, 3) := by decide +kernel
theorem dX11_turn_15 : decode cX11_turn 15 = .ok (.bipush (-9), 2) := by decide +kernel
theorem dX11_turn_17 : decode cX11_turn 17 = .ok (.if_icmp .ne 6, 3) := by decide +kernel
theorem dX11_turn_20 : decode cX11_turn 20 = .ok (.bipush (-2), 2) := by decide +kernel
theorem dX11_turn_22 : decode cX11_turn 22 = .ok (.ireturn, 1) := by decide +kernel
theorem dX11_turn_23 : decode cX11_turn 23 = .ok (.aload_n 0, 1) := by decide +kernel
theorem dX11_turn_24 : decode cX11_turn 24 = .ok (.invokevirtual 199, 3) := by decide +kernel
theorem dX11_turn_27 : decode cX11_turn 27 = .ok (.aload_n 0, 1) := by decide +kernel
theorem dX11_turn_28 : decode cX11_turn 28 = .ok (.dup, 1) := by decide +kernel
theorem dX11_turn_29 : decode cX11_turn 29 = .ok (.getfield 133, 3) := by decide +kernel
theorem dX11_turn_32 : decode cX11_turn 32 = .ok (.iconst 1, 1) := by decide +kernel
theorem dX11_turn_33 : decode cX11_turn 33 = .ok (.iload_n 1, 1) := by decide +kernel
theorem dX11_turn_34 : decode cX11_turn 34 = .ok (.ishl, 1) := by decide +kernel
theorem dX11_turn_35 : decode cX11_turn 35 = .ok (.ixor, 1) := by decide +kernel
theorem dX11_turn_36 : decode cX11_turn 36 = .ok (.putfield 133, 3) := by decide +kernel
theorem dX11_turn_39 : decode cX11_turn 39 = .ok (.aload_n 0, 1) := by decide +kernel
theorem dX11_turn_40 : decode cX11_turn 40 = .ok (.getfield 133, 3) := by decide +kernel
theorem dX11_turn_43 : decode cX11_turn 43 = .ok (.iload_n 1, 1) := by decide +kernel
theorem dX11_turn_44 : decode cX11_turn 44 = .ok (.ishr, 1) := by decide +kernel
theorem dX11_turn_45 : decode cX11_turn 45 = .ok (.iconst 1, 1) := by decide +kernel
theorem dX11_turn_46 : decode cX11_turn 46 = .ok (.iand, 1) := by decide +kernel
theorem dX11_turn_47 : decode cX11_turn 47 = .ok (.ireturn, 1) := by decide +kernel
theorem dX11_takes_0 : decode cX11_takes 0 = .ok (.aload_n 0, 1) := by decide +kernel
theorem dX11_takes_1 : decode cX11_takes 1 = .ok (.iload_n 1, 1) := by decide +kernel
theorem dX11_takes_2 : decode cX11_takes 2 = .ok (.invokevirtual 176, 3) := by decide +kernel
theorem dX11_takes_5 : decode cX11_takes 5 = .ok (.ifCond .ne 5, 3) := by decide +kernel
theorem dX11_takes_8 : decode cX11_takes 8 = .ok (.iconst (-1), 1) := by decide +kernel
theorem dX11_takes_9 : decode cX11_takes 9 = .ok (.ireturn, 1) := by decide +kernel
theorem dX11_takes_10 : decode cX11_takes 10 = .ok (.aload_n 0, 1) := by decide +kernel
theorem dX11_takes_11 : decode cX11_takes 11 = .ok (.iload_n 1, 1) := by decide +kernel
theorem dX11_takes_12 : decode cX11_takes 12 = .ok (.invokevirtual 179, 3) := by decide +kernel
theorem dX11_takes_15 : decode cX11_takes 15 = .ok (.istore_n 2, 1) := by decide +kernel
theorem dX11_takes_16 : decode cX11_takes 16 = .ok (.iload_n 2, 1) := by decide +kernel
theorem dX11_takes_17 : decode cX11_takes 17 = .ok (.bipush (-9), 2) := by decide +kernel
theorem dX11_takes_19 : decode cX11_takes 19 = .ok (.if_icmp .ne 6, 3) := by decide +kernel
theorem dX11_takes_22 : decode cX11_takes 22 = .ok (.bipush (-2), 2) := by decide +kernel
theorem dX11_takes_24 : decode cX11_takes 24 = .ok (.ireturn, 1) := by decide +kernel
theorem dX11_takes_25 : decode cX11_takes 25 = .ok (.aload_n 0, 1) := by decide +kernel
theorem dX11_takes_26 : decode cX11_takes 26 = .ok (.invokevirtual 199, 3) := by decide +kernel
theorem dX11_takes_29 : decode cX11_takes 29 = .ok (.aload_n 0, 1) := by decide +kernel
theorem dX11_takes_30 : decode cX11_takes 30 = .ok (.iload_n 2, 1) := by decide +kernel
theorem dX11_takes_31 : decode cX11_takes 31 = .ok (.aload_n 0, 1) := by decide +kernel
theorem dX11_takes_32 : decode cX11_takes 32 = .ok (.getfield 75, 3) := by decide +kernel
theorem dX11_takes_35 : decode cX11_takes 35 = .ok (.iconst 1, 1) := by decide +kernel
theorem dX11_takes_36 : decode cX11_takes 36 = .ok (.isub, 1) := by decide +kernel
theorem dX11_takes_37 : decode cX11_takes 37 = .ok (.invokevirtual 205, 3) := by decide +kernel
theorem dX11_takes_40 : decode cX11_takes 40 = .ok (.aload_n 0, 1) := by decide +kernel
theorem dX11_takes_41 : decode cX11_takes 41 = .ok (.dup, 1) := by decide +kernel
theorem dX11_takes_42 : decode cX11_takes 42 = .ok (.getfield 75, 3) := by decide +kernel
theorem dX11_takes_45 : decode cX11_takes 45 = .ok (.iconst 1, 1) := by decide +kernel
theorem dX11_takes_46 : decode cX11_takes 46 = .ok (.isub, 1) := by decide +kernel
theorem dX11_takes_47 : decode cX11_takes 47 = .ok (.putfield 75, 3) := by decide +kernel
theorem dX11_takes_50 : decode cX11_takes 50 = .ok (.aload_n 0, 1) := by decide +kernel
theorem dX11_takes_51 : decode cX11_takes 51 = .ok (.getfield 75, 3) := by decide +kernel
theorem dX11_takes_54 : decode cX11_takes 54 = .ok (.ireturn, 1) := by decide +kernel
theorem dX11_lays_0 : decode cX11_lays 0 = .ok (.aload_n 0, 1) := by decide +kernel
theorem dX11_lays_1 : decode cX11_lays 1 = .ok (.iload_n 1, 1) := by decide +kernel
theorem dX11_lays_2 : decode cX11_lays 2 = .ok (.invokevirtual 176, 3) := by decide +kernel
theorem dX11_lays_5 : decode cX11_lays 5 = .ok (.ifCond .ne 5, 3) := by decide +kernel
theorem dX11_lays_8 : decode cX11_lays 8 = .ok (.iconst (-1), 1) := by decide +kernel
theorem dX11_lays_9 : decode cX11_lays 9 = .ok (.ireturn, 1) := by decide +kernel
theorem dX11_lays_10 : decode cX11_lays 10 = .ok (.aload_n 0, 1) := by decide +kernel
theorem dX11_lays_11 : decode cX11_lays 11 = .ok (.iload_n 1, 1) := by decide +kernel
theorem dX11_lays_12 : decode cX11_lays 12 = .ok (.invokevirtual 179, 3) := by decide +kernel
theorem dX11_lays_15 : decode cX11_lays 15 = .ok (.bipush (-9), 2) := by decide +kernel
theorem dX11_lays_17 : decode cX11_lays 17 = .ok (.if_icmp .eq 6, 3) := by decide +kernel
theorem dX11_lays_20 : decode cX11_lays 20 = .ok (.bipush (-2), 2) := by decide +kernel
theorem dX11_lays_22 : decode cX11_lays 22 = .ok (.ireturn, 1) := by decide +kernel
theorem dX11_lays_23 : decode cX11_lays 23 = .ok (.aload_n 0, 1) := by decide +kernel
theorem dX11_lays_24 : decode cX11_lays 24 = .ok (.invokevirtual 199, 3) := by decide +kernel
theorem dX11_lays_27 : decode cX11_lays 27 = .ok (.aload_n 0, 1) := by decide +kernel
theorem dX11_lays_28 : decode cX11_lays 28 = .ok (.getfield 23, 3) := by decide +kernel
theorem dX11_lays_31 : decode cX11_lays 31 = .ok (.aload_n 0, 1) := by decide +kernel
theorem dX11_lays_32 : decode cX11_lays 32 = .ok (.getfield 75, 3) := by decide +kernel
theorem dX11_lays_35 : decode cX11_lays 35 = .ok (.iload_n 1, 1) := by decide +kernel
theorem dX11_lays_36 : decode cX11_lays 36 = .ok (.iastore, 1) := by decide +kernel
theorem dX11_lays_37 : decode cX11_lays 37 = .ok (.aload_n 0, 1) := by decide +kernel
theorem dX11_lays_38 : decode cX11_lays 38 = .ok (.dup, 1) := by decide +kernel
theorem dX11_lays_39 : decode cX11_lays 39 = .ok (.getfield 75, 3) := by decide +kernel
theorem dX11_lays_42 : decode cX11_lays 42 = .ok (.iconst 1, 1) := by decide +kernel
theorem dX11_lays_43 : decode cX11_lays 43 = .ok (.iadd, 1) := by decide +kernel
theorem dX11_lays_44 : decode cX11_lays 44 = .ok (.putfield 75, 3) := by decide +kernel
theorem dX11_lays_47 : decode cX11_lays 47 = .ok (.aload_n 0, 1) := by decide +kernel
theorem dX11_lays_48 : decode cX11_lays 48 = .ok (.getfield 75, 3) := by decide +kernel
theorem dX11_lays_51 : decode cX11_lays 51 = .ok (.ireturn, 1) := by decide +kernel
theorem dX11_undo_0 : decode cX11_undo 0 = .ok (.aload_n 0, 1) := by decide +kernel
theorem dX11_undo_1 : decode cX11_undo 1 = .ok (.getfield 139, 3) := by decide +kernel
theorem dX11_undo_4 : decode cX11_undo 4 = .ok (.ifCond .ne 6, 3) := by decide +kernel
theorem dX11_undo_7 : decode cX11_undo 7 = .ok (.bipush (-2), 2) := by decide +kernel
theorem dX11_undo_9 : decode cX11_undo 9 = .ok (.ireturn, 1) := by decide +kernel
theorem dX11_undo_10 : decode cX11_undo 10 = .ok (.aload_n 0, 1) := by decide +kernel
theorem dX11_undo_11 : decode cX11_undo 11 = .ok (.dup, 1) := by decide +kernel
theorem dX11_undo_12 : decode cX11_undo 12 = .ok (.getfield 139, 3) := by decide +kernel
theorem dX11_undo_15 : decode cX11_undo 15 = .ok (.iconst 1, 1) := by decide +kernel
theorem dX11_undo_16 : decode cX11_undo 16 = .ok (.isub, 1) := by decide +kernel
theorem dX11_undo_17 : decode cX11_undo 17 = .ok (.putfield 139, 3) := by decide +kernel
theorem dX11_undo_20 : decode cX11_undo 20 = .ok (.aload_n 0, 1) := by decide +kernel
theorem dX11_undo_21 : decode cX11_undo 21 = .ok (.aload_n 0, 1) := by decide +kernel
theorem dX11_undo_22 : decode cX11_undo 22 = .ok (.getfield 53, 3) := by decide +kernel
theorem dX11_undo_25 : decode cX11_undo 25 = .ok (.bipush 8, 2) := by decide +kernel
theorem dX11_undo_27 : decode cX11_undo 27 = .ok (.aload_n 0, 1) := by decide +kernel
theorem dX11_undo_28 : decode cX11_undo 28 = .ok (.getfield 139, 3) := by decide +kernel
theorem dX11_undo_31 : decode cX11_undo 31 = .ok (.imul, 1) := by decide +kernel
theorem dX11_undo_32 : decode cX11_undo 32 = .ok (.invokevirtual 209, 3) := by decide +kernel
theorem dX11_undo_35 : decode cX11_undo 35 = .ok (.aload_n 0, 1) := by decide +kernel
theorem dX11_undo_36 : decode cX11_undo 36 = .ok (.getfield 139, 3) := by decide +kernel
theorem dX11_undo_39 : decode cX11_undo 39 = .ok (.ireturn, 1) := by decide +kernel
theorem dX11_firstRow_0 : decode cX11_firstRow 0 = .ok (.aload_n 0, 1) := by decide +kernel
theorem dX11_firstRow_1 : decode cX11_firstRow 1 = .ok (.iconst 0, 1) := by decide +kernel
theorem dX11_firstRow_2 : decode cX11_firstRow 2 = .ok (.putfield 212, 3) := by decide +kernel
theorem dX11_firstRow_5 : decode cX11_firstRow 5 = .ok (.iconst 0, 1) := by decide +kernel
theorem dX11_firstRow_6 : decode cX11_firstRow 6 = .ok (.istore_n 2, 1) := by decide +kernel
theorem dX11_firstRow_7 : decode cX11_firstRow 7 = .ok (.iload_n 2, 1) := by decide +kernel
theorem dX11_firstRow_8 : decode cX11_firstRow 8 = .ok (.aload_n 0, 1) := by decide +kernel
theorem dX11_firstRow_9 : decode cX11_firstRow 9 = .ok (.getfield 68, 3) := by decide +kernel
theorem dX11_firstRow_12 : decode cX11_firstRow 12 = .ok (.if_icmp .ge 44, 3) := by decide +kernel
theorem dX11_firstRow_15 : decode cX11_firstRow 15 = .ok (.iload_n 2, 1) := by decide +kernel
theorem dX11_firstRow_16 : decode cX11_firstRow 16 = .ok (.iload_n 1, 1) := by decide +kernel
theorem dX11_firstRow_17 : decode cX11_firstRow 17 = .ok (.if_icmp .eq 33, 3) := by decide +kernel
theorem dX11_firstRow_20 : decode cX11_firstRow 20 = .ok (.aload_n 0, 1) := by decide +kernel
theorem dX11_firstRow_21 : decode cX11_firstRow 21 = .ok (.iload_n 2, 1) := by decide +kernel
theorem dX11_firstRow_22 : decode cX11_firstRow 22 = .ok (.invokevirtual 179, 3) := by decide +kernel
theorem dX11_firstRow_25 : decode cX11_firstRow 25 = .ok (.bipush (-9), 2) := by decide +kernel
theorem dX11_firstRow_27 : decode cX11_firstRow 27 = .ok (.if_icmp .eq 23, 3) := by decide +kernel
theorem dX11_firstRow_30 : decode cX11_firstRow 30 = .ok (.aload_n 0, 1) := by decide +kernel
theorem dX11_firstRow_31 : decode cX11_firstRow 31 = .ok (.getfield 56, 3) := by decide +kernel
theorem dX11_firstRow_34 : decode cX11_firstRow 34 = .ok (.aload_n 0, 1) := by decide +kernel
theorem dX11_firstRow_35 : decode cX11_firstRow 35 = .ok (.getfield 212, 3) := by decide +kernel
theorem dX11_firstRow_38 : decode cX11_firstRow 38 = .ok (.iload_n 2, 1) := by decide +kernel
theorem dX11_firstRow_39 : decode cX11_firstRow 39 = .ok (.iastore, 1) := by decide +kernel
theorem dX11_firstRow_40 : decode cX11_firstRow 40 = .ok (.aload_n 0, 1) := by decide +kernel
theorem dX11_firstRow_41 : decode cX11_firstRow 41 = .ok (.dup, 1) := by decide +kernel
theorem dX11_firstRow_42 : decode cX11_firstRow 42 = .ok (.getfield 212, 3) := by decide +kernel
theorem dX11_firstRow_45 : decode cX11_firstRow 45 = .ok (.iconst 1, 1) := by decide +kernel
theorem dX11_firstRow_46 : decode cX11_firstRow 46 = .ok (.iadd, 1) := by decide +kernel
theorem dX11_firstRow_47 : decode cX11_firstRow 47 = .ok (.putfield 212, 3) := by decide +kernel
theorem dX11_firstRow_50 : decode cX11_firstRow 50 = .ok (.iinc 2 1, 3) := by decide +kernel
theorem dX11_firstRow_53 : decode cX11_firstRow 53 = .ok (.goto (-46), 3) := by decide +kernel
theorem dX11_firstRow_56 : decode cX11_firstRow 56 = .ok (.return_, 1) := by decide +kernel
theorem dX11_nextRow_0 : decode cX11_nextRow 0 = .ok (.aload_n 0, 1) := by decide +kernel
theorem dX11_nextRow_1 : decode cX11_nextRow 1 = .ok (.getfield 212, 3) := by decide +kernel
theorem dX11_nextRow_4 : decode cX11_nextRow 4 = .ok (.iconst 2, 1) := by decide +kernel
theorem dX11_nextRow_5 : decode cX11_nextRow 5 = .ok (.isub, 1) := by decide +kernel
theorem dX11_nextRow_6 : decode cX11_nextRow 6 = .ok (.istore_n 1, 1) := by decide +kernel
theorem dX11_nextRow_7 : decode cX11_nextRow 7 = .ok (.iload_n 1, 1) := by decide +kernel
theorem dX11_nextRow_8 : decode cX11_nextRow 8 = .ok (.ifCond .lt 26, 3) := by decide +kernel
theorem dX11_nextRow_11 : decode cX11_nextRow 11 = .ok (.aload_n 0, 1) := by decide +kernel
theorem dX11_nextRow_12 : decode cX11_nextRow 12 = .ok (.getfield 56, 3) := by decide +kernel
theorem dX11_nextRow_15 : decode cX11_nextRow 15 = .ok (.iload_n 1, 1) := by decide +kernel
theorem dX11_nextRow_16 : decode cX11_nextRow 16 = .ok (.iaload, 1) := by decide +kernel
theorem dX11_nextRow_17 : decode cX11_nextRow 17 = .ok (.aload_n 0, 1) := by decide +kernel
theorem dX11_nextRow_18 : decode cX11_nextRow 18 = .ok (.getfield 56, 3) := by decide +kernel
theorem dX11_nextRow_21 : decode cX11_nextRow 21 = .ok (.iload_n 1, 1) := by decide +kernel
theorem dX11_nextRow_22 : decode cX11_nextRow 22 = .ok (.iconst 1, 1) := by decide +kernel
theorem dX11_nextRow_23 : decode cX11_nextRow 23 = .ok (.iadd, 1) := by decide +kernel
theorem dX11_nextRow_24 : decode cX11_nextRow 24 = .ok (.iaload, 1) := by decide +kernel
theorem dX11_nextRow_25 : decode cX11_nextRow 25 = .ok (.if_icmp .le 9, 3) := by decide +kernel
theorem dX11_nextRow_28 : decode cX11_nextRow 28 = .ok (.iinc 1 (-1), 3) := by decide +kernel
theorem dX11_nextRow_31 : decode cX11_nextRow 31 = .ok (.goto (-24), 3) := by decide +kernel
theorem dX11_nextRow_34 : decode cX11_nextRow 34 = .ok (.iload_n 1, 1) := by decide +kernel
theorem dX11_nextRow_35 : decode cX11_nextRow 35 = .ok (.ifCond .ge 5, 3) := by decide +kernel
theorem dX11_nextRow_38 : decode cX11_nextRow 38 = .ok (.iconst 0, 1) := by decide +kernel
theorem dX11_nextRow_39 : decode cX11_nextRow 39 = .ok (.ireturn, 1) := by decide +kernel
theorem dX11_nextRow_40 : decode cX11_nextRow 40 = .ok (.aload_n 0, 1) := by decide +kernel
theorem dX11_nextRow_41 : decode cX11_nextRow 41 = .ok (.getfield 212, 3) := by decide +kernel
theorem dX11_nextRow_44 : decode cX11_nextRow 44 = .ok (.iconst 1, 1) := by decide +kernel
theorem dX11_nextRow_45 : decode cX11_nextRow 45 = .ok (.isub, 1) := by decide +kernel
theorem dX11_nextRow_46 : decode cX11_nextRow 46 = .ok (.istore_n 2, 1) := by decide +kernel
theorem dX11_nextRow_47 : decode cX11_nextRow 47 = .ok (.aload_n 0, 1) := by decide +kernel
theorem dX11_nextRow_48 : decode cX11_nextRow 48 = .ok (.getfield 56, 3) := by decide +kernel
theorem dX11_nextRow_51 : decode cX11_nextRow 51 = .ok (.iload_n 2, 1) := by decide +kernel
theorem dX11_nextRow_52 : decode cX11_nextRow 52 = .ok (.iaload, 1) := by decide +kernel
theorem dX11_nextRow_53 : decode cX11_nextRow 53 = .ok (.aload_n 0, 1) := by decide +kernel
theorem dX11_nextRow_54 : decode cX11_nextRow 54 = .ok (.getfield 56, 3) := by decide +kernel
theorem dX11_nextRow_57 : decode cX11_nextRow 57 = .ok (.iload_n 1, 1) := by decide +kernel
theorem dX11_nextRow_58 : decode cX11_nextRow 58 = .ok (.iaload, 1) := by decide +kernel
theorem dX11_nextRow_59 : decode cX11_nextRow 59 = .ok (.if_icmp .ge 9, 3) := by decide +kernel
theorem dX11_nextRow_62 : decode cX11_nextRow 62 = .ok (.iinc 2 (-1), 3) := by decide +kernel
theorem dX11_nextRow_65 : decode cX11_nextRow 65 = .ok (.goto (-18), 3) := by decide +kernel
theorem dX11_nextRow_68 : decode cX11_nextRow 68 = .ok (.aload_n 0, 1) := by decide +kernel
theorem dX11_nextRow_69 : decode cX11_nextRow 69 = .ok (.getfield 56, 3) := by decide +kernel
theorem dX11_nextRow_72 : decode cX11_nextRow 72 = .ok (.iload_n 1, 1) := by decide +kernel
theorem dX11_nextRow_73 : decode cX11_nextRow 73 = .ok (.iaload, 1) := by decide +kernel
theorem dX11_nextRow_74 : decode cX11_nextRow 74 = .ok (.istore_n 3, 1) := by decide +kernel
theorem dX11_nextRow_75 : decode cX11_nextRow 75 = .ok (.aload_n 0, 1) := by decide +kernel
theorem dX11_nextRow_76 : decode cX11_nextRow 76 = .ok (.getfield 56, 3) := by decide +kernel
theorem dX11_nextRow_79 : decode cX11_nextRow 79 = .ok (.iload_n 1, 1) := by decide +kernel
theorem dX11_nextRow_80 : decode cX11_nextRow 80 = .ok (.aload_n 0, 1) := by decide +kernel
theorem dX11_nextRow_81 : decode cX11_nextRow 81 = .ok (.getfield 56, 3) := by decide +kernel
theorem dX11_nextRow_84 : decode cX11_nextRow 84 = .ok (.iload_n 2, 1) := by decide +kernel
theorem dX11_nextRow_85 : decode cX11_nextRow 85 = .ok (.iaload, 1) := by decide +kernel
theorem dX11_nextRow_86 : decode cX11_nextRow 86 = .ok (.iastore, 1) := by decide +kernel
theorem dX11_nextRow_87 : decode cX11_nextRow 87 = .ok (.aload_n 0, 1) := by decide +kernel
theorem dX11_nextRow_88 : decode cX11_nextRow 88 = .ok (.getfield 56, 3) := by decide +kernel
theorem dX11_nextRow_91 : decode cX11_nextRow 91 = .ok (.iload_n 2, 1) := by decide +kernel
theorem dX11_nextRow_92 : decode cX11_nextRow 92 = .ok (.iload_n 3, 1) := by decide +kernel
theorem dX11_nextRow_93 : decode cX11_nextRow 93 = .ok (.iastore, 1) := by decide +kernel
theorem dX11_nextRow_94 : decode cX11_nextRow 94 = .ok (.aload_n 0, 1) := by decide +kernel
theorem dX11_nextRow_95 : decode cX11_nextRow 95 = .ok (.getfield 212, 3) := by decide +kernel
theorem dX11_nextRow_98 : decode cX11_nextRow 98 = .ok (.iconst 1, 1) := by decide +kernel
theorem dX11_nextRow_99 : decode cX11_nextRow 99 = .ok (.isub, 1) := by decide +kernel
theorem dX11_nextRow_100 : decode cX11_nextRow 100 = .ok (.istore 4, 2) := by decide +kernel
theorem dX11_nextRow_102 : decode cX11_nextRow 102 = .ok (.iload_n 1, 1) := by decide +kernel
theorem dX11_nextRow_103 : decode cX11_nextRow 103 = .ok (.iconst 1, 1) := by decide +kernel
theorem dX11_nextRow_104 : decode cX11_nextRow 104 = .ok (.iadd, 1) := by decide +kernel
theorem dX11_nextRow_105 : decode cX11_nextRow 105 = .ok (.istore 5, 2) := by decide +kernel
theorem dX11_nextRow_107 : decode cX11_nextRow 107 = .ok (.iload 5, 2) := by decide +kernel
theorem dX11_nextRow_109 : decode cX11_nextRow 109 = .ok (.iload 4, 2) := by decide +kernel
theorem dX11_nextRow_111 : decode cX11_nextRow 111 = .ok (.if_icmp .ge 44, 3) := by decide +kernel
theorem dX11_nextRow_114 : decode cX11_nextRow 114 = .ok (.aload_n 0, 1) := by decide +kernel
theorem dX11_nextRow_115 : decode cX11_nextRow 115 = .ok (.getfield 56, 3) := by decide +kernel
theorem dX11_nextRow_118 : decode cX11_nextRow 118 = .ok (.iload 5, 2) := by decide +kernel
theorem dX11_nextRow_120 : decode cX11_nextRow 120 = .ok (.iaload, 1) := by decide +kernel
theorem dX11_nextRow_121 : decode cX11_nextRow 121 = .ok (.istore 6, 2) := by decide +kernel
theorem dX11_nextRow_123 : decode cX11_nextRow 123 = .ok (.aload_n 0, 1) := by decide +kernel
theorem dX11_nextRow_124 : decode cX11_nextRow 124 = .ok (.getfield 56, 3) := by decide +kernel
theorem dX11_nextRow_127 : decode cX11_nextRow 127 = .ok (.iload 5, 2) := by decide +kernel
theorem dX11_nextRow_129 : decode cX11_nextRow 129 = .ok (.aload_n 0, 1) := by decide +kernel
theorem dX11_nextRow_130 : decode cX11_nextRow 130 = .ok (.getfield 56, 3) := by decide +kernel
theorem dX11_nextRow_133 : decode cX11_nextRow 133 = .ok (.iload 4, 2) := by decide +kernel
theorem dX11_nextRow_135 : decode cX11_nextRow 135 = .ok (.iaload, 1) := by decide +kernel
theorem dX11_nextRow_136 : decode cX11_nextRow 136 = .ok (.iastore, 1) := by decide +kernel
theorem dX11_nextRow_137 : decode cX11_nextRow 137 = .ok (.aload_n 0, 1) := by decide +kernel
theorem dX11_nextRow_138 : decode cX11_nextRow 138 = .ok (.getfield 56, 3) := by decide +kernel
theorem dX11_nextRow_141 : decode cX11_nextRow 141 = .ok (.iload 4, 2) := by decide +kernel
theorem dX11_nextRow_143 : decode cX11_nextRow 143 = .ok (.iload 6, 2) := by decide +kernel
theorem dX11_nextRow_145 : decode cX11_nextRow 145 = .ok (.iastore, 1) := by decide +kernel
theorem dX11_nextRow_146 : decode cX11_nextRow 146 = .ok (.iinc 4 (-1), 3) := by decide +kernel
theorem dX11_nextRow_149 : decode cX11_nextRow 149 = .ok (.iinc 5 1, 3) := by decide +kernel
theorem dX11_nextRow_152 : decode cX11_nextRow 152 = .ok (.goto (-45), 3) := by decide +kernel
theorem dX11_nextRow_155 : decode cX11_nextRow 155 = .ok (.iconst 1, 1) := by decide +kernel
theorem dX11_nextRow_156 : decode cX11_nextRow 156 = .ok (.ireturn, 1) := by decide +kernel
theorem dX11_numberOf_0 : decode cX11_numberOf 0 = .ok (.iconst 0, 1) := by decide +kernel
theorem dX11_numberOf_1 : decode cX11_numberOf 1 = .ok (.istore_n 2, 1) := by decide +kernel
theorem dX11_numberOf_2 : decode cX11_numberOf 2 = .ok (.iconst 0, 1) := by decide +kernel
theorem dX11_numberOf_3 : decode cX11_numberOf 3 = .ok (.istore_n 3, 1) := by decide +kernel
theorem dX11_numberOf_4 : decode cX11_numberOf 4 = .ok (.iload_n 3, 1) := by decide +kernel
theorem dX11_numberOf_5 : decode cX11_numberOf 5 = .ok (.iload_n 1, 1) := by decide +kernel
theorem dX11_numberOf_6 : decode cX11_numberOf 6 = .ok (.if_icmp .ge 20, 3) := by decide +kernel
theorem dX11_numberOf_9 : decode cX11_numberOf 9 = .ok (.bipush 10, 2) := by decide +kernel
theorem dX11_numberOf_11 : decode cX11_numberOf 11 = .ok (.iload_n 2, 1) := by decide +kernel
theorem dX11_numberOf_12 : decode cX11_numberOf 12 = .ok (.imul, 1) := by decide +kernel
theorem dX11_numberOf_13 : decode cX11_numberOf 13 = .ok (.aload_n 0, 1) := by decide +kernel
theorem dX11_numberOf_14 : decode cX11_numberOf 14 = .ok (.iload_n 3, 1) := by decide +kernel
theorem dX11_numberOf_15 : decode cX11_numberOf 15 = .ok (.iaload, 1) := by decide +kernel
theorem dX11_numberOf_16 : decode cX11_numberOf 16 = .ok (.iadd, 1) := by decide +kernel
theorem dX11_numberOf_17 : decode cX11_numberOf 17 = .ok (.iconst 1, 1) := by decide +kernel
theorem dX11_numberOf_18 : decode cX11_numberOf 18 = .ok (.iadd, 1) := by decide +kernel
theorem dX11_numberOf_19 : decode cX11_numberOf 19 = .ok (.istore_n 2, 1) := by decide +kernel
theorem dX11_numberOf_20 : decode cX11_numberOf 20 = .ok (.iinc 3 1, 3) := by decide +kernel
theorem dX11_numberOf_23 : decode cX11_numberOf 23 = .ok (.goto (-19), 3) := by decide +kernel
theorem dX11_numberOf_26 : decode cX11_numberOf 26 = .ok (.iload_n 2, 1) := by decide +kernel
theorem dX11_numberOf_27 : decode cX11_numberOf 27 = .ok (.ireturn, 1) := by decide +kernel
theorem dX11_longestStay_0 : decode cX11_longestStay 0 = .ok (.iconst 0, 1) := by decide +kernel
theorem dX11_longestStay_1 : decode cX11_longestStay 1 = .ok (.istore_n 1, 1) := by decide +kernel
theorem dX11_longestStay_2 : decode cX11_longestStay 2 = .ok (.iconst 0, 1) := by decide +kernel
theorem dX11_longestStay_3 : decode cX11_longestStay 3 = .ok (.istore_n 2, 1) := by decide +kernel
theorem dX11_longestStay_4 : decode cX11_longestStay 4 = .ok (.iload_n 2, 1) := by decide +kernel
theorem dX11_longestStay_5 : decode cX11_longestStay 5 = .ok (.aload_n 0, 1) := by decide +kernel
theorem dX11_longestStay_6 : decode cX11_longestStay 6 = .ok (.getfield 212, 3) := by decide +kernel
theorem dX11_longestStay_9 : decode cX11_longestStay 9 = .ok (.if_icmp .ge 102, 3) := by decide +kernel
theorem dX11_longestStay_12 : decode cX11_longestStay 12 = .ok (.aload_n 0, 1) := by decide +kernel
theorem dX11_longestStay_13 : decode cX11_longestStay 13 = .ok (.getfield 62, 3) := by decide +kernel
theorem dX11_longestStay_16 : decode cX11_longestStay 16 = .ok (.iload_n 2, 1) := by decide +kernel
theorem dX11_longestStay_17 : decode cX11_longestStay 17 = .ok (.iconst 1, 1) := by decide +kernel
theorem dX11_longestStay_18 : decode cX11_longestStay 18 = .ok (.iastore, 1) := by decide +kernel
theorem dX11_longestStay_19 : decode cX11_longestStay 19 = .ok (.iconst 0, 1) := by decide +kernel
theorem dX11_longestStay_20 : decode cX11_longestStay 20 = .ok (.istore_n 3, 1) := by decide +kernel
theorem dX11_longestStay_21 : decode cX11_longestStay 21 = .ok (.iload_n 3, 1) := by decide +kernel
theorem dX11_longestStay_22 : decode cX11_longestStay 22 = .ok (.iload_n 2, 1) := by decide +kernel
theorem dX11_longestStay_23 : decode cX11_longestStay 23 = .ok (.if_icmp .ge 61, 3) := by decide +kernel
theorem dX11_longestStay_26 : decode cX11_longestStay 26 = .ok (.aload_n 0, 1) := by decide +kernel
theorem dX11_longestStay_27 : decode cX11_longestStay 27 = .ok (.aload_n 0, 1) := by decide +kernel
theorem dX11_longestStay_28 : decode cX11_longestStay 28 = .ok (.getfield 56, 3) := by decide +kernel
theorem dX11_longestStay_31 : decode cX11_longestStay 31 = .ok (.iload_n 3, 1) := by decide +kernel
theorem dX11_longestStay_32 : decode cX11_longestStay 32 = .ok (.iaload, 1) := by decide +kernel
theorem dX11_longestStay_33 : decode cX11_longestStay 33 = .ok (.invokevirtual 179, 3) := by decide +kernel
theorem dX11_longestStay_36 : decode cX11_longestStay 36 = .ok (.aload_n 0, 1) := by decide +kernel
theorem dX11_longestStay_37 : decode cX11_longestStay 37 = .ok (.aload_n 0, 1) := by decide +kernel
theorem dX11_longestStay_38 : decode cX11_longestStay 38 = .ok (.getfield 56, 3) := by decide +kernel
theorem dX11_longestStay_41 : decode cX11_longestStay 41 = .ok (.iload_n 2, 1) := by decide +kernel
theorem dX11_longestStay_42 : decode cX11_longestStay 42 = .ok (.iaload, 1) := by decide +kernel
theorem dX11_longestStay_43 : decode cX11_longestStay 43 = .ok (.invokevirtual 179, 3) := by decide +kernel
theorem dX11_longestStay_46 : decode cX11_longestStay 46 = .ok (.if_icmp .ge 32, 3) := by decide +kernel
theorem dX11_longestStay_49 : decode cX11_longestStay 49 = .ok (.aload_n 0, 1) := by decide +kernel
theorem dX11_longestStay_50 : decode cX11_longestStay 50 = .ok (.getfield 62, 3) := by decide +kernel
theorem dX11_longestStay_53 : decode cX11_longestStay 53 = .ok (.iload_n 3, 1) := by decide +kernel
theorem dX11_longestStay_54 : decode cX11_longestStay 54 = .ok (.iaload, 1) := by decide +kernel
theorem dX11_longestStay_55 : decode cX11_longestStay 55 = .ok (.aload_n 0, 1) := by decide +kernel
theorem dX11_longestStay_56 : decode cX11_longestStay 56 = .ok (.getfield 62, 3) := by decide +kernel
theorem dX11_longestStay_59 : decode cX11_longestStay 59 = .ok (.iload_n 2, 1) := by decide +kernel
theorem dX11_longestStay_60 : decode cX11_longestStay 60 = .ok (.iaload, 1) := by decide +kernel
theorem dX11_longestStay_61 : decode cX11_longestStay 61 = .ok (.if_icmp .lt 17, 3) := by decide +kernel
theorem dX11_longestStay_64 : decode cX11_longestStay 64 = .ok (.aload_n 0, 1) := by decide +kernel
theorem dX11_longestStay_65 : decode cX11_longestStay 65 = .ok (.getfield 62, 3) := by decide +kernel
theorem dX11_longestStay_68 : decode cX11_longestStay 68 = .ok (.iload_n 2, 1) := by decide +kernel
theorem dX11_longestStay_69 : decode cX11_longestStay 69 = .ok (.aload_n 0, 1) := by decide +kernel
theorem dX11_longestStay_70 : decode cX11_longestStay 70 = .ok (.getfield 62, 3) := by decide +kernel
theorem dX11_longestStay_73 : decode cX11_longestStay 73 = .ok (.iload_n 3, 1) := by decide +kernel
theorem dX11_longestStay_74 : decode cX11_longestStay 74 = .ok (.iaload, 1) := by decide +kernel
theorem dX11_longestStay_75 : decode cX11_longestStay 75 = .ok (.iconst 1, 1) := by decide +kernel
theorem dX11_longestStay_76 : decode cX11_longestStay 76 = .ok (.iadd, 1) := by decide +kernel
theorem dX11_longestStay_77 : decode cX11_longestStay 77 = .ok (.iastore, 1) := by decide +kernel
theorem dX11_longestStay_78 : decode cX11_longestStay 78 = .ok (.iinc 3 1, 3) := by decide +kernel
theorem dX11_longestStay_81 : decode cX11_longestStay 81 = .ok (.goto (-60), 3) := by decide +kernel
theorem dX11_longestStay_84 : decode cX11_longestStay 84 = .ok (.aload_n 0, 1) := by decide +kernel
theorem dX11_longestStay_85 : decode cX11_longestStay 85 = .ok (.getfield 62, 3) := by decide +kernel
theorem dX11_longestStay_88 : decode cX11_longestStay 88 = .ok (.iload_n 2, 1) := by decide +kernel
theorem dX11_longestStay_89 : decode cX11_longestStay 89 = .ok (.iaload, 1) := by decide +kernel
theorem dX11_longestStay_90 : decode cX11_longestStay 90 = .ok (.iload_n 1, 1) := by decide +kernel
theorem dX11_longestStay_91 : decode cX11_longestStay 91 = .ok (.if_icmp .le 12, 3) := by decide +kernel
theorem dX11_longestStay_94 : decode cX11_longestStay 94 = .ok (.aload_n 0, 1) := by decide +kernel
theorem dX11_longestStay_95 : decode cX11_longestStay 95 = .ok (.getfield 62, 3) := by decide +kernel
theorem dX11_longestStay_98 : decode cX11_longestStay 98 = .ok (.iload_n 2, 1) := by decide +kernel
theorem dX11_longestStay_99 : decode cX11_longestStay 99 = .ok (.iaload, 1) := by decide +kernel
theorem dX11_longestStay_100 : decode cX11_longestStay 100 = .ok (.goto 4, 3) := by decide +kernel
theorem dX11_longestStay_103 : decode cX11_longestStay 103 = .ok (.iload_n 1, 1) := by decide +kernel
theorem dX11_longestStay_104 : decode cX11_longestStay 104 = .ok (.istore_n 1, 1) := by decide +kernel
theorem dX11_longestStay_105 : decode cX11_longestStay 105 = .ok (.iinc 2 1, 3) := by decide +kernel
theorem dX11_longestStay_108 : decode cX11_longestStay 108 = .ok (.goto (-104), 3) := by decide +kernel
theorem dX11_longestStay_111 : decode cX11_longestStay 111 = .ok (.iload_n 1, 1) := by decide +kernel
theorem dX11_longestStay_112 : decode cX11_longestStay 112 = .ok (.ireturn, 1) := by decide +kernel
theorem dX11_comesRight_0 : decode cX11_comesRight 0 = .ok (.aload_n 0, 1) := by decide +kernel
theorem dX11_comesRight_1 : decode cX11_comesRight 1 = .ok (.aload_n 0, 1) := by decide +kernel
theorem dX11_comesRight_2 : decode cX11_comesRight 2 = .ok (.getfield 215, 3) := by decide +kernel
theorem dX11_comesRight_5 : decode cX11_comesRight 5 = .ok (.ifCond .ne 17, 3) := by decide +kernel
theorem dX11_comesRight_8 : decode cX11_comesRight 8 = .ok (.aload_n 0, 1) := by decide +kernel
theorem dX11_comesRight_9 : decode cX11_comesRight 9 = .ok (.getfield 56, 3) := by decide +kernel
theorem dX11_comesRight_12 : decode cX11_comesRight 12 = .ok (.aload_n 0, 1) := by decide +kernel
theorem dX11_comesRight_13 : decode cX11_comesRight 13 = .ok (.getfield 212, 3) := by decide +kernel
theorem dX11_comesRight_16 : decode cX11_comesRight 16 = .ok (.invokestatic 218, 3) := by decide +kernel
theorem dX11_comesRight_19 : decode cX11_comesRight 19 = .ok (.goto 7, 3) := by decide +kernel
theorem dX11_comesRight_22 : decode cX11_comesRight 22 = .ok (.aload_n 0, 1) := by decide +kernel
theorem dX11_comesRight_23 : decode cX11_comesRight 23 = .ok (.getfield 222, 3) := by decide +kernel
theorem dX11_comesRight_26 : decode cX11_comesRight 26 = .ok (.putfield 222, 3) := by decide +kernel
theorem dX11_comesRight_29 : decode cX11_comesRight 29 = .ok (.aload_n 0, 1) := by decide +kernel
theorem dX11_comesRight_30 : decode cX11_comesRight 30 = .ok (.dup, 1) := by decide +kernel
theorem dX11_comesRight_31 : decode cX11_comesRight 31 = .ok (.getfield 215, 3) := by decide +kernel
theorem dX11_comesRight_34 : decode cX11_comesRight 34 = .ok (.iconst 1, 1) := by decide +kernel
theorem dX11_comesRight_35 : decode cX11_comesRight 35 = .ok (.iadd, 1) := by decide +kernel
theorem dX11_comesRight_36 : decode cX11_comesRight 36 = .ok (.putfield 215, 3) := by decide +kernel
theorem dX11_comesRight_39 : decode cX11_comesRight 39 = .ok (.aload_n 0, 1) := by decide +kernel
theorem dX11_comesRight_40 : decode cX11_comesRight 40 = .ok (.getfield 212, 3) := by decide +kernel
theorem dX11_comesRight_43 : decode cX11_comesRight 43 = .ok (.aload_n 0, 1) := by decide +kernel
theorem dX11_comesRight_44 : decode cX11_comesRight 44 = .ok (.invokevirtual 225, 3) := by decide +kernel
theorem dX11_comesRight_47 : decode cX11_comesRight 47 = .ok (.isub, 1) := by decide +kernel
theorem dX11_comesRight_48 : decode cX11_comesRight 48 = .ok (.istore_n 1, 1) := by decide +kernel
theorem dX11_comesRight_49 : decode cX11_comesRight 49 = .ok (.aload_n 0, 1) := by decide +kernel
theorem dX11_comesRight_50 : decode cX11_comesRight 50 = .ok (.iload_n 1, 1) := by decide +kernel
theorem dX11_comesRight_51 : decode cX11_comesRight 51 = .ok (.aload_n 0, 1) := by decide +kernel
theorem dX11_comesRight_52 : decode cX11_comesRight 52 = .ok (.getfield 228, 3) := by decide +kernel
theorem dX11_comesRight_55 : decode cX11_comesRight 55 = .ok (.if_icmp .ge 7, 3) := by decide +kernel
theorem dX11_comesRight_58 : decode cX11_comesRight 58 = .ok (.iload_n 1, 1) := by decide +kernel
theorem dX11_comesRight_59 : decode cX11_comesRight 59 = .ok (.goto 7, 3) := by decide +kernel
theorem dX11_comesRight_62 : decode cX11_comesRight 62 = .ok (.aload_n 0, 1) := by decide +kernel
theorem dX11_comesRight_63 : decode cX11_comesRight 63 = .ok (.getfield 228, 3) := by decide +kernel
theorem dX11_comesRight_66 : decode cX11_comesRight 66 = .ok (.putfield 228, 3) := by decide +kernel
theorem dX11_comesRight_69 : decode cX11_comesRight 69 = .ok (.iconst 0, 1) := by decide +kernel
theorem dX11_comesRight_70 : decode cX11_comesRight 70 = .ok (.istore_n 2, 1) := by decide +kernel
theorem dX11_comesRight_71 : decode cX11_comesRight 71 = .ok (.iload_n 2, 1) := by decide +kernel
theorem dX11_comesRight_72 : decode cX11_comesRight 72 = .ok (.aload_n 0, 1) := by decide +kernel
theorem dX11_comesRight_73 : decode cX11_comesRight 73 = .ok (.getfield 212, 3) := by decide +kernel
theorem dX11_comesRight_76 : decode cX11_comesRight 76 = .ok (.if_icmp .ge 76, 3) := by decide +kernel
theorem dX11_comesRight_79 : decode cX11_comesRight 79 = .ok (.iload_n 2, 1) := by decide +kernel
theorem dX11_comesRight_80 : decode cX11_comesRight 80 = .ok (.iconst 1, 1) := by decide +kernel
theorem dX11_comesRight_81 : decode cX11_comesRight 81 = .ok (.iadd, 1) := by decide +kernel
theorem dX11_comesRight_82 : decode cX11_comesRight 82 = .ok (.aload_n 0, 1) := by decide +kernel
theorem dX11_comesRight_83 : decode cX11_comesRight 83 = .ok (.getfield 212, 3) := by decide +kernel
theorem dX11_comesRight_86 : decode cX11_comesRight 86 = .ok (.if_icmp .ge 14, 3) := by decide +kernel
theorem dX11_comesRight_89 : decode cX11_comesRight 89 = .ok (.aload_n 0, 1) := by decide +kernel
theorem dX11_comesRight_90 : decode cX11_comesRight 90 = .ok (.getfield 56, 3) := by decide +kernel
theorem dX11_comesRight_93 : decode cX11_comesRight 93 = .ok (.iload_n 2, 1) := by decide +kernel
theorem dX11_comesRight_94 : decode cX11_comesRight 94 = .ok (.iconst 1, 1) := by decide +kernel
theorem dX11_comesRight_95 : decode cX11_comesRight 95 = .ok (.iadd, 1) := by decide +kernel
theorem dX11_comesRight_96 : decode cX11_comesRight 96 = .ok (.iaload, 1) := by decide +kernel
theorem dX11_comesRight_97 : decode cX11_comesRight 97 = .ok (.goto 5, 3) := by decide +kernel
theorem dX11_comesRight_100 : decode cX11_comesRight 100 = .ok (.bipush (-9), 2) := by decide +kernel
theorem dX11_comesRight_102 : decode cX11_comesRight 102 = .ok (.istore_n 3, 1) := by decide +kernel
theorem dX11_comesRight_103 : decode cX11_comesRight 103 = .ok (.aload_n 0, 1) := by decide +kernel
theorem dX11_comesRight_104 : decode cX11_comesRight 104 = .ok (.getfield 56, 3) := by decide +kernel
theorem dX11_comesRight_107 : decode cX11_comesRight 107 = .ok (.iload_n 2, 1) := by decide +kernel
theorem dX11_comesRight_108 : decode cX11_comesRight 108 = .ok (.iaload, 1) := by decide +kernel
theorem dX11_comesRight_109 : decode cX11_comesRight 109 = .ok (.istore 4, 2) := by decide +kernel
theorem dX11_comesRight_111 : decode cX11_comesRight 111 = .ok (.aload_n 0, 1) := by decide +kernel
theorem dX11_comesRight_112 : decode cX11_comesRight 112 = .ok (.getfield 59, 3) := by decide +kernel
theorem dX11_comesRight_115 : decode cX11_comesRight 115 = .ok (.iload 4, 2) := by decide +kernel
theorem dX11_comesRight_117 : decode cX11_comesRight 117 = .ok (.aload_n 0, 1) := by decide +kernel
theorem dX11_comesRight_118 : decode cX11_comesRight 118 = .ok (.getfield 59, 3) := by decide +kernel
theorem dX11_comesRight_121 : decode cX11_comesRight 121 = .ok (.iload 4, 2) := by decide +kernel
theorem dX11_comesRight_123 : decode cX11_comesRight 123 = .ok (.iaload, 1) := by decide +kernel
theorem dX11_comesRight_124 : decode cX11_comesRight 124 = .ok (.iconst (-1), 1) := by decide +kernel
theorem dX11_comesRight_125 : decode cX11_comesRight 125 = .ok (.if_icmp .eq 14, 3) := by decide +kernel
theorem dX11_comesRight_128 : decode cX11_comesRight 128 = .ok (.aload_n 0, 1) := by decide +kernel
theorem dX11_comesRight_129 : decode cX11_comesRight 129 = .ok (.getfield 59, 3) := by decide +kernel
theorem dX11_comesRight_132 : decode cX11_comesRight 132 = .ok (.iload 4, 2) := by decide +kernel
theorem dX11_comesRight_134 : decode cX11_comesRight 134 = .ok (.iaload, 1) := by decide +kernel
theorem dX11_comesRight_135 : decode cX11_comesRight 135 = .ok (.iload_n 3, 1) := by decide +kernel
theorem dX11_comesRight_136 : decode cX11_comesRight 136 = .ok (.if_icmp .ne 7, 3) := by decide +kernel
theorem dX11_comesRight_139 : decode cX11_comesRight 139 = .ok (.iload_n 3, 1) := by decide +kernel
theorem dX11_comesRight_140 : decode cX11_comesRight 140 = .ok (.goto 5, 3) := by decide +kernel
theorem dX11_comesRight_143 : decode cX11_comesRight 143 = .ok (.bipush (-9), 2) := by decide +kernel
theorem dX11_comesRight_145 : decode cX11_comesRight 145 = .ok (.iastore, 1) := by decide +kernel
theorem dX11_comesRight_146 : decode cX11_comesRight 146 = .ok (.iinc 2 1, 3) := by decide +kernel
theorem dX11_comesRight_149 : decode cX11_comesRight 149 = .ok (.goto (-78), 3) := by decide +kernel
theorem dX11_comesRight_152 : decode cX11_comesRight 152 = .ok (.return_, 1) := by decide +kernel
theorem dX11_setOrders_0 : decode cX11_setOrders 0 = .ok (.aload_n 0, 1) := by decide +kernel
theorem dX11_setOrders_1 : decode cX11_setOrders 1 = .ok (.iconst 0, 1) := by decide +kernel
theorem dX11_setOrders_2 : decode cX11_setOrders 2 = .ok (.putfield 215, 3) := by decide +kernel
theorem dX11_setOrders_5 : decode cX11_setOrders 5 = .ok (.aload_n 0, 1) := by decide +kernel
theorem dX11_setOrders_6 : decode cX11_setOrders 6 = .ok (.bipush (-9), 2) := by decide +kernel
theorem dX11_setOrders_8 : decode cX11_setOrders 8 = .ok (.putfield 222, 3) := by decide +kernel
theorem dX11_setOrders_11 : decode cX11_setOrders 11 = .ok (.aload_n 0, 1) := by decide +kernel
theorem dX11_setOrders_12 : decode cX11_setOrders 12 = .ok (.ldc 231, 2) := by decide +kernel
theorem dX11_setOrders_14 : decode cX11_setOrders 14 = .ok (.putfield 228, 3) := by decide +kernel
theorem dX11_setOrders_17 : decode cX11_setOrders 17 = .ok (.iconst 0, 1) := by decide +kernel
theorem dX11_setOrders_18 : decode cX11_setOrders 18 = .ok (.istore_n 2, 1) := by decide +kernel
theorem dX11_setOrders_19 : decode cX11_setOrders 19 = .ok (.iload_n 2, 1) := by decide +kernel
theorem dX11_setOrders_20 : decode cX11_setOrders 20 = .ok (.bipush 6, 2) := by decide +kernel
theorem dX11_setOrders_22 : decode cX11_setOrders 22 = .ok (.if_icmp .ge 16, 3) := by decide +kernel
theorem dX11_setOrders_25 : decode cX11_setOrders 25 = .ok (.aload_n 0, 1) := by decide +kernel
theorem dX11_setOrders_26 : decode cX11_setOrders 26 = .ok (.getfield 59, 3) := by decide +kernel
theorem dX11_setOrders_29 : decode cX11_setOrders 29 = .ok (.iload_n 2, 1) := by decide +kernel
theorem dX11_setOrders_30 : decode cX11_setOrders 30 = .ok (.iconst (-1), 1) := by decide +kernel
theorem dX11_setOrders_31 : decode cX11_setOrders 31 = .ok (.iastore, 1) := by decide +kernel
theorem dX11_setOrders_32 : decode cX11_setOrders 32 = .ok (.iinc 2 1, 3) := by decide +kernel
theorem dX11_setOrders_35 : decode cX11_setOrders 35 = .ok (.goto (-16), 3) := by decide +kernel
theorem dX11_setOrders_38 : decode cX11_setOrders 38 = .ok (.aload_n 0, 1) := by decide +kernel
theorem dX11_setOrders_39 : decode cX11_setOrders 39 = .ok (.iload_n 1, 1) := by decide +kernel
theorem dX11_setOrders_40 : decode cX11_setOrders 40 = .ok (.invokevirtual 232, 3) := by decide +kernel
theorem dX11_setOrders_43 : decode cX11_setOrders 43 = .ok (.iconst 1, 1) := by decide +kernel
theorem dX11_setOrders_44 : decode cX11_setOrders 44 = .ok (.istore_n 2, 1) := by decide +kernel
theorem dX11_setOrders_45 : decode cX11_setOrders 45 = .ok (.iload_n 2, 1) := by decide +kernel
theorem dX11_setOrders_46 : decode cX11_setOrders 46 = .ok (.ifCond .eq 34, 3) := by decide +kernel
theorem dX11_setOrders_49 : decode cX11_setOrders 49 = .ok (.aload_n 0, 1) := by decide +kernel
theorem dX11_setOrders_50 : decode cX11_setOrders 50 = .ok (.aload_n 0, 1) := by decide +kernel
theorem dX11_setOrders_51 : decode cX11_setOrders 51 = .ok (.getfield 56, 3) := by decide +kernel
theorem dX11_setOrders_54 : decode cX11_setOrders 54 = .ok (.aload_n 0, 1) := by decide +kernel
theorem dX11_setOrders_55 : decode cX11_setOrders 55 = .ok (.getfield 212, 3) := by decide +kernel
theorem dX11_setOrders_58 : decode cX11_setOrders 58 = .ok (.aload_n 0, 1) := by decide +kernel
theorem dX11_setOrders_59 : decode cX11_setOrders 59 = .ok (.getfield 133, 3) := by decide +kernel
theorem dX11_setOrders_62 : decode cX11_setOrders 62 = .ok (.invokevirtual 236, 3) := by decide +kernel
theorem dX11_setOrders_65 : decode cX11_setOrders 65 = .ok (.ifCond .eq 7, 3) := by decide +kernel
theorem dX11_setOrders_68 : decode cX11_setOrders 68 = .ok (.aload_n 0, 1) := by decide +kernel
theorem dX11_setOrders_69 : decode cX11_setOrders 69 = .ok (.invokevirtual 240, 3) := by decide +kernel
theorem dX11_setOrders_72 : decode cX11_setOrders 72 = .ok (.aload_n 0, 1) := by decide +kernel
theorem dX11_setOrders_73 : decode cX11_setOrders 73 = .ok (.invokevirtual 243, 3) := by decide +kernel
theorem dX11_setOrders_76 : decode cX11_setOrders 76 = .ok (.istore_n 2, 1) := by decide +kernel
theorem dX11_setOrders_77 : decode cX11_setOrders 77 = .ok (.goto (-32), 3) := by decide +kernel
theorem dX11_setOrders_80 : decode cX11_setOrders 80 = .ok (.return_, 1) := by decide +kernel
theorem dX11_nextOf_0 : decode cX11_nextOf 0 = .ok (.aload_n 0, 1) := by decide +kernel
theorem dX11_nextOf_1 : decode cX11_nextOf 1 = .ok (.bipush (-9), 2) := by decide +kernel
theorem dX11_nextOf_3 : decode cX11_nextOf 3 = .ok (.invokevirtual 246, 3) := by decide +kernel
theorem dX11_nextOf_6 : decode cX11_nextOf 6 = .ok (.aload_n 0, 1) := by decide +kernel
theorem dX11_nextOf_7 : decode cX11_nextOf 7 = .ok (.getfield 59, 3) := by decide +kernel
theorem dX11_nextOf_10 : decode cX11_nextOf 10 = .ok (.iload_n 1, 1) := by decide +kernel
theorem dX11_nextOf_11 : decode cX11_nextOf 11 = .ok (.iaload, 1) := by decide +kernel
theorem dX11_nextOf_12 : decode cX11_nextOf 12 = .ok (.iconst (-1), 1) := by decide +kernel
theorem dX11_nextOf_13 : decode cX11_nextOf 13 = .ok (.if_icmp .ne 8, 3) := by decide +kernel
theorem dX11_nextOf_16 : decode cX11_nextOf 16 = .ok (.bipush (-9), 2) := by decide +kernel
theorem dX11_nextOf_18 : decode cX11_nextOf 18 = .ok (.goto 9, 3) := by decide +kernel
theorem dX11_nextOf_21 : decode cX11_nextOf 21 = .ok (.aload_n 0, 1) := by decide +kernel
theorem dX11_nextOf_22 : decode cX11_nextOf 22 = .ok (.getfield 59, 3) := by decide +kernel
theorem dX11_nextOf_25 : decode cX11_nextOf 25 = .ok (.iload_n 1, 1) := by decide +kernel
theorem dX11_nextOf_26 : decode cX11_nextOf 26 = .ok (.iaload, 1) := by decide +kernel
theorem dX11_nextOf_27 : decode cX11_nextOf 27 = .ok (.ireturn, 1) := by decide +kernel
theorem dX11_alienSet_0 : decode cX11_alienSet 0 = .ok (.iconst 0, 1) := by decide +kernel
theorem dX11_alienSet_1 : decode cX11_alienSet 1 = .ok (.istore_n 1, 1) := by decide +kernel
theorem dX11_alienSet_2 : decode cX11_alienSet 2 = .ok (.iconst 0, 1) := by decide +kernel
theorem dX11_alienSet_3 : decode cX11_alienSet 3 = .ok (.istore_n 2, 1) := by decide +kernel
theorem dX11_alienSet_4 : decode cX11_alienSet 4 = .ok (.iload_n 2, 1) := by decide +kernel
theorem dX11_alienSet_5 : decode cX11_alienSet 5 = .ok (.aload_n 0, 1) := by decide +kernel
theorem dX11_alienSet_6 : decode cX11_alienSet 6 = .ok (.getfield 68, 3) := by decide +kernel
theorem dX11_alienSet_9 : decode cX11_alienSet 9 = .ok (.if_icmp .ge 41, 3) := by decide +kernel
theorem dX11_alienSet_12 : decode cX11_alienSet 12 = .ok (.aload_n 0, 1) := by decide +kernel
theorem dX11_alienSet_13 : decode cX11_alienSet 13 = .ok (.iload_n 2, 1) := by decide +kernel
theorem dX11_alienSet_14 : decode cX11_alienSet 14 = .ok (.invokevirtual 179, 3) := by decide +kernel
theorem dX11_alienSet_17 : decode cX11_alienSet 17 = .ok (.bipush (-9), 2) := by decide +kernel
theorem dX11_alienSet_19 : decode cX11_alienSet 19 = .ok (.if_icmp .eq 25, 3) := by decide +kernel
theorem dX11_alienSet_22 : decode cX11_alienSet 22 = .ok (.aload_n 0, 1) := by decide +kernel
theorem dX11_alienSet_23 : decode cX11_alienSet 23 = .ok (.iload_n 2, 1) := by decide +kernel
theorem dX11_alienSet_24 : decode cX11_alienSet 24 = .ok (.invokevirtual 246, 3) := by decide +kernel
theorem dX11_alienSet_27 : decode cX11_alienSet 27 = .ok (.iload_n 1, 1) := by decide +kernel
theorem dX11_alienSet_28 : decode cX11_alienSet 28 = .ok (.aload_n 0, 1) := by decide +kernel
theorem dX11_alienSet_29 : decode cX11_alienSet 29 = .ok (.getfield 215, 3) := by decide +kernel
theorem dX11_alienSet_32 : decode cX11_alienSet 32 = .ok (.ifCond .le 9, 3) := by decide +kernel
theorem dX11_alienSet_35 : decode cX11_alienSet 35 = .ok (.iconst 1, 1) := by decide +kernel
theorem dX11_alienSet_36 : decode cX11_alienSet 36 = .ok (.iload_n 2, 1) := by decide +kernel
theorem dX11_alienSet_37 : decode cX11_alienSet 37 = .ok (.ishl, 1) := by decide +kernel
theorem dX11_alienSet_38 : decode cX11_alienSet 38 = .ok (.goto 4, 3) := by decide +kernel
theorem dX11_alienSet_41 : decode cX11_alienSet 41 = .ok (.iconst 0, 1) := by decide +kernel
theorem dX11_alienSet_42 : decode cX11_alienSet 42 = .ok (.ior, 1) := by decide +kernel
theorem dX11_alienSet_43 : decode cX11_alienSet 43 = .ok (.istore_n 1, 1) := by decide +kernel
theorem dX11_alienSet_44 : decode cX11_alienSet 44 = .ok (.iinc 2 1, 3) := by decide +kernel
theorem dX11_alienSet_47 : decode cX11_alienSet 47 = .ok (.goto (-43), 3) := by decide +kernel
theorem dX11_alienSet_50 : decode cX11_alienSet 50 = .ok (.iload_n 1, 1) := by decide +kernel
theorem dX11_alienSet_51 : decode cX11_alienSet 51 = .ok (.ireturn, 1) := by decide +kernel
theorem dX11_fewest_0 : decode cX11_fewest 0 = .ok (.aload_n 0, 1) := by decide +kernel
theorem dX11_fewest_1 : decode cX11_fewest 1 = .ok (.bipush (-9), 2) := by decide +kernel
theorem dX11_fewest_3 : decode cX11_fewest 3 = .ok (.invokevirtual 246, 3) := by decide +kernel
theorem dX11_fewest_6 : decode cX11_fewest 6 = .ok (.aload_n 0, 1) := by decide +kernel
theorem dX11_fewest_7 : decode cX11_fewest 7 = .ok (.getfield 215, 3) := by decide +kernel
theorem dX11_fewest_10 : decode cX11_fewest 10 = .ok (.ifCond .ne 8, 3) := by decide +kernel
theorem dX11_fewest_13 : decode cX11_fewest 13 = .ok (.bipush (-9), 2) := by decide +kernel
theorem dX11_fewest_15 : decode cX11_fewest 15 = .ok (.goto 7, 3) := by decide +kernel
theorem dX11_fewest_18 : decode cX11_fewest 18 = .ok (.aload_n 0, 1) := by decide +kernel
theorem dX11_fewest_19 : decode cX11_fewest 19 = .ok (.getfield 228, 3) := by decide +kernel
theorem dX11_fewest_22 : decode cX11_fewest 22 = .ok (.ireturn, 1) := by decide +kernel
theorem dX11_rightSetNow_0 : decode cX11_rightSetNow 0 = .ok (.aload_n 0, 1) := by decide +kernel
theorem dX11_rightSetNow_1 : decode cX11_rightSetNow 1 = .ok (.aload_n 0, 1) := by decide +kernel
theorem dX11_rightSetNow_2 : decode cX11_rightSetNow 2 = .ok (.getfield 23, 3) := by decide +kernel
theorem dX11_rightSetNow_5 : decode cX11_rightSetNow 5 = .ok (.aload_n 0, 1) := by decide +kernel
theorem dX11_rightSetNow_6 : decode cX11_rightSetNow 6 = .ok (.getfield 75, 3) := by decide +kernel
theorem dX11_rightSetNow_9 : decode cX11_rightSetNow 9 = .ok (.aload_n 0, 1) := by decide +kernel
theorem dX11_rightSetNow_10 : decode cX11_rightSetNow 10 = .ok (.getfield 133, 3) := by decide +kernel
theorem dX11_rightSetNow_13 : decode cX11_rightSetNow 13 = .ok (.invokevirtual 169, 3) := by decide +kernel
theorem dX11_rightSetNow_16 : decode cX11_rightSetNow 16 = .ok (.aload_n 0, 1) := by decide +kernel
theorem dX11_rightSetNow_17 : decode cX11_rightSetNow 17 = .ok (.invokevirtual 173, 3) := by decide +kernel
theorem dX11_rightSetNow_20 : decode cX11_rightSetNow 20 = .ok (.ireturn, 1) := by decide +kernel
theorem dX11_now_0 : decode cX11_now 0 = .ok (.iload_n 1, 1) := by decide +kernel
theorem dX11_now_1 : decode cX11_now 1 = .ok (.iconst 0, 1) := by decide +kernel
theorem dX11_now_2 : decode cX11_now 2 = .ok (.iconst 5, 1) := by decide +kernel
theorem dX11_now_3 : decode cX11_now 3 = .ok (.invokestatic 71, 3) := by decide +kernel
theorem dX11_now_6 : decode cX11_now 6 = .ok (.ifCond .ne 5, 3) := by decide +kernel
theorem dX11_now_9 : decode cX11_now 9 = .ok (.iconst (-1), 1) := by decide +kernel
theorem dX11_now_10 : decode cX11_now 10 = .ok (.ireturn, 1) := by decide +kernel
theorem dX11_now_11 : decode cX11_now 11 = .ok (.iload_n 1, 1) := by decide +kernel
theorem dX11_now_12 : decode cX11_now 12 = .ok (.tableswitch 68 0 4 #[36, 41, 46, 51, 63], 36) := by decide +kernel
theorem dX11_now_48 : decode cX11_now 48 = .ok (.aload_n 0, 1) := by decide +kernel
theorem dX11_now_49 : decode cX11_now 49 = .ok (.getfield 75, 3) := by decide +kernel
theorem dX11_now_52 : decode cX11_now 52 = .ok (.ireturn, 1) := by decide +kernel
theorem dX11_now_53 : decode cX11_now 53 = .ok (.aload_n 0, 1) := by decide +kernel
theorem dX11_now_54 : decode cX11_now 54 = .ok (.invokevirtual 249, 3) := by decide +kernel
theorem dX11_now_57 : decode cX11_now 57 = .ok (.ireturn, 1) := by decide +kernel
theorem dX11_now_58 : decode cX11_now 58 = .ok (.aload_n 0, 1) := by decide +kernel
theorem dX11_now_59 : decode cX11_now 59 = .ok (.invokevirtual 252, 3) := by decide +kernel
theorem dX11_now_62 : decode cX11_now 62 = .ok (.ireturn, 1) := by decide +kernel
theorem dX11_now_63 : decode cX11_now 63 = .ok (.aload_n 0, 1) := by decide +kernel
theorem dX11_now_64 : decode cX11_now 64 = .ok (.getfield 23, 3) := by decide +kernel
theorem dX11_now_67 : decode cX11_now 67 = .ok (.aload_n 0, 1) := by decide +kernel
theorem dX11_now_68 : decode cX11_now 68 = .ok (.getfield 75, 3) := by decide +kernel
theorem dX11_now_71 : decode cX11_now 71 = .ok (.invokestatic 218, 3) := by decide +kernel
theorem dX11_now_74 : decode cX11_now 74 = .ok (.ireturn, 1) := by decide +kernel
theorem dX11_now_75 : decode cX11_now 75 = .ok (.aload_n 0, 1) := by decide +kernel
theorem dX11_now_76 : decode cX11_now 76 = .ok (.invokevirtual 255, 3) := by decide +kernel
theorem dX11_now_79 : decode cX11_now 79 = .ok (.ireturn, 1) := by decide +kernel
theorem dX11_now_80 : decode cX11_now 80 = .ok (.aload_n 0, 1) := by decide +kernel
theorem dX11_now_81 : decode cX11_now 81 = .ok (.invokevirtual 258, 3) := by decide +kernel
theorem dX11_now_84 : decode cX11_now 84 = .ok (.ireturn, 1) := by decide +kernel
theorem dX11_line_0 : decode cX11_line 0 = .ok (.aload_n 0, 1) := by decide +kernel
theorem dX11_line_1 : decode cX11_line 1 = .ok (.iload_n 1, 1) := by decide +kernel
theorem dX11_line_2 : decode cX11_line 2 = .ok (.invokevirtual 189, 3) := by decide +kernel
theorem dX11_line_5 : decode cX11_line 5 = .ok (.ifCond .eq 12, 3) := by decide +kernel
theorem dX11_line_8 : decode cX11_line 8 = .ok (.iload_n 2, 1) := by decide +kernel
theorem dX11_line_9 : decode cX11_line 9 = .ok (.iconst 0, 1) := by decide +kernel
theorem dX11_line_10 : decode cX11_line 10 = .ok (.iconst 2, 1) := by decide +kernel
theorem dX11_line_11 : decode cX11_line 11 = .ok (.invokestatic 71, 3) := by decide +kernel
theorem dX11_line_14 : decode cX11_line 14 = .ok (.ifCond .ne 5, 3) := by decide +kernel
theorem dX11_line_17 : decode cX11_line 17 = .ok (.iconst (-1), 1) := by decide +kernel
theorem dX11_line_18 : decode cX11_line 18 = .ok (.ireturn, 1) := by decide +kernel
theorem dX11_line_19 : decode cX11_line 19 = .ok (.aload_n 0, 1) := by decide +kernel
theorem dX11_line_20 : decode cX11_line 20 = .ok (.aload_n 0, 1) := by decide +kernel
theorem dX11_line_21 : decode cX11_line 21 = .ok (.getfield 23, 3) := by decide +kernel
theorem dX11_line_24 : decode cX11_line 24 = .ok (.aload_n 0, 1) := by decide +kernel
theorem dX11_line_25 : decode cX11_line 25 = .ok (.getfield 75, 3) := by decide +kernel
theorem dX11_line_28 : decode cX11_line 28 = .ok (.aload_n 0, 1) := by decide +kernel
theorem dX11_line_29 : decode cX11_line 29 = .ok (.getfield 133, 3) := by decide +kernel
theorem dX11_line_32 : decode cX11_line 32 = .ok (.invokevirtual 169, 3) := by decide +kernel
theorem dX11_line_35 : decode cX11_line 35 = .ok (.iload_n 2, 1) := by decide +kernel
theorem dX11_line_36 : decode cX11_line 36 = .ok (.ifCond .ne 12, 3) := by decide +kernel
theorem dX11_line_39 : decode cX11_line 39 = .ok (.aload_n 0, 1) := by decide +kernel
theorem dX11_line_40 : decode cX11_line 40 = .ok (.getfield 44, 3) := by decide +kernel
theorem dX11_line_43 : decode cX11_line 43 = .ok (.iload_n 1, 1) := by decide +kernel
theorem dX11_line_44 : decode cX11_line 44 = .ok (.iaload, 1) := by decide +kernel
theorem dX11_line_45 : decode cX11_line 45 = .ok (.goto 23, 3) := by decide +kernel
theorem dX11_line_48 : decode cX11_line 48 = .ok (.iload_n 2, 1) := by decide +kernel
theorem dX11_line_49 : decode cX11_line 49 = .ok (.iconst 1, 1) := by decide +kernel
theorem dX11_line_50 : decode cX11_line 50 = .ok (.if_icmp .ne 12, 3) := by decide +kernel
theorem dX11_line_53 : decode cX11_line 53 = .ok (.aload_n 0, 1) := by decide +kernel
theorem dX11_line_54 : decode cX11_line 54 = .ok (.getfield 47, 3) := by decide +kernel
theorem dX11_line_57 : decode cX11_line 57 = .ok (.iload_n 1, 1) := by decide +kernel
theorem dX11_line_58 : decode cX11_line 58 = .ok (.iaload, 1) := by decide +kernel
theorem dX11_line_59 : decode cX11_line 59 = .ok (.goto 9, 3) := by decide +kernel
theorem dX11_line_62 : decode cX11_line 62 = .ok (.aload_n 0, 1) := by decide +kernel
theorem dX11_line_63 : decode cX11_line 63 = .ok (.getfield 50, 3) := by decide +kernel
theorem dX11_line_66 : decode cX11_line 66 = .ok (.iload_n 1, 1) := by decide +kernel
theorem dX11_line_67 : decode cX11_line 67 = .ok (.iaload, 1) := by decide +kernel
theorem dX11_line_68 : decode cX11_line 68 = .ok (.ireturn, 1) := by decide +kernel
theorem dX11_reads_0 : decode cX11_reads 0 = .ok (.aload_n 0, 1) := by decide +kernel
theorem dX11_reads_1 : decode cX11_reads 1 = .ok (.iload_n 1, 1) := by decide +kernel
theorem dX11_reads_2 : decode cX11_reads 2 = .ok (.invokevirtual 189, 3) := by decide +kernel
theorem dX11_reads_5 : decode cX11_reads 5 = .ok (.ifCond .eq 36, 3) := by decide +kernel
theorem dX11_reads_8 : decode cX11_reads 8 = .ok (.iload_n 2, 1) := by decide +kernel
theorem dX11_reads_9 : decode cX11_reads 9 = .ok (.iconst 0, 1) := by decide +kernel
theorem dX11_reads_10 : decode cX11_reads 10 = .ok (.iconst 2, 1) := by decide +kernel
theorem dX11_reads_11 : decode cX11_reads 11 = .ok (.aload_n 0, 1) := by decide +kernel
theorem dX11_reads_12 : decode cX11_reads 12 = .ok (.getfield 75, 3) := by decide +kernel
theorem dX11_reads_15 : decode cX11_reads 15 = .ok (.imul, 1) := by decide +kernel
theorem dX11_reads_16 : decode cX11_reads 16 = .ok (.iconst 1, 1) := by decide +kernel
theorem dX11_reads_17 : decode cX11_reads 17 = .ok (.isub, 1) := by decide +kernel
theorem dX11_reads_18 : decode cX11_reads 18 = .ok (.invokestatic 71, 3) := by decide +kernel
theorem dX11_reads_21 : decode cX11_reads 21 = .ok (.ifCond .eq 20, 3) := by decide +kernel
theorem dX11_reads_24 : decode cX11_reads 24 = .ok (.aload_n 0, 1) := by decide +kernel
theorem dX11_reads_25 : decode cX11_reads 25 = .ok (.aload_n 0, 1) := by decide +kernel
theorem dX11_reads_26 : decode cX11_reads 26 = .ok (.getfield 23, 3) := by decide +kernel
theorem dX11_reads_29 : decode cX11_reads 29 = .ok (.iload_n 1, 1) := by decide +kernel
theorem dX11_reads_30 : decode cX11_reads 30 = .ok (.iload_n 2, 1) := by decide +kernel
theorem dX11_reads_31 : decode cX11_reads 31 = .ok (.aload_n 0, 1) := by decide +kernel
theorem dX11_reads_32 : decode cX11_reads 32 = .ok (.getfield 133, 3) := by decide +kernel
theorem dX11_reads_35 : decode cX11_reads 35 = .ok (.invokevirtual 150, 3) := by decide +kernel
theorem dX11_reads_38 : decode cX11_reads 38 = .ok (.goto 4, 3) := by decide +kernel
theorem dX11_reads_41 : decode cX11_reads 41 = .ok (.iconst (-1), 1) := by decide +kernel
theorem dX11_reads_42 : decode cX11_reads 42 = .ok (.ireturn, 1) := by decide +kernel
theorem dX11_orders_0 : decode cX11_orders 0 = .ok (.iload_n 1, 1) := by decide +kernel
theorem dX11_orders_1 : decode cX11_orders 1 = .ok (.iconst 0, 1) := by decide +kernel
theorem dX11_orders_2 : decode cX11_orders 2 = .ok (.iconst 1, 1) := by decide +kernel
theorem dX11_orders_3 : decode cX11_orders 3 = .ok (.invokestatic 71, 3) := by decide +kernel
theorem dX11_orders_6 : decode cX11_orders 6 = .ok (.ifCond .ne 5, 3) := by decide +kernel
theorem dX11_orders_9 : decode cX11_orders 9 = .ok (.iconst (-1), 1) := by decide +kernel
theorem dX11_orders_10 : decode cX11_orders 10 = .ok (.ireturn, 1) := by decide +kernel
theorem dX11_orders_11 : decode cX11_orders 11 = .ok (.aload_n 0, 1) := by decide +kernel
theorem dX11_orders_12 : decode cX11_orders 12 = .ok (.bipush (-9), 2) := by decide +kernel
theorem dX11_orders_14 : decode cX11_orders 14 = .ok (.invokevirtual 246, 3) := by decide +kernel
theorem dX11_orders_17 : decode cX11_orders 17 = .ok (.iload_n 1, 1) := by decide +kernel
theorem dX11_orders_18 : decode cX11_orders 18 = .ok (.ifCond .ne 10, 3) := by decide +kernel
theorem dX11_orders_21 : decode cX11_orders 21 = .ok (.aload_n 0, 1) := by decide +kernel
theorem dX11_orders_22 : decode cX11_orders 22 = .ok (.getfield 215, 3) := by decide +kernel
theorem dX11_orders_25 : decode cX11_orders 25 = .ok (.goto 7, 3) := by decide +kernel
theorem dX11_orders_28 : decode cX11_orders 28 = .ok (.aload_n 0, 1) := by decide +kernel
theorem dX11_orders_29 : decode cX11_orders 29 = .ok (.getfield 222, 3) := by decide +kernel
theorem dX11_orders_32 : decode cX11_orders 32 = .ok (.ireturn, 1) := by decide +kernel
theorem dX11_lieSet_0 : decode cX11_lieSet 0 = .ok (.iconst 0, 1) := by decide +kernel
theorem dX11_lieSet_1 : decode cX11_lieSet 1 = .ok (.istore_n 1, 1) := by decide +kernel
theorem dX11_lieSet_2 : decode cX11_lieSet 2 = .ok (.iconst 0, 1) := by decide +kernel
theorem dX11_lieSet_3 : decode cX11_lieSet 3 = .ok (.istore_n 2, 1) := by decide +kernel
theorem dX11_lieSet_4 : decode cX11_lieSet 4 = .ok (.iload_n 2, 1) := by decide +kernel
theorem dX11_lieSet_5 : decode cX11_lieSet 5 = .ok (.aload_n 0, 1) := by decide +kernel
theorem dX11_lieSet_6 : decode cX11_lieSet 6 = .ok (.getfield 75, 3) := by decide +kernel
theorem dX11_lieSet_9 : decode cX11_lieSet 9 = .ok (.if_icmp .ge 20, 3) := by decide +kernel
theorem dX11_lieSet_12 : decode cX11_lieSet 12 = .ok (.iload_n 1, 1) := by decide +kernel
theorem dX11_lieSet_13 : decode cX11_lieSet 13 = .ok (.iconst 1, 1) := by decide +kernel
theorem dX11_lieSet_14 : decode cX11_lieSet 14 = .ok (.aload_n 0, 1) := by decide +kernel
theorem dX11_lieSet_15 : decode cX11_lieSet 15 = .ok (.getfield 23, 3) := by decide +kernel
theorem dX11_lieSet_18 : decode cX11_lieSet 18 = .ok (.iload_n 2, 1) := by decide +kernel
theorem dX11_lieSet_19 : decode cX11_lieSet 19 = .ok (.iaload, 1) := by decide +kernel
theorem dX11_lieSet_20 : decode cX11_lieSet 20 = .ok (.ishl, 1) := by decide +kernel
theorem dX11_lieSet_21 : decode cX11_lieSet 21 = .ok (.ior, 1) := by decide +kernel
theorem dX11_lieSet_22 : decode cX11_lieSet 22 = .ok (.istore_n 1, 1) := by decide +kernel
theorem dX11_lieSet_23 : decode cX11_lieSet 23 = .ok (.iinc 2 1, 3) := by decide +kernel
theorem dX11_lieSet_26 : decode cX11_lieSet 26 = .ok (.goto (-22), 3) := by decide +kernel
theorem dX11_lieSet_29 : decode cX11_lieSet 29 = .ok (.iload_n 1, 1) := by decide +kernel
theorem dX11_lieSet_30 : decode cX11_lieSet 30 = .ok (.ireturn, 1) := by decide +kernel
theorem dX11_either_0 : decode cX11_either 0 = .ok (.iload_n 1, 1) := by decide +kernel
theorem dX11_either_1 : decode cX11_either 1 = .ok (.iconst 0, 1) := by decide +kernel
theorem dX11_either_2 : decode cX11_either 2 = .ok (.iconst 2, 1) := by decide +kernel
theorem dX11_either_3 : decode cX11_either 3 = .ok (.invokestatic 71, 3) := by decide +kernel
theorem dX11_either_6 : decode cX11_either 6 = .ok (.ifCond .ne 5, 3) := by decide +kernel
theorem dX11_either_9 : decode cX11_either 9 = .ok (.iconst (-1), 1) := by decide +kernel
theorem dX11_either_10 : decode cX11_either 10 = .ok (.ireturn, 1) := by decide +kernel
theorem dX11_either_11 : decode cX11_either 11 = .ok (.aload_n 0, 1) := by decide +kernel
theorem dX11_either_12 : decode cX11_either 12 = .ok (.invokevirtual 261, 3) := by decide +kernel
theorem dX11_either_15 : decode cX11_either 15 = .ok (.istore_n 2, 1) := by decide +kernel
theorem dX11_either_16 : decode cX11_either 16 = .ok (.iconst 0, 1) := by decide +kernel
theorem dX11_either_17 : decode cX11_either 17 = .ok (.istore_n 3, 1) := by decide +kernel
theorem dX11_either_18 : decode cX11_either 18 = .ok (.bipush (-9), 2) := by decide +kernel
theorem dX11_either_20 : decode cX11_either 20 = .ok (.istore 4, 2) := by decide +kernel
theorem dX11_either_22 : decode cX11_either 22 = .ok (.bipush (-9), 2) := by decide +kernel
theorem dX11_either_24 : decode cX11_either 24 = .ok (.istore 5, 2) := by decide +kernel
theorem dX11_either_26 : decode cX11_either 26 = .ok (.aload_n 0, 1) := by decide +kernel
theorem dX11_either_27 : decode cX11_either 27 = .ok (.bipush (-9), 2) := by decide +kernel
theorem dX11_either_29 : decode cX11_either 29 = .ok (.invokevirtual 232, 3) := by decide +kernel
theorem dX11_either_32 : decode cX11_either 32 = .ok (.iconst 1, 1) := by decide +kernel
theorem dX11_either_33 : decode cX11_either 33 = .ok (.istore 6, 2) := by decide +kernel
theorem dX11_either_35 : decode cX11_either 35 = .ok (.iload 6, 2) := by decide +kernel
theorem dX11_either_37 : decode cX11_either 37 = .ok (.ifCond .eq 96, 3) := by decide +kernel
theorem dX11_either_40 : decode cX11_either 40 = .ok (.iconst 0, 1) := by decide +kernel
theorem dX11_either_41 : decode cX11_either 41 = .ok (.istore 7, 2) := by decide +kernel
theorem dX11_either_43 : decode cX11_either 43 = .ok (.iload 7, 2) := by decide +kernel
theorem dX11_either_45 : decode cX11_either 45 = .ok (.iconst 1, 1) := by decide +kernel
theorem dX11_either_46 : decode cX11_either 46 = .ok (.aload_n 0, 1) := by decide +kernel
theorem dX11_either_47 : decode cX11_either 47 = .ok (.getfield 68, 3) := by decide +kernel
theorem dX11_either_50 : decode cX11_either 50 = .ok (.ishl, 1) := by decide +kernel
theorem dX11_either_51 : decode cX11_either 51 = .ok (.if_icmp .ge 73, 3) := by decide +kernel
theorem dX11_either_54 : decode cX11_either 54 = .ok (.iload 7, 2) := by decide +kernel
theorem dX11_either_56 : decode cX11_either 56 = .ok (.iload_n 2, 1) := by decide +kernel
theorem dX11_either_57 : decode cX11_either 57 = .ok (.iconst (-1), 1) := by decide +kernel
theorem dX11_either_58 : decode cX11_either 58 = .ok (.ixor, 1) := by decide +kernel
theorem dX11_either_59 : decode cX11_either 59 = .ok (.iand, 1) := by decide +kernel
theorem dX11_either_60 : decode cX11_either 60 = .ok (.ifCond .ne 58, 3) := by decide +kernel
theorem dX11_either_63 : decode cX11_either 63 = .ok (.aload_n 0, 1) := by decide +kernel
theorem dX11_either_64 : decode cX11_either 64 = .ok (.aload_n 0, 1) := by decide +kernel
theorem dX11_either_65 : decode cX11_either 65 = .ok (.getfield 56, 3) := by decide +kernel
theorem dX11_either_68 : decode cX11_either 68 = .ok (.aload_n 0, 1) := by decide +kernel
theorem dX11_either_69 : decode cX11_either 69 = .ok (.getfield 212, 3) := by decide +kernel
theorem dX11_either_72 : decode cX11_either 72 = .ok (.iload 7, 2) := by decide +kernel
theorem dX11_either_74 : decode cX11_either 74 = .ok (.invokevirtual 236, 3) := by decide +kernel
theorem dX11_either_77 : decode cX11_either 77 = .ok (.ifCond .eq 41, 3) := by decide +kernel
theorem dX11_either_80 : decode cX11_either 80 = .ok (.iload_n 3, 1) := by decide +kernel
theorem dX11_either_81 : decode cX11_either 81 = .ok (.ifCond .ne 8, 3) := by decide +kernel
theorem dX11_either_84 : decode cX11_either 84 = .ok (.iload 7, 2) := by decide +kernel
theorem dX11_either_86 : decode cX11_either 86 = .ok (.goto 5, 3) := by decide +kernel
theorem dX11_either_89 : decode cX11_either 89 = .ok (.iload 5, 2) := by decide +kernel
theorem dX11_either_91 : decode cX11_either 91 = .ok (.istore 5, 2) := by decide +kernel
theorem dX11_either_93 : decode cX11_either 93 = .ok (.iload_n 3, 1) := by decide +kernel
theorem dX11_either_94 : decode cX11_either 94 = .ok (.ifCond .ne 17, 3) := by decide +kernel
theorem dX11_either_97 : decode cX11_either 97 = .ok (.aload_n 0, 1) := by decide +kernel
theorem dX11_either_98 : decode cX11_either 98 = .ok (.getfield 56, 3) := by decide +kernel
theorem dX11_either_101 : decode cX11_either 101 = .ok (.aload_n 0, 1) := by decide +kernel
theorem dX11_either_102 : decode cX11_either 102 = .ok (.getfield 212, 3) := by decide +kernel
theorem dX11_either_105 : decode cX11_either 105 = .ok (.invokestatic 218, 3) := by decide +kernel
theorem dX11_either_108 : decode cX11_either 108 = .ok (.goto 5, 3) := by decide +kernel
theorem dX11_either_111 : decode cX11_either 111 = .ok (.iload 4, 2) := by decide +kernel
theorem dX11_either_113 : decode cX11_either 113 = .ok (.istore 4, 2) := by decide +kernel
theorem dX11_either_115 : decode cX11_either 115 = .ok (.iinc 3 1, 3) := by decide +kernel
theorem dX11_either_118 : decode cX11_either 118 = .ok (.iinc 7 1, 3) := by decide +kernel
theorem dX11_either_121 : decode cX11_either 121 = .ok (.goto (-78), 3) := by decide +kernel
theorem dX11_either_124 : decode cX11_either 124 = .ok (.aload_n 0, 1) := by decide +kernel
theorem dX11_either_125 : decode cX11_either 125 = .ok (.invokevirtual 243, 3) := by decide +kernel
theorem dX11_either_128 : decode cX11_either 128 = .ok (.istore 6, 2) := by decide +kernel
theorem dX11_either_130 : decode cX11_either 130 = .ok (.goto (-95), 3) := by decide +kernel
theorem dX11_either_133 : decode cX11_either 133 = .ok (.iload_n 1, 1) := by decide +kernel
theorem dX11_either_134 : decode cX11_either 134 = .ok (.ifCond .ne 7, 3) := by decide +kernel
theorem dX11_either_137 : decode cX11_either 137 = .ok (.iload_n 3, 1) := by decide +kernel
theorem dX11_either_138 : decode cX11_either 138 = .ok (.goto 15, 3) := by decide +kernel
theorem dX11_either_141 : decode cX11_either 141 = .ok (.iload_n 1, 1) := by decide +kernel
theorem dX11_either_142 : decode cX11_either 142 = .ok (.iconst 1, 1) := by decide +kernel
theorem dX11_either_143 : decode cX11_either 143 = .ok (.if_icmp .ne 8, 3) := by decide +kernel
theorem dX11_either_146 : decode cX11_either 146 = .ok (.iload 4, 2) := by decide +kernel
theorem dX11_either_148 : decode cX11_either 148 = .ok (.goto 5, 3) := by decide +kernel
theorem dX11_either_151 : decode cX11_either 151 = .ok (.iload 5, 2) := by decide +kernel
theorem dX11_either_153 : decode cX11_either 153 = .ok (.ireturn, 1) := by decide +kernel
theorem dX11_best_0 : decode cX11_best 0 = .ok (.iload_n 1, 1) := by decide +kernel
theorem dX11_best_1 : decode cX11_best 1 = .ok (.iconst 0, 1) := by decide +kernel
theorem dX11_best_2 : decode cX11_best 2 = .ok (.iconst 1, 1) := by decide +kernel
theorem dX11_best_3 : decode cX11_best 3 = .ok (.invokestatic 71, 3) := by decide +kernel
theorem dX11_best_6 : decode cX11_best 6 = .ok (.ifCond .ne 5, 3) := by decide +kernel
theorem dX11_best_9 : decode cX11_best 9 = .ok (.iconst (-1), 1) := by decide +kernel
theorem dX11_best_10 : decode cX11_best 10 = .ok (.ireturn, 1) := by decide +kernel
theorem dX11_best_11 : decode cX11_best 11 = .ok (.iconst (-1), 1) := by decide +kernel
theorem dX11_best_12 : decode cX11_best 12 = .ok (.istore_n 2, 1) := by decide +kernel
theorem dX11_best_13 : decode cX11_best 13 = .ok (.iconst 0, 1) := by decide +kernel
theorem dX11_best_14 : decode cX11_best 14 = .ok (.istore_n 3, 1) := by decide +kernel
theorem dX11_best_15 : decode cX11_best 15 = .ok (.aload_n 0, 1) := by decide +kernel
theorem dX11_best_16 : decode cX11_best 16 = .ok (.bipush (-9), 2) := by decide +kernel
theorem dX11_best_18 : decode cX11_best 18 = .ok (.invokevirtual 232, 3) := by decide +kernel
theorem dX11_best_21 : decode cX11_best 21 = .ok (.iconst 1, 1) := by decide +kernel
theorem dX11_best_22 : decode cX11_best 22 = .ok (.istore 4, 2) := by decide +kernel
theorem dX11_best_24 : decode cX11_best 24 = .ok (.iload 4, 2) := by decide +kernel
theorem dX11_best_26 : decode cX11_best 26 = .ok (.ifCond .eq 53, 3) := by decide +kernel
theorem dX11_best_29 : decode cX11_best 29 = .ok (.aload_n 0, 1) := by decide +kernel
theorem dX11_best_30 : decode cX11_best 30 = .ok (.aload_n 0, 1) := by decide +kernel
theorem dX11_best_31 : decode cX11_best 31 = .ok (.getfield 56, 3) := by decide +kernel
theorem dX11_best_34 : decode cX11_best 34 = .ok (.aload_n 0, 1) := by decide +kernel
theorem dX11_best_35 : decode cX11_best 35 = .ok (.getfield 212, 3) := by decide +kernel
theorem dX11_best_38 : decode cX11_best 38 = .ok (.aload_n 0, 1) := by decide +kernel
theorem dX11_best_39 : decode cX11_best 39 = .ok (.getfield 133, 3) := by decide +kernel
theorem dX11_best_42 : decode cX11_best 42 = .ok (.invokevirtual 169, 3) := by decide +kernel
theorem dX11_best_45 : decode cX11_best 45 = .ok (.aload_n 0, 1) := by decide +kernel
theorem dX11_best_46 : decode cX11_best 46 = .ok (.getfield 162, 3) := by decide +kernel
theorem dX11_best_49 : decode cX11_best 49 = .ok (.iload_n 2, 1) := by decide +kernel
theorem dX11_best_50 : decode cX11_best 50 = .ok (.if_icmp .le 20, 3) := by decide +kernel
theorem dX11_best_53 : decode cX11_best 53 = .ok (.aload_n 0, 1) := by decide +kernel
theorem dX11_best_54 : decode cX11_best 54 = .ok (.getfield 162, 3) := by decide +kernel
theorem dX11_best_57 : decode cX11_best 57 = .ok (.istore_n 2, 1) := by decide +kernel
theorem dX11_best_58 : decode cX11_best 58 = .ok (.aload_n 0, 1) := by decide +kernel
theorem dX11_best_59 : decode cX11_best 59 = .ok (.getfield 56, 3) := by decide +kernel
theorem dX11_best_62 : decode cX11_best 62 = .ok (.aload_n 0, 1) := by decide +kernel
theorem dX11_best_63 : decode cX11_best 63 = .ok (.getfield 212, 3) := by decide +kernel
theorem dX11_best_66 : decode cX11_best 66 = .ok (.invokestatic 218, 3) := by decide +kernel
theorem dX11_best_69 : decode cX11_best 69 = .ok (.istore_n 3, 1) := by decide +kernel
theorem dX11_best_70 : decode cX11_best 70 = .ok (.aload_n 0, 1) := by decide +kernel
theorem dX11_best_71 : decode cX11_best 71 = .ok (.invokevirtual 243, 3) := by decide +kernel
theorem dX11_best_74 : decode cX11_best 74 = .ok (.istore 4, 2) := by decide +kernel
theorem dX11_best_76 : decode cX11_best 76 = .ok (.goto (-52), 3) := by decide +kernel
theorem dX11_best_79 : decode cX11_best 79 = .ok (.iload_n 1, 1) := by decide +kernel
theorem dX11_best_80 : decode cX11_best 80 = .ok (.ifCond .ne 7, 3) := by decide +kernel
theorem dX11_best_83 : decode cX11_best 83 = .ok (.iload_n 2, 1) := by decide +kernel
theorem dX11_best_84 : decode cX11_best 84 = .ok (.goto 4, 3) := by decide +kernel
theorem dX11_best_87 : decode cX11_best 87 = .ok (.iload_n 3, 1) := by decide +kernel
theorem dX11_best_88 : decode cX11_best 88 = .ok (.ireturn, 1) := by decide +kernel
theorem dX11_odds_0 : decode cX11_odds 0 = .ok (.iload_n 1, 1) := by decide +kernel
theorem dX11_odds_1 : decode cX11_odds 1 = .ok (.iconst 0, 1) := by decide +kernel
theorem dX11_odds_2 : decode cX11_odds 2 = .ok (.iconst 1, 1) := by decide +kernel
theorem dX11_odds_3 : decode cX11_odds 3 = .ok (.invokestatic 71, 3) := by decide +kernel
theorem dX11_odds_6 : decode cX11_odds 6 = .ok (.ifCond .ne 5, 3) := by decide +kernel
theorem dX11_odds_9 : decode cX11_odds 9 = .ok (.iconst (-1), 1) := by decide +kernel
theorem dX11_odds_10 : decode cX11_odds 10 = .ok (.ireturn, 1) := by decide +kernel
theorem dX11_odds_11 : decode cX11_odds 11 = .ok (.aload_n 0, 1) := by decide +kernel
theorem dX11_odds_12 : decode cX11_odds 12 = .ok (.bipush (-9), 2) := by decide +kernel
theorem dX11_odds_14 : decode cX11_odds 14 = .ok (.invokevirtual 246, 3) := by decide +kernel
theorem dX11_odds_17 : decode cX11_odds 17 = .ok (.iconst 1, 1) := by decide +kernel
theorem dX11_odds_18 : decode cX11_odds 18 = .ok (.istore_n 2, 1) := by decide +kernel
theorem dX11_odds_19 : decode cX11_odds 19 = .ok (.iconst 2, 1) := by decide +kernel
theorem dX11_odds_20 : decode cX11_odds 20 = .ok (.istore_n 3, 1) := by decide +kernel
theorem dX11_odds_21 : decode cX11_odds 21 = .ok (.iload_n 3, 1) := by decide +kernel
theorem dX11_odds_22 : decode cX11_odds 22 = .ok (.aload_n 0, 1) := by decide +kernel
theorem dX11_odds_23 : decode cX11_odds 23 = .ok (.getfield 75, 3) := by decide +kernel
theorem dX11_odds_26 : decode cX11_odds 26 = .ok (.if_icmp .gt 13, 3) := by decide +kernel
theorem dX11_odds_29 : decode cX11_odds 29 = .ok (.iload_n 2, 1) := by decide +kernel
theorem dX11_odds_30 : decode cX11_odds 30 = .ok (.iload_n 3, 1) := by decide +kernel
theorem dX11_odds_31 : decode cX11_odds 31 = .ok (.imul, 1) := by decide +kernel
theorem dX11_odds_32 : decode cX11_odds 32 = .ok (.istore_n 2, 1) := by decide +kernel
theorem dX11_odds_33 : decode cX11_odds 33 = .ok (.iinc 3 1, 3) := by decide +kernel
theorem dX11_odds_36 : decode cX11_odds 36 = .ok (.goto (-15), 3) := by decide +kernel
theorem dX11_odds_39 : decode cX11_odds 39 = .ok (.aload_n 0, 1) := by decide +kernel
theorem dX11_odds_40 : decode cX11_odds 40 = .ok (.getfield 215, 3) := by decide +kernel
theorem dX11_odds_43 : decode cX11_odds 43 = .ok (.iload_n 2, 1) := by decide +kernel
theorem dX11_odds_44 : decode cX11_odds 44 = .ok (.invokestatic 264, 3) := by decide +kernel
theorem dX11_odds_47 : decode cX11_odds 47 = .ok (.istore_n 3, 1) := by decide +kernel
theorem dX11_odds_48 : decode cX11_odds 48 = .ok (.iload_n 1, 1) := by decide +kernel
theorem dX11_odds_49 : decode cX11_odds 49 = .ok (.ifCond .ne 12, 3) := by decide +kernel
theorem dX11_odds_52 : decode cX11_odds 52 = .ok (.aload_n 0, 1) := by decide +kernel
theorem dX11_odds_53 : decode cX11_odds 53 = .ok (.getfield 215, 3) := by decide +kernel
theorem dX11_odds_56 : decode cX11_odds 56 = .ok (.iload_n 3, 1) := by decide +kernel
theorem dX11_odds_57 : decode cX11_odds 57 = .ok (.idiv, 1) := by decide +kernel
theorem dX11_odds_58 : decode cX11_odds 58 = .ok (.goto 6, 3) := by decide +kernel
theorem dX11_odds_61 : decode cX11_odds 61 = .ok (.iload_n 2, 1) := by decide +kernel
theorem dX11_odds_62 : decode cX11_odds 62 = .ok (.iload_n 3, 1) := by decide +kernel
theorem dX11_odds_63 : decode cX11_odds 63 = .ok (.idiv, 1) := by decide +kernel
theorem dX11_odds_64 : decode cX11_odds 64 = .ok (.ireturn, 1) := by decide +kernel
theorem dX11_sees_0 : decode cX11_sees 0 = .ok (.iload_n 1, 1) := by decide +kernel
theorem dX11_sees_1 : decode cX11_sees 1 = .ok (.iconst 0, 1) := by decide +kernel
theorem dX11_sees_2 : decode cX11_sees 2 = .ok (.bipush 25, 2) := by decide +kernel
theorem dX11_sees_4 : decode cX11_sees 4 = .ok (.invokestatic 71, 3) := by decide +kernel
theorem dX11_sees_7 : decode cX11_sees 7 = .ok (.ifCond .eq 12, 3) := by decide +kernel
theorem dX11_sees_10 : decode cX11_sees 10 = .ok (.iload_n 2, 1) := by decide +kernel
theorem dX11_sees_11 : decode cX11_sees 11 = .ok (.iconst 0, 1) := by decide +kernel
theorem dX11_sees_12 : decode cX11_sees 12 = .ok (.iconst 1, 1) := by decide +kernel
theorem dX11_sees_13 : decode cX11_sees 13 = .ok (.invokestatic 71, 3) := by decide +kernel
theorem dX11_sees_16 : decode cX11_sees 16 = .ok (.ifCond .ne 5, 3) := by decide +kernel
theorem dX11_sees_19 : decode cX11_sees 19 = .ok (.iconst (-1), 1) := by decide +kernel
theorem dX11_sees_20 : decode cX11_sees 20 = .ok (.ireturn, 1) := by decide +kernel
theorem dX11_sees_21 : decode cX11_sees 21 = .ok (.aload_n 0, 1) := by decide +kernel
theorem dX11_sees_22 : decode cX11_sees 22 = .ok (.getfield 136, 3) := by decide +kernel
theorem dX11_sees_25 : decode cX11_sees 25 = .ok (.bipush 6, 2) := by decide +kernel
theorem dX11_sees_27 : decode cX11_sees 27 = .ok (.if_icmp .ne 6, 3) := by decide +kernel
theorem dX11_sees_30 : decode cX11_sees 30 = .ok (.bipush (-3), 2) := by decide +kernel
theorem dX11_sees_32 : decode cX11_sees 32 = .ok (.ireturn, 1) := by decide +kernel
theorem dX11_sees_33 : decode cX11_sees 33 = .ok (.aload_n 0, 1) := by decide +kernel
theorem dX11_sees_34 : decode cX11_sees 34 = .ok (.getfield 26, 3) := by decide +kernel
theorem dX11_sees_37 : decode cX11_sees 37 = .ok (.aload_n 0, 1) := by decide +kernel
theorem dX11_sees_38 : decode cX11_sees 38 = .ok (.getfield 136, 3) := by decide +kernel
theorem dX11_sees_41 : decode cX11_sees 41 = .ok (.iload_n 1, 1) := by decide +kernel
theorem dX11_sees_42 : decode cX11_sees 42 = .ok (.iastore, 1) := by decide +kernel
theorem dX11_sees_43 : decode cX11_sees 43 = .ok (.aload_n 0, 1) := by decide +kernel
theorem dX11_sees_44 : decode cX11_sees 44 = .ok (.getfield 29, 3) := by decide +kernel
theorem dX11_sees_47 : decode cX11_sees 47 = .ok (.aload_n 0, 1) := by decide +kernel
theorem dX11_sees_48 : decode cX11_sees 48 = .ok (.getfield 136, 3) := by decide +kernel
theorem dX11_sees_51 : decode cX11_sees 51 = .ok (.iload_n 2, 1) := by decide +kernel
theorem dX11_sees_52 : decode cX11_sees 52 = .ok (.iastore, 1) := by decide +kernel
theorem dX11_sees_53 : decode cX11_sees 53 = .ok (.aload_n 0, 1) := by decide +kernel
theorem dX11_sees_54 : decode cX11_sees 54 = .ok (.dup, 1) := by decide +kernel
theorem dX11_sees_55 : decode cX11_sees 55 = .ok (.getfield 136, 3) := by decide +kernel
theorem dX11_sees_58 : decode cX11_sees 58 = .ok (.iconst 1, 1) := by decide +kernel
theorem dX11_sees_59 : decode cX11_sees 59 = .ok (.iadd, 1) := by decide +kernel
theorem dX11_sees_60 : decode cX11_sees 60 = .ok (.putfield 136, 3) := by decide +kernel
theorem dX11_sees_63 : decode cX11_sees 63 = .ok (.aload_n 0, 1) := by decide +kernel
theorem dX11_sees_64 : decode cX11_sees 64 = .ok (.getfield 136, 3) := by decide +kernel
theorem dX11_sees_67 : decode cX11_sees 67 = .ok (.ireturn, 1) := by decide +kernel
theorem dX11_forget_0 : decode cX11_forget 0 = .ok (.aload_n 0, 1) := by decide +kernel
theorem dX11_forget_1 : decode cX11_forget 1 = .ok (.getfield 136, 3) := by decide +kernel
theorem dX11_forget_4 : decode cX11_forget 4 = .ok (.istore_n 1, 1) := by decide +kernel
theorem dX11_forget_5 : decode cX11_forget 5 = .ok (.aload_n 0, 1) := by decide +kernel
theorem dX11_forget_6 : decode cX11_forget 6 = .ok (.iconst 0, 1) := by decide +kernel
theorem dX11_forget_7 : decode cX11_forget 7 = .ok (.putfield 136, 3) := by decide +kernel
theorem dX11_forget_10 : decode cX11_forget 10 = .ok (.iload_n 1, 1) := by decide +kernel
theorem dX11_forget_11 : decode cX11_forget 11 = .ok (.ireturn, 1) := by decide +kernel
theorem dX11_which_0 : decode cX11_which 0 = .ok (.iconst 0, 1) := by decide +kernel
theorem dX11_which_1 : decode cX11_which 1 = .ok (.istore_n 1, 1) := by decide +kernel
theorem dX11_which_2 : decode cX11_which 2 = .ok (.iconst 0, 1) := by decide +kernel
theorem dX11_which_3 : decode cX11_which 3 = .ok (.istore_n 2, 1) := by decide +kernel
theorem dX11_which_4 : decode cX11_which 4 = .ok (.iload_n 2, 1) := by decide +kernel
theorem dX11_which_5 : decode cX11_which 5 = .ok (.aload_n 0, 1) := by decide +kernel
theorem dX11_which_6 : decode cX11_which 6 = .ok (.getfield 68, 3) := by decide +kernel
theorem dX11_which_9 : decode cX11_which 9 = .ok (.if_icmp .ge 87, 3) := by decide +kernel
theorem dX11_which_12 : decode cX11_which 12 = .ok (.iconst 1, 1) := by decide +kernel
theorem dX11_which_13 : decode cX11_which 13 = .ok (.istore_n 3, 1) := by decide +kernel
theorem dX11_which_14 : decode cX11_which 14 = .ok (.iconst 0, 1) := by decide +kernel
theorem dX11_which_15 : decode cX11_which 15 = .ok (.istore 4, 2) := by decide +kernel
theorem dX11_which_17 : decode cX11_which 17 = .ok (.iload 4, 2) := by decide +kernel
theorem dX11_which_19 : decode cX11_which 19 = .ok (.aload_n 0, 1) := by decide +kernel
theorem dX11_which_20 : decode cX11_which 20 = .ok (.getfield 136, 3) := by decide +kernel
theorem dX11_which_23 : decode cX11_which 23 = .ok (.if_icmp .ge 53, 3) := by decide +kernel
theorem dX11_which_26 : decode cX11_which 26 = .ok (.iload_n 3, 1) := by decide +kernel
theorem dX11_which_27 : decode cX11_which 27 = .ok (.ifCond .eq 41, 3) := by decide +kernel
theorem dX11_which_30 : decode cX11_which 30 = .ok (.aload_n 0, 1) := by decide +kernel
theorem dX11_which_31 : decode cX11_which 31 = .ok (.iload_n 2, 1) := by decide +kernel
theorem dX11_which_32 : decode cX11_which 32 = .ok (.invokevirtual 183, 3) := by decide +kernel
theorem dX11_which_35 : decode cX11_which 35 = .ok (.aload_n 0, 1) := by decide +kernel
theorem dX11_which_36 : decode cX11_which 36 = .ok (.getfield 26, 3) := by decide +kernel
theorem dX11_which_39 : decode cX11_which 39 = .ok (.iload 4, 2) := by decide +kernel
theorem dX11_which_41 : decode cX11_which 41 = .ok (.iaload, 1) := by decide +kernel
theorem dX11_which_42 : decode cX11_which 42 = .ok (.invokestatic 142, 3) := by decide +kernel
theorem dX11_which_45 : decode cX11_which 45 = .ok (.aload_n 0, 1) := by decide +kernel
theorem dX11_which_46 : decode cX11_which 46 = .ok (.getfield 29, 3) := by decide +kernel
theorem dX11_which_49 : decode cX11_which 49 = .ok (.iload 4, 2) := by decide +kernel
theorem dX11_which_51 : decode cX11_which 51 = .ok (.iaload, 1) := by decide +kernel
theorem dX11_which_52 : decode cX11_which 52 = .ok (.iconst 1, 1) := by decide +kernel
theorem dX11_which_53 : decode cX11_which 53 = .ok (.if_icmp .ne 7, 3) := by decide +kernel
theorem dX11_which_56 : decode cX11_which 56 = .ok (.iconst 1, 1) := by decide +kernel
theorem dX11_which_57 : decode cX11_which 57 = .ok (.goto 4, 3) := by decide +kernel
theorem dX11_which_60 : decode cX11_which 60 = .ok (.iconst 0, 1) := by decide +kernel
theorem dX11_which_61 : decode cX11_which 61 = .ok (.if_icmp .ne 7, 3) := by decide +kernel
theorem dX11_which_64 : decode cX11_which 64 = .ok (.iconst 1, 1) := by decide +kernel
theorem dX11_which_65 : decode cX11_which 65 = .ok (.goto 4, 3) := by decide +kernel
theorem dX11_which_68 : decode cX11_which 68 = .ok (.iconst 0, 1) := by decide +kernel
theorem dX11_which_69 : decode cX11_which 69 = .ok (.istore_n 3, 1) := by decide +kernel
theorem dX11_which_70 : decode cX11_which 70 = .ok (.iinc 4 1, 3) := by decide +kernel
theorem dX11_which_73 : decode cX11_which 73 = .ok (.goto (-56), 3) := by decide +kernel
theorem dX11_which_76 : decode cX11_which 76 = .ok (.iload_n 1, 1) := by decide +kernel
theorem dX11_which_77 : decode cX11_which 77 = .ok (.iload_n 3, 1) := by decide +kernel
theorem dX11_which_78 : decode cX11_which 78 = .ok (.ifCond .eq 9, 3) := by decide +kernel
theorem dX11_which_81 : decode cX11_which 81 = .ok (.iconst 1, 1) := by decide +kernel
theorem dX11_which_82 : decode cX11_which 82 = .ok (.iload_n 2, 1) := by decide +kernel
theorem dX11_which_83 : decode cX11_which 83 = .ok (.ishl, 1) := by decide +kernel
theorem dX11_which_84 : decode cX11_which 84 = .ok (.goto 4, 3) := by decide +kernel
theorem dX11_which_87 : decode cX11_which 87 = .ok (.iconst 0, 1) := by decide +kernel
theorem dX11_which_88 : decode cX11_which 88 = .ok (.ior, 1) := by decide +kernel
theorem dX11_which_89 : decode cX11_which 89 = .ok (.istore_n 1, 1) := by decide +kernel
theorem dX11_which_90 : decode cX11_which 90 = .ok (.iinc 2 1, 3) := by decide +kernel
theorem dX11_which_93 : decode cX11_which 93 = .ok (.goto (-89), 3) := by decide +kernel
theorem dX11_which_96 : decode cX11_which 96 = .ok (.iload_n 1, 1) := by decide +kernel
theorem dX11_which_97 : decode cX11_which 97 = .ok (.ireturn, 1) := by decide +kernel
theorem dX11_look_0 : decode cX11_look 0 = .ok (.aload_n 0, 1) := by decide +kernel
theorem dX11_look_1 : decode cX11_look 1 = .ok (.invokevirtual 268, 3) := by decide +kernel
theorem dX11_look_4 : decode cX11_look 4 = .ok (.istore_n 1, 1) := by decide +kernel
theorem dX11_look_5 : decode cX11_look 5 = .ok (.iconst 0, 1) := by decide +kernel
theorem dX11_look_6 : decode cX11_look 6 = .ok (.istore_n 2, 1) := by decide +kernel
theorem dX11_look_7 : decode cX11_look 7 = .ok (.iconst 0, 1) := by decide +kernel
theorem dX11_look_8 : decode cX11_look 8 = .ok (.istore_n 3, 1) := by decide +kernel
theorem dX11_look_9 : decode cX11_look 9 = .ok (.iload_n 3, 1) := by decide +kernel
theorem dX11_look_10 : decode cX11_look 10 = .ok (.aload_n 0, 1) := by decide +kernel
theorem dX11_look_11 : decode cX11_look 11 = .ok (.getfield 68, 3) := by decide +kernel
theorem dX11_look_14 : decode cX11_look 14 = .ok (.if_icmp .ge 17, 3) := by decide +kernel
theorem dX11_look_17 : decode cX11_look 17 = .ok (.iload_n 2, 1) := by decide +kernel
theorem dX11_look_18 : decode cX11_look 18 = .ok (.iload_n 1, 1) := by decide +kernel
theorem dX11_look_19 : decode cX11_look 19 = .ok (.iload_n 3, 1) := by decide +kernel
theorem dX11_look_20 : decode cX11_look 20 = .ok (.ishr, 1) := by decide +kernel
theorem dX11_look_21 : decode cX11_look 21 = .ok (.iconst 1, 1) := by decide +kernel
theorem dX11_look_22 : decode cX11_look 22 = .ok (.iand, 1) := by decide +kernel
theorem dX11_look_23 : decode cX11_look 23 = .ok (.iadd, 1) := by decide +kernel
theorem dX11_look_24 : decode cX11_look 24 = .ok (.istore_n 2, 1) := by decide +kernel
theorem dX11_look_25 : decode cX11_look 25 = .ok (.iinc 3 1, 3) := by decide +kernel
theorem dX11_look_28 : decode cX11_look 28 = .ok (.goto (-19), 3) := by decide +kernel
theorem dX11_look_31 : decode cX11_look 31 = .ok (.bipush (-9), 2) := by decide +kernel
theorem dX11_look_33 : decode cX11_look 33 = .ok (.istore_n 3, 1) := by decide +kernel
theorem dX11_look_34 : decode cX11_look 34 = .ok (.iload_n 2, 1) := by decide +kernel
theorem dX11_look_35 : decode cX11_look 35 = .ok (.istore 4, 2) := by decide +kernel
theorem dX11_look_37 : decode cX11_look 37 = .ok (.iconst 0, 1) := by decide +kernel
theorem dX11_look_38 : decode cX11_look 38 = .ok (.istore 5, 2) := by decide +kernel
theorem dX11_look_40 : decode cX11_look 40 = .ok (.iload 5, 2) := by decide +kernel
theorem dX11_look_42 : decode cX11_look 42 = .ok (.bipush 26, 2) := by decide +kernel
theorem dX11_look_44 : decode cX11_look 44 = .ok (.if_icmp .ge 113, 3) := by decide +kernel
theorem dX11_look_47 : decode cX11_look 47 = .ok (.iconst 0, 1) := by decide +kernel
theorem dX11_look_48 : decode cX11_look 48 = .ok (.istore 6, 2) := by decide +kernel
theorem dX11_look_50 : decode cX11_look 50 = .ok (.iconst 0, 1) := by decide +kernel
theorem dX11_look_51 : decode cX11_look 51 = .ok (.istore 7, 2) := by decide +kernel
theorem dX11_look_53 : decode cX11_look 53 = .ok (.iload 7, 2) := by decide +kernel
theorem dX11_look_55 : decode cX11_look 55 = .ok (.aload_n 0, 1) := by decide +kernel
theorem dX11_look_56 : decode cX11_look 56 = .ok (.getfield 68, 3) := by decide +kernel
theorem dX11_look_59 : decode cX11_look 59 = .ok (.if_icmp .ge 42, 3) := by decide +kernel
theorem dX11_look_62 : decode cX11_look 62 = .ok (.iload 6, 2) := by decide +kernel
theorem dX11_look_64 : decode cX11_look 64 = .ok (.iload_n 1, 1) := by decide +kernel
theorem dX11_look_65 : decode cX11_look 65 = .ok (.iload 7, 2) := by decide +kernel
theorem dX11_look_67 : decode cX11_look 67 = .ok (.invokestatic 142, 3) := by decide +kernel
theorem dX11_look_70 : decode cX11_look 70 = .ok (.ifCond .eq 21, 3) := by decide +kernel
theorem dX11_look_73 : decode cX11_look 73 = .ok (.aload_n 0, 1) := by decide +kernel
theorem dX11_look_74 : decode cX11_look 74 = .ok (.iload 7, 2) := by decide +kernel
theorem dX11_look_76 : decode cX11_look 76 = .ok (.invokevirtual 183, 3) := by decide +kernel
theorem dX11_look_79 : decode cX11_look 79 = .ok (.iload 5, 2) := by decide +kernel
theorem dX11_look_81 : decode cX11_look 81 = .ok (.invokestatic 142, 3) := by decide +kernel
theorem dX11_look_84 : decode cX11_look 84 = .ok (.ifCond .eq 7, 3) := by decide +kernel
theorem dX11_look_87 : decode cX11_look 87 = .ok (.iconst 1, 1) := by decide +kernel
theorem dX11_look_88 : decode cX11_look 88 = .ok (.goto 4, 3) := by decide +kernel
theorem dX11_look_91 : decode cX11_look 91 = .ok (.iconst 0, 1) := by decide +kernel
theorem dX11_look_92 : decode cX11_look 92 = .ok (.iadd, 1) := by decide +kernel
theorem dX11_look_93 : decode cX11_look 93 = .ok (.istore 6, 2) := by decide +kernel
theorem dX11_look_95 : decode cX11_look 95 = .ok (.iinc 7 1, 3) := by decide +kernel
theorem dX11_look_98 : decode cX11_look 98 = .ok (.goto (-45), 3) := by decide +kernel
theorem dX11_look_101 : decode cX11_look 101 = .ok (.iload 6, 2) := by decide +kernel
theorem dX11_look_103 : decode cX11_look 103 = .ok (.iload_n 2, 1) := by decide +kernel
theorem dX11_look_104 : decode cX11_look 104 = .ok (.iload 6, 2) := by decide +kernel
theorem dX11_look_106 : decode cX11_look 106 = .ok (.isub, 1) := by decide +kernel
theorem dX11_look_107 : decode cX11_look 107 = .ok (.if_icmp .le 8, 3) := by decide +kernel
theorem dX11_look_110 : decode cX11_look 110 = .ok (.iload 6, 2) := by decide +kernel
theorem dX11_look_112 : decode cX11_look 112 = .ok (.goto 7, 3) := by decide +kernel
theorem dX11_look_115 : decode cX11_look 115 = .ok (.iload_n 2, 1) := by decide +kernel
theorem dX11_look_116 : decode cX11_look 116 = .ok (.iload 6, 2) := by decide +kernel
theorem dX11_look_118 : decode cX11_look 118 = .ok (.isub, 1) := by decide +kernel
theorem dX11_look_119 : decode cX11_look 119 = .ok (.istore 7, 2) := by decide +kernel
theorem dX11_look_121 : decode cX11_look 121 = .ok (.iload 7, 2) := by decide +kernel
theorem dX11_look_123 : decode cX11_look 123 = .ok (.iload 4, 2) := by decide +kernel
theorem dX11_look_125 : decode cX11_look 125 = .ok (.if_icmp .ge 8, 3) := by decide +kernel
theorem dX11_look_128 : decode cX11_look 128 = .ok (.iload 5, 2) := by decide +kernel
theorem dX11_look_130 : decode cX11_look 130 = .ok (.goto 4, 3) := by decide +kernel
theorem dX11_look_133 : decode cX11_look 133 = .ok (.iload_n 3, 1) := by decide +kernel
theorem dX11_look_134 : decode cX11_look 134 = .ok (.istore_n 3, 1) := by decide +kernel
theorem dX11_look_135 : decode cX11_look 135 = .ok (.iload 7, 2) := by decide +kernel
theorem dX11_look_137 : decode cX11_look 137 = .ok (.iload 4, 2) := by decide +kernel
theorem dX11_look_139 : decode cX11_look 139 = .ok (.if_icmp .ge 8, 3) := by decide +kernel
theorem dX11_look_142 : decode cX11_look 142 = .ok (.iload 7, 2) := by decide +kernel
theorem dX11_look_144 : decode cX11_look 144 = .ok (.goto 5, 3) := by decide +kernel
theorem dX11_look_147 : decode cX11_look 147 = .ok (.iload 4, 2) := by decide +kernel
theorem dX11_look_149 : decode cX11_look 149 = .ok (.istore 4, 2) := by decide +kernel
theorem dX11_look_151 : decode cX11_look 151 = .ok (.iinc 5 1, 3) := by decide +kernel
theorem dX11_look_154 : decode cX11_look 154 = .ok (.goto (-114), 3) := by decide +kernel
theorem dX11_look_157 : decode cX11_look 157 = .ok (.iload_n 3, 1) := by decide +kernel
theorem dX11_look_158 : decode cX11_look 158 = .ok (.ireturn, 1) := by decide +kernel
theorem dX11_marked_0 : decode cX11_marked 0 = .ok (.aload_n 0, 1) := by decide +kernel
theorem dX11_marked_1 : decode cX11_marked 1 = .ok (.iload_n 2, 1) := by decide +kernel
theorem dX11_marked_2 : decode cX11_marked 2 = .ok (.invokevirtual 271, 3) := by decide +kernel
theorem dX11_marked_5 : decode cX11_marked 5 = .ok (.istore_n 3, 1) := by decide +kernel
theorem dX11_marked_6 : decode cX11_marked 6 = .ok (.aload_n 0, 1) := by decide +kernel
theorem dX11_marked_7 : decode cX11_marked 7 = .ok (.dup, 1) := by decide +kernel
theorem dX11_marked_8 : decode cX11_marked 8 = .ok (.getfield 274, 3) := by decide +kernel
theorem dX11_marked_11 : decode cX11_marked 11 = .ok (.lconst 1, 1) := by decide +kernel
theorem dX11_marked_12 : decode cX11_marked 12 = .ok (.ladd, 1) := by decide +kernel
theorem dX11_marked_13 : decode cX11_marked 13 = .ok (.putfield 274, 3) := by decide +kernel
theorem dX11_marked_16 : decode cX11_marked 16 = .ok (.iload_n 1, 1) := by decide +kernel
theorem dX11_marked_17 : decode cX11_marked 17 = .ok (.iconst 1, 1) := by decide +kernel
theorem dX11_marked_18 : decode cX11_marked 18 = .ok (.if_icmp .eq 8, 3) := by decide +kernel
theorem dX11_marked_21 : decode cX11_marked 21 = .ok (.iload_n 1, 1) := by decide +kernel
theorem dX11_marked_22 : decode cX11_marked 22 = .ok (.iconst 3, 1) := by decide +kernel
theorem dX11_marked_23 : decode cX11_marked 23 = .ok (.if_icmp .ne 35, 3) := by decide +kernel
theorem dX11_marked_26 : decode cX11_marked 26 = .ok (.iload_n 3, 1) := by decide +kernel
theorem dX11_marked_27 : decode cX11_marked 27 = .ok (.aload_n 0, 1) := by decide +kernel
theorem dX11_marked_28 : decode cX11_marked 28 = .ok (.getfield 133, 3) := by decide +kernel
theorem dX11_marked_31 : decode cX11_marked 31 = .ok (.iload_n 2, 1) := by decide +kernel
theorem dX11_marked_32 : decode cX11_marked 32 = .ok (.invokestatic 142, 3) := by decide +kernel
theorem dX11_marked_35 : decode cX11_marked 35 = .ok (.ifCond .eq 8, 3) := by decide +kernel
theorem dX11_marked_38 : decode cX11_marked 38 = .ok (.bipush 10, 2) := by decide +kernel
theorem dX11_marked_40 : decode cX11_marked 40 = .ok (.goto 4, 3) := by decide +kernel
theorem dX11_marked_43 : decode cX11_marked 43 = .ok (.iconst 0, 1) := by decide +kernel
theorem dX11_marked_44 : decode cX11_marked 44 = .ok (.iadd, 1) := by decide +kernel
theorem dX11_marked_45 : decode cX11_marked 45 = .ok (.istore_n 3, 1) := by decide +kernel
theorem dX11_marked_46 : decode cX11_marked 46 = .ok (.aload_n 0, 1) := by decide +kernel
theorem dX11_marked_47 : decode cX11_marked 47 = .ok (.dup, 1) := by decide +kernel
theorem dX11_marked_48 : decode cX11_marked 48 = .ok (.getfield 274, 3) := by decide +kernel
theorem dX11_marked_51 : decode cX11_marked 51 = .ok (.ldc2_w 278, 3) := by decide +kernel
theorem dX11_marked_54 : decode cX11_marked 54 = .ok (.ladd, 1) := by decide +kernel
theorem dX11_marked_55 : decode cX11_marked 55 = .ok (.putfield 274, 3) := by decide +kernel
theorem dX11_marked_58 : decode cX11_marked 58 = .ok (.iload_n 1, 1) := by decide +kernel
theorem dX11_marked_59 : decode cX11_marked 59 = .ok (.iconst 2, 1) := by decide +kernel
theorem dX11_marked_60 : decode cX11_marked 60 = .ok (.if_icmp .eq 8, 3) := by decide +kernel
theorem dX11_marked_63 : decode cX11_marked 63 = .ok (.iload_n 1, 1) := by decide +kernel
theorem dX11_marked_64 : decode cX11_marked 64 = .ok (.iconst 4, 1) := by decide +kernel
theorem dX11_marked_65 : decode cX11_marked 65 = .ok (.if_icmp .ne 22, 3) := by decide +kernel
theorem dX11_marked_68 : decode cX11_marked 68 = .ok (.iload_n 3, 1) := by decide +kernel
theorem dX11_marked_69 : decode cX11_marked 69 = .ok (.aload_n 0, 1) := by decide +kernel
theorem dX11_marked_70 : decode cX11_marked 70 = .ok (.getfield 75, 3) := by decide +kernel
theorem dX11_marked_73 : decode cX11_marked 73 = .ok (.isub, 1) := by decide +kernel
theorem dX11_marked_74 : decode cX11_marked 74 = .ok (.istore_n 3, 1) := by decide +kernel
theorem dX11_marked_75 : decode cX11_marked 75 = .ok (.aload_n 0, 1) := by decide +kernel
theorem dX11_marked_76 : decode cX11_marked 76 = .ok (.dup, 1) := by decide +kernel
theorem dX11_marked_77 : decode cX11_marked 77 = .ok (.getfield 274, 3) := by decide +kernel
theorem dX11_marked_80 : decode cX11_marked 80 = .ok (.ldc2_w 280, 3) := by decide +kernel
theorem dX11_marked_83 : decode cX11_marked 83 = .ok (.ladd, 1) := by decide +kernel
theorem dX11_marked_84 : decode cX11_marked 84 = .ok (.putfield 274, 3) := by decide +kernel
theorem dX11_marked_87 : decode cX11_marked 87 = .ok (.iload_n 1, 1) := by decide +kernel
theorem dX11_marked_88 : decode cX11_marked 88 = .ok (.iconst 3, 1) := by decide +kernel
theorem dX11_marked_89 : decode cX11_marked 89 = .ok (.if_icmp .ne 19, 3) := by decide +kernel
theorem dX11_marked_92 : decode cX11_marked 92 = .ok (.iload_n 3, 1) := by decide +kernel
theorem dX11_marked_93 : decode cX11_marked 93 = .ok (.iconst 2, 1) := by decide +kernel
theorem dX11_marked_94 : decode cX11_marked 94 = .ok (.imul, 1) := by decide +kernel
theorem dX11_marked_95 : decode cX11_marked 95 = .ok (.istore_n 3, 1) := by decide +kernel
theorem dX11_marked_96 : decode cX11_marked 96 = .ok (.aload_n 0, 1) := by decide +kernel
theorem dX11_marked_97 : decode cX11_marked 97 = .ok (.dup, 1) := by decide +kernel
theorem dX11_marked_98 : decode cX11_marked 98 = .ok (.getfield 274, 3) := by decide +kernel
theorem dX11_marked_101 : decode cX11_marked 101 = .ok (.ldc2_w 282, 3) := by decide +kernel
theorem dX11_marked_104 : decode cX11_marked 104 = .ok (.ladd, 1) := by decide +kernel
theorem dX11_marked_105 : decode cX11_marked 105 = .ok (.putfield 274, 3) := by decide +kernel
theorem dX11_marked_108 : decode cX11_marked 108 = .ok (.iload_n 1, 1) := by decide +kernel
theorem dX11_marked_109 : decode cX11_marked 109 = .ok (.iconst 4, 1) := by decide +kernel
theorem dX11_marked_110 : decode cX11_marked 110 = .ok (.if_icmp .ne 19, 3) := by decide +kernel
theorem dX11_marked_113 : decode cX11_marked 113 = .ok (.iload_n 3, 1) := by decide +kernel
theorem dX11_marked_114 : decode cX11_marked 114 = .ok (.iload_n 2, 1) := by decide +kernel
theorem dX11_marked_115 : decode cX11_marked 115 = .ok (.iadd, 1) := by decide +kernel
theorem dX11_marked_116 : decode cX11_marked 116 = .ok (.istore_n 3, 1) := by decide +kernel
theorem dX11_marked_117 : decode cX11_marked 117 = .ok (.aload_n 0, 1) := by decide +kernel
theorem dX11_marked_118 : decode cX11_marked 118 = .ok (.dup, 1) := by decide +kernel
theorem dX11_marked_119 : decode cX11_marked 119 = .ok (.getfield 274, 3) := by decide +kernel
theorem dX11_marked_122 : decode cX11_marked 122 = .ok (.ldc2_w 284, 3) := by decide +kernel
theorem dX11_marked_125 : decode cX11_marked 125 = .ok (.ladd, 1) := by decide +kernel
theorem dX11_marked_126 : decode cX11_marked 126 = .ok (.putfield 274, 3) := by decide +kernel
theorem dX11_marked_129 : decode cX11_marked 129 = .ok (.iload_n 1, 1) := by decide +kernel
theorem dX11_marked_130 : decode cX11_marked 130 = .ok (.iconst 5, 1) := by decide +kernel
theorem dX11_marked_131 : decode cX11_marked 131 = .ok (.if_icmp .ne 22, 3) := by decide +kernel
theorem dX11_marked_134 : decode cX11_marked 134 = .ok (.iload_n 3, 1) := by decide +kernel
theorem dX11_marked_135 : decode cX11_marked 135 = .ok (.aload_n 0, 1) := by decide +kernel
theorem dX11_marked_136 : decode cX11_marked 136 = .ok (.invokevirtual 252, 3) := by decide +kernel
theorem dX11_marked_139 : decode cX11_marked 139 = .ok (.iadd, 1) := by decide +kernel
theorem dX11_marked_140 : decode cX11_marked 140 = .ok (.istore_n 3, 1) := by decide +kernel
theorem dX11_marked_141 : decode cX11_marked 141 = .ok (.aload_n 0, 1) := by decide +kernel
theorem dX11_marked_142 : decode cX11_marked 142 = .ok (.dup, 1) := by decide +kernel
theorem dX11_marked_143 : decode cX11_marked 143 = .ok (.getfield 274, 3) := by decide +kernel
theorem dX11_marked_146 : decode cX11_marked 146 = .ok (.ldc2_w 286, 3) := by decide +kernel
theorem dX11_marked_149 : decode cX11_marked 149 = .ok (.ladd, 1) := by decide +kernel
theorem dX11_marked_150 : decode cX11_marked 150 = .ok (.putfield 274, 3) := by decide +kernel
theorem dX11_marked_153 : decode cX11_marked 153 = .ok (.iload_n 3, 1) := by decide +kernel
theorem dX11_marked_154 : decode cX11_marked 154 = .ok (.ireturn, 1) := by decide +kernel
theorem dX11_mark_0 : decode cX11_mark 0 = .ok (.iload_n 1, 1) := by decide +kernel
theorem dX11_mark_1 : decode cX11_mark 1 = .ok (.iconst 0, 1) := by decide +kernel
theorem dX11_mark_2 : decode cX11_mark 2 = .ok (.iconst 5, 1) := by decide +kernel
theorem dX11_mark_3 : decode cX11_mark 3 = .ok (.invokestatic 71, 3) := by decide +kernel
theorem dX11_mark_6 : decode cX11_mark 6 = .ok (.ifCond .eq 20, 3) := by decide +kernel
theorem dX11_mark_9 : decode cX11_mark 9 = .ok (.aload_n 0, 1) := by decide +kernel
theorem dX11_mark_10 : decode cX11_mark 10 = .ok (.iload_n 2, 1) := by decide +kernel
theorem dX11_mark_11 : decode cX11_mark 11 = .ok (.invokevirtual 176, 3) := by decide +kernel
theorem dX11_mark_14 : decode cX11_mark 14 = .ok (.ifCond .eq 12, 3) := by decide +kernel
theorem dX11_mark_17 : decode cX11_mark 17 = .ok (.aload_n 0, 1) := by decide +kernel
theorem dX11_mark_18 : decode cX11_mark 18 = .ok (.iload_n 1, 1) := by decide +kernel
theorem dX11_mark_19 : decode cX11_mark 19 = .ok (.iload_n 2, 1) := by decide +kernel
theorem dX11_mark_20 : decode cX11_mark 20 = .ok (.invokevirtual 288, 3) := by decide +kernel
theorem dX11_mark_23 : decode cX11_mark 23 = .ok (.goto 6, 3) := by decide +kernel
theorem dX11_mark_26 : decode cX11_mark 26 = .ok (.ldc_w 291, 3) := by decide +kernel
theorem dX11_mark_29 : decode cX11_mark 29 = .ok (.ireturn, 1) := by decide +kernel
theorem dX11_keep_0 : decode cX11_keep 0 = .ok (.iload_n 1, 1) := by decide +kernel
theorem dX11_keep_1 : decode cX11_keep 1 = .ok (.iconst 0, 1) := by decide +kernel
theorem dX11_keep_2 : decode cX11_keep 2 = .ok (.iconst 1, 1) := by decide +kernel
theorem dX11_keep_3 : decode cX11_keep 3 = .ok (.invokestatic 71, 3) := by decide +kernel
theorem dX11_keep_6 : decode cX11_keep 6 = .ok (.ifCond .ne 5, 3) := by decide +kernel
theorem dX11_keep_9 : decode cX11_keep 9 = .ok (.iconst (-1), 1) := by decide +kernel
theorem dX11_keep_10 : decode cX11_keep 10 = .ok (.ireturn, 1) := by decide +kernel
theorem dX11_keep_11 : decode cX11_keep 11 = .ok (.bipush 90, 2) := by decide +kernel
theorem dX11_keep_13 : decode cX11_keep 13 = .ok (.iload_n 1, 1) := by decide +kernel
theorem dX11_keep_14 : decode cX11_keep 14 = .ok (.imul, 1) := by decide +kernel
theorem dX11_keep_15 : decode cX11_keep 15 = .ok (.istore_n 2, 1) := by decide +kernel
theorem dX11_keep_16 : decode cX11_keep 16 = .ok (.aload_n 0, 1) := by decide +kernel
theorem dX11_keep_17 : decode cX11_keep 17 = .ok (.getfield 65, 3) := by decide +kernel
theorem dX11_keep_20 : decode cX11_keep 20 = .ok (.iload_n 2, 1) := by decide +kernel
theorem dX11_keep_21 : decode cX11_keep 21 = .ok (.iconst 1, 1) := by decide +kernel
theorem dX11_keep_22 : decode cX11_keep 22 = .ok (.iastore, 1) := by decide +kernel
theorem dX11_keep_23 : decode cX11_keep 23 = .ok (.aload_n 0, 1) := by decide +kernel
theorem dX11_keep_24 : decode cX11_keep 24 = .ok (.getfield 65, 3) := by decide +kernel
theorem dX11_keep_27 : decode cX11_keep 27 = .ok (.iload_n 2, 1) := by decide +kernel
theorem dX11_keep_28 : decode cX11_keep 28 = .ok (.iconst 1, 1) := by decide +kernel
theorem dX11_keep_29 : decode cX11_keep 29 = .ok (.iadd, 1) := by decide +kernel
theorem dX11_keep_30 : decode cX11_keep 30 = .ok (.aload_n 0, 1) := by decide +kernel
theorem dX11_keep_31 : decode cX11_keep 31 = .ok (.getfield 139, 3) := by decide +kernel
theorem dX11_keep_34 : decode cX11_keep 34 = .ok (.iastore, 1) := by decide +kernel
theorem dX11_keep_35 : decode cX11_keep 35 = .ok (.aload_n 0, 1) := by decide +kernel
theorem dX11_keep_36 : decode cX11_keep 36 = .ok (.aload_n 0, 1) := by decide +kernel
theorem dX11_keep_37 : decode cX11_keep 37 = .ok (.getfield 65, 3) := by decide +kernel
theorem dX11_keep_40 : decode cX11_keep 40 = .ok (.iload_n 2, 1) := by decide +kernel
theorem dX11_keep_41 : decode cX11_keep 41 = .ok (.iconst 2, 1) := by decide +kernel
theorem dX11_keep_42 : decode cX11_keep 42 = .ok (.iadd, 1) := by decide +kernel
theorem dX11_keep_43 : decode cX11_keep 43 = .ok (.invokevirtual 195, 3) := by decide +kernel
theorem dX11_keep_46 : decode cX11_keep 46 = .ok (.iconst 0, 1) := by decide +kernel
theorem dX11_keep_47 : decode cX11_keep 47 = .ok (.istore_n 3, 1) := by decide +kernel
theorem dX11_keep_48 : decode cX11_keep 48 = .ok (.iload_n 3, 1) := by decide +kernel
theorem dX11_keep_49 : decode cX11_keep 49 = .ok (.bipush 80, 2) := by decide +kernel
theorem dX11_keep_51 : decode cX11_keep 51 = .ok (.if_icmp .ge 26, 3) := by decide +kernel
theorem dX11_keep_54 : decode cX11_keep 54 = .ok (.aload_n 0, 1) := by decide +kernel
theorem dX11_keep_55 : decode cX11_keep 55 = .ok (.getfield 65, 3) := by decide +kernel
theorem dX11_keep_58 : decode cX11_keep 58 = .ok (.iload_n 2, 1) := by decide +kernel
theorem dX11_keep_59 : decode cX11_keep 59 = .ok (.bipush 10, 2) := by decide +kernel
theorem dX11_keep_61 : decode cX11_keep 61 = .ok (.iadd, 1) := by decide +kernel
theorem dX11_keep_62 : decode cX11_keep 62 = .ok (.iload_n 3, 1) := by decide +kernel
theorem dX11_keep_63 : decode cX11_keep 63 = .ok (.iadd, 1) := by decide +kernel
theorem dX11_keep_64 : decode cX11_keep 64 = .ok (.aload_n 0, 1) := by decide +kernel
theorem dX11_keep_65 : decode cX11_keep 65 = .ok (.getfield 53, 3) := by decide +kernel
theorem dX11_keep_68 : decode cX11_keep 68 = .ok (.iload_n 3, 1) := by decide +kernel
theorem dX11_keep_69 : decode cX11_keep 69 = .ok (.iaload, 1) := by decide +kernel
theorem dX11_keep_70 : decode cX11_keep 70 = .ok (.iastore, 1) := by decide +kernel
theorem dX11_keep_71 : decode cX11_keep 71 = .ok (.iinc 3 1, 3) := by decide +kernel
theorem dX11_keep_74 : decode cX11_keep 74 = .ok (.goto (-26), 3) := by decide +kernel
theorem dX11_keep_77 : decode cX11_keep 77 = .ok (.aload_n 0, 1) := by decide +kernel
theorem dX11_keep_78 : decode cX11_keep 78 = .ok (.getfield 75, 3) := by decide +kernel
theorem dX11_keep_81 : decode cX11_keep 81 = .ok (.ireturn, 1) := by decide +kernel
theorem dX11_back_0 : decode cX11_back 0 = .ok (.iload_n 1, 1) := by decide +kernel
theorem dX11_back_1 : decode cX11_back 1 = .ok (.iconst 0, 1) := by decide +kernel
theorem dX11_back_2 : decode cX11_back 2 = .ok (.iconst 1, 1) := by decide +kernel
theorem dX11_back_3 : decode cX11_back 3 = .ok (.invokestatic 71, 3) := by decide +kernel
theorem dX11_back_6 : decode cX11_back 6 = .ok (.ifCond .ne 5, 3) := by decide +kernel
theorem dX11_back_9 : decode cX11_back 9 = .ok (.iconst (-1), 1) := by decide +kernel
theorem dX11_back_10 : decode cX11_back 10 = .ok (.ireturn, 1) := by decide +kernel
theorem dX11_back_11 : decode cX11_back 11 = .ok (.bipush 90, 2) := by decide +kernel
theorem dX11_back_13 : decode cX11_back 13 = .ok (.iload_n 1, 1) := by decide +kernel
theorem dX11_back_14 : decode cX11_back 14 = .ok (.imul, 1) := by decide +kernel
theorem dX11_back_15 : decode cX11_back 15 = .ok (.istore_n 2, 1) := by decide +kernel
theorem dX11_back_16 : decode cX11_back 16 = .ok (.aload_n 0, 1) := by decide +kernel
theorem dX11_back_17 : decode cX11_back 17 = .ok (.getfield 65, 3) := by decide +kernel
theorem dX11_back_20 : decode cX11_back 20 = .ok (.iload_n 2, 1) := by decide +kernel
theorem dX11_back_21 : decode cX11_back 21 = .ok (.iaload, 1) := by decide +kernel
theorem dX11_back_22 : decode cX11_back 22 = .ok (.ifCond .ne 6, 3) := by decide +kernel
theorem dX11_back_25 : decode cX11_back 25 = .ok (.bipush (-2), 2) := by decide +kernel
theorem dX11_back_27 : decode cX11_back 27 = .ok (.ireturn, 1) := by decide +kernel
theorem dX11_back_28 : decode cX11_back 28 = .ok (.aload_n 0, 1) := by decide +kernel
theorem dX11_back_29 : decode cX11_back 29 = .ok (.aload_n 0, 1) := by decide +kernel
theorem dX11_back_30 : decode cX11_back 30 = .ok (.getfield 65, 3) := by decide +kernel
theorem dX11_back_33 : decode cX11_back 33 = .ok (.iload_n 2, 1) := by decide +kernel
theorem dX11_back_34 : decode cX11_back 34 = .ok (.iconst 1, 1) := by decide +kernel
theorem dX11_back_35 : decode cX11_back 35 = .ok (.iadd, 1) := by decide +kernel
theorem dX11_back_36 : decode cX11_back 36 = .ok (.iaload, 1) := by decide +kernel
theorem dX11_back_37 : decode cX11_back 37 = .ok (.putfield 139, 3) := by decide +kernel
theorem dX11_back_40 : decode cX11_back 40 = .ok (.aload_n 0, 1) := by decide +kernel
theorem dX11_back_41 : decode cX11_back 41 = .ok (.aload_n 0, 1) := by decide +kernel
theorem dX11_back_42 : decode cX11_back 42 = .ok (.getfield 65, 3) := by decide +kernel
theorem dX11_back_45 : decode cX11_back 45 = .ok (.iload_n 2, 1) := by decide +kernel
theorem dX11_back_46 : decode cX11_back 46 = .ok (.iconst 2, 1) := by decide +kernel
theorem dX11_back_47 : decode cX11_back 47 = .ok (.iadd, 1) := by decide +kernel
theorem dX11_back_48 : decode cX11_back 48 = .ok (.invokevirtual 209, 3) := by decide +kernel
theorem dX11_back_51 : decode cX11_back 51 = .ok (.iconst 0, 1) := by decide +kernel
theorem dX11_back_52 : decode cX11_back 52 = .ok (.istore_n 3, 1) := by decide +kernel
theorem dX11_back_53 : decode cX11_back 53 = .ok (.iload_n 3, 1) := by decide +kernel
theorem dX11_back_54 : decode cX11_back 54 = .ok (.bipush 80, 2) := by decide +kernel
theorem dX11_back_56 : decode cX11_back 56 = .ok (.if_icmp .ge 26, 3) := by decide +kernel
theorem dX11_back_59 : decode cX11_back 59 = .ok (.aload_n 0, 1) := by decide +kernel
theorem dX11_back_60 : decode cX11_back 60 = .ok (.getfield 53, 3) := by decide +kernel
theorem dX11_back_63 : decode cX11_back 63 = .ok (.iload_n 3, 1) := by decide +kernel
theorem dX11_back_64 : decode cX11_back 64 = .ok (.aload_n 0, 1) := by decide +kernel
theorem dX11_back_65 : decode cX11_back 65 = .ok (.getfield 65, 3) := by decide +kernel
theorem dX11_back_68 : decode cX11_back 68 = .ok (.iload_n 2, 1) := by decide +kernel
theorem dX11_back_69 : decode cX11_back 69 = .ok (.bipush 10, 2) := by decide +kernel
theorem dX11_back_71 : decode cX11_back 71 = .ok (.iadd, 1) := by decide +kernel
theorem dX11_back_72 : decode cX11_back 72 = .ok (.iload_n 3, 1) := by decide +kernel
theorem dX11_back_73 : decode cX11_back 73 = .ok (.iadd, 1) := by decide +kernel
theorem dX11_back_74 : decode cX11_back 74 = .ok (.iaload, 1) := by decide +kernel
theorem dX11_back_75 : decode cX11_back 75 = .ok (.iastore, 1) := by decide +kernel
theorem dX11_back_76 : decode cX11_back 76 = .ok (.iinc 3 1, 3) := by decide +kernel
theorem dX11_back_79 : decode cX11_back 79 = .ok (.goto (-26), 3) := by decide +kernel
theorem dX11_back_82 : decode cX11_back 82 = .ok (.aload_n 0, 1) := by decide +kernel
theorem dX11_back_83 : decode cX11_back 83 = .ok (.getfield 75, 3) := by decide +kernel
theorem dX11_back_86 : decode cX11_back 86 = .ok (.ireturn, 1) := by decide +kernel
theorem dX11_count_0 : decode cX11_count 0 = .ok (.iload_n 1, 1) := by decide +kernel
theorem dX11_count_1 : decode cX11_count 1 = .ok (.iconst 0, 1) := by decide +kernel
theorem dX11_count_2 : decode cX11_count 2 = .ok (.iconst 5, 1) := by decide +kernel
theorem dX11_count_3 : decode cX11_count 3 = .ok (.invokestatic 71, 3) := by decide +kernel
theorem dX11_count_6 : decode cX11_count 6 = .ok (.ifCond .ne 5, 3) := by decide +kernel
theorem dX11_count_9 : decode cX11_count 9 = .ok (.iconst (-1), 1) := by decide +kernel
theorem dX11_count_10 : decode cX11_count 10 = .ok (.ireturn, 1) := by decide +kernel
theorem dX11_count_11 : decode cX11_count 11 = .ok (.iload_n 1, 1) := by decide +kernel
theorem dX11_count_12 : decode cX11_count 12 = .ok (.ifCond .ne 10, 3) := by decide +kernel
theorem dX11_count_15 : decode cX11_count 15 = .ok (.aload_n 0, 1) := by decide +kernel
theorem dX11_count_16 : decode cX11_count 16 = .ok (.getfield 7, 3) := by decide +kernel
theorem dX11_count_19 : decode cX11_count 19 = .ok (.goto 55, 3) := by decide +kernel
theorem dX11_count_22 : decode cX11_count 22 = .ok (.iload_n 1, 1) := by decide +kernel
theorem dX11_count_23 : decode cX11_count 23 = .ok (.iconst 1, 1) := by decide +kernel
theorem dX11_count_24 : decode cX11_count 24 = .ok (.if_icmp .ne 10, 3) := by decide +kernel
theorem dX11_count_27 : decode cX11_count 27 = .ok (.aload_n 0, 1) := by decide +kernel
theorem dX11_count_28 : decode cX11_count 28 = .ok (.getfield 68, 3) := by decide +kernel
theorem dX11_count_31 : decode cX11_count 31 = .ok (.goto 43, 3) := by decide +kernel
theorem dX11_count_34 : decode cX11_count 34 = .ok (.iload_n 1, 1) := by decide +kernel
theorem dX11_count_35 : decode cX11_count 35 = .ok (.iconst 2, 1) := by decide +kernel
theorem dX11_count_36 : decode cX11_count 36 = .ok (.if_icmp .ne 10, 3) := by decide +kernel
theorem dX11_count_39 : decode cX11_count 39 = .ok (.aload_n 0, 1) := by decide +kernel
theorem dX11_count_40 : decode cX11_count 40 = .ok (.getfield 130, 3) := by decide +kernel
theorem dX11_count_43 : decode cX11_count 43 = .ok (.goto 31, 3) := by decide +kernel
theorem dX11_count_46 : decode cX11_count 46 = .ok (.iload_n 1, 1) := by decide +kernel
theorem dX11_count_47 : decode cX11_count 47 = .ok (.iconst 3, 1) := by decide +kernel
theorem dX11_count_48 : decode cX11_count 48 = .ok (.if_icmp .ne 10, 3) := by decide +kernel
theorem dX11_count_51 : decode cX11_count 51 = .ok (.aload_n 0, 1) := by decide +kernel
theorem dX11_count_52 : decode cX11_count 52 = .ok (.getfield 136, 3) := by decide +kernel
theorem dX11_count_55 : decode cX11_count 55 = .ok (.goto 19, 3) := by decide +kernel
theorem dX11_count_58 : decode cX11_count 58 = .ok (.iload_n 1, 1) := by decide +kernel
theorem dX11_count_59 : decode cX11_count 59 = .ok (.iconst 4, 1) := by decide +kernel
theorem dX11_count_60 : decode cX11_count 60 = .ok (.if_icmp .ne 10, 3) := by decide +kernel
theorem dX11_count_63 : decode cX11_count 63 = .ok (.aload_n 0, 1) := by decide +kernel
theorem dX11_count_64 : decode cX11_count 64 = .ok (.getfield 139, 3) := by decide +kernel
theorem dX11_count_67 : decode cX11_count 67 = .ok (.goto 7, 3) := by decide +kernel
theorem dX11_count_70 : decode cX11_count 70 = .ok (.aload_n 0, 1) := by decide +kernel
theorem dX11_count_71 : decode cX11_count 71 = .ok (.getfield 78, 3) := by decide +kernel
theorem dX11_count_74 : decode cX11_count 74 = .ok (.ireturn, 1) := by decide +kernel
theorem dX11_trace_0 : decode cX11_trace 0 = .ok (.aload_n 0, 1) := by decide +kernel
theorem dX11_trace_1 : decode cX11_trace 1 = .ok (.getfield 274, 3) := by decide +kernel
theorem dX11_trace_4 : decode cX11_trace 4 = .ok (.lreturn, 1) := by decide +kernel
