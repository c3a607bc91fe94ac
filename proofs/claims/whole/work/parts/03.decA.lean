theorem dX0_init_0 : decode cX0_init 0 = .ok (.aload_n 0, 1) := by decide +kernel
theorem dX0_init_1 : decode cX0_init 1 = .ok (.invokespecial 3, 3) := by decide +kernel
theorem dX0_init_4 : decode cX0_init 4 = .ok (.aload_n 0, 1) := by decide +kernel
theorem dX0_init_5 : decode cX0_init 5 = .ok (.iconst 0, 1) := by decide +kernel
theorem dX0_init_6 : decode cX0_init 6 = .ok (.putfield 9, 3) := by decide +kernel
theorem dX0_init_9 : decode cX0_init 9 = .ok (.aload_n 0, 1) := by decide +kernel
theorem dX0_init_10 : decode cX0_init 10 = .ok (.iconst 0, 1) := by decide +kernel
theorem dX0_init_11 : decode cX0_init 11 = .ok (.putfield 15, 3) := by decide +kernel
theorem dX0_init_14 : decode cX0_init 14 = .ok (.aload_n 0, 1) := by decide +kernel
theorem dX0_init_15 : decode cX0_init 15 = .ok (.iconst 0, 1) := by decide +kernel
theorem dX0_init_16 : decode cX0_init 16 = .ok (.putfield 18, 3) := by decide +kernel
theorem dX0_init_19 : decode cX0_init 19 = .ok (.aload_n 0, 1) := by decide +kernel
theorem dX0_init_20 : decode cX0_init 20 = .ok (.iconst 0, 1) := by decide +kernel
theorem dX0_init_21 : decode cX0_init 21 = .ok (.putfield 22, 3) := by decide +kernel
theorem dX0_init_24 : decode cX0_init 24 = .ok (.aload_n 0, 1) := by decide +kernel
theorem dX0_init_25 : decode cX0_init 25 = .ok (.iconst 0, 1) := by decide +kernel
theorem dX0_init_26 : decode cX0_init 26 = .ok (.putfield 25, 3) := by decide +kernel
theorem dX0_init_29 : decode cX0_init 29 = .ok (.aload_n 0, 1) := by decide +kernel
theorem dX0_init_30 : decode cX0_init 30 = .ok (.iconst 0, 1) := by decide +kernel
theorem dX0_init_31 : decode cX0_init 31 = .ok (.putfield 28, 3) := by decide +kernel
theorem dX0_init_34 : decode cX0_init 34 = .ok (.aload_n 0, 1) := by decide +kernel
theorem dX0_init_35 : decode cX0_init 35 = .ok (.iconst (-1), 1) := by decide +kernel
theorem dX0_init_36 : decode cX0_init 36 = .ok (.putfield 31, 3) := by decide +kernel
theorem dX0_init_39 : decode cX0_init 39 = .ok (.return_, 1) := by decide +kernel
theorem dX1_init_0 : decode cX1_init 0 = .ok (.aload_n 0, 1) := by decide +kernel
theorem dX1_init_1 : decode cX1_init 1 = .ok (.invokespecial 3, 3) := by decide +kernel
theorem dX1_init_4 : decode cX1_init 4 = .ok (.aload_n 0, 1) := by decide +kernel
theorem dX1_init_5 : decode cX1_init 5 = .ok (.bipush 6, 2) := by decide +kernel
theorem dX1_init_7 : decode cX1_init 7 = .ok (.newarray .int, 2) := by decide +kernel
theorem dX1_init_9 : decode cX1_init 9 = .ok (.putfield 9, 3) := by decide +kernel
theorem dX1_init_12 : decode cX1_init 12 = .ok (.aload_n 0, 1) := by decide +kernel
theorem dX1_init_13 : decode cX1_init 13 = .ok (.bipush 6, 2) := by decide +kernel
theorem dX1_init_15 : decode cX1_init 15 = .ok (.newarray .int, 2) := by decide +kernel
theorem dX1_init_17 : decode cX1_init 17 = .ok (.putfield 15, 3) := by decide +kernel
theorem dX1_init_20 : decode cX1_init 20 = .ok (.aload_n 0, 1) := by decide +kernel
theorem dX1_init_21 : decode cX1_init 21 = .ok (.iconst 0, 1) := by decide +kernel
theorem dX1_init_22 : decode cX1_init 22 = .ok (.putfield 18, 3) := by decide +kernel
theorem dX1_init_25 : decode cX1_init 25 = .ok (.aload_n 0, 1) := by decide +kernel
theorem dX1_init_26 : decode cX1_init 26 = .ok (.aload_n 1, 1) := by decide +kernel
theorem dX1_init_27 : decode cX1_init 27 = .ok (.putfield 22, 3) := by decide +kernel
theorem dX1_init_30 : decode cX1_init 30 = .ok (.aload_n 0, 1) := by decide +kernel
theorem dX1_init_31 : decode cX1_init 31 = .ok (.iload_n 2, 1) := by decide +kernel
theorem dX1_init_32 : decode cX1_init 32 = .ok (.putfield 25, 3) := by decide +kernel
theorem dX1_init_35 : decode cX1_init 35 = .ok (.aload_n 0, 1) := by decide +kernel
theorem dX1_init_36 : decode cX1_init 36 = .ok (.iload_n 3, 1) := by decide +kernel
theorem dX1_init_37 : decode cX1_init 37 = .ok (.putfield 28, 3) := by decide +kernel
theorem dX1_init_40 : decode cX1_init 40 = .ok (.return_, 1) := by decide +kernel
theorem dX1_append_0 : decode cX1_append 0 = .ok (.aload_n 0, 1) := by decide +kernel
theorem dX1_append_1 : decode cX1_append 1 = .ok (.getfield 18, 3) := by decide +kernel
theorem dX1_append_4 : decode cX1_append 4 = .ok (.bipush 6, 2) := by decide +kernel
theorem dX1_append_6 : decode cX1_append 6 = .ok (.if_icmp .ge 33, 3) := by decide +kernel
theorem dX1_append_9 : decode cX1_append 9 = .ok (.aload_n 0, 1) := by decide +kernel
theorem dX1_append_10 : decode cX1_append 10 = .ok (.getfield 9, 3) := by decide +kernel
theorem dX1_append_13 : decode cX1_append 13 = .ok (.aload_n 0, 1) := by decide +kernel
theorem dX1_append_14 : decode cX1_append 14 = .ok (.getfield 18, 3) := by decide +kernel
theorem dX1_append_17 : decode cX1_append 17 = .ok (.iload_n 1, 1) := by decide +kernel
theorem dX1_append_18 : decode cX1_append 18 = .ok (.iastore, 1) := by decide +kernel
theorem dX1_append_19 : decode cX1_append 19 = .ok (.aload_n 0, 1) := by decide +kernel
theorem dX1_append_20 : decode cX1_append 20 = .ok (.getfield 15, 3) := by decide +kernel
theorem dX1_append_23 : decode cX1_append 23 = .ok (.aload_n 0, 1) := by decide +kernel
theorem dX1_append_24 : decode cX1_append 24 = .ok (.getfield 18, 3) := by decide +kernel
theorem dX1_append_27 : decode cX1_append 27 = .ok (.iload_n 2, 1) := by decide +kernel
theorem dX1_append_28 : decode cX1_append 28 = .ok (.iastore, 1) := by decide +kernel
theorem dX1_append_29 : decode cX1_append 29 = .ok (.aload_n 0, 1) := by decide +kernel
theorem dX1_append_30 : decode cX1_append 30 = .ok (.dup, 1) := by decide +kernel
theorem dX1_append_31 : decode cX1_append 31 = .ok (.getfield 18, 3) := by decide +kernel
theorem dX1_append_34 : decode cX1_append 34 = .ok (.iconst 1, 1) := by decide +kernel
theorem dX1_append_35 : decode cX1_append 35 = .ok (.iadd, 1) := by decide +kernel
theorem dX1_append_36 : decode cX1_append 36 = .ok (.putfield 18, 3) := by decide +kernel
theorem dX1_append_39 : decode cX1_append 39 = .ok (.return_, 1) := by decide +kernel
theorem dX2_init_0 : decode cX2_init 0 = .ok (.aload_n 0, 1) := by decide +kernel
theorem dX2_init_1 : decode cX2_init 1 = .ok (.invokespecial 3, 3) := by decide +kernel
theorem dX2_init_4 : decode cX2_init 4 = .ok (.aload_n 0, 1) := by decide +kernel
theorem dX2_init_5 : decode cX2_init 5 = .ok (.iconst 0, 1) := by decide +kernel
theorem dX2_init_6 : decode cX2_init 6 = .ok (.putfield 9, 3) := by decide +kernel
theorem dX2_init_9 : decode cX2_init 9 = .ok (.aload_n 0, 1) := by decide +kernel
theorem dX2_init_10 : decode cX2_init 10 = .ok (.sipush 9999, 3) := by decide +kernel
theorem dX2_init_13 : decode cX2_init 13 = .ok (.putfield 15, 3) := by decide +kernel
theorem dX2_init_16 : decode cX2_init 16 = .ok (.aload_n 0, 1) := by decide +kernel
theorem dX2_init_17 : decode cX2_init 17 = .ok (.bipush 10, 2) := by decide +kernel
theorem dX2_init_19 : decode cX2_init 19 = .ok (.anewarray 18, 3) := by decide +kernel
theorem dX2_init_22 : decode cX2_init 22 = .ok (.putfield 20, 3) := by decide +kernel
theorem dX2_init_25 : decode cX2_init 25 = .ok (.aload_n 0, 1) := by decide +kernel
theorem dX2_init_26 : decode cX2_init 26 = .ok (.aload_n 1, 1) := by decide +kernel
theorem dX2_init_27 : decode cX2_init 27 = .ok (.putfield 24, 3) := by decide +kernel
theorem dX2_init_30 : decode cX2_init 30 = .ok (.aload_n 0, 1) := by decide +kernel
theorem dX2_init_31 : decode cX2_init 31 = .ok (.iload_n 2, 1) := by decide +kernel
theorem dX2_init_32 : decode cX2_init 32 = .ok (.putfield 28, 3) := by decide +kernel
theorem dX2_init_35 : decode cX2_init 35 = .ok (.aload_n 0, 1) := by decide +kernel
theorem dX2_init_36 : decode cX2_init 36 = .ok (.iload_n 3, 1) := by decide +kernel
theorem dX2_init_37 : decode cX2_init 37 = .ok (.putfield 31, 3) := by decide +kernel
theorem dX2_init_40 : decode cX2_init 40 = .ok (.aload_n 0, 1) := by decide +kernel
theorem dX2_init_41 : decode cX2_init 41 = .ok (.iload 4, 2) := by decide +kernel
theorem dX2_init_43 : decode cX2_init 43 = .ok (.putfield 34, 3) := by decide +kernel
theorem dX2_init_46 : decode cX2_init 46 = .ok (.iconst 0, 1) := by decide +kernel
theorem dX2_init_47 : decode cX2_init 47 = .ok (.istore 5, 2) := by decide +kernel
theorem dX2_init_49 : decode cX2_init 49 = .ok (.iload 5, 2) := by decide +kernel
theorem dX2_init_51 : decode cX2_init 51 = .ok (.bipush 10, 2) := by decide +kernel
theorem dX2_init_53 : decode cX2_init 53 = .ok (.if_icmp .ge 23, 3) := by decide +kernel
theorem dX2_init_56 : decode cX2_init 56 = .ok (.aload_n 0, 1) := by decide +kernel
theorem dX2_init_57 : decode cX2_init 57 = .ok (.getfield 20, 3) := by decide +kernel
theorem dX2_init_60 : decode cX2_init 60 = .ok (.iload 5, 2) := by decide +kernel
theorem dX2_init_62 : decode cX2_init 62 = .ok (.new 18, 3) := by decide +kernel
theorem dX2_init_65 : decode cX2_init 65 = .ok (.dup, 1) := by decide +kernel
theorem dX2_init_66 : decode cX2_init 66 = .ok (.invokespecial 37, 3) := by decide +kernel
theorem dX2_init_69 : decode cX2_init 69 = .ok (.aastore, 1) := by decide +kernel
theorem dX2_init_70 : decode cX2_init 70 = .ok (.iinc 5 1, 3) := by decide +kernel
theorem dX2_init_73 : decode cX2_init 73 = .ok (.goto (-24), 3) := by decide +kernel
theorem dX2_init_76 : decode cX2_init 76 = .ok (.return_, 1) := by decide +kernel
theorem dX3_init_0 : decode cX3_init 0 = .ok (.aload_n 0, 1) := by decide +kernel
theorem dX3_init_1 : decode cX3_init 1 = .ok (.invokespecial 3, 3) := by decide +kernel
theorem dX3_init_4 : decode cX3_init 4 = .ok (.aload_n 0, 1) := by decide +kernel
theorem dX3_init_5 : decode cX3_init 5 = .ok (.bipush 10, 2) := by decide +kernel
theorem dX3_init_7 : decode cX3_init 7 = .ok (.newarray .int, 2) := by decide +kernel
theorem dX3_init_9 : decode cX3_init 9 = .ok (.putfield 9, 3) := by decide +kernel
theorem dX3_init_12 : decode cX3_init 12 = .ok (.aload_n 0, 1) := by decide +kernel
theorem dX3_init_13 : decode cX3_init 13 = .ok (.iconst 0, 1) := by decide +kernel
theorem dX3_init_14 : decode cX3_init 14 = .ok (.putfield 15, 3) := by decide +kernel
theorem dX3_init_17 : decode cX3_init 17 = .ok (.aload_n 0, 1) := by decide +kernel
theorem dX3_init_18 : decode cX3_init 18 = .ok (.iconst 0, 1) := by decide +kernel
theorem dX3_init_19 : decode cX3_init 19 = .ok (.putfield 19, 3) := by decide +kernel
theorem dX3_init_22 : decode cX3_init 22 = .ok (.aload_n 0, 1) := by decide +kernel
theorem dX3_init_23 : decode cX3_init 23 = .ok (.iconst (-1), 1) := by decide +kernel
theorem dX3_init_24 : decode cX3_init 24 = .ok (.putfield 22, 3) := by decide +kernel
theorem dX3_init_27 : decode cX3_init 27 = .ok (.aload_n 0, 1) := by decide +kernel
theorem dX3_init_28 : decode cX3_init 28 = .ok (.iconst 0, 1) := by decide +kernel
theorem dX3_init_29 : decode cX3_init 29 = .ok (.putfield 25, 3) := by decide +kernel
theorem dX3_init_32 : decode cX3_init 32 = .ok (.aload_n 0, 1) := by decide +kernel
theorem dX3_init_33 : decode cX3_init 33 = .ok (.iconst 0, 1) := by decide +kernel
theorem dX3_init_34 : decode cX3_init 34 = .ok (.putfield 28, 3) := by decide +kernel
theorem dX3_init_37 : decode cX3_init 37 = .ok (.return_, 1) := by decide +kernel
theorem dX3_turn_0 : decode cX3_turn 0 = .ok (.iload_n 2, 1) := by decide +kernel
theorem dX3_turn_1 : decode cX3_turn 1 = .ok (.iconst 1, 1) := by decide +kernel
theorem dX3_turn_2 : decode cX3_turn 2 = .ok (.if_icmp .eq 8, 3) := by decide +kernel
theorem dX3_turn_5 : decode cX3_turn 5 = .ok (.iload_n 2, 1) := by decide +kernel
theorem dX3_turn_6 : decode cX3_turn 6 = .ok (.iconst 2, 1) := by decide +kernel
theorem dX3_turn_7 : decode cX3_turn 7 = .ok (.if_icmp .ne 7, 3) := by decide +kernel
theorem dX3_turn_10 : decode cX3_turn 10 = .ok (.iconst 1, 1) := by decide +kernel
theorem dX3_turn_11 : decode cX3_turn 11 = .ok (.goto 4, 3) := by decide +kernel
theorem dX3_turn_14 : decode cX3_turn 14 = .ok (.iconst 0, 1) := by decide +kernel
theorem dX3_turn_15 : decode cX3_turn 15 = .ok (.istore_n 3, 1) := by decide +kernel
theorem dX3_turn_16 : decode cX3_turn 16 = .ok (.iload_n 2, 1) := by decide +kernel
theorem dX3_turn_17 : decode cX3_turn 17 = .ok (.iconst 1, 1) := by decide +kernel
theorem dX3_turn_18 : decode cX3_turn 18 = .ok (.if_icmp .eq 8, 3) := by decide +kernel
theorem dX3_turn_21 : decode cX3_turn 21 = .ok (.iload_n 2, 1) := by decide +kernel
theorem dX3_turn_22 : decode cX3_turn 22 = .ok (.iconst 3, 1) := by decide +kernel
theorem dX3_turn_23 : decode cX3_turn 23 = .ok (.if_icmp .ne 7, 3) := by decide +kernel
theorem dX3_turn_26 : decode cX3_turn 26 = .ok (.iconst 1, 1) := by decide +kernel
theorem dX3_turn_27 : decode cX3_turn 27 = .ok (.goto 4, 3) := by decide +kernel
theorem dX3_turn_30 : decode cX3_turn 30 = .ok (.iconst 0, 1) := by decide +kernel
theorem dX3_turn_31 : decode cX3_turn 31 = .ok (.istore 4, 2) := by decide +kernel
theorem dX3_turn_33 : decode cX3_turn 33 = .ok (.aload_n 0, 1) := by decide +kernel
theorem dX3_turn_34 : decode cX3_turn 34 = .ok (.iload_n 2, 1) := by decide +kernel
theorem dX3_turn_35 : decode cX3_turn 35 = .ok (.putfield 19, 3) := by decide +kernel
theorem dX3_turn_38 : decode cX3_turn 38 = .ok (.aload_n 0, 1) := by decide +kernel
theorem dX3_turn_39 : decode cX3_turn 39 = .ok (.aload_n 1, 1) := by decide +kernel
theorem dX3_turn_40 : decode cX3_turn 40 = .ok (.getfield 31, 3) := by decide +kernel
theorem dX3_turn_43 : decode cX3_turn 43 = .ok (.arraylength, 1) := by decide +kernel
theorem dX3_turn_44 : decode cX3_turn 44 = .ok (.bipush 10, 2) := by decide +kernel
theorem dX3_turn_46 : decode cX3_turn 46 = .ok (.invokestatic 34, 3) := by decide +kernel
theorem dX3_turn_49 : decode cX3_turn 49 = .ok (.putfield 15, 3) := by decide +kernel
theorem dX3_turn_52 : decode cX3_turn 52 = .ok (.iconst 0, 1) := by decide +kernel
theorem dX3_turn_53 : decode cX3_turn 53 = .ok (.istore 5, 2) := by decide +kernel
theorem dX3_turn_55 : decode cX3_turn 55 = .ok (.iload 5, 2) := by decide +kernel
theorem dX3_turn_57 : decode cX3_turn 57 = .ok (.aload_n 0, 1) := by decide +kernel
theorem dX3_turn_58 : decode cX3_turn 58 = .ok (.getfield 15, 3) := by decide +kernel
theorem dX3_turn_61 : decode cX3_turn 61 = .ok (.if_icmp .ge 39, 3) := by decide +kernel
theorem dX3_turn_64 : decode cX3_turn 64 = .ok (.aload_n 0, 1) := by decide +kernel
theorem dX3_turn_65 : decode cX3_turn 65 = .ok (.getfield 9, 3) := by decide +kernel
theorem dX3_turn_68 : decode cX3_turn 68 = .ok (.iload 5, 2) := by decide +kernel
theorem dX3_turn_70 : decode cX3_turn 70 = .ok (.aload_n 1, 1) := by decide +kernel
theorem dX3_turn_71 : decode cX3_turn 71 = .ok (.getfield 31, 3) := by decide +kernel
theorem dX3_turn_74 : decode cX3_turn 74 = .ok (.iload_n 3, 1) := by decide +kernel
theorem dX3_turn_75 : decode cX3_turn 75 = .ok (.ifCond .eq 15, 3) := by decide +kernel
theorem dX3_turn_78 : decode cX3_turn 78 = .ok (.aload_n 0, 1) := by decide +kernel
theorem dX3_turn_79 : decode cX3_turn 79 = .ok (.getfield 15, 3) := by decide +kernel
theorem dX3_turn_82 : decode cX3_turn 82 = .ok (.iconst 1, 1) := by decide +kernel
theorem dX3_turn_83 : decode cX3_turn 83 = .ok (.isub, 1) := by decide +kernel
theorem dX3_turn_84 : decode cX3_turn 84 = .ok (.iload 5, 2) := by decide +kernel
theorem dX3_turn_86 : decode cX3_turn 86 = .ok (.isub, 1) := by decide +kernel
theorem dX3_turn_87 : decode cX3_turn 87 = .ok (.goto 5, 3) := by decide +kernel
theorem dX3_turn_90 : decode cX3_turn 90 = .ok (.iload 5, 2) := by decide +kernel
theorem dX3_turn_92 : decode cX3_turn 92 = .ok (.iaload, 1) := by decide +kernel
theorem dX3_turn_93 : decode cX3_turn 93 = .ok (.iastore, 1) := by decide +kernel
theorem dX3_turn_94 : decode cX3_turn 94 = .ok (.iinc 5 1, 3) := by decide +kernel
theorem dX3_turn_97 : decode cX3_turn 97 = .ok (.goto (-42), 3) := by decide +kernel
theorem dX3_turn_100 : decode cX3_turn 100 = .ok (.aload_n 0, 1) := by decide +kernel
theorem dX3_turn_101 : decode cX3_turn 101 = .ok (.iconst (-1), 1) := by decide +kernel
theorem dX3_turn_102 : decode cX3_turn 102 = .ok (.putfield 22, 3) := by decide +kernel
theorem dX3_turn_105 : decode cX3_turn 105 = .ok (.aload_n 1, 1) := by decide +kernel
theorem dX3_turn_106 : decode cX3_turn 106 = .ok (.getfield 40, 3) := by decide +kernel
theorem dX3_turn_109 : decode cX3_turn 109 = .ok (.ifCond .lt 97, 3) := by decide +kernel
theorem dX3_turn_112 : decode cX3_turn 112 = .ok (.aload_n 1, 1) := by decide +kernel
theorem dX3_turn_113 : decode cX3_turn 113 = .ok (.getfield 40, 3) := by decide +kernel
theorem dX3_turn_116 : decode cX3_turn 116 = .ok (.aload_n 0, 1) := by decide +kernel
theorem dX3_turn_117 : decode cX3_turn 117 = .ok (.getfield 15, 3) := by decide +kernel
theorem dX3_turn_120 : decode cX3_turn 120 = .ok (.if_icmp .ge 86, 3) := by decide +kernel
theorem dX3_turn_123 : decode cX3_turn 123 = .ok (.aload_n 1, 1) := by decide +kernel
theorem dX3_turn_124 : decode cX3_turn 124 = .ok (.getfield 31, 3) := by decide +kernel
theorem dX3_turn_127 : decode cX3_turn 127 = .ok (.aload_n 1, 1) := by decide +kernel
theorem dX3_turn_128 : decode cX3_turn 128 = .ok (.getfield 40, 3) := by decide +kernel
theorem dX3_turn_131 : decode cX3_turn 131 = .ok (.iaload, 1) := by decide +kernel
theorem dX3_turn_132 : decode cX3_turn 132 = .ok (.istore 5, 2) := by decide +kernel
theorem dX3_turn_134 : decode cX3_turn 134 = .ok (.aload_n 0, 1) := by decide +kernel
theorem dX3_turn_135 : decode cX3_turn 135 = .ok (.iload_n 3, 1) := by decide +kernel
theorem dX3_turn_136 : decode cX3_turn 136 = .ok (.ifCond .eq 17, 3) := by decide +kernel
theorem dX3_turn_139 : decode cX3_turn 139 = .ok (.aload_n 0, 1) := by decide +kernel
theorem dX3_turn_140 : decode cX3_turn 140 = .ok (.getfield 15, 3) := by decide +kernel
theorem dX3_turn_143 : decode cX3_turn 143 = .ok (.iconst 1, 1) := by decide +kernel
theorem dX3_turn_144 : decode cX3_turn 144 = .ok (.isub, 1) := by decide +kernel
theorem dX3_turn_145 : decode cX3_turn 145 = .ok (.aload_n 1, 1) := by decide +kernel
theorem dX3_turn_146 : decode cX3_turn 146 = .ok (.getfield 40, 3) := by decide +kernel
theorem dX3_turn_149 : decode cX3_turn 149 = .ok (.isub, 1) := by decide +kernel
theorem dX3_turn_150 : decode cX3_turn 150 = .ok (.goto 7, 3) := by decide +kernel
theorem dX3_turn_153 : decode cX3_turn 153 = .ok (.aload_n 1, 1) := by decide +kernel
theorem dX3_turn_154 : decode cX3_turn 154 = .ok (.getfield 40, 3) := by decide +kernel
theorem dX3_turn_157 : decode cX3_turn 157 = .ok (.putfield 22, 3) := by decide +kernel
theorem dX3_turn_160 : decode cX3_turn 160 = .ok (.aload_n 0, 1) := by decide +kernel
theorem dX3_turn_161 : decode cX3_turn 161 = .ok (.iload_n 3, 1) := by decide +kernel
theorem dX3_turn_162 : decode cX3_turn 162 = .ok (.ifCond .eq 13, 3) := by decide +kernel
theorem dX3_turn_165 : decode cX3_turn 165 = .ok (.iload 5, 2) := by decide +kernel
theorem dX3_turn_167 : decode cX3_turn 167 = .ok (.aload_n 1, 1) := by decide +kernel
theorem dX3_turn_168 : decode cX3_turn 168 = .ok (.getfield 41, 3) := by decide +kernel
theorem dX3_turn_171 : decode cX3_turn 171 = .ok (.isub, 1) := by decide +kernel
theorem dX3_turn_172 : decode cX3_turn 172 = .ok (.goto 7, 3) := by decide +kernel
theorem dX3_turn_175 : decode cX3_turn 175 = .ok (.aload_n 1, 1) := by decide +kernel
theorem dX3_turn_176 : decode cX3_turn 176 = .ok (.getfield 41, 3) := by decide +kernel
theorem dX3_turn_179 : decode cX3_turn 179 = .ok (.putfield 25, 3) := by decide +kernel
theorem dX3_turn_182 : decode cX3_turn 182 = .ok (.aload_n 0, 1) := by decide +kernel
theorem dX3_turn_183 : decode cX3_turn 183 = .ok (.iload 4, 2) := by decide +kernel
theorem dX3_turn_185 : decode cX3_turn 185 = .ok (.ifCond .eq 14, 3) := by decide +kernel
theorem dX3_turn_188 : decode cX3_turn 188 = .ok (.sipush 300, 3) := by decide +kernel
theorem dX3_turn_191 : decode cX3_turn 191 = .ok (.aload_n 1, 1) := by decide +kernel
theorem dX3_turn_192 : decode cX3_turn 192 = .ok (.getfield 42, 3) := by decide +kernel
theorem dX3_turn_195 : decode cX3_turn 195 = .ok (.isub, 1) := by decide +kernel
theorem dX3_turn_196 : decode cX3_turn 196 = .ok (.goto 7, 3) := by decide +kernel
theorem dX3_turn_199 : decode cX3_turn 199 = .ok (.aload_n 1, 1) := by decide +kernel
theorem dX3_turn_200 : decode cX3_turn 200 = .ok (.getfield 42, 3) := by decide +kernel
theorem dX3_turn_203 : decode cX3_turn 203 = .ok (.putfield 28, 3) := by decide +kernel
theorem dX3_turn_206 : decode cX3_turn 206 = .ok (.return_, 1) := by decide +kernel
theorem dJ9_abs_0f7a4_0 : decode cJ9_abs_0f7a4 0 = .ok (.iload_n 0, 1) := by decide +kernel
theorem dJ9_abs_0f7a4_1 : decode cJ9_abs_0f7a4 1 = .ok (.ifCond .ge 8, 3) := by decide +kernel
theorem dJ9_abs_0f7a4_4 : decode cJ9_abs_0f7a4 4 = .ok (.iload_n 0, 1) := by decide +kernel
theorem dJ9_abs_0f7a4_5 : decode cJ9_abs_0f7a4 5 = .ok (.ineg, 1) := by decide +kernel
theorem dJ9_abs_0f7a4_6 : decode cJ9_abs_0f7a4 6 = .ok (.goto 4, 3) := by decide +kernel
theorem dJ9_abs_0f7a4_9 : decode cJ9_abs_0f7a4 9 = .ok (.iload_n 0, 1) := by decide +kernel
theorem dJ9_abs_0f7a4_10 : decode cJ9_abs_0f7a4 10 = .ok (.ireturn, 1) := by decide +kernel
theorem dJ9_max_7cf53_0 : decode cJ9_max_7cf53 0 = .ok (.iload_n 0, 1) := by decide +kernel
theorem dJ9_max_7cf53_1 : decode cJ9_max_7cf53 1 = .ok (.iload_n 1, 1) := by decide +kernel
theorem dJ9_max_7cf53_2 : decode cJ9_max_7cf53 2 = .ok (.if_icmp .lt 7, 3) := by decide +kernel
theorem dJ9_max_7cf53_5 : decode cJ9_max_7cf53 5 = .ok (.iload_n 0, 1) := by decide +kernel
theorem dJ9_max_7cf53_6 : decode cJ9_max_7cf53 6 = .ok (.goto 4, 3) := by decide +kernel
theorem dJ9_max_7cf53_9 : decode cJ9_max_7cf53 9 = .ok (.iload_n 1, 1) := by decide +kernel
theorem dJ9_max_7cf53_10 : decode cJ9_max_7cf53 10 = .ok (.ireturn, 1) := by decide +kernel
theorem dJ9_min_7cf53_0 : decode cJ9_min_7cf53 0 = .ok (.iload_n 0, 1) := by decide +kernel
theorem dJ9_min_7cf53_1 : decode cJ9_min_7cf53 1 = .ok (.iload_n 1, 1) := by decide +kernel
theorem dJ9_min_7cf53_2 : decode cJ9_min_7cf53 2 = .ok (.if_icmp .gt 7, 3) := by decide +kernel
theorem dJ9_min_7cf53_5 : decode cJ9_min_7cf53 5 = .ok (.iload_n 0, 1) := by decide +kernel
theorem dJ9_min_7cf53_6 : decode cJ9_min_7cf53 6 = .ok (.goto 4, 3) := by decide +kernel
theorem dJ9_min_7cf53_9 : decode cJ9_min_7cf53 9 = .ok (.iload_n 1, 1) := by decide +kernel
theorem dJ9_min_7cf53_10 : decode cJ9_min_7cf53 10 = .ok (.ireturn, 1) := by decide +kernel
theorem dJ7_copyOf_59c91_0 : decode cJ7_copyOf_59c91 0 = .ok (.iload_n 1, 1) := by decide +kernel
theorem dJ7_copyOf_59c91_1 : decode cJ7_copyOf_59c91 1 = .ok (.aload_n 0, 1) := by decide +kernel
theorem dJ7_copyOf_59c91_2 : decode cJ7_copyOf_59c91 2 = .ok (.arraylength, 1) := by decide +kernel
theorem dJ7_copyOf_59c91_3 : decode cJ7_copyOf_59c91 3 = .ok (.if_icmp .ne 11, 3) := by decide +kernel
theorem dJ7_copyOf_59c91_6 : decode cJ7_copyOf_59c91 6 = .ok (.aload_n 0, 1) := by decide +kernel
theorem dJ7_copyOf_59c91_7 : decode cJ7_copyOf_59c91 7 = .ok (.invokevirtual 316, 3) := by decide +kernel
theorem dJ7_copyOf_59c91_10 : decode cJ7_copyOf_59c91 10 = .ok (.checkcast 317, 3) := by decide +kernel
theorem dJ7_copyOf_59c91_13 : decode cJ7_copyOf_59c91 13 = .ok (.areturn, 1) := by decide +kernel
theorem dJ7_copyOf_59c91_14 : decode cJ7_copyOf_59c91 14 = .ok (.iload_n 1, 1) := by decide +kernel
theorem dJ7_copyOf_59c91_15 : decode cJ7_copyOf_59c91 15 = .ok (.newarray .int, 2) := by decide +kernel
theorem dJ7_copyOf_59c91_17 : decode cJ7_copyOf_59c91 17 = .ok (.astore_n 2, 1) := by decide +kernel
theorem dJ7_copyOf_59c91_18 : decode cJ7_copyOf_59c91 18 = .ok (.aload_n 0, 1) := by decide +kernel
theorem dJ7_copyOf_59c91_19 : decode cJ7_copyOf_59c91 19 = .ok (.iconst 0, 1) := by decide +kernel
theorem dJ7_copyOf_59c91_20 : decode cJ7_copyOf_59c91 20 = .ok (.aload_n 2, 1) := by decide +kernel
theorem dJ7_copyOf_59c91_21 : decode cJ7_copyOf_59c91 21 = .ok (.iconst 0, 1) := by decide +kernel
theorem dJ7_copyOf_59c91_22 : decode cJ7_copyOf_59c91 22 = .ok (.aload_n 0, 1) := by decide +kernel
theorem dJ7_copyOf_59c91_23 : decode cJ7_copyOf_59c91 23 = .ok (.arraylength, 1) := by decide +kernel
theorem dJ7_copyOf_59c91_24 : decode cJ7_copyOf_59c91 24 = .ok (.iload_n 1, 1) := by decide +kernel
theorem dJ7_copyOf_59c91_25 : decode cJ7_copyOf_59c91 25 = .ok (.invokestatic 304, 3) := by decide +kernel
theorem dJ7_copyOf_59c91_28 : decode cJ7_copyOf_59c91 28 = .ok (.invokestatic 150, 3) := by decide +kernel
theorem dJ7_copyOf_59c91_31 : decode cJ7_copyOf_59c91 31 = .ok (.aload_n 2, 1) := by decide +kernel
theorem dJ7_copyOf_59c91_32 : decode cJ7_copyOf_59c91 32 = .ok (.areturn, 1) := by decide +kernel
theorem dX4_init_0 : decode cX4_init 0 = .ok (.aload_n 0, 1) := by decide +kernel
theorem dX4_init_1 : decode cX4_init 1 = .ok (.invokespecial 1, 3) := by decide +kernel
theorem dX4_init_4 : decode cX4_init 4 = .ok (.aload_n 0, 1) := by decide +kernel
theorem dX4_init_5 : decode cX4_init 5 = .ok (.bipush 10, 2) := by decide +kernel
theorem dX4_init_7 : decode cX4_init 7 = .ok (.newarray .int, 2) := by decide +kernel
theorem dX4_init_9 : decode cX4_init 9 = .ok (.putfield 9, 3) := by decide +kernel
theorem dX4_init_12 : decode cX4_init 12 = .ok (.aload_n 0, 1) := by decide +kernel
theorem dX4_init_13 : decode cX4_init 13 = .ok (.iconst 0, 1) := by decide +kernel
theorem dX4_init_14 : decode cX4_init 14 = .ok (.putfield 13, 3) := by decide +kernel
theorem dX4_init_17 : decode cX4_init 17 = .ok (.aload_n 0, 1) := by decide +kernel
theorem dX4_init_18 : decode cX4_init 18 = .ok (.iconst 5, 1) := by decide +kernel
theorem dX4_init_19 : decode cX4_init 19 = .ok (.putfield 17, 3) := by decide +kernel
theorem dX4_init_22 : decode cX4_init 22 = .ok (.aload_n 0, 1) := by decide +kernel
theorem dX4_init_23 : decode cX4_init 23 = .ok (.bipush 20, 2) := by decide +kernel
theorem dX4_init_25 : decode cX4_init 25 = .ok (.putfield 20, 3) := by decide +kernel
theorem dX4_init_28 : decode cX4_init 28 = .ok (.aload_n 0, 1) := by decide +kernel
theorem dX4_init_29 : decode cX4_init 29 = .ok (.bipush 10, 2) := by decide +kernel
theorem dX4_init_31 : decode cX4_init 31 = .ok (.anewarray 23, 3) := by decide +kernel
theorem dX4_init_34 : decode cX4_init 34 = .ok (.putfield 25, 3) := by decide +kernel
theorem dX4_init_37 : decode cX4_init 37 = .ok (.aload_n 0, 1) := by decide +kernel
theorem dX4_init_38 : decode cX4_init 38 = .ok (.iconst 0, 1) := by decide +kernel
theorem dX4_init_39 : decode cX4_init 39 = .ok (.putfield 29, 3) := by decide +kernel
theorem dX4_init_42 : decode cX4_init 42 = .ok (.aload_n 0, 1) := by decide +kernel
theorem dX4_init_43 : decode cX4_init 43 = .ok (.bipush 30, 2) := by decide +kernel
theorem dX4_init_45 : decode cX4_init 45 = .ok (.anewarray 32, 3) := by decide +kernel
theorem dX4_init_48 : decode cX4_init 48 = .ok (.putfield 34, 3) := by decide +kernel
theorem dX4_init_51 : decode cX4_init 51 = .ok (.aload_n 0, 1) := by decide +kernel
theorem dX4_init_52 : decode cX4_init 52 = .ok (.iconst 0, 1) := by decide +kernel
theorem dX4_init_53 : decode cX4_init 53 = .ok (.putfield 38, 3) := by decide +kernel
theorem dX4_init_56 : decode cX4_init 56 = .ok (.aload_n 0, 1) := by decide +kernel
theorem dX4_init_57 : decode cX4_init 57 = .ok (.new 41, 3) := by decide +kernel
theorem dX4_init_60 : decode cX4_init 60 = .ok (.dup, 1) := by decide +kernel
theorem dX4_init_61 : decode cX4_init 61 = .ok (.invokespecial 43, 3) := by decide +kernel
theorem dX4_init_64 : decode cX4_init 64 = .ok (.putfield 44, 3) := by decide +kernel
theorem dX4_init_67 : decode cX4_init 67 = .ok (.aload_n 0, 1) := by decide +kernel
theorem dX4_init_68 : decode cX4_init 68 = .ok (.bipush 30, 2) := by decide +kernel
theorem dX4_init_70 : decode cX4_init 70 = .ok (.newarray .int, 2) := by decide +kernel
theorem dX4_init_72 : decode cX4_init 72 = .ok (.putfield 48, 3) := by decide +kernel
theorem dX4_init_75 : decode cX4_init 75 = .ok (.aload_n 0, 1) := by decide +kernel
theorem dX4_init_76 : decode cX4_init 76 = .ok (.bipush 30, 2) := by decide +kernel
theorem dX4_init_78 : decode cX4_init 78 = .ok (.newarray .int, 2) := by decide +kernel
theorem dX4_init_80 : decode cX4_init 80 = .ok (.putfield 51, 3) := by decide +kernel
theorem dX4_init_83 : decode cX4_init 83 = .ok (.return_, 1) := by decide +kernel
theorem dX4_clearRow_0 : decode cX4_clearRow 0 = .ok (.aload_n 0, 1) := by decide +kernel
theorem dX4_clearRow_1 : decode cX4_clearRow 1 = .ok (.getfield 13, 3) := by decide +kernel
theorem dX4_clearRow_4 : decode cX4_clearRow 4 = .ok (.istore_n 1, 1) := by decide +kernel
theorem dX4_clearRow_5 : decode cX4_clearRow 5 = .ok (.aload_n 0, 1) := by decide +kernel
theorem dX4_clearRow_6 : decode cX4_clearRow 6 = .ok (.iconst 0, 1) := by decide +kernel
theorem dX4_clearRow_7 : decode cX4_clearRow 7 = .ok (.putfield 13, 3) := by decide +kernel
theorem dX4_clearRow_10 : decode cX4_clearRow 10 = .ok (.iload_n 1, 1) := by decide +kernel
theorem dX4_clearRow_11 : decode cX4_clearRow 11 = .ok (.ireturn, 1) := by decide +kernel
theorem dX4_addToRow_0 : decode cX4_addToRow 0 = .ok (.iload_n 1, 1) := by decide +kernel
theorem dX4_addToRow_1 : decode cX4_addToRow 1 = .ok (.bipush 100, 2) := by decide +kernel
theorem dX4_addToRow_3 : decode cX4_addToRow 3 = .ok (.sipush 450, 3) := by decide +kernel
theorem dX4_addToRow_6 : decode cX4_addToRow 6 = .ok (.invokestatic 54, 3) := by decide +kernel
theorem dX4_addToRow_9 : decode cX4_addToRow 9 = .ok (.ifCond .ne 6, 3) := by decide +kernel
theorem dX4_addToRow_12 : decode cX4_addToRow 12 = .ok (.bipush (-3), 2) := by decide +kernel
theorem dX4_addToRow_14 : decode cX4_addToRow 14 = .ok (.ireturn, 1) := by decide +kernel
theorem dX4_addToRow_15 : decode cX4_addToRow 15 = .ok (.aload_n 0, 1) := by decide +kernel
theorem dX4_addToRow_16 : decode cX4_addToRow 16 = .ok (.getfield 13, 3) := by decide +kernel
theorem dX4_addToRow_19 : decode cX4_addToRow 19 = .ok (.bipush 10, 2) := by decide +kernel
theorem dX4_addToRow_21 : decode cX4_addToRow 21 = .ok (.if_icmp .lt 6, 3) := by decide +kernel
theorem dX4_addToRow_24 : decode cX4_addToRow 24 = .ok (.bipush (-5), 2) := by decide +kernel
theorem dX4_addToRow_26 : decode cX4_addToRow 26 = .ok (.ireturn, 1) := by decide +kernel
theorem dX4_addToRow_27 : decode cX4_addToRow 27 = .ok (.aload_n 0, 1) := by decide +kernel
theorem dX4_addToRow_28 : decode cX4_addToRow 28 = .ok (.getfield 9, 3) := by decide +kernel
theorem dX4_addToRow_31 : decode cX4_addToRow 31 = .ok (.aload_n 0, 1) := by decide +kernel
theorem dX4_addToRow_32 : decode cX4_addToRow 32 = .ok (.getfield 13, 3) := by decide +kernel
theorem dX4_addToRow_35 : decode cX4_addToRow 35 = .ok (.iload_n 1, 1) := by decide +kernel
theorem dX4_addToRow_36 : decode cX4_addToRow 36 = .ok (.iastore, 1) := by decide +kernel
theorem dX4_addToRow_37 : decode cX4_addToRow 37 = .ok (.aload_n 0, 1) := by decide +kernel
theorem dX4_addToRow_38 : decode cX4_addToRow 38 = .ok (.dup, 1) := by decide +kernel
theorem dX4_addToRow_39 : decode cX4_addToRow 39 = .ok (.getfield 13, 3) := by decide +kernel
theorem dX4_addToRow_42 : decode cX4_addToRow 42 = .ok (.iconst 1, 1) := by decide +kernel
theorem dX4_addToRow_43 : decode cX4_addToRow 43 = .ok (.iadd, 1) := by decide +kernel
theorem dX4_addToRow_44 : decode cX4_addToRow 44 = .ok (.putfield 13, 3) := by decide +kernel
theorem dX4_addToRow_47 : decode cX4_addToRow 47 = .ok (.aload_n 0, 1) := by decide +kernel
theorem dX4_addToRow_48 : decode cX4_addToRow 48 = .ok (.getfield 13, 3) := by decide +kernel
theorem dX4_addToRow_51 : decode cX4_addToRow 51 = .ok (.ireturn, 1) := by decide +kernel
theorem dX4_setTolerances_0 : decode cX4_setTolerances 0 = .ok (.iload_n 1, 1) := by decide +kernel
theorem dX4_setTolerances_1 : decode cX4_setTolerances 1 = .ok (.iconst 0, 1) := by decide +kernel
theorem dX4_setTolerances_2 : decode cX4_setTolerances 2 = .ok (.bipush 50, 2) := by decide +kernel
theorem dX4_setTolerances_4 : decode cX4_setTolerances 4 = .ok (.invokestatic 54, 3) := by decide +kernel
theorem dX4_setTolerances_7 : decode cX4_setTolerances 7 = .ok (.ifCond .eq 13, 3) := by decide +kernel
theorem dX4_setTolerances_10 : decode cX4_setTolerances 10 = .ok (.iload_n 2, 1) := by decide +kernel
theorem dX4_setTolerances_11 : decode cX4_setTolerances 11 = .ok (.iconst 0, 1) := by decide +kernel
theorem dX4_setTolerances_12 : decode cX4_setTolerances 12 = .ok (.bipush 100, 2) := by decide +kernel
theorem dX4_setTolerances_14 : decode cX4_setTolerances 14 = .ok (.invokestatic 54, 3) := by decide +kernel
theorem dX4_setTolerances_17 : decode cX4_setTolerances 17 = .ok (.ifCond .ne 6, 3) := by decide +kernel
theorem dX4_setTolerances_20 : decode cX4_setTolerances 20 = .ok (.bipush (-3), 2) := by decide +kernel
theorem dX4_setTolerances_22 : decode cX4_setTolerances 22 = .ok (.ireturn, 1) := by decide +kernel
theorem dX4_setTolerances_23 : decode cX4_setTolerances 23 = .ok (.aload_n 0, 1) := by decide +kernel
theorem dX4_setTolerances_24 : decode cX4_setTolerances 24 = .ok (.getfield 17, 3) := by decide +kernel
theorem dX4_setTolerances_27 : decode cX4_setTolerances 27 = .ok (.iload_n 1, 1) := by decide +kernel
theorem dX4_setTolerances_28 : decode cX4_setTolerances 28 = .ok (.if_icmp .ne 13, 3) := by decide +kernel
theorem dX4_setTolerances_31 : decode cX4_setTolerances 31 = .ok (.aload_n 0, 1) := by decide +kernel
theorem dX4_setTolerances_32 : decode cX4_setTolerances 32 = .ok (.getfield 20, 3) := by decide +kernel
theorem dX4_setTolerances_35 : decode cX4_setTolerances 35 = .ok (.iload_n 2, 1) := by decide +kernel
theorem dX4_setTolerances_36 : decode cX4_setTolerances 36 = .ok (.if_icmp .ne 5, 3) := by decide +kernel
theorem dX4_setTolerances_39 : decode cX4_setTolerances 39 = .ok (.iconst 0, 1) := by decide +kernel
theorem dX4_setTolerances_40 : decode cX4_setTolerances 40 = .ok (.ireturn, 1) := by decide +kernel
theorem dX4_setTolerances_41 : decode cX4_setTolerances 41 = .ok (.aload_n 0, 1) := by decide +kernel
theorem dX4_setTolerances_42 : decode cX4_setTolerances 42 = .ok (.iload_n 1, 1) := by decide +kernel
theorem dX4_setTolerances_43 : decode cX4_setTolerances 43 = .ok (.putfield 17, 3) := by decide +kernel
theorem dX4_setTolerances_46 : decode cX4_setTolerances 46 = .ok (.aload_n 0, 1) := by decide +kernel
theorem dX4_setTolerances_47 : decode cX4_setTolerances 47 = .ok (.iload_n 2, 1) := by decide +kernel
theorem dX4_setTolerances_48 : decode cX4_setTolerances 48 = .ok (.putfield 20, 3) := by decide +kernel
theorem dX4_setTolerances_51 : decode cX4_setTolerances 51 = .ok (.iconst 0, 1) := by decide +kernel
theorem dX4_setTolerances_52 : decode cX4_setTolerances 52 = .ok (.istore_n 3, 1) := by decide +kernel
theorem dX4_setTolerances_53 : decode cX4_setTolerances 53 = .ok (.iload_n 3, 1) := by decide +kernel
theorem dX4_setTolerances_54 : decode cX4_setTolerances 54 = .ok (.aload_n 0, 1) := by decide +kernel
theorem dX4_setTolerances_55 : decode cX4_setTolerances 55 = .ok (.getfield 29, 3) := by decide +kernel
theorem dX4_setTolerances_58 : decode cX4_setTolerances 58 = .ok (.if_icmp .ge 14, 3) := by decide +kernel
theorem dX4_setTolerances_61 : decode cX4_setTolerances 61 = .ok (.aload_n 0, 1) := by decide +kernel
theorem dX4_setTolerances_62 : decode cX4_setTolerances 62 = .ok (.iload_n 3, 1) := by decide +kernel
theorem dX4_setTolerances_63 : decode cX4_setTolerances 63 = .ok (.invokevirtual 58, 3) := by decide +kernel
theorem dX4_setTolerances_66 : decode cX4_setTolerances 66 = .ok (.iinc 3 1, 3) := by decide +kernel
theorem dX4_setTolerances_69 : decode cX4_setTolerances 69 = .ok (.goto (-16), 3) := by decide +kernel
theorem dX4_setTolerances_72 : decode cX4_setTolerances 72 = .ok (.iconst 1, 1) := by decide +kernel
theorem dX4_setTolerances_73 : decode cX4_setTolerances 73 = .ok (.ireturn, 1) := by decide +kernel
theorem dX4_addMould_0 : decode cX4_addMould 0 = .ok (.aload_n 0, 1) := by decide +kernel
theorem dX4_addMould_1 : decode cX4_addMould 1 = .ok (.getfield 13, 3) := by decide +kernel
theorem dX4_addMould_4 : decode cX4_addMould 4 = .ok (.iconst 3, 1) := by decide +kernel
theorem dX4_addMould_5 : decode cX4_addMould 5 = .ok (.if_icmp .ge 6, 3) := by decide +kernel
theorem dX4_addMould_8 : decode cX4_addMould 8 = .ok (.bipush (-4), 2) := by decide +kernel
theorem dX4_addMould_10 : decode cX4_addMould 10 = .ok (.ireturn, 1) := by decide +kernel
theorem dX4_addMould_11 : decode cX4_addMould 11 = .ok (.aload_n 0, 1) := by decide +kernel
theorem dX4_addMould_12 : decode cX4_addMould 12 = .ok (.iload_n 1, 1) := by decide +kernel
theorem dX4_addMould_13 : decode cX4_addMould 13 = .ok (.iload_n 2, 1) := by decide +kernel
theorem dX4_addMould_14 : decode cX4_addMould 14 = .ok (.iload_n 3, 1) := by decide +kernel
theorem dX4_addMould_15 : decode cX4_addMould 15 = .ok (.invokevirtual 62, 3) := by decide +kernel
theorem dX4_addMould_18 : decode cX4_addMould 18 = .ok (.ifCond .ne 6, 3) := by decide +kernel
theorem dX4_addMould_21 : decode cX4_addMould 21 = .ok (.bipush (-3), 2) := by decide +kernel
theorem dX4_addMould_23 : decode cX4_addMould 23 = .ok (.ireturn, 1) := by decide +kernel
theorem dX4_addMould_24 : decode cX4_addMould 24 = .ok (.aload_n 0, 1) := by decide +kernel
theorem dX4_addMould_25 : decode cX4_addMould 25 = .ok (.getfield 29, 3) := by decide +kernel
theorem dX4_addMould_28 : decode cX4_addMould 28 = .ok (.bipush 10, 2) := by decide +kernel
theorem dX4_addMould_30 : decode cX4_addMould 30 = .ok (.if_icmp .lt 6, 3) := by decide +kernel
theorem dX4_addMould_33 : decode cX4_addMould 33 = .ok (.bipush (-5), 2) := by decide +kernel
theorem dX4_addMould_35 : decode cX4_addMould 35 = .ok (.ireturn, 1) := by decide +kernel
theorem dX4_addMould_36 : decode cX4_addMould 36 = .ok (.new 23, 3) := by decide +kernel
theorem dX4_addMould_39 : decode cX4_addMould 39 = .ok (.dup, 1) := by decide +kernel
theorem dX4_addMould_40 : decode cX4_addMould 40 = .ok (.aload_n 0, 1) := by decide +kernel
theorem dX4_addMould_41 : decode cX4_addMould 41 = .ok (.getfield 9, 3) := by decide +kernel
theorem dX4_addMould_44 : decode cX4_addMould 44 = .ok (.aload_n 0, 1) := by decide +kernel
theorem dX4_addMould_45 : decode cX4_addMould 45 = .ok (.getfield 13, 3) := by decide +kernel
theorem dX4_addMould_48 : decode cX4_addMould 48 = .ok (.invokestatic 65, 3) := by decide +kernel
theorem dX4_addMould_51 : decode cX4_addMould 51 = .ok (.iload_n 1, 1) := by decide +kernel
theorem dX4_addMould_52 : decode cX4_addMould 52 = .ok (.aload_n 0, 1) := by decide +kernel
theorem dX4_addMould_53 : decode cX4_addMould 53 = .ok (.getfield 9, 3) := by decide +kernel
theorem dX4_addMould_56 : decode cX4_addMould 56 = .ok (.iload_n 1, 1) := by decide +kernel
theorem dX4_addMould_57 : decode cX4_addMould 57 = .ok (.iaload, 1) := by decide +kernel
theorem dX4_addMould_58 : decode cX4_addMould 58 = .ok (.invokespecial 71, 3) := by decide +kernel
theorem dX4_addMould_61 : decode cX4_addMould 61 = .ok (.astore 4, 2) := by decide +kernel
theorem dX4_addMould_63 : decode cX4_addMould 63 = .ok (.aload 4, 2) := by decide +kernel
theorem dX4_addMould_65 : decode cX4_addMould 65 = .ok (.iload_n 2, 1) := by decide +kernel
theorem dX4_addMould_66 : decode cX4_addMould 66 = .ok (.iload_n 3, 1) := by decide +kernel
theorem dX4_addMould_67 : decode cX4_addMould 67 = .ok (.invokevirtual 74, 3) := by decide +kernel
theorem dX4_addMould_70 : decode cX4_addMould 70 = .ok (.aload_n 0, 1) := by decide +kernel
theorem dX4_addMould_71 : decode cX4_addMould 71 = .ok (.getfield 25, 3) := by decide +kernel
theorem dX4_addMould_74 : decode cX4_addMould 74 = .ok (.aload_n 0, 1) := by decide +kernel
theorem dX4_addMould_75 : decode cX4_addMould 75 = .ok (.getfield 29, 3) := by decide +kernel
theorem dX4_addMould_78 : decode cX4_addMould 78 = .ok (.aload 4, 2) := by decide +kernel
theorem dX4_addMould_80 : decode cX4_addMould 80 = .ok (.aastore, 1) := by decide +kernel
theorem dX4_addMould_81 : decode cX4_addMould 81 = .ok (.aload_n 0, 1) := by decide +kernel
theorem dX4_addMould_82 : decode cX4_addMould 82 = .ok (.dup, 1) := by decide +kernel
theorem dX4_addMould_83 : decode cX4_addMould 83 = .ok (.getfield 29, 3) := by decide +kernel
theorem dX4_addMould_86 : decode cX4_addMould 86 = .ok (.iconst 1, 1) := by decide +kernel
theorem dX4_addMould_87 : decode cX4_addMould 87 = .ok (.iadd, 1) := by decide +kernel
theorem dX4_addMould_88 : decode cX4_addMould 88 = .ok (.putfield 29, 3) := by decide +kernel
theorem dX4_addMould_91 : decode cX4_addMould 91 = .ok (.aload_n 0, 1) := by decide +kernel
theorem dX4_addMould_92 : decode cX4_addMould 92 = .ok (.getfield 29, 3) := by decide +kernel
theorem dX4_addMould_95 : decode cX4_addMould 95 = .ok (.iconst 1, 1) := by decide +kernel
theorem dX4_addMould_96 : decode cX4_addMould 96 = .ok (.isub, 1) := by decide +kernel
theorem dX4_addMould_97 : decode cX4_addMould 97 = .ok (.ireturn, 1) := by decide +kernel
theorem dX4_addState_0 : decode cX4_addState 0 = .ok (.aload_n 0, 1) := by decide +kernel
theorem dX4_addState_1 : decode cX4_addState 1 = .ok (.iload_n 1, 1) := by decide +kernel
theorem dX4_addState_2 : decode cX4_addState 2 = .ok (.invokevirtual 78, 3) := by decide +kernel
theorem dX4_addState_5 : decode cX4_addState 5 = .ok (.astore 4, 2) := by decide +kernel
theorem dX4_addState_7 : decode cX4_addState 7 = .ok (.aload 4, 2) := by decide +kernel
theorem dX4_addState_9 : decode cX4_addState 9 = .ok (.ifnonnull 5, 3) := by decide +kernel
theorem dX4_addState_12 : decode cX4_addState 12 = .ok (.iconst (-1), 1) := by decide +kernel
theorem dX4_addState_13 : decode cX4_addState 13 = .ok (.ireturn, 1) := by decide +kernel
theorem dX4_addState_14 : decode cX4_addState 14 = .ok (.aload 4, 2) := by decide +kernel
theorem dX4_addState_16 : decode cX4_addState 16 = .ok (.getfield 82, 3) := by decide +kernel
theorem dX4_addState_19 : decode cX4_addState 19 = .ok (.iload_n 2, 1) := by decide +kernel
theorem dX4_addState_20 : decode cX4_addState 20 = .ok (.iload_n 3, 1) := by decide +kernel
theorem dX4_addState_21 : decode cX4_addState 21 = .ok (.invokestatic 85, 3) := by decide +kernel
theorem dX4_addState_24 : decode cX4_addState 24 = .ok (.ifCond .ne 6, 3) := by decide +kernel
theorem dX4_addState_27 : decode cX4_addState 27 = .ok (.bipush (-3), 2) := by decide +kernel
theorem dX4_addState_29 : decode cX4_addState 29 = .ok (.ireturn, 1) := by decide +kernel
theorem dX4_addState_30 : decode cX4_addState 30 = .ok (.aload 4, 2) := by decide +kernel
theorem dX4_addState_32 : decode cX4_addState 32 = .ok (.getfield 88, 3) := by decide +kernel
theorem dX4_addState_35 : decode cX4_addState 35 = .ok (.bipush 6, 2) := by decide +kernel
theorem dX4_addState_37 : decode cX4_addState 37 = .ok (.if_icmp .lt 6, 3) := by decide +kernel
theorem dX4_addState_40 : decode cX4_addState 40 = .ok (.bipush (-5), 2) := by decide +kernel
theorem dX4_addState_42 : decode cX4_addState 42 = .ok (.ireturn, 1) := by decide +kernel
theorem dX4_addState_43 : decode cX4_addState 43 = .ok (.aload 4, 2) := by decide +kernel
theorem dX4_addState_45 : decode cX4_addState 45 = .ok (.iload_n 2, 1) := by decide +kernel
theorem dX4_addState_46 : decode cX4_addState 46 = .ok (.iload_n 3, 1) := by decide +kernel
theorem dX4_addState_47 : decode cX4_addState 47 = .ok (.invokevirtual 74, 3) := by decide +kernel
theorem dX4_addState_50 : decode cX4_addState 50 = .ok (.aload_n 0, 1) := by decide +kernel
theorem dX4_addState_51 : decode cX4_addState 51 = .ok (.iload_n 1, 1) := by decide +kernel
theorem dX4_addState_52 : decode cX4_addState 52 = .ok (.invokevirtual 58, 3) := by decide +kernel
theorem dX4_addState_55 : decode cX4_addState 55 = .ok (.aload 4, 2) := by decide +kernel
theorem dX4_addState_57 : decode cX4_addState 57 = .ok (.getfield 88, 3) := by decide +kernel
theorem dX4_addState_60 : decode cX4_addState 60 = .ok (.iconst 1, 1) := by decide +kernel
theorem dX4_addState_61 : decode cX4_addState 61 = .ok (.isub, 1) := by decide +kernel
theorem dX4_addState_62 : decode cX4_addState 62 = .ok (.ireturn, 1) := by decide +kernel
theorem dX4_removeState_0 : decode cX4_removeState 0 = .ok (.aload_n 0, 1) := by decide +kernel
theorem dX4_removeState_1 : decode cX4_removeState 1 = .ok (.iload_n 1, 1) := by decide +kernel
theorem dX4_removeState_2 : decode cX4_removeState 2 = .ok (.invokevirtual 78, 3) := by decide +kernel
theorem dX4_removeState_5 : decode cX4_removeState 5 = .ok (.astore_n 2, 1) := by decide +kernel
theorem dX4_removeState_6 : decode cX4_removeState 6 = .ok (.aload_n 2, 1) := by decide +kernel
theorem dX4_removeState_7 : decode cX4_removeState 7 = .ok (.ifnonnull 5, 3) := by decide +kernel
theorem dX4_removeState_10 : decode cX4_removeState 10 = .ok (.iconst (-1), 1) := by decide +kernel
theorem dX4_removeState_11 : decode cX4_removeState 11 = .ok (.ireturn, 1) := by decide +kernel
theorem dX4_removeState_12 : decode cX4_removeState 12 = .ok (.aload_n 2, 1) := by decide +kernel
theorem dX4_removeState_13 : decode cX4_removeState 13 = .ok (.getfield 88, 3) := by decide +kernel
theorem dX4_removeState_16 : decode cX4_removeState 16 = .ok (.iconst 1, 1) := by decide +kernel
theorem dX4_removeState_17 : decode cX4_removeState 17 = .ok (.if_icmp .gt 6, 3) := by decide +kernel
theorem dX4_removeState_20 : decode cX4_removeState 20 = .ok (.bipush (-6), 2) := by decide +kernel
theorem dX4_removeState_22 : decode cX4_removeState 22 = .ok (.ireturn, 1) := by decide +kernel
theorem dX4_removeState_23 : decode cX4_removeState 23 = .ok (.aload_n 2, 1) := by decide +kernel
theorem dX4_removeState_24 : decode cX4_removeState 24 = .ok (.dup, 1) := by decide +kernel
theorem dX4_removeState_25 : decode cX4_removeState 25 = .ok (.getfield 88, 3) := by decide +kernel
theorem dX4_removeState_28 : decode cX4_removeState 28 = .ok (.iconst 1, 1) := by decide +kernel
theorem dX4_removeState_29 : decode cX4_removeState 29 = .ok (.isub, 1) := by decide +kernel
theorem dX4_removeState_30 : decode cX4_removeState 30 = .ok (.putfield 88, 3) := by decide +kernel
theorem dX4_removeState_33 : decode cX4_removeState 33 = .ok (.aload_n 0, 1) := by decide +kernel
theorem dX4_removeState_34 : decode cX4_removeState 34 = .ok (.iload_n 1, 1) := by decide +kernel
theorem dX4_removeState_35 : decode cX4_removeState 35 = .ok (.invokevirtual 58, 3) := by decide +kernel
theorem dX4_removeState_38 : decode cX4_removeState 38 = .ok (.aload_n 2, 1) := by decide +kernel
theorem dX4_removeState_39 : decode cX4_removeState 39 = .ok (.getfield 88, 3) := by decide +kernel
theorem dX4_removeState_42 : decode cX4_removeState 42 = .ok (.ireturn, 1) := by decide +kernel
theorem dX4_stateCount_0 : decode cX4_stateCount 0 = .ok (.aload_n 0, 1) := by decide +kernel
theorem dX4_stateCount_1 : decode cX4_stateCount 1 = .ok (.iload_n 1, 1) := by decide +kernel
theorem dX4_stateCount_2 : decode cX4_stateCount 2 = .ok (.invokevirtual 78, 3) := by decide +kernel
theorem dX4_stateCount_5 : decode cX4_stateCount 5 = .ok (.astore_n 2, 1) := by decide +kernel
theorem dX4_stateCount_6 : decode cX4_stateCount 6 = .ok (.aload_n 2, 1) := by decide +kernel
theorem dX4_stateCount_7 : decode cX4_stateCount 7 = .ok (.ifnonnull 7, 3) := by decide +kernel
theorem dX4_stateCount_10 : decode cX4_stateCount 10 = .ok (.iconst (-1), 1) := by decide +kernel
theorem dX4_stateCount_11 : decode cX4_stateCount 11 = .ok (.goto 7, 3) := by decide +kernel
theorem dX4_stateCount_14 : decode cX4_stateCount 14 = .ok (.aload_n 2, 1) := by decide +kernel
theorem dX4_stateCount_15 : decode cX4_stateCount 15 = .ok (.getfield 88, 3) := by decide +kernel
theorem dX4_stateCount_18 : decode cX4_stateCount 18 = .ok (.ireturn, 1) := by decide +kernel
theorem dX4_areTwins_0 : decode cX4_areTwins 0 = .ok (.aload_n 0, 1) := by decide +kernel
theorem dX4_areTwins_1 : decode cX4_areTwins 1 = .ok (.iload_n 1, 1) := by decide +kernel
theorem dX4_areTwins_2 : decode cX4_areTwins 2 = .ok (.invokevirtual 78, 3) := by decide +kernel
theorem dX4_areTwins_5 : decode cX4_areTwins 5 = .ok (.astore_n 3, 1) := by decide +kernel
theorem dX4_areTwins_6 : decode cX4_areTwins 6 = .ok (.aload_n 0, 1) := by decide +kernel
theorem dX4_areTwins_7 : decode cX4_areTwins 7 = .ok (.iload_n 2, 1) := by decide +kernel
theorem dX4_areTwins_8 : decode cX4_areTwins 8 = .ok (.invokevirtual 78, 3) := by decide +kernel
theorem dX4_areTwins_11 : decode cX4_areTwins 11 = .ok (.astore 4, 2) := by decide +kernel
theorem dX4_areTwins_13 : decode cX4_areTwins 13 = .ok (.aload_n 3, 1) := by decide +kernel
theorem dX4_areTwins_14 : decode cX4_areTwins 14 = .ok (.ifnull 8, 3) := by decide +kernel
theorem dX4_areTwins_17 : decode cX4_areTwins 17 = .ok (.aload 4, 2) := by decide +kernel
theorem dX4_areTwins_19 : decode cX4_areTwins 19 = .ok (.ifnonnull 5, 3) := by decide +kernel
theorem dX4_areTwins_22 : decode cX4_areTwins 22 = .ok (.iconst (-1), 1) := by decide +kernel
theorem dX4_areTwins_23 : decode cX4_areTwins 23 = .ok (.ireturn, 1) := by decide +kernel
theorem dX4_areTwins_24 : decode cX4_areTwins 24 = .ok (.iload_n 1, 1) := by decide +kernel
theorem dX4_areTwins_25 : decode cX4_areTwins 25 = .ok (.iload_n 2, 1) := by decide +kernel
theorem dX4_areTwins_26 : decode cX4_areTwins 26 = .ok (.if_icmp .ne 6, 3) := by decide +kernel
theorem dX4_areTwins_29 : decode cX4_areTwins 29 = .ok (.bipush (-3), 2) := by decide +kernel
theorem dX4_areTwins_31 : decode cX4_areTwins 31 = .ok (.ireturn, 1) := by decide +kernel
theorem dX4_areTwins_32 : decode cX4_areTwins 32 = .ok (.aload_n 0, 1) := by decide +kernel
theorem dX4_areTwins_33 : decode cX4_areTwins 33 = .ok (.aload_n 3, 1) := by decide +kernel
theorem dX4_areTwins_34 : decode cX4_areTwins 34 = .ok (.aload 4, 2) := by decide +kernel
theorem dX4_areTwins_36 : decode cX4_areTwins 36 = .ok (.invokevirtual 91, 3) := by decide +kernel
theorem dX4_areTwins_39 : decode cX4_areTwins 39 = .ok (.ifCond .eq 7, 3) := by decide +kernel
theorem dX4_areTwins_42 : decode cX4_areTwins 42 = .ok (.iconst 1, 1) := by decide +kernel
theorem dX4_areTwins_43 : decode cX4_areTwins 43 = .ok (.goto 4, 3) := by decide +kernel
theorem dX4_areTwins_46 : decode cX4_areTwins 46 = .ok (.iconst 0, 1) := by decide +kernel
theorem dX4_areTwins_47 : decode cX4_areTwins 47 = .ok (.ireturn, 1) := by decide +kernel
theorem dX4_twinDifference_0 : decode cX4_twinDifference 0 = .ok (.aload_n 0, 1) := by decide +kernel
theorem dX4_twinDifference_1 : decode cX4_twinDifference 1 = .ok (.iload_n 1, 1) := by decide +kernel
theorem dX4_twinDifference_2 : decode cX4_twinDifference 2 = .ok (.invokevirtual 78, 3) := by decide +kernel
theorem dX4_twinDifference_5 : decode cX4_twinDifference 5 = .ok (.astore_n 3, 1) := by decide +kernel
theorem dX4_twinDifference_6 : decode cX4_twinDifference 6 = .ok (.aload_n 0, 1) := by decide +kernel
theorem dX4_twinDifference_7 : decode cX4_twinDifference 7 = .ok (.iload_n 2, 1) := by decide +kernel
theorem dX4_twinDifference_8 : decode cX4_twinDifference 8 = .ok (.invokevirtual 78, 3) := by decide +kernel
theorem dX4_twinDifference_11 : decode cX4_twinDifference 11 = .ok (.astore 4, 2) := by decide +kernel
theorem dX4_twinDifference_13 : decode cX4_twinDifference 13 = .ok (.aload_n 3, 1) := by decide +kernel
theorem dX4_twinDifference_14 : decode cX4_twinDifference 14 = .ok (.ifnull 8, 3) := by decide +kernel
theorem dX4_twinDifference_17 : decode cX4_twinDifference 17 = .ok (.aload 4, 2) := by decide +kernel
theorem dX4_twinDifference_19 : decode cX4_twinDifference 19 = .ok (.ifnonnull 5, 3) := by decide +kernel
theorem dX4_twinDifference_22 : decode cX4_twinDifference 22 = .ok (.iconst (-1), 1) := by decide +kernel
theorem dX4_twinDifference_23 : decode cX4_twinDifference 23 = .ok (.ireturn, 1) := by decide +kernel
theorem dX4_twinDifference_24 : decode cX4_twinDifference 24 = .ok (.iload_n 1, 1) := by decide +kernel
theorem dX4_twinDifference_25 : decode cX4_twinDifference 25 = .ok (.iload_n 2, 1) := by decide +kernel
theorem dX4_twinDifference_26 : decode cX4_twinDifference 26 = .ok (.if_icmp .ne 6, 3) := by decide +kernel
theorem dX4_twinDifference_29 : decode cX4_twinDifference 29 = .ok (.bipush (-3), 2) := by decide +kernel
theorem dX4_twinDifference_31 : decode cX4_twinDifference 31 = .ok (.ireturn, 1) := by decide +kernel
theorem dX4_twinDifference_32 : decode cX4_twinDifference 32 = .ok (.aload_n 0, 1) := by decide +kernel
theorem dX4_twinDifference_33 : decode cX4_twinDifference 33 = .ok (.aload_n 3, 1) := by decide +kernel
theorem dX4_twinDifference_34 : decode cX4_twinDifference 34 = .ok (.aload 4, 2) := by decide +kernel
theorem dX4_twinDifference_36 : decode cX4_twinDifference 36 = .ok (.invokevirtual 91, 3) := by decide +kernel
theorem dX4_twinDifference_39 : decode cX4_twinDifference 39 = .ok (.ifCond .ne 6, 3) := by decide +kernel
theorem dX4_twinDifference_42 : decode cX4_twinDifference 42 = .ok (.bipush (-6), 2) := by decide +kernel
theorem dX4_twinDifference_44 : decode cX4_twinDifference 44 = .ok (.ireturn, 1) := by decide +kernel
theorem dX4_twinDifference_45 : decode cX4_twinDifference 45 = .ok (.aload_n 3, 1) := by decide +kernel
theorem dX4_twinDifference_46 : decode cX4_twinDifference 46 = .ok (.getfield 95, 3) := by decide +kernel
theorem dX4_twinDifference_49 : decode cX4_twinDifference 49 = .ok (.iconst 0, 1) := by decide +kernel
theorem dX4_twinDifference_50 : decode cX4_twinDifference 50 = .ok (.iaload, 1) := by decide +kernel
theorem dX4_twinDifference_51 : decode cX4_twinDifference 51 = .ok (.aload 4, 2) := by decide +kernel
theorem dX4_twinDifference_53 : decode cX4_twinDifference 53 = .ok (.getfield 95, 3) := by decide +kernel
theorem dX4_twinDifference_56 : decode cX4_twinDifference 56 = .ok (.iconst 0, 1) := by decide +kernel
theorem dX4_twinDifference_57 : decode cX4_twinDifference 57 = .ok (.iaload, 1) := by decide +kernel
theorem dX4_twinDifference_58 : decode cX4_twinDifference 58 = .ok (.isub, 1) := by decide +kernel
theorem dX4_twinDifference_59 : decode cX4_twinDifference 59 = .ok (.invokestatic 98, 3) := by decide +kernel
theorem dX4_twinDifference_62 : decode cX4_twinDifference 62 = .ok (.istore 5, 2) := by decide +kernel
theorem dX4_twinDifference_64 : decode cX4_twinDifference 64 = .ok (.aload_n 3, 1) := by decide +kernel
theorem dX4_twinDifference_65 : decode cX4_twinDifference 65 = .ok (.getfield 104, 3) := by decide +kernel
theorem dX4_twinDifference_68 : decode cX4_twinDifference 68 = .ok (.iconst 0, 1) := by decide +kernel
theorem dX4_twinDifference_69 : decode cX4_twinDifference 69 = .ok (.iaload, 1) := by decide +kernel
theorem dX4_twinDifference_70 : decode cX4_twinDifference 70 = .ok (.aload 4, 2) := by decide +kernel
theorem dX4_twinDifference_72 : decode cX4_twinDifference 72 = .ok (.getfield 104, 3) := by decide +kernel
theorem dX4_twinDifference_75 : decode cX4_twinDifference 75 = .ok (.iconst 0, 1) := by decide +kernel
theorem dX4_twinDifference_76 : decode cX4_twinDifference 76 = .ok (.iaload, 1) := by decide +kernel
theorem dX4_twinDifference_77 : decode cX4_twinDifference 77 = .ok (.isub, 1) := by decide +kernel
theorem dX4_twinDifference_78 : decode cX4_twinDifference 78 = .ok (.invokestatic 98, 3) := by decide +kernel
theorem dX4_twinDifference_81 : decode cX4_twinDifference 81 = .ok (.istore 6, 2) := by decide +kernel
theorem dX4_twinDifference_83 : decode cX4_twinDifference 83 = .ok (.aload_n 3, 1) := by decide +kernel
theorem dX4_twinDifference_84 : decode cX4_twinDifference 84 = .ok (.aload 4, 2) := by decide +kernel
theorem dX4_twinDifference_86 : decode cX4_twinDifference 86 = .ok (.invokestatic 107, 3) := by decide +kernel
theorem dX4_twinDifference_89 : decode cX4_twinDifference 89 = .ok (.iload 5, 2) := by decide +kernel
theorem dX4_twinDifference_91 : decode cX4_twinDifference 91 = .ok (.iload 6, 2) := by decide +kernel
theorem dX4_twinDifference_93 : decode cX4_twinDifference 93 = .ok (.invokestatic 111, 3) := by decide +kernel
theorem dX4_twinDifference_96 : decode cX4_twinDifference 96 = .ok (.invokestatic 111, 3) := by decide +kernel
theorem dX4_twinDifference_99 : decode cX4_twinDifference 99 = .ok (.ireturn, 1) := by decide +kernel
theorem dX4_addSheet_0 : decode cX4_addSheet 0 = .ok (.aload_n 0, 1) := by decide +kernel
theorem dX4_addSheet_1 : decode cX4_addSheet 1 = .ok (.getfield 13, 3) := by decide +kernel
theorem dX4_addSheet_4 : decode cX4_addSheet 4 = .ok (.iconst 2, 1) := by decide +kernel
theorem dX4_addSheet_5 : decode cX4_addSheet 5 = .ok (.if_icmp .ge 6, 3) := by decide +kernel
theorem dX4_addSheet_8 : decode cX4_addSheet 8 = .ok (.bipush (-4), 2) := by decide +kernel
theorem dX4_addSheet_10 : decode cX4_addSheet 10 = .ok (.ireturn, 1) := by decide +kernel
theorem dX4_addSheet_11 : decode cX4_addSheet 11 = .ok (.iload_n 1, 1) := by decide +kernel
theorem dX4_addSheet_12 : decode cX4_addSheet 12 = .ok (.iconst (-1), 1) := by decide +kernel
theorem dX4_addSheet_13 : decode cX4_addSheet 13 = .ok (.if_icmp .eq 16, 3) := by decide +kernel
theorem dX4_addSheet_16 : decode cX4_addSheet 16 = .ok (.aload_n 0, 1) := by decide +kernel
theorem dX4_addSheet_17 : decode cX4_addSheet 17 = .ok (.iload_n 1, 1) := by decide +kernel
theorem dX4_addSheet_18 : decode cX4_addSheet 18 = .ok (.iload_n 2, 1) := by decide +kernel
theorem dX4_addSheet_19 : decode cX4_addSheet 19 = .ok (.iload_n 3, 1) := by decide +kernel
theorem dX4_addSheet_20 : decode cX4_addSheet 20 = .ok (.invokevirtual 62, 3) := by decide +kernel
theorem dX4_addSheet_23 : decode cX4_addSheet 23 = .ok (.ifCond .ne 6, 3) := by decide +kernel
theorem dX4_addSheet_26 : decode cX4_addSheet 26 = .ok (.bipush (-3), 2) := by decide +kernel
theorem dX4_addSheet_28 : decode cX4_addSheet 28 = .ok (.ireturn, 1) := by decide +kernel
theorem dX4_addSheet_29 : decode cX4_addSheet 29 = .ok (.aload_n 0, 1) := by decide +kernel
theorem dX4_addSheet_30 : decode cX4_addSheet 30 = .ok (.getfield 38, 3) := by decide +kernel
theorem dX4_addSheet_33 : decode cX4_addSheet 33 = .ok (.bipush 30, 2) := by decide +kernel
theorem dX4_addSheet_35 : decode cX4_addSheet 35 = .ok (.if_icmp .lt 6, 3) := by decide +kernel
theorem dX4_addSheet_38 : decode cX4_addSheet 38 = .ok (.bipush (-5), 2) := by decide +kernel
theorem dX4_addSheet_40 : decode cX4_addSheet 40 = .ok (.ireturn, 1) := by decide +kernel
theorem dX4_addSheet_41 : decode cX4_addSheet 41 = .ok (.aload_n 0, 1) := by decide +kernel
theorem dX4_addSheet_42 : decode cX4_addSheet 42 = .ok (.getfield 34, 3) := by decide +kernel
theorem dX4_addSheet_45 : decode cX4_addSheet 45 = .ok (.aload_n 0, 1) := by decide +kernel
theorem dX4_addSheet_46 : decode cX4_addSheet 46 = .ok (.getfield 38, 3) := by decide +kernel
theorem dX4_addSheet_49 : decode cX4_addSheet 49 = .ok (.new 32, 3) := by decide +kernel
theorem dX4_addSheet_52 : decode cX4_addSheet 52 = .ok (.dup, 1) := by decide +kernel
theorem dX4_addSheet_53 : decode cX4_addSheet 53 = .ok (.aload_n 0, 1) := by decide +kernel
theorem dX4_addSheet_54 : decode cX4_addSheet 54 = .ok (.getfield 9, 3) := by decide +kernel
theorem dX4_addSheet_57 : decode cX4_addSheet 57 = .ok (.aload_n 0, 1) := by decide +kernel
theorem dX4_addSheet_58 : decode cX4_addSheet 58 = .ok (.getfield 13, 3) := by decide +kernel
theorem dX4_addSheet_61 : decode cX4_addSheet 61 = .ok (.invokestatic 65, 3) := by decide +kernel
theorem dX4_addSheet_64 : decode cX4_addSheet 64 = .ok (.iload_n 1, 1) := by decide +kernel
theorem dX4_addSheet_65 : decode cX4_addSheet 65 = .ok (.iload_n 2, 1) := by decide +kernel
theorem dX4_addSheet_66 : decode cX4_addSheet 66 = .ok (.iload_n 3, 1) := by decide +kernel
theorem dX4_addSheet_67 : decode cX4_addSheet 67 = .ok (.invokespecial 115, 3) := by decide +kernel
theorem dX4_addSheet_70 : decode cX4_addSheet 70 = .ok (.aastore, 1) := by decide +kernel
theorem dX4_addSheet_71 : decode cX4_addSheet 71 = .ok (.aload_n 0, 1) := by decide +kernel
theorem dX4_addSheet_72 : decode cX4_addSheet 72 = .ok (.dup, 1) := by decide +kernel
theorem dX4_addSheet_73 : decode cX4_addSheet 73 = .ok (.getfield 38, 3) := by decide +kernel
theorem dX4_addSheet_76 : decode cX4_addSheet 76 = .ok (.iconst 1, 1) := by decide +kernel
theorem dX4_addSheet_77 : decode cX4_addSheet 77 = .ok (.iadd, 1) := by decide +kernel
theorem dX4_addSheet_78 : decode cX4_addSheet 78 = .ok (.putfield 38, 3) := by decide +kernel
theorem dX4_addSheet_81 : decode cX4_addSheet 81 = .ok (.aload_n 0, 1) := by decide +kernel
theorem dX4_addSheet_82 : decode cX4_addSheet 82 = .ok (.getfield 38, 3) := by decide +kernel
theorem dX4_addSheet_85 : decode cX4_addSheet 85 = .ok (.iconst 1, 1) := by decide +kernel
theorem dX4_addSheet_86 : decode cX4_addSheet 86 = .ok (.isub, 1) := by decide +kernel
theorem dX4_addSheet_87 : decode cX4_addSheet 87 = .ok (.ireturn, 1) := by decide +kernel
theorem dX4_setDates_0 : decode cX4_setDates 0 = .ok (.aload_n 0, 1) := by decide +kernel
theorem dX4_setDates_1 : decode cX4_setDates 1 = .ok (.iload_n 1, 1) := by decide +kernel
theorem dX4_setDates_2 : decode cX4_setDates 2 = .ok (.invokevirtual 118, 3) := by decide +kernel
theorem dX4_setDates_5 : decode cX4_setDates 5 = .ok (.astore 4, 2) := by decide +kernel
theorem dX4_setDates_7 : decode cX4_setDates 7 = .ok (.aload 4, 2) := by decide +kernel
theorem dX4_setDates_9 : decode cX4_setDates 9 = .ok (.ifnonnull 6, 3) := by decide +kernel
theorem dX4_setDates_12 : decode cX4_setDates 12 = .ok (.bipush (-2), 2) := by decide +kernel
theorem dX4_setDates_14 : decode cX4_setDates 14 = .ok (.ireturn, 1) := by decide +kernel
theorem dX4_setDates_15 : decode cX4_setDates 15 = .ok (.iload_n 2, 1) := by decide +kernel
theorem dX4_setDates_16 : decode cX4_setDates 16 = .ok (.iconst 0, 1) := by decide +kernel
theorem dX4_setDates_17 : decode cX4_setDates 17 = .ok (.sipush 9999, 3) := by decide +kernel
theorem dX4_setDates_20 : decode cX4_setDates 20 = .ok (.invokestatic 54, 3) := by decide +kernel
theorem dX4_setDates_23 : decode cX4_setDates 23 = .ok (.ifCond .eq 14, 3) := by decide +kernel
theorem dX4_setDates_26 : decode cX4_setDates 26 = .ok (.iload_n 3, 1) := by decide +kernel
theorem dX4_setDates_27 : decode cX4_setDates 27 = .ok (.iload_n 2, 1) := by decide +kernel
theorem dX4_setDates_28 : decode cX4_setDates 28 = .ok (.sipush 9999, 3) := by decide +kernel
theorem dX4_setDates_31 : decode cX4_setDates 31 = .ok (.invokestatic 54, 3) := by decide +kernel
theorem dX4_setDates_34 : decode cX4_setDates 34 = .ok (.ifCond .ne 6, 3) := by decide +kernel
theorem dX4_setDates_37 : decode cX4_setDates 37 = .ok (.bipush (-3), 2) := by decide +kernel
theorem dX4_setDates_39 : decode cX4_setDates 39 = .ok (.ireturn, 1) := by decide +kernel
theorem dX4_setDates_40 : decode cX4_setDates 40 = .ok (.aload 4, 2) := by decide +kernel
theorem dX4_setDates_42 : decode cX4_setDates 42 = .ok (.getfield 122, 3) := by decide +kernel
theorem dX4_setDates_45 : decode cX4_setDates 45 = .ok (.iload_n 2, 1) := by decide +kernel
theorem dX4_setDates_46 : decode cX4_setDates 46 = .ok (.if_icmp .ne 14, 3) := by decide +kernel
theorem dX4_setDates_49 : decode cX4_setDates 49 = .ok (.aload 4, 2) := by decide +kernel
theorem dX4_setDates_51 : decode cX4_setDates 51 = .ok (.getfield 125, 3) := by decide +kernel
theorem dX4_setDates_54 : decode cX4_setDates 54 = .ok (.iload_n 3, 1) := by decide +kernel
theorem dX4_setDates_55 : decode cX4_setDates 55 = .ok (.if_icmp .ne 5, 3) := by decide +kernel
theorem dX4_setDates_58 : decode cX4_setDates 58 = .ok (.iconst 0, 1) := by decide +kernel
theorem dX4_setDates_59 : decode cX4_setDates 59 = .ok (.ireturn, 1) := by decide +kernel
theorem dX4_setDates_60 : decode cX4_setDates 60 = .ok (.aload 4, 2) := by decide +kernel
theorem dX4_setDates_62 : decode cX4_setDates 62 = .ok (.iload_n 2, 1) := by decide +kernel
theorem dX4_setDates_63 : decode cX4_setDates 63 = .ok (.putfield 122, 3) := by decide +kernel
theorem dX4_setDates_66 : decode cX4_setDates 66 = .ok (.aload 4, 2) := by decide +kernel
theorem dX4_setDates_68 : decode cX4_setDates 68 = .ok (.iload_n 3, 1) := by decide +kernel
theorem dX4_setDates_69 : decode cX4_setDates 69 = .ok (.putfield 125, 3) := by decide +kernel
theorem dX4_setDates_72 : decode cX4_setDates 72 = .ok (.iconst 1, 1) := by decide +kernel
theorem dX4_setDates_73 : decode cX4_setDates 73 = .ok (.ireturn, 1) := by decide +kernel
theorem dX4_count_0 : decode cX4_count 0 = .ok (.iload_n 1, 1) := by decide +kernel
theorem dX4_count_1 : decode cX4_count 1 = .ok (.tableswitch 42 0 2 #[27, 32, 37], 27) := by decide +kernel
theorem dX4_count_28 : decode cX4_count 28 = .ok (.aload_n 0, 1) := by decide +kernel
theorem dX4_count_29 : decode cX4_count 29 = .ok (.getfield 29, 3) := by decide +kernel
theorem dX4_count_32 : decode cX4_count 32 = .ok (.ireturn, 1) := by decide +kernel
theorem dX4_count_33 : decode cX4_count 33 = .ok (.aload_n 0, 1) := by decide +kernel
theorem dX4_count_34 : decode cX4_count 34 = .ok (.getfield 38, 3) := by decide +kernel
theorem dX4_count_37 : decode cX4_count 37 = .ok (.ireturn, 1) := by decide +kernel
theorem dX4_count_38 : decode cX4_count 38 = .ok (.aload_n 0, 1) := by decide +kernel
theorem dX4_count_39 : decode cX4_count 39 = .ok (.getfield 13, 3) := by decide +kernel
theorem dX4_count_42 : decode cX4_count 42 = .ok (.ireturn, 1) := by decide +kernel
theorem dX4_count_43 : decode cX4_count 43 = .ok (.bipush (-3), 2) := by decide +kernel
theorem dX4_count_45 : decode cX4_count 45 = .ok (.ireturn, 1) := by decide +kernel
theorem dX4_score_0 : decode cX4_score 0 = .ok (.aload_n 0, 1) := by decide +kernel
theorem dX4_score_1 : decode cX4_score 1 = .ok (.iload_n 1, 1) := by decide +kernel
theorem dX4_score_2 : decode cX4_score 2 = .ok (.invokevirtual 118, 3) := by decide +kernel
theorem dX4_score_5 : decode cX4_score 5 = .ok (.astore_n 3, 1) := by decide +kernel
theorem dX4_score_6 : decode cX4_score 6 = .ok (.aload_n 3, 1) := by decide +kernel
theorem dX4_score_7 : decode cX4_score 7 = .ok (.ifnonnull 6, 3) := by decide +kernel
theorem dX4_score_10 : decode cX4_score 10 = .ok (.bipush (-2), 2) := by decide +kernel
theorem dX4_score_12 : decode cX4_score 12 = .ok (.ireturn, 1) := by decide +kernel
theorem dX4_score_13 : decode cX4_score 13 = .ok (.aload_n 0, 1) := by decide +kernel
theorem dX4_score_14 : decode cX4_score 14 = .ok (.iload_n 2, 1) := by decide +kernel
theorem dX4_score_15 : decode cX4_score 15 = .ok (.invokevirtual 78, 3) := by decide +kernel
theorem dX4_score_18 : decode cX4_score 18 = .ok (.ifnonnull 5, 3) := by decide +kernel
theorem dX4_score_21 : decode cX4_score 21 = .ok (.iconst (-1), 1) := by decide +kernel
theorem dX4_score_22 : decode cX4_score 22 = .ok (.ireturn, 1) := by decide +kernel
theorem dX4_score_23 : decode cX4_score 23 = .ok (.aload_n 0, 1) := by decide +kernel
theorem dX4_score_24 : decode cX4_score 24 = .ok (.aload_n 3, 1) := by decide +kernel
theorem dX4_score_25 : decode cX4_score 25 = .ok (.iload_n 2, 1) := by decide +kernel
theorem dX4_score_26 : decode cX4_score 26 = .ok (.invokevirtual 128, 3) := by decide +kernel
theorem dX4_score_29 : decode cX4_score 29 = .ok (.astore 4, 2) := by decide +kernel
theorem dX4_score_31 : decode cX4_score 31 = .ok (.aload 4, 2) := by decide +kernel
theorem dX4_score_33 : decode cX4_score 33 = .ok (.getfield 132, 3) := by decide +kernel
theorem dX4_score_36 : decode cX4_score 36 = .ok (.ifCond .eq 11, 3) := by decide +kernel
theorem dX4_score_39 : decode cX4_score 39 = .ok (.aload 4, 2) := by decide +kernel
theorem dX4_score_41 : decode cX4_score 41 = .ok (.getfield 138, 3) := by decide +kernel
theorem dX4_score_44 : decode cX4_score 44 = .ok (.goto 5, 3) := by decide +kernel
theorem dX4_score_47 : decode cX4_score 47 = .ok (.bipush (-6), 2) := by decide +kernel
theorem dX4_score_49 : decode cX4_score 49 = .ok (.ireturn, 1) := by decide +kernel
theorem dX4_placement_0 : decode cX4_placement 0 = .ok (.aload_n 0, 1) := by decide +kernel
theorem dX4_placement_1 : decode cX4_placement 1 = .ok (.iload_n 1, 1) := by decide +kernel
theorem dX4_placement_2 : decode cX4_placement 2 = .ok (.invokevirtual 118, 3) := by decide +kernel
theorem dX4_placement_5 : decode cX4_placement 5 = .ok (.astore 4, 2) := by decide +kernel
theorem dX4_placement_7 : decode cX4_placement 7 = .ok (.aload 4, 2) := by decide +kernel
theorem dX4_placement_9 : decode cX4_placement 9 = .ok (.ifnonnull 6, 3) := by decide +kernel
theorem dX4_placement_12 : decode cX4_placement 12 = .ok (.bipush (-2), 2) := by decide +kernel
theorem dX4_placement_14 : decode cX4_placement 14 = .ok (.ireturn, 1) := by decide +kernel
theorem dX4_placement_15 : decode cX4_placement 15 = .ok (.aload_n 0, 1) := by decide +kernel
theorem dX4_placement_16 : decode cX4_placement 16 = .ok (.iload_n 2, 1) := by decide +kernel
theorem dX4_placement_17 : decode cX4_placement 17 = .ok (.invokevirtual 78, 3) := by decide +kernel
theorem dX4_placement_20 : decode cX4_placement 20 = .ok (.ifnonnull 5, 3) := by decide +kernel
theorem dX4_placement_23 : decode cX4_placement 23 = .ok (.iconst (-1), 1) := by decide +kernel
theorem dX4_placement_24 : decode cX4_placement 24 = .ok (.ireturn, 1) := by decide +kernel
theorem dX4_placement_25 : decode cX4_placement 25 = .ok (.iload_n 3, 1) := by decide +kernel
theorem dX4_placement_26 : decode cX4_placement 26 = .ok (.iconst 0, 1) := by decide +kernel
theorem dX4_placement_27 : decode cX4_placement 27 = .ok (.iconst 3, 1) := by decide +kernel
theorem dX4_placement_28 : decode cX4_placement 28 = .ok (.invokestatic 54, 3) := by decide +kernel
theorem dX4_placement_31 : decode cX4_placement 31 = .ok (.ifCond .ne 6, 3) := by decide +kernel
theorem dX4_placement_34 : decode cX4_placement 34 = .ok (.bipush (-3), 2) := by decide +kernel
theorem dX4_placement_36 : decode cX4_placement 36 = .ok (.ireturn, 1) := by decide +kernel
theorem dX4_placement_37 : decode cX4_placement 37 = .ok (.aload_n 0, 1) := by decide +kernel
theorem dX4_placement_38 : decode cX4_placement 38 = .ok (.aload 4, 2) := by decide +kernel
theorem dX4_placement_40 : decode cX4_placement 40 = .ok (.iload_n 2, 1) := by decide +kernel
theorem dX4_placement_41 : decode cX4_placement 41 = .ok (.invokevirtual 128, 3) := by decide +kernel
theorem dX4_placement_44 : decode cX4_placement 44 = .ok (.astore 5, 2) := by decide +kernel
theorem dX4_placement_46 : decode cX4_placement 46 = .ok (.aload 5, 2) := by decide +kernel
theorem dX4_placement_48 : decode cX4_placement 48 = .ok (.getfield 132, 3) := by decide +kernel
theorem dX4_placement_51 : decode cX4_placement 51 = .ok (.ifCond .ne 6, 3) := by decide +kernel
theorem dX4_placement_54 : decode cX4_placement 54 = .ok (.bipush (-6), 2) := by decide +kernel
theorem dX4_placement_56 : decode cX4_placement 56 = .ok (.ireturn, 1) := by decide +kernel
theorem dX4_placement_57 : decode cX4_placement 57 = .ok (.iload_n 3, 1) := by decide +kernel
theorem dX4_placement_58 : decode cX4_placement 58 = .ok (.tableswitch 44 0 2 #[26, 32, 38], 26) := by decide +kernel
theorem dX4_placement_84 : decode cX4_placement 84 = .ok (.aload 5, 2) := by decide +kernel
theorem dX4_placement_86 : decode cX4_placement 86 = .ok (.getfield 141, 3) := by decide +kernel
theorem dX4_placement_89 : decode cX4_placement 89 = .ok (.ireturn, 1) := by decide +kernel
theorem dX4_placement_90 : decode cX4_placement 90 = .ok (.aload 5, 2) := by decide +kernel
theorem dX4_placement_92 : decode cX4_placement 92 = .ok (.getfield 144, 3) := by decide +kernel
theorem dX4_placement_95 : decode cX4_placement 95 = .ok (.ireturn, 1) := by decide +kernel
theorem dX4_placement_96 : decode cX4_placement 96 = .ok (.aload 5, 2) := by decide +kernel
theorem dX4_placement_98 : decode cX4_placement 98 = .ok (.getfield 147, 3) := by decide +kernel
theorem dX4_placement_101 : decode cX4_placement 101 = .ok (.ireturn, 1) := by decide +kernel
theorem dX4_placement_102 : decode cX4_placement 102 = .ok (.aload 5, 2) := by decide +kernel
theorem dX4_placement_104 : decode cX4_placement 104 = .ok (.getfield 150, 3) := by decide +kernel
theorem dX4_placement_107 : decode cX4_placement 107 = .ok (.iconst (-1), 1) := by decide +kernel
theorem dX4_placement_108 : decode cX4_placement 108 = .ok (.if_icmp .ne 8, 3) := by decide +kernel
theorem dX4_placement_111 : decode cX4_placement 111 = .ok (.bipush (-6), 2) := by decide +kernel
theorem dX4_placement_113 : decode cX4_placement 113 = .ok (.goto 8, 3) := by decide +kernel
theorem dX4_placement_116 : decode cX4_placement 116 = .ok (.aload 5, 2) := by decide +kernel
theorem dX4_placement_118 : decode cX4_placement 118 = .ok (.getfield 150, 3) := by decide +kernel
theorem dX4_placement_121 : decode cX4_placement 121 = .ok (.ireturn, 1) := by decide +kernel
theorem dX4_assignedMould_0 : decode cX4_assignedMould 0 = .ok (.aload_n 0, 1) := by decide +kernel
theorem dX4_assignedMould_1 : decode cX4_assignedMould 1 = .ok (.iload_n 1, 1) := by decide +kernel
theorem dX4_assignedMould_2 : decode cX4_assignedMould 2 = .ok (.invokevirtual 118, 3) := by decide +kernel
theorem dX4_assignedMould_5 : decode cX4_assignedMould 5 = .ok (.astore_n 2, 1) := by decide +kernel
theorem dX4_assignedMould_6 : decode cX4_assignedMould 6 = .ok (.aload_n 2, 1) := by decide +kernel
theorem dX4_assignedMould_7 : decode cX4_assignedMould 7 = .ok (.ifnonnull 8, 3) := by decide +kernel
theorem dX4_assignedMould_10 : decode cX4_assignedMould 10 = .ok (.bipush (-2), 2) := by decide +kernel
theorem dX4_assignedMould_12 : decode cX4_assignedMould 12 = .ok (.goto 8, 3) := by decide +kernel
theorem dX4_assignedMould_15 : decode cX4_assignedMould 15 = .ok (.aload_n 0, 1) := by decide +kernel
theorem dX4_assignedMould_16 : decode cX4_assignedMould 16 = .ok (.aload_n 2, 1) := by decide +kernel
theorem dX4_assignedMould_17 : decode cX4_assignedMould 17 = .ok (.invokevirtual 153, 3) := by decide +kernel
theorem dX4_assignedMould_20 : decode cX4_assignedMould 20 = .ok (.ireturn, 1) := by decide +kernel
theorem dX4_rivalCount_0 : decode cX4_rivalCount 0 = .ok (.aload_n 0, 1) := by decide +kernel
theorem dX4_rivalCount_1 : decode cX4_rivalCount 1 = .ok (.iload_n 1, 1) := by decide +kernel
theorem dX4_rivalCount_2 : decode cX4_rivalCount 2 = .ok (.invokevirtual 118, 3) := by decide +kernel
theorem dX4_rivalCount_5 : decode cX4_rivalCount 5 = .ok (.astore_n 3, 1) := by decide +kernel
theorem dX4_rivalCount_6 : decode cX4_rivalCount 6 = .ok (.aload_n 3, 1) := by decide +kernel
theorem dX4_rivalCount_7 : decode cX4_rivalCount 7 = .ok (.ifnonnull 6, 3) := by decide +kernel
theorem dX4_rivalCount_10 : decode cX4_rivalCount 10 = .ok (.bipush (-2), 2) := by decide +kernel
theorem dX4_rivalCount_12 : decode cX4_rivalCount 12 = .ok (.ireturn, 1) := by decide +kernel
theorem dX4_rivalCount_13 : decode cX4_rivalCount 13 = .ok (.iload_n 2, 1) := by decide +kernel
theorem dX4_rivalCount_14 : decode cX4_rivalCount 14 = .ok (.iconst 0, 1) := by decide +kernel
theorem dX4_rivalCount_15 : decode cX4_rivalCount 15 = .ok (.sipush 1000, 3) := by decide +kernel
theorem dX4_rivalCount_18 : decode cX4_rivalCount 18 = .ok (.invokestatic 54, 3) := by decide +kernel
theorem dX4_rivalCount_21 : decode cX4_rivalCount 21 = .ok (.ifCond .ne 6, 3) := by decide +kernel
theorem dX4_rivalCount_24 : decode cX4_rivalCount 24 = .ok (.bipush (-3), 2) := by decide +kernel
theorem dX4_rivalCount_26 : decode cX4_rivalCount 26 = .ok (.ireturn, 1) := by decide +kernel
theorem dX4_rivalCount_27 : decode cX4_rivalCount 27 = .ok (.aload_n 0, 1) := by decide +kernel
theorem dX4_rivalCount_28 : decode cX4_rivalCount 28 = .ok (.aload_n 3, 1) := by decide +kernel
theorem dX4_rivalCount_29 : decode cX4_rivalCount 29 = .ok (.invokevirtual 153, 3) := by decide +kernel
theorem dX4_rivalCount_32 : decode cX4_rivalCount 32 = .ok (.istore 4, 2) := by decide +kernel
theorem dX4_rivalCount_34 : decode cX4_rivalCount 34 = .ok (.iload 4, 2) := by decide +kernel
theorem dX4_rivalCount_36 : decode cX4_rivalCount 36 = .ok (.bipush (-6), 2) := by decide +kernel
theorem dX4_rivalCount_38 : decode cX4_rivalCount 38 = .ok (.if_icmp .ne 6, 3) := by decide +kernel
theorem dX4_rivalCount_41 : decode cX4_rivalCount 41 = .ok (.bipush (-6), 2) := by decide +kernel
theorem dX4_rivalCount_43 : decode cX4_rivalCount 43 = .ok (.ireturn, 1) := by decide +kernel
theorem dX4_rivalCount_44 : decode cX4_rivalCount 44 = .ok (.aload_n 0, 1) := by decide +kernel
theorem dX4_rivalCount_45 : decode cX4_rivalCount 45 = .ok (.aload_n 3, 1) := by decide +kernel
theorem dX4_rivalCount_46 : decode cX4_rivalCount 46 = .ok (.iload 4, 2) := by decide +kernel
theorem dX4_rivalCount_48 : decode cX4_rivalCount 48 = .ok (.invokevirtual 128, 3) := by decide +kernel
theorem dX4_rivalCount_51 : decode cX4_rivalCount 51 = .ok (.getfield 138, 3) := by decide +kernel
theorem dX4_rivalCount_54 : decode cX4_rivalCount 54 = .ok (.iload_n 2, 1) := by decide +kernel
theorem dX4_rivalCount_55 : decode cX4_rivalCount 55 = .ok (.iadd, 1) := by decide +kernel
theorem dX4_rivalCount_56 : decode cX4_rivalCount 56 = .ok (.istore 5, 2) := by decide +kernel
theorem dX4_rivalCount_58 : decode cX4_rivalCount 58 = .ok (.iconst 0, 1) := by decide +kernel
theorem dX4_rivalCount_59 : decode cX4_rivalCount 59 = .ok (.istore 6, 2) := by decide +kernel
theorem dX4_rivalCount_61 : decode cX4_rivalCount 61 = .ok (.iconst 0, 1) := by decide +kernel
theorem dX4_rivalCount_62 : decode cX4_rivalCount 62 = .ok (.istore 7, 2) := by decide +kernel
theorem dX4_rivalCount_64 : decode cX4_rivalCount 64 = .ok (.iload 7, 2) := by decide +kernel
theorem dX4_rivalCount_66 : decode cX4_rivalCount 66 = .ok (.aload_n 0, 1) := by decide +kernel
theorem dX4_rivalCount_67 : decode cX4_rivalCount 67 = .ok (.getfield 29, 3) := by decide +kernel
theorem dX4_rivalCount_70 : decode cX4_rivalCount 70 = .ok (.if_icmp .ge 46, 3) := by decide +kernel
theorem dX4_rivalCount_73 : decode cX4_rivalCount 73 = .ok (.aload_n 0, 1) := by decide +kernel
theorem dX4_rivalCount_74 : decode cX4_rivalCount 74 = .ok (.aload_n 3, 1) := by decide +kernel
theorem dX4_rivalCount_75 : decode cX4_rivalCount 75 = .ok (.iload 7, 2) := by decide +kernel
theorem dX4_rivalCount_77 : decode cX4_rivalCount 77 = .ok (.invokevirtual 128, 3) := by decide +kernel
theorem dX4_rivalCount_80 : decode cX4_rivalCount 80 = .ok (.astore 8, 2) := by decide +kernel
theorem dX4_rivalCount_82 : decode cX4_rivalCount 82 = .ok (.iload 7, 2) := by decide +kernel
theorem dX4_rivalCount_84 : decode cX4_rivalCount 84 = .ok (.iload 4, 2) := by decide +kernel
theorem dX4_rivalCount_86 : decode cX4_rivalCount 86 = .ok (.if_icmp .eq 24, 3) := by decide +kernel
theorem dX4_rivalCount_89 : decode cX4_rivalCount 89 = .ok (.aload 8, 2) := by decide +kernel
theorem dX4_rivalCount_91 : decode cX4_rivalCount 91 = .ok (.getfield 132, 3) := by decide +kernel
theorem dX4_rivalCount_94 : decode cX4_rivalCount 94 = .ok (.ifCond .eq 16, 3) := by decide +kernel
theorem dX4_rivalCount_97 : decode cX4_rivalCount 97 = .ok (.aload 8, 2) := by decide +kernel
theorem dX4_rivalCount_99 : decode cX4_rivalCount 99 = .ok (.getfield 138, 3) := by decide +kernel
theorem dX4_rivalCount_102 : decode cX4_rivalCount 102 = .ok (.iload 5, 2) := by decide +kernel
theorem dX4_rivalCount_104 : decode cX4_rivalCount 104 = .ok (.if_icmp .gt 6, 3) := by decide +kernel
theorem dX4_rivalCount_107 : decode cX4_rivalCount 107 = .ok (.iinc 6 1, 3) := by decide +kernel
theorem dX4_rivalCount_110 : decode cX4_rivalCount 110 = .ok (.iinc 7 1, 3) := by decide +kernel
theorem dX4_rivalCount_113 : decode cX4_rivalCount 113 = .ok (.goto (-49), 3) := by decide +kernel
theorem dX4_rivalCount_116 : decode cX4_rivalCount 116 = .ok (.iload 6, 2) := by decide +kernel
theorem dX4_rivalCount_118 : decode cX4_rivalCount 118 = .ok (.ireturn, 1) := by decide +kernel
theorem dX4_sheetsOf_0 : decode cX4_sheetsOf 0 = .ok (.aload_n 0, 1) := by decide +kernel
theorem dX4_sheetsOf_1 : decode cX4_sheetsOf 1 = .ok (.iload_n 1, 1) := by decide +kernel
theorem dX4_sheetsOf_2 : decode cX4_sheetsOf 2 = .ok (.invokevirtual 78, 3) := by decide +kernel
theorem dX4_sheetsOf_5 : decode cX4_sheetsOf 5 = .ok (.ifnonnull 5, 3) := by decide +kernel
theorem dX4_sheetsOf_8 : decode cX4_sheetsOf 8 = .ok (.iconst (-1), 1) := by decide +kernel
theorem dX4_sheetsOf_9 : decode cX4_sheetsOf 9 = .ok (.ireturn, 1) := by decide +kernel
theorem dX4_sheetsOf_10 : decode cX4_sheetsOf 10 = .ok (.iconst 0, 1) := by decide +kernel
theorem dX4_sheetsOf_11 : decode cX4_sheetsOf 11 = .ok (.istore_n 2, 1) := by decide +kernel
theorem dX4_sheetsOf_12 : decode cX4_sheetsOf 12 = .ok (.iconst 0, 1) := by decide +kernel
theorem dX4_sheetsOf_13 : decode cX4_sheetsOf 13 = .ok (.istore_n 3, 1) := by decide +kernel
theorem dX4_sheetsOf_14 : decode cX4_sheetsOf 14 = .ok (.iload_n 3, 1) := by decide +kernel
theorem dX4_sheetsOf_15 : decode cX4_sheetsOf 15 = .ok (.aload_n 0, 1) := by decide +kernel
theorem dX4_sheetsOf_16 : decode cX4_sheetsOf 16 = .ok (.getfield 38, 3) := by decide +kernel
theorem dX4_sheetsOf_19 : decode cX4_sheetsOf 19 = .ok (.if_icmp .ge 29, 3) := by decide +kernel
theorem dX4_sheetsOf_22 : decode cX4_sheetsOf 22 = .ok (.aload_n 0, 1) := by decide +kernel
theorem dX4_sheetsOf_23 : decode cX4_sheetsOf 23 = .ok (.aload_n 0, 1) := by decide +kernel
theorem dX4_sheetsOf_24 : decode cX4_sheetsOf 24 = .ok (.getfield 34, 3) := by decide +kernel
theorem dX4_sheetsOf_27 : decode cX4_sheetsOf 27 = .ok (.iload_n 3, 1) := by decide +kernel
theorem dX4_sheetsOf_28 : decode cX4_sheetsOf 28 = .ok (.aaload, 1) := by decide +kernel
theorem dX4_sheetsOf_29 : decode cX4_sheetsOf 29 = .ok (.invokevirtual 153, 3) := by decide +kernel
theorem dX4_sheetsOf_32 : decode cX4_sheetsOf 32 = .ok (.iload_n 1, 1) := by decide +kernel
theorem dX4_sheetsOf_33 : decode cX4_sheetsOf 33 = .ok (.if_icmp .ne 9, 3) := by decide +kernel
theorem dX4_sheetsOf_36 : decode cX4_sheetsOf 36 = .ok (.iload_n 2, 1) := by decide +kernel
theorem dX4_sheetsOf_37 : decode cX4_sheetsOf 37 = .ok (.iconst 1, 1) := by decide +kernel
theorem dX4_sheetsOf_38 : decode cX4_sheetsOf 38 = .ok (.iload_n 3, 1) := by decide +kernel
theorem dX4_sheetsOf_39 : decode cX4_sheetsOf 39 = .ok (.ishl, 1) := by decide +kernel
theorem dX4_sheetsOf_40 : decode cX4_sheetsOf 40 = .ok (.ior, 1) := by decide +kernel
theorem dX4_sheetsOf_41 : decode cX4_sheetsOf 41 = .ok (.istore_n 2, 1) := by decide +kernel
theorem dX4_sheetsOf_42 : decode cX4_sheetsOf 42 = .ok (.iinc 3 1, 3) := by decide +kernel
theorem dX4_sheetsOf_45 : decode cX4_sheetsOf 45 = .ok (.goto (-31), 3) := by decide +kernel
theorem dX4_sheetsOf_48 : decode cX4_sheetsOf 48 = .ok (.iload_n 2, 1) := by decide +kernel
theorem dX4_sheetsOf_49 : decode cX4_sheetsOf 49 = .ok (.ireturn, 1) := by decide +kernel
theorem dX4_sheetAt_0 : decode cX4_sheetAt 0 = .ok (.aload_n 0, 1) := by decide +kernel
theorem dX4_sheetAt_1 : decode cX4_sheetAt 1 = .ok (.iload_n 1, 1) := by decide +kernel
theorem dX4_sheetAt_2 : decode cX4_sheetAt 2 = .ok (.invokevirtual 78, 3) := by decide +kernel
theorem dX4_sheetAt_5 : decode cX4_sheetAt 5 = .ok (.ifnonnull 5, 3) := by decide +kernel
theorem dX4_sheetAt_8 : decode cX4_sheetAt 8 = .ok (.iconst (-1), 1) := by decide +kernel
theorem dX4_sheetAt_9 : decode cX4_sheetAt 9 = .ok (.ireturn, 1) := by decide +kernel
theorem dX4_sheetAt_10 : decode cX4_sheetAt 10 = .ok (.iload_n 2, 1) := by decide +kernel
theorem dX4_sheetAt_11 : decode cX4_sheetAt 11 = .ok (.ifCond .ge 6, 3) := by decide +kernel
theorem dX4_sheetAt_14 : decode cX4_sheetAt 14 = .ok (.bipush (-3), 2) := by decide +kernel
theorem dX4_sheetAt_16 : decode cX4_sheetAt 16 = .ok (.ireturn, 1) := by decide +kernel
theorem dX4_sheetAt_17 : decode cX4_sheetAt 17 = .ok (.aload_n 0, 1) := by decide +kernel
theorem dX4_sheetAt_18 : decode cX4_sheetAt 18 = .ok (.iload_n 1, 1) := by decide +kernel
theorem dX4_sheetAt_19 : decode cX4_sheetAt 19 = .ok (.invokevirtual 157, 3) := by decide +kernel
theorem dX4_sheetAt_22 : decode cX4_sheetAt 22 = .ok (.iconst 0, 1) := by decide +kernel
theorem dX4_sheetAt_23 : decode cX4_sheetAt 23 = .ok (.istore_n 3, 1) := by decide +kernel
theorem dX4_sheetAt_24 : decode cX4_sheetAt 24 = .ok (.iload_n 3, 1) := by decide +kernel
theorem dX4_sheetAt_25 : decode cX4_sheetAt 25 = .ok (.aload_n 0, 1) := by decide +kernel
theorem dX4_sheetAt_26 : decode cX4_sheetAt 26 = .ok (.getfield 38, 3) := by decide +kernel
theorem dX4_sheetAt_29 : decode cX4_sheetAt 29 = .ok (.if_icmp .ge 20, 3) := by decide +kernel
theorem dX4_sheetAt_32 : decode cX4_sheetAt 32 = .ok (.aload_n 0, 1) := by decide +kernel
theorem dX4_sheetAt_33 : decode cX4_sheetAt 33 = .ok (.getfield 51, 3) := by decide +kernel
theorem dX4_sheetAt_36 : decode cX4_sheetAt 36 = .ok (.iload_n 3, 1) := by decide +kernel
theorem dX4_sheetAt_37 : decode cX4_sheetAt 37 = .ok (.aload_n 0, 1) := by decide +kernel
theorem dX4_sheetAt_38 : decode cX4_sheetAt 38 = .ok (.iload_n 3, 1) := by decide +kernel
theorem dX4_sheetAt_39 : decode cX4_sheetAt 39 = .ok (.invokevirtual 160, 3) := by decide +kernel
theorem dX4_sheetAt_42 : decode cX4_sheetAt 42 = .ok (.iastore, 1) := by decide +kernel
theorem dX4_sheetAt_43 : decode cX4_sheetAt 43 = .ok (.iinc 3 1, 3) := by decide +kernel
theorem dX4_sheetAt_46 : decode cX4_sheetAt 46 = .ok (.goto (-22), 3) := by decide +kernel
theorem dX4_sheetAt_49 : decode cX4_sheetAt 49 = .ok (.iconst 0, 1) := by decide +kernel
theorem dX4_sheetAt_50 : decode cX4_sheetAt 50 = .ok (.istore_n 3, 1) := by decide +kernel
theorem dX4_sheetAt_51 : decode cX4_sheetAt 51 = .ok (.iload_n 3, 1) := by decide +kernel
theorem dX4_sheetAt_52 : decode cX4_sheetAt 52 = .ok (.aload_n 0, 1) := by decide +kernel
theorem dX4_sheetAt_53 : decode cX4_sheetAt 53 = .ok (.getfield 38, 3) := by decide +kernel
theorem dX4_sheetAt_56 : decode cX4_sheetAt 56 = .ok (.if_icmp .ge 30, 3) := by decide +kernel
theorem dX4_sheetAt_59 : decode cX4_sheetAt 59 = .ok (.aload_n 0, 1) := by decide +kernel
theorem dX4_sheetAt_60 : decode cX4_sheetAt 60 = .ok (.getfield 48, 3) := by decide +kernel
theorem dX4_sheetAt_63 : decode cX4_sheetAt 63 = .ok (.iload_n 3, 1) := by decide +kernel
theorem dX4_sheetAt_64 : decode cX4_sheetAt 64 = .ok (.iaload, 1) := by decide +kernel
theorem dX4_sheetAt_65 : decode cX4_sheetAt 65 = .ok (.iconst (-1), 1) := by decide +kernel
theorem dX4_sheetAt_66 : decode cX4_sheetAt 66 = .ok (.if_icmp .eq 14, 3) := by decide +kernel
theorem dX4_sheetAt_69 : decode cX4_sheetAt 69 = .ok (.aload_n 0, 1) := by decide +kernel
theorem dX4_sheetAt_70 : decode cX4_sheetAt 70 = .ok (.iload_n 3, 1) := by decide +kernel
theorem dX4_sheetAt_71 : decode cX4_sheetAt 71 = .ok (.invokevirtual 163, 3) := by decide +kernel
theorem dX4_sheetAt_74 : decode cX4_sheetAt 74 = .ok (.iload_n 2, 1) := by decide +kernel
theorem dX4_sheetAt_75 : decode cX4_sheetAt 75 = .ok (.if_icmp .ne 5, 3) := by decide +kernel
theorem dX4_sheetAt_78 : decode cX4_sheetAt 78 = .ok (.iload_n 3, 1) := by decide +kernel
theorem dX4_sheetAt_79 : decode cX4_sheetAt 79 = .ok (.ireturn, 1) := by decide +kernel
theorem dX4_sheetAt_80 : decode cX4_sheetAt 80 = .ok (.iinc 3 1, 3) := by decide +kernel
theorem dX4_sheetAt_83 : decode cX4_sheetAt 83 = .ok (.goto (-32), 3) := by decide +kernel
theorem dX4_sheetAt_86 : decode cX4_sheetAt 86 = .ok (.bipush (-6), 2) := by decide +kernel
theorem dX4_sheetAt_88 : decode cX4_sheetAt 88 = .ok (.ireturn, 1) := by decide +kernel
theorem dX4_earliest_0 : decode cX4_earliest 0 = .ok (.aload_n 0, 1) := by decide +kernel
theorem dX4_earliest_1 : decode cX4_earliest 1 = .ok (.iload_n 1, 1) := by decide +kernel
theorem dX4_earliest_2 : decode cX4_earliest 2 = .ok (.invokevirtual 118, 3) := by decide +kernel
theorem dX4_earliest_5 : decode cX4_earliest 5 = .ok (.astore_n 2, 1) := by decide +kernel
theorem dX4_earliest_6 : decode cX4_earliest 6 = .ok (.aload_n 2, 1) := by decide +kernel
theorem dX4_earliest_7 : decode cX4_earliest 7 = .ok (.ifnonnull 6, 3) := by decide +kernel
theorem dX4_earliest_10 : decode cX4_earliest 10 = .ok (.bipush (-2), 2) := by decide +kernel
theorem dX4_earliest_12 : decode cX4_earliest 12 = .ok (.ireturn, 1) := by decide +kernel
theorem dX4_earliest_13 : decode cX4_earliest 13 = .ok (.aload_n 0, 1) := by decide +kernel
theorem dX4_earliest_14 : decode cX4_earliest 14 = .ok (.aload_n 0, 1) := by decide +kernel
theorem dX4_earliest_15 : decode cX4_earliest 15 = .ok (.aload_n 2, 1) := by decide +kernel
theorem dX4_earliest_16 : decode cX4_earliest 16 = .ok (.invokevirtual 153, 3) := by decide +kernel
theorem dX4_earliest_19 : decode cX4_earliest 19 = .ok (.invokevirtual 157, 3) := by decide +kernel
theorem dX4_earliest_22 : decode cX4_earliest 22 = .ok (.aload_n 0, 1) := by decide +kernel
theorem dX4_earliest_23 : decode cX4_earliest 23 = .ok (.iload_n 1, 1) := by decide +kernel
theorem dX4_earliest_24 : decode cX4_earliest 24 = .ok (.invokevirtual 160, 3) := by decide +kernel
theorem dX4_earliest_27 : decode cX4_earliest 27 = .ok (.ireturn, 1) := by decide +kernel
theorem dX4_latest_0 : decode cX4_latest 0 = .ok (.aload_n 0, 1) := by decide +kernel
theorem dX4_latest_1 : decode cX4_latest 1 = .ok (.iload_n 1, 1) := by decide +kernel
theorem dX4_latest_2 : decode cX4_latest 2 = .ok (.invokevirtual 118, 3) := by decide +kernel
theorem dX4_latest_5 : decode cX4_latest 5 = .ok (.astore_n 2, 1) := by decide +kernel
theorem dX4_latest_6 : decode cX4_latest 6 = .ok (.aload_n 2, 1) := by decide +kernel
theorem dX4_latest_7 : decode cX4_latest 7 = .ok (.ifnonnull 6, 3) := by decide +kernel
theorem dX4_latest_10 : decode cX4_latest 10 = .ok (.bipush (-2), 2) := by decide +kernel
theorem dX4_latest_12 : decode cX4_latest 12 = .ok (.ireturn, 1) := by decide +kernel
theorem dX4_latest_13 : decode cX4_latest 13 = .ok (.aload_n 0, 1) := by decide +kernel
theorem dX4_latest_14 : decode cX4_latest 14 = .ok (.aload_n 0, 1) := by decide +kernel
theorem dX4_latest_15 : decode cX4_latest 15 = .ok (.aload_n 2, 1) := by decide +kernel
theorem dX4_latest_16 : decode cX4_latest 16 = .ok (.invokevirtual 153, 3) := by decide +kernel
theorem dX4_latest_19 : decode cX4_latest 19 = .ok (.invokevirtual 157, 3) := by decide +kernel
theorem dX4_latest_22 : decode cX4_latest 22 = .ok (.aload_n 0, 1) := by decide +kernel
theorem dX4_latest_23 : decode cX4_latest 23 = .ok (.iload_n 1, 1) := by decide +kernel
theorem dX4_latest_24 : decode cX4_latest 24 = .ok (.invokevirtual 166, 3) := by decide +kernel
theorem dX4_latest_27 : decode cX4_latest 27 = .ok (.ireturn, 1) := by decide +kernel
theorem dX4_contradictionCount_0 : decode cX4_contradictionCount 0 = .ok (.aload_n 0, 1) := by decide +kernel
theorem dX4_contradictionCount_1 : decode cX4_contradictionCount 1 = .ok (.iload_n 1, 1) := by decide +kernel
theorem dX4_contradictionCount_2 : decode cX4_contradictionCount 2 = .ok (.invokevirtual 78, 3) := by decide +kernel
theorem dX4_contradictionCount_5 : decode cX4_contradictionCount 5 = .ok (.ifnonnull 5, 3) := by decide +kernel
theorem dX4_contradictionCount_8 : decode cX4_contradictionCount 8 = .ok (.iconst (-1), 1) := by decide +kernel
theorem dX4_contradictionCount_9 : decode cX4_contradictionCount 9 = .ok (.ireturn, 1) := by decide +kernel
theorem dX4_contradictionCount_10 : decode cX4_contradictionCount 10 = .ok (.aload_n 0, 1) := by decide +kernel
theorem dX4_contradictionCount_11 : decode cX4_contradictionCount 11 = .ok (.iload_n 1, 1) := by decide +kernel
theorem dX4_contradictionCount_12 : decode cX4_contradictionCount 12 = .ok (.invokevirtual 157, 3) := by decide +kernel
theorem dX4_contradictionCount_15 : decode cX4_contradictionCount 15 = .ok (.iconst 0, 1) := by decide +kernel
theorem dX4_contradictionCount_16 : decode cX4_contradictionCount 16 = .ok (.istore_n 2, 1) := by decide +kernel
theorem dX4_contradictionCount_17 : decode cX4_contradictionCount 17 = .ok (.iconst 0, 1) := by decide +kernel
theorem dX4_contradictionCount_18 : decode cX4_contradictionCount 18 = .ok (.istore_n 3, 1) := by decide +kernel
theorem dX4_contradictionCount_19 : decode cX4_contradictionCount 19 = .ok (.iload_n 3, 1) := by decide +kernel
theorem dX4_contradictionCount_20 : decode cX4_contradictionCount 20 = .ok (.aload_n 0, 1) := by decide +kernel
theorem dX4_contradictionCount_21 : decode cX4_contradictionCount 21 = .ok (.getfield 38, 3) := by decide +kernel
theorem dX4_contradictionCount_24 : decode cX4_contradictionCount 24 = .ok (.if_icmp .ge 62, 3) := by decide +kernel
theorem dX4_contradictionCount_27 : decode cX4_contradictionCount 27 = .ok (.iconst 0, 1) := by decide +kernel
theorem dX4_contradictionCount_28 : decode cX4_contradictionCount 28 = .ok (.istore 4, 2) := by decide +kernel
theorem dX4_contradictionCount_30 : decode cX4_contradictionCount 30 = .ok (.iload 4, 2) := by decide +kernel
theorem dX4_contradictionCount_32 : decode cX4_contradictionCount 32 = .ok (.aload_n 0, 1) := by decide +kernel
theorem dX4_contradictionCount_33 : decode cX4_contradictionCount 33 = .ok (.getfield 38, 3) := by decide +kernel
theorem dX4_contradictionCount_36 : decode cX4_contradictionCount 36 = .ok (.if_icmp .ge 44, 3) := by decide +kernel
theorem dX4_contradictionCount_39 : decode cX4_contradictionCount 39 = .ok (.aload_n 0, 1) := by decide +kernel
theorem dX4_contradictionCount_40 : decode cX4_contradictionCount 40 = .ok (.iload_n 3, 1) := by decide +kernel
theorem dX4_contradictionCount_41 : decode cX4_contradictionCount 41 = .ok (.iload 4, 2) := by decide +kernel
theorem dX4_contradictionCount_43 : decode cX4_contradictionCount 43 = .ok (.invokevirtual 169, 3) := by decide +kernel
theorem dX4_contradictionCount_46 : decode cX4_contradictionCount 46 = .ok (.ifCond .eq 28, 3) := by decide +kernel
theorem dX4_contradictionCount_49 : decode cX4_contradictionCount 49 = .ok (.aload_n 0, 1) := by decide +kernel
theorem dX4_contradictionCount_50 : decode cX4_contradictionCount 50 = .ok (.getfield 34, 3) := by decide +kernel
theorem dX4_contradictionCount_53 : decode cX4_contradictionCount 53 = .ok (.iload_n 3, 1) := by decide +kernel
theorem dX4_contradictionCount_54 : decode cX4_contradictionCount 54 = .ok (.aaload, 1) := by decide +kernel
theorem dX4_contradictionCount_55 : decode cX4_contradictionCount 55 = .ok (.getfield 122, 3) := by decide +kernel
theorem dX4_contradictionCount_58 : decode cX4_contradictionCount 58 = .ok (.aload_n 0, 1) := by decide +kernel
theorem dX4_contradictionCount_59 : decode cX4_contradictionCount 59 = .ok (.getfield 34, 3) := by decide +kernel
theorem dX4_contradictionCount_62 : decode cX4_contradictionCount 62 = .ok (.iload 4, 2) := by decide +kernel
theorem dX4_contradictionCount_64 : decode cX4_contradictionCount 64 = .ok (.aaload, 1) := by decide +kernel
theorem dX4_contradictionCount_65 : decode cX4_contradictionCount 65 = .ok (.getfield 125, 3) := by decide +kernel
theorem dX4_contradictionCount_68 : decode cX4_contradictionCount 68 = .ok (.if_icmp .le 6, 3) := by decide +kernel
theorem dX4_contradictionCount_71 : decode cX4_contradictionCount 71 = .ok (.iinc 2 1, 3) := by decide +kernel
theorem dX4_contradictionCount_74 : decode cX4_contradictionCount 74 = .ok (.iinc 4 1, 3) := by decide +kernel
theorem dX4_contradictionCount_77 : decode cX4_contradictionCount 77 = .ok (.goto (-47), 3) := by decide +kernel
theorem dX4_contradictionCount_80 : decode cX4_contradictionCount 80 = .ok (.iinc 3 1, 3) := by decide +kernel
theorem dX4_contradictionCount_83 : decode cX4_contradictionCount 83 = .ok (.goto (-64), 3) := by decide +kernel
theorem dX4_contradictionCount_86 : decode cX4_contradictionCount 86 = .ok (.iload_n 2, 1) := by decide +kernel
theorem dX4_contradictionCount_87 : decode cX4_contradictionCount 87 = .ok (.ireturn, 1) := by decide +kernel
theorem dX4_isWithin_0 : decode cX4_isWithin 0 = .ok (.iload_n 0, 1) := by decide +kernel
theorem dX4_isWithin_1 : decode cX4_isWithin 1 = .ok (.iload_n 1, 1) := by decide +kernel
theorem dX4_isWithin_2 : decode cX4_isWithin 2 = .ok (.if_icmp .lt 12, 3) := by decide +kernel
theorem dX4_isWithin_5 : decode cX4_isWithin 5 = .ok (.iload_n 0, 1) := by decide +kernel
theorem dX4_isWithin_6 : decode cX4_isWithin 6 = .ok (.iload_n 2, 1) := by decide +kernel
theorem dX4_isWithin_7 : decode cX4_isWithin 7 = .ok (.if_icmp .gt 7, 3) := by decide +kernel
theorem dX4_isWithin_10 : decode cX4_isWithin 10 = .ok (.iconst 1, 1) := by decide +kernel
theorem dX4_isWithin_11 : decode cX4_isWithin 11 = .ok (.goto 4, 3) := by decide +kernel
theorem dX4_isWithin_14 : decode cX4_isWithin 14 = .ok (.iconst 0, 1) := by decide +kernel
theorem dX4_isWithin_15 : decode cX4_isWithin 15 = .ok (.ireturn, 1) := by decide +kernel
theorem dX4_isPosition_0 : decode cX4_isPosition 0 = .ok (.iload_n 1, 1) := by decide +kernel
theorem dX4_isPosition_1 : decode cX4_isPosition 1 = .ok (.iconst 0, 1) := by decide +kernel
theorem dX4_isPosition_2 : decode cX4_isPosition 2 = .ok (.iload_n 0, 1) := by decide +kernel
theorem dX4_isPosition_3 : decode cX4_isPosition 3 = .ok (.invokestatic 54, 3) := by decide +kernel
theorem dX4_isPosition_6 : decode cX4_isPosition 6 = .ok (.ifCond .eq 18, 3) := by decide +kernel
theorem dX4_isPosition_9 : decode cX4_isPosition 9 = .ok (.iload_n 2, 1) := by decide +kernel
theorem dX4_isPosition_10 : decode cX4_isPosition 10 = .ok (.iconst 0, 1) := by decide +kernel
theorem dX4_isPosition_11 : decode cX4_isPosition 11 = .ok (.sipush 300, 3) := by decide +kernel
theorem dX4_isPosition_14 : decode cX4_isPosition 14 = .ok (.invokestatic 54, 3) := by decide +kernel
theorem dX4_isPosition_17 : decode cX4_isPosition 17 = .ok (.ifCond .eq 7, 3) := by decide +kernel
theorem dX4_isPosition_20 : decode cX4_isPosition 20 = .ok (.iconst 1, 1) := by decide +kernel
theorem dX4_isPosition_21 : decode cX4_isPosition 21 = .ok (.goto 4, 3) := by decide +kernel
theorem dX4_isPosition_24 : decode cX4_isPosition 24 = .ok (.iconst 0, 1) := by decide +kernel
theorem dX4_isPosition_25 : decode cX4_isPosition 25 = .ok (.ireturn, 1) := by decide +kernel
theorem dX4_isMarkInRow_0 : decode cX4_isMarkInRow 0 = .ok (.iload_n 1, 1) := by decide +kernel
theorem dX4_isMarkInRow_1 : decode cX4_isMarkInRow 1 = .ok (.ifCond .lt 29, 3) := by decide +kernel
theorem dX4_isMarkInRow_4 : decode cX4_isMarkInRow 4 = .ok (.iload_n 1, 1) := by decide +kernel
theorem dX4_isMarkInRow_5 : decode cX4_isMarkInRow 5 = .ok (.aload_n 0, 1) := by decide +kernel
theorem dX4_isMarkInRow_6 : decode cX4_isMarkInRow 6 = .ok (.getfield 13, 3) := by decide +kernel
theorem dX4_isMarkInRow_9 : decode cX4_isMarkInRow 9 = .ok (.if_icmp .ge 21, 3) := by decide +kernel
theorem dX4_isMarkInRow_12 : decode cX4_isMarkInRow 12 = .ok (.aload_n 0, 1) := by decide +kernel
theorem dX4_isMarkInRow_13 : decode cX4_isMarkInRow 13 = .ok (.getfield 9, 3) := by decide +kernel
theorem dX4_isMarkInRow_16 : decode cX4_isMarkInRow 16 = .ok (.iload_n 1, 1) := by decide +kernel
theorem dX4_isMarkInRow_17 : decode cX4_isMarkInRow 17 = .ok (.iaload, 1) := by decide +kernel
theorem dX4_isMarkInRow_18 : decode cX4_isMarkInRow 18 = .ok (.iload_n 2, 1) := by decide +kernel
theorem dX4_isMarkInRow_19 : decode cX4_isMarkInRow 19 = .ok (.iload_n 3, 1) := by decide +kernel
theorem dX4_isMarkInRow_20 : decode cX4_isMarkInRow 20 = .ok (.invokestatic 85, 3) := by decide +kernel
theorem dX4_isMarkInRow_23 : decode cX4_isMarkInRow 23 = .ok (.ifCond .eq 7, 3) := by decide +kernel
theorem dX4_isMarkInRow_26 : decode cX4_isMarkInRow 26 = .ok (.iconst 1, 1) := by decide +kernel
theorem dX4_isMarkInRow_27 : decode cX4_isMarkInRow 27 = .ok (.goto 4, 3) := by decide +kernel
theorem dX4_isMarkInRow_30 : decode cX4_isMarkInRow 30 = .ok (.iconst 0, 1) := by decide +kernel
theorem dX4_isMarkInRow_31 : decode cX4_isMarkInRow 31 = .ok (.ireturn, 1) := by decide +kernel
theorem dX4_mouldOrNull_0 : decode cX4_mouldOrNull 0 = .ok (.iload_n 1, 1) := by decide +kernel
theorem dX4_mouldOrNull_1 : decode cX4_mouldOrNull 1 = .ok (.ifCond .lt 20, 3) := by decide +kernel
theorem dX4_mouldOrNull_4 : decode cX4_mouldOrNull 4 = .ok (.iload_n 1, 1) := by decide +kernel
theorem dX4_mouldOrNull_5 : decode cX4_mouldOrNull 5 = .ok (.aload_n 0, 1) := by decide +kernel
theorem dX4_mouldOrNull_6 : decode cX4_mouldOrNull 6 = .ok (.getfield 29, 3) := by decide +kernel
theorem dX4_mouldOrNull_9 : decode cX4_mouldOrNull 9 = .ok (.if_icmp .ge 12, 3) := by decide +kernel
theorem dX4_mouldOrNull_12 : decode cX4_mouldOrNull 12 = .ok (.aload_n 0, 1) := by decide +kernel
theorem dX4_mouldOrNull_13 : decode cX4_mouldOrNull 13 = .ok (.getfield 25, 3) := by decide +kernel
theorem dX4_mouldOrNull_16 : decode cX4_mouldOrNull 16 = .ok (.iload_n 1, 1) := by decide +kernel
theorem dX4_mouldOrNull_17 : decode cX4_mouldOrNull 17 = .ok (.aaload, 1) := by decide +kernel
theorem dX4_mouldOrNull_18 : decode cX4_mouldOrNull 18 = .ok (.goto 4, 3) := by decide +kernel
theorem dX4_mouldOrNull_21 : decode cX4_mouldOrNull 21 = .ok (.aconst_null, 1) := by decide +kernel
theorem dX4_mouldOrNull_22 : decode cX4_mouldOrNull 22 = .ok (.areturn, 1) := by decide +kernel
theorem dX4_sheetOrNull_0 : decode cX4_sheetOrNull 0 = .ok (.iload_n 1, 1) := by decide +kernel
theorem dX4_sheetOrNull_1 : decode cX4_sheetOrNull 1 = .ok (.ifCond .lt 20, 3) := by decide +kernel
theorem dX4_sheetOrNull_4 : decode cX4_sheetOrNull 4 = .ok (.iload_n 1, 1) := by decide +kernel
theorem dX4_sheetOrNull_5 : decode cX4_sheetOrNull 5 = .ok (.aload_n 0, 1) := by decide +kernel
theorem dX4_sheetOrNull_6 : decode cX4_sheetOrNull 6 = .ok (.getfield 38, 3) := by decide +kernel
theorem dX4_sheetOrNull_9 : decode cX4_sheetOrNull 9 = .ok (.if_icmp .ge 12, 3) := by decide +kernel
theorem dX4_sheetOrNull_12 : decode cX4_sheetOrNull 12 = .ok (.aload_n 0, 1) := by decide +kernel
theorem dX4_sheetOrNull_13 : decode cX4_sheetOrNull 13 = .ok (.getfield 34, 3) := by decide +kernel
theorem dX4_sheetOrNull_16 : decode cX4_sheetOrNull 16 = .ok (.iload_n 1, 1) := by decide +kernel
theorem dX4_sheetOrNull_17 : decode cX4_sheetOrNull 17 = .ok (.aaload, 1) := by decide +kernel
theorem dX4_sheetOrNull_18 : decode cX4_sheetOrNull 18 = .ok (.goto 4, 3) := by decide +kernel
theorem dX4_sheetOrNull_21 : decode cX4_sheetOrNull 21 = .ok (.aconst_null, 1) := by decide +kernel
theorem dX4_sheetOrNull_22 : decode cX4_sheetOrNull 22 = .ok (.areturn, 1) := by decide +kernel
theorem dX4_couldBeTwins_0 : decode cX4_couldBeTwins 0 = .ok (.aload_n 1, 1) := by decide +kernel
theorem dX4_couldBeTwins_1 : decode cX4_couldBeTwins 1 = .ok (.getfield 173, 3) := by decide +kernel
theorem dX4_couldBeTwins_4 : decode cX4_couldBeTwins 4 = .ok (.arraylength, 1) := by decide +kernel
theorem dX4_couldBeTwins_5 : decode cX4_couldBeTwins 5 = .ok (.aload_n 2, 1) := by decide +kernel
theorem dX4_couldBeTwins_6 : decode cX4_couldBeTwins 6 = .ok (.getfield 173, 3) := by decide +kernel
theorem dX4_couldBeTwins_9 : decode cX4_couldBeTwins 9 = .ok (.arraylength, 1) := by decide +kernel
theorem dX4_couldBeTwins_10 : decode cX4_couldBeTwins 10 = .ok (.if_icmp .ne 30, 3) := by decide +kernel
theorem dX4_couldBeTwins_13 : decode cX4_couldBeTwins 13 = .ok (.aload_n 1, 1) := by decide +kernel
theorem dX4_couldBeTwins_14 : decode cX4_couldBeTwins 14 = .ok (.getfield 176, 3) := by decide +kernel
theorem dX4_couldBeTwins_17 : decode cX4_couldBeTwins 17 = .ok (.aload_n 2, 1) := by decide +kernel
theorem dX4_couldBeTwins_18 : decode cX4_couldBeTwins 18 = .ok (.getfield 176, 3) := by decide +kernel
theorem dX4_couldBeTwins_21 : decode cX4_couldBeTwins 21 = .ok (.if_icmp .ne 19, 3) := by decide +kernel
theorem dX4_couldBeTwins_24 : decode cX4_couldBeTwins 24 = .ok (.aload_n 1, 1) := by decide +kernel
theorem dX4_couldBeTwins_25 : decode cX4_couldBeTwins 25 = .ok (.aload_n 2, 1) := by decide +kernel
theorem dX4_couldBeTwins_26 : decode cX4_couldBeTwins 26 = .ok (.invokestatic 107, 3) := by decide +kernel
theorem dX4_couldBeTwins_29 : decode cX4_couldBeTwins 29 = .ok (.aload_n 0, 1) := by decide +kernel
theorem dX4_couldBeTwins_30 : decode cX4_couldBeTwins 30 = .ok (.getfield 17, 3) := by decide +kernel
theorem dX4_couldBeTwins_33 : decode cX4_couldBeTwins 33 = .ok (.if_icmp .gt 7, 3) := by decide +kernel
theorem dX4_couldBeTwins_36 : decode cX4_couldBeTwins 36 = .ok (.iconst 1, 1) := by decide +kernel
theorem dX4_couldBeTwins_37 : decode cX4_couldBeTwins 37 = .ok (.goto 4, 3) := by decide +kernel
theorem dX4_couldBeTwins_40 : decode cX4_couldBeTwins 40 = .ok (.iconst 0, 1) := by decide +kernel
theorem dX4_couldBeTwins_41 : decode cX4_couldBeTwins 41 = .ok (.ireturn, 1) := by decide +kernel
theorem dX4_greatestSpacingDifference_0 : decode cX4_greatestSpacingDifference 0 = .ok (.aload_n 0, 1) := by decide +kernel
theorem dX4_greatestSpacingDifference_1 : decode cX4_greatestSpacingDifference 1 = .ok (.getfield 173, 3) := by decide +kernel
theorem dX4_greatestSpacingDifference_4 : decode cX4_greatestSpacingDifference 4 = .ok (.arraylength, 1) := by decide +kernel
theorem dX4_greatestSpacingDifference_5 : decode cX4_greatestSpacingDifference 5 = .ok (.aload_n 1, 1) := by decide +kernel
theorem dX4_greatestSpacingDifference_6 : decode cX4_greatestSpacingDifference 6 = .ok (.getfield 173, 3) := by decide +kernel
theorem dX4_greatestSpacingDifference_9 : decode cX4_greatestSpacingDifference 9 = .ok (.arraylength, 1) := by decide +kernel
theorem dX4_greatestSpacingDifference_10 : decode cX4_greatestSpacingDifference 10 = .ok (.invokestatic 179, 3) := by decide +kernel
theorem dX4_greatestSpacingDifference_13 : decode cX4_greatestSpacingDifference 13 = .ok (.istore_n 2, 1) := by decide +kernel
theorem dX4_greatestSpacingDifference_14 : decode cX4_greatestSpacingDifference 14 = .ok (.iconst 0, 1) := by decide +kernel
theorem dX4_greatestSpacingDifference_15 : decode cX4_greatestSpacingDifference 15 = .ok (.istore_n 3, 1) := by decide +kernel
theorem dX4_greatestSpacingDifference_16 : decode cX4_greatestSpacingDifference 16 = .ok (.iconst 0, 1) := by decide +kernel
theorem dX4_greatestSpacingDifference_17 : decode cX4_greatestSpacingDifference 17 = .ok (.istore 4, 2) := by decide +kernel
theorem dX4_greatestSpacingDifference_19 : decode cX4_greatestSpacingDifference 19 = .ok (.iload 4, 2) := by decide +kernel
theorem dX4_greatestSpacingDifference_21 : decode cX4_greatestSpacingDifference 21 = .ok (.iload_n 2, 1) := by decide +kernel
theorem dX4_greatestSpacingDifference_22 : decode cX4_greatestSpacingDifference 22 = .ok (.if_icmp .ge 32, 3) := by decide +kernel
theorem dX4_greatestSpacingDifference_25 : decode cX4_greatestSpacingDifference 25 = .ok (.iload_n 3, 1) := by decide +kernel
theorem dX4_greatestSpacingDifference_26 : decode cX4_greatestSpacingDifference 26 = .ok (.aload_n 0, 1) := by decide +kernel
theorem dX4_greatestSpacingDifference_27 : decode cX4_greatestSpacingDifference 27 = .ok (.getfield 173, 3) := by decide +kernel
theorem dX4_greatestSpacingDifference_30 : decode cX4_greatestSpacingDifference 30 = .ok (.iload 4, 2) := by decide +kernel
theorem dX4_greatestSpacingDifference_32 : decode cX4_greatestSpacingDifference 32 = .ok (.iaload, 1) := by decide +kernel
theorem dX4_greatestSpacingDifference_33 : decode cX4_greatestSpacingDifference 33 = .ok (.aload_n 1, 1) := by decide +kernel
theorem dX4_greatestSpacingDifference_34 : decode cX4_greatestSpacingDifference 34 = .ok (.getfield 173, 3) := by decide +kernel
theorem dX4_greatestSpacingDifference_37 : decode cX4_greatestSpacingDifference 37 = .ok (.iload 4, 2) := by decide +kernel
theorem dX4_greatestSpacingDifference_39 : decode cX4_greatestSpacingDifference 39 = .ok (.iaload, 1) := by decide +kernel
theorem dX4_greatestSpacingDifference_40 : decode cX4_greatestSpacingDifference 40 = .ok (.isub, 1) := by decide +kernel
theorem dX4_greatestSpacingDifference_41 : decode cX4_greatestSpacingDifference 41 = .ok (.invokestatic 98, 3) := by decide +kernel
theorem dX4_greatestSpacingDifference_44 : decode cX4_greatestSpacingDifference 44 = .ok (.invokestatic 111, 3) := by decide +kernel
theorem dX4_greatestSpacingDifference_47 : decode cX4_greatestSpacingDifference 47 = .ok (.istore_n 3, 1) := by decide +kernel
theorem dX4_greatestSpacingDifference_48 : decode cX4_greatestSpacingDifference 48 = .ok (.iinc 4 1, 3) := by decide +kernel
theorem dX4_greatestSpacingDifference_51 : decode cX4_greatestSpacingDifference 51 = .ok (.goto (-32), 3) := by decide +kernel
theorem dX4_greatestSpacingDifference_54 : decode cX4_greatestSpacingDifference 54 = .ok (.iload_n 3, 1) := by decide +kernel
theorem dX4_greatestSpacingDifference_55 : decode cX4_greatestSpacingDifference 55 = .ok (.ireturn, 1) := by decide +kernel
theorem dX4_mouldFor_0 : decode cX4_mouldFor 0 = .ok (.bipush (-6), 2) := by decide +kernel
theorem dX4_mouldFor_2 : decode cX4_mouldFor 2 = .ok (.istore_n 2, 1) := by decide +kernel
theorem dX4_mouldFor_3 : decode cX4_mouldFor 3 = .ok (.iconst 0, 1) := by decide +kernel
theorem dX4_mouldFor_4 : decode cX4_mouldFor 4 = .ok (.istore_n 3, 1) := by decide +kernel
theorem dX4_mouldFor_5 : decode cX4_mouldFor 5 = .ok (.iconst 0, 1) := by decide +kernel
theorem dX4_mouldFor_6 : decode cX4_mouldFor 6 = .ok (.istore 4, 2) := by decide +kernel
theorem dX4_mouldFor_8 : decode cX4_mouldFor 8 = .ok (.iload 4, 2) := by decide +kernel
theorem dX4_mouldFor_10 : decode cX4_mouldFor 10 = .ok (.aload_n 0, 1) := by decide +kernel
theorem dX4_mouldFor_11 : decode cX4_mouldFor 11 = .ok (.getfield 29, 3) := by decide +kernel
theorem dX4_mouldFor_14 : decode cX4_mouldFor 14 = .ok (.if_icmp .ge 50, 3) := by decide +kernel
theorem dX4_mouldFor_17 : decode cX4_mouldFor 17 = .ok (.aload_n 0, 1) := by decide +kernel
theorem dX4_mouldFor_18 : decode cX4_mouldFor 18 = .ok (.aload_n 1, 1) := by decide +kernel
theorem dX4_mouldFor_19 : decode cX4_mouldFor 19 = .ok (.iload 4, 2) := by decide +kernel
theorem dX4_mouldFor_21 : decode cX4_mouldFor 21 = .ok (.invokevirtual 128, 3) := by decide +kernel
theorem dX4_mouldFor_24 : decode cX4_mouldFor 24 = .ok (.astore 5, 2) := by decide +kernel
theorem dX4_mouldFor_26 : decode cX4_mouldFor 26 = .ok (.aload 5, 2) := by decide +kernel
theorem dX4_mouldFor_28 : decode cX4_mouldFor 28 = .ok (.getfield 132, 3) := by decide +kernel
theorem dX4_mouldFor_31 : decode cX4_mouldFor 31 = .ok (.ifCond .eq 27, 3) := by decide +kernel
theorem dX4_mouldFor_34 : decode cX4_mouldFor 34 = .ok (.iload_n 2, 1) := by decide +kernel
theorem dX4_mouldFor_35 : decode cX4_mouldFor 35 = .ok (.bipush (-6), 2) := by decide +kernel
theorem dX4_mouldFor_37 : decode cX4_mouldFor 37 = .ok (.if_icmp .eq 12, 3) := by decide +kernel
theorem dX4_mouldFor_40 : decode cX4_mouldFor 40 = .ok (.aload 5, 2) := by decide +kernel
theorem dX4_mouldFor_42 : decode cX4_mouldFor 42 = .ok (.getfield 138, 3) := by decide +kernel
theorem dX4_mouldFor_45 : decode cX4_mouldFor 45 = .ok (.iload_n 3, 1) := by decide +kernel
theorem dX4_mouldFor_46 : decode cX4_mouldFor 46 = .ok (.if_icmp .ge 12, 3) := by decide +kernel
theorem dX4_mouldFor_49 : decode cX4_mouldFor 49 = .ok (.iload 4, 2) := by decide +kernel
theorem dX4_mouldFor_51 : decode cX4_mouldFor 51 = .ok (.istore_n 2, 1) := by decide +kernel
theorem dX4_mouldFor_52 : decode cX4_mouldFor 52 = .ok (.aload 5, 2) := by decide +kernel
theorem dX4_mouldFor_54 : decode cX4_mouldFor 54 = .ok (.getfield 138, 3) := by decide +kernel
theorem dX4_mouldFor_57 : decode cX4_mouldFor 57 = .ok (.istore_n 3, 1) := by decide +kernel
theorem dX4_mouldFor_58 : decode cX4_mouldFor 58 = .ok (.iinc 4 1, 3) := by decide +kernel
theorem dX4_mouldFor_61 : decode cX4_mouldFor 61 = .ok (.goto (-53), 3) := by decide +kernel
theorem dX4_mouldFor_64 : decode cX4_mouldFor 64 = .ok (.iload_n 2, 1) := by decide +kernel
theorem dX4_mouldFor_65 : decode cX4_mouldFor 65 = .ok (.ireturn, 1) := by decide +kernel
theorem dX4_matchOf_0 : decode cX4_matchOf 0 = .ok (.aload_n 1, 1) := by decide +kernel
theorem dX4_matchOf_1 : decode cX4_matchOf 1 = .ok (.getfield 182, 3) := by decide +kernel
theorem dX4_matchOf_4 : decode cX4_matchOf 4 = .ok (.iload_n 2, 1) := by decide +kernel
theorem dX4_matchOf_5 : decode cX4_matchOf 5 = .ok (.aaload, 1) := by decide +kernel
theorem dX4_matchOf_6 : decode cX4_matchOf 6 = .ok (.astore_n 3, 1) := by decide +kernel
theorem dX4_matchOf_7 : decode cX4_matchOf 7 = .ok (.aload_n 3, 1) := by decide +kernel
theorem dX4_matchOf_8 : decode cX4_matchOf 8 = .ok (.getfield 186, 3) := by decide +kernel
theorem dX4_matchOf_11 : decode cX4_matchOf 11 = .ok (.ifCond .ne 20, 3) := by decide +kernel
theorem dX4_matchOf_14 : decode cX4_matchOf 14 = .ok (.aload_n 0, 1) := by decide +kernel
theorem dX4_matchOf_15 : decode cX4_matchOf 15 = .ok (.aload_n 1, 1) := by decide +kernel
theorem dX4_matchOf_16 : decode cX4_matchOf 16 = .ok (.aload_n 0, 1) := by decide +kernel
theorem dX4_matchOf_17 : decode cX4_matchOf 17 = .ok (.getfield 25, 3) := by decide +kernel
theorem dX4_matchOf_20 : decode cX4_matchOf 20 = .ok (.iload_n 2, 1) := by decide +kernel
theorem dX4_matchOf_21 : decode cX4_matchOf 21 = .ok (.aaload, 1) := by decide +kernel
theorem dX4_matchOf_22 : decode cX4_matchOf 22 = .ok (.aload_n 3, 1) := by decide +kernel
theorem dX4_matchOf_23 : decode cX4_matchOf 23 = .ok (.invokevirtual 189, 3) := by decide +kernel
theorem dX4_matchOf_26 : decode cX4_matchOf 26 = .ok (.aload_n 3, 1) := by decide +kernel
theorem dX4_matchOf_27 : decode cX4_matchOf 27 = .ok (.iconst 1, 1) := by decide +kernel
theorem dX4_matchOf_28 : decode cX4_matchOf 28 = .ok (.putfield 186, 3) := by decide +kernel
theorem dX4_matchOf_31 : decode cX4_matchOf 31 = .ok (.aload_n 3, 1) := by decide +kernel
theorem dX4_matchOf_32 : decode cX4_matchOf 32 = .ok (.areturn, 1) := by decide +kernel
theorem dX4_forgetMatches_0 : decode cX4_forgetMatches 0 = .ok (.iconst 0, 1) := by decide +kernel
theorem dX4_forgetMatches_1 : decode cX4_forgetMatches 1 = .ok (.istore_n 2, 1) := by decide +kernel
theorem dX4_forgetMatches_2 : decode cX4_forgetMatches 2 = .ok (.iload_n 2, 1) := by decide +kernel
theorem dX4_forgetMatches_3 : decode cX4_forgetMatches 3 = .ok (.aload_n 0, 1) := by decide +kernel
theorem dX4_forgetMatches_4 : decode cX4_forgetMatches 4 = .ok (.getfield 38, 3) := by decide +kernel
theorem dX4_forgetMatches_7 : decode cX4_forgetMatches 7 = .ok (.if_icmp .ge 24, 3) := by decide +kernel
theorem dX4_forgetMatches_10 : decode cX4_forgetMatches 10 = .ok (.aload_n 0, 1) := by decide +kernel
theorem dX4_forgetMatches_11 : decode cX4_forgetMatches 11 = .ok (.getfield 34, 3) := by decide +kernel
theorem dX4_forgetMatches_14 : decode cX4_forgetMatches 14 = .ok (.iload_n 2, 1) := by decide +kernel
theorem dX4_forgetMatches_15 : decode cX4_forgetMatches 15 = .ok (.aaload, 1) := by decide +kernel
theorem dX4_forgetMatches_16 : decode cX4_forgetMatches 16 = .ok (.getfield 182, 3) := by decide +kernel
theorem dX4_forgetMatches_19 : decode cX4_forgetMatches 19 = .ok (.iload_n 1, 1) := by decide +kernel
theorem dX4_forgetMatches_20 : decode cX4_forgetMatches 20 = .ok (.aaload, 1) := by decide +kernel
theorem dX4_forgetMatches_21 : decode cX4_forgetMatches 21 = .ok (.iconst 0, 1) := by decide +kernel
theorem dX4_forgetMatches_22 : decode cX4_forgetMatches 22 = .ok (.putfield 186, 3) := by decide +kernel
theorem dX4_forgetMatches_25 : decode cX4_forgetMatches 25 = .ok (.iinc 2 1, 3) := by decide +kernel
theorem dX4_forgetMatches_28 : decode cX4_forgetMatches 28 = .ok (.goto (-26), 3) := by decide +kernel
theorem dX4_forgetMatches_31 : decode cX4_forgetMatches 31 = .ok (.return_, 1) := by decide +kernel
theorem dX4_findBest_0 : decode cX4_findBest 0 = .ok (.aload_n 3, 1) := by decide +kernel
theorem dX4_findBest_1 : decode cX4_findBest 1 = .ok (.iconst 0, 1) := by decide +kernel
theorem dX4_findBest_2 : decode cX4_findBest 2 = .ok (.putfield 132, 3) := by decide +kernel
theorem dX4_findBest_5 : decode cX4_findBest 5 = .ok (.aload_n 2, 1) := by decide +kernel
theorem dX4_findBest_6 : decode cX4_findBest 6 = .ok (.getfield 173, 3) := by decide +kernel
theorem dX4_findBest_9 : decode cX4_findBest 9 = .ok (.arraylength, 1) := by decide +kernel
theorem dX4_findBest_10 : decode cX4_findBest 10 = .ok (.aload_n 1, 1) := by decide +kernel
theorem dX4_findBest_11 : decode cX4_findBest 11 = .ok (.getfield 193, 3) := by decide +kernel
theorem dX4_findBest_14 : decode cX4_findBest 14 = .ok (.arraylength, 1) := by decide +kernel
theorem dX4_findBest_15 : decode cX4_findBest 15 = .ok (.isub, 1) := by decide +kernel
theorem dX4_findBest_16 : decode cX4_findBest 16 = .ok (.istore 4, 2) := by decide +kernel
theorem dX4_findBest_18 : decode cX4_findBest 18 = .ok (.iconst 0, 1) := by decide +kernel
theorem dX4_findBest_19 : decode cX4_findBest 19 = .ok (.istore 5, 2) := by decide +kernel
theorem dX4_findBest_21 : decode cX4_findBest 21 = .ok (.iload 5, 2) := by decide +kernel
theorem dX4_findBest_23 : decode cX4_findBest 23 = .ok (.iconst 4, 1) := by decide +kernel
theorem dX4_findBest_24 : decode cX4_findBest 24 = .ok (.if_icmp .ge 95, 3) := by decide +kernel
theorem dX4_findBest_27 : decode cX4_findBest 27 = .ok (.aload_n 0, 1) := by decide +kernel
theorem dX4_findBest_28 : decode cX4_findBest 28 = .ok (.getfield 44, 3) := by decide +kernel
theorem dX4_findBest_31 : decode cX4_findBest 31 = .ok (.aload_n 1, 1) := by decide +kernel
theorem dX4_findBest_32 : decode cX4_findBest 32 = .ok (.iload 5, 2) := by decide +kernel
theorem dX4_findBest_34 : decode cX4_findBest 34 = .ok (.invokevirtual 194, 3) := by decide +kernel
theorem dX4_findBest_37 : decode cX4_findBest 37 = .ok (.iconst 0, 1) := by decide +kernel
theorem dX4_findBest_38 : decode cX4_findBest 38 = .ok (.istore 6, 2) := by decide +kernel
theorem dX4_findBest_40 : decode cX4_findBest 40 = .ok (.iload 6, 2) := by decide +kernel
theorem dX4_findBest_42 : decode cX4_findBest 42 = .ok (.iload 4, 2) := by decide +kernel
theorem dX4_findBest_44 : decode cX4_findBest 44 = .ok (.if_icmp .gt 69, 3) := by decide +kernel
theorem dX4_findBest_47 : decode cX4_findBest 47 = .ok (.aload_n 0, 1) := by decide +kernel
theorem dX4_findBest_48 : decode cX4_findBest 48 = .ok (.getfield 44, 3) := by decide +kernel
theorem dX4_findBest_51 : decode cX4_findBest 51 = .ok (.getfield 198, 3) := by decide +kernel
theorem dX4_findBest_54 : decode cX4_findBest 54 = .ok (.iconst (-1), 1) := by decide +kernel
theorem dX4_findBest_55 : decode cX4_findBest 55 = .ok (.if_icmp .eq 23, 3) := by decide +kernel
theorem dX4_findBest_58 : decode cX4_findBest 58 = .ok (.iload 6, 2) := by decide +kernel
theorem dX4_findBest_60 : decode cX4_findBest 60 = .ok (.aload_n 0, 1) := by decide +kernel
theorem dX4_findBest_61 : decode cX4_findBest 61 = .ok (.getfield 44, 3) := by decide +kernel
theorem dX4_findBest_64 : decode cX4_findBest 64 = .ok (.getfield 198, 3) := by decide +kernel
theorem dX4_findBest_67 : decode cX4_findBest 67 = .ok (.iadd, 1) := by decide +kernel
theorem dX4_findBest_68 : decode cX4_findBest 68 = .ok (.aload_n 2, 1) := by decide +kernel
theorem dX4_findBest_69 : decode cX4_findBest 69 = .ok (.getfield 176, 3) := by decide +kernel
theorem dX4_findBest_72 : decode cX4_findBest 72 = .ok (.if_icmp .eq 6, 3) := by decide +kernel
theorem dX4_findBest_75 : decode cX4_findBest 75 = .ok (.goto 32, 3) := by decide +kernel
theorem dX4_findBest_78 : decode cX4_findBest 78 = .ok (.sipush 1000, 3) := by decide +kernel
theorem dX4_findBest_81 : decode cX4_findBest 81 = .ok (.istore 7, 2) := by decide +kernel
theorem dX4_findBest_83 : decode cX4_findBest 83 = .ok (.iload 7, 2) := by decide +kernel
theorem dX4_findBest_85 : decode cX4_findBest 85 = .ok (.sipush 940, 3) := by decide +kernel
theorem dX4_findBest_88 : decode cX4_findBest 88 = .ok (.if_icmp .lt 19, 3) := by decide +kernel
theorem dX4_findBest_91 : decode cX4_findBest 91 = .ok (.aload_n 0, 1) := by decide +kernel
theorem dX4_findBest_92 : decode cX4_findBest 92 = .ok (.aload_n 2, 1) := by decide +kernel
theorem dX4_findBest_93 : decode cX4_findBest 93 = .ok (.iload 6, 2) := by decide +kernel
theorem dX4_findBest_95 : decode cX4_findBest 95 = .ok (.iload 7, 2) := by decide +kernel
theorem dX4_findBest_97 : decode cX4_findBest 97 = .ok (.aload_n 3, 1) := by decide +kernel
theorem dX4_findBest_98 : decode cX4_findBest 98 = .ok (.invokevirtual 199, 3) := by decide +kernel
theorem dX4_findBest_101 : decode cX4_findBest 101 = .ok (.iinc 7 (-5), 3) := by decide +kernel
theorem dX4_findBest_104 : decode cX4_findBest 104 = .ok (.goto (-21), 3) := by decide +kernel
theorem dX4_findBest_107 : decode cX4_findBest 107 = .ok (.iinc 6 1, 3) := by decide +kernel
theorem dX4_findBest_110 : decode cX4_findBest 110 = .ok (.goto (-70), 3) := by decide +kernel
theorem dX4_findBest_113 : decode cX4_findBest 113 = .ok (.iinc 5 1, 3) := by decide +kernel
theorem dX4_findBest_116 : decode cX4_findBest 116 = .ok (.goto (-95), 3) := by decide +kernel
theorem dX4_findBest_119 : decode cX4_findBest 119 = .ok (.return_, 1) := by decide +kernel
theorem dX4_tryPlacement_0 : decode cX4_tryPlacement 0 = .ok (.aload_n 0, 1) := by decide +kernel
theorem dX4_tryPlacement_1 : decode cX4_tryPlacement 1 = .ok (.aload_n 1, 1) := by decide +kernel
theorem dX4_tryPlacement_2 : decode cX4_tryPlacement 2 = .ok (.iload_n 2, 1) := by decide +kernel
theorem dX4_tryPlacement_3 : decode cX4_tryPlacement 3 = .ok (.iload_n 3, 1) := by decide +kernel
theorem dX4_tryPlacement_4 : decode cX4_tryPlacement 4 = .ok (.invokevirtual 203, 3) := by decide +kernel
theorem dX4_tryPlacement_7 : decode cX4_tryPlacement 7 = .ok (.istore 5, 2) := by decide +kernel
theorem dX4_tryPlacement_9 : decode cX4_tryPlacement 9 = .ok (.iload 5, 2) := by decide +kernel
theorem dX4_tryPlacement_11 : decode cX4_tryPlacement 11 = .ok (.iconst (-1), 1) := by decide +kernel
theorem dX4_tryPlacement_12 : decode cX4_tryPlacement 12 = .ok (.if_icmp .ne 4, 3) := by decide +kernel
theorem dX4_tryPlacement_15 : decode cX4_tryPlacement 15 = .ok (.return_, 1) := by decide +kernel
theorem dX4_tryPlacement_16 : decode cX4_tryPlacement 16 = .ok (.iconst (-1), 1) := by decide +kernel
theorem dX4_tryPlacement_17 : decode cX4_tryPlacement 17 = .ok (.istore 6, 2) := by decide +kernel
theorem dX4_tryPlacement_19 : decode cX4_tryPlacement 19 = .ok (.aload_n 0, 1) := by decide +kernel
theorem dX4_tryPlacement_20 : decode cX4_tryPlacement 20 = .ok (.getfield 44, 3) := by decide +kernel
theorem dX4_tryPlacement_23 : decode cX4_tryPlacement 23 = .ok (.getfield 198, 3) := by decide +kernel
theorem dX4_tryPlacement_26 : decode cX4_tryPlacement 26 = .ok (.iconst (-1), 1) := by decide +kernel
theorem dX4_tryPlacement_27 : decode cX4_tryPlacement 27 = .ok (.if_icmp .eq 31, 3) := by decide +kernel
theorem dX4_tryPlacement_30 : decode cX4_tryPlacement 30 = .ok (.aload_n 0, 1) := by decide +kernel
theorem dX4_tryPlacement_31 : decode cX4_tryPlacement 31 = .ok (.aload_n 1, 1) := by decide +kernel
theorem dX4_tryPlacement_32 : decode cX4_tryPlacement 32 = .ok (.iload_n 3, 1) := by decide +kernel
theorem dX4_tryPlacement_33 : decode cX4_tryPlacement 33 = .ok (.invokevirtual 207, 3) := by decide +kernel
theorem dX4_tryPlacement_36 : decode cX4_tryPlacement 36 = .ok (.istore 6, 2) := by decide +kernel
theorem dX4_tryPlacement_38 : decode cX4_tryPlacement 38 = .ok (.iload 6, 2) := by decide +kernel
theorem dX4_tryPlacement_40 : decode cX4_tryPlacement 40 = .ok (.iconst (-1), 1) := by decide +kernel
theorem dX4_tryPlacement_41 : decode cX4_tryPlacement 41 = .ok (.if_icmp .ne 4, 3) := by decide +kernel
theorem dX4_tryPlacement_44 : decode cX4_tryPlacement 44 = .ok (.return_, 1) := by decide +kernel
theorem dX4_tryPlacement_45 : decode cX4_tryPlacement 45 = .ok (.iload 5, 2) := by decide +kernel
theorem dX4_tryPlacement_47 : decode cX4_tryPlacement 47 = .ok (.aload_n 0, 1) := by decide +kernel
theorem dX4_tryPlacement_48 : decode cX4_tryPlacement 48 = .ok (.aload_n 1, 1) := by decide +kernel
theorem dX4_tryPlacement_49 : decode cX4_tryPlacement 49 = .ok (.iload 6, 2) := by decide +kernel
theorem dX4_tryPlacement_51 : decode cX4_tryPlacement 51 = .ok (.iload_n 3, 1) := by decide +kernel
theorem dX4_tryPlacement_52 : decode cX4_tryPlacement 52 = .ok (.invokevirtual 211, 3) := by decide +kernel
theorem dX4_tryPlacement_55 : decode cX4_tryPlacement 55 = .ok (.iadd, 1) := by decide +kernel
theorem dX4_tryPlacement_56 : decode cX4_tryPlacement 56 = .ok (.istore 5, 2) := by decide +kernel
theorem dX4_tryPlacement_58 : decode cX4_tryPlacement 58 = .ok (.aload 4, 2) := by decide +kernel
theorem dX4_tryPlacement_60 : decode cX4_tryPlacement 60 = .ok (.getfield 132, 3) := by decide +kernel
theorem dX4_tryPlacement_63 : decode cX4_tryPlacement 63 = .ok (.ifCond .eq 13, 3) := by decide +kernel
theorem dX4_tryPlacement_66 : decode cX4_tryPlacement 66 = .ok (.iload 5, 2) := by decide +kernel
theorem dX4_tryPlacement_68 : decode cX4_tryPlacement 68 = .ok (.aload 4, 2) := by decide +kernel
theorem dX4_tryPlacement_70 : decode cX4_tryPlacement 70 = .ok (.getfield 138, 3) := by decide +kernel
theorem dX4_tryPlacement_73 : decode cX4_tryPlacement 73 = .ok (.if_icmp .ge 47, 3) := by decide +kernel
theorem dX4_tryPlacement_76 : decode cX4_tryPlacement 76 = .ok (.aload 4, 2) := by decide +kernel
theorem dX4_tryPlacement_78 : decode cX4_tryPlacement 78 = .ok (.iconst 1, 1) := by decide +kernel
theorem dX4_tryPlacement_79 : decode cX4_tryPlacement 79 = .ok (.putfield 132, 3) := by decide +kernel
theorem dX4_tryPlacement_82 : decode cX4_tryPlacement 82 = .ok (.aload 4, 2) := by decide +kernel
theorem dX4_tryPlacement_84 : decode cX4_tryPlacement 84 = .ok (.iload 5, 2) := by decide +kernel
theorem dX4_tryPlacement_86 : decode cX4_tryPlacement 86 = .ok (.putfield 138, 3) := by decide +kernel
theorem dX4_tryPlacement_89 : decode cX4_tryPlacement 89 = .ok (.aload 4, 2) := by decide +kernel
theorem dX4_tryPlacement_91 : decode cX4_tryPlacement 91 = .ok (.aload_n 0, 1) := by decide +kernel
theorem dX4_tryPlacement_92 : decode cX4_tryPlacement 92 = .ok (.getfield 44, 3) := by decide +kernel
theorem dX4_tryPlacement_95 : decode cX4_tryPlacement 95 = .ok (.getfield 214, 3) := by decide +kernel
theorem dX4_tryPlacement_98 : decode cX4_tryPlacement 98 = .ok (.putfield 141, 3) := by decide +kernel
theorem dX4_tryPlacement_101 : decode cX4_tryPlacement 101 = .ok (.aload 4, 2) := by decide +kernel
theorem dX4_tryPlacement_103 : decode cX4_tryPlacement 103 = .ok (.iload_n 2, 1) := by decide +kernel
theorem dX4_tryPlacement_104 : decode cX4_tryPlacement 104 = .ok (.putfield 144, 3) := by decide +kernel
theorem dX4_tryPlacement_107 : decode cX4_tryPlacement 107 = .ok (.aload 4, 2) := by decide +kernel
theorem dX4_tryPlacement_109 : decode cX4_tryPlacement 109 = .ok (.iload_n 3, 1) := by decide +kernel
theorem dX4_tryPlacement_110 : decode cX4_tryPlacement 110 = .ok (.putfield 147, 3) := by decide +kernel
theorem dX4_tryPlacement_113 : decode cX4_tryPlacement 113 = .ok (.aload 4, 2) := by decide +kernel
theorem dX4_tryPlacement_115 : decode cX4_tryPlacement 115 = .ok (.iload 6, 2) := by decide +kernel
theorem dX4_tryPlacement_117 : decode cX4_tryPlacement 117 = .ok (.putfield 150, 3) := by decide +kernel
theorem dX4_tryPlacement_120 : decode cX4_tryPlacement 120 = .ok (.return_, 1) := by decide +kernel
theorem dX4_spacingDeviations_0 : decode cX4_spacingDeviations 0 = .ok (.iconst 0, 1) := by decide +kernel
theorem dX4_spacingDeviations_1 : decode cX4_spacingDeviations 1 = .ok (.istore 4, 2) := by decide +kernel
theorem dX4_spacingDeviations_3 : decode cX4_spacingDeviations 3 = .ok (.iconst 0, 1) := by decide +kernel
theorem dX4_spacingDeviations_4 : decode cX4_spacingDeviations 4 = .ok (.istore 5, 2) := by decide +kernel
theorem dX4_spacingDeviations_6 : decode cX4_spacingDeviations 6 = .ok (.iload 5, 2) := by decide +kernel
theorem dX4_spacingDeviations_8 : decode cX4_spacingDeviations 8 = .ok (.aload_n 0, 1) := by decide +kernel
theorem dX4_spacingDeviations_9 : decode cX4_spacingDeviations 9 = .ok (.getfield 44, 3) := by decide +kernel
theorem dX4_spacingDeviations_12 : decode cX4_spacingDeviations 12 = .ok (.getfield 215, 3) := by decide +kernel
theorem dX4_spacingDeviations_15 : decode cX4_spacingDeviations 15 = .ok (.if_icmp .ge 76, 3) := by decide +kernel
theorem dX4_spacingDeviations_18 : decode cX4_spacingDeviations 18 = .ok (.aload_n 0, 1) := by decide +kernel
theorem dX4_spacingDeviations_19 : decode cX4_spacingDeviations 19 = .ok (.getfield 44, 3) := by decide +kernel
theorem dX4_spacingDeviations_22 : decode cX4_spacingDeviations 22 = .ok (.getfield 218, 3) := by decide +kernel
theorem dX4_spacingDeviations_25 : decode cX4_spacingDeviations 25 = .ok (.iload 5, 2) := by decide +kernel
theorem dX4_spacingDeviations_27 : decode cX4_spacingDeviations 27 = .ok (.iaload, 1) := by decide +kernel
theorem dX4_spacingDeviations_28 : decode cX4_spacingDeviations 28 = .ok (.aload_n 1, 1) := by decide +kernel
theorem dX4_spacingDeviations_29 : decode cX4_spacingDeviations 29 = .ok (.getfield 173, 3) := by decide +kernel
theorem dX4_spacingDeviations_32 : decode cX4_spacingDeviations 32 = .ok (.iload_n 2, 1) := by decide +kernel
theorem dX4_spacingDeviations_33 : decode cX4_spacingDeviations 33 = .ok (.iload 5, 2) := by decide +kernel
theorem dX4_spacingDeviations_35 : decode cX4_spacingDeviations 35 = .ok (.iadd, 1) := by decide +kernel
theorem dX4_spacingDeviations_36 : decode cX4_spacingDeviations 36 = .ok (.iaload, 1) := by decide +kernel
theorem dX4_spacingDeviations_37 : decode cX4_spacingDeviations 37 = .ok (.iload_n 3, 1) := by decide +kernel
theorem dX4_spacingDeviations_38 : decode cX4_spacingDeviations 38 = .ok (.imul, 1) := by decide +kernel
theorem dX4_spacingDeviations_39 : decode cX4_spacingDeviations 39 = .ok (.sipush 1000, 3) := by decide +kernel
theorem dX4_spacingDeviations_42 : decode cX4_spacingDeviations 42 = .ok (.idiv, 1) := by decide +kernel
theorem dX4_spacingDeviations_43 : decode cX4_spacingDeviations 43 = .ok (.isub, 1) := by decide +kernel
theorem dX4_spacingDeviations_44 : decode cX4_spacingDeviations 44 = .ok (.istore 6, 2) := by decide +kernel
theorem dX4_spacingDeviations_46 : decode cX4_spacingDeviations 46 = .ok (.iload 6, 2) := by decide +kernel
theorem dX4_spacingDeviations_48 : decode cX4_spacingDeviations 48 = .ok (.aload_n 0, 1) := by decide +kernel
theorem dX4_spacingDeviations_49 : decode cX4_spacingDeviations 49 = .ok (.getfield 17, 3) := by decide +kernel
theorem dX4_spacingDeviations_52 : decode cX4_spacingDeviations 52 = .ok (.if_icmp .gt 13, 3) := by decide +kernel
theorem dX4_spacingDeviations_55 : decode cX4_spacingDeviations 55 = .ok (.iload 6, 2) := by decide +kernel
theorem dX4_spacingDeviations_57 : decode cX4_spacingDeviations 57 = .ok (.aload_n 0, 1) := by decide +kernel
theorem dX4_spacingDeviations_58 : decode cX4_spacingDeviations 58 = .ok (.getfield 17, 3) := by decide +kernel
theorem dX4_spacingDeviations_61 : decode cX4_spacingDeviations 61 = .ok (.ineg, 1) := by decide +kernel
theorem dX4_spacingDeviations_62 : decode cX4_spacingDeviations 62 = .ok (.if_icmp .ge 5, 3) := by decide +kernel
theorem dX4_spacingDeviations_65 : decode cX4_spacingDeviations 65 = .ok (.iconst (-1), 1) := by decide +kernel
theorem dX4_spacingDeviations_66 : decode cX4_spacingDeviations 66 = .ok (.ireturn, 1) := by decide +kernel
theorem dX4_spacingDeviations_67 : decode cX4_spacingDeviations 67 = .ok (.iload 4, 2) := by decide +kernel
theorem dX4_spacingDeviations_69 : decode cX4_spacingDeviations 69 = .ok (.iload 6, 2) := by decide +kernel
theorem dX4_spacingDeviations_71 : decode cX4_spacingDeviations 71 = .ok (.ifCond .ge 9, 3) := by decide +kernel
theorem dX4_spacingDeviations_74 : decode cX4_spacingDeviations 74 = .ok (.iload 6, 2) := by decide +kernel
theorem dX4_spacingDeviations_76 : decode cX4_spacingDeviations 76 = .ok (.ineg, 1) := by decide +kernel
theorem dX4_spacingDeviations_77 : decode cX4_spacingDeviations 77 = .ok (.goto 5, 3) := by decide +kernel
theorem dX4_spacingDeviations_80 : decode cX4_spacingDeviations 80 = .ok (.iload 6, 2) := by decide +kernel
theorem dX4_spacingDeviations_82 : decode cX4_spacingDeviations 82 = .ok (.iadd, 1) := by decide +kernel
theorem dX4_spacingDeviations_83 : decode cX4_spacingDeviations 83 = .ok (.istore 4, 2) := by decide +kernel
theorem dX4_spacingDeviations_85 : decode cX4_spacingDeviations 85 = .ok (.iinc 5 1, 3) := by decide +kernel
theorem dX4_spacingDeviations_88 : decode cX4_spacingDeviations 88 = .ok (.goto (-82), 3) := by decide +kernel
theorem dX4_spacingDeviations_91 : decode cX4_spacingDeviations 91 = .ok (.iload 4, 2) := by decide +kernel
theorem dX4_spacingDeviations_93 : decode cX4_spacingDeviations 93 = .ok (.ireturn, 1) := by decide +kernel
theorem dX4_fittingState_0 : decode cX4_fittingState 0 = .ok (.iconst (-1), 1) := by decide +kernel
theorem dX4_fittingState_1 : decode cX4_fittingState 1 = .ok (.istore_n 3, 1) := by decide +kernel
theorem dX4_fittingState_2 : decode cX4_fittingState 2 = .ok (.iconst 0, 1) := by decide +kernel
theorem dX4_fittingState_3 : decode cX4_fittingState 3 = .ok (.istore 4, 2) := by decide +kernel
theorem dX4_fittingState_5 : decode cX4_fittingState 5 = .ok (.iconst 0, 1) := by decide +kernel
theorem dX4_fittingState_6 : decode cX4_fittingState 6 = .ok (.istore 5, 2) := by decide +kernel
theorem dX4_fittingState_8 : decode cX4_fittingState 8 = .ok (.iload 5, 2) := by decide +kernel
theorem dX4_fittingState_10 : decode cX4_fittingState 10 = .ok (.aload_n 1, 1) := by decide +kernel
theorem dX4_fittingState_11 : decode cX4_fittingState 11 = .ok (.getfield 88, 3) := by decide +kernel
theorem dX4_fittingState_14 : decode cX4_fittingState 14 = .ok (.if_icmp .ge 44, 3) := by decide +kernel
theorem dX4_fittingState_17 : decode cX4_fittingState 17 = .ok (.aload_n 0, 1) := by decide +kernel
theorem dX4_fittingState_18 : decode cX4_fittingState 18 = .ok (.aload_n 1, 1) := by decide +kernel
theorem dX4_fittingState_19 : decode cX4_fittingState 19 = .ok (.iload 5, 2) := by decide +kernel
theorem dX4_fittingState_21 : decode cX4_fittingState 21 = .ok (.iload_n 2, 1) := by decide +kernel
theorem dX4_fittingState_22 : decode cX4_fittingState 22 = .ok (.invokevirtual 211, 3) := by decide +kernel
theorem dX4_fittingState_25 : decode cX4_fittingState 25 = .ok (.istore 6, 2) := by decide +kernel
theorem dX4_fittingState_27 : decode cX4_fittingState 27 = .ok (.iload 6, 2) := by decide +kernel
theorem dX4_fittingState_29 : decode cX4_fittingState 29 = .ok (.iconst (-1), 1) := by decide +kernel
theorem dX4_fittingState_30 : decode cX4_fittingState 30 = .ok (.if_icmp .eq 22, 3) := by decide +kernel
theorem dX4_fittingState_33 : decode cX4_fittingState 33 = .ok (.iload_n 3, 1) := by decide +kernel
theorem dX4_fittingState_34 : decode cX4_fittingState 34 = .ok (.iconst (-1), 1) := by decide +kernel
theorem dX4_fittingState_35 : decode cX4_fittingState 35 = .ok (.if_icmp .eq 10, 3) := by decide +kernel
theorem dX4_fittingState_38 : decode cX4_fittingState 38 = .ok (.iload 6, 2) := by decide +kernel
theorem dX4_fittingState_40 : decode cX4_fittingState 40 = .ok (.iload 4, 2) := by decide +kernel
theorem dX4_fittingState_42 : decode cX4_fittingState 42 = .ok (.if_icmp .ge 10, 3) := by decide +kernel
theorem dX4_fittingState_45 : decode cX4_fittingState 45 = .ok (.iload 5, 2) := by decide +kernel
theorem dX4_fittingState_47 : decode cX4_fittingState 47 = .ok (.istore_n 3, 1) := by decide +kernel
theorem dX4_fittingState_48 : decode cX4_fittingState 48 = .ok (.iload 6, 2) := by decide +kernel
theorem dX4_fittingState_50 : decode cX4_fittingState 50 = .ok (.istore 4, 2) := by decide +kernel
theorem dX4_fittingState_52 : decode cX4_fittingState 52 = .ok (.iinc 5 1, 3) := by decide +kernel
theorem dX4_fittingState_55 : decode cX4_fittingState 55 = .ok (.goto (-47), 3) := by decide +kernel
theorem dX4_fittingState_58 : decode cX4_fittingState 58 = .ok (.iload_n 3, 1) := by decide +kernel
theorem dX4_fittingState_59 : decode cX4_fittingState 59 = .ok (.ireturn, 1) := by decide +kernel
theorem dX4_markDeviation_0 : decode cX4_markDeviation 0 = .ok (.aload_n 0, 1) := by decide +kernel
theorem dX4_markDeviation_1 : decode cX4_markDeviation 1 = .ok (.getfield 44, 3) := by decide +kernel
theorem dX4_markDeviation_4 : decode cX4_markDeviation 4 = .ok (.getfield 219, 3) := by decide +kernel
theorem dX4_markDeviation_7 : decode cX4_markDeviation 7 = .ok (.aload_n 1, 1) := by decide +kernel
theorem dX4_markDeviation_8 : decode cX4_markDeviation 8 = .ok (.getfield 95, 3) := by decide +kernel
theorem dX4_markDeviation_11 : decode cX4_markDeviation 11 = .ok (.iload_n 2, 1) := by decide +kernel
theorem dX4_markDeviation_12 : decode cX4_markDeviation 12 = .ok (.iaload, 1) := by decide +kernel
theorem dX4_markDeviation_13 : decode cX4_markDeviation 13 = .ok (.iload_n 3, 1) := by decide +kernel
theorem dX4_markDeviation_14 : decode cX4_markDeviation 14 = .ok (.imul, 1) := by decide +kernel
theorem dX4_markDeviation_15 : decode cX4_markDeviation 15 = .ok (.sipush 1000, 3) := by decide +kernel
theorem dX4_markDeviation_18 : decode cX4_markDeviation 18 = .ok (.idiv, 1) := by decide +kernel
theorem dX4_markDeviation_19 : decode cX4_markDeviation 19 = .ok (.isub, 1) := by decide +kernel
theorem dX4_markDeviation_20 : decode cX4_markDeviation 20 = .ok (.istore 4, 2) := by decide +kernel
theorem dX4_markDeviation_22 : decode cX4_markDeviation 22 = .ok (.aload_n 0, 1) := by decide +kernel
theorem dX4_markDeviation_23 : decode cX4_markDeviation 23 = .ok (.getfield 44, 3) := by decide +kernel
theorem dX4_markDeviation_26 : decode cX4_markDeviation 26 = .ok (.getfield 222, 3) := by decide +kernel
theorem dX4_markDeviation_29 : decode cX4_markDeviation 29 = .ok (.aload_n 1, 1) := by decide +kernel
theorem dX4_markDeviation_30 : decode cX4_markDeviation 30 = .ok (.getfield 104, 3) := by decide +kernel
theorem dX4_markDeviation_33 : decode cX4_markDeviation 33 = .ok (.iload_n 2, 1) := by decide +kernel
theorem dX4_markDeviation_34 : decode cX4_markDeviation 34 = .ok (.iaload, 1) := by decide +kernel
theorem dX4_markDeviation_35 : decode cX4_markDeviation 35 = .ok (.iload_n 3, 1) := by decide +kernel
theorem dX4_markDeviation_36 : decode cX4_markDeviation 36 = .ok (.imul, 1) := by decide +kernel
theorem dX4_markDeviation_37 : decode cX4_markDeviation 37 = .ok (.sipush 1000, 3) := by decide +kernel
theorem dX4_markDeviation_40 : decode cX4_markDeviation 40 = .ok (.idiv, 1) := by decide +kernel
theorem dX4_markDeviation_41 : decode cX4_markDeviation 41 = .ok (.isub, 1) := by decide +kernel
theorem dX4_markDeviation_42 : decode cX4_markDeviation 42 = .ok (.istore 5, 2) := by decide +kernel
theorem dX4_markDeviation_44 : decode cX4_markDeviation 44 = .ok (.iload 4, 2) := by decide +kernel
theorem dX4_markDeviation_46 : decode cX4_markDeviation 46 = .ok (.aload_n 0, 1) := by decide +kernel
theorem dX4_markDeviation_47 : decode cX4_markDeviation 47 = .ok (.getfield 20, 3) := by decide +kernel
theorem dX4_markDeviation_50 : decode cX4_markDeviation 50 = .ok (.if_icmp .gt 32, 3) := by decide +kernel
theorem dX4_markDeviation_53 : decode cX4_markDeviation 53 = .ok (.iload 4, 2) := by decide +kernel
theorem dX4_markDeviation_55 : decode cX4_markDeviation 55 = .ok (.aload_n 0, 1) := by decide +kernel
theorem dX4_markDeviation_56 : decode cX4_markDeviation 56 = .ok (.getfield 20, 3) := by decide +kernel
theorem dX4_markDeviation_59 : decode cX4_markDeviation 59 = .ok (.ineg, 1) := by decide +kernel
theorem dX4_markDeviation_60 : decode cX4_markDeviation 60 = .ok (.if_icmp .lt 22, 3) := by decide +kernel
theorem dX4_markDeviation_63 : decode cX4_markDeviation 63 = .ok (.iload 5, 2) := by decide +kernel
theorem dX4_markDeviation_65 : decode cX4_markDeviation 65 = .ok (.aload_n 0, 1) := by decide +kernel
theorem dX4_markDeviation_66 : decode cX4_markDeviation 66 = .ok (.getfield 20, 3) := by decide +kernel
theorem dX4_markDeviation_69 : decode cX4_markDeviation 69 = .ok (.if_icmp .gt 13, 3) := by decide +kernel
theorem dX4_markDeviation_72 : decode cX4_markDeviation 72 = .ok (.iload 5, 2) := by decide +kernel
theorem dX4_markDeviation_74 : decode cX4_markDeviation 74 = .ok (.aload_n 0, 1) := by decide +kernel
theorem dX4_markDeviation_75 : decode cX4_markDeviation 75 = .ok (.getfield 20, 3) := by decide +kernel
theorem dX4_markDeviation_78 : decode cX4_markDeviation 78 = .ok (.ineg, 1) := by decide +kernel
theorem dX4_markDeviation_79 : decode cX4_markDeviation 79 = .ok (.if_icmp .ge 5, 3) := by decide +kernel
theorem dX4_markDeviation_82 : decode cX4_markDeviation 82 = .ok (.iconst (-1), 1) := by decide +kernel
theorem dX4_markDeviation_83 : decode cX4_markDeviation 83 = .ok (.ireturn, 1) := by decide +kernel
theorem dX4_markDeviation_84 : decode cX4_markDeviation 84 = .ok (.iload 4, 2) := by decide +kernel
theorem dX4_markDeviation_86 : decode cX4_markDeviation 86 = .ok (.ifCond .ge 9, 3) := by decide +kernel
theorem dX4_markDeviation_89 : decode cX4_markDeviation 89 = .ok (.iload 4, 2) := by decide +kernel
theorem dX4_markDeviation_91 : decode cX4_markDeviation 91 = .ok (.ineg, 1) := by decide +kernel
theorem dX4_markDeviation_92 : decode cX4_markDeviation 92 = .ok (.goto 5, 3) := by decide +kernel
theorem dX4_markDeviation_95 : decode cX4_markDeviation 95 = .ok (.iload 4, 2) := by decide +kernel
theorem dX4_markDeviation_97 : decode cX4_markDeviation 97 = .ok (.iload 5, 2) := by decide +kernel
theorem dX4_markDeviation_99 : decode cX4_markDeviation 99 = .ok (.ifCond .ge 9, 3) := by decide +kernel
theorem dX4_markDeviation_102 : decode cX4_markDeviation 102 = .ok (.iload 5, 2) := by decide +kernel
theorem dX4_markDeviation_104 : decode cX4_markDeviation 104 = .ok (.ineg, 1) := by decide +kernel
theorem dX4_markDeviation_105 : decode cX4_markDeviation 105 = .ok (.goto 5, 3) := by decide +kernel
theorem dX4_markDeviation_108 : decode cX4_markDeviation 108 = .ok (.iload 5, 2) := by decide +kernel
theorem dX4_markDeviation_110 : decode cX4_markDeviation 110 = .ok (.iadd, 1) := by decide +kernel
theorem dX4_markDeviation_111 : decode cX4_markDeviation 111 = .ok (.ireturn, 1) := by decide +kernel
theorem dX4_gatherStates_0 : decode cX4_gatherStates 0 = .ok (.iconst 0, 1) := by decide +kernel
theorem dX4_gatherStates_1 : decode cX4_gatherStates 1 = .ok (.istore_n 2, 1) := by decide +kernel
theorem dX4_gatherStates_2 : decode cX4_gatherStates 2 = .ok (.iload_n 2, 1) := by decide +kernel
theorem dX4_gatherStates_3 : decode cX4_gatherStates 3 = .ok (.aload_n 0, 1) := by decide +kernel
theorem dX4_gatherStates_4 : decode cX4_gatherStates 4 = .ok (.getfield 38, 3) := by decide +kernel
theorem dX4_gatherStates_7 : decode cX4_gatherStates 7 = .ok (.if_icmp .ge 54, 3) := by decide +kernel
theorem dX4_gatherStates_10 : decode cX4_gatherStates 10 = .ok (.aload_n 0, 1) := by decide +kernel
theorem dX4_gatherStates_11 : decode cX4_gatherStates 11 = .ok (.getfield 48, 3) := by decide +kernel
theorem dX4_gatherStates_14 : decode cX4_gatherStates 14 = .ok (.iload_n 2, 1) := by decide +kernel
theorem dX4_gatherStates_15 : decode cX4_gatherStates 15 = .ok (.iconst (-1), 1) := by decide +kernel
theorem dX4_gatherStates_16 : decode cX4_gatherStates 16 = .ok (.iastore, 1) := by decide +kernel
theorem dX4_gatherStates_17 : decode cX4_gatherStates 17 = .ok (.iload_n 1, 1) := by decide +kernel
theorem dX4_gatherStates_18 : decode cX4_gatherStates 18 = .ok (.ifCond .lt 37, 3) := by decide +kernel
theorem dX4_gatherStates_21 : decode cX4_gatherStates 21 = .ok (.aload_n 0, 1) := by decide +kernel
theorem dX4_gatherStates_22 : decode cX4_gatherStates 22 = .ok (.aload_n 0, 1) := by decide +kernel
theorem dX4_gatherStates_23 : decode cX4_gatherStates 23 = .ok (.getfield 34, 3) := by decide +kernel
theorem dX4_gatherStates_26 : decode cX4_gatherStates 26 = .ok (.iload_n 2, 1) := by decide +kernel
theorem dX4_gatherStates_27 : decode cX4_gatherStates 27 = .ok (.aaload, 1) := by decide +kernel
theorem dX4_gatherStates_28 : decode cX4_gatherStates 28 = .ok (.invokevirtual 153, 3) := by decide +kernel
theorem dX4_gatherStates_31 : decode cX4_gatherStates 31 = .ok (.iload_n 1, 1) := by decide +kernel
theorem dX4_gatherStates_32 : decode cX4_gatherStates 32 = .ok (.if_icmp .ne 23, 3) := by decide +kernel
theorem dX4_gatherStates_35 : decode cX4_gatherStates 35 = .ok (.aload_n 0, 1) := by decide +kernel
theorem dX4_gatherStates_36 : decode cX4_gatherStates 36 = .ok (.getfield 48, 3) := by decide +kernel
theorem dX4_gatherStates_39 : decode cX4_gatherStates 39 = .ok (.iload_n 2, 1) := by decide +kernel
theorem dX4_gatherStates_40 : decode cX4_gatherStates 40 = .ok (.aload_n 0, 1) := by decide +kernel
theorem dX4_gatherStates_41 : decode cX4_gatherStates 41 = .ok (.aload_n 0, 1) := by decide +kernel
theorem dX4_gatherStates_42 : decode cX4_gatherStates 42 = .ok (.getfield 34, 3) := by decide +kernel
theorem dX4_gatherStates_45 : decode cX4_gatherStates 45 = .ok (.iload_n 2, 1) := by decide +kernel
theorem dX4_gatherStates_46 : decode cX4_gatherStates 46 = .ok (.aaload, 1) := by decide +kernel
theorem dX4_gatherStates_47 : decode cX4_gatherStates 47 = .ok (.iload_n 1, 1) := by decide +kernel
theorem dX4_gatherStates_48 : decode cX4_gatherStates 48 = .ok (.invokevirtual 128, 3) := by decide +kernel
theorem dX4_gatherStates_51 : decode cX4_gatherStates 51 = .ok (.getfield 150, 3) := by decide +kernel
theorem dX4_gatherStates_54 : decode cX4_gatherStates 54 = .ok (.iastore, 1) := by decide +kernel
theorem dX4_gatherStates_55 : decode cX4_gatherStates 55 = .ok (.iinc 2 1, 3) := by decide +kernel
theorem dX4_gatherStates_58 : decode cX4_gatherStates 58 = .ok (.goto (-56), 3) := by decide +kernel
theorem dX4_gatherStates_61 : decode cX4_gatherStates 61 = .ok (.return_, 1) := by decide +kernel
theorem dX4_isLowerState_0 : decode cX4_isLowerState 0 = .ok (.aload_n 0, 1) := by decide +kernel
theorem dX4_isLowerState_1 : decode cX4_isLowerState 1 = .ok (.getfield 48, 3) := by decide +kernel
theorem dX4_isLowerState_4 : decode cX4_isLowerState 4 = .ok (.iload_n 1, 1) := by decide +kernel
theorem dX4_isLowerState_5 : decode cX4_isLowerState 5 = .ok (.iaload, 1) := by decide +kernel
theorem dX4_isLowerState_6 : decode cX4_isLowerState 6 = .ok (.iconst (-1), 1) := by decide +kernel
theorem dX4_isLowerState_7 : decode cX4_isLowerState 7 = .ok (.if_icmp .eq 22, 3) := by decide +kernel
theorem dX4_isLowerState_10 : decode cX4_isLowerState 10 = .ok (.aload_n 0, 1) := by decide +kernel
theorem dX4_isLowerState_11 : decode cX4_isLowerState 11 = .ok (.getfield 48, 3) := by decide +kernel
theorem dX4_isLowerState_14 : decode cX4_isLowerState 14 = .ok (.iload_n 1, 1) := by decide +kernel
theorem dX4_isLowerState_15 : decode cX4_isLowerState 15 = .ok (.iaload, 1) := by decide +kernel
theorem dX4_isLowerState_16 : decode cX4_isLowerState 16 = .ok (.aload_n 0, 1) := by decide +kernel
theorem dX4_isLowerState_17 : decode cX4_isLowerState 17 = .ok (.getfield 48, 3) := by decide +kernel
theorem dX4_isLowerState_20 : decode cX4_isLowerState 20 = .ok (.iload_n 2, 1) := by decide +kernel
theorem dX4_isLowerState_21 : decode cX4_isLowerState 21 = .ok (.iaload, 1) := by decide +kernel
theorem dX4_isLowerState_22 : decode cX4_isLowerState 22 = .ok (.if_icmp .ge 7, 3) := by decide +kernel
theorem dX4_isLowerState_25 : decode cX4_isLowerState 25 = .ok (.iconst 1, 1) := by decide +kernel
theorem dX4_isLowerState_26 : decode cX4_isLowerState 26 = .ok (.goto 4, 3) := by decide +kernel
theorem dX4_isLowerState_29 : decode cX4_isLowerState 29 = .ok (.iconst 0, 1) := by decide +kernel
theorem dX4_isLowerState_30 : decode cX4_isLowerState 30 = .ok (.ireturn, 1) := by decide +kernel
theorem dX4_earliestOf_0 : decode cX4_earliestOf 0 = .ok (.aload_n 0, 1) := by decide +kernel
theorem dX4_earliestOf_1 : decode cX4_earliestOf 1 = .ok (.getfield 34, 3) := by decide +kernel
theorem dX4_earliestOf_4 : decode cX4_earliestOf 4 = .ok (.iload_n 1, 1) := by decide +kernel
theorem dX4_earliestOf_5 : decode cX4_earliestOf 5 = .ok (.aaload, 1) := by decide +kernel
theorem dX4_earliestOf_6 : decode cX4_earliestOf 6 = .ok (.getfield 122, 3) := by decide +kernel
theorem dX4_earliestOf_9 : decode cX4_earliestOf 9 = .ok (.istore_n 2, 1) := by decide +kernel
theorem dX4_earliestOf_10 : decode cX4_earliestOf 10 = .ok (.iconst 0, 1) := by decide +kernel
theorem dX4_earliestOf_11 : decode cX4_earliestOf 11 = .ok (.istore_n 3, 1) := by decide +kernel
theorem dX4_earliestOf_12 : decode cX4_earliestOf 12 = .ok (.iload_n 3, 1) := by decide +kernel
theorem dX4_earliestOf_13 : decode cX4_earliestOf 13 = .ok (.aload_n 0, 1) := by decide +kernel
theorem dX4_earliestOf_14 : decode cX4_earliestOf 14 = .ok (.getfield 38, 3) := by decide +kernel
theorem dX4_earliestOf_17 : decode cX4_earliestOf 17 = .ok (.if_icmp .ge 32, 3) := by decide +kernel
theorem dX4_earliestOf_20 : decode cX4_earliestOf 20 = .ok (.aload_n 0, 1) := by decide +kernel
theorem dX4_earliestOf_21 : decode cX4_earliestOf 21 = .ok (.iload_n 3, 1) := by decide +kernel
theorem dX4_earliestOf_22 : decode cX4_earliestOf 22 = .ok (.iload_n 1, 1) := by decide +kernel
theorem dX4_earliestOf_23 : decode cX4_earliestOf 23 = .ok (.invokevirtual 169, 3) := by decide +kernel
theorem dX4_earliestOf_26 : decode cX4_earliestOf 26 = .ok (.ifCond .eq 17, 3) := by decide +kernel
theorem dX4_earliestOf_29 : decode cX4_earliestOf 29 = .ok (.iload_n 2, 1) := by decide +kernel
theorem dX4_earliestOf_30 : decode cX4_earliestOf 30 = .ok (.aload_n 0, 1) := by decide +kernel
theorem dX4_earliestOf_31 : decode cX4_earliestOf 31 = .ok (.getfield 34, 3) := by decide +kernel
theorem dX4_earliestOf_34 : decode cX4_earliestOf 34 = .ok (.iload_n 3, 1) := by decide +kernel
theorem dX4_earliestOf_35 : decode cX4_earliestOf 35 = .ok (.aaload, 1) := by decide +kernel
theorem dX4_earliestOf_36 : decode cX4_earliestOf 36 = .ok (.getfield 122, 3) := by decide +kernel
theorem dX4_earliestOf_39 : decode cX4_earliestOf 39 = .ok (.invokestatic 111, 3) := by decide +kernel
theorem dX4_earliestOf_42 : decode cX4_earliestOf 42 = .ok (.istore_n 2, 1) := by decide +kernel
theorem dX4_earliestOf_43 : decode cX4_earliestOf 43 = .ok (.iinc 3 1, 3) := by decide +kernel
theorem dX4_earliestOf_46 : decode cX4_earliestOf 46 = .ok (.goto (-34), 3) := by decide +kernel
theorem dX4_earliestOf_49 : decode cX4_earliestOf 49 = .ok (.iload_n 2, 1) := by decide +kernel
theorem dX4_earliestOf_50 : decode cX4_earliestOf 50 = .ok (.ireturn, 1) := by decide +kernel
theorem dX4_latestOf_0 : decode cX4_latestOf 0 = .ok (.aload_n 0, 1) := by decide +kernel
theorem dX4_latestOf_1 : decode cX4_latestOf 1 = .ok (.getfield 34, 3) := by decide +kernel
theorem dX4_latestOf_4 : decode cX4_latestOf 4 = .ok (.iload_n 1, 1) := by decide +kernel
theorem dX4_latestOf_5 : decode cX4_latestOf 5 = .ok (.aaload, 1) := by decide +kernel
theorem dX4_latestOf_6 : decode cX4_latestOf 6 = .ok (.getfield 125, 3) := by decide +kernel
theorem dX4_latestOf_9 : decode cX4_latestOf 9 = .ok (.istore_n 2, 1) := by decide +kernel
theorem dX4_latestOf_10 : decode cX4_latestOf 10 = .ok (.iconst 0, 1) := by decide +kernel
theorem dX4_latestOf_11 : decode cX4_latestOf 11 = .ok (.istore_n 3, 1) := by decide +kernel
theorem dX4_latestOf_12 : decode cX4_latestOf 12 = .ok (.iload_n 3, 1) := by decide +kernel
theorem dX4_latestOf_13 : decode cX4_latestOf 13 = .ok (.aload_n 0, 1) := by decide +kernel
theorem dX4_latestOf_14 : decode cX4_latestOf 14 = .ok (.getfield 38, 3) := by decide +kernel
theorem dX4_latestOf_17 : decode cX4_latestOf 17 = .ok (.if_icmp .ge 32, 3) := by decide +kernel
theorem dX4_latestOf_20 : decode cX4_latestOf 20 = .ok (.aload_n 0, 1) := by decide +kernel
theorem dX4_latestOf_21 : decode cX4_latestOf 21 = .ok (.iload_n 1, 1) := by decide +kernel
theorem dX4_latestOf_22 : decode cX4_latestOf 22 = .ok (.iload_n 3, 1) := by decide +kernel
theorem dX4_latestOf_23 : decode cX4_latestOf 23 = .ok (.invokevirtual 169, 3) := by decide +kernel
theorem dX4_latestOf_26 : decode cX4_latestOf 26 = .ok (.ifCond .eq 17, 3) := by decide +kernel
theorem dX4_latestOf_29 : decode cX4_latestOf 29 = .ok (.iload_n 2, 1) := by decide +kernel
theorem dX4_latestOf_30 : decode cX4_latestOf 30 = .ok (.aload_n 0, 1) := by decide +kernel
theorem dX4_latestOf_31 : decode cX4_latestOf 31 = .ok (.getfield 34, 3) := by decide +kernel
theorem dX4_latestOf_34 : decode cX4_latestOf 34 = .ok (.iload_n 3, 1) := by decide +kernel
theorem dX4_latestOf_35 : decode cX4_latestOf 35 = .ok (.aaload, 1) := by decide +kernel
theorem dX4_latestOf_36 : decode cX4_latestOf 36 = .ok (.getfield 125, 3) := by decide +kernel
theorem dX4_latestOf_39 : decode cX4_latestOf 39 = .ok (.invokestatic 179, 3) := by decide +kernel
theorem dX4_latestOf_42 : decode cX4_latestOf 42 = .ok (.istore_n 2, 1) := by decide +kernel
theorem dX4_latestOf_43 : decode cX4_latestOf 43 = .ok (.iinc 3 1, 3) := by decide +kernel
theorem dX4_latestOf_46 : decode cX4_latestOf 46 = .ok (.goto (-34), 3) := by decide +kernel
theorem dX4_latestOf_49 : decode cX4_latestOf 49 = .ok (.iload_n 2, 1) := by decide +kernel
theorem dX4_latestOf_50 : decode cX4_latestOf 50 = .ok (.ireturn, 1) := by decide +kernel
theorem dX4_placeOf_0 : decode cX4_placeOf 0 = .ok (.iconst 0, 1) := by decide +kernel
theorem dX4_placeOf_1 : decode cX4_placeOf 1 = .ok (.istore_n 2, 1) := by decide +kernel
theorem dX4_placeOf_2 : decode cX4_placeOf 2 = .ok (.iconst 0, 1) := by decide +kernel
theorem dX4_placeOf_3 : decode cX4_placeOf 3 = .ok (.istore_n 3, 1) := by decide +kernel
theorem dX4_placeOf_4 : decode cX4_placeOf 4 = .ok (.iload_n 3, 1) := by decide +kernel
theorem dX4_placeOf_5 : decode cX4_placeOf 5 = .ok (.aload_n 0, 1) := by decide +kernel
theorem dX4_placeOf_6 : decode cX4_placeOf 6 = .ok (.getfield 38, 3) := by decide +kernel
theorem dX4_placeOf_9 : decode cX4_placeOf 9 = .ok (.if_icmp .ge 31, 3) := by decide +kernel
theorem dX4_placeOf_12 : decode cX4_placeOf 12 = .ok (.aload_n 0, 1) := by decide +kernel
theorem dX4_placeOf_13 : decode cX4_placeOf 13 = .ok (.getfield 48, 3) := by decide +kernel
theorem dX4_placeOf_16 : decode cX4_placeOf 16 = .ok (.iload_n 3, 1) := by decide +kernel
theorem dX4_placeOf_17 : decode cX4_placeOf 17 = .ok (.iaload, 1) := by decide +kernel
theorem dX4_placeOf_18 : decode cX4_placeOf 18 = .ok (.iconst (-1), 1) := by decide +kernel
theorem dX4_placeOf_19 : decode cX4_placeOf 19 = .ok (.if_icmp .eq 15, 3) := by decide +kernel
theorem dX4_placeOf_22 : decode cX4_placeOf 22 = .ok (.aload_n 0, 1) := by decide +kernel
theorem dX4_placeOf_23 : decode cX4_placeOf 23 = .ok (.iload_n 3, 1) := by decide +kernel
theorem dX4_placeOf_24 : decode cX4_placeOf 24 = .ok (.iload_n 1, 1) := by decide +kernel
theorem dX4_placeOf_25 : decode cX4_placeOf 25 = .ok (.invokevirtual 225, 3) := by decide +kernel
theorem dX4_placeOf_28 : decode cX4_placeOf 28 = .ok (.ifCond .eq 6, 3) := by decide +kernel
theorem dX4_placeOf_31 : decode cX4_placeOf 31 = .ok (.iinc 2 1, 3) := by decide +kernel
theorem dX4_placeOf_34 : decode cX4_placeOf 34 = .ok (.iinc 3 1, 3) := by decide +kernel
theorem dX4_placeOf_37 : decode cX4_placeOf 37 = .ok (.goto (-33), 3) := by decide +kernel
theorem dX4_placeOf_40 : decode cX4_placeOf 40 = .ok (.iload_n 2, 1) := by decide +kernel
theorem dX4_placeOf_41 : decode cX4_placeOf 41 = .ok (.ireturn, 1) := by decide +kernel
theorem dX4_comesBefore_0 : decode cX4_comesBefore 0 = .ok (.aload_n 0, 1) := by decide +kernel
theorem dX4_comesBefore_1 : decode cX4_comesBefore 1 = .ok (.getfield 48, 3) := by decide +kernel
theorem dX4_comesBefore_4 : decode cX4_comesBefore 4 = .ok (.iload_n 1, 1) := by decide +kernel
theorem dX4_comesBefore_5 : decode cX4_comesBefore 5 = .ok (.iaload, 1) := by decide +kernel
theorem dX4_comesBefore_6 : decode cX4_comesBefore 6 = .ok (.aload_n 0, 1) := by decide +kernel
theorem dX4_comesBefore_7 : decode cX4_comesBefore 7 = .ok (.getfield 48, 3) := by decide +kernel
theorem dX4_comesBefore_10 : decode cX4_comesBefore 10 = .ok (.iload_n 2, 1) := by decide +kernel
theorem dX4_comesBefore_11 : decode cX4_comesBefore 11 = .ok (.iaload, 1) := by decide +kernel
theorem dX4_comesBefore_12 : decode cX4_comesBefore 12 = .ok (.if_icmp .eq 24, 3) := by decide +kernel
theorem dX4_comesBefore_15 : decode cX4_comesBefore 15 = .ok (.aload_n 0, 1) := by decide +kernel
theorem dX4_comesBefore_16 : decode cX4_comesBefore 16 = .ok (.getfield 48, 3) := by decide +kernel
theorem dX4_comesBefore_19 : decode cX4_comesBefore 19 = .ok (.iload_n 1, 1) := by decide +kernel
theorem dX4_comesBefore_20 : decode cX4_comesBefore 20 = .ok (.iaload, 1) := by decide +kernel
theorem dX4_comesBefore_21 : decode cX4_comesBefore 21 = .ok (.aload_n 0, 1) := by decide +kernel
theorem dX4_comesBefore_22 : decode cX4_comesBefore 22 = .ok (.getfield 48, 3) := by decide +kernel
theorem dX4_comesBefore_25 : decode cX4_comesBefore 25 = .ok (.iload_n 2, 1) := by decide +kernel
theorem dX4_comesBefore_26 : decode cX4_comesBefore 26 = .ok (.iaload, 1) := by decide +kernel
theorem dX4_comesBefore_27 : decode cX4_comesBefore 27 = .ok (.if_icmp .ge 7, 3) := by decide +kernel
theorem dX4_comesBefore_30 : decode cX4_comesBefore 30 = .ok (.iconst 1, 1) := by decide +kernel
theorem dX4_comesBefore_31 : decode cX4_comesBefore 31 = .ok (.goto 4, 3) := by decide +kernel
theorem dX4_comesBefore_34 : decode cX4_comesBefore 34 = .ok (.iconst 0, 1) := by decide +kernel
theorem dX4_comesBefore_35 : decode cX4_comesBefore 35 = .ok (.ireturn, 1) := by decide +kernel
theorem dX4_comesBefore_36 : decode cX4_comesBefore 36 = .ok (.aload_n 0, 1) := by decide +kernel
theorem dX4_comesBefore_37 : decode cX4_comesBefore 37 = .ok (.getfield 51, 3) := by decide +kernel
theorem dX4_comesBefore_40 : decode cX4_comesBefore 40 = .ok (.iload_n 1, 1) := by decide +kernel
theorem dX4_comesBefore_41 : decode cX4_comesBefore 41 = .ok (.iaload, 1) := by decide +kernel
theorem dX4_comesBefore_42 : decode cX4_comesBefore 42 = .ok (.aload_n 0, 1) := by decide +kernel
theorem dX4_comesBefore_43 : decode cX4_comesBefore 43 = .ok (.getfield 51, 3) := by decide +kernel
theorem dX4_comesBefore_46 : decode cX4_comesBefore 46 = .ok (.iload_n 2, 1) := by decide +kernel
theorem dX4_comesBefore_47 : decode cX4_comesBefore 47 = .ok (.iaload, 1) := by decide +kernel
theorem dX4_comesBefore_48 : decode cX4_comesBefore 48 = .ok (.if_icmp .eq 24, 3) := by decide +kernel
theorem dX4_comesBefore_51 : decode cX4_comesBefore 51 = .ok (.aload_n 0, 1) := by decide +kernel
theorem dX4_comesBefore_52 : decode cX4_comesBefore 52 = .ok (.getfield 51, 3) := by decide +kernel
theorem dX4_comesBefore_55 : decode cX4_comesBefore 55 = .ok (.iload_n 1, 1) := by decide +kernel
theorem dX4_comesBefore_56 : decode cX4_comesBefore 56 = .ok (.iaload, 1) := by decide +kernel
theorem dX4_comesBefore_57 : decode cX4_comesBefore 57 = .ok (.aload_n 0, 1) := by decide +kernel
theorem dX4_comesBefore_58 : decode cX4_comesBefore 58 = .ok (.getfield 51, 3) := by decide +kernel
theorem dX4_comesBefore_61 : decode cX4_comesBefore 61 = .ok (.iload_n 2, 1) := by decide +kernel
theorem dX4_comesBefore_62 : decode cX4_comesBefore 62 = .ok (.iaload, 1) := by decide +kernel
theorem dX4_comesBefore_63 : decode cX4_comesBefore 63 = .ok (.if_icmp .ge 7, 3) := by decide +kernel
theorem dX4_comesBefore_66 : decode cX4_comesBefore 66 = .ok (.iconst 1, 1) := by decide +kernel
theorem dX4_comesBefore_67 : decode cX4_comesBefore 67 = .ok (.goto 4, 3) := by decide +kernel
theorem dX4_comesBefore_70 : decode cX4_comesBefore 70 = .ok (.iconst 0, 1) := by decide +kernel
theorem dX4_comesBefore_71 : decode cX4_comesBefore 71 = .ok (.ireturn, 1) := by decide +kernel
theorem dX4_comesBefore_72 : decode cX4_comesBefore 72 = .ok (.iload_n 1, 1) := by decide +kernel
theorem dX4_comesBefore_73 : decode cX4_comesBefore 73 = .ok (.iload_n 2, 1) := by decide +kernel
theorem dX4_comesBefore_74 : decode cX4_comesBefore 74 = .ok (.if_icmp .ge 7, 3) := by decide +kernel
theorem dX4_comesBefore_77 : decode cX4_comesBefore 77 = .ok (.iconst 1, 1) := by decide +kernel
theorem dX4_comesBefore_78 : decode cX4_comesBefore 78 = .ok (.goto 4, 3) := by decide +kernel
theorem dX4_comesBefore_81 : decode cX4_comesBefore 81 = .ok (.iconst 0, 1) := by decide +kernel
theorem dX4_comesBefore_82 : decode cX4_comesBefore 82 = .ok (.ireturn, 1) := by decide +kernel
