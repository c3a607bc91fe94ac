theorem dX5_init_0 : decode cX5_init 0 = .ok (.aload_n 0, 1) := by decide +kernel
theorem dX5_init_1 : decode cX5_init 1 = .ok (.invokespecial 1, 3) := by decide +kernel
theorem dX5_init_4 : decode cX5_init 4 = .ok (.aload_n 0, 1) := by decide +kernel
theorem dX5_init_5 : decode cX5_init 5 = .ok (.bipush 10, 2) := by decide +kernel
theorem dX5_init_7 : decode cX5_init 7 = .ok (.newarray .int, 2) := by decide +kernel
theorem dX5_init_9 : decode cX5_init 9 = .ok (.putfield 7, 3) := by decide +kernel
theorem dX5_init_12 : decode cX5_init 12 = .ok (.aload_n 0, 1) := by decide +kernel
theorem dX5_init_13 : decode cX5_init 13 = .ok (.iconst 5, 1) := by decide +kernel
theorem dX5_init_14 : decode cX5_init 14 = .ok (.putfield 13, 3) := by decide +kernel
theorem dX5_init_17 : decode cX5_init 17 = .ok (.aload_n 0, 1) := by decide +kernel
theorem dX5_init_18 : decode cX5_init 18 = .ok (.bipush 20, 2) := by decide +kernel
theorem dX5_init_20 : decode cX5_init 20 = .ok (.putfield 17, 3) := by decide +kernel
theorem dX5_init_23 : decode cX5_init 23 = .ok (.aload_n 0, 1) := by decide +kernel
theorem dX5_init_24 : decode cX5_init 24 = .ok (.bipush 10, 2) := by decide +kernel
theorem dX5_init_26 : decode cX5_init 26 = .ok (.newarray .int, 2) := by decide +kernel
theorem dX5_init_28 : decode cX5_init 28 = .ok (.putfield 20, 3) := by decide +kernel
theorem dX5_init_31 : decode cX5_init 31 = .ok (.aload_n 0, 1) := by decide +kernel
theorem dX5_init_32 : decode cX5_init 32 = .ok (.bipush 100, 2) := by decide +kernel
theorem dX5_init_34 : decode cX5_init 34 = .ok (.newarray .int, 2) := by decide +kernel
theorem dX5_init_36 : decode cX5_init 36 = .ok (.putfield 23, 3) := by decide +kernel
theorem dX5_init_39 : decode cX5_init 39 = .ok (.aload_n 0, 1) := by decide +kernel
theorem dX5_init_40 : decode cX5_init 40 = .ok (.bipush 10, 2) := by decide +kernel
theorem dX5_init_42 : decode cX5_init 42 = .ok (.newarray .int, 2) := by decide +kernel
theorem dX5_init_44 : decode cX5_init 44 = .ok (.putfield 26, 3) := by decide +kernel
theorem dX5_init_47 : decode cX5_init 47 = .ok (.aload_n 0, 1) := by decide +kernel
theorem dX5_init_48 : decode cX5_init 48 = .ok (.bipush 10, 2) := by decide +kernel
theorem dX5_init_50 : decode cX5_init 50 = .ok (.newarray .int, 2) := by decide +kernel
theorem dX5_init_52 : decode cX5_init 52 = .ok (.putfield 29, 3) := by decide +kernel
theorem dX5_init_55 : decode cX5_init 55 = .ok (.aload_n 0, 1) := by decide +kernel
theorem dX5_init_56 : decode cX5_init 56 = .ok (.bipush 60, 2) := by decide +kernel
theorem dX5_init_58 : decode cX5_init 58 = .ok (.newarray .int, 2) := by decide +kernel
theorem dX5_init_60 : decode cX5_init 60 = .ok (.putfield 32, 3) := by decide +kernel
theorem dX5_init_63 : decode cX5_init 63 = .ok (.aload_n 0, 1) := by decide +kernel
theorem dX5_init_64 : decode cX5_init 64 = .ok (.bipush 60, 2) := by decide +kernel
theorem dX5_init_66 : decode cX5_init 66 = .ok (.newarray .int, 2) := by decide +kernel
theorem dX5_init_68 : decode cX5_init 68 = .ok (.putfield 35, 3) := by decide +kernel
theorem dX5_init_71 : decode cX5_init 71 = .ok (.aload_n 0, 1) := by decide +kernel
theorem dX5_init_72 : decode cX5_init 72 = .ok (.bipush 30, 2) := by decide +kernel
theorem dX5_init_74 : decode cX5_init 74 = .ok (.newarray .int, 2) := by decide +kernel
theorem dX5_init_76 : decode cX5_init 76 = .ok (.putfield 38, 3) := by decide +kernel
theorem dX5_init_79 : decode cX5_init 79 = .ok (.aload_n 0, 1) := by decide +kernel
theorem dX5_init_80 : decode cX5_init 80 = .ok (.sipush 300, 3) := by decide +kernel
theorem dX5_init_83 : decode cX5_init 83 = .ok (.newarray .int, 2) := by decide +kernel
theorem dX5_init_85 : decode cX5_init 85 = .ok (.putfield 41, 3) := by decide +kernel
theorem dX5_init_88 : decode cX5_init 88 = .ok (.aload_n 0, 1) := by decide +kernel
theorem dX5_init_89 : decode cX5_init 89 = .ok (.bipush 30, 2) := by decide +kernel
theorem dX5_init_91 : decode cX5_init 91 = .ok (.newarray .int, 2) := by decide +kernel
theorem dX5_init_93 : decode cX5_init 93 = .ok (.putfield 44, 3) := by decide +kernel
theorem dX5_init_96 : decode cX5_init 96 = .ok (.aload_n 0, 1) := by decide +kernel
theorem dX5_init_97 : decode cX5_init 97 = .ok (.bipush 30, 2) := by decide +kernel
theorem dX5_init_99 : decode cX5_init 99 = .ok (.newarray .int, 2) := by decide +kernel
theorem dX5_init_101 : decode cX5_init 101 = .ok (.putfield 47, 3) := by decide +kernel
theorem dX5_init_104 : decode cX5_init 104 = .ok (.aload_n 0, 1) := by decide +kernel
theorem dX5_init_105 : decode cX5_init 105 = .ok (.bipush 30, 2) := by decide +kernel
theorem dX5_init_107 : decode cX5_init 107 = .ok (.newarray .int, 2) := by decide +kernel
theorem dX5_init_109 : decode cX5_init 109 = .ok (.putfield 50, 3) := by decide +kernel
theorem dX5_init_112 : decode cX5_init 112 = .ok (.aload_n 0, 1) := by decide +kernel
theorem dX5_init_113 : decode cX5_init 113 = .ok (.bipush 30, 2) := by decide +kernel
theorem dX5_init_115 : decode cX5_init 115 = .ok (.newarray .int, 2) := by decide +kernel
theorem dX5_init_117 : decode cX5_init 117 = .ok (.putfield 53, 3) := by decide +kernel
theorem dX5_init_120 : decode cX5_init 120 = .ok (.aload_n 0, 1) := by decide +kernel
theorem dX5_init_121 : decode cX5_init 121 = .ok (.bipush 30, 2) := by decide +kernel
theorem dX5_init_123 : decode cX5_init 123 = .ok (.newarray .int, 2) := by decide +kernel
theorem dX5_init_125 : decode cX5_init 125 = .ok (.putfield 56, 3) := by decide +kernel
theorem dX5_init_128 : decode cX5_init 128 = .ok (.aload_n 0, 1) := by decide +kernel
theorem dX5_init_129 : decode cX5_init 129 = .ok (.bipush 30, 2) := by decide +kernel
theorem dX5_init_131 : decode cX5_init 131 = .ok (.newarray .int, 2) := by decide +kernel
theorem dX5_init_133 : decode cX5_init 133 = .ok (.putfield 59, 3) := by decide +kernel
theorem dX5_init_136 : decode cX5_init 136 = .ok (.aload_n 0, 1) := by decide +kernel
theorem dX5_init_137 : decode cX5_init 137 = .ok (.bipush 30, 2) := by decide +kernel
theorem dX5_init_139 : decode cX5_init 139 = .ok (.newarray .int, 2) := by decide +kernel
theorem dX5_init_141 : decode cX5_init 141 = .ok (.putfield 62, 3) := by decide +kernel
theorem dX5_init_144 : decode cX5_init 144 = .ok (.aload_n 0, 1) := by decide +kernel
theorem dX5_init_145 : decode cX5_init 145 = .ok (.bipush 30, 2) := by decide +kernel
theorem dX5_init_147 : decode cX5_init 147 = .ok (.newarray .int, 2) := by decide +kernel
theorem dX5_init_149 : decode cX5_init 149 = .ok (.putfield 65, 3) := by decide +kernel
theorem dX5_init_152 : decode cX5_init 152 = .ok (.return_, 1) := by decide +kernel
theorem dX5_within_0 : decode cX5_within 0 = .ok (.iload_n 0, 1) := by decide +kernel
theorem dX5_within_1 : decode cX5_within 1 = .ok (.iload_n 1, 1) := by decide +kernel
theorem dX5_within_2 : decode cX5_within 2 = .ok (.if_icmp .lt 12, 3) := by decide +kernel
theorem dX5_within_5 : decode cX5_within 5 = .ok (.iload_n 0, 1) := by decide +kernel
theorem dX5_within_6 : decode cX5_within 6 = .ok (.iload_n 2, 1) := by decide +kernel
theorem dX5_within_7 : decode cX5_within 7 = .ok (.if_icmp .gt 7, 3) := by decide +kernel
theorem dX5_within_10 : decode cX5_within 10 = .ok (.iconst 1, 1) := by decide +kernel
theorem dX5_within_11 : decode cX5_within 11 = .ok (.goto 4, 3) := by decide +kernel
theorem dX5_within_14 : decode cX5_within 14 = .ok (.iconst 0, 1) := by decide +kernel
theorem dX5_within_15 : decode cX5_within 15 = .ok (.ireturn, 1) := by decide +kernel
theorem dX5_apart_0 : decode cX5_apart 0 = .ok (.iload_n 0, 1) := by decide +kernel
theorem dX5_apart_1 : decode cX5_apart 1 = .ok (.iload_n 1, 1) := by decide +kernel
theorem dX5_apart_2 : decode cX5_apart 2 = .ok (.if_icmp .le 9, 3) := by decide +kernel
theorem dX5_apart_5 : decode cX5_apart 5 = .ok (.iload_n 0, 1) := by decide +kernel
theorem dX5_apart_6 : decode cX5_apart 6 = .ok (.iload_n 1, 1) := by decide +kernel
theorem dX5_apart_7 : decode cX5_apart 7 = .ok (.isub, 1) := by decide +kernel
theorem dX5_apart_8 : decode cX5_apart 8 = .ok (.goto 6, 3) := by decide +kernel
theorem dX5_apart_11 : decode cX5_apart 11 = .ok (.iload_n 1, 1) := by decide +kernel
theorem dX5_apart_12 : decode cX5_apart 12 = .ok (.iload_n 0, 1) := by decide +kernel
theorem dX5_apart_13 : decode cX5_apart 13 = .ok (.isub, 1) := by decide +kernel
theorem dX5_apart_14 : decode cX5_apart 14 = .ok (.ireturn, 1) := by decide +kernel
theorem dX5_clearRow_0 : decode cX5_clearRow 0 = .ok (.aload_n 0, 1) := by decide +kernel
theorem dX5_clearRow_1 : decode cX5_clearRow 1 = .ok (.getfield 68, 3) := by decide +kernel
theorem dX5_clearRow_4 : decode cX5_clearRow 4 = .ok (.istore_n 1, 1) := by decide +kernel
theorem dX5_clearRow_5 : decode cX5_clearRow 5 = .ok (.aload_n 0, 1) := by decide +kernel
theorem dX5_clearRow_6 : decode cX5_clearRow 6 = .ok (.iconst 0, 1) := by decide +kernel
theorem dX5_clearRow_7 : decode cX5_clearRow 7 = .ok (.putfield 68, 3) := by decide +kernel
theorem dX5_clearRow_10 : decode cX5_clearRow 10 = .ok (.iload_n 1, 1) := by decide +kernel
theorem dX5_clearRow_11 : decode cX5_clearRow 11 = .ok (.ireturn, 1) := by decide +kernel
theorem dX5_addToRow_0 : decode cX5_addToRow 0 = .ok (.iload_n 1, 1) := by decide +kernel
theorem dX5_addToRow_1 : decode cX5_addToRow 1 = .ok (.bipush 100, 2) := by decide +kernel
theorem dX5_addToRow_3 : decode cX5_addToRow 3 = .ok (.sipush 450, 3) := by decide +kernel
theorem dX5_addToRow_6 : decode cX5_addToRow 6 = .ok (.invokestatic 71, 3) := by decide +kernel
theorem dX5_addToRow_9 : decode cX5_addToRow 9 = .ok (.ifCond .ne 6, 3) := by decide +kernel
theorem dX5_addToRow_12 : decode cX5_addToRow 12 = .ok (.bipush (-3), 2) := by decide +kernel
theorem dX5_addToRow_14 : decode cX5_addToRow 14 = .ok (.ireturn, 1) := by decide +kernel
theorem dX5_addToRow_15 : decode cX5_addToRow 15 = .ok (.aload_n 0, 1) := by decide +kernel
theorem dX5_addToRow_16 : decode cX5_addToRow 16 = .ok (.getfield 68, 3) := by decide +kernel
theorem dX5_addToRow_19 : decode cX5_addToRow 19 = .ok (.bipush 10, 2) := by decide +kernel
theorem dX5_addToRow_21 : decode cX5_addToRow 21 = .ok (.if_icmp .ne 6, 3) := by decide +kernel
theorem dX5_addToRow_24 : decode cX5_addToRow 24 = .ok (.bipush (-5), 2) := by decide +kernel
theorem dX5_addToRow_26 : decode cX5_addToRow 26 = .ok (.ireturn, 1) := by decide +kernel
theorem dX5_addToRow_27 : decode cX5_addToRow 27 = .ok (.aload_n 0, 1) := by decide +kernel
theorem dX5_addToRow_28 : decode cX5_addToRow 28 = .ok (.getfield 7, 3) := by decide +kernel
theorem dX5_addToRow_31 : decode cX5_addToRow 31 = .ok (.aload_n 0, 1) := by decide +kernel
theorem dX5_addToRow_32 : decode cX5_addToRow 32 = .ok (.getfield 68, 3) := by decide +kernel
theorem dX5_addToRow_35 : decode cX5_addToRow 35 = .ok (.iload_n 1, 1) := by decide +kernel
theorem dX5_addToRow_36 : decode cX5_addToRow 36 = .ok (.iastore, 1) := by decide +kernel
theorem dX5_addToRow_37 : decode cX5_addToRow 37 = .ok (.aload_n 0, 1) := by decide +kernel
theorem dX5_addToRow_38 : decode cX5_addToRow 38 = .ok (.dup, 1) := by decide +kernel
theorem dX5_addToRow_39 : decode cX5_addToRow 39 = .ok (.getfield 68, 3) := by decide +kernel
theorem dX5_addToRow_42 : decode cX5_addToRow 42 = .ok (.iconst 1, 1) := by decide +kernel
theorem dX5_addToRow_43 : decode cX5_addToRow 43 = .ok (.iadd, 1) := by decide +kernel
theorem dX5_addToRow_44 : decode cX5_addToRow 44 = .ok (.putfield 68, 3) := by decide +kernel
theorem dX5_addToRow_47 : decode cX5_addToRow 47 = .ok (.aload_n 0, 1) := by decide +kernel
theorem dX5_addToRow_48 : decode cX5_addToRow 48 = .ok (.getfield 68, 3) := by decide +kernel
theorem dX5_addToRow_51 : decode cX5_addToRow 51 = .ok (.ireturn, 1) := by decide +kernel
theorem dX5_setTolerances_0 : decode cX5_setTolerances 0 = .ok (.iload_n 1, 1) := by decide +kernel
theorem dX5_setTolerances_1 : decode cX5_setTolerances 1 = .ok (.iconst 0, 1) := by decide +kernel
theorem dX5_setTolerances_2 : decode cX5_setTolerances 2 = .ok (.bipush 50, 2) := by decide +kernel
theorem dX5_setTolerances_4 : decode cX5_setTolerances 4 = .ok (.invokestatic 71, 3) := by decide +kernel
theorem dX5_setTolerances_7 : decode cX5_setTolerances 7 = .ok (.ifCond .eq 13, 3) := by decide +kernel
theorem dX5_setTolerances_10 : decode cX5_setTolerances 10 = .ok (.iload_n 2, 1) := by decide +kernel
theorem dX5_setTolerances_11 : decode cX5_setTolerances 11 = .ok (.iconst 0, 1) := by decide +kernel
theorem dX5_setTolerances_12 : decode cX5_setTolerances 12 = .ok (.bipush 100, 2) := by decide +kernel
theorem dX5_setTolerances_14 : decode cX5_setTolerances 14 = .ok (.invokestatic 71, 3) := by decide +kernel
theorem dX5_setTolerances_17 : decode cX5_setTolerances 17 = .ok (.ifCond .ne 6, 3) := by decide +kernel
theorem dX5_setTolerances_20 : decode cX5_setTolerances 20 = .ok (.bipush (-3), 2) := by decide +kernel
theorem dX5_setTolerances_22 : decode cX5_setTolerances 22 = .ok (.ireturn, 1) := by decide +kernel
theorem dX5_setTolerances_23 : decode cX5_setTolerances 23 = .ok (.iload_n 1, 1) := by decide +kernel
theorem dX5_setTolerances_24 : decode cX5_setTolerances 24 = .ok (.aload_n 0, 1) := by decide +kernel
theorem dX5_setTolerances_25 : decode cX5_setTolerances 25 = .ok (.getfield 13, 3) := by decide +kernel
theorem dX5_setTolerances_28 : decode cX5_setTolerances 28 = .ok (.if_icmp .ne 11, 3) := by decide +kernel
theorem dX5_setTolerances_31 : decode cX5_setTolerances 31 = .ok (.iload_n 2, 1) := by decide +kernel
theorem dX5_setTolerances_32 : decode cX5_setTolerances 32 = .ok (.aload_n 0, 1) := by decide +kernel
theorem dX5_setTolerances_33 : decode cX5_setTolerances 33 = .ok (.getfield 17, 3) := by decide +kernel
theorem dX5_setTolerances_36 : decode cX5_setTolerances 36 = .ok (.if_icmp .eq 7, 3) := by decide +kernel
theorem dX5_setTolerances_39 : decode cX5_setTolerances 39 = .ok (.iconst 1, 1) := by decide +kernel
theorem dX5_setTolerances_40 : decode cX5_setTolerances 40 = .ok (.goto 4, 3) := by decide +kernel
theorem dX5_setTolerances_43 : decode cX5_setTolerances 43 = .ok (.iconst 0, 1) := by decide +kernel
theorem dX5_setTolerances_44 : decode cX5_setTolerances 44 = .ok (.istore_n 3, 1) := by decide +kernel
theorem dX5_setTolerances_45 : decode cX5_setTolerances 45 = .ok (.aload_n 0, 1) := by decide +kernel
theorem dX5_setTolerances_46 : decode cX5_setTolerances 46 = .ok (.iload_n 1, 1) := by decide +kernel
theorem dX5_setTolerances_47 : decode cX5_setTolerances 47 = .ok (.putfield 13, 3) := by decide +kernel
theorem dX5_setTolerances_50 : decode cX5_setTolerances 50 = .ok (.aload_n 0, 1) := by decide +kernel
theorem dX5_setTolerances_51 : decode cX5_setTolerances 51 = .ok (.iload_n 2, 1) := by decide +kernel
theorem dX5_setTolerances_52 : decode cX5_setTolerances 52 = .ok (.putfield 17, 3) := by decide +kernel
theorem dX5_setTolerances_55 : decode cX5_setTolerances 55 = .ok (.iload_n 3, 1) := by decide +kernel
theorem dX5_setTolerances_56 : decode cX5_setTolerances 56 = .ok (.ifCond .eq 7, 3) := by decide +kernel
theorem dX5_setTolerances_59 : decode cX5_setTolerances 59 = .ok (.iconst 1, 1) := by decide +kernel
theorem dX5_setTolerances_60 : decode cX5_setTolerances 60 = .ok (.goto 4, 3) := by decide +kernel
theorem dX5_setTolerances_63 : decode cX5_setTolerances 63 = .ok (.iconst 0, 1) := by decide +kernel
theorem dX5_setTolerances_64 : decode cX5_setTolerances 64 = .ok (.ireturn, 1) := by decide +kernel
theorem dX5_noMould_0 : decode cX5_noMould 0 = .ok (.iload_n 1, 1) := by decide +kernel
theorem dX5_noMould_1 : decode cX5_noMould 1 = .ok (.iconst 0, 1) := by decide +kernel
theorem dX5_noMould_2 : decode cX5_noMould 2 = .ok (.aload_n 0, 1) := by decide +kernel
theorem dX5_noMould_3 : decode cX5_noMould 3 = .ok (.getfield 75, 3) := by decide +kernel
theorem dX5_noMould_6 : decode cX5_noMould 6 = .ok (.iconst 1, 1) := by decide +kernel
theorem dX5_noMould_7 : decode cX5_noMould 7 = .ok (.isub, 1) := by decide +kernel
theorem dX5_noMould_8 : decode cX5_noMould 8 = .ok (.invokestatic 71, 3) := by decide +kernel
theorem dX5_noMould_11 : decode cX5_noMould 11 = .ok (.ifCond .ne 7, 3) := by decide +kernel
theorem dX5_noMould_14 : decode cX5_noMould 14 = .ok (.iconst 1, 1) := by decide +kernel
theorem dX5_noMould_15 : decode cX5_noMould 15 = .ok (.goto 4, 3) := by decide +kernel
theorem dX5_noMould_18 : decode cX5_noMould 18 = .ok (.iconst 0, 1) := by decide +kernel
theorem dX5_noMould_19 : decode cX5_noMould 19 = .ok (.ireturn, 1) := by decide +kernel
theorem dX5_isMark_0 : decode cX5_isMark 0 = .ok (.iload_n 1, 1) := by decide +kernel
theorem dX5_isMark_1 : decode cX5_isMark 1 = .ok (.iconst 0, 1) := by decide +kernel
theorem dX5_isMark_2 : decode cX5_isMark 2 = .ok (.aload_n 0, 1) := by decide +kernel
theorem dX5_isMark_3 : decode cX5_isMark 3 = .ok (.getfield 68, 3) := by decide +kernel
theorem dX5_isMark_6 : decode cX5_isMark 6 = .ok (.iconst 1, 1) := by decide +kernel
theorem dX5_isMark_7 : decode cX5_isMark 7 = .ok (.isub, 1) := by decide +kernel
theorem dX5_isMark_8 : decode cX5_isMark 8 = .ok (.invokestatic 71, 3) := by decide +kernel
theorem dX5_isMark_11 : decode cX5_isMark 11 = .ok (.ifCond .eq 32, 3) := by decide +kernel
theorem dX5_isMark_14 : decode cX5_isMark 14 = .ok (.iload_n 2, 1) := by decide +kernel
theorem dX5_isMark_15 : decode cX5_isMark 15 = .ok (.iconst 0, 1) := by decide +kernel
theorem dX5_isMark_16 : decode cX5_isMark 16 = .ok (.aload_n 0, 1) := by decide +kernel
theorem dX5_isMark_17 : decode cX5_isMark 17 = .ok (.getfield 7, 3) := by decide +kernel
theorem dX5_isMark_20 : decode cX5_isMark 20 = .ok (.iload_n 1, 1) := by decide +kernel
theorem dX5_isMark_21 : decode cX5_isMark 21 = .ok (.iaload, 1) := by decide +kernel
theorem dX5_isMark_22 : decode cX5_isMark 22 = .ok (.invokestatic 71, 3) := by decide +kernel
theorem dX5_isMark_25 : decode cX5_isMark 25 = .ok (.ifCond .eq 18, 3) := by decide +kernel
theorem dX5_isMark_28 : decode cX5_isMark 28 = .ok (.iload_n 3, 1) := by decide +kernel
theorem dX5_isMark_29 : decode cX5_isMark 29 = .ok (.iconst 0, 1) := by decide +kernel
theorem dX5_isMark_30 : decode cX5_isMark 30 = .ok (.sipush 300, 3) := by decide +kernel
theorem dX5_isMark_33 : decode cX5_isMark 33 = .ok (.invokestatic 71, 3) := by decide +kernel
theorem dX5_isMark_36 : decode cX5_isMark 36 = .ok (.ifCond .eq 7, 3) := by decide +kernel
theorem dX5_isMark_39 : decode cX5_isMark 39 = .ok (.iconst 1, 1) := by decide +kernel
theorem dX5_isMark_40 : decode cX5_isMark 40 = .ok (.goto 4, 3) := by decide +kernel
theorem dX5_isMark_43 : decode cX5_isMark 43 = .ok (.iconst 0, 1) := by decide +kernel
theorem dX5_isMark_44 : decode cX5_isMark 44 = .ok (.ireturn, 1) := by decide +kernel
theorem dX5_putState_0 : decode cX5_putState 0 = .ok (.aload_n 0, 1) := by decide +kernel
theorem dX5_putState_1 : decode cX5_putState 1 = .ok (.getfield 32, 3) := by decide +kernel
theorem dX5_putState_4 : decode cX5_putState 4 = .ok (.bipush 6, 2) := by decide +kernel
theorem dX5_putState_6 : decode cX5_putState 6 = .ok (.iload_n 1, 1) := by decide +kernel
theorem dX5_putState_7 : decode cX5_putState 7 = .ok (.imul, 1) := by decide +kernel
theorem dX5_putState_8 : decode cX5_putState 8 = .ok (.aload_n 0, 1) := by decide +kernel
theorem dX5_putState_9 : decode cX5_putState 9 = .ok (.getfield 29, 3) := by decide +kernel
theorem dX5_putState_12 : decode cX5_putState 12 = .ok (.iload_n 1, 1) := by decide +kernel
theorem dX5_putState_13 : decode cX5_putState 13 = .ok (.iaload, 1) := by decide +kernel
theorem dX5_putState_14 : decode cX5_putState 14 = .ok (.iadd, 1) := by decide +kernel
theorem dX5_putState_15 : decode cX5_putState 15 = .ok (.iload_n 2, 1) := by decide +kernel
theorem dX5_putState_16 : decode cX5_putState 16 = .ok (.iastore, 1) := by decide +kernel
theorem dX5_putState_17 : decode cX5_putState 17 = .ok (.aload_n 0, 1) := by decide +kernel
theorem dX5_putState_18 : decode cX5_putState 18 = .ok (.getfield 35, 3) := by decide +kernel
theorem dX5_putState_21 : decode cX5_putState 21 = .ok (.bipush 6, 2) := by decide +kernel
theorem dX5_putState_23 : decode cX5_putState 23 = .ok (.iload_n 1, 1) := by decide +kernel
theorem dX5_putState_24 : decode cX5_putState 24 = .ok (.imul, 1) := by decide +kernel
theorem dX5_putState_25 : decode cX5_putState 25 = .ok (.aload_n 0, 1) := by decide +kernel
theorem dX5_putState_26 : decode cX5_putState 26 = .ok (.getfield 29, 3) := by decide +kernel
theorem dX5_putState_29 : decode cX5_putState 29 = .ok (.iload_n 1, 1) := by decide +kernel
theorem dX5_putState_30 : decode cX5_putState 30 = .ok (.iaload, 1) := by decide +kernel
theorem dX5_putState_31 : decode cX5_putState 31 = .ok (.iadd, 1) := by decide +kernel
theorem dX5_putState_32 : decode cX5_putState 32 = .ok (.iload_n 3, 1) := by decide +kernel
theorem dX5_putState_33 : decode cX5_putState 33 = .ok (.iastore, 1) := by decide +kernel
theorem dX5_putState_34 : decode cX5_putState 34 = .ok (.aload_n 0, 1) := by decide +kernel
theorem dX5_putState_35 : decode cX5_putState 35 = .ok (.getfield 29, 3) := by decide +kernel
theorem dX5_putState_38 : decode cX5_putState 38 = .ok (.iload_n 1, 1) := by decide +kernel
theorem dX5_putState_39 : decode cX5_putState 39 = .ok (.dup2, 1) := by decide +kernel
theorem dX5_putState_40 : decode cX5_putState 40 = .ok (.iaload, 1) := by decide +kernel
theorem dX5_putState_41 : decode cX5_putState 41 = .ok (.iconst 1, 1) := by decide +kernel
theorem dX5_putState_42 : decode cX5_putState 42 = .ok (.iadd, 1) := by decide +kernel
theorem dX5_putState_43 : decode cX5_putState 43 = .ok (.iastore, 1) := by decide +kernel
theorem dX5_putState_44 : decode cX5_putState 44 = .ok (.return_, 1) := by decide +kernel
theorem dX5_addMould_0 : decode cX5_addMould 0 = .ok (.aload_n 0, 1) := by decide +kernel
theorem dX5_addMould_1 : decode cX5_addMould 1 = .ok (.getfield 68, 3) := by decide +kernel
theorem dX5_addMould_4 : decode cX5_addMould 4 = .ok (.iconst 3, 1) := by decide +kernel
theorem dX5_addMould_5 : decode cX5_addMould 5 = .ok (.if_icmp .ge 6, 3) := by decide +kernel
theorem dX5_addMould_8 : decode cX5_addMould 8 = .ok (.bipush (-4), 2) := by decide +kernel
theorem dX5_addMould_10 : decode cX5_addMould 10 = .ok (.ireturn, 1) := by decide +kernel
theorem dX5_addMould_11 : decode cX5_addMould 11 = .ok (.aload_n 0, 1) := by decide +kernel
theorem dX5_addMould_12 : decode cX5_addMould 12 = .ok (.iload_n 1, 1) := by decide +kernel
theorem dX5_addMould_13 : decode cX5_addMould 13 = .ok (.iload_n 2, 1) := by decide +kernel
theorem dX5_addMould_14 : decode cX5_addMould 14 = .ok (.iload_n 3, 1) := by decide +kernel
theorem dX5_addMould_15 : decode cX5_addMould 15 = .ok (.invokevirtual 78, 3) := by decide +kernel
theorem dX5_addMould_18 : decode cX5_addMould 18 = .ok (.ifCond .ne 6, 3) := by decide +kernel
theorem dX5_addMould_21 : decode cX5_addMould 21 = .ok (.bipush (-3), 2) := by decide +kernel
theorem dX5_addMould_23 : decode cX5_addMould 23 = .ok (.ireturn, 1) := by decide +kernel
theorem dX5_addMould_24 : decode cX5_addMould 24 = .ok (.aload_n 0, 1) := by decide +kernel
theorem dX5_addMould_25 : decode cX5_addMould 25 = .ok (.getfield 75, 3) := by decide +kernel
theorem dX5_addMould_28 : decode cX5_addMould 28 = .ok (.bipush 10, 2) := by decide +kernel
theorem dX5_addMould_30 : decode cX5_addMould 30 = .ok (.if_icmp .ne 6, 3) := by decide +kernel
theorem dX5_addMould_33 : decode cX5_addMould 33 = .ok (.bipush (-5), 2) := by decide +kernel
theorem dX5_addMould_35 : decode cX5_addMould 35 = .ok (.ireturn, 1) := by decide +kernel
theorem dX5_addMould_36 : decode cX5_addMould 36 = .ok (.aload_n 0, 1) := by decide +kernel
theorem dX5_addMould_37 : decode cX5_addMould 37 = .ok (.getfield 20, 3) := by decide +kernel
theorem dX5_addMould_40 : decode cX5_addMould 40 = .ok (.aload_n 0, 1) := by decide +kernel
theorem dX5_addMould_41 : decode cX5_addMould 41 = .ok (.getfield 75, 3) := by decide +kernel
theorem dX5_addMould_44 : decode cX5_addMould 44 = .ok (.aload_n 0, 1) := by decide +kernel
theorem dX5_addMould_45 : decode cX5_addMould 45 = .ok (.getfield 68, 3) := by decide +kernel
theorem dX5_addMould_48 : decode cX5_addMould 48 = .ok (.iastore, 1) := by decide +kernel
theorem dX5_addMould_49 : decode cX5_addMould 49 = .ok (.iconst 0, 1) := by decide +kernel
theorem dX5_addMould_50 : decode cX5_addMould 50 = .ok (.istore 4, 2) := by decide +kernel
theorem dX5_addMould_52 : decode cX5_addMould 52 = .ok (.iload 4, 2) := by decide +kernel
theorem dX5_addMould_54 : decode cX5_addMould 54 = .ok (.aload_n 0, 1) := by decide +kernel
theorem dX5_addMould_55 : decode cX5_addMould 55 = .ok (.getfield 68, 3) := by decide +kernel
theorem dX5_addMould_58 : decode cX5_addMould 58 = .ok (.if_icmp .ge 31, 3) := by decide +kernel
theorem dX5_addMould_61 : decode cX5_addMould 61 = .ok (.aload_n 0, 1) := by decide +kernel
theorem dX5_addMould_62 : decode cX5_addMould 62 = .ok (.getfield 23, 3) := by decide +kernel
theorem dX5_addMould_65 : decode cX5_addMould 65 = .ok (.bipush 10, 2) := by decide +kernel
theorem dX5_addMould_67 : decode cX5_addMould 67 = .ok (.aload_n 0, 1) := by decide +kernel
theorem dX5_addMould_68 : decode cX5_addMould 68 = .ok (.getfield 75, 3) := by decide +kernel
theorem dX5_addMould_71 : decode cX5_addMould 71 = .ok (.imul, 1) := by decide +kernel
theorem dX5_addMould_72 : decode cX5_addMould 72 = .ok (.iload 4, 2) := by decide +kernel
theorem dX5_addMould_74 : decode cX5_addMould 74 = .ok (.iadd, 1) := by decide +kernel
theorem dX5_addMould_75 : decode cX5_addMould 75 = .ok (.aload_n 0, 1) := by decide +kernel
theorem dX5_addMould_76 : decode cX5_addMould 76 = .ok (.getfield 7, 3) := by decide +kernel
theorem dX5_addMould_79 : decode cX5_addMould 79 = .ok (.iload 4, 2) := by decide +kernel
theorem dX5_addMould_81 : decode cX5_addMould 81 = .ok (.iaload, 1) := by decide +kernel
theorem dX5_addMould_82 : decode cX5_addMould 82 = .ok (.iastore, 1) := by decide +kernel
theorem dX5_addMould_83 : decode cX5_addMould 83 = .ok (.iinc 4 1, 3) := by decide +kernel
theorem dX5_addMould_86 : decode cX5_addMould 86 = .ok (.goto (-34), 3) := by decide +kernel
theorem dX5_addMould_89 : decode cX5_addMould 89 = .ok (.aload_n 0, 1) := by decide +kernel
theorem dX5_addMould_90 : decode cX5_addMould 90 = .ok (.getfield 26, 3) := by decide +kernel
theorem dX5_addMould_93 : decode cX5_addMould 93 = .ok (.aload_n 0, 1) := by decide +kernel
theorem dX5_addMould_94 : decode cX5_addMould 94 = .ok (.getfield 75, 3) := by decide +kernel
theorem dX5_addMould_97 : decode cX5_addMould 97 = .ok (.iload_n 1, 1) := by decide +kernel
theorem dX5_addMould_98 : decode cX5_addMould 98 = .ok (.iastore, 1) := by decide +kernel
theorem dX5_addMould_99 : decode cX5_addMould 99 = .ok (.aload_n 0, 1) := by decide +kernel
theorem dX5_addMould_100 : decode cX5_addMould 100 = .ok (.getfield 29, 3) := by decide +kernel
theorem dX5_addMould_103 : decode cX5_addMould 103 = .ok (.aload_n 0, 1) := by decide +kernel
theorem dX5_addMould_104 : decode cX5_addMould 104 = .ok (.getfield 75, 3) := by decide +kernel
theorem dX5_addMould_107 : decode cX5_addMould 107 = .ok (.iconst 0, 1) := by decide +kernel
theorem dX5_addMould_108 : decode cX5_addMould 108 = .ok (.iastore, 1) := by decide +kernel
theorem dX5_addMould_109 : decode cX5_addMould 109 = .ok (.aload_n 0, 1) := by decide +kernel
theorem dX5_addMould_110 : decode cX5_addMould 110 = .ok (.aload_n 0, 1) := by decide +kernel
theorem dX5_addMould_111 : decode cX5_addMould 111 = .ok (.getfield 75, 3) := by decide +kernel
theorem dX5_addMould_114 : decode cX5_addMould 114 = .ok (.iload_n 2, 1) := by decide +kernel
theorem dX5_addMould_115 : decode cX5_addMould 115 = .ok (.iload_n 3, 1) := by decide +kernel
theorem dX5_addMould_116 : decode cX5_addMould 116 = .ok (.invokevirtual 81, 3) := by decide +kernel
theorem dX5_addMould_119 : decode cX5_addMould 119 = .ok (.aload_n 0, 1) := by decide +kernel
theorem dX5_addMould_120 : decode cX5_addMould 120 = .ok (.dup, 1) := by decide +kernel
theorem dX5_addMould_121 : decode cX5_addMould 121 = .ok (.getfield 75, 3) := by decide +kernel
theorem dX5_addMould_124 : decode cX5_addMould 124 = .ok (.iconst 1, 1) := by decide +kernel
theorem dX5_addMould_125 : decode cX5_addMould 125 = .ok (.iadd, 1) := by decide +kernel
theorem dX5_addMould_126 : decode cX5_addMould 126 = .ok (.putfield 75, 3) := by decide +kernel
theorem dX5_addMould_129 : decode cX5_addMould 129 = .ok (.aload_n 0, 1) := by decide +kernel
theorem dX5_addMould_130 : decode cX5_addMould 130 = .ok (.getfield 75, 3) := by decide +kernel
theorem dX5_addMould_133 : decode cX5_addMould 133 = .ok (.iconst 1, 1) := by decide +kernel
theorem dX5_addMould_134 : decode cX5_addMould 134 = .ok (.isub, 1) := by decide +kernel
theorem dX5_addMould_135 : decode cX5_addMould 135 = .ok (.ireturn, 1) := by decide +kernel
theorem dX5_addState_0 : decode cX5_addState 0 = .ok (.aload_n 0, 1) := by decide +kernel
theorem dX5_addState_1 : decode cX5_addState 1 = .ok (.iload_n 1, 1) := by decide +kernel
theorem dX5_addState_2 : decode cX5_addState 2 = .ok (.invokevirtual 85, 3) := by decide +kernel
theorem dX5_addState_5 : decode cX5_addState 5 = .ok (.ifCond .eq 5, 3) := by decide +kernel
theorem dX5_addState_8 : decode cX5_addState 8 = .ok (.iconst (-1), 1) := by decide +kernel
theorem dX5_addState_9 : decode cX5_addState 9 = .ok (.ireturn, 1) := by decide +kernel
theorem dX5_addState_10 : decode cX5_addState 10 = .ok (.iload_n 2, 1) := by decide +kernel
theorem dX5_addState_11 : decode cX5_addState 11 = .ok (.iconst 0, 1) := by decide +kernel
theorem dX5_addState_12 : decode cX5_addState 12 = .ok (.aload_n 0, 1) := by decide +kernel
theorem dX5_addState_13 : decode cX5_addState 13 = .ok (.getfield 23, 3) := by decide +kernel
theorem dX5_addState_16 : decode cX5_addState 16 = .ok (.bipush 10, 2) := by decide +kernel
theorem dX5_addState_18 : decode cX5_addState 18 = .ok (.iload_n 1, 1) := by decide +kernel
theorem dX5_addState_19 : decode cX5_addState 19 = .ok (.imul, 1) := by decide +kernel
theorem dX5_addState_20 : decode cX5_addState 20 = .ok (.aload_n 0, 1) := by decide +kernel
theorem dX5_addState_21 : decode cX5_addState 21 = .ok (.getfield 26, 3) := by decide +kernel
theorem dX5_addState_24 : decode cX5_addState 24 = .ok (.iload_n 1, 1) := by decide +kernel
theorem dX5_addState_25 : decode cX5_addState 25 = .ok (.iaload, 1) := by decide +kernel
theorem dX5_addState_26 : decode cX5_addState 26 = .ok (.iadd, 1) := by decide +kernel
theorem dX5_addState_27 : decode cX5_addState 27 = .ok (.iaload, 1) := by decide +kernel
theorem dX5_addState_28 : decode cX5_addState 28 = .ok (.invokestatic 71, 3) := by decide +kernel
theorem dX5_addState_31 : decode cX5_addState 31 = .ok (.ifCond .eq 14, 3) := by decide +kernel
theorem dX5_addState_34 : decode cX5_addState 34 = .ok (.iload_n 3, 1) := by decide +kernel
theorem dX5_addState_35 : decode cX5_addState 35 = .ok (.iconst 0, 1) := by decide +kernel
theorem dX5_addState_36 : decode cX5_addState 36 = .ok (.sipush 300, 3) := by decide +kernel
theorem dX5_addState_39 : decode cX5_addState 39 = .ok (.invokestatic 71, 3) := by decide +kernel
theorem dX5_addState_42 : decode cX5_addState 42 = .ok (.ifCond .ne 6, 3) := by decide +kernel
theorem dX5_addState_45 : decode cX5_addState 45 = .ok (.bipush (-3), 2) := by decide +kernel
theorem dX5_addState_47 : decode cX5_addState 47 = .ok (.ireturn, 1) := by decide +kernel
theorem dX5_addState_48 : decode cX5_addState 48 = .ok (.aload_n 0, 1) := by decide +kernel
theorem dX5_addState_49 : decode cX5_addState 49 = .ok (.getfield 29, 3) := by decide +kernel
theorem dX5_addState_52 : decode cX5_addState 52 = .ok (.iload_n 1, 1) := by decide +kernel
theorem dX5_addState_53 : decode cX5_addState 53 = .ok (.iaload, 1) := by decide +kernel
theorem dX5_addState_54 : decode cX5_addState 54 = .ok (.bipush 6, 2) := by decide +kernel
theorem dX5_addState_56 : decode cX5_addState 56 = .ok (.if_icmp .ne 6, 3) := by decide +kernel
theorem dX5_addState_59 : decode cX5_addState 59 = .ok (.bipush (-5), 2) := by decide +kernel
theorem dX5_addState_61 : decode cX5_addState 61 = .ok (.ireturn, 1) := by decide +kernel
theorem dX5_addState_62 : decode cX5_addState 62 = .ok (.aload_n 0, 1) := by decide +kernel
theorem dX5_addState_63 : decode cX5_addState 63 = .ok (.iload_n 1, 1) := by decide +kernel
theorem dX5_addState_64 : decode cX5_addState 64 = .ok (.iload_n 2, 1) := by decide +kernel
theorem dX5_addState_65 : decode cX5_addState 65 = .ok (.iload_n 3, 1) := by decide +kernel
theorem dX5_addState_66 : decode cX5_addState 66 = .ok (.invokevirtual 81, 3) := by decide +kernel
theorem dX5_addState_69 : decode cX5_addState 69 = .ok (.aload_n 0, 1) := by decide +kernel
theorem dX5_addState_70 : decode cX5_addState 70 = .ok (.getfield 29, 3) := by decide +kernel
theorem dX5_addState_73 : decode cX5_addState 73 = .ok (.iload_n 1, 1) := by decide +kernel
theorem dX5_addState_74 : decode cX5_addState 74 = .ok (.iaload, 1) := by decide +kernel
theorem dX5_addState_75 : decode cX5_addState 75 = .ok (.iconst 1, 1) := by decide +kernel
theorem dX5_addState_76 : decode cX5_addState 76 = .ok (.isub, 1) := by decide +kernel
theorem dX5_addState_77 : decode cX5_addState 77 = .ok (.ireturn, 1) := by decide +kernel
theorem dX5_removeState_0 : decode cX5_removeState 0 = .ok (.aload_n 0, 1) := by decide +kernel
theorem dX5_removeState_1 : decode cX5_removeState 1 = .ok (.iload_n 1, 1) := by decide +kernel
theorem dX5_removeState_2 : decode cX5_removeState 2 = .ok (.invokevirtual 85, 3) := by decide +kernel
theorem dX5_removeState_5 : decode cX5_removeState 5 = .ok (.ifCond .eq 5, 3) := by decide +kernel
theorem dX5_removeState_8 : decode cX5_removeState 8 = .ok (.iconst (-1), 1) := by decide +kernel
theorem dX5_removeState_9 : decode cX5_removeState 9 = .ok (.ireturn, 1) := by decide +kernel
theorem dX5_removeState_10 : decode cX5_removeState 10 = .ok (.aload_n 0, 1) := by decide +kernel
theorem dX5_removeState_11 : decode cX5_removeState 11 = .ok (.getfield 29, 3) := by decide +kernel
theorem dX5_removeState_14 : decode cX5_removeState 14 = .ok (.iload_n 1, 1) := by decide +kernel
theorem dX5_removeState_15 : decode cX5_removeState 15 = .ok (.iaload, 1) := by decide +kernel
theorem dX5_removeState_16 : decode cX5_removeState 16 = .ok (.iconst 1, 1) := by decide +kernel
theorem dX5_removeState_17 : decode cX5_removeState 17 = .ok (.if_icmp .ne 6, 3) := by decide +kernel
theorem dX5_removeState_20 : decode cX5_removeState 20 = .ok (.bipush (-6), 2) := by decide +kernel
theorem dX5_removeState_22 : decode cX5_removeState 22 = .ok (.ireturn, 1) := by decide +kernel
theorem dX5_removeState_23 : decode cX5_removeState 23 = .ok (.aload_n 0, 1) := by decide +kernel
theorem dX5_removeState_24 : decode cX5_removeState 24 = .ok (.getfield 29, 3) := by decide +kernel
theorem dX5_removeState_27 : decode cX5_removeState 27 = .ok (.iload_n 1, 1) := by decide +kernel
theorem dX5_removeState_28 : decode cX5_removeState 28 = .ok (.dup2, 1) := by decide +kernel
theorem dX5_removeState_29 : decode cX5_removeState 29 = .ok (.iaload, 1) := by decide +kernel
theorem dX5_removeState_30 : decode cX5_removeState 30 = .ok (.iconst 1, 1) := by decide +kernel
theorem dX5_removeState_31 : decode cX5_removeState 31 = .ok (.isub, 1) := by decide +kernel
theorem dX5_removeState_32 : decode cX5_removeState 32 = .ok (.iastore, 1) := by decide +kernel
theorem dX5_removeState_33 : decode cX5_removeState 33 = .ok (.aload_n 0, 1) := by decide +kernel
theorem dX5_removeState_34 : decode cX5_removeState 34 = .ok (.getfield 29, 3) := by decide +kernel
theorem dX5_removeState_37 : decode cX5_removeState 37 = .ok (.iload_n 1, 1) := by decide +kernel
theorem dX5_removeState_38 : decode cX5_removeState 38 = .ok (.iaload, 1) := by decide +kernel
theorem dX5_removeState_39 : decode cX5_removeState 39 = .ok (.ireturn, 1) := by decide +kernel
theorem dX5_stateCount_0 : decode cX5_stateCount 0 = .ok (.aload_n 0, 1) := by decide +kernel
theorem dX5_stateCount_1 : decode cX5_stateCount 1 = .ok (.iload_n 1, 1) := by decide +kernel
theorem dX5_stateCount_2 : decode cX5_stateCount 2 = .ok (.invokevirtual 85, 3) := by decide +kernel
theorem dX5_stateCount_5 : decode cX5_stateCount 5 = .ok (.ifCond .eq 7, 3) := by decide +kernel
theorem dX5_stateCount_8 : decode cX5_stateCount 8 = .ok (.iconst (-1), 1) := by decide +kernel
theorem dX5_stateCount_9 : decode cX5_stateCount 9 = .ok (.goto 9, 3) := by decide +kernel
theorem dX5_stateCount_12 : decode cX5_stateCount 12 = .ok (.aload_n 0, 1) := by decide +kernel
theorem dX5_stateCount_13 : decode cX5_stateCount 13 = .ok (.getfield 29, 3) := by decide +kernel
theorem dX5_stateCount_16 : decode cX5_stateCount 16 = .ok (.iload_n 1, 1) := by decide +kernel
theorem dX5_stateCount_17 : decode cX5_stateCount 17 = .ok (.iaload, 1) := by decide +kernel
theorem dX5_stateCount_18 : decode cX5_stateCount 18 = .ok (.ireturn, 1) := by decide +kernel
theorem dX5_twinSpacings_0 : decode cX5_twinSpacings 0 = .ok (.aload_n 0, 1) := by decide +kernel
theorem dX5_twinSpacings_1 : decode cX5_twinSpacings 1 = .ok (.getfield 20, 3) := by decide +kernel
theorem dX5_twinSpacings_4 : decode cX5_twinSpacings 4 = .ok (.iload_n 1, 1) := by decide +kernel
theorem dX5_twinSpacings_5 : decode cX5_twinSpacings 5 = .ok (.iaload, 1) := by decide +kernel
theorem dX5_twinSpacings_6 : decode cX5_twinSpacings 6 = .ok (.aload_n 0, 1) := by decide +kernel
theorem dX5_twinSpacings_7 : decode cX5_twinSpacings 7 = .ok (.getfield 20, 3) := by decide +kernel
theorem dX5_twinSpacings_10 : decode cX5_twinSpacings 10 = .ok (.iload_n 2, 1) := by decide +kernel
theorem dX5_twinSpacings_11 : decode cX5_twinSpacings 11 = .ok (.iaload, 1) := by decide +kernel
theorem dX5_twinSpacings_12 : decode cX5_twinSpacings 12 = .ok (.if_icmp .ne 18, 3) := by decide +kernel
theorem dX5_twinSpacings_15 : decode cX5_twinSpacings 15 = .ok (.aload_n 0, 1) := by decide +kernel
theorem dX5_twinSpacings_16 : decode cX5_twinSpacings 16 = .ok (.getfield 26, 3) := by decide +kernel
theorem dX5_twinSpacings_19 : decode cX5_twinSpacings 19 = .ok (.iload_n 1, 1) := by decide +kernel
theorem dX5_twinSpacings_20 : decode cX5_twinSpacings 20 = .ok (.iaload, 1) := by decide +kernel
theorem dX5_twinSpacings_21 : decode cX5_twinSpacings 21 = .ok (.aload_n 0, 1) := by decide +kernel
theorem dX5_twinSpacings_22 : decode cX5_twinSpacings 22 = .ok (.getfield 26, 3) := by decide +kernel
theorem dX5_twinSpacings_25 : decode cX5_twinSpacings 25 = .ok (.iload_n 2, 1) := by decide +kernel
theorem dX5_twinSpacings_26 : decode cX5_twinSpacings 26 = .ok (.iaload, 1) := by decide +kernel
theorem dX5_twinSpacings_27 : decode cX5_twinSpacings 27 = .ok (.if_icmp .eq 6, 3) := by decide +kernel
theorem dX5_twinSpacings_30 : decode cX5_twinSpacings 30 = .ok (.bipush (-6), 2) := by decide +kernel
theorem dX5_twinSpacings_32 : decode cX5_twinSpacings 32 = .ok (.ireturn, 1) := by decide +kernel
theorem dX5_twinSpacings_33 : decode cX5_twinSpacings 33 = .ok (.iconst 0, 1) := by decide +kernel
theorem dX5_twinSpacings_34 : decode cX5_twinSpacings 34 = .ok (.istore_n 3, 1) := by decide +kernel
theorem dX5_twinSpacings_35 : decode cX5_twinSpacings 35 = .ok (.iconst 0, 1) := by decide +kernel
theorem dX5_twinSpacings_36 : decode cX5_twinSpacings 36 = .ok (.istore 4, 2) := by decide +kernel
theorem dX5_twinSpacings_38 : decode cX5_twinSpacings 38 = .ok (.iload 4, 2) := by decide +kernel
theorem dX5_twinSpacings_40 : decode cX5_twinSpacings 40 = .ok (.aload_n 0, 1) := by decide +kernel
theorem dX5_twinSpacings_41 : decode cX5_twinSpacings 41 = .ok (.getfield 20, 3) := by decide +kernel
theorem dX5_twinSpacings_44 : decode cX5_twinSpacings 44 = .ok (.iload_n 1, 1) := by decide +kernel
theorem dX5_twinSpacings_45 : decode cX5_twinSpacings 45 = .ok (.iaload, 1) := by decide +kernel
theorem dX5_twinSpacings_46 : decode cX5_twinSpacings 46 = .ok (.if_icmp .ge 51, 3) := by decide +kernel
theorem dX5_twinSpacings_49 : decode cX5_twinSpacings 49 = .ok (.aload_n 0, 1) := by decide +kernel
theorem dX5_twinSpacings_50 : decode cX5_twinSpacings 50 = .ok (.getfield 23, 3) := by decide +kernel
theorem dX5_twinSpacings_53 : decode cX5_twinSpacings 53 = .ok (.bipush 10, 2) := by decide +kernel
theorem dX5_twinSpacings_55 : decode cX5_twinSpacings 55 = .ok (.iload_n 1, 1) := by decide +kernel
theorem dX5_twinSpacings_56 : decode cX5_twinSpacings 56 = .ok (.imul, 1) := by decide +kernel
theorem dX5_twinSpacings_57 : decode cX5_twinSpacings 57 = .ok (.iload 4, 2) := by decide +kernel
theorem dX5_twinSpacings_59 : decode cX5_twinSpacings 59 = .ok (.iadd, 1) := by decide +kernel
theorem dX5_twinSpacings_60 : decode cX5_twinSpacings 60 = .ok (.iaload, 1) := by decide +kernel
theorem dX5_twinSpacings_61 : decode cX5_twinSpacings 61 = .ok (.aload_n 0, 1) := by decide +kernel
theorem dX5_twinSpacings_62 : decode cX5_twinSpacings 62 = .ok (.getfield 23, 3) := by decide +kernel
theorem dX5_twinSpacings_65 : decode cX5_twinSpacings 65 = .ok (.bipush 10, 2) := by decide +kernel
theorem dX5_twinSpacings_67 : decode cX5_twinSpacings 67 = .ok (.iload_n 2, 1) := by decide +kernel
theorem dX5_twinSpacings_68 : decode cX5_twinSpacings 68 = .ok (.imul, 1) := by decide +kernel
theorem dX5_twinSpacings_69 : decode cX5_twinSpacings 69 = .ok (.iload 4, 2) := by decide +kernel
theorem dX5_twinSpacings_71 : decode cX5_twinSpacings 71 = .ok (.iadd, 1) := by decide +kernel
theorem dX5_twinSpacings_72 : decode cX5_twinSpacings 72 = .ok (.iaload, 1) := by decide +kernel
theorem dX5_twinSpacings_73 : decode cX5_twinSpacings 73 = .ok (.invokestatic 89, 3) := by decide +kernel
theorem dX5_twinSpacings_76 : decode cX5_twinSpacings 76 = .ok (.istore 5, 2) := by decide +kernel
theorem dX5_twinSpacings_78 : decode cX5_twinSpacings 78 = .ok (.iload 5, 2) := by decide +kernel
theorem dX5_twinSpacings_80 : decode cX5_twinSpacings 80 = .ok (.iload_n 3, 1) := by decide +kernel
theorem dX5_twinSpacings_81 : decode cX5_twinSpacings 81 = .ok (.if_icmp .le 8, 3) := by decide +kernel
theorem dX5_twinSpacings_84 : decode cX5_twinSpacings 84 = .ok (.iload 5, 2) := by decide +kernel
theorem dX5_twinSpacings_86 : decode cX5_twinSpacings 86 = .ok (.goto 4, 3) := by decide +kernel
theorem dX5_twinSpacings_89 : decode cX5_twinSpacings 89 = .ok (.iload_n 3, 1) := by decide +kernel
theorem dX5_twinSpacings_90 : decode cX5_twinSpacings 90 = .ok (.istore_n 3, 1) := by decide +kernel
theorem dX5_twinSpacings_91 : decode cX5_twinSpacings 91 = .ok (.iinc 4 1, 3) := by decide +kernel
theorem dX5_twinSpacings_94 : decode cX5_twinSpacings 94 = .ok (.goto (-56), 3) := by decide +kernel
theorem dX5_twinSpacings_97 : decode cX5_twinSpacings 97 = .ok (.iload_n 3, 1) := by decide +kernel
theorem dX5_twinSpacings_98 : decode cX5_twinSpacings 98 = .ok (.aload_n 0, 1) := by decide +kernel
theorem dX5_twinSpacings_99 : decode cX5_twinSpacings 99 = .ok (.getfield 13, 3) := by decide +kernel
theorem dX5_twinSpacings_102 : decode cX5_twinSpacings 102 = .ok (.if_icmp .le 8, 3) := by decide +kernel
theorem dX5_twinSpacings_105 : decode cX5_twinSpacings 105 = .ok (.bipush (-6), 2) := by decide +kernel
theorem dX5_twinSpacings_107 : decode cX5_twinSpacings 107 = .ok (.goto 4, 3) := by decide +kernel
theorem dX5_twinSpacings_110 : decode cX5_twinSpacings 110 = .ok (.iload_n 3, 1) := by decide +kernel
theorem dX5_twinSpacings_111 : decode cX5_twinSpacings 111 = .ok (.ireturn, 1) := by decide +kernel
theorem dX5_twoBarred_0 : decode cX5_twoBarred 0 = .ok (.aload_n 0, 1) := by decide +kernel
theorem dX5_twoBarred_1 : decode cX5_twoBarred 1 = .ok (.iload_n 1, 1) := by decide +kernel
theorem dX5_twoBarred_2 : decode cX5_twoBarred 2 = .ok (.invokevirtual 85, 3) := by decide +kernel
theorem dX5_twoBarred_5 : decode cX5_twoBarred 5 = .ok (.ifCond .ne 11, 3) := by decide +kernel
theorem dX5_twoBarred_8 : decode cX5_twoBarred 8 = .ok (.aload_n 0, 1) := by decide +kernel
theorem dX5_twoBarred_9 : decode cX5_twoBarred 9 = .ok (.iload_n 2, 1) := by decide +kernel
theorem dX5_twoBarred_10 : decode cX5_twoBarred 10 = .ok (.invokevirtual 85, 3) := by decide +kernel
theorem dX5_twoBarred_13 : decode cX5_twoBarred 13 = .ok (.ifCond .eq 7, 3) := by decide +kernel
theorem dX5_twoBarred_16 : decode cX5_twoBarred 16 = .ok (.iconst (-1), 1) := by decide +kernel
theorem dX5_twoBarred_17 : decode cX5_twoBarred 17 = .ok (.goto 14, 3) := by decide +kernel
theorem dX5_twoBarred_20 : decode cX5_twoBarred 20 = .ok (.iload_n 1, 1) := by decide +kernel
theorem dX5_twoBarred_21 : decode cX5_twoBarred 21 = .ok (.iload_n 2, 1) := by decide +kernel
theorem dX5_twoBarred_22 : decode cX5_twoBarred 22 = .ok (.if_icmp .ne 8, 3) := by decide +kernel
theorem dX5_twoBarred_25 : decode cX5_twoBarred 25 = .ok (.bipush (-3), 2) := by decide +kernel
theorem dX5_twoBarred_27 : decode cX5_twoBarred 27 = .ok (.goto 4, 3) := by decide +kernel
theorem dX5_twoBarred_30 : decode cX5_twoBarred 30 = .ok (.iconst 0, 1) := by decide +kernel
theorem dX5_twoBarred_31 : decode cX5_twoBarred 31 = .ok (.ireturn, 1) := by decide +kernel
theorem dX5_areTwins_0 : decode cX5_areTwins 0 = .ok (.aload_n 0, 1) := by decide +kernel
theorem dX5_areTwins_1 : decode cX5_areTwins 1 = .ok (.iload_n 1, 1) := by decide +kernel
theorem dX5_areTwins_2 : decode cX5_areTwins 2 = .ok (.iload_n 2, 1) := by decide +kernel
theorem dX5_areTwins_3 : decode cX5_areTwins 3 = .ok (.invokevirtual 93, 3) := by decide +kernel
theorem dX5_areTwins_6 : decode cX5_areTwins 6 = .ok (.istore_n 3, 1) := by decide +kernel
theorem dX5_areTwins_7 : decode cX5_areTwins 7 = .ok (.iload_n 3, 1) := by decide +kernel
theorem dX5_areTwins_8 : decode cX5_areTwins 8 = .ok (.ifCond .ge 7, 3) := by decide +kernel
theorem dX5_areTwins_11 : decode cX5_areTwins 11 = .ok (.iload_n 3, 1) := by decide +kernel
theorem dX5_areTwins_12 : decode cX5_areTwins 12 = .ok (.goto 17, 3) := by decide +kernel
theorem dX5_areTwins_15 : decode cX5_areTwins 15 = .ok (.aload_n 0, 1) := by decide +kernel
theorem dX5_areTwins_16 : decode cX5_areTwins 16 = .ok (.iload_n 1, 1) := by decide +kernel
theorem dX5_areTwins_17 : decode cX5_areTwins 17 = .ok (.iload_n 2, 1) := by decide +kernel
theorem dX5_areTwins_18 : decode cX5_areTwins 18 = .ok (.invokevirtual 96, 3) := by decide +kernel
theorem dX5_areTwins_21 : decode cX5_areTwins 21 = .ok (.ifCond .ge 7, 3) := by decide +kernel
theorem dX5_areTwins_24 : decode cX5_areTwins 24 = .ok (.iconst 0, 1) := by decide +kernel
theorem dX5_areTwins_25 : decode cX5_areTwins 25 = .ok (.goto 4, 3) := by decide +kernel
theorem dX5_areTwins_28 : decode cX5_areTwins 28 = .ok (.iconst 1, 1) := by decide +kernel
theorem dX5_areTwins_29 : decode cX5_areTwins 29 = .ok (.ireturn, 1) := by decide +kernel
theorem dX5_twinDifference_0 : decode cX5_twinDifference 0 = .ok (.aload_n 0, 1) := by decide +kernel
theorem dX5_twinDifference_1 : decode cX5_twinDifference 1 = .ok (.iload_n 1, 1) := by decide +kernel
theorem dX5_twinDifference_2 : decode cX5_twinDifference 2 = .ok (.iload_n 2, 1) := by decide +kernel
theorem dX5_twinDifference_3 : decode cX5_twinDifference 3 = .ok (.invokevirtual 93, 3) := by decide +kernel
theorem dX5_twinDifference_6 : decode cX5_twinDifference 6 = .ok (.istore_n 3, 1) := by decide +kernel
theorem dX5_twinDifference_7 : decode cX5_twinDifference 7 = .ok (.iload_n 3, 1) := by decide +kernel
theorem dX5_twinDifference_8 : decode cX5_twinDifference 8 = .ok (.ifCond .ge 5, 3) := by decide +kernel
theorem dX5_twinDifference_11 : decode cX5_twinDifference 11 = .ok (.iload_n 3, 1) := by decide +kernel
theorem dX5_twinDifference_12 : decode cX5_twinDifference 12 = .ok (.ireturn, 1) := by decide +kernel
theorem dX5_twinDifference_13 : decode cX5_twinDifference 13 = .ok (.aload_n 0, 1) := by decide +kernel
theorem dX5_twinDifference_14 : decode cX5_twinDifference 14 = .ok (.iload_n 1, 1) := by decide +kernel
theorem dX5_twinDifference_15 : decode cX5_twinDifference 15 = .ok (.iload_n 2, 1) := by decide +kernel
theorem dX5_twinDifference_16 : decode cX5_twinDifference 16 = .ok (.invokevirtual 96, 3) := by decide +kernel
theorem dX5_twinDifference_19 : decode cX5_twinDifference 19 = .ok (.istore 4, 2) := by decide +kernel
theorem dX5_twinDifference_21 : decode cX5_twinDifference 21 = .ok (.aload_n 0, 1) := by decide +kernel
theorem dX5_twinDifference_22 : decode cX5_twinDifference 22 = .ok (.getfield 32, 3) := by decide +kernel
theorem dX5_twinDifference_25 : decode cX5_twinDifference 25 = .ok (.bipush 6, 2) := by decide +kernel
theorem dX5_twinDifference_27 : decode cX5_twinDifference 27 = .ok (.iload_n 1, 1) := by decide +kernel
theorem dX5_twinDifference_28 : decode cX5_twinDifference 28 = .ok (.imul, 1) := by decide +kernel
theorem dX5_twinDifference_29 : decode cX5_twinDifference 29 = .ok (.iaload, 1) := by decide +kernel
theorem dX5_twinDifference_30 : decode cX5_twinDifference 30 = .ok (.aload_n 0, 1) := by decide +kernel
theorem dX5_twinDifference_31 : decode cX5_twinDifference 31 = .ok (.getfield 32, 3) := by decide +kernel
theorem dX5_twinDifference_34 : decode cX5_twinDifference 34 = .ok (.bipush 6, 2) := by decide +kernel
theorem dX5_twinDifference_36 : decode cX5_twinDifference 36 = .ok (.iload_n 2, 1) := by decide +kernel
theorem dX5_twinDifference_37 : decode cX5_twinDifference 37 = .ok (.imul, 1) := by decide +kernel
theorem dX5_twinDifference_38 : decode cX5_twinDifference 38 = .ok (.iaload, 1) := by decide +kernel
theorem dX5_twinDifference_39 : decode cX5_twinDifference 39 = .ok (.invokestatic 89, 3) := by decide +kernel
theorem dX5_twinDifference_42 : decode cX5_twinDifference 42 = .ok (.istore 5, 2) := by decide +kernel
theorem dX5_twinDifference_44 : decode cX5_twinDifference 44 = .ok (.aload_n 0, 1) := by decide +kernel
theorem dX5_twinDifference_45 : decode cX5_twinDifference 45 = .ok (.getfield 35, 3) := by decide +kernel
theorem dX5_twinDifference_48 : decode cX5_twinDifference 48 = .ok (.bipush 6, 2) := by decide +kernel
theorem dX5_twinDifference_50 : decode cX5_twinDifference 50 = .ok (.iload_n 1, 1) := by decide +kernel
theorem dX5_twinDifference_51 : decode cX5_twinDifference 51 = .ok (.imul, 1) := by decide +kernel
theorem dX5_twinDifference_52 : decode cX5_twinDifference 52 = .ok (.iaload, 1) := by decide +kernel
theorem dX5_twinDifference_53 : decode cX5_twinDifference 53 = .ok (.aload_n 0, 1) := by decide +kernel
theorem dX5_twinDifference_54 : decode cX5_twinDifference 54 = .ok (.getfield 35, 3) := by decide +kernel
theorem dX5_twinDifference_57 : decode cX5_twinDifference 57 = .ok (.bipush 6, 2) := by decide +kernel
theorem dX5_twinDifference_59 : decode cX5_twinDifference 59 = .ok (.iload_n 2, 1) := by decide +kernel
theorem dX5_twinDifference_60 : decode cX5_twinDifference 60 = .ok (.imul, 1) := by decide +kernel
theorem dX5_twinDifference_61 : decode cX5_twinDifference 61 = .ok (.iaload, 1) := by decide +kernel
theorem dX5_twinDifference_62 : decode cX5_twinDifference 62 = .ok (.invokestatic 89, 3) := by decide +kernel
theorem dX5_twinDifference_65 : decode cX5_twinDifference 65 = .ok (.istore 6, 2) := by decide +kernel
theorem dX5_twinDifference_67 : decode cX5_twinDifference 67 = .ok (.iload 4, 2) := by decide +kernel
theorem dX5_twinDifference_69 : decode cX5_twinDifference 69 = .ok (.ifCond .ge 6, 3) := by decide +kernel
theorem dX5_twinDifference_72 : decode cX5_twinDifference 72 = .ok (.bipush (-6), 2) := by decide +kernel
theorem dX5_twinDifference_74 : decode cX5_twinDifference 74 = .ok (.ireturn, 1) := by decide +kernel
theorem dX5_twinDifference_75 : decode cX5_twinDifference 75 = .ok (.iload 5, 2) := by decide +kernel
theorem dX5_twinDifference_77 : decode cX5_twinDifference 77 = .ok (.iload 4, 2) := by decide +kernel
theorem dX5_twinDifference_79 : decode cX5_twinDifference 79 = .ok (.if_icmp .le 8, 3) := by decide +kernel
theorem dX5_twinDifference_82 : decode cX5_twinDifference 82 = .ok (.iload 5, 2) := by decide +kernel
theorem dX5_twinDifference_84 : decode cX5_twinDifference 84 = .ok (.goto 5, 3) := by decide +kernel
theorem dX5_twinDifference_87 : decode cX5_twinDifference 87 = .ok (.iload 4, 2) := by decide +kernel
theorem dX5_twinDifference_89 : decode cX5_twinDifference 89 = .ok (.istore 4, 2) := by decide +kernel
theorem dX5_twinDifference_91 : decode cX5_twinDifference 91 = .ok (.iload 6, 2) := by decide +kernel
theorem dX5_twinDifference_93 : decode cX5_twinDifference 93 = .ok (.iload 4, 2) := by decide +kernel
theorem dX5_twinDifference_95 : decode cX5_twinDifference 95 = .ok (.if_icmp .le 8, 3) := by decide +kernel
theorem dX5_twinDifference_98 : decode cX5_twinDifference 98 = .ok (.iload 6, 2) := by decide +kernel
theorem dX5_twinDifference_100 : decode cX5_twinDifference 100 = .ok (.goto 5, 3) := by decide +kernel
theorem dX5_twinDifference_103 : decode cX5_twinDifference 103 = .ok (.iload 4, 2) := by decide +kernel
theorem dX5_twinDifference_105 : decode cX5_twinDifference 105 = .ok (.ireturn, 1) := by decide +kernel
theorem dX5_noSheet_0 : decode cX5_noSheet 0 = .ok (.iload_n 1, 1) := by decide +kernel
theorem dX5_noSheet_1 : decode cX5_noSheet 1 = .ok (.iconst 0, 1) := by decide +kernel
theorem dX5_noSheet_2 : decode cX5_noSheet 2 = .ok (.aload_n 0, 1) := by decide +kernel
theorem dX5_noSheet_3 : decode cX5_noSheet 3 = .ok (.getfield 99, 3) := by decide +kernel
theorem dX5_noSheet_6 : decode cX5_noSheet 6 = .ok (.iconst 1, 1) := by decide +kernel
theorem dX5_noSheet_7 : decode cX5_noSheet 7 = .ok (.isub, 1) := by decide +kernel
theorem dX5_noSheet_8 : decode cX5_noSheet 8 = .ok (.invokestatic 71, 3) := by decide +kernel
theorem dX5_noSheet_11 : decode cX5_noSheet 11 = .ok (.ifCond .ne 7, 3) := by decide +kernel
theorem dX5_noSheet_14 : decode cX5_noSheet 14 = .ok (.iconst 1, 1) := by decide +kernel
theorem dX5_noSheet_15 : decode cX5_noSheet 15 = .ok (.goto 4, 3) := by decide +kernel
theorem dX5_noSheet_18 : decode cX5_noSheet 18 = .ok (.iconst 0, 1) := by decide +kernel
theorem dX5_noSheet_19 : decode cX5_noSheet 19 = .ok (.ireturn, 1) := by decide +kernel
theorem dX5_addSheet_0 : decode cX5_addSheet 0 = .ok (.aload_n 0, 1) := by decide +kernel
theorem dX5_addSheet_1 : decode cX5_addSheet 1 = .ok (.getfield 68, 3) := by decide +kernel
theorem dX5_addSheet_4 : decode cX5_addSheet 4 = .ok (.iconst 2, 1) := by decide +kernel
theorem dX5_addSheet_5 : decode cX5_addSheet 5 = .ok (.if_icmp .ge 6, 3) := by decide +kernel
theorem dX5_addSheet_8 : decode cX5_addSheet 8 = .ok (.bipush (-4), 2) := by decide +kernel
theorem dX5_addSheet_10 : decode cX5_addSheet 10 = .ok (.ireturn, 1) := by decide +kernel
theorem dX5_addSheet_11 : decode cX5_addSheet 11 = .ok (.iload_n 1, 1) := by decide +kernel
theorem dX5_addSheet_12 : decode cX5_addSheet 12 = .ok (.iconst (-1), 1) := by decide +kernel
theorem dX5_addSheet_13 : decode cX5_addSheet 13 = .ok (.if_icmp .eq 16, 3) := by decide +kernel
theorem dX5_addSheet_16 : decode cX5_addSheet 16 = .ok (.aload_n 0, 1) := by decide +kernel
theorem dX5_addSheet_17 : decode cX5_addSheet 17 = .ok (.iload_n 1, 1) := by decide +kernel
theorem dX5_addSheet_18 : decode cX5_addSheet 18 = .ok (.iload_n 2, 1) := by decide +kernel
theorem dX5_addSheet_19 : decode cX5_addSheet 19 = .ok (.iload_n 3, 1) := by decide +kernel
theorem dX5_addSheet_20 : decode cX5_addSheet 20 = .ok (.invokevirtual 78, 3) := by decide +kernel
theorem dX5_addSheet_23 : decode cX5_addSheet 23 = .ok (.ifCond .ne 6, 3) := by decide +kernel
theorem dX5_addSheet_26 : decode cX5_addSheet 26 = .ok (.bipush (-3), 2) := by decide +kernel
theorem dX5_addSheet_28 : decode cX5_addSheet 28 = .ok (.ireturn, 1) := by decide +kernel
theorem dX5_addSheet_29 : decode cX5_addSheet 29 = .ok (.aload_n 0, 1) := by decide +kernel
theorem dX5_addSheet_30 : decode cX5_addSheet 30 = .ok (.getfield 99, 3) := by decide +kernel
theorem dX5_addSheet_33 : decode cX5_addSheet 33 = .ok (.bipush 30, 2) := by decide +kernel
theorem dX5_addSheet_35 : decode cX5_addSheet 35 = .ok (.if_icmp .ne 6, 3) := by decide +kernel
theorem dX5_addSheet_38 : decode cX5_addSheet 38 = .ok (.bipush (-5), 2) := by decide +kernel
theorem dX5_addSheet_40 : decode cX5_addSheet 40 = .ok (.ireturn, 1) := by decide +kernel
theorem dX5_addSheet_41 : decode cX5_addSheet 41 = .ok (.aload_n 0, 1) := by decide +kernel
theorem dX5_addSheet_42 : decode cX5_addSheet 42 = .ok (.getfield 38, 3) := by decide +kernel
theorem dX5_addSheet_45 : decode cX5_addSheet 45 = .ok (.aload_n 0, 1) := by decide +kernel
theorem dX5_addSheet_46 : decode cX5_addSheet 46 = .ok (.getfield 99, 3) := by decide +kernel
theorem dX5_addSheet_49 : decode cX5_addSheet 49 = .ok (.aload_n 0, 1) := by decide +kernel
theorem dX5_addSheet_50 : decode cX5_addSheet 50 = .ok (.getfield 68, 3) := by decide +kernel
theorem dX5_addSheet_53 : decode cX5_addSheet 53 = .ok (.iastore, 1) := by decide +kernel
theorem dX5_addSheet_54 : decode cX5_addSheet 54 = .ok (.iconst 0, 1) := by decide +kernel
theorem dX5_addSheet_55 : decode cX5_addSheet 55 = .ok (.istore 4, 2) := by decide +kernel
theorem dX5_addSheet_57 : decode cX5_addSheet 57 = .ok (.iload 4, 2) := by decide +kernel
theorem dX5_addSheet_59 : decode cX5_addSheet 59 = .ok (.aload_n 0, 1) := by decide +kernel
theorem dX5_addSheet_60 : decode cX5_addSheet 60 = .ok (.getfield 68, 3) := by decide +kernel
theorem dX5_addSheet_63 : decode cX5_addSheet 63 = .ok (.if_icmp .ge 31, 3) := by decide +kernel
theorem dX5_addSheet_66 : decode cX5_addSheet 66 = .ok (.aload_n 0, 1) := by decide +kernel
theorem dX5_addSheet_67 : decode cX5_addSheet 67 = .ok (.getfield 41, 3) := by decide +kernel
theorem dX5_addSheet_70 : decode cX5_addSheet 70 = .ok (.bipush 10, 2) := by decide +kernel
theorem dX5_addSheet_72 : decode cX5_addSheet 72 = .ok (.aload_n 0, 1) := by decide +kernel
theorem dX5_addSheet_73 : decode cX5_addSheet 73 = .ok (.getfield 99, 3) := by decide +kernel
theorem dX5_addSheet_76 : decode cX5_addSheet 76 = .ok (.imul, 1) := by decide +kernel
theorem dX5_addSheet_77 : decode cX5_addSheet 77 = .ok (.iload 4, 2) := by decide +kernel
theorem dX5_addSheet_79 : decode cX5_addSheet 79 = .ok (.iadd, 1) := by decide +kernel
theorem dX5_addSheet_80 : decode cX5_addSheet 80 = .ok (.aload_n 0, 1) := by decide +kernel
theorem dX5_addSheet_81 : decode cX5_addSheet 81 = .ok (.getfield 7, 3) := by decide +kernel
theorem dX5_addSheet_84 : decode cX5_addSheet 84 = .ok (.iload 4, 2) := by decide +kernel
theorem dX5_addSheet_86 : decode cX5_addSheet 86 = .ok (.iaload, 1) := by decide +kernel
theorem dX5_addSheet_87 : decode cX5_addSheet 87 = .ok (.iastore, 1) := by decide +kernel
theorem dX5_addSheet_88 : decode cX5_addSheet 88 = .ok (.iinc 4 1, 3) := by decide +kernel
theorem dX5_addSheet_91 : decode cX5_addSheet 91 = .ok (.goto (-34), 3) := by decide +kernel
theorem dX5_addSheet_94 : decode cX5_addSheet 94 = .ok (.aload_n 0, 1) := by decide +kernel
theorem dX5_addSheet_95 : decode cX5_addSheet 95 = .ok (.getfield 44, 3) := by decide +kernel
theorem dX5_addSheet_98 : decode cX5_addSheet 98 = .ok (.aload_n 0, 1) := by decide +kernel
theorem dX5_addSheet_99 : decode cX5_addSheet 99 = .ok (.getfield 99, 3) := by decide +kernel
theorem dX5_addSheet_102 : decode cX5_addSheet 102 = .ok (.iload_n 1, 1) := by decide +kernel
theorem dX5_addSheet_103 : decode cX5_addSheet 103 = .ok (.iastore, 1) := by decide +kernel
theorem dX5_addSheet_104 : decode cX5_addSheet 104 = .ok (.aload_n 0, 1) := by decide +kernel
theorem dX5_addSheet_105 : decode cX5_addSheet 105 = .ok (.getfield 47, 3) := by decide +kernel
theorem dX5_addSheet_108 : decode cX5_addSheet 108 = .ok (.aload_n 0, 1) := by decide +kernel
theorem dX5_addSheet_109 : decode cX5_addSheet 109 = .ok (.getfield 99, 3) := by decide +kernel
theorem dX5_addSheet_112 : decode cX5_addSheet 112 = .ok (.iload_n 2, 1) := by decide +kernel
theorem dX5_addSheet_113 : decode cX5_addSheet 113 = .ok (.iastore, 1) := by decide +kernel
theorem dX5_addSheet_114 : decode cX5_addSheet 114 = .ok (.aload_n 0, 1) := by decide +kernel
theorem dX5_addSheet_115 : decode cX5_addSheet 115 = .ok (.getfield 50, 3) := by decide +kernel
theorem dX5_addSheet_118 : decode cX5_addSheet 118 = .ok (.aload_n 0, 1) := by decide +kernel
theorem dX5_addSheet_119 : decode cX5_addSheet 119 = .ok (.getfield 99, 3) := by decide +kernel
theorem dX5_addSheet_122 : decode cX5_addSheet 122 = .ok (.iload_n 3, 1) := by decide +kernel
theorem dX5_addSheet_123 : decode cX5_addSheet 123 = .ok (.iastore, 1) := by decide +kernel
theorem dX5_addSheet_124 : decode cX5_addSheet 124 = .ok (.aload_n 0, 1) := by decide +kernel
theorem dX5_addSheet_125 : decode cX5_addSheet 125 = .ok (.getfield 53, 3) := by decide +kernel
theorem dX5_addSheet_128 : decode cX5_addSheet 128 = .ok (.aload_n 0, 1) := by decide +kernel
theorem dX5_addSheet_129 : decode cX5_addSheet 129 = .ok (.getfield 99, 3) := by decide +kernel
theorem dX5_addSheet_132 : decode cX5_addSheet 132 = .ok (.iconst 0, 1) := by decide +kernel
theorem dX5_addSheet_133 : decode cX5_addSheet 133 = .ok (.iastore, 1) := by decide +kernel
theorem dX5_addSheet_134 : decode cX5_addSheet 134 = .ok (.aload_n 0, 1) := by decide +kernel
theorem dX5_addSheet_135 : decode cX5_addSheet 135 = .ok (.getfield 56, 3) := by decide +kernel
theorem dX5_addSheet_138 : decode cX5_addSheet 138 = .ok (.aload_n 0, 1) := by decide +kernel
theorem dX5_addSheet_139 : decode cX5_addSheet 139 = .ok (.getfield 99, 3) := by decide +kernel
theorem dX5_addSheet_142 : decode cX5_addSheet 142 = .ok (.sipush 9999, 3) := by decide +kernel
theorem dX5_addSheet_145 : decode cX5_addSheet 145 = .ok (.iastore, 1) := by decide +kernel
theorem dX5_addSheet_146 : decode cX5_addSheet 146 = .ok (.aload_n 0, 1) := by decide +kernel
theorem dX5_addSheet_147 : decode cX5_addSheet 147 = .ok (.dup, 1) := by decide +kernel
theorem dX5_addSheet_148 : decode cX5_addSheet 148 = .ok (.getfield 99, 3) := by decide +kernel
theorem dX5_addSheet_151 : decode cX5_addSheet 151 = .ok (.iconst 1, 1) := by decide +kernel
theorem dX5_addSheet_152 : decode cX5_addSheet 152 = .ok (.iadd, 1) := by decide +kernel
theorem dX5_addSheet_153 : decode cX5_addSheet 153 = .ok (.putfield 99, 3) := by decide +kernel
theorem dX5_addSheet_156 : decode cX5_addSheet 156 = .ok (.aload_n 0, 1) := by decide +kernel
theorem dX5_addSheet_157 : decode cX5_addSheet 157 = .ok (.getfield 99, 3) := by decide +kernel
theorem dX5_addSheet_160 : decode cX5_addSheet 160 = .ok (.iconst 1, 1) := by decide +kernel
theorem dX5_addSheet_161 : decode cX5_addSheet 161 = .ok (.isub, 1) := by decide +kernel
theorem dX5_addSheet_162 : decode cX5_addSheet 162 = .ok (.ireturn, 1) := by decide +kernel
theorem dX5_setDates_0 : decode cX5_setDates 0 = .ok (.aload_n 0, 1) := by decide +kernel
theorem dX5_setDates_1 : decode cX5_setDates 1 = .ok (.iload_n 1, 1) := by decide +kernel
theorem dX5_setDates_2 : decode cX5_setDates 2 = .ok (.invokevirtual 102, 3) := by decide +kernel
theorem dX5_setDates_5 : decode cX5_setDates 5 = .ok (.ifCond .eq 6, 3) := by decide +kernel
theorem dX5_setDates_8 : decode cX5_setDates 8 = .ok (.bipush (-2), 2) := by decide +kernel
theorem dX5_setDates_10 : decode cX5_setDates 10 = .ok (.ireturn, 1) := by decide +kernel
theorem dX5_setDates_11 : decode cX5_setDates 11 = .ok (.iload_n 2, 1) := by decide +kernel
theorem dX5_setDates_12 : decode cX5_setDates 12 = .ok (.iconst 0, 1) := by decide +kernel
theorem dX5_setDates_13 : decode cX5_setDates 13 = .ok (.sipush 9999, 3) := by decide +kernel
theorem dX5_setDates_16 : decode cX5_setDates 16 = .ok (.invokestatic 71, 3) := by decide +kernel
theorem dX5_setDates_19 : decode cX5_setDates 19 = .ok (.ifCond .eq 14, 3) := by decide +kernel
theorem dX5_setDates_22 : decode cX5_setDates 22 = .ok (.iload_n 3, 1) := by decide +kernel
theorem dX5_setDates_23 : decode cX5_setDates 23 = .ok (.iload_n 2, 1) := by decide +kernel
theorem dX5_setDates_24 : decode cX5_setDates 24 = .ok (.sipush 9999, 3) := by decide +kernel
theorem dX5_setDates_27 : decode cX5_setDates 27 = .ok (.invokestatic 71, 3) := by decide +kernel
theorem dX5_setDates_30 : decode cX5_setDates 30 = .ok (.ifCond .ne 6, 3) := by decide +kernel
theorem dX5_setDates_33 : decode cX5_setDates 33 = .ok (.bipush (-3), 2) := by decide +kernel
theorem dX5_setDates_35 : decode cX5_setDates 35 = .ok (.ireturn, 1) := by decide +kernel
theorem dX5_setDates_36 : decode cX5_setDates 36 = .ok (.iload_n 2, 1) := by decide +kernel
theorem dX5_setDates_37 : decode cX5_setDates 37 = .ok (.aload_n 0, 1) := by decide +kernel
theorem dX5_setDates_38 : decode cX5_setDates 38 = .ok (.getfield 53, 3) := by decide +kernel
theorem dX5_setDates_41 : decode cX5_setDates 41 = .ok (.iload_n 1, 1) := by decide +kernel
theorem dX5_setDates_42 : decode cX5_setDates 42 = .ok (.iaload, 1) := by decide +kernel
theorem dX5_setDates_43 : decode cX5_setDates 43 = .ok (.if_icmp .ne 13, 3) := by decide +kernel
theorem dX5_setDates_46 : decode cX5_setDates 46 = .ok (.iload_n 3, 1) := by decide +kernel
theorem dX5_setDates_47 : decode cX5_setDates 47 = .ok (.aload_n 0, 1) := by decide +kernel
theorem dX5_setDates_48 : decode cX5_setDates 48 = .ok (.getfield 56, 3) := by decide +kernel
theorem dX5_setDates_51 : decode cX5_setDates 51 = .ok (.iload_n 1, 1) := by decide +kernel
theorem dX5_setDates_52 : decode cX5_setDates 52 = .ok (.iaload, 1) := by decide +kernel
theorem dX5_setDates_53 : decode cX5_setDates 53 = .ok (.if_icmp .eq 7, 3) := by decide +kernel
theorem dX5_setDates_56 : decode cX5_setDates 56 = .ok (.iconst 1, 1) := by decide +kernel
theorem dX5_setDates_57 : decode cX5_setDates 57 = .ok (.goto 4, 3) := by decide +kernel
theorem dX5_setDates_60 : decode cX5_setDates 60 = .ok (.iconst 0, 1) := by decide +kernel
theorem dX5_setDates_61 : decode cX5_setDates 61 = .ok (.istore 4, 2) := by decide +kernel
theorem dX5_setDates_63 : decode cX5_setDates 63 = .ok (.aload_n 0, 1) := by decide +kernel
theorem dX5_setDates_64 : decode cX5_setDates 64 = .ok (.getfield 53, 3) := by decide +kernel
theorem dX5_setDates_67 : decode cX5_setDates 67 = .ok (.iload_n 1, 1) := by decide +kernel
theorem dX5_setDates_68 : decode cX5_setDates 68 = .ok (.iload_n 2, 1) := by decide +kernel
theorem dX5_setDates_69 : decode cX5_setDates 69 = .ok (.iastore, 1) := by decide +kernel
theorem dX5_setDates_70 : decode cX5_setDates 70 = .ok (.aload_n 0, 1) := by decide +kernel
theorem dX5_setDates_71 : decode cX5_setDates 71 = .ok (.getfield 56, 3) := by decide +kernel
theorem dX5_setDates_74 : decode cX5_setDates 74 = .ok (.iload_n 1, 1) := by decide +kernel
theorem dX5_setDates_75 : decode cX5_setDates 75 = .ok (.iload_n 3, 1) := by decide +kernel
theorem dX5_setDates_76 : decode cX5_setDates 76 = .ok (.iastore, 1) := by decide +kernel
theorem dX5_setDates_77 : decode cX5_setDates 77 = .ok (.iload 4, 2) := by decide +kernel
theorem dX5_setDates_79 : decode cX5_setDates 79 = .ok (.ifCond .eq 7, 3) := by decide +kernel
theorem dX5_setDates_82 : decode cX5_setDates 82 = .ok (.iconst 1, 1) := by decide +kernel
theorem dX5_setDates_83 : decode cX5_setDates 83 = .ok (.goto 4, 3) := by decide +kernel
theorem dX5_setDates_86 : decode cX5_setDates 86 = .ok (.iconst 0, 1) := by decide +kernel
theorem dX5_setDates_87 : decode cX5_setDates 87 = .ok (.ireturn, 1) := by decide +kernel
theorem dX5_count_0 : decode cX5_count 0 = .ok (.iload_n 1, 1) := by decide +kernel
theorem dX5_count_1 : decode cX5_count 1 = .ok (.ifCond .ne 10, 3) := by decide +kernel
theorem dX5_count_4 : decode cX5_count 4 = .ok (.aload_n 0, 1) := by decide +kernel
theorem dX5_count_5 : decode cX5_count 5 = .ok (.getfield 75, 3) := by decide +kernel
theorem dX5_count_8 : decode cX5_count 8 = .ok (.goto 29, 3) := by decide +kernel
theorem dX5_count_11 : decode cX5_count 11 = .ok (.iload_n 1, 1) := by decide +kernel
theorem dX5_count_12 : decode cX5_count 12 = .ok (.iconst 1, 1) := by decide +kernel
theorem dX5_count_13 : decode cX5_count 13 = .ok (.if_icmp .ne 10, 3) := by decide +kernel
theorem dX5_count_16 : decode cX5_count 16 = .ok (.aload_n 0, 1) := by decide +kernel
theorem dX5_count_17 : decode cX5_count 17 = .ok (.getfield 99, 3) := by decide +kernel
theorem dX5_count_20 : decode cX5_count 20 = .ok (.goto 17, 3) := by decide +kernel
theorem dX5_count_23 : decode cX5_count 23 = .ok (.iload_n 1, 1) := by decide +kernel
theorem dX5_count_24 : decode cX5_count 24 = .ok (.iconst 2, 1) := by decide +kernel
theorem dX5_count_25 : decode cX5_count 25 = .ok (.if_icmp .ne 10, 3) := by decide +kernel
theorem dX5_count_28 : decode cX5_count 28 = .ok (.aload_n 0, 1) := by decide +kernel
theorem dX5_count_29 : decode cX5_count 29 = .ok (.getfield 68, 3) := by decide +kernel
theorem dX5_count_32 : decode cX5_count 32 = .ok (.goto 5, 3) := by decide +kernel
theorem dX5_count_35 : decode cX5_count 35 = .ok (.bipush (-3), 2) := by decide +kernel
theorem dX5_count_37 : decode cX5_count 37 = .ok (.ireturn, 1) := by decide +kernel
theorem dX5_spacingScore_0 : decode cX5_spacingScore 0 = .ok (.aload_n 0, 1) := by decide +kernel
theorem dX5_spacingScore_1 : decode cX5_spacingScore 1 = .ok (.getfield 38, 3) := by decide +kernel
theorem dX5_spacingScore_4 : decode cX5_spacingScore 4 = .ok (.iload_n 1, 1) := by decide +kernel
theorem dX5_spacingScore_5 : decode cX5_spacingScore 5 = .ok (.iaload, 1) := by decide +kernel
theorem dX5_spacingScore_6 : decode cX5_spacingScore 6 = .ok (.istore 6, 2) := by decide +kernel
theorem dX5_spacingScore_8 : decode cX5_spacingScore 8 = .ok (.iconst 0, 1) := by decide +kernel
theorem dX5_spacingScore_9 : decode cX5_spacingScore 9 = .ok (.istore 7, 2) := by decide +kernel
theorem dX5_spacingScore_11 : decode cX5_spacingScore 11 = .ok (.iconst 0, 1) := by decide +kernel
theorem dX5_spacingScore_12 : decode cX5_spacingScore 12 = .ok (.istore 8, 2) := by decide +kernel
theorem dX5_spacingScore_14 : decode cX5_spacingScore 14 = .ok (.iload 8, 2) := by decide +kernel
theorem dX5_spacingScore_16 : decode cX5_spacingScore 16 = .ok (.iload 6, 2) := by decide +kernel
theorem dX5_spacingScore_18 : decode cX5_spacingScore 18 = .ok (.if_icmp .ge 85, 3) := by decide +kernel
theorem dX5_spacingScore_21 : decode cX5_spacingScore 21 = .ok (.aload_n 0, 1) := by decide +kernel
theorem dX5_spacingScore_22 : decode cX5_spacingScore 22 = .ok (.getfield 41, 3) := by decide +kernel
theorem dX5_spacingScore_25 : decode cX5_spacingScore 25 = .ok (.bipush 10, 2) := by decide +kernel
theorem dX5_spacingScore_27 : decode cX5_spacingScore 27 = .ok (.iload_n 1, 1) := by decide +kernel
theorem dX5_spacingScore_28 : decode cX5_spacingScore 28 = .ok (.imul, 1) := by decide +kernel
theorem dX5_spacingScore_29 : decode cX5_spacingScore 29 = .ok (.iload_n 3, 1) := by decide +kernel
theorem dX5_spacingScore_30 : decode cX5_spacingScore 30 = .ok (.ifCond .eq 13, 3) := by decide +kernel
theorem dX5_spacingScore_33 : decode cX5_spacingScore 33 = .ok (.iload 6, 2) := by decide +kernel
theorem dX5_spacingScore_35 : decode cX5_spacingScore 35 = .ok (.iconst 1, 1) := by decide +kernel
theorem dX5_spacingScore_36 : decode cX5_spacingScore 36 = .ok (.isub, 1) := by decide +kernel
theorem dX5_spacingScore_37 : decode cX5_spacingScore 37 = .ok (.iload 8, 2) := by decide +kernel
theorem dX5_spacingScore_39 : decode cX5_spacingScore 39 = .ok (.isub, 1) := by decide +kernel
theorem dX5_spacingScore_40 : decode cX5_spacingScore 40 = .ok (.goto 5, 3) := by decide +kernel
theorem dX5_spacingScore_43 : decode cX5_spacingScore 43 = .ok (.iload 8, 2) := by decide +kernel
theorem dX5_spacingScore_45 : decode cX5_spacingScore 45 = .ok (.iadd, 1) := by decide +kernel
theorem dX5_spacingScore_46 : decode cX5_spacingScore 46 = .ok (.iaload, 1) := by decide +kernel
theorem dX5_spacingScore_47 : decode cX5_spacingScore 47 = .ok (.istore 9, 2) := by decide +kernel
theorem dX5_spacingScore_49 : decode cX5_spacingScore 49 = .ok (.iload 9, 2) := by decide +kernel
theorem dX5_spacingScore_51 : decode cX5_spacingScore 51 = .ok (.aload_n 0, 1) := by decide +kernel
theorem dX5_spacingScore_52 : decode cX5_spacingScore 52 = .ok (.getfield 23, 3) := by decide +kernel
theorem dX5_spacingScore_55 : decode cX5_spacingScore 55 = .ok (.bipush 10, 2) := by decide +kernel
theorem dX5_spacingScore_57 : decode cX5_spacingScore 57 = .ok (.iload_n 2, 1) := by decide +kernel
theorem dX5_spacingScore_58 : decode cX5_spacingScore 58 = .ok (.imul, 1) := by decide +kernel
theorem dX5_spacingScore_59 : decode cX5_spacingScore 59 = .ok (.iload 4, 2) := by decide +kernel
theorem dX5_spacingScore_61 : decode cX5_spacingScore 61 = .ok (.iadd, 1) := by decide +kernel
theorem dX5_spacingScore_62 : decode cX5_spacingScore 62 = .ok (.iload 8, 2) := by decide +kernel
theorem dX5_spacingScore_64 : decode cX5_spacingScore 64 = .ok (.iadd, 1) := by decide +kernel
theorem dX5_spacingScore_65 : decode cX5_spacingScore 65 = .ok (.iaload, 1) := by decide +kernel
theorem dX5_spacingScore_66 : decode cX5_spacingScore 66 = .ok (.iload 5, 2) := by decide +kernel
theorem dX5_spacingScore_68 : decode cX5_spacingScore 68 = .ok (.imul, 1) := by decide +kernel
theorem dX5_spacingScore_69 : decode cX5_spacingScore 69 = .ok (.sipush 1000, 3) := by decide +kernel
theorem dX5_spacingScore_72 : decode cX5_spacingScore 72 = .ok (.idiv, 1) := by decide +kernel
theorem dX5_spacingScore_73 : decode cX5_spacingScore 73 = .ok (.invokestatic 89, 3) := by decide +kernel
theorem dX5_spacingScore_76 : decode cX5_spacingScore 76 = .ok (.istore 10, 2) := by decide +kernel
theorem dX5_spacingScore_78 : decode cX5_spacingScore 78 = .ok (.iload 10, 2) := by decide +kernel
theorem dX5_spacingScore_80 : decode cX5_spacingScore 80 = .ok (.aload_n 0, 1) := by decide +kernel
theorem dX5_spacingScore_81 : decode cX5_spacingScore 81 = .ok (.getfield 13, 3) := by decide +kernel
theorem dX5_spacingScore_84 : decode cX5_spacingScore 84 = .ok (.if_icmp .le 6, 3) := by decide +kernel
theorem dX5_spacingScore_87 : decode cX5_spacingScore 87 = .ok (.bipush (-6), 2) := by decide +kernel
theorem dX5_spacingScore_89 : decode cX5_spacingScore 89 = .ok (.ireturn, 1) := by decide +kernel
theorem dX5_spacingScore_90 : decode cX5_spacingScore 90 = .ok (.iload 7, 2) := by decide +kernel
theorem dX5_spacingScore_92 : decode cX5_spacingScore 92 = .ok (.iload 10, 2) := by decide +kernel
theorem dX5_spacingScore_94 : decode cX5_spacingScore 94 = .ok (.iadd, 1) := by decide +kernel
theorem dX5_spacingScore_95 : decode cX5_spacingScore 95 = .ok (.istore 7, 2) := by decide +kernel
theorem dX5_spacingScore_97 : decode cX5_spacingScore 97 = .ok (.iinc 8 1, 3) := by decide +kernel
theorem dX5_spacingScore_100 : decode cX5_spacingScore 100 = .ok (.goto (-86), 3) := by decide +kernel
theorem dX5_spacingScore_103 : decode cX5_spacingScore 103 = .ok (.iload 7, 2) := by decide +kernel
theorem dX5_spacingScore_105 : decode cX5_spacingScore 105 = .ok (.ireturn, 1) := by decide +kernel
theorem dX5_markScore_0 : decode cX5_markScore 0 = .ok (.bipush (-6), 2) := by decide +kernel
theorem dX5_markScore_2 : decode cX5_markScore 2 = .ok (.istore 5, 2) := by decide +kernel
theorem dX5_markScore_4 : decode cX5_markScore 4 = .ok (.aload_n 0, 1) := by decide +kernel
theorem dX5_markScore_5 : decode cX5_markScore 5 = .ok (.bipush (-6), 2) := by decide +kernel
theorem dX5_markScore_7 : decode cX5_markScore 7 = .ok (.putfield 105, 3) := by decide +kernel
theorem dX5_markScore_10 : decode cX5_markScore 10 = .ok (.iconst 0, 1) := by decide +kernel
theorem dX5_markScore_11 : decode cX5_markScore 11 = .ok (.istore 6, 2) := by decide +kernel
theorem dX5_markScore_13 : decode cX5_markScore 13 = .ok (.iload 6, 2) := by decide +kernel
theorem dX5_markScore_15 : decode cX5_markScore 15 = .ok (.aload_n 0, 1) := by decide +kernel
theorem dX5_markScore_16 : decode cX5_markScore 16 = .ok (.getfield 29, 3) := by decide +kernel
theorem dX5_markScore_19 : decode cX5_markScore 19 = .ok (.iload_n 1, 1) := by decide +kernel
theorem dX5_markScore_20 : decode cX5_markScore 20 = .ok (.iaload, 1) := by decide +kernel
theorem dX5_markScore_21 : decode cX5_markScore 21 = .ok (.if_icmp .ge 117, 3) := by decide +kernel
theorem dX5_markScore_24 : decode cX5_markScore 24 = .ok (.iload_n 2, 1) := by decide +kernel
theorem dX5_markScore_25 : decode cX5_markScore 25 = .ok (.aload_n 0, 1) := by decide +kernel
theorem dX5_markScore_26 : decode cX5_markScore 26 = .ok (.getfield 32, 3) := by decide +kernel
theorem dX5_markScore_29 : decode cX5_markScore 29 = .ok (.bipush 6, 2) := by decide +kernel
theorem dX5_markScore_31 : decode cX5_markScore 31 = .ok (.iload_n 1, 1) := by decide +kernel
theorem dX5_markScore_32 : decode cX5_markScore 32 = .ok (.imul, 1) := by decide +kernel
theorem dX5_markScore_33 : decode cX5_markScore 33 = .ok (.iload 6, 2) := by decide +kernel
theorem dX5_markScore_35 : decode cX5_markScore 35 = .ok (.iadd, 1) := by decide +kernel
theorem dX5_markScore_36 : decode cX5_markScore 36 = .ok (.iaload, 1) := by decide +kernel
theorem dX5_markScore_37 : decode cX5_markScore 37 = .ok (.iload 4, 2) := by decide +kernel
theorem dX5_markScore_39 : decode cX5_markScore 39 = .ok (.imul, 1) := by decide +kernel
theorem dX5_markScore_40 : decode cX5_markScore 40 = .ok (.sipush 1000, 3) := by decide +kernel
theorem dX5_markScore_43 : decode cX5_markScore 43 = .ok (.idiv, 1) := by decide +kernel
theorem dX5_markScore_44 : decode cX5_markScore 44 = .ok (.invokestatic 89, 3) := by decide +kernel
theorem dX5_markScore_47 : decode cX5_markScore 47 = .ok (.istore 7, 2) := by decide +kernel
theorem dX5_markScore_49 : decode cX5_markScore 49 = .ok (.iload_n 3, 1) := by decide +kernel
theorem dX5_markScore_50 : decode cX5_markScore 50 = .ok (.aload_n 0, 1) := by decide +kernel
theorem dX5_markScore_51 : decode cX5_markScore 51 = .ok (.getfield 35, 3) := by decide +kernel
theorem dX5_markScore_54 : decode cX5_markScore 54 = .ok (.bipush 6, 2) := by decide +kernel
theorem dX5_markScore_56 : decode cX5_markScore 56 = .ok (.iload_n 1, 1) := by decide +kernel
theorem dX5_markScore_57 : decode cX5_markScore 57 = .ok (.imul, 1) := by decide +kernel
theorem dX5_markScore_58 : decode cX5_markScore 58 = .ok (.iload 6, 2) := by decide +kernel
theorem dX5_markScore_60 : decode cX5_markScore 60 = .ok (.iadd, 1) := by decide +kernel
theorem dX5_markScore_61 : decode cX5_markScore 61 = .ok (.iaload, 1) := by decide +kernel
theorem dX5_markScore_62 : decode cX5_markScore 62 = .ok (.iload 4, 2) := by decide +kernel
theorem dX5_markScore_64 : decode cX5_markScore 64 = .ok (.imul, 1) := by decide +kernel
theorem dX5_markScore_65 : decode cX5_markScore 65 = .ok (.sipush 1000, 3) := by decide +kernel
theorem dX5_markScore_68 : decode cX5_markScore 68 = .ok (.idiv, 1) := by decide +kernel
theorem dX5_markScore_69 : decode cX5_markScore 69 = .ok (.invokestatic 89, 3) := by decide +kernel
theorem dX5_markScore_72 : decode cX5_markScore 72 = .ok (.istore 8, 2) := by decide +kernel
theorem dX5_markScore_74 : decode cX5_markScore 74 = .ok (.iload 7, 2) := by decide +kernel
theorem dX5_markScore_76 : decode cX5_markScore 76 = .ok (.aload_n 0, 1) := by decide +kernel
theorem dX5_markScore_77 : decode cX5_markScore 77 = .ok (.getfield 17, 3) := by decide +kernel
theorem dX5_markScore_80 : decode cX5_markScore 80 = .ok (.if_icmp .gt 16, 3) := by decide +kernel
theorem dX5_markScore_83 : decode cX5_markScore 83 = .ok (.iload 8, 2) := by decide +kernel
theorem dX5_markScore_85 : decode cX5_markScore 85 = .ok (.aload_n 0, 1) := by decide +kernel
theorem dX5_markScore_86 : decode cX5_markScore 86 = .ok (.getfield 17, 3) := by decide +kernel
theorem dX5_markScore_89 : decode cX5_markScore 89 = .ok (.if_icmp .gt 7, 3) := by decide +kernel
theorem dX5_markScore_92 : decode cX5_markScore 92 = .ok (.iconst 1, 1) := by decide +kernel
theorem dX5_markScore_93 : decode cX5_markScore 93 = .ok (.goto 4, 3) := by decide +kernel
theorem dX5_markScore_96 : decode cX5_markScore 96 = .ok (.iconst 0, 1) := by decide +kernel
theorem dX5_markScore_97 : decode cX5_markScore 97 = .ok (.istore 9, 2) := by decide +kernel
theorem dX5_markScore_99 : decode cX5_markScore 99 = .ok (.iload 9, 2) := by decide +kernel
theorem dX5_markScore_101 : decode cX5_markScore 101 = .ok (.ifCond .eq 31, 3) := by decide +kernel
theorem dX5_markScore_104 : decode cX5_markScore 104 = .ok (.iload 5, 2) := by decide +kernel
theorem dX5_markScore_106 : decode cX5_markScore 106 = .ok (.ifCond .lt 13, 3) := by decide +kernel
theorem dX5_markScore_109 : decode cX5_markScore 109 = .ok (.iload 7, 2) := by decide +kernel
theorem dX5_markScore_111 : decode cX5_markScore 111 = .ok (.iload 8, 2) := by decide +kernel
theorem dX5_markScore_113 : decode cX5_markScore 113 = .ok (.iadd, 1) := by decide +kernel
theorem dX5_markScore_114 : decode cX5_markScore 114 = .ok (.iload 5, 2) := by decide +kernel
theorem dX5_markScore_116 : decode cX5_markScore 116 = .ok (.if_icmp .ge 16, 3) := by decide +kernel
theorem dX5_markScore_119 : decode cX5_markScore 119 = .ok (.iload 7, 2) := by decide +kernel
theorem dX5_markScore_121 : decode cX5_markScore 121 = .ok (.iload 8, 2) := by decide +kernel
theorem dX5_markScore_123 : decode cX5_markScore 123 = .ok (.iadd, 1) := by decide +kernel
theorem dX5_markScore_124 : decode cX5_markScore 124 = .ok (.istore 5, 2) := by decide +kernel
theorem dX5_markScore_126 : decode cX5_markScore 126 = .ok (.aload_n 0, 1) := by decide +kernel
theorem dX5_markScore_127 : decode cX5_markScore 127 = .ok (.iload 6, 2) := by decide +kernel
theorem dX5_markScore_129 : decode cX5_markScore 129 = .ok (.putfield 105, 3) := by decide +kernel
theorem dX5_markScore_132 : decode cX5_markScore 132 = .ok (.iinc 6 1, 3) := by decide +kernel
theorem dX5_markScore_135 : decode cX5_markScore 135 = .ok (.goto (-122), 3) := by decide +kernel
theorem dX5_markScore_138 : decode cX5_markScore 138 = .ok (.iload 5, 2) := by decide +kernel
theorem dX5_markScore_140 : decode cX5_markScore 140 = .ok (.ireturn, 1) := by decide +kernel
theorem dX5_scoreOf_0 : decode cX5_scoreOf 0 = .ok (.iload_n 3, 1) := by decide +kernel
theorem dX5_scoreOf_1 : decode cX5_scoreOf 1 = .ok (.iconst 1, 1) := by decide +kernel
theorem dX5_scoreOf_2 : decode cX5_scoreOf 2 = .ok (.if_icmp .eq 8, 3) := by decide +kernel
theorem dX5_scoreOf_5 : decode cX5_scoreOf 5 = .ok (.iload_n 3, 1) := by decide +kernel
theorem dX5_scoreOf_6 : decode cX5_scoreOf 6 = .ok (.iconst 2, 1) := by decide +kernel
theorem dX5_scoreOf_7 : decode cX5_scoreOf 7 = .ok (.if_icmp .ne 7, 3) := by decide +kernel
theorem dX5_scoreOf_10 : decode cX5_scoreOf 10 = .ok (.iconst 1, 1) := by decide +kernel
theorem dX5_scoreOf_11 : decode cX5_scoreOf 11 = .ok (.goto 4, 3) := by decide +kernel
theorem dX5_scoreOf_14 : decode cX5_scoreOf 14 = .ok (.iconst 0, 1) := by decide +kernel
theorem dX5_scoreOf_15 : decode cX5_scoreOf 15 = .ok (.istore 6, 2) := by decide +kernel
theorem dX5_scoreOf_17 : decode cX5_scoreOf 17 = .ok (.aload_n 0, 1) := by decide +kernel
theorem dX5_scoreOf_18 : decode cX5_scoreOf 18 = .ok (.iload_n 1, 1) := by decide +kernel
theorem dX5_scoreOf_19 : decode cX5_scoreOf 19 = .ok (.iload_n 2, 1) := by decide +kernel
theorem dX5_scoreOf_20 : decode cX5_scoreOf 20 = .ok (.iload 6, 2) := by decide +kernel
theorem dX5_scoreOf_22 : decode cX5_scoreOf 22 = .ok (.iload 4, 2) := by decide +kernel
theorem dX5_scoreOf_24 : decode cX5_scoreOf 24 = .ok (.iload 5, 2) := by decide +kernel
theorem dX5_scoreOf_26 : decode cX5_scoreOf 26 = .ok (.invokevirtual 108, 3) := by decide +kernel
theorem dX5_scoreOf_29 : decode cX5_scoreOf 29 = .ok (.istore 7, 2) := by decide +kernel
theorem dX5_scoreOf_31 : decode cX5_scoreOf 31 = .ok (.aload_n 0, 1) := by decide +kernel
theorem dX5_scoreOf_32 : decode cX5_scoreOf 32 = .ok (.bipush (-6), 2) := by decide +kernel
theorem dX5_scoreOf_34 : decode cX5_scoreOf 34 = .ok (.putfield 105, 3) := by decide +kernel
theorem dX5_scoreOf_37 : decode cX5_scoreOf 37 = .ok (.iload 7, 2) := by decide +kernel
theorem dX5_scoreOf_39 : decode cX5_scoreOf 39 = .ok (.ifCond .lt 12, 3) := by decide +kernel
theorem dX5_scoreOf_42 : decode cX5_scoreOf 42 = .ok (.aload_n 0, 1) := by decide +kernel
theorem dX5_scoreOf_43 : decode cX5_scoreOf 43 = .ok (.getfield 44, 3) := by decide +kernel
theorem dX5_scoreOf_46 : decode cX5_scoreOf 46 = .ok (.iload_n 1, 1) := by decide +kernel
theorem dX5_scoreOf_47 : decode cX5_scoreOf 47 = .ok (.iaload, 1) := by decide +kernel
theorem dX5_scoreOf_48 : decode cX5_scoreOf 48 = .ok (.ifCond .ge 6, 3) := by decide +kernel
theorem dX5_scoreOf_51 : decode cX5_scoreOf 51 = .ok (.iload 7, 2) := by decide +kernel
theorem dX5_scoreOf_53 : decode cX5_scoreOf 53 = .ok (.ireturn, 1) := by decide +kernel
theorem dX5_scoreOf_54 : decode cX5_scoreOf 54 = .ok (.aload_n 0, 1) := by decide +kernel
theorem dX5_scoreOf_55 : decode cX5_scoreOf 55 = .ok (.getfield 44, 3) := by decide +kernel
theorem dX5_scoreOf_58 : decode cX5_scoreOf 58 = .ok (.iload_n 1, 1) := by decide +kernel
theorem dX5_scoreOf_59 : decode cX5_scoreOf 59 = .ok (.iaload, 1) := by decide +kernel
theorem dX5_scoreOf_60 : decode cX5_scoreOf 60 = .ok (.istore 8, 2) := by decide +kernel
theorem dX5_scoreOf_62 : decode cX5_scoreOf 62 = .ok (.iload 6, 2) := by decide +kernel
theorem dX5_scoreOf_64 : decode cX5_scoreOf 64 = .ok (.ifCond .eq 17, 3) := by decide +kernel
theorem dX5_scoreOf_67 : decode cX5_scoreOf 67 = .ok (.aload_n 0, 1) := by decide +kernel
theorem dX5_scoreOf_68 : decode cX5_scoreOf 68 = .ok (.getfield 38, 3) := by decide +kernel
theorem dX5_scoreOf_71 : decode cX5_scoreOf 71 = .ok (.iload_n 1, 1) := by decide +kernel
theorem dX5_scoreOf_72 : decode cX5_scoreOf 72 = .ok (.iaload, 1) := by decide +kernel
theorem dX5_scoreOf_73 : decode cX5_scoreOf 73 = .ok (.iconst 1, 1) := by decide +kernel
theorem dX5_scoreOf_74 : decode cX5_scoreOf 74 = .ok (.isub, 1) := by decide +kernel
theorem dX5_scoreOf_75 : decode cX5_scoreOf 75 = .ok (.iload 8, 2) := by decide +kernel
theorem dX5_scoreOf_77 : decode cX5_scoreOf 77 = .ok (.isub, 1) := by decide +kernel
theorem dX5_scoreOf_78 : decode cX5_scoreOf 78 = .ok (.goto 5, 3) := by decide +kernel
theorem dX5_scoreOf_81 : decode cX5_scoreOf 81 = .ok (.iload 8, 2) := by decide +kernel
theorem dX5_scoreOf_83 : decode cX5_scoreOf 83 = .ok (.istore 9, 2) := by decide +kernel
theorem dX5_scoreOf_85 : decode cX5_scoreOf 85 = .ok (.iload 4, 2) := by decide +kernel
theorem dX5_scoreOf_87 : decode cX5_scoreOf 87 = .ok (.iload 9, 2) := by decide +kernel
theorem dX5_scoreOf_89 : decode cX5_scoreOf 89 = .ok (.iadd, 1) := by decide +kernel
theorem dX5_scoreOf_90 : decode cX5_scoreOf 90 = .ok (.aload_n 0, 1) := by decide +kernel
theorem dX5_scoreOf_91 : decode cX5_scoreOf 91 = .ok (.getfield 26, 3) := by decide +kernel
theorem dX5_scoreOf_94 : decode cX5_scoreOf 94 = .ok (.iload_n 2, 1) := by decide +kernel
theorem dX5_scoreOf_95 : decode cX5_scoreOf 95 = .ok (.iaload, 1) := by decide +kernel
theorem dX5_scoreOf_96 : decode cX5_scoreOf 96 = .ok (.if_icmp .eq 6, 3) := by decide +kernel
theorem dX5_scoreOf_99 : decode cX5_scoreOf 99 = .ok (.bipush (-6), 2) := by decide +kernel
theorem dX5_scoreOf_101 : decode cX5_scoreOf 101 = .ok (.ireturn, 1) := by decide +kernel
theorem dX5_scoreOf_102 : decode cX5_scoreOf 102 = .ok (.iload 6, 2) := by decide +kernel
theorem dX5_scoreOf_104 : decode cX5_scoreOf 104 = .ok (.ifCond .eq 25, 3) := by decide +kernel
theorem dX5_scoreOf_107 : decode cX5_scoreOf 107 = .ok (.aload_n 0, 1) := by decide +kernel
theorem dX5_scoreOf_108 : decode cX5_scoreOf 108 = .ok (.getfield 41, 3) := by decide +kernel
theorem dX5_scoreOf_111 : decode cX5_scoreOf 111 = .ok (.bipush 10, 2) := by decide +kernel
theorem dX5_scoreOf_113 : decode cX5_scoreOf 113 = .ok (.iload_n 1, 1) := by decide +kernel
theorem dX5_scoreOf_114 : decode cX5_scoreOf 114 = .ok (.imul, 1) := by decide +kernel
theorem dX5_scoreOf_115 : decode cX5_scoreOf 115 = .ok (.iload 8, 2) := by decide +kernel
theorem dX5_scoreOf_117 : decode cX5_scoreOf 117 = .ok (.iadd, 1) := by decide +kernel
theorem dX5_scoreOf_118 : decode cX5_scoreOf 118 = .ok (.iaload, 1) := by decide +kernel
theorem dX5_scoreOf_119 : decode cX5_scoreOf 119 = .ok (.aload_n 0, 1) := by decide +kernel
theorem dX5_scoreOf_120 : decode cX5_scoreOf 120 = .ok (.getfield 47, 3) := by decide +kernel
theorem dX5_scoreOf_123 : decode cX5_scoreOf 123 = .ok (.iload_n 1, 1) := by decide +kernel
theorem dX5_scoreOf_124 : decode cX5_scoreOf 124 = .ok (.iaload, 1) := by decide +kernel
theorem dX5_scoreOf_125 : decode cX5_scoreOf 125 = .ok (.isub, 1) := by decide +kernel
theorem dX5_scoreOf_126 : decode cX5_scoreOf 126 = .ok (.goto 9, 3) := by decide +kernel
theorem dX5_scoreOf_129 : decode cX5_scoreOf 129 = .ok (.aload_n 0, 1) := by decide +kernel
theorem dX5_scoreOf_130 : decode cX5_scoreOf 130 = .ok (.getfield 47, 3) := by decide +kernel
theorem dX5_scoreOf_133 : decode cX5_scoreOf 133 = .ok (.iload_n 1, 1) := by decide +kernel
theorem dX5_scoreOf_134 : decode cX5_scoreOf 134 = .ok (.iaload, 1) := by decide +kernel
theorem dX5_scoreOf_135 : decode cX5_scoreOf 135 = .ok (.istore 10, 2) := by decide +kernel
theorem dX5_scoreOf_137 : decode cX5_scoreOf 137 = .ok (.iload_n 3, 1) := by decide +kernel
theorem dX5_scoreOf_138 : decode cX5_scoreOf 138 = .ok (.iconst 1, 1) := by decide +kernel
theorem dX5_scoreOf_139 : decode cX5_scoreOf 139 = .ok (.if_icmp .eq 8, 3) := by decide +kernel
theorem dX5_scoreOf_142 : decode cX5_scoreOf 142 = .ok (.iload_n 3, 1) := by decide +kernel
theorem dX5_scoreOf_143 : decode cX5_scoreOf 143 = .ok (.iconst 3, 1) := by decide +kernel
theorem dX5_scoreOf_144 : decode cX5_scoreOf 144 = .ok (.if_icmp .ne 16, 3) := by decide +kernel
theorem dX5_scoreOf_147 : decode cX5_scoreOf 147 = .ok (.sipush 300, 3) := by decide +kernel
theorem dX5_scoreOf_150 : decode cX5_scoreOf 150 = .ok (.aload_n 0, 1) := by decide +kernel
theorem dX5_scoreOf_151 : decode cX5_scoreOf 151 = .ok (.getfield 50, 3) := by decide +kernel
theorem dX5_scoreOf_154 : decode cX5_scoreOf 154 = .ok (.iload_n 1, 1) := by decide +kernel
theorem dX5_scoreOf_155 : decode cX5_scoreOf 155 = .ok (.iaload, 1) := by decide +kernel
theorem dX5_scoreOf_156 : decode cX5_scoreOf 156 = .ok (.isub, 1) := by decide +kernel
theorem dX5_scoreOf_157 : decode cX5_scoreOf 157 = .ok (.goto 9, 3) := by decide +kernel
theorem dX5_scoreOf_160 : decode cX5_scoreOf 160 = .ok (.aload_n 0, 1) := by decide +kernel
theorem dX5_scoreOf_161 : decode cX5_scoreOf 161 = .ok (.getfield 50, 3) := by decide +kernel
theorem dX5_scoreOf_164 : decode cX5_scoreOf 164 = .ok (.iload_n 1, 1) := by decide +kernel
theorem dX5_scoreOf_165 : decode cX5_scoreOf 165 = .ok (.iaload, 1) := by decide +kernel
theorem dX5_scoreOf_166 : decode cX5_scoreOf 166 = .ok (.istore 11, 2) := by decide +kernel
theorem dX5_scoreOf_168 : decode cX5_scoreOf 168 = .ok (.aload_n 0, 1) := by decide +kernel
theorem dX5_scoreOf_169 : decode cX5_scoreOf 169 = .ok (.iload_n 2, 1) := by decide +kernel
theorem dX5_scoreOf_170 : decode cX5_scoreOf 170 = .ok (.iload 10, 2) := by decide +kernel
theorem dX5_scoreOf_172 : decode cX5_scoreOf 172 = .ok (.iload 11, 2) := by decide +kernel
theorem dX5_scoreOf_174 : decode cX5_scoreOf 174 = .ok (.iload 5, 2) := by decide +kernel
theorem dX5_scoreOf_176 : decode cX5_scoreOf 176 = .ok (.invokevirtual 112, 3) := by decide +kernel
theorem dX5_scoreOf_179 : decode cX5_scoreOf 179 = .ok (.istore 12, 2) := by decide +kernel
theorem dX5_scoreOf_181 : decode cX5_scoreOf 181 = .ok (.iload 12, 2) := by decide +kernel
theorem dX5_scoreOf_183 : decode cX5_scoreOf 183 = .ok (.ifCond .ge 8, 3) := by decide +kernel
theorem dX5_scoreOf_186 : decode cX5_scoreOf 186 = .ok (.bipush (-6), 2) := by decide +kernel
theorem dX5_scoreOf_188 : decode cX5_scoreOf 188 = .ok (.goto 8, 3) := by decide +kernel
theorem dX5_scoreOf_191 : decode cX5_scoreOf 191 = .ok (.iload 7, 2) := by decide +kernel
theorem dX5_scoreOf_193 : decode cX5_scoreOf 193 = .ok (.iload 12, 2) := by decide +kernel
theorem dX5_scoreOf_195 : decode cX5_scoreOf 195 = .ok (.iadd, 1) := by decide +kernel
theorem dX5_scoreOf_196 : decode cX5_scoreOf 196 = .ok (.ireturn, 1) := by decide +kernel
theorem dX5_findBest_0 : decode cX5_findBest 0 = .ok (.aload_n 0, 1) := by decide +kernel
theorem dX5_findBest_1 : decode cX5_findBest 1 = .ok (.bipush (-6), 2) := by decide +kernel
theorem dX5_findBest_3 : decode cX5_findBest 3 = .ok (.putfield 116, 3) := by decide +kernel
theorem dX5_findBest_6 : decode cX5_findBest 6 = .ok (.iconst 0, 1) := by decide +kernel
theorem dX5_findBest_7 : decode cX5_findBest 7 = .ok (.istore_n 3, 1) := by decide +kernel
theorem dX5_findBest_8 : decode cX5_findBest 8 = .ok (.iload_n 3, 1) := by decide +kernel
theorem dX5_findBest_9 : decode cX5_findBest 9 = .ok (.iconst 4, 1) := by decide +kernel
theorem dX5_findBest_10 : decode cX5_findBest 10 = .ok (.if_icmp .ge 120, 3) := by decide +kernel
theorem dX5_findBest_13 : decode cX5_findBest 13 = .ok (.iconst 0, 1) := by decide +kernel
theorem dX5_findBest_14 : decode cX5_findBest 14 = .ok (.istore 4, 2) := by decide +kernel
theorem dX5_findBest_16 : decode cX5_findBest 16 = .ok (.iload 4, 2) := by decide +kernel
theorem dX5_findBest_18 : decode cX5_findBest 18 = .ok (.aload_n 0, 1) := by decide +kernel
theorem dX5_findBest_19 : decode cX5_findBest 19 = .ok (.getfield 20, 3) := by decide +kernel
theorem dX5_findBest_22 : decode cX5_findBest 22 = .ok (.iload_n 2, 1) := by decide +kernel
theorem dX5_findBest_23 : decode cX5_findBest 23 = .ok (.iaload, 1) := by decide +kernel
theorem dX5_findBest_24 : decode cX5_findBest 24 = .ok (.aload_n 0, 1) := by decide +kernel
theorem dX5_findBest_25 : decode cX5_findBest 25 = .ok (.getfield 38, 3) := by decide +kernel
theorem dX5_findBest_28 : decode cX5_findBest 28 = .ok (.iload_n 1, 1) := by decide +kernel
theorem dX5_findBest_29 : decode cX5_findBest 29 = .ok (.iaload, 1) := by decide +kernel
theorem dX5_findBest_30 : decode cX5_findBest 30 = .ok (.isub, 1) := by decide +kernel
theorem dX5_findBest_31 : decode cX5_findBest 31 = .ok (.if_icmp .gt 93, 3) := by decide +kernel
theorem dX5_findBest_34 : decode cX5_findBest 34 = .ok (.sipush 1000, 3) := by decide +kernel
theorem dX5_findBest_37 : decode cX5_findBest 37 = .ok (.istore 5, 2) := by decide +kernel
theorem dX5_findBest_39 : decode cX5_findBest 39 = .ok (.iload 5, 2) := by decide +kernel
theorem dX5_findBest_41 : decode cX5_findBest 41 = .ok (.sipush 940, 3) := by decide +kernel
theorem dX5_findBest_44 : decode cX5_findBest 44 = .ok (.if_icmp .lt 74, 3) := by decide +kernel
theorem dX5_findBest_47 : decode cX5_findBest 47 = .ok (.aload_n 0, 1) := by decide +kernel
theorem dX5_findBest_48 : decode cX5_findBest 48 = .ok (.iload_n 1, 1) := by decide +kernel
theorem dX5_findBest_49 : decode cX5_findBest 49 = .ok (.iload_n 2, 1) := by decide +kernel
theorem dX5_findBest_50 : decode cX5_findBest 50 = .ok (.iload_n 3, 1) := by decide +kernel
theorem dX5_findBest_51 : decode cX5_findBest 51 = .ok (.iload 4, 2) := by decide +kernel
theorem dX5_findBest_53 : decode cX5_findBest 53 = .ok (.iload 5, 2) := by decide +kernel
theorem dX5_findBest_55 : decode cX5_findBest 55 = .ok (.invokevirtual 119, 3) := by decide +kernel
theorem dX5_findBest_58 : decode cX5_findBest 58 = .ok (.istore 6, 2) := by decide +kernel
theorem dX5_findBest_60 : decode cX5_findBest 60 = .ok (.iload 6, 2) := by decide +kernel
theorem dX5_findBest_62 : decode cX5_findBest 62 = .ok (.ifCond .lt 50, 3) := by decide +kernel
theorem dX5_findBest_65 : decode cX5_findBest 65 = .ok (.aload_n 0, 1) := by decide +kernel
theorem dX5_findBest_66 : decode cX5_findBest 66 = .ok (.getfield 116, 3) := by decide +kernel
theorem dX5_findBest_69 : decode cX5_findBest 69 = .ok (.ifCond .lt 12, 3) := by decide +kernel
theorem dX5_findBest_72 : decode cX5_findBest 72 = .ok (.iload 6, 2) := by decide +kernel
theorem dX5_findBest_74 : decode cX5_findBest 74 = .ok (.aload_n 0, 1) := by decide +kernel
theorem dX5_findBest_75 : decode cX5_findBest 75 = .ok (.getfield 116, 3) := by decide +kernel
theorem dX5_findBest_78 : decode cX5_findBest 78 = .ok (.if_icmp .ge 34, 3) := by decide +kernel
theorem dX5_findBest_81 : decode cX5_findBest 81 = .ok (.aload_n 0, 1) := by decide +kernel
theorem dX5_findBest_82 : decode cX5_findBest 82 = .ok (.iload 6, 2) := by decide +kernel
theorem dX5_findBest_84 : decode cX5_findBest 84 = .ok (.putfield 116, 3) := by decide +kernel
theorem dX5_findBest_87 : decode cX5_findBest 87 = .ok (.aload_n 0, 1) := by decide +kernel
theorem dX5_findBest_88 : decode cX5_findBest 88 = .ok (.iload_n 3, 1) := by decide +kernel
theorem dX5_findBest_89 : decode cX5_findBest 89 = .ok (.putfield 123, 3) := by decide +kernel
theorem dX5_findBest_92 : decode cX5_findBest 92 = .ok (.aload_n 0, 1) := by decide +kernel
theorem dX5_findBest_93 : decode cX5_findBest 93 = .ok (.iload 4, 2) := by decide +kernel
theorem dX5_findBest_95 : decode cX5_findBest 95 = .ok (.putfield 126, 3) := by decide +kernel
theorem dX5_findBest_98 : decode cX5_findBest 98 = .ok (.aload_n 0, 1) := by decide +kernel
theorem dX5_findBest_99 : decode cX5_findBest 99 = .ok (.iload 5, 2) := by decide +kernel
theorem dX5_findBest_101 : decode cX5_findBest 101 = .ok (.putfield 129, 3) := by decide +kernel
theorem dX5_findBest_104 : decode cX5_findBest 104 = .ok (.aload_n 0, 1) := by decide +kernel
theorem dX5_findBest_105 : decode cX5_findBest 105 = .ok (.aload_n 0, 1) := by decide +kernel
theorem dX5_findBest_106 : decode cX5_findBest 106 = .ok (.getfield 105, 3) := by decide +kernel
theorem dX5_findBest_109 : decode cX5_findBest 109 = .ok (.putfield 132, 3) := by decide +kernel
theorem dX5_findBest_112 : decode cX5_findBest 112 = .ok (.iinc 5 (-5), 3) := by decide +kernel
theorem dX5_findBest_115 : decode cX5_findBest 115 = .ok (.goto (-76), 3) := by decide +kernel
theorem dX5_findBest_118 : decode cX5_findBest 118 = .ok (.iinc 4 1, 3) := by decide +kernel
theorem dX5_findBest_121 : decode cX5_findBest 121 = .ok (.goto (-105), 3) := by decide +kernel
theorem dX5_findBest_124 : decode cX5_findBest 124 = .ok (.iinc 3 1, 3) := by decide +kernel
theorem dX5_findBest_127 : decode cX5_findBest 127 = .ok (.goto (-119), 3) := by decide +kernel
theorem dX5_findBest_130 : decode cX5_findBest 130 = .ok (.return_, 1) := by decide +kernel
theorem dX5_bothBarred_0 : decode cX5_bothBarred 0 = .ok (.aload_n 0, 1) := by decide +kernel
theorem dX5_bothBarred_1 : decode cX5_bothBarred 1 = .ok (.iload_n 1, 1) := by decide +kernel
theorem dX5_bothBarred_2 : decode cX5_bothBarred 2 = .ok (.invokevirtual 102, 3) := by decide +kernel
theorem dX5_bothBarred_5 : decode cX5_bothBarred 5 = .ok (.ifCond .eq 8, 3) := by decide +kernel
theorem dX5_bothBarred_8 : decode cX5_bothBarred 8 = .ok (.bipush (-2), 2) := by decide +kernel
theorem dX5_bothBarred_10 : decode cX5_bothBarred 10 = .ok (.goto 16, 3) := by decide +kernel
theorem dX5_bothBarred_13 : decode cX5_bothBarred 13 = .ok (.aload_n 0, 1) := by decide +kernel
theorem dX5_bothBarred_14 : decode cX5_bothBarred 14 = .ok (.iload_n 2, 1) := by decide +kernel
theorem dX5_bothBarred_15 : decode cX5_bothBarred 15 = .ok (.invokevirtual 85, 3) := by decide +kernel
theorem dX5_bothBarred_18 : decode cX5_bothBarred 18 = .ok (.ifCond .eq 7, 3) := by decide +kernel
theorem dX5_bothBarred_21 : decode cX5_bothBarred 21 = .ok (.iconst (-1), 1) := by decide +kernel
theorem dX5_bothBarred_22 : decode cX5_bothBarred 22 = .ok (.goto 4, 3) := by decide +kernel
theorem dX5_bothBarred_25 : decode cX5_bothBarred 25 = .ok (.iconst 0, 1) := by decide +kernel
theorem dX5_bothBarred_26 : decode cX5_bothBarred 26 = .ok (.ireturn, 1) := by decide +kernel
theorem dX5_score_0 : decode cX5_score 0 = .ok (.aload_n 0, 1) := by decide +kernel
theorem dX5_score_1 : decode cX5_score 1 = .ok (.iload_n 1, 1) := by decide +kernel
theorem dX5_score_2 : decode cX5_score 2 = .ok (.iload_n 2, 1) := by decide +kernel
theorem dX5_score_3 : decode cX5_score 3 = .ok (.invokevirtual 135, 3) := by decide +kernel
theorem dX5_score_6 : decode cX5_score 6 = .ok (.istore_n 3, 1) := by decide +kernel
theorem dX5_score_7 : decode cX5_score 7 = .ok (.iload_n 3, 1) := by decide +kernel
theorem dX5_score_8 : decode cX5_score 8 = .ok (.ifCond .ge 5, 3) := by decide +kernel
theorem dX5_score_11 : decode cX5_score 11 = .ok (.iload_n 3, 1) := by decide +kernel
theorem dX5_score_12 : decode cX5_score 12 = .ok (.ireturn, 1) := by decide +kernel
theorem dX5_score_13 : decode cX5_score 13 = .ok (.aload_n 0, 1) := by decide +kernel
theorem dX5_score_14 : decode cX5_score 14 = .ok (.iload_n 1, 1) := by decide +kernel
theorem dX5_score_15 : decode cX5_score 15 = .ok (.iload_n 2, 1) := by decide +kernel
theorem dX5_score_16 : decode cX5_score 16 = .ok (.invokevirtual 138, 3) := by decide +kernel
theorem dX5_score_19 : decode cX5_score 19 = .ok (.aload_n 0, 1) := by decide +kernel
theorem dX5_score_20 : decode cX5_score 20 = .ok (.getfield 116, 3) := by decide +kernel
theorem dX5_score_23 : decode cX5_score 23 = .ok (.ireturn, 1) := by decide +kernel
theorem dX5_placement_0 : decode cX5_placement 0 = .ok (.aload_n 0, 1) := by decide +kernel
theorem dX5_placement_1 : decode cX5_placement 1 = .ok (.iload_n 1, 1) := by decide +kernel
theorem dX5_placement_2 : decode cX5_placement 2 = .ok (.iload_n 2, 1) := by decide +kernel
theorem dX5_placement_3 : decode cX5_placement 3 = .ok (.invokevirtual 135, 3) := by decide +kernel
theorem dX5_placement_6 : decode cX5_placement 6 = .ok (.istore 4, 2) := by decide +kernel
theorem dX5_placement_8 : decode cX5_placement 8 = .ok (.iload 4, 2) := by decide +kernel
theorem dX5_placement_10 : decode cX5_placement 10 = .ok (.ifCond .ge 6, 3) := by decide +kernel
theorem dX5_placement_13 : decode cX5_placement 13 = .ok (.iload 4, 2) := by decide +kernel
theorem dX5_placement_15 : decode cX5_placement 15 = .ok (.ireturn, 1) := by decide +kernel
theorem dX5_placement_16 : decode cX5_placement 16 = .ok (.iload_n 3, 1) := by decide +kernel
theorem dX5_placement_17 : decode cX5_placement 17 = .ok (.iconst 0, 1) := by decide +kernel
theorem dX5_placement_18 : decode cX5_placement 18 = .ok (.iconst 3, 1) := by decide +kernel
theorem dX5_placement_19 : decode cX5_placement 19 = .ok (.invokestatic 71, 3) := by decide +kernel
theorem dX5_placement_22 : decode cX5_placement 22 = .ok (.ifCond .ne 6, 3) := by decide +kernel
theorem dX5_placement_25 : decode cX5_placement 25 = .ok (.bipush (-3), 2) := by decide +kernel
theorem dX5_placement_27 : decode cX5_placement 27 = .ok (.ireturn, 1) := by decide +kernel
theorem dX5_placement_28 : decode cX5_placement 28 = .ok (.aload_n 0, 1) := by decide +kernel
theorem dX5_placement_29 : decode cX5_placement 29 = .ok (.iload_n 1, 1) := by decide +kernel
theorem dX5_placement_30 : decode cX5_placement 30 = .ok (.iload_n 2, 1) := by decide +kernel
theorem dX5_placement_31 : decode cX5_placement 31 = .ok (.invokevirtual 138, 3) := by decide +kernel
theorem dX5_placement_34 : decode cX5_placement 34 = .ok (.aload_n 0, 1) := by decide +kernel
theorem dX5_placement_35 : decode cX5_placement 35 = .ok (.getfield 116, 3) := by decide +kernel
theorem dX5_placement_38 : decode cX5_placement 38 = .ok (.ifCond .ge 8, 3) := by decide +kernel
theorem dX5_placement_41 : decode cX5_placement 41 = .ok (.bipush (-6), 2) := by decide +kernel
theorem dX5_placement_43 : decode cX5_placement 43 = .ok (.goto 42, 3) := by decide +kernel
theorem dX5_placement_46 : decode cX5_placement 46 = .ok (.iload_n 3, 1) := by decide +kernel
theorem dX5_placement_47 : decode cX5_placement 47 = .ok (.ifCond .ne 10, 3) := by decide +kernel
theorem dX5_placement_50 : decode cX5_placement 50 = .ok (.aload_n 0, 1) := by decide +kernel
theorem dX5_placement_51 : decode cX5_placement 51 = .ok (.getfield 123, 3) := by decide +kernel
theorem dX5_placement_54 : decode cX5_placement 54 = .ok (.goto 31, 3) := by decide +kernel
theorem dX5_placement_57 : decode cX5_placement 57 = .ok (.iload_n 3, 1) := by decide +kernel
theorem dX5_placement_58 : decode cX5_placement 58 = .ok (.iconst 1, 1) := by decide +kernel
theorem dX5_placement_59 : decode cX5_placement 59 = .ok (.if_icmp .ne 10, 3) := by decide +kernel
theorem dX5_placement_62 : decode cX5_placement 62 = .ok (.aload_n 0, 1) := by decide +kernel
theorem dX5_placement_63 : decode cX5_placement 63 = .ok (.getfield 126, 3) := by decide +kernel
theorem dX5_placement_66 : decode cX5_placement 66 = .ok (.goto 19, 3) := by decide +kernel
theorem dX5_placement_69 : decode cX5_placement 69 = .ok (.iload_n 3, 1) := by decide +kernel
theorem dX5_placement_70 : decode cX5_placement 70 = .ok (.iconst 2, 1) := by decide +kernel
theorem dX5_placement_71 : decode cX5_placement 71 = .ok (.if_icmp .ne 10, 3) := by decide +kernel
theorem dX5_placement_74 : decode cX5_placement 74 = .ok (.aload_n 0, 1) := by decide +kernel
theorem dX5_placement_75 : decode cX5_placement 75 = .ok (.getfield 129, 3) := by decide +kernel
theorem dX5_placement_78 : decode cX5_placement 78 = .ok (.goto 7, 3) := by decide +kernel
theorem dX5_placement_81 : decode cX5_placement 81 = .ok (.aload_n 0, 1) := by decide +kernel
theorem dX5_placement_82 : decode cX5_placement 82 = .ok (.getfield 132, 3) := by decide +kernel
theorem dX5_placement_85 : decode cX5_placement 85 = .ok (.ireturn, 1) := by decide +kernel
theorem dX5_assign_0 : decode cX5_assign 0 = .ok (.aload_n 0, 1) := by decide +kernel
theorem dX5_assign_1 : decode cX5_assign 1 = .ok (.getfield 59, 3) := by decide +kernel
theorem dX5_assign_4 : decode cX5_assign 4 = .ok (.iload_n 1, 1) := by decide +kernel
theorem dX5_assign_5 : decode cX5_assign 5 = .ok (.bipush (-6), 2) := by decide +kernel
theorem dX5_assign_7 : decode cX5_assign 7 = .ok (.iastore, 1) := by decide +kernel
theorem dX5_assign_8 : decode cX5_assign 8 = .ok (.aload_n 0, 1) := by decide +kernel
theorem dX5_assign_9 : decode cX5_assign 9 = .ok (.getfield 62, 3) := by decide +kernel
theorem dX5_assign_12 : decode cX5_assign 12 = .ok (.iload_n 1, 1) := by decide +kernel
theorem dX5_assign_13 : decode cX5_assign 13 = .ok (.bipush (-6), 2) := by decide +kernel
theorem dX5_assign_15 : decode cX5_assign 15 = .ok (.iastore, 1) := by decide +kernel
theorem dX5_assign_16 : decode cX5_assign 16 = .ok (.aload_n 0, 1) := by decide +kernel
theorem dX5_assign_17 : decode cX5_assign 17 = .ok (.getfield 65, 3) := by decide +kernel
theorem dX5_assign_20 : decode cX5_assign 20 = .ok (.iload_n 1, 1) := by decide +kernel
theorem dX5_assign_21 : decode cX5_assign 21 = .ok (.bipush (-6), 2) := by decide +kernel
theorem dX5_assign_23 : decode cX5_assign 23 = .ok (.iastore, 1) := by decide +kernel
theorem dX5_assign_24 : decode cX5_assign 24 = .ok (.iconst 0, 1) := by decide +kernel
theorem dX5_assign_25 : decode cX5_assign 25 = .ok (.istore_n 2, 1) := by decide +kernel
theorem dX5_assign_26 : decode cX5_assign 26 = .ok (.iload_n 2, 1) := by decide +kernel
theorem dX5_assign_27 : decode cX5_assign 27 = .ok (.aload_n 0, 1) := by decide +kernel
theorem dX5_assign_28 : decode cX5_assign 28 = .ok (.getfield 75, 3) := by decide +kernel
theorem dX5_assign_31 : decode cX5_assign 31 = .ok (.if_icmp .ge 71, 3) := by decide +kernel
theorem dX5_assign_34 : decode cX5_assign 34 = .ok (.aload_n 0, 1) := by decide +kernel
theorem dX5_assign_35 : decode cX5_assign 35 = .ok (.iload_n 1, 1) := by decide +kernel
theorem dX5_assign_36 : decode cX5_assign 36 = .ok (.iload_n 2, 1) := by decide +kernel
theorem dX5_assign_37 : decode cX5_assign 37 = .ok (.invokevirtual 138, 3) := by decide +kernel
theorem dX5_assign_40 : decode cX5_assign 40 = .ok (.aload_n 0, 1) := by decide +kernel
theorem dX5_assign_41 : decode cX5_assign 41 = .ok (.getfield 116, 3) := by decide +kernel
theorem dX5_assign_44 : decode cX5_assign 44 = .ok (.ifCond .lt 52, 3) := by decide +kernel
theorem dX5_assign_47 : decode cX5_assign 47 = .ok (.aload_n 0, 1) := by decide +kernel
theorem dX5_assign_48 : decode cX5_assign 48 = .ok (.getfield 59, 3) := by decide +kernel
theorem dX5_assign_51 : decode cX5_assign 51 = .ok (.iload_n 1, 1) := by decide +kernel
theorem dX5_assign_52 : decode cX5_assign 52 = .ok (.iaload, 1) := by decide +kernel
theorem dX5_assign_53 : decode cX5_assign 53 = .ok (.ifCond .lt 16, 3) := by decide +kernel
theorem dX5_assign_56 : decode cX5_assign 56 = .ok (.aload_n 0, 1) := by decide +kernel
theorem dX5_assign_57 : decode cX5_assign 57 = .ok (.getfield 116, 3) := by decide +kernel
theorem dX5_assign_60 : decode cX5_assign 60 = .ok (.aload_n 0, 1) := by decide +kernel
theorem dX5_assign_61 : decode cX5_assign 61 = .ok (.getfield 65, 3) := by decide +kernel
theorem dX5_assign_64 : decode cX5_assign 64 = .ok (.iload_n 1, 1) := by decide +kernel
theorem dX5_assign_65 : decode cX5_assign 65 = .ok (.iaload, 1) := by decide +kernel
theorem dX5_assign_66 : decode cX5_assign 66 = .ok (.if_icmp .ge 30, 3) := by decide +kernel
theorem dX5_assign_69 : decode cX5_assign 69 = .ok (.aload_n 0, 1) := by decide +kernel
theorem dX5_assign_70 : decode cX5_assign 70 = .ok (.getfield 59, 3) := by decide +kernel
theorem dX5_assign_73 : decode cX5_assign 73 = .ok (.iload_n 1, 1) := by decide +kernel
theorem dX5_assign_74 : decode cX5_assign 74 = .ok (.iload_n 2, 1) := by decide +kernel
theorem dX5_assign_75 : decode cX5_assign 75 = .ok (.iastore, 1) := by decide +kernel
theorem dX5_assign_76 : decode cX5_assign 76 = .ok (.aload_n 0, 1) := by decide +kernel
theorem dX5_assign_77 : decode cX5_assign 77 = .ok (.getfield 62, 3) := by decide +kernel
theorem dX5_assign_80 : decode cX5_assign 80 = .ok (.iload_n 1, 1) := by decide +kernel
theorem dX5_assign_81 : decode cX5_assign 81 = .ok (.aload_n 0, 1) := by decide +kernel
theorem dX5_assign_82 : decode cX5_assign 82 = .ok (.getfield 132, 3) := by decide +kernel
theorem dX5_assign_85 : decode cX5_assign 85 = .ok (.iastore, 1) := by decide +kernel
theorem dX5_assign_86 : decode cX5_assign 86 = .ok (.aload_n 0, 1) := by decide +kernel
theorem dX5_assign_87 : decode cX5_assign 87 = .ok (.getfield 65, 3) := by decide +kernel
theorem dX5_assign_90 : decode cX5_assign 90 = .ok (.iload_n 1, 1) := by decide +kernel
theorem dX5_assign_91 : decode cX5_assign 91 = .ok (.aload_n 0, 1) := by decide +kernel
theorem dX5_assign_92 : decode cX5_assign 92 = .ok (.getfield 116, 3) := by decide +kernel
theorem dX5_assign_95 : decode cX5_assign 95 = .ok (.iastore, 1) := by decide +kernel
theorem dX5_assign_96 : decode cX5_assign 96 = .ok (.iinc 2 1, 3) := by decide +kernel
theorem dX5_assign_99 : decode cX5_assign 99 = .ok (.goto (-73), 3) := by decide +kernel
theorem dX5_assign_102 : decode cX5_assign 102 = .ok (.return_, 1) := by decide +kernel
theorem dX5_assignAll_0 : decode cX5_assignAll 0 = .ok (.iconst 0, 1) := by decide +kernel
theorem dX5_assignAll_1 : decode cX5_assignAll 1 = .ok (.istore_n 1, 1) := by decide +kernel
theorem dX5_assignAll_2 : decode cX5_assignAll 2 = .ok (.iload_n 1, 1) := by decide +kernel
theorem dX5_assignAll_3 : decode cX5_assignAll 3 = .ok (.aload_n 0, 1) := by decide +kernel
theorem dX5_assignAll_4 : decode cX5_assignAll 4 = .ok (.getfield 99, 3) := by decide +kernel
theorem dX5_assignAll_7 : decode cX5_assignAll 7 = .ok (.if_icmp .ge 14, 3) := by decide +kernel
theorem dX5_assignAll_10 : decode cX5_assignAll 10 = .ok (.aload_n 0, 1) := by decide +kernel
theorem dX5_assignAll_11 : decode cX5_assignAll 11 = .ok (.iload_n 1, 1) := by decide +kernel
theorem dX5_assignAll_12 : decode cX5_assignAll 12 = .ok (.invokevirtual 142, 3) := by decide +kernel
theorem dX5_assignAll_15 : decode cX5_assignAll 15 = .ok (.iinc 1 1, 3) := by decide +kernel
theorem dX5_assignAll_18 : decode cX5_assignAll 18 = .ok (.goto (-16), 3) := by decide +kernel
theorem dX5_assignAll_21 : decode cX5_assignAll 21 = .ok (.return_, 1) := by decide +kernel
theorem dX5_assignedMould_0 : decode cX5_assignedMould 0 = .ok (.aload_n 0, 1) := by decide +kernel
theorem dX5_assignedMould_1 : decode cX5_assignedMould 1 = .ok (.iload_n 1, 1) := by decide +kernel
theorem dX5_assignedMould_2 : decode cX5_assignedMould 2 = .ok (.invokevirtual 102, 3) := by decide +kernel
theorem dX5_assignedMould_5 : decode cX5_assignedMould 5 = .ok (.ifCond .eq 6, 3) := by decide +kernel
theorem dX5_assignedMould_8 : decode cX5_assignedMould 8 = .ok (.bipush (-2), 2) := by decide +kernel
theorem dX5_assignedMould_10 : decode cX5_assignedMould 10 = .ok (.ireturn, 1) := by decide +kernel
theorem dX5_assignedMould_11 : decode cX5_assignedMould 11 = .ok (.aload_n 0, 1) := by decide +kernel
theorem dX5_assignedMould_12 : decode cX5_assignedMould 12 = .ok (.iload_n 1, 1) := by decide +kernel
theorem dX5_assignedMould_13 : decode cX5_assignedMould 13 = .ok (.invokevirtual 142, 3) := by decide +kernel
theorem dX5_assignedMould_16 : decode cX5_assignedMould 16 = .ok (.aload_n 0, 1) := by decide +kernel
theorem dX5_assignedMould_17 : decode cX5_assignedMould 17 = .ok (.getfield 59, 3) := by decide +kernel
theorem dX5_assignedMould_20 : decode cX5_assignedMould 20 = .ok (.iload_n 1, 1) := by decide +kernel
theorem dX5_assignedMould_21 : decode cX5_assignedMould 21 = .ok (.iaload, 1) := by decide +kernel
theorem dX5_assignedMould_22 : decode cX5_assignedMould 22 = .ok (.ireturn, 1) := by decide +kernel
theorem dX5_rivalCount_0 : decode cX5_rivalCount 0 = .ok (.aload_n 0, 1) := by decide +kernel
theorem dX5_rivalCount_1 : decode cX5_rivalCount 1 = .ok (.iload_n 1, 1) := by decide +kernel
theorem dX5_rivalCount_2 : decode cX5_rivalCount 2 = .ok (.invokevirtual 102, 3) := by decide +kernel
theorem dX5_rivalCount_5 : decode cX5_rivalCount 5 = .ok (.ifCond .eq 6, 3) := by decide +kernel
theorem dX5_rivalCount_8 : decode cX5_rivalCount 8 = .ok (.bipush (-2), 2) := by decide +kernel
theorem dX5_rivalCount_10 : decode cX5_rivalCount 10 = .ok (.ireturn, 1) := by decide +kernel
theorem dX5_rivalCount_11 : decode cX5_rivalCount 11 = .ok (.iload_n 2, 1) := by decide +kernel
theorem dX5_rivalCount_12 : decode cX5_rivalCount 12 = .ok (.iconst 0, 1) := by decide +kernel
theorem dX5_rivalCount_13 : decode cX5_rivalCount 13 = .ok (.sipush 1000, 3) := by decide +kernel
theorem dX5_rivalCount_16 : decode cX5_rivalCount 16 = .ok (.invokestatic 71, 3) := by decide +kernel
theorem dX5_rivalCount_19 : decode cX5_rivalCount 19 = .ok (.ifCond .ne 6, 3) := by decide +kernel
theorem dX5_rivalCount_22 : decode cX5_rivalCount 22 = .ok (.bipush (-3), 2) := by decide +kernel
theorem dX5_rivalCount_24 : decode cX5_rivalCount 24 = .ok (.ireturn, 1) := by decide +kernel
theorem dX5_rivalCount_25 : decode cX5_rivalCount 25 = .ok (.aload_n 0, 1) := by decide +kernel
theorem dX5_rivalCount_26 : decode cX5_rivalCount 26 = .ok (.iload_n 1, 1) := by decide +kernel
theorem dX5_rivalCount_27 : decode cX5_rivalCount 27 = .ok (.invokevirtual 142, 3) := by decide +kernel
theorem dX5_rivalCount_30 : decode cX5_rivalCount 30 = .ok (.aload_n 0, 1) := by decide +kernel
theorem dX5_rivalCount_31 : decode cX5_rivalCount 31 = .ok (.getfield 59, 3) := by decide +kernel
theorem dX5_rivalCount_34 : decode cX5_rivalCount 34 = .ok (.iload_n 1, 1) := by decide +kernel
theorem dX5_rivalCount_35 : decode cX5_rivalCount 35 = .ok (.iaload, 1) := by decide +kernel
theorem dX5_rivalCount_36 : decode cX5_rivalCount 36 = .ok (.ifCond .ge 6, 3) := by decide +kernel
theorem dX5_rivalCount_39 : decode cX5_rivalCount 39 = .ok (.bipush (-6), 2) := by decide +kernel
theorem dX5_rivalCount_41 : decode cX5_rivalCount 41 = .ok (.ireturn, 1) := by decide +kernel
theorem dX5_rivalCount_42 : decode cX5_rivalCount 42 = .ok (.iconst 0, 1) := by decide +kernel
theorem dX5_rivalCount_43 : decode cX5_rivalCount 43 = .ok (.istore_n 3, 1) := by decide +kernel
theorem dX5_rivalCount_44 : decode cX5_rivalCount 44 = .ok (.iconst 0, 1) := by decide +kernel
theorem dX5_rivalCount_45 : decode cX5_rivalCount 45 = .ok (.istore 4, 2) := by decide +kernel
theorem dX5_rivalCount_47 : decode cX5_rivalCount 47 = .ok (.iload 4, 2) := by decide +kernel
theorem dX5_rivalCount_49 : decode cX5_rivalCount 49 = .ok (.aload_n 0, 1) := by decide +kernel
theorem dX5_rivalCount_50 : decode cX5_rivalCount 50 = .ok (.getfield 75, 3) := by decide +kernel
theorem dX5_rivalCount_53 : decode cX5_rivalCount 53 = .ok (.if_icmp .ge 57, 3) := by decide +kernel
theorem dX5_rivalCount_56 : decode cX5_rivalCount 56 = .ok (.aload_n 0, 1) := by decide +kernel
theorem dX5_rivalCount_57 : decode cX5_rivalCount 57 = .ok (.iload_n 1, 1) := by decide +kernel
theorem dX5_rivalCount_58 : decode cX5_rivalCount 58 = .ok (.iload 4, 2) := by decide +kernel
theorem dX5_rivalCount_60 : decode cX5_rivalCount 60 = .ok (.invokevirtual 138, 3) := by decide +kernel
theorem dX5_rivalCount_63 : decode cX5_rivalCount 63 = .ok (.iload_n 3, 1) := by decide +kernel
theorem dX5_rivalCount_64 : decode cX5_rivalCount 64 = .ok (.iload 4, 2) := by decide +kernel
theorem dX5_rivalCount_66 : decode cX5_rivalCount 66 = .ok (.aload_n 0, 1) := by decide +kernel
theorem dX5_rivalCount_67 : decode cX5_rivalCount 67 = .ok (.getfield 59, 3) := by decide +kernel
theorem dX5_rivalCount_70 : decode cX5_rivalCount 70 = .ok (.iload_n 1, 1) := by decide +kernel
theorem dX5_rivalCount_71 : decode cX5_rivalCount 71 = .ok (.iaload, 1) := by decide +kernel
theorem dX5_rivalCount_72 : decode cX5_rivalCount 72 = .ok (.if_icmp .eq 29, 3) := by decide +kernel
theorem dX5_rivalCount_75 : decode cX5_rivalCount 75 = .ok (.aload_n 0, 1) := by decide +kernel
theorem dX5_rivalCount_76 : decode cX5_rivalCount 76 = .ok (.getfield 116, 3) := by decide +kernel
theorem dX5_rivalCount_79 : decode cX5_rivalCount 79 = .ok (.ifCond .lt 22, 3) := by decide +kernel
theorem dX5_rivalCount_82 : decode cX5_rivalCount 82 = .ok (.aload_n 0, 1) := by decide +kernel
theorem dX5_rivalCount_83 : decode cX5_rivalCount 83 = .ok (.getfield 116, 3) := by decide +kernel
theorem dX5_rivalCount_86 : decode cX5_rivalCount 86 = .ok (.aload_n 0, 1) := by decide +kernel
theorem dX5_rivalCount_87 : decode cX5_rivalCount 87 = .ok (.getfield 65, 3) := by decide +kernel
theorem dX5_rivalCount_90 : decode cX5_rivalCount 90 = .ok (.iload_n 1, 1) := by decide +kernel
theorem dX5_rivalCount_91 : decode cX5_rivalCount 91 = .ok (.iaload, 1) := by decide +kernel
theorem dX5_rivalCount_92 : decode cX5_rivalCount 92 = .ok (.iload_n 2, 1) := by decide +kernel
theorem dX5_rivalCount_93 : decode cX5_rivalCount 93 = .ok (.iadd, 1) := by decide +kernel
theorem dX5_rivalCount_94 : decode cX5_rivalCount 94 = .ok (.if_icmp .gt 7, 3) := by decide +kernel
theorem dX5_rivalCount_97 : decode cX5_rivalCount 97 = .ok (.iconst 1, 1) := by decide +kernel
theorem dX5_rivalCount_98 : decode cX5_rivalCount 98 = .ok (.goto 4, 3) := by decide +kernel
theorem dX5_rivalCount_101 : decode cX5_rivalCount 101 = .ok (.iconst 0, 1) := by decide +kernel
theorem dX5_rivalCount_102 : decode cX5_rivalCount 102 = .ok (.iadd, 1) := by decide +kernel
theorem dX5_rivalCount_103 : decode cX5_rivalCount 103 = .ok (.istore_n 3, 1) := by decide +kernel
theorem dX5_rivalCount_104 : decode cX5_rivalCount 104 = .ok (.iinc 4 1, 3) := by decide +kernel
theorem dX5_rivalCount_107 : decode cX5_rivalCount 107 = .ok (.goto (-60), 3) := by decide +kernel
theorem dX5_rivalCount_110 : decode cX5_rivalCount 110 = .ok (.iload_n 3, 1) := by decide +kernel
theorem dX5_rivalCount_111 : decode cX5_rivalCount 111 = .ok (.ireturn, 1) := by decide +kernel
theorem dX5_sheetsOf_0 : decode cX5_sheetsOf 0 = .ok (.aload_n 0, 1) := by decide +kernel
theorem dX5_sheetsOf_1 : decode cX5_sheetsOf 1 = .ok (.iload_n 1, 1) := by decide +kernel
theorem dX5_sheetsOf_2 : decode cX5_sheetsOf 2 = .ok (.invokevirtual 85, 3) := by decide +kernel
theorem dX5_sheetsOf_5 : decode cX5_sheetsOf 5 = .ok (.ifCond .eq 5, 3) := by decide +kernel
theorem dX5_sheetsOf_8 : decode cX5_sheetsOf 8 = .ok (.iconst (-1), 1) := by decide +kernel
theorem dX5_sheetsOf_9 : decode cX5_sheetsOf 9 = .ok (.ireturn, 1) := by decide +kernel
theorem dX5_sheetsOf_10 : decode cX5_sheetsOf 10 = .ok (.aload_n 0, 1) := by decide +kernel
theorem dX5_sheetsOf_11 : decode cX5_sheetsOf 11 = .ok (.invokevirtual 146, 3) := by decide +kernel
theorem dX5_sheetsOf_14 : decode cX5_sheetsOf 14 = .ok (.iconst 0, 1) := by decide +kernel
theorem dX5_sheetsOf_15 : decode cX5_sheetsOf 15 = .ok (.istore_n 2, 1) := by decide +kernel
theorem dX5_sheetsOf_16 : decode cX5_sheetsOf 16 = .ok (.iconst 0, 1) := by decide +kernel
theorem dX5_sheetsOf_17 : decode cX5_sheetsOf 17 = .ok (.istore_n 3, 1) := by decide +kernel
theorem dX5_sheetsOf_18 : decode cX5_sheetsOf 18 = .ok (.iload_n 3, 1) := by decide +kernel
theorem dX5_sheetsOf_19 : decode cX5_sheetsOf 19 = .ok (.aload_n 0, 1) := by decide +kernel
theorem dX5_sheetsOf_20 : decode cX5_sheetsOf 20 = .ok (.getfield 99, 3) := by decide +kernel
theorem dX5_sheetsOf_23 : decode cX5_sheetsOf 23 = .ok (.if_icmp .ge 29, 3) := by decide +kernel
theorem dX5_sheetsOf_26 : decode cX5_sheetsOf 26 = .ok (.iload_n 2, 1) := by decide +kernel
theorem dX5_sheetsOf_27 : decode cX5_sheetsOf 27 = .ok (.aload_n 0, 1) := by decide +kernel
theorem dX5_sheetsOf_28 : decode cX5_sheetsOf 28 = .ok (.getfield 59, 3) := by decide +kernel
theorem dX5_sheetsOf_31 : decode cX5_sheetsOf 31 = .ok (.iload_n 3, 1) := by decide +kernel
theorem dX5_sheetsOf_32 : decode cX5_sheetsOf 32 = .ok (.iaload, 1) := by decide +kernel
theorem dX5_sheetsOf_33 : decode cX5_sheetsOf 33 = .ok (.iload_n 1, 1) := by decide +kernel
theorem dX5_sheetsOf_34 : decode cX5_sheetsOf 34 = .ok (.if_icmp .ne 9, 3) := by decide +kernel
theorem dX5_sheetsOf_37 : decode cX5_sheetsOf 37 = .ok (.iconst 1, 1) := by decide +kernel
theorem dX5_sheetsOf_38 : decode cX5_sheetsOf 38 = .ok (.iload_n 3, 1) := by decide +kernel
theorem dX5_sheetsOf_39 : decode cX5_sheetsOf 39 = .ok (.ishl, 1) := by decide +kernel
theorem dX5_sheetsOf_40 : decode cX5_sheetsOf 40 = .ok (.goto 4, 3) := by decide +kernel
theorem dX5_sheetsOf_43 : decode cX5_sheetsOf 43 = .ok (.iconst 0, 1) := by decide +kernel
theorem dX5_sheetsOf_44 : decode cX5_sheetsOf 44 = .ok (.ior, 1) := by decide +kernel
theorem dX5_sheetsOf_45 : decode cX5_sheetsOf 45 = .ok (.istore_n 2, 1) := by decide +kernel
theorem dX5_sheetsOf_46 : decode cX5_sheetsOf 46 = .ok (.iinc 3 1, 3) := by decide +kernel
theorem dX5_sheetsOf_49 : decode cX5_sheetsOf 49 = .ok (.goto (-31), 3) := by decide +kernel
theorem dX5_sheetsOf_52 : decode cX5_sheetsOf 52 = .ok (.iload_n 2, 1) := by decide +kernel
theorem dX5_sheetsOf_53 : decode cX5_sheetsOf 53 = .ok (.ireturn, 1) := by decide +kernel
theorem dX5_isLower_0 : decode cX5_isLower 0 = .ok (.aload_n 0, 1) := by decide +kernel
theorem dX5_isLower_1 : decode cX5_isLower 1 = .ok (.getfield 59, 3) := by decide +kernel
theorem dX5_isLower_4 : decode cX5_isLower 4 = .ok (.iload_n 1, 1) := by decide +kernel
theorem dX5_isLower_5 : decode cX5_isLower 5 = .ok (.iaload, 1) := by decide +kernel
theorem dX5_isLower_6 : decode cX5_isLower 6 = .ok (.ifCond .lt 46, 3) := by decide +kernel
theorem dX5_isLower_9 : decode cX5_isLower 9 = .ok (.aload_n 0, 1) := by decide +kernel
theorem dX5_isLower_10 : decode cX5_isLower 10 = .ok (.getfield 59, 3) := by decide +kernel
theorem dX5_isLower_13 : decode cX5_isLower 13 = .ok (.iload_n 1, 1) := by decide +kernel
theorem dX5_isLower_14 : decode cX5_isLower 14 = .ok (.iaload, 1) := by decide +kernel
theorem dX5_isLower_15 : decode cX5_isLower 15 = .ok (.aload_n 0, 1) := by decide +kernel
theorem dX5_isLower_16 : decode cX5_isLower 16 = .ok (.getfield 59, 3) := by decide +kernel
theorem dX5_isLower_19 : decode cX5_isLower 19 = .ok (.iload_n 2, 1) := by decide +kernel
theorem dX5_isLower_20 : decode cX5_isLower 20 = .ok (.iaload, 1) := by decide +kernel
theorem dX5_isLower_21 : decode cX5_isLower 21 = .ok (.if_icmp .ne 31, 3) := by decide +kernel
theorem dX5_isLower_24 : decode cX5_isLower 24 = .ok (.aload_n 0, 1) := by decide +kernel
theorem dX5_isLower_25 : decode cX5_isLower 25 = .ok (.getfield 62, 3) := by decide +kernel
theorem dX5_isLower_28 : decode cX5_isLower 28 = .ok (.iload_n 1, 1) := by decide +kernel
theorem dX5_isLower_29 : decode cX5_isLower 29 = .ok (.iaload, 1) := by decide +kernel
theorem dX5_isLower_30 : decode cX5_isLower 30 = .ok (.ifCond .lt 22, 3) := by decide +kernel
theorem dX5_isLower_33 : decode cX5_isLower 33 = .ok (.aload_n 0, 1) := by decide +kernel
theorem dX5_isLower_34 : decode cX5_isLower 34 = .ok (.getfield 62, 3) := by decide +kernel
theorem dX5_isLower_37 : decode cX5_isLower 37 = .ok (.iload_n 1, 1) := by decide +kernel
theorem dX5_isLower_38 : decode cX5_isLower 38 = .ok (.iaload, 1) := by decide +kernel
theorem dX5_isLower_39 : decode cX5_isLower 39 = .ok (.aload_n 0, 1) := by decide +kernel
theorem dX5_isLower_40 : decode cX5_isLower 40 = .ok (.getfield 62, 3) := by decide +kernel
theorem dX5_isLower_43 : decode cX5_isLower 43 = .ok (.iload_n 2, 1) := by decide +kernel
theorem dX5_isLower_44 : decode cX5_isLower 44 = .ok (.iaload, 1) := by decide +kernel
theorem dX5_isLower_45 : decode cX5_isLower 45 = .ok (.if_icmp .ge 7, 3) := by decide +kernel
theorem dX5_isLower_48 : decode cX5_isLower 48 = .ok (.iconst 1, 1) := by decide +kernel
theorem dX5_isLower_49 : decode cX5_isLower 49 = .ok (.goto 4, 3) := by decide +kernel
theorem dX5_isLower_52 : decode cX5_isLower 52 = .ok (.iconst 0, 1) := by decide +kernel
theorem dX5_isLower_53 : decode cX5_isLower 53 = .ok (.ireturn, 1) := by decide +kernel
theorem dX5_earliestOf_0 : decode cX5_earliestOf 0 = .ok (.aload_n 0, 1) := by decide +kernel
theorem dX5_earliestOf_1 : decode cX5_earliestOf 1 = .ok (.getfield 53, 3) := by decide +kernel
theorem dX5_earliestOf_4 : decode cX5_earliestOf 4 = .ok (.iload_n 1, 1) := by decide +kernel
theorem dX5_earliestOf_5 : decode cX5_earliestOf 5 = .ok (.iaload, 1) := by decide +kernel
theorem dX5_earliestOf_6 : decode cX5_earliestOf 6 = .ok (.istore_n 2, 1) := by decide +kernel
theorem dX5_earliestOf_7 : decode cX5_earliestOf 7 = .ok (.iconst 0, 1) := by decide +kernel
theorem dX5_earliestOf_8 : decode cX5_earliestOf 8 = .ok (.istore_n 3, 1) := by decide +kernel
theorem dX5_earliestOf_9 : decode cX5_earliestOf 9 = .ok (.iload_n 3, 1) := by decide +kernel
theorem dX5_earliestOf_10 : decode cX5_earliestOf 10 = .ok (.aload_n 0, 1) := by decide +kernel
theorem dX5_earliestOf_11 : decode cX5_earliestOf 11 = .ok (.getfield 99, 3) := by decide +kernel
theorem dX5_earliestOf_14 : decode cX5_earliestOf 14 = .ok (.if_icmp .ge 39, 3) := by decide +kernel
theorem dX5_earliestOf_17 : decode cX5_earliestOf 17 = .ok (.aload_n 0, 1) := by decide +kernel
theorem dX5_earliestOf_18 : decode cX5_earliestOf 18 = .ok (.iload_n 3, 1) := by decide +kernel
theorem dX5_earliestOf_19 : decode cX5_earliestOf 19 = .ok (.iload_n 1, 1) := by decide +kernel
theorem dX5_earliestOf_20 : decode cX5_earliestOf 20 = .ok (.invokevirtual 149, 3) := by decide +kernel
theorem dX5_earliestOf_23 : decode cX5_earliestOf 23 = .ok (.ifCond .eq 22, 3) := by decide +kernel
theorem dX5_earliestOf_26 : decode cX5_earliestOf 26 = .ok (.aload_n 0, 1) := by decide +kernel
theorem dX5_earliestOf_27 : decode cX5_earliestOf 27 = .ok (.getfield 53, 3) := by decide +kernel
theorem dX5_earliestOf_30 : decode cX5_earliestOf 30 = .ok (.iload_n 3, 1) := by decide +kernel
theorem dX5_earliestOf_31 : decode cX5_earliestOf 31 = .ok (.iaload, 1) := by decide +kernel
theorem dX5_earliestOf_32 : decode cX5_earliestOf 32 = .ok (.iload_n 2, 1) := by decide +kernel
theorem dX5_earliestOf_33 : decode cX5_earliestOf 33 = .ok (.if_icmp .le 12, 3) := by decide +kernel
theorem dX5_earliestOf_36 : decode cX5_earliestOf 36 = .ok (.aload_n 0, 1) := by decide +kernel
theorem dX5_earliestOf_37 : decode cX5_earliestOf 37 = .ok (.getfield 53, 3) := by decide +kernel
theorem dX5_earliestOf_40 : decode cX5_earliestOf 40 = .ok (.iload_n 3, 1) := by decide +kernel
theorem dX5_earliestOf_41 : decode cX5_earliestOf 41 = .ok (.iaload, 1) := by decide +kernel
theorem dX5_earliestOf_42 : decode cX5_earliestOf 42 = .ok (.goto 4, 3) := by decide +kernel
theorem dX5_earliestOf_45 : decode cX5_earliestOf 45 = .ok (.iload_n 2, 1) := by decide +kernel
theorem dX5_earliestOf_46 : decode cX5_earliestOf 46 = .ok (.istore_n 2, 1) := by decide +kernel
theorem dX5_earliestOf_47 : decode cX5_earliestOf 47 = .ok (.iinc 3 1, 3) := by decide +kernel
theorem dX5_earliestOf_50 : decode cX5_earliestOf 50 = .ok (.goto (-41), 3) := by decide +kernel
theorem dX5_earliestOf_53 : decode cX5_earliestOf 53 = .ok (.iload_n 2, 1) := by decide +kernel
theorem dX5_earliestOf_54 : decode cX5_earliestOf 54 = .ok (.ireturn, 1) := by decide +kernel
theorem dX5_earliest_0 : decode cX5_earliest 0 = .ok (.aload_n 0, 1) := by decide +kernel
theorem dX5_earliest_1 : decode cX5_earliest 1 = .ok (.iload_n 1, 1) := by decide +kernel
theorem dX5_earliest_2 : decode cX5_earliest 2 = .ok (.invokevirtual 102, 3) := by decide +kernel
theorem dX5_earliest_5 : decode cX5_earliest 5 = .ok (.ifCond .eq 6, 3) := by decide +kernel
theorem dX5_earliest_8 : decode cX5_earliest 8 = .ok (.bipush (-2), 2) := by decide +kernel
theorem dX5_earliest_10 : decode cX5_earliest 10 = .ok (.ireturn, 1) := by decide +kernel
theorem dX5_earliest_11 : decode cX5_earliest 11 = .ok (.aload_n 0, 1) := by decide +kernel
theorem dX5_earliest_12 : decode cX5_earliest 12 = .ok (.invokevirtual 146, 3) := by decide +kernel
theorem dX5_earliest_15 : decode cX5_earliest 15 = .ok (.aload_n 0, 1) := by decide +kernel
theorem dX5_earliest_16 : decode cX5_earliest 16 = .ok (.iload_n 1, 1) := by decide +kernel
theorem dX5_earliest_17 : decode cX5_earliest 17 = .ok (.invokevirtual 153, 3) := by decide +kernel
theorem dX5_earliest_20 : decode cX5_earliest 20 = .ok (.ireturn, 1) := by decide +kernel
theorem dX5_latest_0 : decode cX5_latest 0 = .ok (.aload_n 0, 1) := by decide +kernel
theorem dX5_latest_1 : decode cX5_latest 1 = .ok (.iload_n 1, 1) := by decide +kernel
theorem dX5_latest_2 : decode cX5_latest 2 = .ok (.invokevirtual 102, 3) := by decide +kernel
theorem dX5_latest_5 : decode cX5_latest 5 = .ok (.ifCond .eq 6, 3) := by decide +kernel
theorem dX5_latest_8 : decode cX5_latest 8 = .ok (.bipush (-2), 2) := by decide +kernel
theorem dX5_latest_10 : decode cX5_latest 10 = .ok (.ireturn, 1) := by decide +kernel
theorem dX5_latest_11 : decode cX5_latest 11 = .ok (.aload_n 0, 1) := by decide +kernel
theorem dX5_latest_12 : decode cX5_latest 12 = .ok (.invokevirtual 146, 3) := by decide +kernel
theorem dX5_latest_15 : decode cX5_latest 15 = .ok (.aload_n 0, 1) := by decide +kernel
theorem dX5_latest_16 : decode cX5_latest 16 = .ok (.getfield 56, 3) := by decide +kernel
theorem dX5_latest_19 : decode cX5_latest 19 = .ok (.iload_n 1, 1) := by decide +kernel
theorem dX5_latest_20 : decode cX5_latest 20 = .ok (.iaload, 1) := by decide +kernel
theorem dX5_latest_21 : decode cX5_latest 21 = .ok (.istore_n 2, 1) := by decide +kernel
theorem dX5_latest_22 : decode cX5_latest 22 = .ok (.iconst 0, 1) := by decide +kernel
theorem dX5_latest_23 : decode cX5_latest 23 = .ok (.istore_n 3, 1) := by decide +kernel
theorem dX5_latest_24 : decode cX5_latest 24 = .ok (.iload_n 3, 1) := by decide +kernel
theorem dX5_latest_25 : decode cX5_latest 25 = .ok (.aload_n 0, 1) := by decide +kernel
theorem dX5_latest_26 : decode cX5_latest 26 = .ok (.getfield 99, 3) := by decide +kernel
theorem dX5_latest_29 : decode cX5_latest 29 = .ok (.if_icmp .ge 39, 3) := by decide +kernel
theorem dX5_latest_32 : decode cX5_latest 32 = .ok (.aload_n 0, 1) := by decide +kernel
theorem dX5_latest_33 : decode cX5_latest 33 = .ok (.iload_n 1, 1) := by decide +kernel
theorem dX5_latest_34 : decode cX5_latest 34 = .ok (.iload_n 3, 1) := by decide +kernel
theorem dX5_latest_35 : decode cX5_latest 35 = .ok (.invokevirtual 149, 3) := by decide +kernel
theorem dX5_latest_38 : decode cX5_latest 38 = .ok (.ifCond .eq 22, 3) := by decide +kernel
theorem dX5_latest_41 : decode cX5_latest 41 = .ok (.aload_n 0, 1) := by decide +kernel
theorem dX5_latest_42 : decode cX5_latest 42 = .ok (.getfield 56, 3) := by decide +kernel
theorem dX5_latest_45 : decode cX5_latest 45 = .ok (.iload_n 3, 1) := by decide +kernel
theorem dX5_latest_46 : decode cX5_latest 46 = .ok (.iaload, 1) := by decide +kernel
theorem dX5_latest_47 : decode cX5_latest 47 = .ok (.iload_n 2, 1) := by decide +kernel
theorem dX5_latest_48 : decode cX5_latest 48 = .ok (.if_icmp .ge 12, 3) := by decide +kernel
theorem dX5_latest_51 : decode cX5_latest 51 = .ok (.aload_n 0, 1) := by decide +kernel
theorem dX5_latest_52 : decode cX5_latest 52 = .ok (.getfield 56, 3) := by decide +kernel
theorem dX5_latest_55 : decode cX5_latest 55 = .ok (.iload_n 3, 1) := by decide +kernel
theorem dX5_latest_56 : decode cX5_latest 56 = .ok (.iaload, 1) := by decide +kernel
theorem dX5_latest_57 : decode cX5_latest 57 = .ok (.goto 4, 3) := by decide +kernel
theorem dX5_latest_60 : decode cX5_latest 60 = .ok (.iload_n 2, 1) := by decide +kernel
theorem dX5_latest_61 : decode cX5_latest 61 = .ok (.istore_n 2, 1) := by decide +kernel
theorem dX5_latest_62 : decode cX5_latest 62 = .ok (.iinc 3 1, 3) := by decide +kernel
theorem dX5_latest_65 : decode cX5_latest 65 = .ok (.goto (-41), 3) := by decide +kernel
theorem dX5_latest_68 : decode cX5_latest 68 = .ok (.iload_n 2, 1) := by decide +kernel
theorem dX5_latest_69 : decode cX5_latest 69 = .ok (.ireturn, 1) := by decide +kernel
theorem dX5_isAhead_0 : decode cX5_isAhead 0 = .ok (.aload_n 0, 1) := by decide +kernel
theorem dX5_isAhead_1 : decode cX5_isAhead 1 = .ok (.getfield 62, 3) := by decide +kernel
theorem dX5_isAhead_4 : decode cX5_isAhead 4 = .ok (.iload_n 1, 1) := by decide +kernel
theorem dX5_isAhead_5 : decode cX5_isAhead 5 = .ok (.iaload, 1) := by decide +kernel
theorem dX5_isAhead_6 : decode cX5_isAhead 6 = .ok (.aload_n 0, 1) := by decide +kernel
theorem dX5_isAhead_7 : decode cX5_isAhead 7 = .ok (.getfield 62, 3) := by decide +kernel
theorem dX5_isAhead_10 : decode cX5_isAhead 10 = .ok (.iload_n 2, 1) := by decide +kernel
theorem dX5_isAhead_11 : decode cX5_isAhead 11 = .ok (.iaload, 1) := by decide +kernel
theorem dX5_isAhead_12 : decode cX5_isAhead 12 = .ok (.if_icmp .eq 24, 3) := by decide +kernel
theorem dX5_isAhead_15 : decode cX5_isAhead 15 = .ok (.aload_n 0, 1) := by decide +kernel
theorem dX5_isAhead_16 : decode cX5_isAhead 16 = .ok (.getfield 62, 3) := by decide +kernel
theorem dX5_isAhead_19 : decode cX5_isAhead 19 = .ok (.iload_n 1, 1) := by decide +kernel
theorem dX5_isAhead_20 : decode cX5_isAhead 20 = .ok (.iaload, 1) := by decide +kernel
theorem dX5_isAhead_21 : decode cX5_isAhead 21 = .ok (.aload_n 0, 1) := by decide +kernel
theorem dX5_isAhead_22 : decode cX5_isAhead 22 = .ok (.getfield 62, 3) := by decide +kernel
theorem dX5_isAhead_25 : decode cX5_isAhead 25 = .ok (.iload_n 2, 1) := by decide +kernel
theorem dX5_isAhead_26 : decode cX5_isAhead 26 = .ok (.iaload, 1) := by decide +kernel
theorem dX5_isAhead_27 : decode cX5_isAhead 27 = .ok (.if_icmp .ge 7, 3) := by decide +kernel
theorem dX5_isAhead_30 : decode cX5_isAhead 30 = .ok (.iconst 1, 1) := by decide +kernel
theorem dX5_isAhead_31 : decode cX5_isAhead 31 = .ok (.goto 4, 3) := by decide +kernel
theorem dX5_isAhead_34 : decode cX5_isAhead 34 = .ok (.iconst 0, 1) := by decide +kernel
theorem dX5_isAhead_35 : decode cX5_isAhead 35 = .ok (.ireturn, 1) := by decide +kernel
theorem dX5_isAhead_36 : decode cX5_isAhead 36 = .ok (.aload_n 0, 1) := by decide +kernel
theorem dX5_isAhead_37 : decode cX5_isAhead 37 = .ok (.iload_n 1, 1) := by decide +kernel
theorem dX5_isAhead_38 : decode cX5_isAhead 38 = .ok (.invokevirtual 153, 3) := by decide +kernel
theorem dX5_isAhead_41 : decode cX5_isAhead 41 = .ok (.istore_n 3, 1) := by decide +kernel
theorem dX5_isAhead_42 : decode cX5_isAhead 42 = .ok (.aload_n 0, 1) := by decide +kernel
theorem dX5_isAhead_43 : decode cX5_isAhead 43 = .ok (.iload_n 2, 1) := by decide +kernel
theorem dX5_isAhead_44 : decode cX5_isAhead 44 = .ok (.invokevirtual 153, 3) := by decide +kernel
theorem dX5_isAhead_47 : decode cX5_isAhead 47 = .ok (.istore 4, 2) := by decide +kernel
theorem dX5_isAhead_49 : decode cX5_isAhead 49 = .ok (.iload_n 3, 1) := by decide +kernel
theorem dX5_isAhead_50 : decode cX5_isAhead 50 = .ok (.iload 4, 2) := by decide +kernel
theorem dX5_isAhead_52 : decode cX5_isAhead 52 = .ok (.if_icmp .eq 17, 3) := by decide +kernel
theorem dX5_isAhead_55 : decode cX5_isAhead 55 = .ok (.iload_n 3, 1) := by decide +kernel
theorem dX5_isAhead_56 : decode cX5_isAhead 56 = .ok (.iload 4, 2) := by decide +kernel
theorem dX5_isAhead_58 : decode cX5_isAhead 58 = .ok (.if_icmp .ge 7, 3) := by decide +kernel
theorem dX5_isAhead_61 : decode cX5_isAhead 61 = .ok (.iconst 1, 1) := by decide +kernel
theorem dX5_isAhead_62 : decode cX5_isAhead 62 = .ok (.goto 17, 3) := by decide +kernel
theorem dX5_isAhead_65 : decode cX5_isAhead 65 = .ok (.iconst 0, 1) := by decide +kernel
theorem dX5_isAhead_66 : decode cX5_isAhead 66 = .ok (.goto 13, 3) := by decide +kernel
theorem dX5_isAhead_69 : decode cX5_isAhead 69 = .ok (.iload_n 1, 1) := by decide +kernel
theorem dX5_isAhead_70 : decode cX5_isAhead 70 = .ok (.iload_n 2, 1) := by decide +kernel
theorem dX5_isAhead_71 : decode cX5_isAhead 71 = .ok (.if_icmp .ge 7, 3) := by decide +kernel
theorem dX5_isAhead_74 : decode cX5_isAhead 74 = .ok (.iconst 1, 1) := by decide +kernel
theorem dX5_isAhead_75 : decode cX5_isAhead 75 = .ok (.goto 4, 3) := by decide +kernel
theorem dX5_isAhead_78 : decode cX5_isAhead 78 = .ok (.iconst 0, 1) := by decide +kernel
theorem dX5_isAhead_79 : decode cX5_isAhead 79 = .ok (.ireturn, 1) := by decide +kernel
theorem dX5_isPlaced_0 : decode cX5_isPlaced 0 = .ok (.aload_n 0, 1) := by decide +kernel
theorem dX5_isPlaced_1 : decode cX5_isPlaced 1 = .ok (.getfield 59, 3) := by decide +kernel
theorem dX5_isPlaced_4 : decode cX5_isPlaced 4 = .ok (.iload_n 1, 1) := by decide +kernel
theorem dX5_isPlaced_5 : decode cX5_isPlaced 5 = .ok (.iaload, 1) := by decide +kernel
theorem dX5_isPlaced_6 : decode cX5_isPlaced 6 = .ok (.iload_n 2, 1) := by decide +kernel
theorem dX5_isPlaced_7 : decode cX5_isPlaced 7 = .ok (.if_icmp .ne 16, 3) := by decide +kernel
theorem dX5_isPlaced_10 : decode cX5_isPlaced 10 = .ok (.aload_n 0, 1) := by decide +kernel
theorem dX5_isPlaced_11 : decode cX5_isPlaced 11 = .ok (.getfield 62, 3) := by decide +kernel
theorem dX5_isPlaced_14 : decode cX5_isPlaced 14 = .ok (.iload_n 1, 1) := by decide +kernel
theorem dX5_isPlaced_15 : decode cX5_isPlaced 15 = .ok (.iaload, 1) := by decide +kernel
theorem dX5_isPlaced_16 : decode cX5_isPlaced 16 = .ok (.ifCond .lt 7, 3) := by decide +kernel
theorem dX5_isPlaced_19 : decode cX5_isPlaced 19 = .ok (.iconst 1, 1) := by decide +kernel
theorem dX5_isPlaced_20 : decode cX5_isPlaced 20 = .ok (.goto 4, 3) := by decide +kernel
theorem dX5_isPlaced_23 : decode cX5_isPlaced 23 = .ok (.iconst 0, 1) := by decide +kernel
theorem dX5_isPlaced_24 : decode cX5_isPlaced 24 = .ok (.ireturn, 1) := by decide +kernel
theorem dX5_sheetAt_0 : decode cX5_sheetAt 0 = .ok (.aload_n 0, 1) := by decide +kernel
theorem dX5_sheetAt_1 : decode cX5_sheetAt 1 = .ok (.iload_n 1, 1) := by decide +kernel
theorem dX5_sheetAt_2 : decode cX5_sheetAt 2 = .ok (.invokevirtual 85, 3) := by decide +kernel
theorem dX5_sheetAt_5 : decode cX5_sheetAt 5 = .ok (.ifCond .eq 5, 3) := by decide +kernel
theorem dX5_sheetAt_8 : decode cX5_sheetAt 8 = .ok (.iconst (-1), 1) := by decide +kernel
theorem dX5_sheetAt_9 : decode cX5_sheetAt 9 = .ok (.ireturn, 1) := by decide +kernel
theorem dX5_sheetAt_10 : decode cX5_sheetAt 10 = .ok (.iload_n 2, 1) := by decide +kernel
theorem dX5_sheetAt_11 : decode cX5_sheetAt 11 = .ok (.ifCond .ge 6, 3) := by decide +kernel
theorem dX5_sheetAt_14 : decode cX5_sheetAt 14 = .ok (.bipush (-3), 2) := by decide +kernel
theorem dX5_sheetAt_16 : decode cX5_sheetAt 16 = .ok (.ireturn, 1) := by decide +kernel
theorem dX5_sheetAt_17 : decode cX5_sheetAt 17 = .ok (.aload_n 0, 1) := by decide +kernel
theorem dX5_sheetAt_18 : decode cX5_sheetAt 18 = .ok (.invokevirtual 146, 3) := by decide +kernel
theorem dX5_sheetAt_21 : decode cX5_sheetAt 21 = .ok (.iconst 0, 1) := by decide +kernel
theorem dX5_sheetAt_22 : decode cX5_sheetAt 22 = .ok (.istore_n 3, 1) := by decide +kernel
theorem dX5_sheetAt_23 : decode cX5_sheetAt 23 = .ok (.iload_n 3, 1) := by decide +kernel
theorem dX5_sheetAt_24 : decode cX5_sheetAt 24 = .ok (.aload_n 0, 1) := by decide +kernel
theorem dX5_sheetAt_25 : decode cX5_sheetAt 25 = .ok (.getfield 99, 3) := by decide +kernel
theorem dX5_sheetAt_28 : decode cX5_sheetAt 28 = .ok (.if_icmp .ge 92, 3) := by decide +kernel
theorem dX5_sheetAt_31 : decode cX5_sheetAt 31 = .ok (.iconst 0, 1) := by decide +kernel
theorem dX5_sheetAt_32 : decode cX5_sheetAt 32 = .ok (.istore 4, 2) := by decide +kernel
theorem dX5_sheetAt_34 : decode cX5_sheetAt 34 = .ok (.iconst 0, 1) := by decide +kernel
theorem dX5_sheetAt_35 : decode cX5_sheetAt 35 = .ok (.istore 5, 2) := by decide +kernel
theorem dX5_sheetAt_37 : decode cX5_sheetAt 37 = .ok (.iload 5, 2) := by decide +kernel
theorem dX5_sheetAt_39 : decode cX5_sheetAt 39 = .ok (.aload_n 0, 1) := by decide +kernel
theorem dX5_sheetAt_40 : decode cX5_sheetAt 40 = .ok (.getfield 99, 3) := by decide +kernel
theorem dX5_sheetAt_43 : decode cX5_sheetAt 43 = .ok (.if_icmp .ge 54, 3) := by decide +kernel
theorem dX5_sheetAt_46 : decode cX5_sheetAt 46 = .ok (.iload 4, 2) := by decide +kernel
theorem dX5_sheetAt_48 : decode cX5_sheetAt 48 = .ok (.aload_n 0, 1) := by decide +kernel
theorem dX5_sheetAt_49 : decode cX5_sheetAt 49 = .ok (.iload_n 3, 1) := by decide +kernel
theorem dX5_sheetAt_50 : decode cX5_sheetAt 50 = .ok (.iload_n 1, 1) := by decide +kernel
theorem dX5_sheetAt_51 : decode cX5_sheetAt 51 = .ok (.invokevirtual 157, 3) := by decide +kernel
theorem dX5_sheetAt_54 : decode cX5_sheetAt 54 = .ok (.ifCond .eq 33, 3) := by decide +kernel
theorem dX5_sheetAt_57 : decode cX5_sheetAt 57 = .ok (.aload_n 0, 1) := by decide +kernel
theorem dX5_sheetAt_58 : decode cX5_sheetAt 58 = .ok (.iload 5, 2) := by decide +kernel
theorem dX5_sheetAt_60 : decode cX5_sheetAt 60 = .ok (.iload_n 1, 1) := by decide +kernel
theorem dX5_sheetAt_61 : decode cX5_sheetAt 61 = .ok (.invokevirtual 157, 3) := by decide +kernel
theorem dX5_sheetAt_64 : decode cX5_sheetAt 64 = .ok (.ifCond .eq 23, 3) := by decide +kernel
theorem dX5_sheetAt_67 : decode cX5_sheetAt 67 = .ok (.iload 5, 2) := by decide +kernel
theorem dX5_sheetAt_69 : decode cX5_sheetAt 69 = .ok (.iload_n 3, 1) := by decide +kernel
theorem dX5_sheetAt_70 : decode cX5_sheetAt 70 = .ok (.if_icmp .eq 17, 3) := by decide +kernel
theorem dX5_sheetAt_73 : decode cX5_sheetAt 73 = .ok (.aload_n 0, 1) := by decide +kernel
theorem dX5_sheetAt_74 : decode cX5_sheetAt 74 = .ok (.iload 5, 2) := by decide +kernel
theorem dX5_sheetAt_76 : decode cX5_sheetAt 76 = .ok (.iload_n 3, 1) := by decide +kernel
theorem dX5_sheetAt_77 : decode cX5_sheetAt 77 = .ok (.invokevirtual 160, 3) := by decide +kernel
theorem dX5_sheetAt_80 : decode cX5_sheetAt 80 = .ok (.ifCond .eq 7, 3) := by decide +kernel
theorem dX5_sheetAt_83 : decode cX5_sheetAt 83 = .ok (.iconst 1, 1) := by decide +kernel
theorem dX5_sheetAt_84 : decode cX5_sheetAt 84 = .ok (.goto 4, 3) := by decide +kernel
theorem dX5_sheetAt_87 : decode cX5_sheetAt 87 = .ok (.iconst 0, 1) := by decide +kernel
theorem dX5_sheetAt_88 : decode cX5_sheetAt 88 = .ok (.iadd, 1) := by decide +kernel
theorem dX5_sheetAt_89 : decode cX5_sheetAt 89 = .ok (.istore 4, 2) := by decide +kernel
theorem dX5_sheetAt_91 : decode cX5_sheetAt 91 = .ok (.iinc 5 1, 3) := by decide +kernel
theorem dX5_sheetAt_94 : decode cX5_sheetAt 94 = .ok (.goto (-57), 3) := by decide +kernel
theorem dX5_sheetAt_97 : decode cX5_sheetAt 97 = .ok (.aload_n 0, 1) := by decide +kernel
theorem dX5_sheetAt_98 : decode cX5_sheetAt 98 = .ok (.iload_n 3, 1) := by decide +kernel
theorem dX5_sheetAt_99 : decode cX5_sheetAt 99 = .ok (.iload_n 1, 1) := by decide +kernel
theorem dX5_sheetAt_100 : decode cX5_sheetAt 100 = .ok (.invokevirtual 157, 3) := by decide +kernel
theorem dX5_sheetAt_103 : decode cX5_sheetAt 103 = .ok (.ifCond .eq 11, 3) := by decide +kernel
theorem dX5_sheetAt_106 : decode cX5_sheetAt 106 = .ok (.iload 4, 2) := by decide +kernel
theorem dX5_sheetAt_108 : decode cX5_sheetAt 108 = .ok (.iload_n 2, 1) := by decide +kernel
theorem dX5_sheetAt_109 : decode cX5_sheetAt 109 = .ok (.if_icmp .ne 5, 3) := by decide +kernel
theorem dX5_sheetAt_112 : decode cX5_sheetAt 112 = .ok (.iload_n 3, 1) := by decide +kernel
theorem dX5_sheetAt_113 : decode cX5_sheetAt 113 = .ok (.ireturn, 1) := by decide +kernel
theorem dX5_sheetAt_114 : decode cX5_sheetAt 114 = .ok (.iinc 3 1, 3) := by decide +kernel
theorem dX5_sheetAt_117 : decode cX5_sheetAt 117 = .ok (.goto (-94), 3) := by decide +kernel
theorem dX5_sheetAt_120 : decode cX5_sheetAt 120 = .ok (.bipush (-6), 2) := by decide +kernel
theorem dX5_sheetAt_122 : decode cX5_sheetAt 122 = .ok (.ireturn, 1) := by decide +kernel
theorem dX5_contradictionCount_0 : decode cX5_contradictionCount 0 = .ok (.aload_n 0, 1) := by decide +kernel
theorem dX5_contradictionCount_1 : decode cX5_contradictionCount 1 = .ok (.iload_n 1, 1) := by decide +kernel
theorem dX5_contradictionCount_2 : decode cX5_contradictionCount 2 = .ok (.invokevirtual 85, 3) := by decide +kernel
theorem dX5_contradictionCount_5 : decode cX5_contradictionCount 5 = .ok (.ifCond .eq 5, 3) := by decide +kernel
theorem dX5_contradictionCount_8 : decode cX5_contradictionCount 8 = .ok (.iconst (-1), 1) := by decide +kernel
theorem dX5_contradictionCount_9 : decode cX5_contradictionCount 9 = .ok (.ireturn, 1) := by decide +kernel
theorem dX5_contradictionCount_10 : decode cX5_contradictionCount 10 = .ok (.aload_n 0, 1) := by decide +kernel
theorem dX5_contradictionCount_11 : decode cX5_contradictionCount 11 = .ok (.invokevirtual 146, 3) := by decide +kernel
theorem dX5_contradictionCount_14 : decode cX5_contradictionCount 14 = .ok (.iconst 0, 1) := by decide +kernel
theorem dX5_contradictionCount_15 : decode cX5_contradictionCount 15 = .ok (.istore_n 2, 1) := by decide +kernel
theorem dX5_contradictionCount_16 : decode cX5_contradictionCount 16 = .ok (.iconst 0, 1) := by decide +kernel
theorem dX5_contradictionCount_17 : decode cX5_contradictionCount 17 = .ok (.istore_n 3, 1) := by decide +kernel
theorem dX5_contradictionCount_18 : decode cX5_contradictionCount 18 = .ok (.iload_n 3, 1) := by decide +kernel
theorem dX5_contradictionCount_19 : decode cX5_contradictionCount 19 = .ok (.aload_n 0, 1) := by decide +kernel
theorem dX5_contradictionCount_20 : decode cX5_contradictionCount 20 = .ok (.getfield 99, 3) := by decide +kernel
theorem dX5_contradictionCount_23 : decode cX5_contradictionCount 23 = .ok (.if_icmp .ge 71, 3) := by decide +kernel
theorem dX5_contradictionCount_26 : decode cX5_contradictionCount 26 = .ok (.iconst 0, 1) := by decide +kernel
theorem dX5_contradictionCount_27 : decode cX5_contradictionCount 27 = .ok (.istore 4, 2) := by decide +kernel
theorem dX5_contradictionCount_29 : decode cX5_contradictionCount 29 = .ok (.iload 4, 2) := by decide +kernel
theorem dX5_contradictionCount_31 : decode cX5_contradictionCount 31 = .ok (.aload_n 0, 1) := by decide +kernel
theorem dX5_contradictionCount_32 : decode cX5_contradictionCount 32 = .ok (.getfield 99, 3) := by decide +kernel
theorem dX5_contradictionCount_35 : decode cX5_contradictionCount 35 = .ok (.if_icmp .ge 53, 3) := by decide +kernel
theorem dX5_contradictionCount_38 : decode cX5_contradictionCount 38 = .ok (.iload_n 2, 1) := by decide +kernel
theorem dX5_contradictionCount_39 : decode cX5_contradictionCount 39 = .ok (.aload_n 0, 1) := by decide +kernel
theorem dX5_contradictionCount_40 : decode cX5_contradictionCount 40 = .ok (.getfield 59, 3) := by decide +kernel
theorem dX5_contradictionCount_43 : decode cX5_contradictionCount 43 = .ok (.iload_n 3, 1) := by decide +kernel
theorem dX5_contradictionCount_44 : decode cX5_contradictionCount 44 = .ok (.iaload, 1) := by decide +kernel
theorem dX5_contradictionCount_45 : decode cX5_contradictionCount 45 = .ok (.iload_n 1, 1) := by decide +kernel
theorem dX5_contradictionCount_46 : decode cX5_contradictionCount 46 = .ok (.if_icmp .ne 33, 3) := by decide +kernel
theorem dX5_contradictionCount_49 : decode cX5_contradictionCount 49 = .ok (.aload_n 0, 1) := by decide +kernel
theorem dX5_contradictionCount_50 : decode cX5_contradictionCount 50 = .ok (.iload_n 3, 1) := by decide +kernel
theorem dX5_contradictionCount_51 : decode cX5_contradictionCount 51 = .ok (.iload 4, 2) := by decide +kernel
theorem dX5_contradictionCount_53 : decode cX5_contradictionCount 53 = .ok (.invokevirtual 149, 3) := by decide +kernel
theorem dX5_contradictionCount_56 : decode cX5_contradictionCount 56 = .ok (.ifCond .eq 23, 3) := by decide +kernel
theorem dX5_contradictionCount_59 : decode cX5_contradictionCount 59 = .ok (.aload_n 0, 1) := by decide +kernel
theorem dX5_contradictionCount_60 : decode cX5_contradictionCount 60 = .ok (.getfield 53, 3) := by decide +kernel
theorem dX5_contradictionCount_63 : decode cX5_contradictionCount 63 = .ok (.iload_n 3, 1) := by decide +kernel
theorem dX5_contradictionCount_64 : decode cX5_contradictionCount 64 = .ok (.iaload, 1) := by decide +kernel
theorem dX5_contradictionCount_65 : decode cX5_contradictionCount 65 = .ok (.aload_n 0, 1) := by decide +kernel
theorem dX5_contradictionCount_66 : decode cX5_contradictionCount 66 = .ok (.getfield 56, 3) := by decide +kernel
theorem dX5_contradictionCount_69 : decode cX5_contradictionCount 69 = .ok (.iload 4, 2) := by decide +kernel
theorem dX5_contradictionCount_71 : decode cX5_contradictionCount 71 = .ok (.iaload, 1) := by decide +kernel
theorem dX5_contradictionCount_72 : decode cX5_contradictionCount 72 = .ok (.if_icmp .le 7, 3) := by decide +kernel
theorem dX5_contradictionCount_75 : decode cX5_contradictionCount 75 = .ok (.iconst 1, 1) := by decide +kernel
theorem dX5_contradictionCount_76 : decode cX5_contradictionCount 76 = .ok (.goto 4, 3) := by decide +kernel
theorem dX5_contradictionCount_79 : decode cX5_contradictionCount 79 = .ok (.iconst 0, 1) := by decide +kernel
theorem dX5_contradictionCount_80 : decode cX5_contradictionCount 80 = .ok (.iadd, 1) := by decide +kernel
theorem dX5_contradictionCount_81 : decode cX5_contradictionCount 81 = .ok (.istore_n 2, 1) := by decide +kernel
theorem dX5_contradictionCount_82 : decode cX5_contradictionCount 82 = .ok (.iinc 4 1, 3) := by decide +kernel
theorem dX5_contradictionCount_85 : decode cX5_contradictionCount 85 = .ok (.goto (-56), 3) := by decide +kernel
theorem dX5_contradictionCount_88 : decode cX5_contradictionCount 88 = .ok (.iinc 3 1, 3) := by decide +kernel
theorem dX5_contradictionCount_91 : decode cX5_contradictionCount 91 = .ok (.goto (-73), 3) := by decide +kernel
theorem dX5_contradictionCount_94 : decode cX5_contradictionCount 94 = .ok (.iload_n 2, 1) := by decide +kernel
theorem dX5_contradictionCount_95 : decode cX5_contradictionCount 95 = .ok (.ireturn, 1) := by decide +kernel
