theorem d_S_init_0 : decode b_S_init 0 = .ok (.aload_n 0, 1) := by decide +kernel
theorem d_S_init_1 : decode b_S_init 1 = .ok (.invokespecial 3, 3) := by decide +kernel
theorem d_S_init_4 : decode b_S_init 4 = .ok (.aload_n 0, 1) := by decide +kernel
theorem d_S_init_5 : decode b_S_init 5 = .ok (.iconst 4, 1) := by decide +kernel
theorem d_S_init_6 : decode b_S_init 6 = .ok (.newarray .int, 2) := by decide +kernel
theorem d_S_init_8 : decode b_S_init 8 = .ok (.putfield 9, 3) := by decide +kernel
theorem d_S_init_11 : decode b_S_init 11 = .ok (.aload_n 0, 1) := by decide +kernel
theorem d_S_init_12 : decode b_S_init 12 = .ok (.bipush 24, 2) := by decide +kernel
theorem d_S_init_14 : decode b_S_init 14 = .ok (.anewarray 13, 3) := by decide +kernel
theorem d_S_init_17 : decode b_S_init 17 = .ok (.putfield 15, 3) := by decide +kernel
theorem d_S_init_20 : decode b_S_init 20 = .ok (.aload_n 0, 1) := by decide +kernel
theorem d_S_init_21 : decode b_S_init 21 = .ok (.iconst 4, 1) := by decide +kernel
theorem d_S_init_22 : decode b_S_init 22 = .ok (.anewarray 19, 3) := by decide +kernel
theorem d_S_init_25 : decode b_S_init 25 = .ok (.putfield 21, 3) := by decide +kernel
theorem d_S_init_28 : decode b_S_init 28 = .ok (.aload_n 0, 1) := by decide +kernel
theorem d_S_init_29 : decode b_S_init 29 = .ok (.bipush 6, 2) := by decide +kernel
theorem d_S_init_31 : decode b_S_init 31 = .ok (.newarray .int, 2) := by decide +kernel
theorem d_S_init_33 : decode b_S_init 33 = .ok (.putfield 25, 3) := by decide +kernel
theorem d_S_init_36 : decode b_S_init 36 = .ok (.aload_n 0, 1) := by decide +kernel
theorem d_S_init_37 : decode b_S_init 37 = .ok (.bipush 6, 2) := by decide +kernel
theorem d_S_init_39 : decode b_S_init 39 = .ok (.newarray .int, 2) := by decide +kernel
theorem d_S_init_41 : decode b_S_init 41 = .ok (.putfield 28, 3) := by decide +kernel
theorem d_S_init_44 : decode b_S_init 44 = .ok (.aload_n 0, 1) := by decide +kernel
theorem d_S_init_45 : decode b_S_init 45 = .ok (.bipush 8, 2) := by decide +kernel
theorem d_S_init_47 : decode b_S_init 47 = .ok (.newarray .int, 2) := by decide +kernel
theorem d_S_init_49 : decode b_S_init 49 = .ok (.putfield 31, 3) := by decide +kernel
theorem d_S_init_52 : decode b_S_init 52 = .ok (.aload_n 0, 1) := by decide +kernel
theorem d_S_init_53 : decode b_S_init 53 = .ok (.bipush 8, 2) := by decide +kernel
theorem d_S_init_55 : decode b_S_init 55 = .ok (.newarray .int, 2) := by decide +kernel
theorem d_S_init_57 : decode b_S_init 57 = .ok (.putfield 34, 3) := by decide +kernel
theorem d_S_init_60 : decode b_S_init 60 = .ok (.aload_n 0, 1) := by decide +kernel
theorem d_S_init_61 : decode b_S_init 61 = .ok (.bipush 24, 2) := by decide +kernel
theorem d_S_init_63 : decode b_S_init 63 = .ok (.anewarray 37, 3) := by decide +kernel
theorem d_S_init_66 : decode b_S_init 66 = .ok (.putfield 39, 3) := by decide +kernel
theorem d_S_init_69 : decode b_S_init 69 = .ok (.sipush 4096, 3) := by decide +kernel
theorem d_S_init_72 : decode b_S_init 72 = .ok (.newarray .long, 2) := by decide +kernel
theorem d_S_init_74 : decode b_S_init 74 = .ok (.astore_n 1, 1) := by decide +kernel
theorem d_S_init_75 : decode b_S_init 75 = .ok (.aload_n 1, 1) := by decide +kernel
theorem d_S_init_76 : decode b_S_init 76 = .ok (.ldc2_w 43, 3) := by decide +kernel
theorem d_S_init_79 : decode b_S_init 79 = .ok (.invokestatic 45, 3) := by decide +kernel
theorem d_S_init_82 : decode b_S_init 82 = .ok (.aload_n 0, 1) := by decide +kernel
theorem d_S_init_83 : decode b_S_init 83 = .ok (.getfield 15, 3) := by decide +kernel
theorem d_S_init_86 : decode b_S_init 86 = .ok (.iconst 0, 1) := by decide +kernel
theorem d_S_init_87 : decode b_S_init 87 = .ok (.new 13, 3) := by decide +kernel
theorem d_S_init_90 : decode b_S_init 90 = .ok (.dup, 1) := by decide +kernel
theorem d_S_init_91 : decode b_S_init 91 = .ok (.iconst (-1), 1) := by decide +kernel
theorem d_S_init_92 : decode b_S_init 92 = .ok (.iconst (-1), 1) := by decide +kernel
theorem d_S_init_93 : decode b_S_init 93 = .ok (.iconst 1, 1) := by decide +kernel
theorem d_S_init_94 : decode b_S_init 94 = .ok (.aload_n 1, 1) := by decide +kernel
theorem d_S_init_95 : decode b_S_init 95 = .ok (.invokespecial 51, 3) := by decide +kernel
theorem d_S_init_98 : decode b_S_init 98 = .ok (.aastore, 1) := by decide +kernel
theorem d_S_init_99 : decode b_S_init 99 = .ok (.aload_n 0, 1) := by decide +kernel
theorem d_S_init_100 : decode b_S_init 100 = .ok (.iconst 1, 1) := by decide +kernel
theorem d_S_init_101 : decode b_S_init 101 = .ok (.putfield 54, 3) := by decide +kernel
theorem d_S_init_104 : decode b_S_init 104 = .ok (.aload_n 0, 1) := by decide +kernel
theorem d_S_init_105 : decode b_S_init 105 = .ok (.getfield 21, 3) := by decide +kernel
theorem d_S_init_108 : decode b_S_init 108 = .ok (.iconst 0, 1) := by decide +kernel
theorem d_S_init_109 : decode b_S_init 109 = .ok (.new 19, 3) := by decide +kernel
theorem d_S_init_112 : decode b_S_init 112 = .ok (.dup, 1) := by decide +kernel
theorem d_S_init_113 : decode b_S_init 113 = .ok (.invokespecial 58, 3) := by decide +kernel
theorem d_S_init_116 : decode b_S_init 116 = .ok (.aastore, 1) := by decide +kernel
theorem d_S_init_117 : decode b_S_init 117 = .ok (.aload_n 0, 1) := by decide +kernel
theorem d_S_init_118 : decode b_S_init 118 = .ok (.getfield 21, 3) := by decide +kernel
theorem d_S_init_121 : decode b_S_init 121 = .ok (.iconst 0, 1) := by decide +kernel
theorem d_S_init_122 : decode b_S_init 122 = .ok (.aaload, 1) := by decide +kernel
theorem d_S_init_123 : decode b_S_init 123 = .ok (.iconst 0, 1) := by decide +kernel
theorem d_S_init_124 : decode b_S_init 124 = .ok (.aload_n 1, 1) := by decide +kernel
theorem d_S_init_125 : decode b_S_init 125 = .ok (.invokevirtual 59, 3) := by decide +kernel
theorem d_S_init_128 : decode b_S_init 128 = .ok (.aload_n 0, 1) := by decide +kernel
theorem d_S_init_129 : decode b_S_init 129 = .ok (.bipush 32, 2) := by decide +kernel
theorem d_S_init_131 : decode b_S_init 131 = .ok (.putfield 63, 3) := by decide +kernel
theorem d_S_init_134 : decode b_S_init 134 = .ok (.aload_n 0, 1) := by decide +kernel
theorem d_S_init_135 : decode b_S_init 135 = .ok (.bipush 32, 2) := by decide +kernel
theorem d_S_init_137 : decode b_S_init 137 = .ok (.putfield 66, 3) := by decide +kernel
theorem d_S_init_140 : decode b_S_init 140 = .ok (.aload_n 0, 1) := by decide +kernel
theorem d_S_init_141 : decode b_S_init 141 = .ok (.getfield 31, 3) := by decide +kernel
theorem d_S_init_144 : decode b_S_init 144 = .ok (.ldc 69, 2) := by decide +kernel
theorem d_S_init_146 : decode b_S_init 146 = .ok (.invokestatic 70, 3) := by decide +kernel
theorem d_S_init_149 : decode b_S_init 149 = .ok (.aload_n 0, 1) := by decide +kernel
theorem d_S_init_150 : decode b_S_init 150 = .ok (.getfield 34, 3) := by decide +kernel
theorem d_S_init_153 : decode b_S_init 153 = .ok (.ldc 69, 2) := by decide +kernel
theorem d_S_init_155 : decode b_S_init 155 = .ok (.invokestatic 70, 3) := by decide +kernel
theorem d_S_init_158 : decode b_S_init 158 = .ok (.return_, 1) := by decide +kernel
theorem d_A_fillJ_0 : decode b_A_fillJ 0 = .ok (.iconst 0, 1) := by decide +kernel
theorem d_A_fillJ_1 : decode b_A_fillJ 1 = .ok (.istore_n 3, 1) := by decide +kernel
theorem d_A_fillJ_2 : decode b_A_fillJ 2 = .ok (.aload_n 0, 1) := by decide +kernel
theorem d_A_fillJ_3 : decode b_A_fillJ 3 = .ok (.arraylength, 1) := by decide +kernel
theorem d_A_fillJ_4 : decode b_A_fillJ 4 = .ok (.istore 4, 2) := by decide +kernel
theorem d_A_fillJ_6 : decode b_A_fillJ 6 = .ok (.iload_n 3, 1) := by decide +kernel
theorem d_A_fillJ_7 : decode b_A_fillJ 7 = .ok (.iload 4, 2) := by decide +kernel
theorem d_A_fillJ_9 : decode b_A_fillJ 9 = .ok (.if_icmp .ge 13, 3) := by decide +kernel
theorem d_A_fillJ_12 : decode b_A_fillJ 12 = .ok (.aload_n 0, 1) := by decide +kernel
theorem d_A_fillJ_13 : decode b_A_fillJ 13 = .ok (.iload_n 3, 1) := by decide +kernel
theorem d_A_fillJ_14 : decode b_A_fillJ 14 = .ok (.lload_n 1, 1) := by decide +kernel
theorem d_A_fillJ_15 : decode b_A_fillJ 15 = .ok (.lastore, 1) := by decide +kernel
theorem d_A_fillJ_16 : decode b_A_fillJ 16 = .ok (.iinc 3 1, 3) := by decide +kernel
theorem d_A_fillJ_19 : decode b_A_fillJ 19 = .ok (.goto (-13), 3) := by decide +kernel
theorem d_A_fillJ_22 : decode b_A_fillJ 22 = .ok (.return_, 1) := by decide +kernel
theorem d_C_init_0 : decode b_C_init 0 = .ok (.aload_n 0, 1) := by decide +kernel
theorem d_C_init_1 : decode b_C_init 1 = .ok (.invokespecial 1, 3) := by decide +kernel
theorem d_C_init_4 : decode b_C_init 4 = .ok (.aload_n 0, 1) := by decide +kernel
theorem d_C_init_5 : decode b_C_init 5 = .ok (.iload_n 1, 1) := by decide +kernel
theorem d_C_init_6 : decode b_C_init 6 = .ok (.putfield 7, 3) := by decide +kernel
theorem d_C_init_9 : decode b_C_init 9 = .ok (.aload_n 0, 1) := by decide +kernel
theorem d_C_init_10 : decode b_C_init 10 = .ok (.iload_n 2, 1) := by decide +kernel
theorem d_C_init_11 : decode b_C_init 11 = .ok (.putfield 13, 3) := by decide +kernel
theorem d_C_init_14 : decode b_C_init 14 = .ok (.aload_n 0, 1) := by decide +kernel
theorem d_C_init_15 : decode b_C_init 15 = .ok (.iload_n 3, 1) := by decide +kernel
theorem d_C_init_16 : decode b_C_init 16 = .ok (.putfield 16, 3) := by decide +kernel
theorem d_C_init_19 : decode b_C_init 19 = .ok (.aload_n 0, 1) := by decide +kernel
theorem d_C_init_20 : decode b_C_init 20 = .ok (.aload 4, 2) := by decide +kernel
theorem d_C_init_22 : decode b_C_init 22 = .ok (.putfield 19, 3) := by decide +kernel
theorem d_C_init_25 : decode b_C_init 25 = .ok (.return_, 1) := by decide +kernel
theorem d_B_init_0 : decode b_B_init 0 = .ok (.aload_n 0, 1) := by decide +kernel
theorem d_B_init_1 : decode b_B_init 1 = .ok (.invokespecial 3, 3) := by decide +kernel
theorem d_B_init_4 : decode b_B_init 4 = .ok (.aload_n 0, 1) := by decide +kernel
theorem d_B_init_5 : decode b_B_init 5 = .ok (.sipush 4096, 3) := by decide +kernel
theorem d_B_init_8 : decode b_B_init 8 = .ok (.newarray .long, 2) := by decide +kernel
theorem d_B_init_10 : decode b_B_init 10 = .ok (.putfield 9, 3) := by decide +kernel
theorem d_B_init_13 : decode b_B_init 13 = .ok (.return_, 1) := by decide +kernel
theorem d_B_startAt_0 : decode b_B_startAt 0 = .ok (.aload_n 2, 1) := by decide +kernel
theorem d_B_startAt_1 : decode b_B_startAt 1 = .ok (.iconst 0, 1) := by decide +kernel
theorem d_B_startAt_2 : decode b_B_startAt 2 = .ok (.aload_n 0, 1) := by decide +kernel
theorem d_B_startAt_3 : decode b_B_startAt 3 = .ok (.getfield 9, 3) := by decide +kernel
theorem d_B_startAt_6 : decode b_B_startAt 6 = .ok (.iconst 0, 1) := by decide +kernel
theorem d_B_startAt_7 : decode b_B_startAt 7 = .ok (.sipush 4096, 3) := by decide +kernel
theorem d_B_startAt_10 : decode b_B_startAt 10 = .ok (.invokestatic 15, 3) := by decide +kernel
theorem d_B_startAt_13 : decode b_B_startAt 13 = .ok (.aload_n 0, 1) := by decide +kernel
theorem d_B_startAt_14 : decode b_B_startAt 14 = .ok (.iconst 1, 1) := by decide +kernel
theorem d_B_startAt_15 : decode b_B_startAt 15 = .ok (.putfield 21, 3) := by decide +kernel
theorem d_B_startAt_18 : decode b_B_startAt 18 = .ok (.aload_n 0, 1) := by decide +kernel
theorem d_B_startAt_19 : decode b_B_startAt 19 = .ok (.iload_n 1, 1) := by decide +kernel
theorem d_B_startAt_20 : decode b_B_startAt 20 = .ok (.invokevirtual 25, 3) := by decide +kernel
theorem d_B_startAt_23 : decode b_B_startAt 23 = .ok (.return_, 1) := by decide +kernel
theorem d_B_restAt_0 : decode b_B_restAt 0 = .ok (.aload_n 0, 1) := by decide +kernel
theorem d_B_restAt_1 : decode b_B_restAt 1 = .ok (.iload_n 1, 1) := by decide +kernel
theorem d_B_restAt_2 : decode b_B_restAt 2 = .ok (.putfield 29, 3) := by decide +kernel
theorem d_B_restAt_5 : decode b_B_restAt 5 = .ok (.aload_n 0, 1) := by decide +kernel
theorem d_B_restAt_6 : decode b_B_restAt 6 = .ok (.iconst (-1), 1) := by decide +kernel
theorem d_B_restAt_7 : decode b_B_restAt 7 = .ok (.putfield 33, 3) := by decide +kernel
theorem d_B_restAt_10 : decode b_B_restAt 10 = .ok (.aload_n 0, 1) := by decide +kernel
theorem d_B_restAt_11 : decode b_B_restAt 11 = .ok (.getfield 36, 3) := by decide +kernel
theorem d_B_restAt_14 : decode b_B_restAt 14 = .ok (.ifnull 10, 3) := by decide +kernel
theorem d_B_restAt_17 : decode b_B_restAt 17 = .ok (.aload_n 0, 1) := by decide +kernel
theorem d_B_restAt_18 : decode b_B_restAt 18 = .ok (.getfield 36, 3) := by decide +kernel
theorem d_B_restAt_21 : decode b_B_restAt 21 = .ok (.invokevirtual 40, 3) := by decide +kernel
theorem d_B_restAt_24 : decode b_B_restAt 24 = .ok (.return_, 1) := by decide +kernel
theorem d_K_forget_0 : decode b_K_forget 0 = .ok (.aload_n 0, 1) := by decide +kernel
theorem d_K_forget_1 : decode b_K_forget 1 = .ok (.iconst 0, 1) := by decide +kernel
theorem d_K_forget_2 : decode b_K_forget 2 = .ok (.putfield 28, 3) := by decide +kernel
theorem d_K_forget_5 : decode b_K_forget 5 = .ok (.aload_n 0, 1) := by decide +kernel
theorem d_K_forget_6 : decode b_K_forget 6 = .ok (.iconst 0, 1) := by decide +kernel
theorem d_K_forget_7 : decode b_K_forget 7 = .ok (.putfield 32, 3) := by decide +kernel
theorem d_K_forget_10 : decode b_K_forget 10 = .ok (.return_, 1) := by decide +kernel
theorem d_A_fillI_0 : decode b_A_fillI 0 = .ok (.iconst 0, 1) := by decide +kernel
theorem d_A_fillI_1 : decode b_A_fillI 1 = .ok (.istore_n 2, 1) := by decide +kernel
theorem d_A_fillI_2 : decode b_A_fillI 2 = .ok (.aload_n 0, 1) := by decide +kernel
theorem d_A_fillI_3 : decode b_A_fillI 3 = .ok (.arraylength, 1) := by decide +kernel
theorem d_A_fillI_4 : decode b_A_fillI 4 = .ok (.istore_n 3, 1) := by decide +kernel
theorem d_A_fillI_5 : decode b_A_fillI 5 = .ok (.iload_n 2, 1) := by decide +kernel
theorem d_A_fillI_6 : decode b_A_fillI 6 = .ok (.iload_n 3, 1) := by decide +kernel
theorem d_A_fillI_7 : decode b_A_fillI 7 = .ok (.if_icmp .ge 13, 3) := by decide +kernel
theorem d_A_fillI_10 : decode b_A_fillI 10 = .ok (.aload_n 0, 1) := by decide +kernel
theorem d_A_fillI_11 : decode b_A_fillI 11 = .ok (.iload_n 2, 1) := by decide +kernel
theorem d_A_fillI_12 : decode b_A_fillI 12 = .ok (.iload_n 1, 1) := by decide +kernel
theorem d_A_fillI_13 : decode b_A_fillI 13 = .ok (.iastore, 1) := by decide +kernel
theorem d_A_fillI_14 : decode b_A_fillI 14 = .ok (.iinc 2 1, 3) := by decide +kernel
theorem d_A_fillI_17 : decode b_A_fillI 17 = .ok (.goto (-12), 3) := by decide +kernel
theorem d_A_fillI_20 : decode b_A_fillI 20 = .ok (.return_, 1) := by decide +kernel
theorem d_S_kind_0 : decode b_S_kind 0 = .ok (.iload_n 1, 1) := by decide +kernel
theorem d_S_kind_1 : decode b_S_kind 1 = .ok (.invokestatic 73, 3) := by decide +kernel
theorem d_S_kind_4 : decode b_S_kind 4 = .ok (.ifCond .eq 12, 3) := by decide +kernel
theorem d_S_kind_7 : decode b_S_kind 7 = .ok (.iload_n 2, 1) := by decide +kernel
theorem d_S_kind_8 : decode b_S_kind 8 = .ok (.ifCond .lt 8, 3) := by decide +kernel
theorem d_S_kind_11 : decode b_S_kind 11 = .ok (.iload_n 2, 1) := by decide +kernel
theorem d_S_kind_12 : decode b_S_kind 12 = .ok (.iconst 4, 1) := by decide +kernel
theorem d_S_kind_13 : decode b_S_kind 13 = .ok (.if_icmp .lt 5, 3) := by decide +kernel
theorem d_S_kind_16 : decode b_S_kind 16 = .ok (.iconst 0, 1) := by decide +kernel
theorem d_S_kind_17 : decode b_S_kind 17 = .ok (.ireturn, 1) := by decide +kernel
theorem d_S_kind_18 : decode b_S_kind 18 = .ok (.aload_n 0, 1) := by decide +kernel
theorem d_S_kind_19 : decode b_S_kind 19 = .ok (.getfield 9, 3) := by decide +kernel
theorem d_S_kind_22 : decode b_S_kind 22 = .ok (.iload_n 1, 1) := by decide +kernel
theorem d_S_kind_23 : decode b_S_kind 23 = .ok (.iload_n 2, 1) := by decide +kernel
theorem d_S_kind_24 : decode b_S_kind 24 = .ok (.iastore, 1) := by decide +kernel
theorem d_S_kind_25 : decode b_S_kind 25 = .ok (.iconst 1, 1) := by decide +kernel
theorem d_S_kind_26 : decode b_S_kind 26 = .ok (.ireturn, 1) := by decide +kernel
theorem d_S_isLayer_0 : decode b_S_isLayer 0 = .ok (.iload_n 0, 1) := by decide +kernel
theorem d_S_isLayer_1 : decode b_S_isLayer 1 = .ok (.ifCond .lt 12, 3) := by decide +kernel
theorem d_S_isLayer_4 : decode b_S_isLayer 4 = .ok (.iload_n 0, 1) := by decide +kernel
theorem d_S_isLayer_5 : decode b_S_isLayer 5 = .ok (.iconst 4, 1) := by decide +kernel
theorem d_S_isLayer_6 : decode b_S_isLayer 6 = .ok (.if_icmp .ge 7, 3) := by decide +kernel
theorem d_S_isLayer_9 : decode b_S_isLayer 9 = .ok (.iconst 1, 1) := by decide +kernel
theorem d_S_isLayer_10 : decode b_S_isLayer 10 = .ok (.goto 4, 3) := by decide +kernel
theorem d_S_isLayer_13 : decode b_S_isLayer 13 = .ok (.iconst 0, 1) := by decide +kernel
theorem d_S_isLayer_14 : decode b_S_isLayer 14 = .ok (.ireturn, 1) := by decide +kernel
theorem d_S_drop_0 : decode b_S_drop 0 = .ok (.aload_n 0, 1) := by decide +kernel
theorem d_S_drop_1 : decode b_S_drop 1 = .ok (.iload_n 1, 1) := by decide +kernel
theorem d_S_drop_2 : decode b_S_drop 2 = .ok (.invokevirtual 84, 3) := by decide +kernel
theorem d_S_drop_5 : decode b_S_drop 5 = .ok (.astore_n 2, 1) := by decide +kernel
theorem d_S_drop_6 : decode b_S_drop 6 = .ok (.aload_n 2, 1) := by decide +kernel
theorem d_S_drop_7 : decode b_S_drop 7 = .ok (.ifnonnull 5, 3) := by decide +kernel
theorem d_S_drop_10 : decode b_S_drop 10 = .ok (.iconst 0, 1) := by decide +kernel
theorem d_S_drop_11 : decode b_S_drop 11 = .ok (.ireturn, 1) := by decide +kernel
theorem d_S_drop_12 : decode b_S_drop 12 = .ok (.aload_n 2, 1) := by decide +kernel
theorem d_S_drop_13 : decode b_S_drop 13 = .ok (.iconst 0, 1) := by decide +kernel
theorem d_S_drop_14 : decode b_S_drop 14 = .ok (.putfield 95, 3) := by decide +kernel
theorem d_S_drop_17 : decode b_S_drop 17 = .ok (.iconst 1, 1) := by decide +kernel
theorem d_S_drop_18 : decode b_S_drop 18 = .ok (.ireturn, 1) := by decide +kernel
theorem d_S_branchAt_0 : decode b_S_branchAt 0 = .ok (.iload_n 1, 1) := by decide +kernel
theorem d_S_branchAt_1 : decode b_S_branchAt 1 = .ok (.ifCond .lt 29, 3) := by decide +kernel
theorem d_S_branchAt_4 : decode b_S_branchAt 4 = .ok (.iload_n 1, 1) := by decide +kernel
theorem d_S_branchAt_5 : decode b_S_branchAt 5 = .ok (.iconst 4, 1) := by decide +kernel
theorem d_S_branchAt_6 : decode b_S_branchAt 6 = .ok (.if_icmp .ge 24, 3) := by decide +kernel
theorem d_S_branchAt_9 : decode b_S_branchAt 9 = .ok (.aload_n 0, 1) := by decide +kernel
theorem d_S_branchAt_10 : decode b_S_branchAt 10 = .ok (.getfield 21, 3) := by decide +kernel
theorem d_S_branchAt_13 : decode b_S_branchAt 13 = .ok (.iload_n 1, 1) := by decide +kernel
theorem d_S_branchAt_14 : decode b_S_branchAt 14 = .ok (.aaload, 1) := by decide +kernel
theorem d_S_branchAt_15 : decode b_S_branchAt 15 = .ok (.ifnull 15, 3) := by decide +kernel
theorem d_S_branchAt_18 : decode b_S_branchAt 18 = .ok (.aload_n 0, 1) := by decide +kernel
theorem d_S_branchAt_19 : decode b_S_branchAt 19 = .ok (.getfield 21, 3) := by decide +kernel
theorem d_S_branchAt_22 : decode b_S_branchAt 22 = .ok (.iload_n 1, 1) := by decide +kernel
theorem d_S_branchAt_23 : decode b_S_branchAt 23 = .ok (.aaload, 1) := by decide +kernel
theorem d_S_branchAt_24 : decode b_S_branchAt 24 = .ok (.getfield 95, 3) := by decide +kernel
theorem d_S_branchAt_27 : decode b_S_branchAt 27 = .ok (.ifCond .ne 5, 3) := by decide +kernel
theorem d_S_branchAt_30 : decode b_S_branchAt 30 = .ok (.aconst_null, 1) := by decide +kernel
theorem d_S_branchAt_31 : decode b_S_branchAt 31 = .ok (.areturn, 1) := by decide +kernel
theorem d_S_branchAt_32 : decode b_S_branchAt 32 = .ok (.aload_n 0, 1) := by decide +kernel
theorem d_S_branchAt_33 : decode b_S_branchAt 33 = .ok (.getfield 21, 3) := by decide +kernel
theorem d_S_branchAt_36 : decode b_S_branchAt 36 = .ok (.iload_n 1, 1) := by decide +kernel
theorem d_S_branchAt_37 : decode b_S_branchAt 37 = .ok (.aaload, 1) := by decide +kernel
theorem d_S_branchAt_38 : decode b_S_branchAt 38 = .ok (.areturn, 1) := by decide +kernel
theorem d_S_region_0 : decode b_S_region 0 = .ok (.iload_n 3, 1) := by decide +kernel
theorem d_S_region_1 : decode b_S_region 1 = .ok (.iconst 1, 1) := by decide +kernel
theorem d_S_region_2 : decode b_S_region 2 = .ok (.if_icmp .lt 26, 3) := by decide +kernel
theorem d_S_region_5 : decode b_S_region 5 = .ok (.iload 4, 2) := by decide +kernel
theorem d_S_region_7 : decode b_S_region 7 = .ok (.iconst 1, 1) := by decide +kernel
theorem d_S_region_8 : decode b_S_region 8 = .ok (.if_icmp .lt 20, 3) := by decide +kernel
theorem d_S_region_11 : decode b_S_region 11 = .ok (.iload_n 1, 1) := by decide +kernel
theorem d_S_region_12 : decode b_S_region 12 = .ok (.iload_n 3, 1) := by decide +kernel
theorem d_S_region_13 : decode b_S_region 13 = .ok (.invokestatic 99, 3) := by decide +kernel
theorem d_S_region_16 : decode b_S_region 16 = .ok (.ifCond .eq 12, 3) := by decide +kernel
theorem d_S_region_19 : decode b_S_region 19 = .ok (.iload_n 2, 1) := by decide +kernel
theorem d_S_region_20 : decode b_S_region 20 = .ok (.iload 4, 2) := by decide +kernel
theorem d_S_region_22 : decode b_S_region 22 = .ok (.invokestatic 99, 3) := by decide +kernel
theorem d_S_region_25 : decode b_S_region 25 = .ok (.ifCond .ne 5, 3) := by decide +kernel
theorem d_S_region_28 : decode b_S_region 28 = .ok (.iconst 0, 1) := by decide +kernel
theorem d_S_region_29 : decode b_S_region 29 = .ok (.ireturn, 1) := by decide +kernel
theorem d_S_region_30 : decode b_S_region 30 = .ok (.aload_n 0, 1) := by decide +kernel
theorem d_S_region_31 : decode b_S_region 31 = .ok (.iload_n 1, 1) := by decide +kernel
theorem d_S_region_32 : decode b_S_region 32 = .ok (.putfield 103, 3) := by decide +kernel
theorem d_S_region_35 : decode b_S_region 35 = .ok (.aload_n 0, 1) := by decide +kernel
theorem d_S_region_36 : decode b_S_region 36 = .ok (.iload_n 2, 1) := by decide +kernel
theorem d_S_region_37 : decode b_S_region 37 = .ok (.putfield 106, 3) := by decide +kernel
theorem d_S_region_40 : decode b_S_region 40 = .ok (.aload_n 0, 1) := by decide +kernel
theorem d_S_region_41 : decode b_S_region 41 = .ok (.iload_n 3, 1) := by decide +kernel
theorem d_S_region_42 : decode b_S_region 42 = .ok (.putfield 63, 3) := by decide +kernel
theorem d_S_region_45 : decode b_S_region 45 = .ok (.aload_n 0, 1) := by decide +kernel
theorem d_S_region_46 : decode b_S_region 46 = .ok (.iload 4, 2) := by decide +kernel
theorem d_S_region_48 : decode b_S_region 48 = .ok (.putfield 66, 3) := by decide +kernel
theorem d_S_region_51 : decode b_S_region 51 = .ok (.iconst 1, 1) := by decide +kernel
theorem d_S_region_52 : decode b_S_region 52 = .ok (.ireturn, 1) := by decide +kernel
theorem d_S_fits_0 : decode b_S_fits 0 = .ok (.iload_n 0, 1) := by decide +kernel
theorem d_S_fits_1 : decode b_S_fits 1 = .ok (.ifCond .lt 21, 3) := by decide +kernel
theorem d_S_fits_4 : decode b_S_fits 4 = .ok (.iload_n 1, 1) := by decide +kernel
theorem d_S_fits_5 : decode b_S_fits 5 = .ok (.bipush 32, 2) := by decide +kernel
theorem d_S_fits_7 : decode b_S_fits 7 = .ok (.if_icmp .gt 15, 3) := by decide +kernel
theorem d_S_fits_10 : decode b_S_fits 10 = .ok (.iload_n 0, 1) := by decide +kernel
theorem d_S_fits_11 : decode b_S_fits 11 = .ok (.bipush 32, 2) := by decide +kernel
theorem d_S_fits_13 : decode b_S_fits 13 = .ok (.iload_n 1, 1) := by decide +kernel
theorem d_S_fits_14 : decode b_S_fits 14 = .ok (.isub, 1) := by decide +kernel
theorem d_S_fits_15 : decode b_S_fits 15 = .ok (.if_icmp .gt 7, 3) := by decide +kernel
theorem d_S_fits_18 : decode b_S_fits 18 = .ok (.iconst 1, 1) := by decide +kernel
theorem d_S_fits_19 : decode b_S_fits 19 = .ok (.goto 4, 3) := by decide +kernel
theorem d_S_fits_22 : decode b_S_fits 22 = .ok (.iconst 0, 1) := by decide +kernel
theorem d_S_fits_23 : decode b_S_fits 23 = .ok (.ireturn, 1) := by decide +kernel
theorem d_S_corner_0 : decode b_S_corner 0 = .ok (.iload_n 1, 1) := by decide +kernel
theorem d_S_corner_1 : decode b_S_corner 1 = .ok (.ifCond .lt 23, 3) := by decide +kernel
theorem d_S_corner_4 : decode b_S_corner 4 = .ok (.iload_n 1, 1) := by decide +kernel
theorem d_S_corner_5 : decode b_S_corner 5 = .ok (.bipush 6, 2) := by decide +kernel
theorem d_S_corner_7 : decode b_S_corner 7 = .ok (.if_icmp .ge 17, 3) := by decide +kernel
theorem d_S_corner_10 : decode b_S_corner 10 = .ok (.iload_n 2, 1) := by decide +kernel
theorem d_S_corner_11 : decode b_S_corner 11 = .ok (.invokestatic 125, 3) := by decide +kernel
theorem d_S_corner_14 : decode b_S_corner 14 = .ok (.ifCond .eq 10, 3) := by decide +kernel
theorem d_S_corner_17 : decode b_S_corner 17 = .ok (.iload_n 3, 1) := by decide +kernel
theorem d_S_corner_18 : decode b_S_corner 18 = .ok (.invokestatic 125, 3) := by decide +kernel
theorem d_S_corner_21 : decode b_S_corner 21 = .ok (.ifCond .ne 5, 3) := by decide +kernel
theorem d_S_corner_24 : decode b_S_corner 24 = .ok (.iconst 0, 1) := by decide +kernel
theorem d_S_corner_25 : decode b_S_corner 25 = .ok (.ireturn, 1) := by decide +kernel
theorem d_S_corner_26 : decode b_S_corner 26 = .ok (.aload_n 0, 1) := by decide +kernel
theorem d_S_corner_27 : decode b_S_corner 27 = .ok (.getfield 25, 3) := by decide +kernel
theorem d_S_corner_30 : decode b_S_corner 30 = .ok (.iload_n 1, 1) := by decide +kernel
theorem d_S_corner_31 : decode b_S_corner 31 = .ok (.iload_n 2, 1) := by decide +kernel
theorem d_S_corner_32 : decode b_S_corner 32 = .ok (.iastore, 1) := by decide +kernel
theorem d_S_corner_33 : decode b_S_corner 33 = .ok (.aload_n 0, 1) := by decide +kernel
theorem d_S_corner_34 : decode b_S_corner 34 = .ok (.getfield 28, 3) := by decide +kernel
theorem d_S_corner_37 : decode b_S_corner 37 = .ok (.iload_n 1, 1) := by decide +kernel
theorem d_S_corner_38 : decode b_S_corner 38 = .ok (.iload_n 3, 1) := by decide +kernel
theorem d_S_corner_39 : decode b_S_corner 39 = .ok (.iastore, 1) := by decide +kernel
theorem d_S_corner_40 : decode b_S_corner 40 = .ok (.iconst 1, 1) := by decide +kernel
theorem d_S_corner_41 : decode b_S_corner 41 = .ok (.ireturn, 1) := by decide +kernel
theorem d_S_isPoint_0 : decode b_S_isPoint 0 = .ok (.iload_n 0, 1) := by decide +kernel
theorem d_S_isPoint_1 : decode b_S_isPoint 1 = .ok (.ifCond .lt 13, 3) := by decide +kernel
theorem d_S_isPoint_4 : decode b_S_isPoint 4 = .ok (.iload_n 0, 1) := by decide +kernel
theorem d_S_isPoint_5 : decode b_S_isPoint 5 = .ok (.bipush 32, 2) := by decide +kernel
theorem d_S_isPoint_7 : decode b_S_isPoint 7 = .ok (.if_icmp .gt 7, 3) := by decide +kernel
theorem d_S_isPoint_10 : decode b_S_isPoint 10 = .ok (.iconst 1, 1) := by decide +kernel
theorem d_S_isPoint_11 : decode b_S_isPoint 11 = .ok (.goto 4, 3) := by decide +kernel
theorem d_S_isPoint_14 : decode b_S_isPoint 14 = .ok (.iconst 0, 1) := by decide +kernel
theorem d_S_isPoint_15 : decode b_S_isPoint 15 = .ok (.ireturn, 1) := by decide +kernel
theorem d_S_entry_0 : decode b_S_entry 0 = .ok (.iload_n 1, 1) := by decide +kernel
theorem d_S_entry_1 : decode b_S_entry 1 = .ok (.ifCond .lt 23, 3) := by decide +kernel
theorem d_S_entry_4 : decode b_S_entry 4 = .ok (.iload_n 1, 1) := by decide +kernel
theorem d_S_entry_5 : decode b_S_entry 5 = .ok (.bipush 8, 2) := by decide +kernel
theorem d_S_entry_7 : decode b_S_entry 7 = .ok (.if_icmp .ge 17, 3) := by decide +kernel
theorem d_S_entry_10 : decode b_S_entry 10 = .ok (.iload_n 2, 1) := by decide +kernel
theorem d_S_entry_11 : decode b_S_entry 11 = .ok (.invokestatic 139, 3) := by decide +kernel
theorem d_S_entry_14 : decode b_S_entry 14 = .ok (.ifCond .eq 10, 3) := by decide +kernel
theorem d_S_entry_17 : decode b_S_entry 17 = .ok (.iload_n 3, 1) := by decide +kernel
theorem d_S_entry_18 : decode b_S_entry 18 = .ok (.invokestatic 139, 3) := by decide +kernel
theorem d_S_entry_21 : decode b_S_entry 21 = .ok (.ifCond .ne 5, 3) := by decide +kernel
theorem d_S_entry_24 : decode b_S_entry 24 = .ok (.iconst 0, 1) := by decide +kernel
theorem d_S_entry_25 : decode b_S_entry 25 = .ok (.ireturn, 1) := by decide +kernel
theorem d_S_entry_26 : decode b_S_entry 26 = .ok (.aload_n 0, 1) := by decide +kernel
theorem d_S_entry_27 : decode b_S_entry 27 = .ok (.getfield 31, 3) := by decide +kernel
theorem d_S_entry_30 : decode b_S_entry 30 = .ok (.iload_n 1, 1) := by decide +kernel
theorem d_S_entry_31 : decode b_S_entry 31 = .ok (.iload_n 2, 1) := by decide +kernel
theorem d_S_entry_32 : decode b_S_entry 32 = .ok (.iastore, 1) := by decide +kernel
theorem d_S_entry_33 : decode b_S_entry 33 = .ok (.aload_n 0, 1) := by decide +kernel
theorem d_S_entry_34 : decode b_S_entry 34 = .ok (.getfield 34, 3) := by decide +kernel
theorem d_S_entry_37 : decode b_S_entry 37 = .ok (.iload_n 1, 1) := by decide +kernel
theorem d_S_entry_38 : decode b_S_entry 38 = .ok (.iload_n 3, 1) := by decide +kernel
theorem d_S_entry_39 : decode b_S_entry 39 = .ok (.iastore, 1) := by decide +kernel
theorem d_S_entry_40 : decode b_S_entry 40 = .ok (.iconst 1, 1) := by decide +kernel
theorem d_S_entry_41 : decode b_S_entry 41 = .ok (.ireturn, 1) := by decide +kernel
theorem d_S_isValue_0 : decode b_S_isValue 0 = .ok (.iload_n 0, 1) := by decide +kernel
theorem d_S_isValue_1 : decode b_S_isValue 1 = .ok (.ldc 69, 2) := by decide +kernel
theorem d_S_isValue_3 : decode b_S_isValue 3 = .ok (.if_icmp .eq 17, 3) := by decide +kernel
theorem d_S_isValue_6 : decode b_S_isValue 6 = .ok (.iload_n 0, 1) := by decide +kernel
theorem d_S_isValue_7 : decode b_S_isValue 7 = .ok (.ldc_w 288, 3) := by decide +kernel
theorem d_S_isValue_10 : decode b_S_isValue 10 = .ok (.if_icmp .lt 14, 3) := by decide +kernel
theorem d_S_isValue_13 : decode b_S_isValue 13 = .ok (.iload_n 0, 1) := by decide +kernel
theorem d_S_isValue_14 : decode b_S_isValue 14 = .ok (.ldc_w 289, 3) := by decide +kernel
theorem d_S_isValue_17 : decode b_S_isValue 17 = .ok (.if_icmp .gt 7, 3) := by decide +kernel
theorem d_S_isValue_20 : decode b_S_isValue 20 = .ok (.iconst 1, 1) := by decide +kernel
theorem d_S_isValue_21 : decode b_S_isValue 21 = .ok (.goto 4, 3) := by decide +kernel
theorem d_S_isValue_24 : decode b_S_isValue 24 = .ok (.iconst 0, 1) := by decide +kernel
theorem d_S_isValue_25 : decode b_S_isValue 25 = .ok (.ireturn, 1) := by decide +kernel
theorem d_S_conflict_0 : decode b_S_conflict 0 = .ok (.aload_n 0, 1) := by decide +kernel
theorem d_S_conflict_1 : decode b_S_conflict 1 = .ok (.iload_n 1, 1) := by decide +kernel
theorem d_S_conflict_2 : decode b_S_conflict 2 = .ok (.invokevirtual 84, 3) := by decide +kernel
theorem d_S_conflict_5 : decode b_S_conflict 5 = .ok (.astore 4, 2) := by decide +kernel
theorem d_S_conflict_7 : decode b_S_conflict 7 = .ok (.aload 4, 2) := by decide +kernel
theorem d_S_conflict_9 : decode b_S_conflict 9 = .ok (.ifnull 11, 3) := by decide +kernel
theorem d_S_conflict_12 : decode b_S_conflict 12 = .ok (.aload 4, 2) := by decide +kernel
theorem d_S_conflict_14 : decode b_S_conflict 14 = .ok (.getfield 209, 3) := by decide +kernel
theorem d_S_conflict_17 : decode b_S_conflict 17 = .ok (.ifnonnull 6, 3) := by decide +kernel
theorem d_S_conflict_20 : decode b_S_conflict 20 = .ok (.ldc 69, 2) := by decide +kernel
theorem d_S_conflict_22 : decode b_S_conflict 22 = .ok (.ireturn, 1) := by decide +kernel
theorem d_S_conflict_23 : decode b_S_conflict 23 = .ok (.aload 4, 2) := by decide +kernel
theorem d_S_conflict_25 : decode b_S_conflict 25 = .ok (.getfield 209, 3) := by decide +kernel
theorem d_S_conflict_28 : decode b_S_conflict 28 = .ok (.iload_n 2, 1) := by decide +kernel
theorem d_S_conflict_29 : decode b_S_conflict 29 = .ok (.iload_n 3, 1) := by decide +kernel
theorem d_S_conflict_30 : decode b_S_conflict 30 = .ok (.invokevirtual 213, 3) := by decide +kernel
theorem d_S_conflict_33 : decode b_S_conflict 33 = .ok (.ireturn, 1) := by decide +kernel
theorem d_K_tell_0 : decode b_K_tell 0 = .ok (.aload_n 0, 1) := by decide +kernel
theorem d_K_tell_1 : decode b_K_tell 1 = .ok (.iload_n 1, 1) := by decide +kernel
theorem d_K_tell_2 : decode b_K_tell 2 = .ok (.invokevirtual 35, 3) := by decide +kernel
theorem d_K_tell_5 : decode b_K_tell 5 = .ok (.ifCond .ne 6, 3) := by decide +kernel
theorem d_K_tell_8 : decode b_K_tell 8 = .ok (.ldc 39, 2) := by decide +kernel
theorem d_K_tell_10 : decode b_K_tell 10 = .ok (.ireturn, 1) := by decide +kernel
theorem d_K_tell_11 : decode b_K_tell 11 = .ok (.iload_n 2, 1) := by decide +kernel
theorem d_K_tell_12 : decode b_K_tell 12 = .ok (.tableswitch 110 0 6 #[44, 54, 64, 74, 81, 88, 95], 44) := by decide +kernel
theorem d_K_tell_56 : decode b_K_tell 56 = .ok (.aload_n 0, 1) := by decide +kernel
theorem d_K_tell_57 : decode b_K_tell 57 = .ok (.getfield 9, 3) := by decide +kernel
theorem d_K_tell_60 : decode b_K_tell 60 = .ok (.iload_n 1, 1) := by decide +kernel
theorem d_K_tell_61 : decode b_K_tell 61 = .ok (.iaload, 1) := by decide +kernel
theorem d_K_tell_62 : decode b_K_tell 62 = .ok (.invokestatic 40, 3) := by decide +kernel
theorem d_K_tell_65 : decode b_K_tell 65 = .ok (.ireturn, 1) := by decide +kernel
theorem d_K_tell_66 : decode b_K_tell 66 = .ok (.aload_n 0, 1) := by decide +kernel
theorem d_K_tell_67 : decode b_K_tell 67 = .ok (.getfield 9, 3) := by decide +kernel
theorem d_K_tell_70 : decode b_K_tell 70 = .ok (.iload_n 1, 1) := by decide +kernel
theorem d_K_tell_71 : decode b_K_tell 71 = .ok (.iaload, 1) := by decide +kernel
theorem d_K_tell_72 : decode b_K_tell 72 = .ok (.invokestatic 44, 3) := by decide +kernel
theorem d_K_tell_75 : decode b_K_tell 75 = .ok (.ireturn, 1) := by decide +kernel
theorem d_K_tell_76 : decode b_K_tell 76 = .ok (.aload_n 0, 1) := by decide +kernel
theorem d_K_tell_77 : decode b_K_tell 77 = .ok (.getfield 9, 3) := by decide +kernel
theorem d_K_tell_80 : decode b_K_tell 80 = .ok (.iload_n 1, 1) := by decide +kernel
theorem d_K_tell_81 : decode b_K_tell 81 = .ok (.iaload, 1) := by decide +kernel
theorem d_K_tell_82 : decode b_K_tell 82 = .ok (.invokestatic 47, 3) := by decide +kernel
theorem d_K_tell_85 : decode b_K_tell 85 = .ok (.ireturn, 1) := by decide +kernel
theorem d_K_tell_86 : decode b_K_tell 86 = .ok (.aload_n 0, 1) := by decide +kernel
theorem d_K_tell_87 : decode b_K_tell 87 = .ok (.getfield 15, 3) := by decide +kernel
theorem d_K_tell_90 : decode b_K_tell 90 = .ok (.iload_n 1, 1) := by decide +kernel
theorem d_K_tell_91 : decode b_K_tell 91 = .ok (.iaload, 1) := by decide +kernel
theorem d_K_tell_92 : decode b_K_tell 92 = .ok (.ireturn, 1) := by decide +kernel
theorem d_K_tell_93 : decode b_K_tell 93 = .ok (.aload_n 0, 1) := by decide +kernel
theorem d_K_tell_94 : decode b_K_tell 94 = .ok (.getfield 18, 3) := by decide +kernel
theorem d_K_tell_97 : decode b_K_tell 97 = .ok (.iload_n 1, 1) := by decide +kernel
theorem d_K_tell_98 : decode b_K_tell 98 = .ok (.iaload, 1) := by decide +kernel
theorem d_K_tell_99 : decode b_K_tell 99 = .ok (.ireturn, 1) := by decide +kernel
theorem d_K_tell_100 : decode b_K_tell 100 = .ok (.aload_n 0, 1) := by decide +kernel
theorem d_K_tell_101 : decode b_K_tell 101 = .ok (.getfield 21, 3) := by decide +kernel
theorem d_K_tell_104 : decode b_K_tell 104 = .ok (.iload_n 1, 1) := by decide +kernel
theorem d_K_tell_105 : decode b_K_tell 105 = .ok (.iaload, 1) := by decide +kernel
theorem d_K_tell_106 : decode b_K_tell 106 = .ok (.ireturn, 1) := by decide +kernel
theorem d_K_tell_107 : decode b_K_tell 107 = .ok (.aload_n 0, 1) := by decide +kernel
theorem d_K_tell_108 : decode b_K_tell 108 = .ok (.getfield 24, 3) := by decide +kernel
theorem d_K_tell_111 : decode b_K_tell 111 = .ok (.iload_n 1, 1) := by decide +kernel
theorem d_K_tell_112 : decode b_K_tell 112 = .ok (.baload, 1) := by decide +kernel
theorem d_K_tell_113 : decode b_K_tell 113 = .ok (.ifCond .eq 7, 3) := by decide +kernel
theorem d_K_tell_116 : decode b_K_tell 116 = .ok (.iconst 1, 1) := by decide +kernel
theorem d_K_tell_117 : decode b_K_tell 117 = .ok (.goto 4, 3) := by decide +kernel
theorem d_K_tell_120 : decode b_K_tell 120 = .ok (.iconst 0, 1) := by decide +kernel
theorem d_K_tell_121 : decode b_K_tell 121 = .ok (.ireturn, 1) := by decide +kernel
theorem d_K_tell_122 : decode b_K_tell 122 = .ok (.ldc 39, 2) := by decide +kernel
theorem d_K_tell_124 : decode b_K_tell 124 = .ok (.ireturn, 1) := by decide +kernel
theorem d_K_has_0 : decode b_K_has 0 = .ok (.iload_n 1, 1) := by decide +kernel
theorem d_K_has_1 : decode b_K_has 1 = .ok (.ifCond .lt 15, 3) := by decide +kernel
theorem d_K_has_4 : decode b_K_has 4 = .ok (.iload_n 1, 1) := by decide +kernel
theorem d_K_has_5 : decode b_K_has 5 = .ok (.aload_n 0, 1) := by decide +kernel
theorem d_K_has_6 : decode b_K_has 6 = .ok (.getfield 28, 3) := by decide +kernel
theorem d_K_has_9 : decode b_K_has 9 = .ok (.if_icmp .ge 7, 3) := by decide +kernel
theorem d_K_has_12 : decode b_K_has 12 = .ok (.iconst 1, 1) := by decide +kernel
theorem d_K_has_13 : decode b_K_has 13 = .ok (.goto 4, 3) := by decide +kernel
theorem d_K_has_16 : decode b_K_has 16 = .ok (.iconst 0, 1) := by decide +kernel
theorem d_K_has_17 : decode b_K_has 17 = .ok (.ireturn, 1) := by decide +kernel
theorem d_S_layerOf_0 : decode b_S_layerOf 0 = .ok (.iload_n 0, 1) := by decide +kernel
theorem d_S_layerOf_1 : decode b_S_layerOf 1 = .ok (.sipush 1024, 3) := by decide +kernel
theorem d_S_layerOf_4 : decode b_S_layerOf 4 = .ok (.idiv, 1) := by decide +kernel
theorem d_S_layerOf_5 : decode b_S_layerOf 5 = .ok (.ireturn, 1) := by decide +kernel
theorem d_S_xOf_0 : decode b_S_xOf 0 = .ok (.iload_n 0, 1) := by decide +kernel
theorem d_S_xOf_1 : decode b_S_xOf 1 = .ok (.bipush 32, 2) := by decide +kernel
theorem d_S_xOf_3 : decode b_S_xOf 3 = .ok (.irem, 1) := by decide +kernel
theorem d_S_xOf_4 : decode b_S_xOf 4 = .ok (.ireturn, 1) := by decide +kernel
theorem d_S_yOf_0 : decode b_S_yOf 0 = .ok (.iload_n 0, 1) := by decide +kernel
theorem d_S_yOf_1 : decode b_S_yOf 1 = .ok (.bipush 32, 2) := by decide +kernel
theorem d_S_yOf_3 : decode b_S_yOf 3 = .ok (.idiv, 1) := by decide +kernel
theorem d_S_yOf_4 : decode b_S_yOf 4 = .ok (.bipush 32, 2) := by decide +kernel
theorem d_S_yOf_6 : decode b_S_yOf 6 = .ok (.irem, 1) := by decide +kernel
theorem d_S_yOf_7 : decode b_S_yOf 7 = .ok (.ireturn, 1) := by decide +kernel
theorem d_S_value_0 : decode b_S_value 0 = .ok (.aload_n 0, 1) := by decide +kernel
theorem d_S_value_1 : decode b_S_value 1 = .ok (.iload_n 1, 1) := by decide +kernel
theorem d_S_value_2 : decode b_S_value 2 = .ok (.iload_n 2, 1) := by decide +kernel
theorem d_S_value_3 : decode b_S_value 3 = .ok (.iload_n 3, 1) := by decide +kernel
theorem d_S_value_4 : decode b_S_value 4 = .ok (.iload 4, 2) := by decide +kernel
theorem d_S_value_6 : decode b_S_value 6 = .ok (.invokevirtual 229, 3) := by decide +kernel
theorem d_S_value_9 : decode b_S_value 9 = .ok (.invokestatic 142, 3) := by decide +kernel
theorem d_S_value_12 : decode b_S_value 12 = .ok (.ireturn, 1) := by decide +kernel
theorem d_S_cellAt_0 : decode b_S_cellAt 0 = .ok (.aload_n 0, 1) := by decide +kernel
theorem d_S_cellAt_1 : decode b_S_cellAt 1 = .ok (.iload_n 1, 1) := by decide +kernel
theorem d_S_cellAt_2 : decode b_S_cellAt 2 = .ok (.invokevirtual 248, 3) := by decide +kernel
theorem d_S_cellAt_5 : decode b_S_cellAt 5 = .ok (.astore 5, 2) := by decide +kernel
theorem d_S_cellAt_7 : decode b_S_cellAt 7 = .ok (.aload 5, 2) := by decide +kernel
theorem d_S_cellAt_9 : decode b_S_cellAt 9 = .ok (.ifnull 25, 3) := by decide +kernel
theorem d_S_cellAt_12 : decode b_S_cellAt 12 = .ok (.iload_n 2, 1) := by decide +kernel
theorem d_S_cellAt_13 : decode b_S_cellAt 13 = .ok (.invokestatic 73, 3) := by decide +kernel
theorem d_S_cellAt_16 : decode b_S_cellAt 16 = .ok (.ifCond .eq 18, 3) := by decide +kernel
theorem d_S_cellAt_19 : decode b_S_cellAt 19 = .ok (.iload_n 3, 1) := by decide +kernel
theorem d_S_cellAt_20 : decode b_S_cellAt 20 = .ok (.invokestatic 290, 3) := by decide +kernel
theorem d_S_cellAt_23 : decode b_S_cellAt 23 = .ok (.ifCond .eq 11, 3) := by decide +kernel
theorem d_S_cellAt_26 : decode b_S_cellAt 26 = .ok (.iload 4, 2) := by decide +kernel
theorem d_S_cellAt_28 : decode b_S_cellAt 28 = .ok (.invokestatic 290, 3) := by decide +kernel
theorem d_S_cellAt_31 : decode b_S_cellAt 31 = .ok (.ifCond .ne 7, 3) := by decide +kernel
theorem d_S_cellAt_34 : decode b_S_cellAt 34 = .ok (.ldc2_w 43, 3) := by decide +kernel
theorem d_S_cellAt_37 : decode b_S_cellAt 37 = .ok (.lreturn, 1) := by decide +kernel
theorem d_S_cellAt_38 : decode b_S_cellAt 38 = .ok (.aload 5, 2) := by decide +kernel
theorem d_S_cellAt_40 : decode b_S_cellAt 40 = .ok (.iload_n 2, 1) := by decide +kernel
theorem d_S_cellAt_41 : decode b_S_cellAt 41 = .ok (.iload_n 3, 1) := by decide +kernel
theorem d_S_cellAt_42 : decode b_S_cellAt 42 = .ok (.iload 4, 2) := by decide +kernel
theorem d_S_cellAt_44 : decode b_S_cellAt 44 = .ok (.invokestatic 117, 3) := by decide +kernel
theorem d_S_cellAt_47 : decode b_S_cellAt 47 = .ok (.laload, 1) := by decide +kernel
theorem d_S_cellAt_48 : decode b_S_cellAt 48 = .ok (.lreturn, 1) := by decide +kernel
theorem d_S_cellsOf_0 : decode b_S_cellsOf 0 = .ok (.aload_n 0, 1) := by decide +kernel
theorem d_S_cellsOf_1 : decode b_S_cellsOf 1 = .ok (.iload_n 1, 1) := by decide +kernel
theorem d_S_cellsOf_2 : decode b_S_cellsOf 2 = .ok (.invokevirtual 77, 3) := by decide +kernel
theorem d_S_cellsOf_5 : decode b_S_cellsOf 5 = .ok (.astore_n 2, 1) := by decide +kernel
theorem d_S_cellsOf_6 : decode b_S_cellsOf 6 = .ok (.aload_n 2, 1) := by decide +kernel
theorem d_S_cellsOf_7 : decode b_S_cellsOf 7 = .ok (.ifnull 8, 3) := by decide +kernel
theorem d_S_cellsOf_10 : decode b_S_cellsOf 10 = .ok (.aload_n 2, 1) := by decide +kernel
theorem d_S_cellsOf_11 : decode b_S_cellsOf 11 = .ok (.getfield 91, 3) := by decide +kernel
theorem d_S_cellsOf_14 : decode b_S_cellsOf 14 = .ok (.areturn, 1) := by decide +kernel
theorem d_S_cellsOf_15 : decode b_S_cellsOf 15 = .ok (.aload_n 0, 1) := by decide +kernel
theorem d_S_cellsOf_16 : decode b_S_cellsOf 16 = .ok (.iload_n 1, 1) := by decide +kernel
theorem d_S_cellsOf_17 : decode b_S_cellsOf 17 = .ok (.invokevirtual 267, 3) := by decide +kernel
theorem d_S_cellsOf_20 : decode b_S_cellsOf 20 = .ok (.astore_n 3, 1) := by decide +kernel
theorem d_S_cellsOf_21 : decode b_S_cellsOf 21 = .ok (.aload_n 3, 1) := by decide +kernel
theorem d_S_cellsOf_22 : decode b_S_cellsOf 22 = .ok (.ifnonnull 7, 3) := by decide +kernel
theorem d_S_cellsOf_25 : decode b_S_cellsOf 25 = .ok (.aconst_null, 1) := by decide +kernel
theorem d_S_cellsOf_26 : decode b_S_cellsOf 26 = .ok (.goto 7, 3) := by decide +kernel
theorem d_S_cellsOf_29 : decode b_S_cellsOf 29 = .ok (.aload_n 3, 1) := by decide +kernel
theorem d_S_cellsOf_30 : decode b_S_cellsOf 30 = .ok (.getfield 132, 3) := by decide +kernel
theorem d_S_cellsOf_33 : decode b_S_cellsOf 33 = .ok (.areturn, 1) := by decide +kernel
theorem d_S_commitAt_0 : decode b_S_commitAt 0 = .ok (.iload_n 1, 1) := by decide +kernel
theorem d_S_commitAt_1 : decode b_S_commitAt 1 = .ok (.ifCond .lt 18, 3) := by decide +kernel
theorem d_S_commitAt_4 : decode b_S_commitAt 4 = .ok (.iload_n 1, 1) := by decide +kernel
theorem d_S_commitAt_5 : decode b_S_commitAt 5 = .ok (.bipush 24, 2) := by decide +kernel
theorem d_S_commitAt_7 : decode b_S_commitAt 7 = .ok (.if_icmp .ge 12, 3) := by decide +kernel
theorem d_S_commitAt_10 : decode b_S_commitAt 10 = .ok (.aload_n 0, 1) := by decide +kernel
theorem d_S_commitAt_11 : decode b_S_commitAt 11 = .ok (.getfield 15, 3) := by decide +kernel
theorem d_S_commitAt_14 : decode b_S_commitAt 14 = .ok (.iload_n 1, 1) := by decide +kernel
theorem d_S_commitAt_15 : decode b_S_commitAt 15 = .ok (.aaload, 1) := by decide +kernel
theorem d_S_commitAt_16 : decode b_S_commitAt 16 = .ok (.goto 4, 3) := by decide +kernel
theorem d_S_commitAt_19 : decode b_S_commitAt 19 = .ok (.aconst_null, 1) := by decide +kernel
theorem d_S_commitAt_20 : decode b_S_commitAt 20 = .ok (.areturn, 1) := by decide +kernel
theorem d_S_branchOfPlace_0 : decode b_S_branchOfPlace 0 = .ok (.iload_n 1, 1) := by decide +kernel
theorem d_S_branchOfPlace_1 : decode b_S_branchOfPlace 1 = .ok (.bipush 24, 2) := by decide +kernel
theorem d_S_branchOfPlace_3 : decode b_S_branchOfPlace 3 = .ok (.if_icmp .ge 7, 3) := by decide +kernel
theorem d_S_branchOfPlace_6 : decode b_S_branchOfPlace 6 = .ok (.aconst_null, 1) := by decide +kernel
theorem d_S_branchOfPlace_7 : decode b_S_branchOfPlace 7 = .ok (.goto 11, 3) := by decide +kernel
theorem d_S_branchOfPlace_10 : decode b_S_branchOfPlace 10 = .ok (.aload_n 0, 1) := by decide +kernel
theorem d_S_branchOfPlace_11 : decode b_S_branchOfPlace 11 = .ok (.iload_n 1, 1) := by decide +kernel
theorem d_S_branchOfPlace_12 : decode b_S_branchOfPlace 12 = .ok (.bipush 24, 2) := by decide +kernel
theorem d_S_branchOfPlace_14 : decode b_S_branchOfPlace 14 = .ok (.isub, 1) := by decide +kernel
theorem d_S_branchOfPlace_15 : decode b_S_branchOfPlace 15 = .ok (.invokevirtual 84, 3) := by decide +kernel
theorem d_S_branchOfPlace_18 : decode b_S_branchOfPlace 18 = .ok (.areturn, 1) := by decide +kernel
theorem d_S_isCoordinate_0 : decode b_S_isCoordinate 0 = .ok (.iload_n 0, 1) := by decide +kernel
theorem d_S_isCoordinate_1 : decode b_S_isCoordinate 1 = .ok (.ifCond .lt 13, 3) := by decide +kernel
theorem d_S_isCoordinate_4 : decode b_S_isCoordinate 4 = .ok (.iload_n 0, 1) := by decide +kernel
theorem d_S_isCoordinate_5 : decode b_S_isCoordinate 5 = .ok (.bipush 32, 2) := by decide +kernel
theorem d_S_isCoordinate_7 : decode b_S_isCoordinate 7 = .ok (.if_icmp .ge 7, 3) := by decide +kernel
theorem d_S_isCoordinate_10 : decode b_S_isCoordinate 10 = .ok (.iconst 1, 1) := by decide +kernel
theorem d_S_isCoordinate_11 : decode b_S_isCoordinate 11 = .ok (.goto 4, 3) := by decide +kernel
theorem d_S_isCoordinate_14 : decode b_S_isCoordinate 14 = .ok (.iconst 0, 1) := by decide +kernel
theorem d_S_isCoordinate_15 : decode b_S_isCoordinate 15 = .ok (.ireturn, 1) := by decide +kernel
theorem d_S_indexOf_0 : decode b_S_indexOf 0 = .ok (.iload_n 0, 1) := by decide +kernel
theorem d_S_indexOf_1 : decode b_S_indexOf 1 = .ok (.sipush 1024, 3) := by decide +kernel
theorem d_S_indexOf_4 : decode b_S_indexOf 4 = .ok (.imul, 1) := by decide +kernel
theorem d_S_indexOf_5 : decode b_S_indexOf 5 = .ok (.iload_n 2, 1) := by decide +kernel
theorem d_S_indexOf_6 : decode b_S_indexOf 6 = .ok (.bipush 32, 2) := by decide +kernel
theorem d_S_indexOf_8 : decode b_S_indexOf 8 = .ok (.imul, 1) := by decide +kernel
theorem d_S_indexOf_9 : decode b_S_indexOf 9 = .ok (.iadd, 1) := by decide +kernel
theorem d_S_indexOf_10 : decode b_S_indexOf 10 = .ok (.iload_n 1, 1) := by decide +kernel
theorem d_S_indexOf_11 : decode b_S_indexOf 11 = .ok (.iadd, 1) := by decide +kernel
theorem d_S_indexOf_12 : decode b_S_indexOf 12 = .ok (.ireturn, 1) := by decide +kernel
theorem d_S_valueOf_0 : decode b_S_valueOf 0 = .ok (.lload_n 0, 1) := by decide +kernel
theorem d_S_valueOf_1 : decode b_S_valueOf 1 = .ok (.bipush 32, 2) := by decide +kernel
theorem d_S_valueOf_3 : decode b_S_valueOf 3 = .ok (.lshr, 1) := by decide +kernel
theorem d_S_valueOf_4 : decode b_S_valueOf 4 = .ok (.l2i, 1) := by decide +kernel
theorem d_S_valueOf_5 : decode b_S_valueOf 5 = .ok (.ireturn, 1) := by decide +kernel
theorem d_S_origin_0 : decode b_S_origin 0 = .ok (.aload_n 0, 1) := by decide +kernel
theorem d_S_origin_1 : decode b_S_origin 1 = .ok (.iload_n 1, 1) := by decide +kernel
theorem d_S_origin_2 : decode b_S_origin 2 = .ok (.iload_n 2, 1) := by decide +kernel
theorem d_S_origin_3 : decode b_S_origin 3 = .ok (.iload_n 3, 1) := by decide +kernel
theorem d_S_origin_4 : decode b_S_origin 4 = .ok (.iload 4, 2) := by decide +kernel
theorem d_S_origin_6 : decode b_S_origin 6 = .ok (.invokevirtual 229, 3) := by decide +kernel
theorem d_S_origin_9 : decode b_S_origin 9 = .ok (.lstore 6, 2) := by decide +kernel
theorem d_S_origin_11 : decode b_S_origin 11 = .ok (.lload 6, 2) := by decide +kernel
theorem d_S_origin_13 : decode b_S_origin 13 = .ok (.invokestatic 142, 3) := by decide +kernel
theorem d_S_origin_16 : decode b_S_origin 16 = .ok (.ldc 69, 2) := by decide +kernel
theorem d_S_origin_18 : decode b_S_origin 18 = .ok (.if_icmp .ne 6, 3) := by decide +kernel
theorem d_S_origin_21 : decode b_S_origin 21 = .ok (.ldc 69, 2) := by decide +kernel
theorem d_S_origin_23 : decode b_S_origin 23 = .ok (.ireturn, 1) := by decide +kernel
theorem d_S_origin_24 : decode b_S_origin 24 = .ok (.iload 5, 2) := by decide +kernel
theorem d_S_origin_26 : decode b_S_origin 26 = .ok (.tableswitch 63 0 3 #[30, 36, 45, 54], 30) := by decide +kernel
theorem d_S_origin_56 : decode b_S_origin 56 = .ok (.lload 6, 2) := by decide +kernel
theorem d_S_origin_58 : decode b_S_origin 58 = .ok (.invokestatic 233, 3) := by decide +kernel
theorem d_S_origin_61 : decode b_S_origin 61 = .ok (.ireturn, 1) := by decide +kernel
theorem d_S_origin_62 : decode b_S_origin 62 = .ok (.lload 6, 2) := by decide +kernel
theorem d_S_origin_64 : decode b_S_origin 64 = .ok (.invokestatic 236, 3) := by decide +kernel
theorem d_S_origin_67 : decode b_S_origin 67 = .ok (.invokestatic 239, 3) := by decide +kernel
theorem d_S_origin_70 : decode b_S_origin 70 = .ok (.ireturn, 1) := by decide +kernel
theorem d_S_origin_71 : decode b_S_origin 71 = .ok (.lload 6, 2) := by decide +kernel
theorem d_S_origin_73 : decode b_S_origin 73 = .ok (.invokestatic 236, 3) := by decide +kernel
theorem d_S_origin_76 : decode b_S_origin 76 = .ok (.invokestatic 242, 3) := by decide +kernel
theorem d_S_origin_79 : decode b_S_origin 79 = .ok (.ireturn, 1) := by decide +kernel
theorem d_S_origin_80 : decode b_S_origin 80 = .ok (.lload 6, 2) := by decide +kernel
theorem d_S_origin_82 : decode b_S_origin 82 = .ok (.invokestatic 236, 3) := by decide +kernel
theorem d_S_origin_85 : decode b_S_origin 85 = .ok (.invokestatic 245, 3) := by decide +kernel
theorem d_S_origin_88 : decode b_S_origin 88 = .ok (.ireturn, 1) := by decide +kernel
theorem d_S_origin_89 : decode b_S_origin 89 = .ok (.ldc 69, 2) := by decide +kernel
theorem d_S_origin_91 : decode b_S_origin 91 = .ok (.ireturn, 1) := by decide +kernel
theorem d_S_originCommitOf_0 : decode b_S_originCommitOf 0 = .ok (.lload_n 0, 1) := by decide +kernel
theorem d_S_originCommitOf_1 : decode b_S_originCommitOf 1 = .ok (.invokestatic 142, 3) := by decide +kernel
theorem d_S_originCommitOf_4 : decode b_S_originCommitOf 4 = .ok (.ldc 69, 2) := by decide +kernel
theorem d_S_originCommitOf_6 : decode b_S_originCommitOf 6 = .ok (.if_icmp .ne 8, 3) := by decide +kernel
theorem d_S_originCommitOf_9 : decode b_S_originCommitOf 9 = .ok (.ldc 69, 2) := by decide +kernel
theorem d_S_originCommitOf_11 : decode b_S_originCommitOf 11 = .ok (.goto 8, 3) := by decide +kernel
theorem d_S_originCommitOf_14 : decode b_S_originCommitOf 14 = .ok (.lload_n 0, 1) := by decide +kernel
theorem d_S_originCommitOf_15 : decode b_S_originCommitOf 15 = .ok (.l2i, 1) := by decide +kernel
theorem d_S_originCommitOf_16 : decode b_S_originCommitOf 16 = .ok (.bipush 12, 2) := by decide +kernel
theorem d_S_originCommitOf_18 : decode b_S_originCommitOf 18 = .ok (.ishr, 1) := by decide +kernel
theorem d_S_originCommitOf_19 : decode b_S_originCommitOf 19 = .ok (.ireturn, 1) := by decide +kernel
theorem d_S_originIndexOf_0 : decode b_S_originIndexOf 0 = .ok (.lload_n 0, 1) := by decide +kernel
theorem d_S_originIndexOf_1 : decode b_S_originIndexOf 1 = .ok (.l2i, 1) := by decide +kernel
theorem d_S_originIndexOf_2 : decode b_S_originIndexOf 2 = .ok (.sipush 4095, 3) := by decide +kernel
theorem d_S_originIndexOf_5 : decode b_S_originIndexOf 5 = .ok (.iand, 1) := by decide +kernel
theorem d_S_originIndexOf_6 : decode b_S_originIndexOf 6 = .ok (.ireturn, 1) := by decide +kernel
theorem d_S_differing_0 : decode b_S_differing 0 = .ok (.aload_n 0, 1) := by decide +kernel
theorem d_S_differing_1 : decode b_S_differing 1 = .ok (.iload_n 1, 1) := by decide +kernel
theorem d_S_differing_2 : decode b_S_differing 2 = .ok (.invokevirtual 248, 3) := by decide +kernel
theorem d_S_differing_5 : decode b_S_differing 5 = .ok (.astore 4, 2) := by decide +kernel
theorem d_S_differing_7 : decode b_S_differing 7 = .ok (.aload_n 0, 1) := by decide +kernel
theorem d_S_differing_8 : decode b_S_differing 8 = .ok (.iload_n 2, 1) := by decide +kernel
theorem d_S_differing_9 : decode b_S_differing 9 = .ok (.invokevirtual 248, 3) := by decide +kernel
theorem d_S_differing_12 : decode b_S_differing 12 = .ok (.astore 5, 2) := by decide +kernel
theorem d_S_differing_14 : decode b_S_differing 14 = .ok (.aload 4, 2) := by decide +kernel
theorem d_S_differing_16 : decode b_S_differing 16 = .ok (.ifnull 15, 3) := by decide +kernel
theorem d_S_differing_19 : decode b_S_differing 19 = .ok (.aload 5, 2) := by decide +kernel
theorem d_S_differing_21 : decode b_S_differing 21 = .ok (.ifnull 10, 3) := by decide +kernel
theorem d_S_differing_24 : decode b_S_differing 24 = .ok (.iload_n 3, 1) := by decide +kernel
theorem d_S_differing_25 : decode b_S_differing 25 = .ok (.invokestatic 73, 3) := by decide +kernel
theorem d_S_differing_28 : decode b_S_differing 28 = .ok (.ifCond .ne 5, 3) := by decide +kernel
theorem d_S_differing_31 : decode b_S_differing 31 = .ok (.iconst (-1), 1) := by decide +kernel
theorem d_S_differing_32 : decode b_S_differing 32 = .ok (.ireturn, 1) := by decide +kernel
theorem d_S_differing_33 : decode b_S_differing 33 = .ok (.iconst 0, 1) := by decide +kernel
theorem d_S_differing_34 : decode b_S_differing 34 = .ok (.istore 6, 2) := by decide +kernel
theorem d_S_differing_36 : decode b_S_differing 36 = .ok (.iload_n 3, 1) := by decide +kernel
theorem d_S_differing_37 : decode b_S_differing 37 = .ok (.sipush 1024, 3) := by decide +kernel
theorem d_S_differing_40 : decode b_S_differing 40 = .ok (.imul, 1) := by decide +kernel
theorem d_S_differing_41 : decode b_S_differing 41 = .ok (.istore 7, 2) := by decide +kernel
theorem d_S_differing_43 : decode b_S_differing 43 = .ok (.iload 7, 2) := by decide +kernel
theorem d_S_differing_45 : decode b_S_differing 45 = .ok (.iload_n 3, 1) := by decide +kernel
theorem d_S_differing_46 : decode b_S_differing 46 = .ok (.iconst 1, 1) := by decide +kernel
theorem d_S_differing_47 : decode b_S_differing 47 = .ok (.iadd, 1) := by decide +kernel
theorem d_S_differing_48 : decode b_S_differing 48 = .ok (.sipush 1024, 3) := by decide +kernel
theorem d_S_differing_51 : decode b_S_differing 51 = .ok (.imul, 1) := by decide +kernel
theorem d_S_differing_52 : decode b_S_differing 52 = .ok (.if_icmp .ge 31, 3) := by decide +kernel
theorem d_S_differing_55 : decode b_S_differing 55 = .ok (.aload 4, 2) := by decide +kernel
theorem d_S_differing_57 : decode b_S_differing 57 = .ok (.iload 7, 2) := by decide +kernel
theorem d_S_differing_59 : decode b_S_differing 59 = .ok (.laload, 1) := by decide +kernel
theorem d_S_differing_60 : decode b_S_differing 60 = .ok (.invokestatic 142, 3) := by decide +kernel
theorem d_S_differing_63 : decode b_S_differing 63 = .ok (.aload 5, 2) := by decide +kernel
theorem d_S_differing_65 : decode b_S_differing 65 = .ok (.iload 7, 2) := by decide +kernel
theorem d_S_differing_67 : decode b_S_differing 67 = .ok (.laload, 1) := by decide +kernel
theorem d_S_differing_68 : decode b_S_differing 68 = .ok (.invokestatic 142, 3) := by decide +kernel
theorem d_S_differing_71 : decode b_S_differing 71 = .ok (.if_icmp .eq 6, 3) := by decide +kernel
theorem d_S_differing_74 : decode b_S_differing 74 = .ok (.iinc 6 1, 3) := by decide +kernel
theorem d_S_differing_77 : decode b_S_differing 77 = .ok (.iinc 7 1, 3) := by decide +kernel
theorem d_S_differing_80 : decode b_S_differing 80 = .ok (.goto (-37), 3) := by decide +kernel
theorem d_S_differing_83 : decode b_S_differing 83 = .ok (.iload 6, 2) := by decide +kernel
theorem d_S_differing_85 : decode b_S_differing 85 = .ok (.ireturn, 1) := by decide +kernel
theorem d_S_differs_0 : decode b_S_differs 0 = .ok (.aload_n 0, 1) := by decide +kernel
theorem d_S_differs_1 : decode b_S_differs 1 = .ok (.iload_n 1, 1) := by decide +kernel
theorem d_S_differs_2 : decode b_S_differs 2 = .ok (.invokevirtual 248, 3) := by decide +kernel
theorem d_S_differs_5 : decode b_S_differs 5 = .ok (.astore 5, 2) := by decide +kernel
theorem d_S_differs_7 : decode b_S_differs 7 = .ok (.aload_n 0, 1) := by decide +kernel
theorem d_S_differs_8 : decode b_S_differs 8 = .ok (.iload_n 2, 1) := by decide +kernel
theorem d_S_differs_9 : decode b_S_differs 9 = .ok (.invokevirtual 248, 3) := by decide +kernel
theorem d_S_differs_12 : decode b_S_differs 12 = .ok (.astore 6, 2) := by decide +kernel
theorem d_S_differs_14 : decode b_S_differs 14 = .ok (.aload 5, 2) := by decide +kernel
theorem d_S_differs_16 : decode b_S_differs 16 = .ok (.ifnull 15, 3) := by decide +kernel
theorem d_S_differs_19 : decode b_S_differs 19 = .ok (.aload 6, 2) := by decide +kernel
theorem d_S_differs_21 : decode b_S_differs 21 = .ok (.ifnull 10, 3) := by decide +kernel
theorem d_S_differs_24 : decode b_S_differs 24 = .ok (.iload_n 3, 1) := by decide +kernel
theorem d_S_differs_25 : decode b_S_differs 25 = .ok (.invokestatic 73, 3) := by decide +kernel
theorem d_S_differs_28 : decode b_S_differs 28 = .ok (.ifCond .ne 5, 3) := by decide +kernel
theorem d_S_differs_31 : decode b_S_differs 31 = .ok (.iconst (-1), 1) := by decide +kernel
theorem d_S_differs_32 : decode b_S_differs 32 = .ok (.ireturn, 1) := by decide +kernel
theorem d_S_differs_33 : decode b_S_differs 33 = .ok (.iconst 0, 1) := by decide +kernel
theorem d_S_differs_34 : decode b_S_differs 34 = .ok (.istore 7, 2) := by decide +kernel
theorem d_S_differs_36 : decode b_S_differs 36 = .ok (.iload_n 3, 1) := by decide +kernel
theorem d_S_differs_37 : decode b_S_differs 37 = .ok (.sipush 1024, 3) := by decide +kernel
theorem d_S_differs_40 : decode b_S_differs 40 = .ok (.imul, 1) := by decide +kernel
theorem d_S_differs_41 : decode b_S_differs 41 = .ok (.istore 8, 2) := by decide +kernel
theorem d_S_differs_43 : decode b_S_differs 43 = .ok (.iconst 0, 1) := by decide +kernel
theorem d_S_differs_44 : decode b_S_differs 44 = .ok (.istore 9, 2) := by decide +kernel
theorem d_S_differs_46 : decode b_S_differs 46 = .ok (.iload 9, 2) := by decide +kernel
theorem d_S_differs_48 : decode b_S_differs 48 = .ok (.sipush 1024, 3) := by decide +kernel
theorem d_S_differs_51 : decode b_S_differs 51 = .ok (.if_icmp .ge 47, 3) := by decide +kernel
theorem d_S_differs_54 : decode b_S_differs 54 = .ok (.aload 5, 2) := by decide +kernel
theorem d_S_differs_56 : decode b_S_differs 56 = .ok (.iload 8, 2) := by decide +kernel
theorem d_S_differs_58 : decode b_S_differs 58 = .ok (.iload 9, 2) := by decide +kernel
theorem d_S_differs_60 : decode b_S_differs 60 = .ok (.iadd, 1) := by decide +kernel
theorem d_S_differs_61 : decode b_S_differs 61 = .ok (.laload, 1) := by decide +kernel
theorem d_S_differs_62 : decode b_S_differs 62 = .ok (.invokestatic 142, 3) := by decide +kernel
theorem d_S_differs_65 : decode b_S_differs 65 = .ok (.aload 6, 2) := by decide +kernel
theorem d_S_differs_67 : decode b_S_differs 67 = .ok (.iload 8, 2) := by decide +kernel
theorem d_S_differs_69 : decode b_S_differs 69 = .ok (.iload 9, 2) := by decide +kernel
theorem d_S_differs_71 : decode b_S_differs 71 = .ok (.iadd, 1) := by decide +kernel
theorem d_S_differs_72 : decode b_S_differs 72 = .ok (.laload, 1) := by decide +kernel
theorem d_S_differs_73 : decode b_S_differs 73 = .ok (.invokestatic 142, 3) := by decide +kernel
theorem d_S_differs_76 : decode b_S_differs 76 = .ok (.if_icmp .eq 16, 3) := by decide +kernel
theorem d_S_differs_79 : decode b_S_differs 79 = .ok (.iload 7, 2) := by decide +kernel
theorem d_S_differs_81 : decode b_S_differs 81 = .ok (.iload 4, 2) := by decide +kernel
theorem d_S_differs_83 : decode b_S_differs 83 = .ok (.if_icmp .ne 6, 3) := by decide +kernel
theorem d_S_differs_86 : decode b_S_differs 86 = .ok (.iload 9, 2) := by decide +kernel
theorem d_S_differs_88 : decode b_S_differs 88 = .ok (.ireturn, 1) := by decide +kernel
theorem d_S_differs_89 : decode b_S_differs 89 = .ok (.iinc 7 1, 3) := by decide +kernel
theorem d_S_differs_92 : decode b_S_differs 92 = .ok (.iinc 9 1, 3) := by decide +kernel
theorem d_S_differs_95 : decode b_S_differs 95 = .ok (.goto (-49), 3) := by decide +kernel
theorem d_S_differs_98 : decode b_S_differs 98 = .ok (.iconst (-1), 1) := by decide +kernel
theorem d_S_differs_99 : decode b_S_differs 99 = .ok (.ireturn, 1) := by decide +kernel
theorem d_S_nearest_0 : decode b_S_nearest 0 = .ok (.aload_n 0, 1) := by decide +kernel
theorem d_S_nearest_1 : decode b_S_nearest 1 = .ok (.iload_n 1, 1) := by decide +kernel
theorem d_S_nearest_2 : decode b_S_nearest 2 = .ok (.invokevirtual 77, 3) := by decide +kernel
theorem d_S_nearest_5 : decode b_S_nearest 5 = .ok (.ifnull 11, 3) := by decide +kernel
theorem d_S_nearest_8 : decode b_S_nearest 8 = .ok (.aload_n 0, 1) := by decide +kernel
theorem d_S_nearest_9 : decode b_S_nearest 9 = .ok (.iload_n 2, 1) := by decide +kernel
theorem d_S_nearest_10 : decode b_S_nearest 10 = .ok (.invokevirtual 77, 3) := by decide +kernel
theorem d_S_nearest_13 : decode b_S_nearest 13 = .ok (.ifnonnull 5, 3) := by decide +kernel
theorem d_S_nearest_16 : decode b_S_nearest 16 = .ok (.iconst (-1), 1) := by decide +kernel
theorem d_S_nearest_17 : decode b_S_nearest 17 = .ok (.ireturn, 1) := by decide +kernel
theorem d_S_nearest_18 : decode b_S_nearest 18 = .ok (.aload_n 0, 1) := by decide +kernel
theorem d_S_nearest_19 : decode b_S_nearest 19 = .ok (.iconst 1, 1) := by decide +kernel
theorem d_S_nearest_20 : decode b_S_nearest 20 = .ok (.iload_n 1, 1) := by decide +kernel
theorem d_S_nearest_21 : decode b_S_nearest 21 = .ok (.ishl, 1) := by decide +kernel
theorem d_S_nearest_22 : decode b_S_nearest 22 = .ok (.iload_n 2, 1) := by decide +kernel
theorem d_S_nearest_23 : decode b_S_nearest 23 = .ok (.invokevirtual 260, 3) := by decide +kernel
theorem d_S_nearest_26 : decode b_S_nearest 26 = .ok (.istore 4, 2) := by decide +kernel
theorem d_S_nearest_28 : decode b_S_nearest 28 = .ok (.iconst 0, 1) := by decide +kernel
theorem d_S_nearest_29 : decode b_S_nearest 29 = .ok (.istore 5, 2) := by decide +kernel
theorem d_S_nearest_31 : decode b_S_nearest 31 = .ok (.iconst 0, 1) := by decide +kernel
theorem d_S_nearest_32 : decode b_S_nearest 32 = .ok (.istore 6, 2) := by decide +kernel
theorem d_S_nearest_34 : decode b_S_nearest 34 = .ok (.iload 6, 2) := by decide +kernel
theorem d_S_nearest_36 : decode b_S_nearest 36 = .ok (.aload_n 0, 1) := by decide +kernel
theorem d_S_nearest_37 : decode b_S_nearest 37 = .ok (.getfield 54, 3) := by decide +kernel
theorem d_S_nearest_40 : decode b_S_nearest 40 = .ok (.if_icmp .ge 31, 3) := by decide +kernel
theorem d_S_nearest_43 : decode b_S_nearest 43 = .ok (.iload 4, 2) := by decide +kernel
theorem d_S_nearest_45 : decode b_S_nearest 45 = .ok (.iload 6, 2) := by decide +kernel
theorem d_S_nearest_47 : decode b_S_nearest 47 = .ok (.invokestatic 186, 3) := by decide +kernel
theorem d_S_nearest_50 : decode b_S_nearest 50 = .ok (.ifCond .eq 15, 3) := by decide +kernel
theorem d_S_nearest_53 : decode b_S_nearest 53 = .ok (.iload 5, 2) := by decide +kernel
theorem d_S_nearest_55 : decode b_S_nearest 55 = .ok (.iload_n 3, 1) := by decide +kernel
theorem d_S_nearest_56 : decode b_S_nearest 56 = .ok (.if_icmp .ne 6, 3) := by decide +kernel
theorem d_S_nearest_59 : decode b_S_nearest 59 = .ok (.iload 6, 2) := by decide +kernel
theorem d_S_nearest_61 : decode b_S_nearest 61 = .ok (.ireturn, 1) := by decide +kernel
theorem d_S_nearest_62 : decode b_S_nearest 62 = .ok (.iinc 5 1, 3) := by decide +kernel
theorem d_S_nearest_65 : decode b_S_nearest 65 = .ok (.iinc 6 1, 3) := by decide +kernel
theorem d_S_nearest_68 : decode b_S_nearest 68 = .ok (.goto (-34), 3) := by decide +kernel
theorem d_S_nearest_71 : decode b_S_nearest 71 = .ok (.iconst (-1), 1) := by decide +kernel
theorem d_S_nearest_72 : decode b_S_nearest 72 = .ok (.ireturn, 1) := by decide +kernel
theorem d_S_nearestOf_0 : decode b_S_nearestOf 0 = .ok (.iconst 0, 1) := by decide +kernel
theorem d_S_nearestOf_1 : decode b_S_nearestOf 1 = .ok (.istore_n 3, 1) := by decide +kernel
theorem d_S_nearestOf_2 : decode b_S_nearestOf 2 = .ok (.iconst 0, 1) := by decide +kernel
theorem d_S_nearestOf_3 : decode b_S_nearestOf 3 = .ok (.istore 4, 2) := by decide +kernel
theorem d_S_nearestOf_5 : decode b_S_nearestOf 5 = .ok (.iload 4, 2) := by decide +kernel
theorem d_S_nearestOf_7 : decode b_S_nearestOf 7 = .ok (.aload_n 0, 1) := by decide +kernel
theorem d_S_nearestOf_8 : decode b_S_nearestOf 8 = .ok (.getfield 54, 3) := by decide +kernel
theorem d_S_nearestOf_11 : decode b_S_nearestOf 11 = .ok (.if_icmp .ge 27, 3) := by decide +kernel
theorem d_S_nearestOf_14 : decode b_S_nearestOf 14 = .ok (.iload_n 1, 1) := by decide +kernel
theorem d_S_nearestOf_15 : decode b_S_nearestOf 15 = .ok (.iload 4, 2) := by decide +kernel
theorem d_S_nearestOf_17 : decode b_S_nearestOf 17 = .ok (.invokestatic 186, 3) := by decide +kernel
theorem d_S_nearestOf_20 : decode b_S_nearestOf 20 = .ok (.ifCond .eq 12, 3) := by decide +kernel
theorem d_S_nearestOf_23 : decode b_S_nearestOf 23 = .ok (.iload_n 3, 1) := by decide +kernel
theorem d_S_nearestOf_24 : decode b_S_nearestOf 24 = .ok (.aload_n 0, 1) := by decide +kernel
theorem d_S_nearestOf_25 : decode b_S_nearestOf 25 = .ok (.iload 4, 2) := by decide +kernel
theorem d_S_nearestOf_27 : decode b_S_nearestOf 27 = .ok (.invokevirtual 172, 3) := by decide +kernel
theorem d_S_nearestOf_30 : decode b_S_nearestOf 30 = .ok (.ior, 1) := by decide +kernel
theorem d_S_nearestOf_31 : decode b_S_nearestOf 31 = .ok (.istore_n 3, 1) := by decide +kernel
theorem d_S_nearestOf_32 : decode b_S_nearestOf 32 = .ok (.iinc 4 1, 3) := by decide +kernel
theorem d_S_nearestOf_35 : decode b_S_nearestOf 35 = .ok (.goto (-30), 3) := by decide +kernel
theorem d_S_nearestOf_38 : decode b_S_nearestOf 38 = .ok (.iload_n 3, 1) := by decide +kernel
theorem d_S_nearestOf_39 : decode b_S_nearestOf 39 = .ok (.aload_n 0, 1) := by decide +kernel
theorem d_S_nearestOf_40 : decode b_S_nearestOf 40 = .ok (.iload_n 2, 1) := by decide +kernel
theorem d_S_nearestOf_41 : decode b_S_nearestOf 41 = .ok (.invokevirtual 172, 3) := by decide +kernel
theorem d_S_nearestOf_44 : decode b_S_nearestOf 44 = .ok (.iand, 1) := by decide +kernel
theorem d_S_nearestOf_45 : decode b_S_nearestOf 45 = .ok (.istore 4, 2) := by decide +kernel
theorem d_S_nearestOf_47 : decode b_S_nearestOf 47 = .ok (.iconst 0, 1) := by decide +kernel
theorem d_S_nearestOf_48 : decode b_S_nearestOf 48 = .ok (.istore 5, 2) := by decide +kernel
theorem d_S_nearestOf_50 : decode b_S_nearestOf 50 = .ok (.iconst 0, 1) := by decide +kernel
theorem d_S_nearestOf_51 : decode b_S_nearestOf 51 = .ok (.istore 6, 2) := by decide +kernel
theorem d_S_nearestOf_53 : decode b_S_nearestOf 53 = .ok (.iload 6, 2) := by decide +kernel
theorem d_S_nearestOf_55 : decode b_S_nearestOf 55 = .ok (.aload_n 0, 1) := by decide +kernel
theorem d_S_nearestOf_56 : decode b_S_nearestOf 56 = .ok (.getfield 54, 3) := by decide +kernel
theorem d_S_nearestOf_59 : decode b_S_nearestOf 59 = .ok (.if_icmp .ge 37, 3) := by decide +kernel
theorem d_S_nearestOf_62 : decode b_S_nearestOf 62 = .ok (.iload 4, 2) := by decide +kernel
theorem d_S_nearestOf_64 : decode b_S_nearestOf 64 = .ok (.iload 6, 2) := by decide +kernel
theorem d_S_nearestOf_66 : decode b_S_nearestOf 66 = .ok (.invokestatic 186, 3) := by decide +kernel
theorem d_S_nearestOf_69 : decode b_S_nearestOf 69 = .ok (.ifCond .eq 21, 3) := by decide +kernel
theorem d_S_nearestOf_72 : decode b_S_nearestOf 72 = .ok (.iload 5, 2) := by decide +kernel
theorem d_S_nearestOf_74 : decode b_S_nearestOf 74 = .ok (.aload_n 0, 1) := by decide +kernel
theorem d_S_nearestOf_75 : decode b_S_nearestOf 75 = .ok (.iload 6, 2) := by decide +kernel
theorem d_S_nearestOf_77 : decode b_S_nearestOf 77 = .ok (.invokevirtual 172, 3) := by decide +kernel
theorem d_S_nearestOf_80 : decode b_S_nearestOf 80 = .ok (.iconst 1, 1) := by decide +kernel
theorem d_S_nearestOf_81 : decode b_S_nearestOf 81 = .ok (.iload 6, 2) := by decide +kernel
theorem d_S_nearestOf_83 : decode b_S_nearestOf 83 = .ok (.ishl, 1) := by decide +kernel
theorem d_S_nearestOf_84 : decode b_S_nearestOf 84 = .ok (.iconst (-1), 1) := by decide +kernel
theorem d_S_nearestOf_85 : decode b_S_nearestOf 85 = .ok (.ixor, 1) := by decide +kernel
theorem d_S_nearestOf_86 : decode b_S_nearestOf 86 = .ok (.iand, 1) := by decide +kernel
theorem d_S_nearestOf_87 : decode b_S_nearestOf 87 = .ok (.ior, 1) := by decide +kernel
theorem d_S_nearestOf_88 : decode b_S_nearestOf 88 = .ok (.istore 5, 2) := by decide +kernel
theorem d_S_nearestOf_90 : decode b_S_nearestOf 90 = .ok (.iinc 6 1, 3) := by decide +kernel
theorem d_S_nearestOf_93 : decode b_S_nearestOf 93 = .ok (.goto (-40), 3) := by decide +kernel
theorem d_S_nearestOf_96 : decode b_S_nearestOf 96 = .ok (.iload 4, 2) := by decide +kernel
theorem d_S_nearestOf_98 : decode b_S_nearestOf 98 = .ok (.iload 5, 2) := by decide +kernel
theorem d_S_nearestOf_100 : decode b_S_nearestOf 100 = .ok (.iconst (-1), 1) := by decide +kernel
theorem d_S_nearestOf_101 : decode b_S_nearestOf 101 = .ok (.ixor, 1) := by decide +kernel
theorem d_S_nearestOf_102 : decode b_S_nearestOf 102 = .ok (.iand, 1) := by decide +kernel
theorem d_S_nearestOf_103 : decode b_S_nearestOf 103 = .ok (.ireturn, 1) := by decide +kernel
theorem d_S_contains_0 : decode b_S_contains 0 = .ok (.iload_n 0, 1) := by decide +kernel
theorem d_S_contains_1 : decode b_S_contains 1 = .ok (.iload_n 1, 1) := by decide +kernel
theorem d_S_contains_2 : decode b_S_contains 2 = .ok (.ishr, 1) := by decide +kernel
theorem d_S_contains_3 : decode b_S_contains 3 = .ok (.iconst 1, 1) := by decide +kernel
theorem d_S_contains_4 : decode b_S_contains 4 = .ok (.iand, 1) := by decide +kernel
theorem d_S_contains_5 : decode b_S_contains 5 = .ok (.iconst 1, 1) := by decide +kernel
theorem d_S_contains_6 : decode b_S_contains 6 = .ok (.if_icmp .ne 7, 3) := by decide +kernel
theorem d_S_contains_9 : decode b_S_contains 9 = .ok (.iconst 1, 1) := by decide +kernel
theorem d_S_contains_10 : decode b_S_contains 10 = .ok (.goto 4, 3) := by decide +kernel
theorem d_S_contains_13 : decode b_S_contains 13 = .ok (.iconst 0, 1) := by decide +kernel
theorem d_S_contains_14 : decode b_S_contains 14 = .ok (.ireturn, 1) := by decide +kernel
theorem d_S_ancestorsOf_0 : decode b_S_ancestorsOf 0 = .ok (.aload_n 0, 1) := by decide +kernel
theorem d_S_ancestorsOf_1 : decode b_S_ancestorsOf 1 = .ok (.iload_n 1, 1) := by decide +kernel
theorem d_S_ancestorsOf_2 : decode b_S_ancestorsOf 2 = .ok (.invokevirtual 77, 3) := by decide +kernel
theorem d_S_ancestorsOf_5 : decode b_S_ancestorsOf 5 = .ok (.astore_n 2, 1) := by decide +kernel
theorem d_S_ancestorsOf_6 : decode b_S_ancestorsOf 6 = .ok (.aload_n 2, 1) := by decide +kernel
theorem d_S_ancestorsOf_7 : decode b_S_ancestorsOf 7 = .ok (.ifnonnull 7, 3) := by decide +kernel
theorem d_S_ancestorsOf_10 : decode b_S_ancestorsOf 10 = .ok (.iconst 0, 1) := by decide +kernel
theorem d_S_ancestorsOf_11 : decode b_S_ancestorsOf 11 = .ok (.goto 7, 3) := by decide +kernel
theorem d_S_ancestorsOf_14 : decode b_S_ancestorsOf 14 = .ok (.aload_n 2, 1) := by decide +kernel
theorem d_S_ancestorsOf_15 : decode b_S_ancestorsOf 15 = .ok (.getfield 304, 3) := by decide +kernel
theorem d_S_ancestorsOf_18 : decode b_S_ancestorsOf 18 = .ok (.ireturn, 1) := by decide +kernel
theorem d_S_about_0 : decode b_S_about 0 = .ok (.aload_n 0, 1) := by decide +kernel
theorem d_S_about_1 : decode b_S_about 1 = .ok (.iload_n 1, 1) := by decide +kernel
theorem d_S_about_2 : decode b_S_about 2 = .ok (.invokevirtual 77, 3) := by decide +kernel
theorem d_S_about_5 : decode b_S_about 5 = .ok (.astore_n 3, 1) := by decide +kernel
theorem d_S_about_6 : decode b_S_about 6 = .ok (.aload_n 3, 1) := by decide +kernel
theorem d_S_about_7 : decode b_S_about 7 = .ok (.ifnull 11, 3) := by decide +kernel
theorem d_S_about_10 : decode b_S_about 10 = .ok (.aload_n 0, 1) := by decide +kernel
theorem d_S_about_11 : decode b_S_about 11 = .ok (.aload_n 3, 1) := by decide +kernel
theorem d_S_about_12 : decode b_S_about 12 = .ok (.iload_n 1, 1) := by decide +kernel
theorem d_S_about_13 : decode b_S_about 13 = .ok (.iload_n 2, 1) := by decide +kernel
theorem d_S_about_14 : decode b_S_about 14 = .ok (.invokevirtual 263, 3) := by decide +kernel
theorem d_S_about_17 : decode b_S_about 17 = .ok (.ireturn, 1) := by decide +kernel
theorem d_S_about_18 : decode b_S_about 18 = .ok (.aload_n 0, 1) := by decide +kernel
theorem d_S_about_19 : decode b_S_about 19 = .ok (.iload_n 1, 1) := by decide +kernel
theorem d_S_about_20 : decode b_S_about 20 = .ok (.invokevirtual 267, 3) := by decide +kernel
theorem d_S_about_23 : decode b_S_about 23 = .ok (.astore 4, 2) := by decide +kernel
theorem d_S_about_25 : decode b_S_about 25 = .ok (.aload 4, 2) := by decide +kernel
theorem d_S_about_27 : decode b_S_about 27 = .ok (.ifnull 11, 3) := by decide +kernel
theorem d_S_about_30 : decode b_S_about 30 = .ok (.aload_n 0, 1) := by decide +kernel
theorem d_S_about_31 : decode b_S_about 31 = .ok (.aload 4, 2) := by decide +kernel
theorem d_S_about_33 : decode b_S_about 33 = .ok (.iload_n 2, 1) := by decide +kernel
theorem d_S_about_34 : decode b_S_about 34 = .ok (.invokevirtual 270, 3) := by decide +kernel
theorem d_S_about_37 : decode b_S_about 37 = .ok (.ireturn, 1) := by decide +kernel
theorem d_S_about_38 : decode b_S_about 38 = .ok (.iconst (-1), 1) := by decide +kernel
theorem d_S_about_39 : decode b_S_about 39 = .ok (.ireturn, 1) := by decide +kernel
theorem d_S_aboutCommit_0 : decode b_S_aboutCommit 0 = .ok (.iload_n 3, 1) := by decide +kernel
theorem d_S_aboutCommit_1 : decode b_S_aboutCommit 1 = .ok (.tableswitch 43 0 2 #[27, 32, 37], 27) := by decide +kernel
theorem d_S_aboutCommit_28 : decode b_S_aboutCommit 28 = .ok (.aload_n 1, 1) := by decide +kernel
theorem d_S_aboutCommit_29 : decode b_S_aboutCommit 29 = .ok (.getfield 335, 3) := by decide +kernel
theorem d_S_aboutCommit_32 : decode b_S_aboutCommit 32 = .ok (.ireturn, 1) := by decide +kernel
theorem d_S_aboutCommit_33 : decode b_S_aboutCommit 33 = .ok (.aload_n 1, 1) := by decide +kernel
theorem d_S_aboutCommit_34 : decode b_S_aboutCommit 34 = .ok (.getfield 338, 3) := by decide +kernel
theorem d_S_aboutCommit_37 : decode b_S_aboutCommit 37 = .ok (.ireturn, 1) := by decide +kernel
theorem d_S_aboutCommit_38 : decode b_S_aboutCommit 38 = .ok (.aload_n 0, 1) := by decide +kernel
theorem d_S_aboutCommit_39 : decode b_S_aboutCommit 39 = .ok (.iload_n 2, 1) := by decide +kernel
theorem d_S_aboutCommit_40 : decode b_S_aboutCommit 40 = .ok (.invokevirtual 341, 3) := by decide +kernel
theorem d_S_aboutCommit_43 : decode b_S_aboutCommit 43 = .ok (.ireturn, 1) := by decide +kernel
theorem d_S_aboutCommit_44 : decode b_S_aboutCommit 44 = .ok (.iconst (-1), 1) := by decide +kernel
theorem d_S_aboutCommit_45 : decode b_S_aboutCommit 45 = .ok (.ireturn, 1) := by decide +kernel
theorem d_S_childrenOf_0 : decode b_S_childrenOf 0 = .ok (.iconst 0, 1) := by decide +kernel
theorem d_S_childrenOf_1 : decode b_S_childrenOf 1 = .ok (.istore_n 2, 1) := by decide +kernel
theorem d_S_childrenOf_2 : decode b_S_childrenOf 2 = .ok (.iconst 0, 1) := by decide +kernel
theorem d_S_childrenOf_3 : decode b_S_childrenOf 3 = .ok (.istore_n 3, 1) := by decide +kernel
theorem d_S_childrenOf_4 : decode b_S_childrenOf 4 = .ok (.iload_n 3, 1) := by decide +kernel
theorem d_S_childrenOf_5 : decode b_S_childrenOf 5 = .ok (.aload_n 0, 1) := by decide +kernel
theorem d_S_childrenOf_6 : decode b_S_childrenOf 6 = .ok (.getfield 54, 3) := by decide +kernel
theorem d_S_childrenOf_9 : decode b_S_childrenOf 9 = .ok (.if_icmp .ge 33, 3) := by decide +kernel
theorem d_S_childrenOf_12 : decode b_S_childrenOf 12 = .ok (.aload_n 0, 1) := by decide +kernel
theorem d_S_childrenOf_13 : decode b_S_childrenOf 13 = .ok (.iload_n 3, 1) := by decide +kernel
theorem d_S_childrenOf_14 : decode b_S_childrenOf 14 = .ok (.invokevirtual 77, 3) := by decide +kernel
theorem d_S_childrenOf_17 : decode b_S_childrenOf 17 = .ok (.astore 4, 2) := by decide +kernel
theorem d_S_childrenOf_19 : decode b_S_childrenOf 19 = .ok (.aload 4, 2) := by decide +kernel
theorem d_S_childrenOf_21 : decode b_S_childrenOf 21 = .ok (.ifnull 15, 3) := by decide +kernel
theorem d_S_childrenOf_24 : decode b_S_childrenOf 24 = .ok (.aload 4, 2) := by decide +kernel
theorem d_S_childrenOf_26 : decode b_S_childrenOf 26 = .ok (.iload_n 1, 1) := by decide +kernel
theorem d_S_childrenOf_27 : decode b_S_childrenOf 27 = .ok (.invokevirtual 344, 3) := by decide +kernel
theorem d_S_childrenOf_30 : decode b_S_childrenOf 30 = .ok (.ifCond .eq 6, 3) := by decide +kernel
theorem d_S_childrenOf_33 : decode b_S_childrenOf 33 = .ok (.iinc 2 1, 3) := by decide +kernel
theorem d_S_childrenOf_36 : decode b_S_childrenOf 36 = .ok (.iinc 3 1, 3) := by decide +kernel
theorem d_S_childrenOf_39 : decode b_S_childrenOf 39 = .ok (.goto (-35), 3) := by decide +kernel
theorem d_S_childrenOf_42 : decode b_S_childrenOf 42 = .ok (.iload_n 2, 1) := by decide +kernel
theorem d_S_childrenOf_43 : decode b_S_childrenOf 43 = .ok (.ireturn, 1) := by decide +kernel
theorem d_C_hasParent_0 : decode b_C_hasParent 0 = .ok (.aload_n 0, 1) := by decide +kernel
theorem d_C_hasParent_1 : decode b_C_hasParent 1 = .ok (.getfield 7, 3) := by decide +kernel
theorem d_C_hasParent_4 : decode b_C_hasParent 4 = .ok (.iload_n 1, 1) := by decide +kernel
theorem d_C_hasParent_5 : decode b_C_hasParent 5 = .ok (.if_icmp .eq 11, 3) := by decide +kernel
theorem d_C_hasParent_8 : decode b_C_hasParent 8 = .ok (.aload_n 0, 1) := by decide +kernel
theorem d_C_hasParent_9 : decode b_C_hasParent 9 = .ok (.getfield 13, 3) := by decide +kernel
theorem d_C_hasParent_12 : decode b_C_hasParent 12 = .ok (.iload_n 1, 1) := by decide +kernel
theorem d_C_hasParent_13 : decode b_C_hasParent 13 = .ok (.if_icmp .ne 7, 3) := by decide +kernel
theorem d_C_hasParent_16 : decode b_C_hasParent 16 = .ok (.iconst 1, 1) := by decide +kernel
theorem d_C_hasParent_17 : decode b_C_hasParent 17 = .ok (.goto 4, 3) := by decide +kernel
theorem d_C_hasParent_20 : decode b_C_hasParent 20 = .ok (.iconst 0, 1) := by decide +kernel
theorem d_C_hasParent_21 : decode b_C_hasParent 21 = .ok (.ireturn, 1) := by decide +kernel
theorem d_S_aboutBranch_0 : decode b_S_aboutBranch 0 = .ok (.iload_n 2, 1) := by decide +kernel
theorem d_S_aboutBranch_1 : decode b_S_aboutBranch 1 = .ok (.tableswitch 51 0 2 #[27, 32, 37], 27) := by decide +kernel
theorem d_S_aboutBranch_28 : decode b_S_aboutBranch 28 = .ok (.aload_n 1, 1) := by decide +kernel
theorem d_S_aboutBranch_29 : decode b_S_aboutBranch 29 = .ok (.getfield 169, 3) := by decide +kernel
theorem d_S_aboutBranch_32 : decode b_S_aboutBranch 32 = .ok (.ireturn, 1) := by decide +kernel
theorem d_S_aboutBranch_33 : decode b_S_aboutBranch 33 = .ok (.aload_n 1, 1) := by decide +kernel
theorem d_S_aboutBranch_34 : decode b_S_aboutBranch 34 = .ok (.getfield 175, 3) := by decide +kernel
theorem d_S_aboutBranch_37 : decode b_S_aboutBranch 37 = .ok (.ireturn, 1) := by decide +kernel
theorem d_S_aboutBranch_38 : decode b_S_aboutBranch 38 = .ok (.aload_n 0, 1) := by decide +kernel
theorem d_S_aboutBranch_39 : decode b_S_aboutBranch 39 = .ok (.aload_n 1, 1) := by decide +kernel
theorem d_S_aboutBranch_40 : decode b_S_aboutBranch 40 = .ok (.invokevirtual 157, 3) := by decide +kernel
theorem d_S_aboutBranch_43 : decode b_S_aboutBranch 43 = .ok (.ifCond .eq 7, 3) := by decide +kernel
theorem d_S_aboutBranch_46 : decode b_S_aboutBranch 46 = .ok (.iconst 1, 1) := by decide +kernel
theorem d_S_aboutBranch_47 : decode b_S_aboutBranch 47 = .ok (.goto 4, 3) := by decide +kernel
theorem d_S_aboutBranch_50 : decode b_S_aboutBranch 50 = .ok (.iconst 0, 1) := by decide +kernel
theorem d_S_aboutBranch_51 : decode b_S_aboutBranch 51 = .ok (.ireturn, 1) := by decide +kernel
theorem d_S_aboutBranch_52 : decode b_S_aboutBranch 52 = .ok (.iconst (-1), 1) := by decide +kernel
theorem d_S_aboutBranch_53 : decode b_S_aboutBranch 53 = .ok (.ireturn, 1) := by decide +kernel
theorem d_S_isChanged_0 : decode b_S_isChanged 0 = .ok (.aload_n 1, 1) := by decide +kernel
theorem d_S_isChanged_1 : decode b_S_isChanged 1 = .ok (.getfield 175, 3) := by decide +kernel
theorem d_S_isChanged_4 : decode b_S_isChanged 4 = .ok (.iconst (-1), 1) := by decide +kernel
theorem d_S_isChanged_5 : decode b_S_isChanged 5 = .ok (.if_icmp .eq 5, 3) := by decide +kernel
theorem d_S_isChanged_8 : decode b_S_isChanged 8 = .ok (.iconst 1, 1) := by decide +kernel
theorem d_S_isChanged_9 : decode b_S_isChanged 9 = .ok (.ireturn, 1) := by decide +kernel
theorem d_S_isChanged_10 : decode b_S_isChanged 10 = .ok (.aload_n 0, 1) := by decide +kernel
theorem d_S_isChanged_11 : decode b_S_isChanged 11 = .ok (.aload_n 1, 1) := by decide +kernel
theorem d_S_isChanged_12 : decode b_S_isChanged 12 = .ok (.getfield 169, 3) := by decide +kernel
theorem d_S_isChanged_15 : decode b_S_isChanged 15 = .ok (.invokevirtual 77, 3) := by decide +kernel
theorem d_S_isChanged_18 : decode b_S_isChanged 18 = .ok (.astore_n 2, 1) := by decide +kernel
theorem d_S_isChanged_19 : decode b_S_isChanged 19 = .ok (.aload_n 2, 1) := by decide +kernel
theorem d_S_isChanged_20 : decode b_S_isChanged 20 = .ok (.ifnonnull 5, 3) := by decide +kernel
theorem d_S_isChanged_23 : decode b_S_isChanged 23 = .ok (.iconst 0, 1) := by decide +kernel
theorem d_S_isChanged_24 : decode b_S_isChanged 24 = .ok (.ireturn, 1) := by decide +kernel
theorem d_S_isChanged_25 : decode b_S_isChanged 25 = .ok (.iconst 0, 1) := by decide +kernel
theorem d_S_isChanged_26 : decode b_S_isChanged 26 = .ok (.istore_n 3, 1) := by decide +kernel
theorem d_S_isChanged_27 : decode b_S_isChanged 27 = .ok (.iload_n 3, 1) := by decide +kernel
theorem d_S_isChanged_28 : decode b_S_isChanged 28 = .ok (.sipush 4096, 3) := by decide +kernel
theorem d_S_isChanged_31 : decode b_S_isChanged 31 = .ok (.if_icmp .ge 27, 3) := by decide +kernel
theorem d_S_isChanged_34 : decode b_S_isChanged 34 = .ok (.aload_n 1, 1) := by decide +kernel
theorem d_S_isChanged_35 : decode b_S_isChanged 35 = .ok (.getfield 132, 3) := by decide +kernel
theorem d_S_isChanged_38 : decode b_S_isChanged 38 = .ok (.iload_n 3, 1) := by decide +kernel
theorem d_S_isChanged_39 : decode b_S_isChanged 39 = .ok (.laload, 1) := by decide +kernel
theorem d_S_isChanged_40 : decode b_S_isChanged 40 = .ok (.aload_n 2, 1) := by decide +kernel
theorem d_S_isChanged_41 : decode b_S_isChanged 41 = .ok (.getfield 91, 3) := by decide +kernel
theorem d_S_isChanged_44 : decode b_S_isChanged 44 = .ok (.iload_n 3, 1) := by decide +kernel
theorem d_S_isChanged_45 : decode b_S_isChanged 45 = .ok (.laload, 1) := by decide +kernel
theorem d_S_isChanged_46 : decode b_S_isChanged 46 = .ok (.lcmp, 1) := by decide +kernel
theorem d_S_isChanged_47 : decode b_S_isChanged 47 = .ok (.ifCond .eq 5, 3) := by decide +kernel
theorem d_S_isChanged_50 : decode b_S_isChanged 50 = .ok (.iconst 1, 1) := by decide +kernel
theorem d_S_isChanged_51 : decode b_S_isChanged 51 = .ok (.ireturn, 1) := by decide +kernel
theorem d_S_isChanged_52 : decode b_S_isChanged 52 = .ok (.iinc 3 1, 3) := by decide +kernel
theorem d_S_isChanged_55 : decode b_S_isChanged 55 = .ok (.goto (-28), 3) := by decide +kernel
theorem d_S_isChanged_58 : decode b_S_isChanged 58 = .ok (.iconst 0, 1) := by decide +kernel
theorem d_S_isChanged_59 : decode b_S_isChanged 59 = .ok (.ireturn, 1) := by decide +kernel
theorem d_S_blocks_0 : decode b_S_blocks 0 = .ok (.iload_n 1, 1) := by decide +kernel
theorem d_S_blocks_1 : decode b_S_blocks 1 = .ok (.invokestatic 73, 3) := by decide +kernel
theorem d_S_blocks_4 : decode b_S_blocks 4 = .ok (.ifCond .ne 5, 3) := by decide +kernel
theorem d_S_blocks_7 : decode b_S_blocks 7 = .ok (.iconst (-1), 1) := by decide +kernel
theorem d_S_blocks_8 : decode b_S_blocks 8 = .ok (.ireturn, 1) := by decide +kernel
theorem d_S_blocks_9 : decode b_S_blocks 9 = .ok (.aload_n 0, 1) := by decide +kernel
theorem d_S_blocks_10 : decode b_S_blocks 10 = .ok (.getfield 274, 3) := by decide +kernel
theorem d_S_blocks_13 : decode b_S_blocks 13 = .ok (.ifnonnull 14, 3) := by decide +kernel
theorem d_S_blocks_16 : decode b_S_blocks 16 = .ok (.aload_n 0, 1) := by decide +kernel
theorem d_S_blocks_17 : decode b_S_blocks 17 = .ok (.new 278, 3) := by decide +kernel
theorem d_S_blocks_20 : decode b_S_blocks 20 = .ok (.dup, 1) := by decide +kernel
theorem d_S_blocks_21 : decode b_S_blocks 21 = .ok (.invokespecial 280, 3) := by decide +kernel
theorem d_S_blocks_24 : decode b_S_blocks 24 = .ok (.putfield 274, 3) := by decide +kernel
theorem d_S_blocks_27 : decode b_S_blocks 27 = .ok (.aload_n 0, 1) := by decide +kernel
theorem d_S_blocks_28 : decode b_S_blocks 28 = .ok (.getfield 274, 3) := by decide +kernel
theorem d_S_blocks_31 : decode b_S_blocks 31 = .ok (.invokevirtual 281, 3) := by decide +kernel
theorem d_S_blocks_34 : decode b_S_blocks 34 = .ok (.iconst 0, 1) := by decide +kernel
theorem d_S_blocks_35 : decode b_S_blocks 35 = .ok (.istore_n 2, 1) := by decide +kernel
theorem d_S_blocks_36 : decode b_S_blocks 36 = .ok (.iload_n 2, 1) := by decide +kernel
theorem d_S_blocks_37 : decode b_S_blocks 37 = .ok (.bipush 28, 2) := by decide +kernel
theorem d_S_blocks_39 : decode b_S_blocks 39 = .ok (.if_icmp .ge 28, 3) := by decide +kernel
theorem d_S_blocks_42 : decode b_S_blocks 42 = .ok (.aload_n 0, 1) := by decide +kernel
theorem d_S_blocks_43 : decode b_S_blocks 43 = .ok (.iload_n 2, 1) := by decide +kernel
theorem d_S_blocks_44 : decode b_S_blocks 44 = .ok (.invokevirtual 248, 3) := by decide +kernel
theorem d_S_blocks_47 : decode b_S_blocks 47 = .ok (.astore_n 3, 1) := by decide +kernel
theorem d_S_blocks_48 : decode b_S_blocks 48 = .ok (.aload_n 3, 1) := by decide +kernel
theorem d_S_blocks_49 : decode b_S_blocks 49 = .ok (.ifnull 12, 3) := by decide +kernel
theorem d_S_blocks_52 : decode b_S_blocks 52 = .ok (.aload_n 0, 1) := by decide +kernel
theorem d_S_blocks_53 : decode b_S_blocks 53 = .ok (.getfield 274, 3) := by decide +kernel
theorem d_S_blocks_56 : decode b_S_blocks 56 = .ok (.aload_n 3, 1) := by decide +kernel
theorem d_S_blocks_57 : decode b_S_blocks 57 = .ok (.iload_n 1, 1) := by decide +kernel
theorem d_S_blocks_58 : decode b_S_blocks 58 = .ok (.invokevirtual 284, 3) := by decide +kernel
theorem d_S_blocks_61 : decode b_S_blocks 61 = .ok (.iinc 2 1, 3) := by decide +kernel
theorem d_S_blocks_64 : decode b_S_blocks 64 = .ok (.goto (-28), 3) := by decide +kernel
theorem d_S_blocks_67 : decode b_S_blocks 67 = .ok (.aload_n 0, 1) := by decide +kernel
theorem d_S_blocks_68 : decode b_S_blocks 68 = .ok (.getfield 274, 3) := by decide +kernel
theorem d_S_blocks_71 : decode b_S_blocks 71 = .ok (.getfield 287, 3) := by decide +kernel
theorem d_S_blocks_74 : decode b_S_blocks 74 = .ok (.ireturn, 1) := by decide +kernel
theorem d_T_init_0 : decode b_T_init 0 = .ok (.aload_n 0, 1) := by decide +kernel
theorem d_T_init_1 : decode b_T_init 1 = .ok (.invokespecial 3, 3) := by decide +kernel
theorem d_T_init_4 : decode b_T_init 4 = .ok (.aload_n 0, 1) := by decide +kernel
theorem d_T_init_5 : decode b_T_init 5 = .ok (.sipush 28672, 3) := by decide +kernel
theorem d_T_init_8 : decode b_T_init 8 = .ok (.newarray .int, 2) := by decide +kernel
theorem d_T_init_10 : decode b_T_init 10 = .ok (.putfield 9, 3) := by decide +kernel
theorem d_T_init_13 : decode b_T_init 13 = .ok (.aload_n 0, 1) := by decide +kernel
theorem d_T_init_14 : decode b_T_init 14 = .ok (.sipush 4096, 3) := by decide +kernel
theorem d_T_init_17 : decode b_T_init 17 = .ok (.newarray .int, 2) := by decide +kernel
theorem d_T_init_19 : decode b_T_init 19 = .ok (.putfield 15, 3) := by decide +kernel
theorem d_T_init_22 : decode b_T_init 22 = .ok (.return_, 1) := by decide +kernel
theorem d_T_forget_0 : decode b_T_forget 0 = .ok (.aload_n 0, 1) := by decide +kernel
theorem d_T_forget_1 : decode b_T_forget 1 = .ok (.getfield 15, 3) := by decide +kernel
theorem d_T_forget_4 : decode b_T_forget 4 = .ok (.iconst 0, 1) := by decide +kernel
theorem d_T_forget_5 : decode b_T_forget 5 = .ok (.invokestatic 18, 3) := by decide +kernel
theorem d_T_forget_8 : decode b_T_forget 8 = .ok (.aload_n 0, 1) := by decide +kernel
theorem d_T_forget_9 : decode b_T_forget 9 = .ok (.iconst 0, 1) := by decide +kernel
theorem d_T_forget_10 : decode b_T_forget 10 = .ok (.putfield 24, 3) := by decide +kernel
theorem d_T_forget_13 : decode b_T_forget 13 = .ok (.return_, 1) := by decide +kernel
theorem d_T_addAll_0 : decode b_T_addAll 0 = .ok (.iconst 0, 1) := by decide +kernel
theorem d_T_addAll_1 : decode b_T_addAll 1 = .ok (.istore_n 3, 1) := by decide +kernel
theorem d_T_addAll_2 : decode b_T_addAll 2 = .ok (.iload_n 3, 1) := by decide +kernel
theorem d_T_addAll_3 : decode b_T_addAll 3 = .ok (.bipush 32, 2) := by decide +kernel
theorem d_T_addAll_5 : decode b_T_addAll 5 = .ok (.if_icmp .ge 54, 3) := by decide +kernel
theorem d_T_addAll_8 : decode b_T_addAll 8 = .ok (.iconst 0, 1) := by decide +kernel
theorem d_T_addAll_9 : decode b_T_addAll 9 = .ok (.istore 4, 2) := by decide +kernel
theorem d_T_addAll_11 : decode b_T_addAll 11 = .ok (.iload 4, 2) := by decide +kernel
theorem d_T_addAll_13 : decode b_T_addAll 13 = .ok (.bipush 32, 2) := by decide +kernel
theorem d_T_addAll_15 : decode b_T_addAll 15 = .ok (.if_icmp .ge 38, 3) := by decide +kernel
theorem d_T_addAll_18 : decode b_T_addAll 18 = .ok (.aload_n 0, 1) := by decide +kernel
theorem d_T_addAll_19 : decode b_T_addAll 19 = .ok (.getfield 24, 3) := by decide +kernel
theorem d_T_addAll_22 : decode b_T_addAll 22 = .ok (.sipush 1792, 3) := by decide +kernel
theorem d_T_addAll_25 : decode b_T_addAll 25 = .ok (.if_icmp .ge 22, 3) := by decide +kernel
theorem d_T_addAll_28 : decode b_T_addAll 28 = .ok (.aload_n 0, 1) := by decide +kernel
theorem d_T_addAll_29 : decode b_T_addAll 29 = .ok (.aload_n 1, 1) := by decide +kernel
theorem d_T_addAll_30 : decode b_T_addAll 30 = .ok (.iload_n 2, 1) := by decide +kernel
theorem d_T_addAll_31 : decode b_T_addAll 31 = .ok (.iload 4, 2) := by decide +kernel
theorem d_T_addAll_33 : decode b_T_addAll 33 = .ok (.iload_n 3, 1) := by decide +kernel
theorem d_T_addAll_34 : decode b_T_addAll 34 = .ok (.invokestatic 28, 3) := by decide +kernel
theorem d_T_addAll_37 : decode b_T_addAll 37 = .ok (.invokevirtual 32, 3) := by decide +kernel
theorem d_T_addAll_40 : decode b_T_addAll 40 = .ok (.ifCond .eq 7, 3) := by decide +kernel
theorem d_T_addAll_43 : decode b_T_addAll 43 = .ok (.aload_n 0, 1) := by decide +kernel
theorem d_T_addAll_44 : decode b_T_addAll 44 = .ok (.invokevirtual 36, 3) := by decide +kernel
theorem d_T_addAll_47 : decode b_T_addAll 47 = .ok (.iinc 4 4, 3) := by decide +kernel
theorem d_T_addAll_50 : decode b_T_addAll 50 = .ok (.goto (-39), 3) := by decide +kernel
theorem d_T_addAll_53 : decode b_T_addAll 53 = .ok (.iinc 3 4, 3) := by decide +kernel
theorem d_T_addAll_56 : decode b_T_addAll 56 = .ok (.goto (-54), 3) := by decide +kernel
theorem d_T_addAll_59 : decode b_T_addAll 59 = .ok (.return_, 1) := by decide +kernel
theorem d_T_read_0 : decode b_T_read 0 = .ok (.iconst 0, 1) := by decide +kernel
theorem d_T_read_1 : decode b_T_read 1 = .ok (.istore_n 3, 1) := by decide +kernel
theorem d_T_read_2 : decode b_T_read 2 = .ok (.aload_n 0, 1) := by decide +kernel
theorem d_T_read_3 : decode b_T_read 3 = .ok (.getfield 24, 3) := by decide +kernel
theorem d_T_read_6 : decode b_T_read 6 = .ok (.bipush 16, 2) := by decide +kernel
theorem d_T_read_8 : decode b_T_read 8 = .ok (.imul, 1) := by decide +kernel
theorem d_T_read_9 : decode b_T_read 9 = .ok (.istore 4, 2) := by decide +kernel
theorem d_T_read_11 : decode b_T_read 11 = .ok (.iconst 0, 1) := by decide +kernel
theorem d_T_read_12 : decode b_T_read 12 = .ok (.istore 5, 2) := by decide +kernel
theorem d_T_read_14 : decode b_T_read 14 = .ok (.iload 5, 2) := by decide +kernel
theorem d_T_read_16 : decode b_T_read 16 = .ok (.bipush 16, 2) := by decide +kernel
theorem d_T_read_18 : decode b_T_read 18 = .ok (.if_icmp .ge 59, 3) := by decide +kernel
theorem d_T_read_21 : decode b_T_read 21 = .ok (.aload_n 1, 1) := by decide +kernel
theorem d_T_read_22 : decode b_T_read 22 = .ok (.iload_n 2, 1) := by decide +kernel
theorem d_T_read_23 : decode b_T_read 23 = .ok (.iload 5, 2) := by decide +kernel
theorem d_T_read_25 : decode b_T_read 25 = .ok (.iconst 4, 1) := by decide +kernel
theorem d_T_read_26 : decode b_T_read 26 = .ok (.idiv, 1) := by decide +kernel
theorem d_T_read_27 : decode b_T_read 27 = .ok (.bipush 32, 2) := by decide +kernel
theorem d_T_read_29 : decode b_T_read 29 = .ok (.imul, 1) := by decide +kernel
theorem d_T_read_30 : decode b_T_read 30 = .ok (.iadd, 1) := by decide +kernel
theorem d_T_read_31 : decode b_T_read 31 = .ok (.iload 5, 2) := by decide +kernel
theorem d_T_read_33 : decode b_T_read 33 = .ok (.iconst 4, 1) := by decide +kernel
theorem d_T_read_34 : decode b_T_read 34 = .ok (.irem, 1) := by decide +kernel
theorem d_T_read_35 : decode b_T_read 35 = .ok (.iadd, 1) := by decide +kernel
theorem d_T_read_36 : decode b_T_read 36 = .ok (.laload, 1) := by decide +kernel
theorem d_T_read_37 : decode b_T_read 37 = .ok (.invokestatic 39, 3) := by decide +kernel
theorem d_T_read_40 : decode b_T_read 40 = .ok (.istore 6, 2) := by decide +kernel
theorem d_T_read_42 : decode b_T_read 42 = .ok (.aload_n 0, 1) := by decide +kernel
theorem d_T_read_43 : decode b_T_read 43 = .ok (.getfield 9, 3) := by decide +kernel
theorem d_T_read_46 : decode b_T_read 46 = .ok (.iload 4, 2) := by decide +kernel
theorem d_T_read_48 : decode b_T_read 48 = .ok (.iload 5, 2) := by decide +kernel
theorem d_T_read_50 : decode b_T_read 50 = .ok (.iadd, 1) := by decide +kernel
theorem d_T_read_51 : decode b_T_read 51 = .ok (.iload 6, 2) := by decide +kernel
theorem d_T_read_53 : decode b_T_read 53 = .ok (.iastore, 1) := by decide +kernel
theorem d_T_read_54 : decode b_T_read 54 = .ok (.iload_n 3, 1) := by decide +kernel
theorem d_T_read_55 : decode b_T_read 55 = .ok (.ifCond .ne 10, 3) := by decide +kernel
theorem d_T_read_58 : decode b_T_read 58 = .ok (.iload 6, 2) := by decide +kernel
theorem d_T_read_60 : decode b_T_read 60 = .ok (.ldc 43, 2) := by decide +kernel
theorem d_T_read_62 : decode b_T_read 62 = .ok (.if_icmp .eq 7, 3) := by decide +kernel
theorem d_T_read_65 : decode b_T_read 65 = .ok (.iconst 1, 1) := by decide +kernel
theorem d_T_read_66 : decode b_T_read 66 = .ok (.goto 4, 3) := by decide +kernel
theorem d_T_read_69 : decode b_T_read 69 = .ok (.iconst 0, 1) := by decide +kernel
theorem d_T_read_70 : decode b_T_read 70 = .ok (.istore_n 3, 1) := by decide +kernel
theorem d_T_read_71 : decode b_T_read 71 = .ok (.iinc 5 1, 3) := by decide +kernel
theorem d_T_read_74 : decode b_T_read 74 = .ok (.goto (-60), 3) := by decide +kernel
theorem d_T_read_77 : decode b_T_read 77 = .ok (.iload_n 3, 1) := by decide +kernel
theorem d_T_read_78 : decode b_T_read 78 = .ok (.ireturn, 1) := by decide +kernel
theorem d_T_keepIfNew_0 : decode b_T_keepIfNew 0 = .ok (.aload_n 0, 1) := by decide +kernel
theorem d_T_keepIfNew_1 : decode b_T_keepIfNew 1 = .ok (.aload_n 0, 1) := by decide +kernel
theorem d_T_keepIfNew_2 : decode b_T_keepIfNew 2 = .ok (.getfield 24, 3) := by decide +kernel
theorem d_T_keepIfNew_5 : decode b_T_keepIfNew 5 = .ok (.invokevirtual 44, 3) := by decide +kernel
theorem d_T_keepIfNew_8 : decode b_T_keepIfNew 8 = .ok (.bipush 20, 2) := by decide +kernel
theorem d_T_keepIfNew_10 : decode b_T_keepIfNew 10 = .ok (.iushr, 1) := by decide +kernel
theorem d_T_keepIfNew_11 : decode b_T_keepIfNew 11 = .ok (.istore_n 1, 1) := by decide +kernel
theorem d_T_keepIfNew_12 : decode b_T_keepIfNew 12 = .ok (.iconst 0, 1) := by decide +kernel
theorem d_T_keepIfNew_13 : decode b_T_keepIfNew 13 = .ok (.istore_n 2, 1) := by decide +kernel
theorem d_T_keepIfNew_14 : decode b_T_keepIfNew 14 = .ok (.iload_n 2, 1) := by decide +kernel
theorem d_T_keepIfNew_15 : decode b_T_keepIfNew 15 = .ok (.sipush 4096, 3) := by decide +kernel
theorem d_T_keepIfNew_18 : decode b_T_keepIfNew 18 = .ok (.if_icmp .ge 67, 3) := by decide +kernel
theorem d_T_keepIfNew_21 : decode b_T_keepIfNew 21 = .ok (.aload_n 0, 1) := by decide +kernel
theorem d_T_keepIfNew_22 : decode b_T_keepIfNew 22 = .ok (.getfield 15, 3) := by decide +kernel
theorem d_T_keepIfNew_25 : decode b_T_keepIfNew 25 = .ok (.iload_n 1, 1) := by decide +kernel
theorem d_T_keepIfNew_26 : decode b_T_keepIfNew 26 = .ok (.iaload, 1) := by decide +kernel
theorem d_T_keepIfNew_27 : decode b_T_keepIfNew 27 = .ok (.ifCond .ne 24, 3) := by decide +kernel
theorem d_T_keepIfNew_30 : decode b_T_keepIfNew 30 = .ok (.aload_n 0, 1) := by decide +kernel
theorem d_T_keepIfNew_31 : decode b_T_keepIfNew 31 = .ok (.dup, 1) := by decide +kernel
theorem d_T_keepIfNew_32 : decode b_T_keepIfNew 32 = .ok (.getfield 24, 3) := by decide +kernel
theorem d_T_keepIfNew_35 : decode b_T_keepIfNew 35 = .ok (.iconst 1, 1) := by decide +kernel
theorem d_T_keepIfNew_36 : decode b_T_keepIfNew 36 = .ok (.iadd, 1) := by decide +kernel
theorem d_T_keepIfNew_37 : decode b_T_keepIfNew 37 = .ok (.putfield 24, 3) := by decide +kernel
theorem d_T_keepIfNew_40 : decode b_T_keepIfNew 40 = .ok (.aload_n 0, 1) := by decide +kernel
theorem d_T_keepIfNew_41 : decode b_T_keepIfNew 41 = .ok (.getfield 15, 3) := by decide +kernel
theorem d_T_keepIfNew_44 : decode b_T_keepIfNew 44 = .ok (.iload_n 1, 1) := by decide +kernel
theorem d_T_keepIfNew_45 : decode b_T_keepIfNew 45 = .ok (.aload_n 0, 1) := by decide +kernel
theorem d_T_keepIfNew_46 : decode b_T_keepIfNew 46 = .ok (.getfield 24, 3) := by decide +kernel
theorem d_T_keepIfNew_49 : decode b_T_keepIfNew 49 = .ok (.iastore, 1) := by decide +kernel
theorem d_T_keepIfNew_50 : decode b_T_keepIfNew 50 = .ok (.return_, 1) := by decide +kernel
theorem d_T_keepIfNew_51 : decode b_T_keepIfNew 51 = .ok (.aload_n 0, 1) := by decide +kernel
theorem d_T_keepIfNew_52 : decode b_T_keepIfNew 52 = .ok (.aload_n 0, 1) := by decide +kernel
theorem d_T_keepIfNew_53 : decode b_T_keepIfNew 53 = .ok (.getfield 15, 3) := by decide +kernel
theorem d_T_keepIfNew_56 : decode b_T_keepIfNew 56 = .ok (.iload_n 1, 1) := by decide +kernel
theorem d_T_keepIfNew_57 : decode b_T_keepIfNew 57 = .ok (.iaload, 1) := by decide +kernel
theorem d_T_keepIfNew_58 : decode b_T_keepIfNew 58 = .ok (.iconst 1, 1) := by decide +kernel
theorem d_T_keepIfNew_59 : decode b_T_keepIfNew 59 = .ok (.isub, 1) := by decide +kernel
theorem d_T_keepIfNew_60 : decode b_T_keepIfNew 60 = .ok (.aload_n 0, 1) := by decide +kernel
theorem d_T_keepIfNew_61 : decode b_T_keepIfNew 61 = .ok (.getfield 24, 3) := by decide +kernel
theorem d_T_keepIfNew_64 : decode b_T_keepIfNew 64 = .ok (.invokevirtual 48, 3) := by decide +kernel
theorem d_T_keepIfNew_67 : decode b_T_keepIfNew 67 = .ok (.ifCond .eq 4, 3) := by decide +kernel
theorem d_T_keepIfNew_70 : decode b_T_keepIfNew 70 = .ok (.return_, 1) := by decide +kernel
theorem d_T_keepIfNew_71 : decode b_T_keepIfNew 71 = .ok (.iload_n 1, 1) := by decide +kernel
theorem d_T_keepIfNew_72 : decode b_T_keepIfNew 72 = .ok (.iconst 1, 1) := by decide +kernel
theorem d_T_keepIfNew_73 : decode b_T_keepIfNew 73 = .ok (.iadd, 1) := by decide +kernel
theorem d_T_keepIfNew_74 : decode b_T_keepIfNew 74 = .ok (.sipush 4096, 3) := by decide +kernel
theorem d_T_keepIfNew_77 : decode b_T_keepIfNew 77 = .ok (.irem, 1) := by decide +kernel
theorem d_T_keepIfNew_78 : decode b_T_keepIfNew 78 = .ok (.istore_n 1, 1) := by decide +kernel
theorem d_T_keepIfNew_79 : decode b_T_keepIfNew 79 = .ok (.iinc 2 1, 3) := by decide +kernel
theorem d_T_keepIfNew_82 : decode b_T_keepIfNew 82 = .ok (.goto (-68), 3) := by decide +kernel
theorem d_T_keepIfNew_85 : decode b_T_keepIfNew 85 = .ok (.return_, 1) := by decide +kernel
theorem d_T_hash_0 : decode b_T_hash 0 = .ok (.iconst 0, 1) := by decide +kernel
theorem d_T_hash_1 : decode b_T_hash 1 = .ok (.istore_n 2, 1) := by decide +kernel
theorem d_T_hash_2 : decode b_T_hash 2 = .ok (.iload_n 1, 1) := by decide +kernel
theorem d_T_hash_3 : decode b_T_hash 3 = .ok (.bipush 16, 2) := by decide +kernel
theorem d_T_hash_5 : decode b_T_hash 5 = .ok (.imul, 1) := by decide +kernel
theorem d_T_hash_6 : decode b_T_hash 6 = .ok (.istore_n 3, 1) := by decide +kernel
theorem d_T_hash_7 : decode b_T_hash 7 = .ok (.iconst 0, 1) := by decide +kernel
theorem d_T_hash_8 : decode b_T_hash 8 = .ok (.istore 4, 2) := by decide +kernel
theorem d_T_hash_10 : decode b_T_hash 10 = .ok (.iload 4, 2) := by decide +kernel
theorem d_T_hash_12 : decode b_T_hash 12 = .ok (.bipush 16, 2) := by decide +kernel
theorem d_T_hash_14 : decode b_T_hash 14 = .ok (.if_icmp .ge 31, 3) := by decide +kernel
theorem d_T_hash_17 : decode b_T_hash 17 = .ok (.iload_n 2, 1) := by decide +kernel
theorem d_T_hash_18 : decode b_T_hash 18 = .ok (.aload_n 0, 1) := by decide +kernel
theorem d_T_hash_19 : decode b_T_hash 19 = .ok (.getfield 9, 3) := by decide +kernel
theorem d_T_hash_22 : decode b_T_hash 22 = .ok (.iload_n 3, 1) := by decide +kernel
theorem d_T_hash_23 : decode b_T_hash 23 = .ok (.iload 4, 2) := by decide +kernel
theorem d_T_hash_25 : decode b_T_hash 25 = .ok (.iadd, 1) := by decide +kernel
theorem d_T_hash_26 : decode b_T_hash 26 = .ok (.iaload, 1) := by decide +kernel
theorem d_T_hash_27 : decode b_T_hash 27 = .ok (.ixor, 1) := by decide +kernel
theorem d_T_hash_28 : decode b_T_hash 28 = .ok (.ldc 52, 2) := by decide +kernel
theorem d_T_hash_30 : decode b_T_hash 30 = .ok (.imul, 1) := by decide +kernel
theorem d_T_hash_31 : decode b_T_hash 31 = .ok (.istore_n 2, 1) := by decide +kernel
theorem d_T_hash_32 : decode b_T_hash 32 = .ok (.iload_n 2, 1) := by decide +kernel
theorem d_T_hash_33 : decode b_T_hash 33 = .ok (.iload_n 2, 1) := by decide +kernel
theorem d_T_hash_34 : decode b_T_hash 34 = .ok (.bipush 15, 2) := by decide +kernel
theorem d_T_hash_36 : decode b_T_hash 36 = .ok (.iushr, 1) := by decide +kernel
theorem d_T_hash_37 : decode b_T_hash 37 = .ok (.ixor, 1) := by decide +kernel
theorem d_T_hash_38 : decode b_T_hash 38 = .ok (.istore_n 2, 1) := by decide +kernel
theorem d_T_hash_39 : decode b_T_hash 39 = .ok (.iinc 4 1, 3) := by decide +kernel
theorem d_T_hash_42 : decode b_T_hash 42 = .ok (.goto (-32), 3) := by decide +kernel
theorem d_T_hash_45 : decode b_T_hash 45 = .ok (.iload_n 2, 1) := by decide +kernel
theorem d_T_hash_46 : decode b_T_hash 46 = .ok (.ldc 52, 2) := by decide +kernel
theorem d_T_hash_48 : decode b_T_hash 48 = .ok (.imul, 1) := by decide +kernel
theorem d_T_hash_49 : decode b_T_hash 49 = .ok (.ireturn, 1) := by decide +kernel
theorem d_T_isSame_0 : decode b_T_isSame 0 = .ok (.iload_n 1, 1) := by decide +kernel
theorem d_T_isSame_1 : decode b_T_isSame 1 = .ok (.bipush 16, 2) := by decide +kernel
theorem d_T_isSame_3 : decode b_T_isSame 3 = .ok (.imul, 1) := by decide +kernel
theorem d_T_isSame_4 : decode b_T_isSame 4 = .ok (.istore_n 3, 1) := by decide +kernel
theorem d_T_isSame_5 : decode b_T_isSame 5 = .ok (.iload_n 2, 1) := by decide +kernel
theorem d_T_isSame_6 : decode b_T_isSame 6 = .ok (.bipush 16, 2) := by decide +kernel
theorem d_T_isSame_8 : decode b_T_isSame 8 = .ok (.imul, 1) := by decide +kernel
theorem d_T_isSame_9 : decode b_T_isSame 9 = .ok (.istore 4, 2) := by decide +kernel
theorem d_T_isSame_11 : decode b_T_isSame 11 = .ok (.iconst 0, 1) := by decide +kernel
theorem d_T_isSame_12 : decode b_T_isSame 12 = .ok (.istore 5, 2) := by decide +kernel
theorem d_T_isSame_14 : decode b_T_isSame 14 = .ok (.iload 5, 2) := by decide +kernel
theorem d_T_isSame_16 : decode b_T_isSame 16 = .ok (.bipush 16, 2) := by decide +kernel
theorem d_T_isSame_18 : decode b_T_isSame 18 = .ok (.if_icmp .ge 33, 3) := by decide +kernel
theorem d_T_isSame_21 : decode b_T_isSame 21 = .ok (.aload_n 0, 1) := by decide +kernel
theorem d_T_isSame_22 : decode b_T_isSame 22 = .ok (.getfield 9, 3) := by decide +kernel
theorem d_T_isSame_25 : decode b_T_isSame 25 = .ok (.iload_n 3, 1) := by decide +kernel
theorem d_T_isSame_26 : decode b_T_isSame 26 = .ok (.iload 5, 2) := by decide +kernel
theorem d_T_isSame_28 : decode b_T_isSame 28 = .ok (.iadd, 1) := by decide +kernel
theorem d_T_isSame_29 : decode b_T_isSame 29 = .ok (.iaload, 1) := by decide +kernel
theorem d_T_isSame_30 : decode b_T_isSame 30 = .ok (.aload_n 0, 1) := by decide +kernel
theorem d_T_isSame_31 : decode b_T_isSame 31 = .ok (.getfield 9, 3) := by decide +kernel
theorem d_T_isSame_34 : decode b_T_isSame 34 = .ok (.iload 4, 2) := by decide +kernel
theorem d_T_isSame_36 : decode b_T_isSame 36 = .ok (.iload 5, 2) := by decide +kernel
theorem d_T_isSame_38 : decode b_T_isSame 38 = .ok (.iadd, 1) := by decide +kernel
theorem d_T_isSame_39 : decode b_T_isSame 39 = .ok (.iaload, 1) := by decide +kernel
theorem d_T_isSame_40 : decode b_T_isSame 40 = .ok (.if_icmp .eq 5, 3) := by decide +kernel
theorem d_T_isSame_43 : decode b_T_isSame 43 = .ok (.iconst 0, 1) := by decide +kernel
theorem d_T_isSame_44 : decode b_T_isSame 44 = .ok (.ireturn, 1) := by decide +kernel
theorem d_T_isSame_45 : decode b_T_isSame 45 = .ok (.iinc 5 1, 3) := by decide +kernel
theorem d_T_isSame_48 : decode b_T_isSame 48 = .ok (.goto (-34), 3) := by decide +kernel
theorem d_T_isSame_51 : decode b_T_isSame 51 = .ok (.iconst 1, 1) := by decide +kernel
theorem d_T_isSame_52 : decode b_T_isSame 52 = .ok (.ireturn, 1) := by decide +kernel
theorem d_S_branch_0 : decode b_S_branch 0 = .ok (.aload_n 0, 1) := by decide +kernel
theorem d_S_branch_1 : decode b_S_branch 1 = .ok (.iload_n 2, 1) := by decide +kernel
theorem d_S_branch_2 : decode b_S_branch 2 = .ok (.invokevirtual 77, 3) := by decide +kernel
theorem d_S_branch_5 : decode b_S_branch 5 = .ok (.astore_n 3, 1) := by decide +kernel
theorem d_S_branch_6 : decode b_S_branch 6 = .ok (.iload_n 1, 1) := by decide +kernel
theorem d_S_branch_7 : decode b_S_branch 7 = .ok (.ifCond .lt 12, 3) := by decide +kernel
theorem d_S_branch_10 : decode b_S_branch 10 = .ok (.iload_n 1, 1) := by decide +kernel
theorem d_S_branch_11 : decode b_S_branch 11 = .ok (.iconst 4, 1) := by decide +kernel
theorem d_S_branch_12 : decode b_S_branch 12 = .ok (.if_icmp .ge 7, 3) := by decide +kernel
theorem d_S_branch_15 : decode b_S_branch 15 = .ok (.aload_n 3, 1) := by decide +kernel
theorem d_S_branch_16 : decode b_S_branch 16 = .ok (.ifnonnull 11, 3) := by decide +kernel
theorem d_S_branch_19 : decode b_S_branch 19 = .ok (.new 81, 3) := by decide +kernel
theorem d_S_branch_22 : decode b_S_branch 22 = .ok (.dup, 1) := by decide +kernel
theorem d_S_branch_23 : decode b_S_branch 23 = .ok (.invokespecial 83, 3) := by decide +kernel
theorem d_S_branch_26 : decode b_S_branch 26 = .ok (.athrow, 1) := by decide +kernel
theorem d_S_branch_27 : decode b_S_branch 27 = .ok (.aload_n 0, 1) := by decide +kernel
theorem d_S_branch_28 : decode b_S_branch 28 = .ok (.iload_n 1, 1) := by decide +kernel
theorem d_S_branch_29 : decode b_S_branch 29 = .ok (.invokevirtual 84, 3) := by decide +kernel
theorem d_S_branch_32 : decode b_S_branch 32 = .ok (.ifnull 11, 3) := by decide +kernel
theorem d_S_branch_35 : decode b_S_branch 35 = .ok (.new 88, 3) := by decide +kernel
theorem d_S_branch_38 : decode b_S_branch 38 = .ok (.dup, 1) := by decide +kernel
theorem d_S_branch_39 : decode b_S_branch 39 = .ok (.invokespecial 90, 3) := by decide +kernel
theorem d_S_branch_42 : decode b_S_branch 42 = .ok (.athrow, 1) := by decide +kernel
theorem d_S_branch_43 : decode b_S_branch 43 = .ok (.aload_n 0, 1) := by decide +kernel
theorem d_S_branch_44 : decode b_S_branch 44 = .ok (.getfield 21, 3) := by decide +kernel
theorem d_S_branch_47 : decode b_S_branch 47 = .ok (.iload_n 1, 1) := by decide +kernel
theorem d_S_branch_48 : decode b_S_branch 48 = .ok (.aaload, 1) := by decide +kernel
theorem d_S_branch_49 : decode b_S_branch 49 = .ok (.ifnonnull 16, 3) := by decide +kernel
theorem d_S_branch_52 : decode b_S_branch 52 = .ok (.aload_n 0, 1) := by decide +kernel
theorem d_S_branch_53 : decode b_S_branch 53 = .ok (.getfield 21, 3) := by decide +kernel
theorem d_S_branch_56 : decode b_S_branch 56 = .ok (.iload_n 1, 1) := by decide +kernel
theorem d_S_branch_57 : decode b_S_branch 57 = .ok (.new 19, 3) := by decide +kernel
theorem d_S_branch_60 : decode b_S_branch 60 = .ok (.dup, 1) := by decide +kernel
theorem d_S_branch_61 : decode b_S_branch 61 = .ok (.invokespecial 58, 3) := by decide +kernel
theorem d_S_branch_64 : decode b_S_branch 64 = .ok (.aastore, 1) := by decide +kernel
theorem d_S_branch_65 : decode b_S_branch 65 = .ok (.aload_n 0, 1) := by decide +kernel
theorem d_S_branch_66 : decode b_S_branch 66 = .ok (.getfield 21, 3) := by decide +kernel
theorem d_S_branch_69 : decode b_S_branch 69 = .ok (.iload_n 1, 1) := by decide +kernel
theorem d_S_branch_70 : decode b_S_branch 70 = .ok (.aaload, 1) := by decide +kernel
theorem d_S_branch_71 : decode b_S_branch 71 = .ok (.iload_n 2, 1) := by decide +kernel
theorem d_S_branch_72 : decode b_S_branch 72 = .ok (.aload_n 3, 1) := by decide +kernel
theorem d_S_branch_73 : decode b_S_branch 73 = .ok (.getfield 91, 3) := by decide +kernel
theorem d_S_branch_76 : decode b_S_branch 76 = .ok (.invokevirtual 59, 3) := by decide +kernel
theorem d_S_branch_79 : decode b_S_branch 79 = .ok (.return_, 1) := by decide +kernel
theorem d_S_paint_0 : decode b_S_paint 0 = .ok (.aload_n 0, 1) := by decide +kernel
theorem d_S_paint_1 : decode b_S_paint 1 = .ok (.iload_n 1, 1) := by decide +kernel
theorem d_S_paint_2 : decode b_S_paint 2 = .ok (.iload_n 2, 1) := by decide +kernel
theorem d_S_paint_3 : decode b_S_paint 3 = .ok (.invokevirtual 109, 3) := by decide +kernel
theorem d_S_paint_6 : decode b_S_paint 6 = .ok (.astore 4, 2) := by decide +kernel
theorem d_S_paint_8 : decode b_S_paint 8 = .ok (.iload_n 3, 1) := by decide +kernel
theorem d_S_paint_9 : decode b_S_paint 9 = .ok (.invokestatic 113, 3) := by decide +kernel
theorem d_S_paint_12 : decode b_S_paint 12 = .ok (.aload_n 0, 1) := by decide +kernel
theorem d_S_paint_13 : decode b_S_paint 13 = .ok (.getfield 106, 3) := by decide +kernel
theorem d_S_paint_16 : decode b_S_paint 16 = .ok (.istore 5, 2) := by decide +kernel
theorem d_S_paint_18 : decode b_S_paint 18 = .ok (.iload 5, 2) := by decide +kernel
theorem d_S_paint_20 : decode b_S_paint 20 = .ok (.aload_n 0, 1) := by decide +kernel
theorem d_S_paint_21 : decode b_S_paint 21 = .ok (.getfield 106, 3) := by decide +kernel
theorem d_S_paint_24 : decode b_S_paint 24 = .ok (.aload_n 0, 1) := by decide +kernel
theorem d_S_paint_25 : decode b_S_paint 25 = .ok (.getfield 66, 3) := by decide +kernel
theorem d_S_paint_28 : decode b_S_paint 28 = .ok (.iadd, 1) := by decide +kernel
theorem d_S_paint_29 : decode b_S_paint 29 = .ok (.if_icmp .ge 49, 3) := by decide +kernel
theorem d_S_paint_32 : decode b_S_paint 32 = .ok (.aload_n 0, 1) := by decide +kernel
theorem d_S_paint_33 : decode b_S_paint 33 = .ok (.getfield 103, 3) := by decide +kernel
theorem d_S_paint_36 : decode b_S_paint 36 = .ok (.istore 6, 2) := by decide +kernel
theorem d_S_paint_38 : decode b_S_paint 38 = .ok (.iload 6, 2) := by decide +kernel
theorem d_S_paint_40 : decode b_S_paint 40 = .ok (.aload_n 0, 1) := by decide +kernel
theorem d_S_paint_41 : decode b_S_paint 41 = .ok (.getfield 103, 3) := by decide +kernel
theorem d_S_paint_44 : decode b_S_paint 44 = .ok (.aload_n 0, 1) := by decide +kernel
theorem d_S_paint_45 : decode b_S_paint 45 = .ok (.getfield 63, 3) := by decide +kernel
theorem d_S_paint_48 : decode b_S_paint 48 = .ok (.iadd, 1) := by decide +kernel
theorem d_S_paint_49 : decode b_S_paint 49 = .ok (.if_icmp .ge 23, 3) := by decide +kernel
theorem d_S_paint_52 : decode b_S_paint 52 = .ok (.aload 4, 2) := by decide +kernel
theorem d_S_paint_54 : decode b_S_paint 54 = .ok (.iload_n 2, 1) := by decide +kernel
theorem d_S_paint_55 : decode b_S_paint 55 = .ok (.iload 6, 2) := by decide +kernel
theorem d_S_paint_57 : decode b_S_paint 57 = .ok (.iload 5, 2) := by decide +kernel
theorem d_S_paint_59 : decode b_S_paint 59 = .ok (.invokestatic 117, 3) := by decide +kernel
theorem d_S_paint_62 : decode b_S_paint 62 = .ok (.iload_n 3, 1) := by decide +kernel
theorem d_S_paint_63 : decode b_S_paint 63 = .ok (.invokevirtual 121, 3) := by decide +kernel
theorem d_S_paint_66 : decode b_S_paint 66 = .ok (.iinc 6 1, 3) := by decide +kernel
theorem d_S_paint_69 : decode b_S_paint 69 = .ok (.goto (-31), 3) := by decide +kernel
theorem d_S_paint_72 : decode b_S_paint 72 = .ok (.iinc 5 1, 3) := by decide +kernel
theorem d_S_paint_75 : decode b_S_paint 75 = .ok (.goto (-57), 3) := by decide +kernel
theorem d_S_paint_78 : decode b_S_paint 78 = .ok (.return_, 1) := by decide +kernel
theorem d_S_branchToEdit_0 : decode b_S_branchToEdit 0 = .ok (.aload_n 0, 1) := by decide +kernel
theorem d_S_branchToEdit_1 : decode b_S_branchToEdit 1 = .ok (.iload_n 1, 1) := by decide +kernel
theorem d_S_branchToEdit_2 : decode b_S_branchToEdit 2 = .ok (.invokevirtual 84, 3) := by decide +kernel
theorem d_S_branchToEdit_5 : decode b_S_branchToEdit 5 = .ok (.astore_n 3, 1) := by decide +kernel
theorem d_S_branchToEdit_6 : decode b_S_branchToEdit 6 = .ok (.aload_n 3, 1) := by decide +kernel
theorem d_S_branchToEdit_7 : decode b_S_branchToEdit 7 = .ok (.ifnull 10, 3) := by decide +kernel
theorem d_S_branchToEdit_10 : decode b_S_branchToEdit 10 = .ok (.iload_n 2, 1) := by decide +kernel
theorem d_S_branchToEdit_11 : decode b_S_branchToEdit 11 = .ok (.invokestatic 73, 3) := by decide +kernel
theorem d_S_branchToEdit_14 : decode b_S_branchToEdit 14 = .ok (.ifCond .ne 11, 3) := by decide +kernel
theorem d_S_branchToEdit_17 : decode b_S_branchToEdit 17 = .ok (.new 81, 3) := by decide +kernel
theorem d_S_branchToEdit_20 : decode b_S_branchToEdit 20 = .ok (.dup, 1) := by decide +kernel
theorem d_S_branchToEdit_21 : decode b_S_branchToEdit 21 = .ok (.invokespecial 83, 3) := by decide +kernel
theorem d_S_branchToEdit_24 : decode b_S_branchToEdit 24 = .ok (.athrow, 1) := by decide +kernel
theorem d_S_branchToEdit_25 : decode b_S_branchToEdit 25 = .ok (.aload_n 3, 1) := by decide +kernel
theorem d_S_branchToEdit_26 : decode b_S_branchToEdit 26 = .ok (.areturn, 1) := by decide +kernel
theorem d_S_refuseUnlessValue_0 : decode b_S_refuseUnlessValue 0 = .ok (.iload_n 0, 1) := by decide +kernel
theorem d_S_refuseUnlessValue_1 : decode b_S_refuseUnlessValue 1 = .ok (.invokestatic 139, 3) := by decide +kernel
theorem d_S_refuseUnlessValue_4 : decode b_S_refuseUnlessValue 4 = .ok (.ifCond .ne 11, 3) := by decide +kernel
theorem d_S_refuseUnlessValue_7 : decode b_S_refuseUnlessValue 7 = .ok (.new 81, 3) := by decide +kernel
theorem d_S_refuseUnlessValue_10 : decode b_S_refuseUnlessValue 10 = .ok (.dup, 1) := by decide +kernel
theorem d_S_refuseUnlessValue_11 : decode b_S_refuseUnlessValue 11 = .ok (.invokespecial 83, 3) := by decide +kernel
theorem d_S_refuseUnlessValue_14 : decode b_S_refuseUnlessValue 14 = .ok (.athrow, 1) := by decide +kernel
theorem d_S_refuseUnlessValue_15 : decode b_S_refuseUnlessValue 15 = .ok (.return_, 1) := by decide +kernel
theorem d_B_set_0 : decode b_B_set 0 = .ok (.aload_n 0, 1) := by decide +kernel
theorem d_B_set_1 : decode b_B_set 1 = .ok (.getfield 9, 3) := by decide +kernel
theorem d_B_set_4 : decode b_B_set 4 = .ok (.iload_n 1, 1) := by decide +kernel
theorem d_B_set_5 : decode b_B_set 5 = .ok (.iload_n 2, 1) := by decide +kernel
theorem d_B_set_6 : decode b_B_set 6 = .ok (.ldc 49, 2) := by decide +kernel
theorem d_B_set_8 : decode b_B_set 8 = .ok (.if_icmp .ne 9, 3) := by decide +kernel
theorem d_B_set_11 : decode b_B_set 11 = .ok (.ldc2_w 50, 3) := by decide +kernel
theorem d_B_set_14 : decode b_B_set 14 = .ok (.goto 13, 3) := by decide +kernel
theorem d_B_set_17 : decode b_B_set 17 = .ok (.iload_n 2, 1) := by decide +kernel
theorem d_B_set_18 : decode b_B_set 18 = .ok (.bipush 24, 2) := by decide +kernel
theorem d_B_set_20 : decode b_B_set 20 = .ok (.iload_n 1, 1) := by decide +kernel
theorem d_B_set_21 : decode b_B_set 21 = .ok (.invokestatic 52, 3) := by decide +kernel
theorem d_B_set_24 : decode b_B_set 24 = .ok (.invokestatic 56, 3) := by decide +kernel
theorem d_B_set_27 : decode b_B_set 27 = .ok (.lastore, 1) := by decide +kernel
theorem d_B_set_28 : decode b_B_set 28 = .ok (.return_, 1) := by decide +kernel
theorem d_S_originOf_0 : decode b_S_originOf 0 = .ok (.iload_n 0, 1) := by decide +kernel
theorem d_S_originOf_1 : decode b_S_originOf 1 = .ok (.bipush 12, 2) := by decide +kernel
theorem d_S_originOf_3 : decode b_S_originOf 3 = .ok (.ishl, 1) := by decide +kernel
theorem d_S_originOf_4 : decode b_S_originOf 4 = .ok (.iload_n 1, 1) := by decide +kernel
theorem d_S_originOf_5 : decode b_S_originOf 5 = .ok (.ior, 1) := by decide +kernel
theorem d_S_originOf_6 : decode b_S_originOf 6 = .ok (.ireturn, 1) := by decide +kernel
theorem d_S_cellOf_0 : decode b_S_cellOf 0 = .ok (.iload_n 0, 1) := by decide +kernel
theorem d_S_cellOf_1 : decode b_S_cellOf 1 = .ok (.i2l, 1) := by decide +kernel
theorem d_S_cellOf_2 : decode b_S_cellOf 2 = .ok (.bipush 32, 2) := by decide +kernel
theorem d_S_cellOf_4 : decode b_S_cellOf 4 = .ok (.lshl, 1) := by decide +kernel
theorem d_S_cellOf_5 : decode b_S_cellOf 5 = .ok (.iload_n 1, 1) := by decide +kernel
theorem d_S_cellOf_6 : decode b_S_cellOf 6 = .ok (.i2l, 1) := by decide +kernel
theorem d_S_cellOf_7 : decode b_S_cellOf 7 = .ok (.lor, 1) := by decide +kernel
theorem d_S_cellOf_8 : decode b_S_cellOf 8 = .ok (.lreturn, 1) := by decide +kernel
theorem d_S_polygon_0 : decode b_S_polygon 0 = .ok (.aload_n 0, 1) := by decide +kernel
theorem d_S_polygon_1 : decode b_S_polygon 1 = .ok (.iload_n 1, 1) := by decide +kernel
theorem d_S_polygon_2 : decode b_S_polygon 2 = .ok (.iload_n 2, 1) := by decide +kernel
theorem d_S_polygon_3 : decode b_S_polygon 3 = .ok (.invokevirtual 109, 3) := by decide +kernel
theorem d_S_polygon_6 : decode b_S_polygon 6 = .ok (.astore 5, 2) := by decide +kernel
theorem d_S_polygon_8 : decode b_S_polygon 8 = .ok (.iload 4, 2) := by decide +kernel
theorem d_S_polygon_10 : decode b_S_polygon 10 = .ok (.invokestatic 113, 3) := by decide +kernel
theorem d_S_polygon_13 : decode b_S_polygon 13 = .ok (.iload_n 3, 1) := by decide +kernel
theorem d_S_polygon_14 : decode b_S_polygon 14 = .ok (.iconst 3, 1) := by decide +kernel
theorem d_S_polygon_15 : decode b_S_polygon 15 = .ok (.if_icmp .lt 9, 3) := by decide +kernel
theorem d_S_polygon_18 : decode b_S_polygon 18 = .ok (.iload_n 3, 1) := by decide +kernel
theorem d_S_polygon_19 : decode b_S_polygon 19 = .ok (.bipush 6, 2) := by decide +kernel
theorem d_S_polygon_21 : decode b_S_polygon 21 = .ok (.if_icmp .le 11, 3) := by decide +kernel
theorem d_S_polygon_24 : decode b_S_polygon 24 = .ok (.new 81, 3) := by decide +kernel
theorem d_S_polygon_27 : decode b_S_polygon 27 = .ok (.dup, 1) := by decide +kernel
theorem d_S_polygon_28 : decode b_S_polygon 28 = .ok (.invokespecial 83, 3) := by decide +kernel
theorem d_S_polygon_31 : decode b_S_polygon 31 = .ok (.athrow, 1) := by decide +kernel
theorem d_S_polygon_32 : decode b_S_polygon 32 = .ok (.iconst 0, 1) := by decide +kernel
theorem d_S_polygon_33 : decode b_S_polygon 33 = .ok (.istore 6, 2) := by decide +kernel
theorem d_S_polygon_35 : decode b_S_polygon 35 = .ok (.iload 6, 2) := by decide +kernel
theorem d_S_polygon_37 : decode b_S_polygon 37 = .ok (.bipush 32, 2) := by decide +kernel
theorem d_S_polygon_39 : decode b_S_polygon 39 = .ok (.if_icmp .ge 52, 3) := by decide +kernel
theorem d_S_polygon_42 : decode b_S_polygon 42 = .ok (.iconst 0, 1) := by decide +kernel
theorem d_S_polygon_43 : decode b_S_polygon 43 = .ok (.istore 7, 2) := by decide +kernel
theorem d_S_polygon_45 : decode b_S_polygon 45 = .ok (.iload 7, 2) := by decide +kernel
theorem d_S_polygon_47 : decode b_S_polygon 47 = .ok (.bipush 32, 2) := by decide +kernel
theorem d_S_polygon_49 : decode b_S_polygon 49 = .ok (.if_icmp .ge 36, 3) := by decide +kernel
theorem d_S_polygon_52 : decode b_S_polygon 52 = .ok (.aload_n 0, 1) := by decide +kernel
theorem d_S_polygon_53 : decode b_S_polygon 53 = .ok (.iload_n 3, 1) := by decide +kernel
theorem d_S_polygon_54 : decode b_S_polygon 54 = .ok (.iload 7, 2) := by decide +kernel
theorem d_S_polygon_56 : decode b_S_polygon 56 = .ok (.iload 6, 2) := by decide +kernel
theorem d_S_polygon_58 : decode b_S_polygon 58 = .ok (.invokevirtual 128, 3) := by decide +kernel
theorem d_S_polygon_61 : decode b_S_polygon 61 = .ok (.ifCond .eq 18, 3) := by decide +kernel
theorem d_S_polygon_64 : decode b_S_polygon 64 = .ok (.aload 5, 2) := by decide +kernel
theorem d_S_polygon_66 : decode b_S_polygon 66 = .ok (.iload_n 2, 1) := by decide +kernel
theorem d_S_polygon_67 : decode b_S_polygon 67 = .ok (.iload 7, 2) := by decide +kernel
theorem d_S_polygon_69 : decode b_S_polygon 69 = .ok (.iload 6, 2) := by decide +kernel
theorem d_S_polygon_71 : decode b_S_polygon 71 = .ok (.invokestatic 117, 3) := by decide +kernel
theorem d_S_polygon_74 : decode b_S_polygon 74 = .ok (.iload 4, 2) := by decide +kernel
theorem d_S_polygon_76 : decode b_S_polygon 76 = .ok (.invokevirtual 121, 3) := by decide +kernel
theorem d_S_polygon_79 : decode b_S_polygon 79 = .ok (.iinc 7 1, 3) := by decide +kernel
theorem d_S_polygon_82 : decode b_S_polygon 82 = .ok (.goto (-37), 3) := by decide +kernel
theorem d_S_polygon_85 : decode b_S_polygon 85 = .ok (.iinc 6 1, 3) := by decide +kernel
theorem d_S_polygon_88 : decode b_S_polygon 88 = .ok (.goto (-53), 3) := by decide +kernel
theorem d_S_polygon_91 : decode b_S_polygon 91 = .ok (.return_, 1) := by decide +kernel
theorem d_S_isInside_0 : decode b_S_isInside 0 = .ok (.iconst 0, 1) := by decide +kernel
theorem d_S_isInside_1 : decode b_S_isInside 1 = .ok (.istore 4, 2) := by decide +kernel
theorem d_S_isInside_3 : decode b_S_isInside 3 = .ok (.iconst 0, 1) := by decide +kernel
theorem d_S_isInside_4 : decode b_S_isInside 4 = .ok (.istore 5, 2) := by decide +kernel
theorem d_S_isInside_6 : decode b_S_isInside 6 = .ok (.iload 5, 2) := by decide +kernel
theorem d_S_isInside_8 : decode b_S_isInside 8 = .ok (.iload_n 1, 1) := by decide +kernel
theorem d_S_isInside_9 : decode b_S_isInside 9 = .ok (.if_icmp .ge 46, 3) := by decide +kernel
theorem d_S_isInside_12 : decode b_S_isInside 12 = .ok (.aload_n 0, 1) := by decide +kernel
theorem d_S_isInside_13 : decode b_S_isInside 13 = .ok (.iload 5, 2) := by decide +kernel
theorem d_S_isInside_15 : decode b_S_isInside 15 = .ok (.iload 5, 2) := by decide +kernel
theorem d_S_isInside_17 : decode b_S_isInside 17 = .ok (.iconst 1, 1) := by decide +kernel
theorem d_S_isInside_18 : decode b_S_isInside 18 = .ok (.iadd, 1) := by decide +kernel
theorem d_S_isInside_19 : decode b_S_isInside 19 = .ok (.iload_n 1, 1) := by decide +kernel
theorem d_S_isInside_20 : decode b_S_isInside 20 = .ok (.irem, 1) := by decide +kernel
theorem d_S_isInside_21 : decode b_S_isInside 21 = .ok (.iconst 2, 1) := by decide +kernel
theorem d_S_isInside_22 : decode b_S_isInside 22 = .ok (.iload_n 2, 1) := by decide +kernel
theorem d_S_isInside_23 : decode b_S_isInside 23 = .ok (.imul, 1) := by decide +kernel
theorem d_S_isInside_24 : decode b_S_isInside 24 = .ok (.iconst 1, 1) := by decide +kernel
theorem d_S_isInside_25 : decode b_S_isInside 25 = .ok (.iadd, 1) := by decide +kernel
theorem d_S_isInside_26 : decode b_S_isInside 26 = .ok (.iconst 2, 1) := by decide +kernel
theorem d_S_isInside_27 : decode b_S_isInside 27 = .ok (.iload_n 3, 1) := by decide +kernel
theorem d_S_isInside_28 : decode b_S_isInside 28 = .ok (.imul, 1) := by decide +kernel
theorem d_S_isInside_29 : decode b_S_isInside 29 = .ok (.iconst 1, 1) := by decide +kernel
theorem d_S_isInside_30 : decode b_S_isInside 30 = .ok (.iadd, 1) := by decide +kernel
theorem d_S_isInside_31 : decode b_S_isInside 31 = .ok (.invokevirtual 293, 3) := by decide +kernel
theorem d_S_isInside_34 : decode b_S_isInside 34 = .ok (.ifCond .eq 15, 3) := by decide +kernel
theorem d_S_isInside_37 : decode b_S_isInside 37 = .ok (.iload 4, 2) := by decide +kernel
theorem d_S_isInside_39 : decode b_S_isInside 39 = .ok (.ifCond .ne 7, 3) := by decide +kernel
theorem d_S_isInside_42 : decode b_S_isInside 42 = .ok (.iconst 1, 1) := by decide +kernel
theorem d_S_isInside_43 : decode b_S_isInside 43 = .ok (.goto 4, 3) := by decide +kernel
theorem d_S_isInside_46 : decode b_S_isInside 46 = .ok (.iconst 0, 1) := by decide +kernel
theorem d_S_isInside_47 : decode b_S_isInside 47 = .ok (.istore 4, 2) := by decide +kernel
theorem d_S_isInside_49 : decode b_S_isInside 49 = .ok (.iinc 5 1, 3) := by decide +kernel
theorem d_S_isInside_52 : decode b_S_isInside 52 = .ok (.goto (-46), 3) := by decide +kernel
theorem d_S_isInside_55 : decode b_S_isInside 55 = .ok (.iload 4, 2) := by decide +kernel
theorem d_S_isInside_57 : decode b_S_isInside 57 = .ok (.ireturn, 1) := by decide +kernel
theorem d_S_isRightOf_0 : decode b_S_isRightOf 0 = .ok (.aload_n 0, 1) := by decide +kernel
theorem d_S_isRightOf_1 : decode b_S_isRightOf 1 = .ok (.getfield 28, 3) := by decide +kernel
theorem d_S_isRightOf_4 : decode b_S_isRightOf 4 = .ok (.iload_n 1, 1) := by decide +kernel
theorem d_S_isRightOf_5 : decode b_S_isRightOf 5 = .ok (.iaload, 1) := by decide +kernel
theorem d_S_isRightOf_6 : decode b_S_isRightOf 6 = .ok (.aload_n 0, 1) := by decide +kernel
theorem d_S_isRightOf_7 : decode b_S_isRightOf 7 = .ok (.getfield 28, 3) := by decide +kernel
theorem d_S_isRightOf_10 : decode b_S_isRightOf 10 = .ok (.iload_n 2, 1) := by decide +kernel
theorem d_S_isRightOf_11 : decode b_S_isRightOf 11 = .ok (.iaload, 1) := by decide +kernel
theorem d_S_isRightOf_12 : decode b_S_isRightOf 12 = .ok (.if_icmp .gt 7, 3) := by decide +kernel
theorem d_S_isRightOf_15 : decode b_S_isRightOf 15 = .ok (.iload_n 1, 1) := by decide +kernel
theorem d_S_isRightOf_16 : decode b_S_isRightOf 16 = .ok (.goto 4, 3) := by decide +kernel
theorem d_S_isRightOf_19 : decode b_S_isRightOf 19 = .ok (.iload_n 2, 1) := by decide +kernel
theorem d_S_isRightOf_20 : decode b_S_isRightOf 20 = .ok (.istore 5, 2) := by decide +kernel
theorem d_S_isRightOf_22 : decode b_S_isRightOf 22 = .ok (.iload_n 1, 1) := by decide +kernel
theorem d_S_isRightOf_23 : decode b_S_isRightOf 23 = .ok (.iload_n 2, 1) := by decide +kernel
theorem d_S_isRightOf_24 : decode b_S_isRightOf 24 = .ok (.iadd, 1) := by decide +kernel
theorem d_S_isRightOf_25 : decode b_S_isRightOf 25 = .ok (.iload 5, 2) := by decide +kernel
theorem d_S_isRightOf_27 : decode b_S_isRightOf 27 = .ok (.isub, 1) := by decide +kernel
theorem d_S_isRightOf_28 : decode b_S_isRightOf 28 = .ok (.istore 6, 2) := by decide +kernel
theorem d_S_isRightOf_30 : decode b_S_isRightOf 30 = .ok (.iconst 2, 1) := by decide +kernel
theorem d_S_isRightOf_31 : decode b_S_isRightOf 31 = .ok (.aload_n 0, 1) := by decide +kernel
theorem d_S_isRightOf_32 : decode b_S_isRightOf 32 = .ok (.getfield 28, 3) := by decide +kernel
theorem d_S_isRightOf_35 : decode b_S_isRightOf 35 = .ok (.iload 5, 2) := by decide +kernel
theorem d_S_isRightOf_37 : decode b_S_isRightOf 37 = .ok (.iaload, 1) := by decide +kernel
theorem d_S_isRightOf_38 : decode b_S_isRightOf 38 = .ok (.imul, 1) := by decide +kernel
theorem d_S_isRightOf_39 : decode b_S_isRightOf 39 = .ok (.istore 7, 2) := by decide +kernel
theorem d_S_isRightOf_41 : decode b_S_isRightOf 41 = .ok (.iconst 2, 1) := by decide +kernel
theorem d_S_isRightOf_42 : decode b_S_isRightOf 42 = .ok (.aload_n 0, 1) := by decide +kernel
theorem d_S_isRightOf_43 : decode b_S_isRightOf 43 = .ok (.getfield 28, 3) := by decide +kernel
theorem d_S_isRightOf_46 : decode b_S_isRightOf 46 = .ok (.iload 6, 2) := by decide +kernel
theorem d_S_isRightOf_48 : decode b_S_isRightOf 48 = .ok (.iaload, 1) := by decide +kernel
theorem d_S_isRightOf_49 : decode b_S_isRightOf 49 = .ok (.imul, 1) := by decide +kernel
theorem d_S_isRightOf_50 : decode b_S_isRightOf 50 = .ok (.istore 8, 2) := by decide +kernel
theorem d_S_isRightOf_52 : decode b_S_isRightOf 52 = .ok (.iload 4, 2) := by decide +kernel
theorem d_S_isRightOf_54 : decode b_S_isRightOf 54 = .ok (.iload 7, 2) := by decide +kernel
theorem d_S_isRightOf_56 : decode b_S_isRightOf 56 = .ok (.if_icmp .lt 10, 3) := by decide +kernel
theorem d_S_isRightOf_59 : decode b_S_isRightOf 59 = .ok (.iload 4, 2) := by decide +kernel
theorem d_S_isRightOf_61 : decode b_S_isRightOf 61 = .ok (.iload 8, 2) := by decide +kernel
theorem d_S_isRightOf_63 : decode b_S_isRightOf 63 = .ok (.if_icmp .lt 5, 3) := by decide +kernel
theorem d_S_isRightOf_66 : decode b_S_isRightOf 66 = .ok (.iconst 0, 1) := by decide +kernel
theorem d_S_isRightOf_67 : decode b_S_isRightOf 67 = .ok (.ireturn, 1) := by decide +kernel
theorem d_S_isRightOf_68 : decode b_S_isRightOf 68 = .ok (.iconst 2, 1) := by decide +kernel
theorem d_S_isRightOf_69 : decode b_S_isRightOf 69 = .ok (.aload_n 0, 1) := by decide +kernel
theorem d_S_isRightOf_70 : decode b_S_isRightOf 70 = .ok (.getfield 25, 3) := by decide +kernel
theorem d_S_isRightOf_73 : decode b_S_isRightOf 73 = .ok (.iload 5, 2) := by decide +kernel
theorem d_S_isRightOf_75 : decode b_S_isRightOf 75 = .ok (.iaload, 1) := by decide +kernel
theorem d_S_isRightOf_76 : decode b_S_isRightOf 76 = .ok (.imul, 1) := by decide +kernel
theorem d_S_isRightOf_77 : decode b_S_isRightOf 77 = .ok (.istore 9, 2) := by decide +kernel
theorem d_S_isRightOf_79 : decode b_S_isRightOf 79 = .ok (.iconst 2, 1) := by decide +kernel
theorem d_S_isRightOf_80 : decode b_S_isRightOf 80 = .ok (.aload_n 0, 1) := by decide +kernel
theorem d_S_isRightOf_81 : decode b_S_isRightOf 81 = .ok (.getfield 25, 3) := by decide +kernel
theorem d_S_isRightOf_84 : decode b_S_isRightOf 84 = .ok (.iload 6, 2) := by decide +kernel
theorem d_S_isRightOf_86 : decode b_S_isRightOf 86 = .ok (.iaload, 1) := by decide +kernel
theorem d_S_isRightOf_87 : decode b_S_isRightOf 87 = .ok (.imul, 1) := by decide +kernel
theorem d_S_isRightOf_88 : decode b_S_isRightOf 88 = .ok (.istore 10, 2) := by decide +kernel
theorem d_S_isRightOf_90 : decode b_S_isRightOf 90 = .ok (.iload 4, 2) := by decide +kernel
theorem d_S_isRightOf_92 : decode b_S_isRightOf 92 = .ok (.iload 7, 2) := by decide +kernel
theorem d_S_isRightOf_94 : decode b_S_isRightOf 94 = .ok (.isub, 1) := by decide +kernel
theorem d_S_isRightOf_95 : decode b_S_isRightOf 95 = .ok (.iload 10, 2) := by decide +kernel
theorem d_S_isRightOf_97 : decode b_S_isRightOf 97 = .ok (.iload 9, 2) := by decide +kernel
theorem d_S_isRightOf_99 : decode b_S_isRightOf 99 = .ok (.isub, 1) := by decide +kernel
theorem d_S_isRightOf_100 : decode b_S_isRightOf 100 = .ok (.imul, 1) := by decide +kernel
theorem d_S_isRightOf_101 : decode b_S_isRightOf 101 = .ok (.iload_n 3, 1) := by decide +kernel
theorem d_S_isRightOf_102 : decode b_S_isRightOf 102 = .ok (.iload 9, 2) := by decide +kernel
theorem d_S_isRightOf_104 : decode b_S_isRightOf 104 = .ok (.isub, 1) := by decide +kernel
theorem d_S_isRightOf_105 : decode b_S_isRightOf 105 = .ok (.iload 8, 2) := by decide +kernel
theorem d_S_isRightOf_107 : decode b_S_isRightOf 107 = .ok (.iload 7, 2) := by decide +kernel
theorem d_S_isRightOf_109 : decode b_S_isRightOf 109 = .ok (.isub, 1) := by decide +kernel
theorem d_S_isRightOf_110 : decode b_S_isRightOf 110 = .ok (.imul, 1) := by decide +kernel
theorem d_S_isRightOf_111 : decode b_S_isRightOf 111 = .ok (.if_icmp .le 7, 3) := by decide +kernel
theorem d_S_isRightOf_114 : decode b_S_isRightOf 114 = .ok (.iconst 1, 1) := by decide +kernel
theorem d_S_isRightOf_115 : decode b_S_isRightOf 115 = .ok (.goto 4, 3) := by decide +kernel
theorem d_S_isRightOf_118 : decode b_S_isRightOf 118 = .ok (.iconst 0, 1) := by decide +kernel
theorem d_S_isRightOf_119 : decode b_S_isRightOf 119 = .ok (.ireturn, 1) := by decide +kernel
theorem d_S_copy_0 : decode b_S_copy 0 = .ok (.aload_n 0, 1) := by decide +kernel
theorem d_S_copy_1 : decode b_S_copy 1 = .ok (.iload_n 1, 1) := by decide +kernel
theorem d_S_copy_2 : decode b_S_copy 2 = .ok (.iload_n 2, 1) := by decide +kernel
theorem d_S_copy_3 : decode b_S_copy 3 = .ok (.invokevirtual 109, 3) := by decide +kernel
theorem d_S_copy_6 : decode b_S_copy 6 = .ok (.astore 7, 2) := by decide +kernel
theorem d_S_copy_8 : decode b_S_copy 8 = .ok (.aload_n 0, 1) := by decide +kernel
theorem d_S_copy_9 : decode b_S_copy 9 = .ok (.iload_n 3, 1) := by decide +kernel
theorem d_S_copy_10 : decode b_S_copy 10 = .ok (.invokevirtual 77, 3) := by decide +kernel
theorem d_S_copy_13 : decode b_S_copy 13 = .ok (.astore 8, 2) := by decide +kernel
theorem d_S_copy_15 : decode b_S_copy 15 = .ok (.aload 8, 2) := by decide +kernel
theorem d_S_copy_17 : decode b_S_copy 17 = .ok (.ifnull 35, 3) := by decide +kernel
theorem d_S_copy_20 : decode b_S_copy 20 = .ok (.iload 4, 2) := by decide +kernel
theorem d_S_copy_22 : decode b_S_copy 22 = .ok (.invokestatic 73, 3) := by decide +kernel
theorem d_S_copy_25 : decode b_S_copy 25 = .ok (.ifCond .eq 27, 3) := by decide +kernel
theorem d_S_copy_28 : decode b_S_copy 28 = .ok (.iload 5, 2) := by decide +kernel
theorem d_S_copy_30 : decode b_S_copy 30 = .ok (.aload_n 0, 1) := by decide +kernel
theorem d_S_copy_31 : decode b_S_copy 31 = .ok (.getfield 63, 3) := by decide +kernel
theorem d_S_copy_34 : decode b_S_copy 34 = .ok (.invokestatic 99, 3) := by decide +kernel
theorem d_S_copy_37 : decode b_S_copy 37 = .ok (.ifCond .eq 15, 3) := by decide +kernel
theorem d_S_copy_40 : decode b_S_copy 40 = .ok (.iload 6, 2) := by decide +kernel
theorem d_S_copy_42 : decode b_S_copy 42 = .ok (.aload_n 0, 1) := by decide +kernel
theorem d_S_copy_43 : decode b_S_copy 43 = .ok (.getfield 66, 3) := by decide +kernel
theorem d_S_copy_46 : decode b_S_copy 46 = .ok (.invokestatic 99, 3) := by decide +kernel
theorem d_S_copy_49 : decode b_S_copy 49 = .ok (.ifCond .ne 11, 3) := by decide +kernel
theorem d_S_copy_52 : decode b_S_copy 52 = .ok (.new 81, 3) := by decide +kernel
theorem d_S_copy_55 : decode b_S_copy 55 = .ok (.dup, 1) := by decide +kernel
theorem d_S_copy_56 : decode b_S_copy 56 = .ok (.invokespecial 83, 3) := by decide +kernel
theorem d_S_copy_59 : decode b_S_copy 59 = .ok (.athrow, 1) := by decide +kernel
theorem d_S_copy_60 : decode b_S_copy 60 = .ok (.iconst 0, 1) := by decide +kernel
theorem d_S_copy_61 : decode b_S_copy 61 = .ok (.istore 9, 2) := by decide +kernel
theorem d_S_copy_63 : decode b_S_copy 63 = .ok (.iload 9, 2) := by decide +kernel
theorem d_S_copy_65 : decode b_S_copy 65 = .ok (.aload_n 0, 1) := by decide +kernel
theorem d_S_copy_66 : decode b_S_copy 66 = .ok (.getfield 66, 3) := by decide +kernel
theorem d_S_copy_69 : decode b_S_copy 69 = .ok (.if_icmp .ge 57, 3) := by decide +kernel
theorem d_S_copy_72 : decode b_S_copy 72 = .ok (.iload 4, 2) := by decide +kernel
theorem d_S_copy_74 : decode b_S_copy 74 = .ok (.aload_n 0, 1) := by decide +kernel
theorem d_S_copy_75 : decode b_S_copy 75 = .ok (.getfield 103, 3) := by decide +kernel
theorem d_S_copy_78 : decode b_S_copy 78 = .ok (.aload_n 0, 1) := by decide +kernel
theorem d_S_copy_79 : decode b_S_copy 79 = .ok (.getfield 106, 3) := by decide +kernel
theorem d_S_copy_82 : decode b_S_copy 82 = .ok (.iload 9, 2) := by decide +kernel
theorem d_S_copy_84 : decode b_S_copy 84 = .ok (.iadd, 1) := by decide +kernel
theorem d_S_copy_85 : decode b_S_copy 85 = .ok (.invokestatic 117, 3) := by decide +kernel
theorem d_S_copy_88 : decode b_S_copy 88 = .ok (.istore 10, 2) := by decide +kernel
theorem d_S_copy_90 : decode b_S_copy 90 = .ok (.aload 8, 2) := by decide +kernel
theorem d_S_copy_92 : decode b_S_copy 92 = .ok (.getfield 91, 3) := by decide +kernel
theorem d_S_copy_95 : decode b_S_copy 95 = .ok (.iload 10, 2) := by decide +kernel
theorem d_S_copy_97 : decode b_S_copy 97 = .ok (.aload 7, 2) := by decide +kernel
theorem d_S_copy_99 : decode b_S_copy 99 = .ok (.getfield 132, 3) := by decide +kernel
theorem d_S_copy_102 : decode b_S_copy 102 = .ok (.iload_n 2, 1) := by decide +kernel
theorem d_S_copy_103 : decode b_S_copy 103 = .ok (.iload 5, 2) := by decide +kernel
theorem d_S_copy_105 : decode b_S_copy 105 = .ok (.iload 6, 2) := by decide +kernel
theorem d_S_copy_107 : decode b_S_copy 107 = .ok (.iload 9, 2) := by decide +kernel
theorem d_S_copy_109 : decode b_S_copy 109 = .ok (.iadd, 1) := by decide +kernel
theorem d_S_copy_110 : decode b_S_copy 110 = .ok (.invokestatic 117, 3) := by decide +kernel
theorem d_S_copy_113 : decode b_S_copy 113 = .ok (.aload_n 0, 1) := by decide +kernel
theorem d_S_copy_114 : decode b_S_copy 114 = .ok (.getfield 63, 3) := by decide +kernel
theorem d_S_copy_117 : decode b_S_copy 117 = .ok (.invokestatic 133, 3) := by decide +kernel
theorem d_S_copy_120 : decode b_S_copy 120 = .ok (.iinc 9 1, 3) := by decide +kernel
theorem d_S_copy_123 : decode b_S_copy 123 = .ok (.goto (-60), 3) := by decide +kernel
theorem d_S_copy_126 : decode b_S_copy 126 = .ok (.return_, 1) := by decide +kernel
theorem d_S_map_0 : decode b_S_map 0 = .ok (.aload_n 0, 1) := by decide +kernel
theorem d_S_map_1 : decode b_S_map 1 = .ok (.iload_n 1, 1) := by decide +kernel
theorem d_S_map_2 : decode b_S_map 2 = .ok (.iload_n 2, 1) := by decide +kernel
theorem d_S_map_3 : decode b_S_map 3 = .ok (.invokevirtual 109, 3) := by decide +kernel
theorem d_S_map_6 : decode b_S_map 6 = .ok (.astore_n 3, 1) := by decide +kernel
theorem d_S_map_7 : decode b_S_map 7 = .ok (.aload_n 0, 1) := by decide +kernel
theorem d_S_map_8 : decode b_S_map 8 = .ok (.getfield 106, 3) := by decide +kernel
theorem d_S_map_11 : decode b_S_map 11 = .ok (.istore 4, 2) := by decide +kernel
theorem d_S_map_13 : decode b_S_map 13 = .ok (.iload 4, 2) := by decide +kernel
theorem d_S_map_15 : decode b_S_map 15 = .ok (.aload_n 0, 1) := by decide +kernel
theorem d_S_map_16 : decode b_S_map 16 = .ok (.getfield 106, 3) := by decide +kernel
theorem d_S_map_19 : decode b_S_map 19 = .ok (.aload_n 0, 1) := by decide +kernel
theorem d_S_map_20 : decode b_S_map 20 = .ok (.getfield 66, 3) := by decide +kernel
theorem d_S_map_23 : decode b_S_map 23 = .ok (.iadd, 1) := by decide +kernel
theorem d_S_map_24 : decode b_S_map 24 = .ok (.if_icmp .ge 69, 3) := by decide +kernel
theorem d_S_map_27 : decode b_S_map 27 = .ok (.aload_n 0, 1) := by decide +kernel
theorem d_S_map_28 : decode b_S_map 28 = .ok (.getfield 103, 3) := by decide +kernel
theorem d_S_map_31 : decode b_S_map 31 = .ok (.istore 5, 2) := by decide +kernel
theorem d_S_map_33 : decode b_S_map 33 = .ok (.iload 5, 2) := by decide +kernel
theorem d_S_map_35 : decode b_S_map 35 = .ok (.aload_n 0, 1) := by decide +kernel
theorem d_S_map_36 : decode b_S_map 36 = .ok (.getfield 103, 3) := by decide +kernel
theorem d_S_map_39 : decode b_S_map 39 = .ok (.aload_n 0, 1) := by decide +kernel
theorem d_S_map_40 : decode b_S_map 40 = .ok (.getfield 63, 3) := by decide +kernel
theorem d_S_map_43 : decode b_S_map 43 = .ok (.iadd, 1) := by decide +kernel
theorem d_S_map_44 : decode b_S_map 44 = .ok (.if_icmp .ge 43, 3) := by decide +kernel
theorem d_S_map_47 : decode b_S_map 47 = .ok (.iload_n 2, 1) := by decide +kernel
theorem d_S_map_48 : decode b_S_map 48 = .ok (.iload 5, 2) := by decide +kernel
theorem d_S_map_50 : decode b_S_map 50 = .ok (.iload 4, 2) := by decide +kernel
theorem d_S_map_52 : decode b_S_map 52 = .ok (.invokestatic 117, 3) := by decide +kernel
theorem d_S_map_55 : decode b_S_map 55 = .ok (.istore 6, 2) := by decide +kernel
theorem d_S_map_57 : decode b_S_map 57 = .ok (.aload_n 3, 1) := by decide +kernel
theorem d_S_map_58 : decode b_S_map 58 = .ok (.getfield 132, 3) := by decide +kernel
theorem d_S_map_61 : decode b_S_map 61 = .ok (.iload 6, 2) := by decide +kernel
theorem d_S_map_63 : decode b_S_map 63 = .ok (.laload, 1) := by decide +kernel
theorem d_S_map_64 : decode b_S_map 64 = .ok (.invokestatic 142, 3) := by decide +kernel
theorem d_S_map_67 : decode b_S_map 67 = .ok (.istore 7, 2) := by decide +kernel
theorem d_S_map_69 : decode b_S_map 69 = .ok (.aload_n 3, 1) := by decide +kernel
theorem d_S_map_70 : decode b_S_map 70 = .ok (.iload 6, 2) := by decide +kernel
theorem d_S_map_72 : decode b_S_map 72 = .ok (.aload_n 0, 1) := by decide +kernel
theorem d_S_map_73 : decode b_S_map 73 = .ok (.iload 7, 2) := by decide +kernel
theorem d_S_map_75 : decode b_S_map 75 = .ok (.invokevirtual 146, 3) := by decide +kernel
theorem d_S_map_78 : decode b_S_map 78 = .ok (.invokestatic 150, 3) := by decide +kernel
theorem d_S_map_81 : decode b_S_map 81 = .ok (.iinc 5 1, 3) := by decide +kernel
theorem d_S_map_84 : decode b_S_map 84 = .ok (.goto (-51), 3) := by decide +kernel
theorem d_S_map_87 : decode b_S_map 87 = .ok (.iinc 4 1, 3) := by decide +kernel
theorem d_S_map_90 : decode b_S_map 90 = .ok (.goto (-77), 3) := by decide +kernel
theorem d_S_map_93 : decode b_S_map 93 = .ok (.return_, 1) := by decide +kernel
theorem d_S_mapped_0 : decode b_S_mapped 0 = .ok (.iconst 0, 1) := by decide +kernel
theorem d_S_mapped_1 : decode b_S_mapped 1 = .ok (.istore_n 2, 1) := by decide +kernel
theorem d_S_mapped_2 : decode b_S_mapped 2 = .ok (.iload_n 2, 1) := by decide +kernel
theorem d_S_mapped_3 : decode b_S_mapped 3 = .ok (.bipush 8, 2) := by decide +kernel
theorem d_S_mapped_5 : decode b_S_mapped 5 = .ok (.if_icmp .ge 26, 3) := by decide +kernel
theorem d_S_mapped_8 : decode b_S_mapped 8 = .ok (.aload_n 0, 1) := by decide +kernel
theorem d_S_mapped_9 : decode b_S_mapped 9 = .ok (.getfield 31, 3) := by decide +kernel
theorem d_S_mapped_12 : decode b_S_mapped 12 = .ok (.iload_n 2, 1) := by decide +kernel
theorem d_S_mapped_13 : decode b_S_mapped 13 = .ok (.iaload, 1) := by decide +kernel
theorem d_S_mapped_14 : decode b_S_mapped 14 = .ok (.iload_n 1, 1) := by decide +kernel
theorem d_S_mapped_15 : decode b_S_mapped 15 = .ok (.if_icmp .ne 10, 3) := by decide +kernel
theorem d_S_mapped_18 : decode b_S_mapped 18 = .ok (.aload_n 0, 1) := by decide +kernel
theorem d_S_mapped_19 : decode b_S_mapped 19 = .ok (.getfield 34, 3) := by decide +kernel
theorem d_S_mapped_22 : decode b_S_mapped 22 = .ok (.iload_n 2, 1) := by decide +kernel
theorem d_S_mapped_23 : decode b_S_mapped 23 = .ok (.iaload, 1) := by decide +kernel
theorem d_S_mapped_24 : decode b_S_mapped 24 = .ok (.ireturn, 1) := by decide +kernel
theorem d_S_mapped_25 : decode b_S_mapped 25 = .ok (.iinc 2 1, 3) := by decide +kernel
theorem d_S_mapped_28 : decode b_S_mapped 28 = .ok (.goto (-26), 3) := by decide +kernel
theorem d_S_mapped_31 : decode b_S_mapped 31 = .ok (.iload_n 1, 1) := by decide +kernel
theorem d_S_mapped_32 : decode b_S_mapped 32 = .ok (.ireturn, 1) := by decide +kernel
theorem d_S_setIfOther_0 : decode b_S_setIfOther 0 = .ok (.aload_n 0, 1) := by decide +kernel
theorem d_S_setIfOther_1 : decode b_S_setIfOther 1 = .ok (.getfield 132, 3) := by decide +kernel
theorem d_S_setIfOther_4 : decode b_S_setIfOther 4 = .ok (.iload_n 1, 1) := by decide +kernel
theorem d_S_setIfOther_5 : decode b_S_setIfOther 5 = .ok (.laload, 1) := by decide +kernel
theorem d_S_setIfOther_6 : decode b_S_setIfOther 6 = .ok (.invokestatic 142, 3) := by decide +kernel
theorem d_S_setIfOther_9 : decode b_S_setIfOther 9 = .ok (.iload_n 2, 1) := by decide +kernel
theorem d_S_setIfOther_10 : decode b_S_setIfOther 10 = .ok (.if_icmp .eq 9, 3) := by decide +kernel
theorem d_S_setIfOther_13 : decode b_S_setIfOther 13 = .ok (.aload_n 0, 1) := by decide +kernel
theorem d_S_setIfOther_14 : decode b_S_setIfOther 14 = .ok (.iload_n 1, 1) := by decide +kernel
theorem d_S_setIfOther_15 : decode b_S_setIfOther 15 = .ok (.iload_n 2, 1) := by decide +kernel
theorem d_S_setIfOther_16 : decode b_S_setIfOther 16 = .ok (.invokevirtual 121, 3) := by decide +kernel
theorem d_S_setIfOther_19 : decode b_S_setIfOther 19 = .ok (.return_, 1) := by decide +kernel
theorem d_S_combine_0 : decode b_S_combine 0 = .ok (.aload_n 0, 1) := by decide +kernel
theorem d_S_combine_1 : decode b_S_combine 1 = .ok (.iload_n 1, 1) := by decide +kernel
theorem d_S_combine_2 : decode b_S_combine 2 = .ok (.iload_n 2, 1) := by decide +kernel
theorem d_S_combine_3 : decode b_S_combine 3 = .ok (.invokevirtual 109, 3) := by decide +kernel
theorem d_S_combine_6 : decode b_S_combine 6 = .ok (.astore 5, 2) := by decide +kernel
theorem d_S_combine_8 : decode b_S_combine 8 = .ok (.iload_n 3, 1) := by decide +kernel
theorem d_S_combine_9 : decode b_S_combine 9 = .ok (.invokestatic 73, 3) := by decide +kernel
theorem d_S_combine_12 : decode b_S_combine 12 = .ok (.ifCond .eq 14, 3) := by decide +kernel
theorem d_S_combine_15 : decode b_S_combine 15 = .ok (.iload 4, 2) := by decide +kernel
theorem d_S_combine_17 : decode b_S_combine 17 = .ok (.ifCond .lt 9, 3) := by decide +kernel
theorem d_S_combine_20 : decode b_S_combine 20 = .ok (.iload 4, 2) := by decide +kernel
theorem d_S_combine_22 : decode b_S_combine 22 = .ok (.iconst 3, 1) := by decide +kernel
theorem d_S_combine_23 : decode b_S_combine 23 = .ok (.if_icmp .lt 11, 3) := by decide +kernel
theorem d_S_combine_26 : decode b_S_combine 26 = .ok (.new 81, 3) := by decide +kernel
theorem d_S_combine_29 : decode b_S_combine 29 = .ok (.dup, 1) := by decide +kernel
theorem d_S_combine_30 : decode b_S_combine 30 = .ok (.invokespecial 83, 3) := by decide +kernel
theorem d_S_combine_33 : decode b_S_combine 33 = .ok (.athrow, 1) := by decide +kernel
theorem d_S_combine_34 : decode b_S_combine 34 = .ok (.aload_n 0, 1) := by decide +kernel
theorem d_S_combine_35 : decode b_S_combine 35 = .ok (.getfield 106, 3) := by decide +kernel
theorem d_S_combine_38 : decode b_S_combine 38 = .ok (.istore 6, 2) := by decide +kernel
theorem d_S_combine_40 : decode b_S_combine 40 = .ok (.iload 6, 2) := by decide +kernel
theorem d_S_combine_42 : decode b_S_combine 42 = .ok (.aload_n 0, 1) := by decide +kernel
theorem d_S_combine_43 : decode b_S_combine 43 = .ok (.getfield 106, 3) := by decide +kernel
theorem d_S_combine_46 : decode b_S_combine 46 = .ok (.aload_n 0, 1) := by decide +kernel
theorem d_S_combine_47 : decode b_S_combine 47 = .ok (.getfield 66, 3) := by decide +kernel
theorem d_S_combine_50 : decode b_S_combine 50 = .ok (.iadd, 1) := by decide +kernel
theorem d_S_combine_51 : decode b_S_combine 51 = .ok (.if_icmp .ge 93, 3) := by decide +kernel
theorem d_S_combine_54 : decode b_S_combine 54 = .ok (.aload_n 0, 1) := by decide +kernel
theorem d_S_combine_55 : decode b_S_combine 55 = .ok (.getfield 103, 3) := by decide +kernel
theorem d_S_combine_58 : decode b_S_combine 58 = .ok (.istore 7, 2) := by decide +kernel
theorem d_S_combine_60 : decode b_S_combine 60 = .ok (.iload 7, 2) := by decide +kernel
theorem d_S_combine_62 : decode b_S_combine 62 = .ok (.aload_n 0, 1) := by decide +kernel
theorem d_S_combine_63 : decode b_S_combine 63 = .ok (.getfield 103, 3) := by decide +kernel
theorem d_S_combine_66 : decode b_S_combine 66 = .ok (.aload_n 0, 1) := by decide +kernel
theorem d_S_combine_67 : decode b_S_combine 67 = .ok (.getfield 63, 3) := by decide +kernel
theorem d_S_combine_70 : decode b_S_combine 70 = .ok (.iadd, 1) := by decide +kernel
theorem d_S_combine_71 : decode b_S_combine 71 = .ok (.if_icmp .ge 67, 3) := by decide +kernel
theorem d_S_combine_74 : decode b_S_combine 74 = .ok (.iload_n 2, 1) := by decide +kernel
theorem d_S_combine_75 : decode b_S_combine 75 = .ok (.iload 7, 2) := by decide +kernel
theorem d_S_combine_77 : decode b_S_combine 77 = .ok (.iload 6, 2) := by decide +kernel
theorem d_S_combine_79 : decode b_S_combine 79 = .ok (.invokestatic 117, 3) := by decide +kernel
theorem d_S_combine_82 : decode b_S_combine 82 = .ok (.istore 8, 2) := by decide +kernel
theorem d_S_combine_84 : decode b_S_combine 84 = .ok (.aload 5, 2) := by decide +kernel
theorem d_S_combine_86 : decode b_S_combine 86 = .ok (.getfield 132, 3) := by decide +kernel
theorem d_S_combine_89 : decode b_S_combine 89 = .ok (.iload 8, 2) := by decide +kernel
theorem d_S_combine_91 : decode b_S_combine 91 = .ok (.laload, 1) := by decide +kernel
theorem d_S_combine_92 : decode b_S_combine 92 = .ok (.invokestatic 142, 3) := by decide +kernel
theorem d_S_combine_95 : decode b_S_combine 95 = .ok (.istore 9, 2) := by decide +kernel
theorem d_S_combine_97 : decode b_S_combine 97 = .ok (.aload 5, 2) := by decide +kernel
theorem d_S_combine_99 : decode b_S_combine 99 = .ok (.getfield 132, 3) := by decide +kernel
theorem d_S_combine_102 : decode b_S_combine 102 = .ok (.iload_n 3, 1) := by decide +kernel
theorem d_S_combine_103 : decode b_S_combine 103 = .ok (.iload 7, 2) := by decide +kernel
theorem d_S_combine_105 : decode b_S_combine 105 = .ok (.iload 6, 2) := by decide +kernel
theorem d_S_combine_107 : decode b_S_combine 107 = .ok (.invokestatic 117, 3) := by decide +kernel
theorem d_S_combine_110 : decode b_S_combine 110 = .ok (.laload, 1) := by decide +kernel
theorem d_S_combine_111 : decode b_S_combine 111 = .ok (.invokestatic 142, 3) := by decide +kernel
theorem d_S_combine_114 : decode b_S_combine 114 = .ok (.istore 10, 2) := by decide +kernel
theorem d_S_combine_116 : decode b_S_combine 116 = .ok (.aload 5, 2) := by decide +kernel
theorem d_S_combine_118 : decode b_S_combine 118 = .ok (.iload 8, 2) := by decide +kernel
theorem d_S_combine_120 : decode b_S_combine 120 = .ok (.iload 9, 2) := by decide +kernel
theorem d_S_combine_122 : decode b_S_combine 122 = .ok (.iload 10, 2) := by decide +kernel
theorem d_S_combine_124 : decode b_S_combine 124 = .ok (.iload 4, 2) := by decide +kernel
theorem d_S_combine_126 : decode b_S_combine 126 = .ok (.invokestatic 154, 3) := by decide +kernel
theorem d_S_combine_129 : decode b_S_combine 129 = .ok (.invokestatic 150, 3) := by decide +kernel
theorem d_S_combine_132 : decode b_S_combine 132 = .ok (.iinc 7 1, 3) := by decide +kernel
theorem d_S_combine_135 : decode b_S_combine 135 = .ok (.goto (-75), 3) := by decide +kernel
theorem d_S_combine_138 : decode b_S_combine 138 = .ok (.iinc 6 1, 3) := by decide +kernel
theorem d_S_combine_141 : decode b_S_combine 141 = .ok (.goto (-101), 3) := by decide +kernel
theorem d_S_combine_144 : decode b_S_combine 144 = .ok (.return_, 1) := by decide +kernel
theorem d_S_combined_0 : decode b_S_combined 0 = .ok (.iload_n 1, 1) := by decide +kernel
theorem d_S_combined_1 : decode b_S_combined 1 = .ok (.ldc 69, 2) := by decide +kernel
theorem d_S_combined_3 : decode b_S_combined 3 = .ok (.if_icmp .ne 5, 3) := by decide +kernel
theorem d_S_combined_6 : decode b_S_combined 6 = .ok (.iload_n 0, 1) := by decide +kernel
theorem d_S_combined_7 : decode b_S_combined 7 = .ok (.ireturn, 1) := by decide +kernel
theorem d_S_combined_8 : decode b_S_combined 8 = .ok (.iload_n 0, 1) := by decide +kernel
theorem d_S_combined_9 : decode b_S_combined 9 = .ok (.ldc 69, 2) := by decide +kernel
theorem d_S_combined_11 : decode b_S_combined 11 = .ok (.if_icmp .ne 5, 3) := by decide +kernel
theorem d_S_combined_14 : decode b_S_combined 14 = .ok (.iload_n 1, 1) := by decide +kernel
theorem d_S_combined_15 : decode b_S_combined 15 = .ok (.ireturn, 1) := by decide +kernel
theorem d_S_combined_16 : decode b_S_combined 16 = .ok (.iload_n 2, 1) := by decide +kernel
theorem d_S_combined_17 : decode b_S_combined 17 = .ok (.lookupswitch 49 #[(0, 27), (1, 43)], 27) := by decide +kernel
theorem d_S_combined_44 : decode b_S_combined 44 = .ok (.ldc_w 288, 3) := by decide +kernel
theorem d_S_combined_47 : decode b_S_combined 47 = .ok (.ldc_w 289, 3) := by decide +kernel
theorem d_S_combined_50 : decode b_S_combined 50 = .ok (.iload_n 0, 1) := by decide +kernel
theorem d_S_combined_51 : decode b_S_combined 51 = .ok (.iload_n 1, 1) := by decide +kernel
theorem d_S_combined_52 : decode b_S_combined 52 = .ok (.iadd, 1) := by decide +kernel
theorem d_S_combined_53 : decode b_S_combined 53 = .ok (.invokestatic 252, 3) := by decide +kernel
theorem d_S_combined_56 : decode b_S_combined 56 = .ok (.invokestatic 257, 3) := by decide +kernel
theorem d_S_combined_59 : decode b_S_combined 59 = .ok (.ireturn, 1) := by decide +kernel
theorem d_S_combined_60 : decode b_S_combined 60 = .ok (.iload_n 0, 1) := by decide +kernel
theorem d_S_combined_61 : decode b_S_combined 61 = .ok (.iload_n 1, 1) := by decide +kernel
theorem d_S_combined_62 : decode b_S_combined 62 = .ok (.invokestatic 257, 3) := by decide +kernel
theorem d_S_combined_65 : decode b_S_combined 65 = .ok (.ireturn, 1) := by decide +kernel
theorem d_S_combined_66 : decode b_S_combined 66 = .ok (.iload_n 0, 1) := by decide +kernel
theorem d_S_combined_67 : decode b_S_combined 67 = .ok (.iload_n 1, 1) := by decide +kernel
theorem d_S_combined_68 : decode b_S_combined 68 = .ok (.invokestatic 252, 3) := by decide +kernel
theorem d_S_combined_71 : decode b_S_combined 71 = .ok (.ireturn, 1) := by decide +kernel
theorem d_S_commit_0 : decode b_S_commit 0 = .ok (.aload_n 0, 1) := by decide +kernel
theorem d_S_commit_1 : decode b_S_commit 1 = .ok (.iload_n 1, 1) := by decide +kernel
theorem d_S_commit_2 : decode b_S_commit 2 = .ok (.invokevirtual 84, 3) := by decide +kernel
theorem d_S_commit_5 : decode b_S_commit 5 = .ok (.astore_n 2, 1) := by decide +kernel
theorem d_S_commit_6 : decode b_S_commit 6 = .ok (.aload_n 2, 1) := by decide +kernel
theorem d_S_commit_7 : decode b_S_commit 7 = .ok (.ifnonnull 11, 3) := by decide +kernel
theorem d_S_commit_10 : decode b_S_commit 10 = .ok (.new 81, 3) := by decide +kernel
theorem d_S_commit_13 : decode b_S_commit 13 = .ok (.dup, 1) := by decide +kernel
theorem d_S_commit_14 : decode b_S_commit 14 = .ok (.invokespecial 83, 3) := by decide +kernel
theorem d_S_commit_17 : decode b_S_commit 17 = .ok (.athrow, 1) := by decide +kernel
theorem d_S_commit_18 : decode b_S_commit 18 = .ok (.aload_n 0, 1) := by decide +kernel
theorem d_S_commit_19 : decode b_S_commit 19 = .ok (.aload_n 2, 1) := by decide +kernel
theorem d_S_commit_20 : decode b_S_commit 20 = .ok (.invokevirtual 157, 3) := by decide +kernel
theorem d_S_commit_23 : decode b_S_commit 23 = .ok (.ifCond .eq 19, 3) := by decide +kernel
theorem d_S_commit_26 : decode b_S_commit 26 = .ok (.aload_n 2, 1) := by decide +kernel
theorem d_S_commit_27 : decode b_S_commit 27 = .ok (.invokevirtual 161, 3) := by decide +kernel
theorem d_S_commit_30 : decode b_S_commit 30 = .ok (.ifCond .ne 12, 3) := by decide +kernel
theorem d_S_commit_33 : decode b_S_commit 33 = .ok (.aload_n 0, 1) := by decide +kernel
theorem d_S_commit_34 : decode b_S_commit 34 = .ok (.getfield 54, 3) := by decide +kernel
theorem d_S_commit_37 : decode b_S_commit 37 = .ok (.bipush 24, 2) := by decide +kernel
theorem d_S_commit_39 : decode b_S_commit 39 = .ok (.if_icmp .lt 11, 3) := by decide +kernel
theorem d_S_commit_42 : decode b_S_commit 42 = .ok (.new 88, 3) := by decide +kernel
theorem d_S_commit_45 : decode b_S_commit 45 = .ok (.dup, 1) := by decide +kernel
theorem d_S_commit_46 : decode b_S_commit 46 = .ok (.invokespecial 90, 3) := by decide +kernel
theorem d_S_commit_49 : decode b_S_commit 49 = .ok (.athrow, 1) := by decide +kernel
theorem d_S_commit_50 : decode b_S_commit 50 = .ok (.aload_n 0, 1) := by decide +kernel
theorem d_S_commit_51 : decode b_S_commit 51 = .ok (.getfield 54, 3) := by decide +kernel
theorem d_S_commit_54 : decode b_S_commit 54 = .ok (.istore_n 3, 1) := by decide +kernel
theorem d_S_commit_55 : decode b_S_commit 55 = .ok (.aload_n 2, 1) := by decide +kernel
theorem d_S_commit_56 : decode b_S_commit 56 = .ok (.getfield 132, 3) := by decide +kernel
theorem d_S_commit_59 : decode b_S_commit 59 = .ok (.iload_n 3, 1) := by decide +kernel
theorem d_S_commit_60 : decode b_S_commit 60 = .ok (.invokestatic 165, 3) := by decide +kernel
theorem d_S_commit_63 : decode b_S_commit 63 = .ok (.iconst 1, 1) := by decide +kernel
theorem d_S_commit_64 : decode b_S_commit 64 = .ok (.iload_n 3, 1) := by decide +kernel
theorem d_S_commit_65 : decode b_S_commit 65 = .ok (.ishl, 1) := by decide +kernel
theorem d_S_commit_66 : decode b_S_commit 66 = .ok (.aload_n 0, 1) := by decide +kernel
theorem d_S_commit_67 : decode b_S_commit 67 = .ok (.aload_n 2, 1) := by decide +kernel
theorem d_S_commit_68 : decode b_S_commit 68 = .ok (.getfield 169, 3) := by decide +kernel
theorem d_S_commit_71 : decode b_S_commit 71 = .ok (.invokevirtual 172, 3) := by decide +kernel
theorem d_S_commit_74 : decode b_S_commit 74 = .ok (.ior, 1) := by decide +kernel
theorem d_S_commit_75 : decode b_S_commit 75 = .ok (.aload_n 0, 1) := by decide +kernel
theorem d_S_commit_76 : decode b_S_commit 76 = .ok (.aload_n 2, 1) := by decide +kernel
theorem d_S_commit_77 : decode b_S_commit 77 = .ok (.getfield 175, 3) := by decide +kernel
theorem d_S_commit_80 : decode b_S_commit 80 = .ok (.invokevirtual 172, 3) := by decide +kernel
theorem d_S_commit_83 : decode b_S_commit 83 = .ok (.ior, 1) := by decide +kernel
theorem d_S_commit_84 : decode b_S_commit 84 = .ok (.istore 4, 2) := by decide +kernel
theorem d_S_commit_86 : decode b_S_commit 86 = .ok (.aload_n 0, 1) := by decide +kernel
theorem d_S_commit_87 : decode b_S_commit 87 = .ok (.getfield 15, 3) := by decide +kernel
theorem d_S_commit_90 : decode b_S_commit 90 = .ok (.iload_n 3, 1) := by decide +kernel
theorem d_S_commit_91 : decode b_S_commit 91 = .ok (.new 13, 3) := by decide +kernel
theorem d_S_commit_94 : decode b_S_commit 94 = .ok (.dup, 1) := by decide +kernel
theorem d_S_commit_95 : decode b_S_commit 95 = .ok (.aload_n 2, 1) := by decide +kernel
theorem d_S_commit_96 : decode b_S_commit 96 = .ok (.getfield 169, 3) := by decide +kernel
theorem d_S_commit_99 : decode b_S_commit 99 = .ok (.aload_n 2, 1) := by decide +kernel
theorem d_S_commit_100 : decode b_S_commit 100 = .ok (.getfield 175, 3) := by decide +kernel
theorem d_S_commit_103 : decode b_S_commit 103 = .ok (.iload 4, 2) := by decide +kernel
theorem d_S_commit_105 : decode b_S_commit 105 = .ok (.aload_n 2, 1) := by decide +kernel
theorem d_S_commit_106 : decode b_S_commit 106 = .ok (.getfield 132, 3) := by decide +kernel
theorem d_S_commit_109 : decode b_S_commit 109 = .ok (.invokevirtual 178, 3) := by decide +kernel
theorem d_S_commit_112 : decode b_S_commit 112 = .ok (.checkcast 179, 3) := by decide +kernel
theorem d_S_commit_115 : decode b_S_commit 115 = .ok (.invokespecial 51, 3) := by decide +kernel
theorem d_S_commit_118 : decode b_S_commit 118 = .ok (.aastore, 1) := by decide +kernel
theorem d_S_commit_119 : decode b_S_commit 119 = .ok (.aload_n 0, 1) := by decide +kernel
theorem d_S_commit_120 : decode b_S_commit 120 = .ok (.dup, 1) := by decide +kernel
theorem d_S_commit_121 : decode b_S_commit 121 = .ok (.getfield 54, 3) := by decide +kernel
theorem d_S_commit_124 : decode b_S_commit 124 = .ok (.iconst 1, 1) := by decide +kernel
theorem d_S_commit_125 : decode b_S_commit 125 = .ok (.iadd, 1) := by decide +kernel
theorem d_S_commit_126 : decode b_S_commit 126 = .ok (.putfield 54, 3) := by decide +kernel
theorem d_S_commit_129 : decode b_S_commit 129 = .ok (.aload_n 2, 1) := by decide +kernel
theorem d_S_commit_130 : decode b_S_commit 130 = .ok (.iload_n 3, 1) := by decide +kernel
theorem d_S_commit_131 : decode b_S_commit 131 = .ok (.invokevirtual 183, 3) := by decide +kernel
theorem d_S_commit_134 : decode b_S_commit 134 = .ok (.iload_n 3, 1) := by decide +kernel
theorem d_S_commit_135 : decode b_S_commit 135 = .ok (.ireturn, 1) := by decide +kernel
theorem d_B_hasUnsettled_0 : decode b_B_hasUnsettled 0 = .ok (.aload_n 0, 1) := by decide +kernel
theorem d_B_hasUnsettled_1 : decode b_B_hasUnsettled 1 = .ok (.getfield 36, 3) := by decide +kernel
theorem d_B_hasUnsettled_4 : decode b_B_hasUnsettled 4 = .ok (.ifnull 17, 3) := by decide +kernel
theorem d_B_hasUnsettled_7 : decode b_B_hasUnsettled 7 = .ok (.aload_n 0, 1) := by decide +kernel
theorem d_B_hasUnsettled_8 : decode b_B_hasUnsettled 8 = .ok (.getfield 36, 3) := by decide +kernel
theorem d_B_hasUnsettled_11 : decode b_B_hasUnsettled 11 = .ok (.getfield 46, 3) := by decide +kernel
theorem d_B_hasUnsettled_14 : decode b_B_hasUnsettled 14 = .ok (.ifCond .le 7, 3) := by decide +kernel
theorem d_B_hasUnsettled_17 : decode b_B_hasUnsettled 17 = .ok (.iconst 1, 1) := by decide +kernel
theorem d_B_hasUnsettled_18 : decode b_B_hasUnsettled 18 = .ok (.goto 4, 3) := by decide +kernel
theorem d_B_hasUnsettled_21 : decode b_B_hasUnsettled 21 = .ok (.iconst 0, 1) := by decide +kernel
theorem d_B_hasUnsettled_22 : decode b_B_hasUnsettled 22 = .ok (.ireturn, 1) := by decide +kernel
theorem d_S_claimPending_0 : decode b_S_claimPending 0 = .ok (.iconst 0, 1) := by decide +kernel
theorem d_S_claimPending_1 : decode b_S_claimPending 1 = .ok (.istore_n 2, 1) := by decide +kernel
theorem d_S_claimPending_2 : decode b_S_claimPending 2 = .ok (.iload_n 2, 1) := by decide +kernel
theorem d_S_claimPending_3 : decode b_S_claimPending 3 = .ok (.sipush 4096, 3) := by decide +kernel
theorem d_S_claimPending_6 : decode b_S_claimPending 6 = .ok (.if_icmp .ge 42, 3) := by decide +kernel
theorem d_S_claimPending_9 : decode b_S_claimPending 9 = .ok (.aload_n 0, 1) := by decide +kernel
theorem d_S_claimPending_10 : decode b_S_claimPending 10 = .ok (.iload_n 2, 1) := by decide +kernel
theorem d_S_claimPending_11 : decode b_S_claimPending 11 = .ok (.laload, 1) := by decide +kernel
theorem d_S_claimPending_12 : decode b_S_claimPending 12 = .ok (.invokestatic 233, 3) := by decide +kernel
theorem d_S_claimPending_15 : decode b_S_claimPending 15 = .ok (.bipush 24, 2) := by decide +kernel
theorem d_S_claimPending_17 : decode b_S_claimPending 17 = .ok (.if_icmp .ne 25, 3) := by decide +kernel
theorem d_S_claimPending_20 : decode b_S_claimPending 20 = .ok (.aload_n 0, 1) := by decide +kernel
theorem d_S_claimPending_21 : decode b_S_claimPending 21 = .ok (.iload_n 2, 1) := by decide +kernel
theorem d_S_claimPending_22 : decode b_S_claimPending 22 = .ok (.aload_n 0, 1) := by decide +kernel
theorem d_S_claimPending_23 : decode b_S_claimPending 23 = .ok (.iload_n 2, 1) := by decide +kernel
theorem d_S_claimPending_24 : decode b_S_claimPending 24 = .ok (.laload, 1) := by decide +kernel
theorem d_S_claimPending_25 : decode b_S_claimPending 25 = .ok (.invokestatic 142, 3) := by decide +kernel
theorem d_S_claimPending_28 : decode b_S_claimPending 28 = .ok (.iload_n 1, 1) := by decide +kernel
theorem d_S_claimPending_29 : decode b_S_claimPending 29 = .ok (.aload_n 0, 1) := by decide +kernel
theorem d_S_claimPending_30 : decode b_S_claimPending 30 = .ok (.iload_n 2, 1) := by decide +kernel
theorem d_S_claimPending_31 : decode b_S_claimPending 31 = .ok (.laload, 1) := by decide +kernel
theorem d_S_claimPending_32 : decode b_S_claimPending 32 = .ok (.invokestatic 236, 3) := by decide +kernel
theorem d_S_claimPending_35 : decode b_S_claimPending 35 = .ok (.invokestatic 297, 3) := by decide +kernel
theorem d_S_claimPending_38 : decode b_S_claimPending 38 = .ok (.invokestatic 300, 3) := by decide +kernel
theorem d_S_claimPending_41 : decode b_S_claimPending 41 = .ok (.lastore, 1) := by decide +kernel
theorem d_S_claimPending_42 : decode b_S_claimPending 42 = .ok (.iinc 2 1, 3) := by decide +kernel
theorem d_S_claimPending_45 : decode b_S_claimPending 45 = .ok (.goto (-43), 3) := by decide +kernel
theorem d_S_claimPending_48 : decode b_S_claimPending 48 = .ok (.return_, 1) := by decide +kernel
theorem d_S_merge_0 : decode b_S_merge 0 = .ok (.aload_n 0, 1) := by decide +kernel
theorem d_S_merge_1 : decode b_S_merge 1 = .ok (.iload_n 1, 1) := by decide +kernel
theorem d_S_merge_2 : decode b_S_merge 2 = .ok (.invokevirtual 84, 3) := by decide +kernel
theorem d_S_merge_5 : decode b_S_merge 5 = .ok (.astore_n 3, 1) := by decide +kernel
theorem d_S_merge_6 : decode b_S_merge 6 = .ok (.aload_n 0, 1) := by decide +kernel
theorem d_S_merge_7 : decode b_S_merge 7 = .ok (.iload_n 2, 1) := by decide +kernel
theorem d_S_merge_8 : decode b_S_merge 8 = .ok (.invokevirtual 77, 3) := by decide +kernel
theorem d_S_merge_11 : decode b_S_merge 11 = .ok (.astore 4, 2) := by decide +kernel
theorem d_S_merge_13 : decode b_S_merge 13 = .ok (.aload_n 3, 1) := by decide +kernel
theorem d_S_merge_14 : decode b_S_merge 14 = .ok (.ifnull 8, 3) := by decide +kernel
theorem d_S_merge_17 : decode b_S_merge 17 = .ok (.aload 4, 2) := by decide +kernel
theorem d_S_merge_19 : decode b_S_merge 19 = .ok (.ifnonnull 11, 3) := by decide +kernel
theorem d_S_merge_22 : decode b_S_merge 22 = .ok (.new 81, 3) := by decide +kernel
theorem d_S_merge_25 : decode b_S_merge 25 = .ok (.dup, 1) := by decide +kernel
theorem d_S_merge_26 : decode b_S_merge 26 = .ok (.invokespecial 83, 3) := by decide +kernel
theorem d_S_merge_29 : decode b_S_merge 29 = .ok (.athrow, 1) := by decide +kernel
theorem d_S_merge_30 : decode b_S_merge 30 = .ok (.aload_n 0, 1) := by decide +kernel
theorem d_S_merge_31 : decode b_S_merge 31 = .ok (.aload_n 3, 1) := by decide +kernel
theorem d_S_merge_32 : decode b_S_merge 32 = .ok (.invokevirtual 157, 3) := by decide +kernel
theorem d_S_merge_35 : decode b_S_merge 35 = .ok (.ifCond .ne 18, 3) := by decide +kernel
theorem d_S_merge_38 : decode b_S_merge 38 = .ok (.aload_n 0, 1) := by decide +kernel
theorem d_S_merge_39 : decode b_S_merge 39 = .ok (.aload_n 3, 1) := by decide +kernel
theorem d_S_merge_40 : decode b_S_merge 40 = .ok (.getfield 169, 3) := by decide +kernel
theorem d_S_merge_43 : decode b_S_merge 43 = .ok (.invokevirtual 172, 3) := by decide +kernel
theorem d_S_merge_46 : decode b_S_merge 46 = .ok (.iload_n 2, 1) := by decide +kernel
theorem d_S_merge_47 : decode b_S_merge 47 = .ok (.invokestatic 186, 3) := by decide +kernel
theorem d_S_merge_50 : decode b_S_merge 50 = .ok (.ifCond .eq 11, 3) := by decide +kernel
theorem d_S_merge_53 : decode b_S_merge 53 = .ok (.new 88, 3) := by decide +kernel
theorem d_S_merge_56 : decode b_S_merge 56 = .ok (.dup, 1) := by decide +kernel
theorem d_S_merge_57 : decode b_S_merge 57 = .ok (.invokespecial 90, 3) := by decide +kernel
theorem d_S_merge_60 : decode b_S_merge 60 = .ok (.athrow, 1) := by decide +kernel
theorem d_S_merge_61 : decode b_S_merge 61 = .ok (.aload_n 0, 1) := by decide +kernel
theorem d_S_merge_62 : decode b_S_merge 62 = .ok (.iconst 1, 1) := by decide +kernel
theorem d_S_merge_63 : decode b_S_merge 63 = .ok (.aload_n 3, 1) := by decide +kernel
theorem d_S_merge_64 : decode b_S_merge 64 = .ok (.getfield 169, 3) := by decide +kernel
theorem d_S_merge_67 : decode b_S_merge 67 = .ok (.ishl, 1) := by decide +kernel
theorem d_S_merge_68 : decode b_S_merge 68 = .ok (.iload_n 2, 1) := by decide +kernel
theorem d_S_merge_69 : decode b_S_merge 69 = .ok (.iconst 0, 1) := by decide +kernel
theorem d_S_merge_70 : decode b_S_merge 70 = .ok (.invokevirtual 189, 3) := by decide +kernel
theorem d_S_merge_73 : decode b_S_merge 73 = .ok (.astore 5, 2) := by decide +kernel
theorem d_S_merge_75 : decode b_S_merge 75 = .ok (.aload_n 3, 1) := by decide +kernel
theorem d_S_merge_76 : decode b_S_merge 76 = .ok (.invokevirtual 193, 3) := by decide +kernel
theorem d_S_merge_79 : decode b_S_merge 79 = .ok (.astore 6, 2) := by decide +kernel
theorem d_S_merge_81 : decode b_S_merge 81 = .ok (.aload_n 0, 1) := by decide +kernel
theorem d_S_merge_82 : decode b_S_merge 82 = .ok (.aload_n 3, 1) := by decide +kernel
theorem d_S_merge_83 : decode b_S_merge 83 = .ok (.getfield 132, 3) := by decide +kernel
theorem d_S_merge_86 : decode b_S_merge 86 = .ok (.aload 4, 2) := by decide +kernel
theorem d_S_merge_88 : decode b_S_merge 88 = .ok (.getfield 91, 3) := by decide +kernel
theorem d_S_merge_91 : decode b_S_merge 91 = .ok (.aload 5, 2) := by decide +kernel
theorem d_S_merge_93 : decode b_S_merge 93 = .ok (.getfield 197, 3) := by decide +kernel
theorem d_S_merge_96 : decode b_S_merge 96 = .ok (.aload 6, 2) := by decide +kernel
theorem d_S_merge_98 : decode b_S_merge 98 = .ok (.invokevirtual 200, 3) := by decide +kernel
theorem d_S_merge_101 : decode b_S_merge 101 = .ok (.aload_n 3, 1) := by decide +kernel
theorem d_S_merge_102 : decode b_S_merge 102 = .ok (.iload_n 2, 1) := by decide +kernel
theorem d_S_merge_103 : decode b_S_merge 103 = .ok (.putfield 175, 3) := by decide +kernel
theorem d_S_merge_106 : decode b_S_merge 106 = .ok (.aload 6, 2) := by decide +kernel
theorem d_S_merge_108 : decode b_S_merge 108 = .ok (.getfield 204, 3) := by decide +kernel
theorem d_S_merge_111 : decode b_S_merge 111 = .ok (.ireturn, 1) := by decide +kernel
theorem d_S_baseOf_0 : decode b_S_baseOf 0 = .ok (.aload_n 0, 1) := by decide +kernel
theorem d_S_baseOf_1 : decode b_S_baseOf 1 = .ok (.iload_n 3, 1) := by decide +kernel
theorem d_S_baseOf_2 : decode b_S_baseOf 2 = .ok (.invokevirtual 307, 3) := by decide +kernel
theorem d_S_baseOf_5 : decode b_S_baseOf 5 = .ok (.astore 4, 2) := by decide +kernel
theorem d_S_baseOf_7 : decode b_S_baseOf 7 = .ok (.aload_n 0, 1) := by decide +kernel
theorem d_S_baseOf_8 : decode b_S_baseOf 8 = .ok (.iload_n 1, 1) := by decide +kernel
theorem d_S_baseOf_9 : decode b_S_baseOf 9 = .ok (.iload_n 2, 1) := by decide +kernel
theorem d_S_baseOf_10 : decode b_S_baseOf 10 = .ok (.invokevirtual 260, 3) := by decide +kernel
theorem d_S_baseOf_13 : decode b_S_baseOf 13 = .ok (.istore 5, 2) := by decide +kernel
theorem d_S_baseOf_15 : decode b_S_baseOf 15 = .ok (.iconst 0, 1) := by decide +kernel
theorem d_S_baseOf_16 : decode b_S_baseOf 16 = .ok (.istore 6, 2) := by decide +kernel
theorem d_S_baseOf_18 : decode b_S_baseOf 18 = .ok (.iconst 0, 1) := by decide +kernel
theorem d_S_baseOf_19 : decode b_S_baseOf 19 = .ok (.istore 7, 2) := by decide +kernel
theorem d_S_baseOf_21 : decode b_S_baseOf 21 = .ok (.iload 7, 2) := by decide +kernel
theorem d_S_baseOf_23 : decode b_S_baseOf 23 = .ok (.aload_n 0, 1) := by decide +kernel
theorem d_S_baseOf_24 : decode b_S_baseOf 24 = .ok (.getfield 54, 3) := by decide +kernel
theorem d_S_baseOf_27 : decode b_S_baseOf 27 = .ok (.if_icmp .ge 39, 3) := by decide +kernel
theorem d_S_baseOf_30 : decode b_S_baseOf 30 = .ok (.iload 5, 2) := by decide +kernel
theorem d_S_baseOf_32 : decode b_S_baseOf 32 = .ok (.iload 7, 2) := by decide +kernel
theorem d_S_baseOf_34 : decode b_S_baseOf 34 = .ok (.invokestatic 186, 3) := by decide +kernel
theorem d_S_baseOf_37 : decode b_S_baseOf 37 = .ok (.ifCond .eq 23, 3) := by decide +kernel
theorem d_S_baseOf_40 : decode b_S_baseOf 40 = .ok (.aload_n 0, 1) := by decide +kernel
theorem d_S_baseOf_41 : decode b_S_baseOf 41 = .ok (.aload 4, 2) := by decide +kernel
theorem d_S_baseOf_43 : decode b_S_baseOf 43 = .ok (.iload 6, 2) := by decide +kernel
theorem d_S_baseOf_45 : decode b_S_baseOf 45 = .ok (.iload 7, 2) := by decide +kernel
theorem d_S_baseOf_47 : decode b_S_baseOf 47 = .ok (.iload_n 3, 1) := by decide +kernel
theorem d_S_baseOf_48 : decode b_S_baseOf 48 = .ok (.invokevirtual 311, 3) := by decide +kernel
theorem d_S_baseOf_51 : decode b_S_baseOf 51 = .ok (.iload 6, 2) := by decide +kernel
theorem d_S_baseOf_53 : decode b_S_baseOf 53 = .ok (.iconst 1, 1) := by decide +kernel
theorem d_S_baseOf_54 : decode b_S_baseOf 54 = .ok (.iload 7, 2) := by decide +kernel
theorem d_S_baseOf_56 : decode b_S_baseOf 56 = .ok (.ishl, 1) := by decide +kernel
theorem d_S_baseOf_57 : decode b_S_baseOf 57 = .ok (.ior, 1) := by decide +kernel
theorem d_S_baseOf_58 : decode b_S_baseOf 58 = .ok (.istore 6, 2) := by decide +kernel
theorem d_S_baseOf_60 : decode b_S_baseOf 60 = .ok (.iinc 7 1, 3) := by decide +kernel
theorem d_S_baseOf_63 : decode b_S_baseOf 63 = .ok (.goto (-42), 3) := by decide +kernel
theorem d_S_baseOf_66 : decode b_S_baseOf 66 = .ok (.aload 4, 2) := by decide +kernel
theorem d_S_baseOf_68 : decode b_S_baseOf 68 = .ok (.areturn, 1) := by decide +kernel
theorem d_S_baseRowAt_0 : decode b_S_baseRowAt 0 = .ok (.aload_n 0, 1) := by decide +kernel
theorem d_S_baseRowAt_1 : decode b_S_baseRowAt 1 = .ok (.getfield 39, 3) := by decide +kernel
theorem d_S_baseRowAt_4 : decode b_S_baseRowAt 4 = .ok (.iload_n 1, 1) := by decide +kernel
theorem d_S_baseRowAt_5 : decode b_S_baseRowAt 5 = .ok (.aaload, 1) := by decide +kernel
theorem d_S_baseRowAt_6 : decode b_S_baseRowAt 6 = .ok (.ifnonnull 16, 3) := by decide +kernel
theorem d_S_baseRowAt_9 : decode b_S_baseRowAt 9 = .ok (.aload_n 0, 1) := by decide +kernel
theorem d_S_baseRowAt_10 : decode b_S_baseRowAt 10 = .ok (.getfield 39, 3) := by decide +kernel
theorem d_S_baseRowAt_13 : decode b_S_baseRowAt 13 = .ok (.iload_n 1, 1) := by decide +kernel
theorem d_S_baseRowAt_14 : decode b_S_baseRowAt 14 = .ok (.new 37, 3) := by decide +kernel
theorem d_S_baseRowAt_17 : decode b_S_baseRowAt 17 = .ok (.dup, 1) := by decide +kernel
theorem d_S_baseRowAt_18 : decode b_S_baseRowAt 18 = .ok (.invokespecial 323, 3) := by decide +kernel
theorem d_S_baseRowAt_21 : decode b_S_baseRowAt 21 = .ok (.aastore, 1) := by decide +kernel
theorem d_S_baseRowAt_22 : decode b_S_baseRowAt 22 = .ok (.aload_n 0, 1) := by decide +kernel
theorem d_S_baseRowAt_23 : decode b_S_baseRowAt 23 = .ok (.getfield 39, 3) := by decide +kernel
theorem d_S_baseRowAt_26 : decode b_S_baseRowAt 26 = .ok (.iload_n 1, 1) := by decide +kernel
theorem d_S_baseRowAt_27 : decode b_S_baseRowAt 27 = .ok (.aaload, 1) := by decide +kernel
theorem d_S_baseRowAt_28 : decode b_S_baseRowAt 28 = .ok (.areturn, 1) := by decide +kernel
theorem d_R_init_0 : decode b_R_init 0 = .ok (.aload_n 0, 1) := by decide +kernel
theorem d_R_init_1 : decode b_R_init 1 = .ok (.invokespecial 3, 3) := by decide +kernel
theorem d_R_init_4 : decode b_R_init 4 = .ok (.aload_n 0, 1) := by decide +kernel
theorem d_R_init_5 : decode b_R_init 5 = .ok (.sipush 4096, 3) := by decide +kernel
theorem d_R_init_8 : decode b_R_init 8 = .ok (.newarray .int, 2) := by decide +kernel
theorem d_R_init_10 : decode b_R_init 10 = .ok (.putfield 9, 3) := by decide +kernel
theorem d_R_init_13 : decode b_R_init 13 = .ok (.return_, 1) := by decide +kernel
theorem d_S_joinBase_0 : decode b_S_joinBase 0 = .ok (.aload_n 0, 1) := by decide +kernel
theorem d_S_joinBase_1 : decode b_S_joinBase 1 = .ok (.iload_n 3, 1) := by decide +kernel
theorem d_S_joinBase_2 : decode b_S_joinBase 2 = .ok (.invokevirtual 77, 3) := by decide +kernel
theorem d_S_joinBase_5 : decode b_S_joinBase 5 = .ok (.astore 5, 2) := by decide +kernel
theorem d_S_joinBase_7 : decode b_S_joinBase 7 = .ok (.aload 5, 2) := by decide +kernel
theorem d_S_joinBase_9 : decode b_S_joinBase 9 = .ok (.ifnonnull 4, 3) := by decide +kernel
theorem d_S_joinBase_12 : decode b_S_joinBase 12 = .ok (.return_, 1) := by decide +kernel
theorem d_S_joinBase_13 : decode b_S_joinBase 13 = .ok (.iload_n 2, 1) := by decide +kernel
theorem d_S_joinBase_14 : decode b_S_joinBase 14 = .ok (.ifCond .ne 15, 3) := by decide +kernel
theorem d_S_joinBase_17 : decode b_S_joinBase 17 = .ok (.aload_n 1, 1) := by decide +kernel
theorem d_S_joinBase_18 : decode b_S_joinBase 18 = .ok (.aload 5, 2) := by decide +kernel
theorem d_S_joinBase_20 : decode b_S_joinBase 20 = .ok (.getfield 91, 3) := by decide +kernel
theorem d_S_joinBase_23 : decode b_S_joinBase 23 = .ok (.invokevirtual 315, 3) := by decide +kernel
theorem d_S_joinBase_26 : decode b_S_joinBase 26 = .ok (.goto 34, 3) := by decide +kernel
theorem d_S_joinBase_29 : decode b_S_joinBase 29 = .ok (.iload 4, 2) := by decide +kernel
theorem d_S_joinBase_31 : decode b_S_joinBase 31 = .ok (.iconst 1, 1) := by decide +kernel
theorem d_S_joinBase_32 : decode b_S_joinBase 32 = .ok (.iadd, 1) := by decide +kernel
theorem d_S_joinBase_33 : decode b_S_joinBase 33 = .ok (.bipush 24, 2) := by decide +kernel
theorem d_S_joinBase_35 : decode b_S_joinBase 35 = .ok (.if_icmp .ge 25, 3) := by decide +kernel
theorem d_S_joinBase_38 : decode b_S_joinBase 38 = .ok (.aload_n 1, 1) := by decide +kernel
theorem d_S_joinBase_39 : decode b_S_joinBase 39 = .ok (.aload 5, 2) := by decide +kernel
theorem d_S_joinBase_41 : decode b_S_joinBase 41 = .ok (.getfield 91, 3) := by decide +kernel
theorem d_S_joinBase_44 : decode b_S_joinBase 44 = .ok (.aload_n 0, 1) := by decide +kernel
theorem d_S_joinBase_45 : decode b_S_joinBase 45 = .ok (.iload_n 2, 1) := by decide +kernel
theorem d_S_joinBase_46 : decode b_S_joinBase 46 = .ok (.iload_n 3, 1) := by decide +kernel
theorem d_S_joinBase_47 : decode b_S_joinBase 47 = .ok (.iload 4, 2) := by decide +kernel
theorem d_S_joinBase_49 : decode b_S_joinBase 49 = .ok (.iconst 1, 1) := by decide +kernel
theorem d_S_joinBase_50 : decode b_S_joinBase 50 = .ok (.iadd, 1) := by decide +kernel
theorem d_S_joinBase_51 : decode b_S_joinBase 51 = .ok (.invokevirtual 189, 3) := by decide +kernel
theorem d_S_joinBase_54 : decode b_S_joinBase 54 = .ok (.getfield 197, 3) := by decide +kernel
theorem d_S_joinBase_57 : decode b_S_joinBase 57 = .ok (.invokevirtual 319, 3) := by decide +kernel
theorem d_S_joinBase_60 : decode b_S_joinBase 60 = .ok (.return_, 1) := by decide +kernel
theorem d_R_take_0 : decode b_R_take 0 = .ok (.iconst 0, 1) := by decide +kernel
theorem d_R_take_1 : decode b_R_take 1 = .ok (.istore_n 2, 1) := by decide +kernel
theorem d_R_take_2 : decode b_R_take 2 = .ok (.iload_n 2, 1) := by decide +kernel
theorem d_R_take_3 : decode b_R_take 3 = .ok (.sipush 4096, 3) := by decide +kernel
theorem d_R_take_6 : decode b_R_take 6 = .ok (.if_icmp .ge 21, 3) := by decide +kernel
theorem d_R_take_9 : decode b_R_take 9 = .ok (.aload_n 0, 1) := by decide +kernel
theorem d_R_take_10 : decode b_R_take 10 = .ok (.getfield 9, 3) := by decide +kernel
theorem d_R_take_13 : decode b_R_take 13 = .ok (.iload_n 2, 1) := by decide +kernel
theorem d_R_take_14 : decode b_R_take 14 = .ok (.aload_n 1, 1) := by decide +kernel
theorem d_R_take_15 : decode b_R_take 15 = .ok (.iload_n 2, 1) := by decide +kernel
theorem d_R_take_16 : decode b_R_take 16 = .ok (.laload, 1) := by decide +kernel
theorem d_R_take_17 : decode b_R_take 17 = .ok (.invokestatic 15, 3) := by decide +kernel
theorem d_R_take_20 : decode b_R_take 20 = .ok (.iastore, 1) := by decide +kernel
theorem d_R_take_21 : decode b_R_take 21 = .ok (.iinc 2 1, 3) := by decide +kernel
theorem d_R_take_24 : decode b_R_take 24 = .ok (.goto (-22), 3) := by decide +kernel
theorem d_R_take_27 : decode b_R_take 27 = .ok (.return_, 1) := by decide +kernel
theorem d_R_mergeWith_0 : decode b_R_mergeWith 0 = .ok (.iconst 0, 1) := by decide +kernel
theorem d_R_mergeWith_1 : decode b_R_mergeWith 1 = .ok (.istore_n 3, 1) := by decide +kernel
theorem d_R_mergeWith_2 : decode b_R_mergeWith 2 = .ok (.iload_n 3, 1) := by decide +kernel
theorem d_R_mergeWith_3 : decode b_R_mergeWith 3 = .ok (.sipush 4096, 3) := by decide +kernel
theorem d_R_mergeWith_6 : decode b_R_mergeWith 6 = .ok (.if_icmp .ge 65, 3) := by decide +kernel
theorem d_R_mergeWith_9 : decode b_R_mergeWith 9 = .ok (.aload_n 1, 1) := by decide +kernel
theorem d_R_mergeWith_10 : decode b_R_mergeWith 10 = .ok (.iload_n 3, 1) := by decide +kernel
theorem d_R_mergeWith_11 : decode b_R_mergeWith 11 = .ok (.laload, 1) := by decide +kernel
theorem d_R_mergeWith_12 : decode b_R_mergeWith 12 = .ok (.invokestatic 15, 3) := by decide +kernel
theorem d_R_mergeWith_15 : decode b_R_mergeWith 15 = .ok (.istore 4, 2) := by decide +kernel
theorem d_R_mergeWith_17 : decode b_R_mergeWith 17 = .ok (.aload_n 0, 1) := by decide +kernel
theorem d_R_mergeWith_18 : decode b_R_mergeWith 18 = .ok (.getfield 9, 3) := by decide +kernel
theorem d_R_mergeWith_21 : decode b_R_mergeWith 21 = .ok (.iload_n 3, 1) := by decide +kernel
theorem d_R_mergeWith_22 : decode b_R_mergeWith 22 = .ok (.iaload, 1) := by decide +kernel
theorem d_R_mergeWith_23 : decode b_R_mergeWith 23 = .ok (.aload_n 2, 1) := by decide +kernel
theorem d_R_mergeWith_24 : decode b_R_mergeWith 24 = .ok (.iload_n 3, 1) := by decide +kernel
theorem d_R_mergeWith_25 : decode b_R_mergeWith 25 = .ok (.iaload, 1) := by decide +kernel
theorem d_R_mergeWith_26 : decode b_R_mergeWith 26 = .ok (.if_icmp .ne 14, 3) := by decide +kernel
theorem d_R_mergeWith_29 : decode b_R_mergeWith 29 = .ok (.aload_n 0, 1) := by decide +kernel
theorem d_R_mergeWith_30 : decode b_R_mergeWith 30 = .ok (.getfield 9, 3) := by decide +kernel
theorem d_R_mergeWith_33 : decode b_R_mergeWith 33 = .ok (.iload_n 3, 1) := by decide +kernel
theorem d_R_mergeWith_34 : decode b_R_mergeWith 34 = .ok (.iload 4, 2) := by decide +kernel
theorem d_R_mergeWith_36 : decode b_R_mergeWith 36 = .ok (.iastore, 1) := by decide +kernel
theorem d_R_mergeWith_37 : decode b_R_mergeWith 37 = .ok (.goto 28, 3) := by decide +kernel
theorem d_R_mergeWith_40 : decode b_R_mergeWith 40 = .ok (.aload_n 0, 1) := by decide +kernel
theorem d_R_mergeWith_41 : decode b_R_mergeWith 41 = .ok (.getfield 9, 3) := by decide +kernel
theorem d_R_mergeWith_44 : decode b_R_mergeWith 44 = .ok (.iload_n 3, 1) := by decide +kernel
theorem d_R_mergeWith_45 : decode b_R_mergeWith 45 = .ok (.iaload, 1) := by decide +kernel
theorem d_R_mergeWith_46 : decode b_R_mergeWith 46 = .ok (.iload 4, 2) := by decide +kernel
theorem d_R_mergeWith_48 : decode b_R_mergeWith 48 = .ok (.aload_n 2, 1) := by decide +kernel
theorem d_R_mergeWith_49 : decode b_R_mergeWith 49 = .ok (.iload_n 3, 1) := by decide +kernel
theorem d_R_mergeWith_50 : decode b_R_mergeWith 50 = .ok (.iaload, 1) := by decide +kernel
theorem d_R_mergeWith_51 : decode b_R_mergeWith 51 = .ok (.invokestatic 19, 3) := by decide +kernel
theorem d_R_mergeWith_54 : decode b_R_mergeWith 54 = .ok (.ifCond .eq 11, 3) := by decide +kernel
theorem d_R_mergeWith_57 : decode b_R_mergeWith 57 = .ok (.aload_n 0, 1) := by decide +kernel
theorem d_R_mergeWith_58 : decode b_R_mergeWith 58 = .ok (.getfield 9, 3) := by decide +kernel
theorem d_R_mergeWith_61 : decode b_R_mergeWith 61 = .ok (.iload_n 3, 1) := by decide +kernel
theorem d_R_mergeWith_62 : decode b_R_mergeWith 62 = .ok (.ldc 23, 2) := by decide +kernel
theorem d_R_mergeWith_64 : decode b_R_mergeWith 64 = .ok (.iastore, 1) := by decide +kernel
theorem d_R_mergeWith_65 : decode b_R_mergeWith 65 = .ok (.iinc 3 1, 3) := by decide +kernel
theorem d_R_mergeWith_68 : decode b_R_mergeWith 68 = .ok (.goto (-66), 3) := by decide +kernel
theorem d_R_mergeWith_71 : decode b_R_mergeWith 71 = .ok (.return_, 1) := by decide +kernel
theorem d_S_isConflict_0 : decode b_S_isConflict 0 = .ok (.iload_n 0, 1) := by decide +kernel
theorem d_S_isConflict_1 : decode b_S_isConflict 1 = .ok (.iload_n 2, 1) := by decide +kernel
theorem d_S_isConflict_2 : decode b_S_isConflict 2 = .ok (.if_icmp .eq 17, 3) := by decide +kernel
theorem d_S_isConflict_5 : decode b_S_isConflict 5 = .ok (.iload_n 1, 1) := by decide +kernel
theorem d_S_isConflict_6 : decode b_S_isConflict 6 = .ok (.iload_n 2, 1) := by decide +kernel
theorem d_S_isConflict_7 : decode b_S_isConflict 7 = .ok (.if_icmp .eq 12, 3) := by decide +kernel
theorem d_S_isConflict_10 : decode b_S_isConflict 10 = .ok (.iload_n 0, 1) := by decide +kernel
theorem d_S_isConflict_11 : decode b_S_isConflict 11 = .ok (.iload_n 1, 1) := by decide +kernel
theorem d_S_isConflict_12 : decode b_S_isConflict 12 = .ok (.if_icmp .eq 7, 3) := by decide +kernel
theorem d_S_isConflict_15 : decode b_S_isConflict 15 = .ok (.iconst 1, 1) := by decide +kernel
theorem d_S_isConflict_16 : decode b_S_isConflict 16 = .ok (.goto 4, 3) := by decide +kernel
theorem d_S_isConflict_19 : decode b_S_isConflict 19 = .ok (.iconst 0, 1) := by decide +kernel
theorem d_S_isConflict_20 : decode b_S_isConflict 20 = .ok (.ireturn, 1) := by decide +kernel
theorem d_B_freshConflicts_0 : decode b_B_freshConflicts 0 = .ok (.aload_n 0, 1) := by decide +kernel
theorem d_B_freshConflicts_1 : decode b_B_freshConflicts 1 = .ok (.getfield 36, 3) := by decide +kernel
theorem d_B_freshConflicts_4 : decode b_B_freshConflicts 4 = .ok (.ifnonnull 14, 3) := by decide +kernel
theorem d_B_freshConflicts_7 : decode b_B_freshConflicts 7 = .ok (.aload_n 0, 1) := by decide +kernel
theorem d_B_freshConflicts_8 : decode b_B_freshConflicts 8 = .ok (.new 41, 3) := by decide +kernel
theorem d_B_freshConflicts_11 : decode b_B_freshConflicts 11 = .ok (.dup, 1) := by decide +kernel
theorem d_B_freshConflicts_12 : decode b_B_freshConflicts 12 = .ok (.invokespecial 45, 3) := by decide +kernel
theorem d_B_freshConflicts_15 : decode b_B_freshConflicts 15 = .ok (.putfield 36, 3) := by decide +kernel
theorem d_B_freshConflicts_18 : decode b_B_freshConflicts 18 = .ok (.aload_n 0, 1) := by decide +kernel
theorem d_B_freshConflicts_19 : decode b_B_freshConflicts 19 = .ok (.getfield 36, 3) := by decide +kernel
theorem d_B_freshConflicts_22 : decode b_B_freshConflicts 22 = .ok (.invokevirtual 40, 3) := by decide +kernel
theorem d_B_freshConflicts_25 : decode b_B_freshConflicts 25 = .ok (.aload_n 0, 1) := by decide +kernel
theorem d_B_freshConflicts_26 : decode b_B_freshConflicts 26 = .ok (.getfield 36, 3) := by decide +kernel
theorem d_B_freshConflicts_29 : decode b_B_freshConflicts 29 = .ok (.areturn, 1) := by decide +kernel
theorem d_K_init_0 : decode b_K_init 0 = .ok (.aload_n 0, 1) := by decide +kernel
theorem d_K_init_1 : decode b_K_init 1 = .ok (.invokespecial 3, 3) := by decide +kernel
theorem d_K_init_4 : decode b_K_init 4 = .ok (.aload_n 0, 1) := by decide +kernel
theorem d_K_init_5 : decode b_K_init 5 = .ok (.sipush 4096, 3) := by decide +kernel
theorem d_K_init_8 : decode b_K_init 8 = .ok (.newarray .int, 2) := by decide +kernel
theorem d_K_init_10 : decode b_K_init 10 = .ok (.putfield 9, 3) := by decide +kernel
theorem d_K_init_13 : decode b_K_init 13 = .ok (.aload_n 0, 1) := by decide +kernel
theorem d_K_init_14 : decode b_K_init 14 = .ok (.sipush 4096, 3) := by decide +kernel
theorem d_K_init_17 : decode b_K_init 17 = .ok (.newarray .int, 2) := by decide +kernel
theorem d_K_init_19 : decode b_K_init 19 = .ok (.putfield 15, 3) := by decide +kernel
theorem d_K_init_22 : decode b_K_init 22 = .ok (.aload_n 0, 1) := by decide +kernel
theorem d_K_init_23 : decode b_K_init 23 = .ok (.sipush 4096, 3) := by decide +kernel
theorem d_K_init_26 : decode b_K_init 26 = .ok (.newarray .int, 2) := by decide +kernel
theorem d_K_init_28 : decode b_K_init 28 = .ok (.putfield 18, 3) := by decide +kernel
theorem d_K_init_31 : decode b_K_init 31 = .ok (.aload_n 0, 1) := by decide +kernel
theorem d_K_init_32 : decode b_K_init 32 = .ok (.sipush 4096, 3) := by decide +kernel
theorem d_K_init_35 : decode b_K_init 35 = .ok (.newarray .int, 2) := by decide +kernel
theorem d_K_init_37 : decode b_K_init 37 = .ok (.putfield 21, 3) := by decide +kernel
theorem d_K_init_40 : decode b_K_init 40 = .ok (.aload_n 0, 1) := by decide +kernel
theorem d_K_init_41 : decode b_K_init 41 = .ok (.sipush 4096, 3) := by decide +kernel
theorem d_K_init_44 : decode b_K_init 44 = .ok (.newarray .boolean, 2) := by decide +kernel
theorem d_K_init_46 : decode b_K_init 46 = .ok (.putfield 24, 3) := by decide +kernel
theorem d_K_init_49 : decode b_K_init 49 = .ok (.return_, 1) := by decide +kernel
theorem d_S_mergeCells_0 : decode b_S_mergeCells 0 = .ok (.iconst 0, 1) := by decide +kernel
theorem d_S_mergeCells_1 : decode b_S_mergeCells 1 = .ok (.istore 5, 2) := by decide +kernel
theorem d_S_mergeCells_3 : decode b_S_mergeCells 3 = .ok (.iload 5, 2) := by decide +kernel
theorem d_S_mergeCells_5 : decode b_S_mergeCells 5 = .ok (.sipush 4096, 3) := by decide +kernel
theorem d_S_mergeCells_8 : decode b_S_mergeCells 8 = .ok (.if_icmp .ge 127, 3) := by decide +kernel
theorem d_S_mergeCells_11 : decode b_S_mergeCells 11 = .ok (.aload_n 1, 1) := by decide +kernel
theorem d_S_mergeCells_12 : decode b_S_mergeCells 12 = .ok (.iload 5, 2) := by decide +kernel
theorem d_S_mergeCells_14 : decode b_S_mergeCells 14 = .ok (.laload, 1) := by decide +kernel
theorem d_S_mergeCells_15 : decode b_S_mergeCells 15 = .ok (.invokestatic 142, 3) := by decide +kernel
theorem d_S_mergeCells_18 : decode b_S_mergeCells 18 = .ok (.istore 6, 2) := by decide +kernel
theorem d_S_mergeCells_20 : decode b_S_mergeCells 20 = .ok (.aload_n 2, 1) := by decide +kernel
theorem d_S_mergeCells_21 : decode b_S_mergeCells 21 = .ok (.iload 5, 2) := by decide +kernel
theorem d_S_mergeCells_23 : decode b_S_mergeCells 23 = .ok (.laload, 1) := by decide +kernel
theorem d_S_mergeCells_24 : decode b_S_mergeCells 24 = .ok (.invokestatic 142, 3) := by decide +kernel
theorem d_S_mergeCells_27 : decode b_S_mergeCells 27 = .ok (.istore 7, 2) := by decide +kernel
theorem d_S_mergeCells_29 : decode b_S_mergeCells 29 = .ok (.aload_n 0, 1) := by decide +kernel
theorem d_S_mergeCells_30 : decode b_S_mergeCells 30 = .ok (.getfield 9, 3) := by decide +kernel
theorem d_S_mergeCells_33 : decode b_S_mergeCells 33 = .ok (.iload 5, 2) := by decide +kernel
theorem d_S_mergeCells_35 : decode b_S_mergeCells 35 = .ok (.invokestatic 239, 3) := by decide +kernel
theorem d_S_mergeCells_38 : decode b_S_mergeCells 38 = .ok (.iaload, 1) := by decide +kernel
theorem d_S_mergeCells_39 : decode b_S_mergeCells 39 = .ok (.istore 8, 2) := by decide +kernel
theorem d_S_mergeCells_41 : decode b_S_mergeCells 41 = .ok (.iload 6, 2) := by decide +kernel
theorem d_S_mergeCells_43 : decode b_S_mergeCells 43 = .ok (.iload 7, 2) := by decide +kernel
theorem d_S_mergeCells_45 : decode b_S_mergeCells 45 = .ok (.aload_n 3, 1) := by decide +kernel
theorem d_S_mergeCells_46 : decode b_S_mergeCells 46 = .ok (.iload 5, 2) := by decide +kernel
theorem d_S_mergeCells_48 : decode b_S_mergeCells 48 = .ok (.iaload, 1) := by decide +kernel
theorem d_S_mergeCells_49 : decode b_S_mergeCells 49 = .ok (.invokestatic 324, 3) := by decide +kernel
theorem d_S_mergeCells_52 : decode b_S_mergeCells 52 = .ok (.ifCond .eq 53, 3) := by decide +kernel
theorem d_S_mergeCells_55 : decode b_S_mergeCells 55 = .ok (.iload 8, 2) := by decide +kernel
theorem d_S_mergeCells_57 : decode b_S_mergeCells 57 = .ok (.ifCond .ne 21, 3) := by decide +kernel
theorem d_S_mergeCells_60 : decode b_S_mergeCells 60 = .ok (.aload 4, 2) := by decide +kernel
theorem d_S_mergeCells_62 : decode b_S_mergeCells 62 = .ok (.iload 5, 2) := by decide +kernel
theorem d_S_mergeCells_64 : decode b_S_mergeCells 64 = .ok (.iload 6, 2) := by decide +kernel
theorem d_S_mergeCells_66 : decode b_S_mergeCells 66 = .ok (.iload 7, 2) := by decide +kernel
theorem d_S_mergeCells_68 : decode b_S_mergeCells 68 = .ok (.aload_n 3, 1) := by decide +kernel
theorem d_S_mergeCells_69 : decode b_S_mergeCells 69 = .ok (.iload 5, 2) := by decide +kernel
theorem d_S_mergeCells_71 : decode b_S_mergeCells 71 = .ok (.iaload, 1) := by decide +kernel
theorem d_S_mergeCells_72 : decode b_S_mergeCells 72 = .ok (.invokevirtual 327, 3) := by decide +kernel
theorem d_S_mergeCells_75 : decode b_S_mergeCells 75 = .ok (.goto 54, 3) := by decide +kernel
theorem d_S_mergeCells_78 : decode b_S_mergeCells 78 = .ok (.iload 8, 2) := by decide +kernel
theorem d_S_mergeCells_80 : decode b_S_mergeCells 80 = .ok (.aload_n 1, 1) := by decide +kernel
theorem d_S_mergeCells_81 : decode b_S_mergeCells 81 = .ok (.iload 5, 2) := by decide +kernel
theorem d_S_mergeCells_83 : decode b_S_mergeCells 83 = .ok (.laload, 1) := by decide +kernel
theorem d_S_mergeCells_84 : decode b_S_mergeCells 84 = .ok (.aload_n 2, 1) := by decide +kernel
theorem d_S_mergeCells_85 : decode b_S_mergeCells 85 = .ok (.iload 5, 2) := by decide +kernel
theorem d_S_mergeCells_87 : decode b_S_mergeCells 87 = .ok (.laload, 1) := by decide +kernel
theorem d_S_mergeCells_88 : decode b_S_mergeCells 88 = .ok (.invokestatic 331, 3) := by decide +kernel
theorem d_S_mergeCells_91 : decode b_S_mergeCells 91 = .ok (.ifCond .eq 38, 3) := by decide +kernel
theorem d_S_mergeCells_94 : decode b_S_mergeCells 94 = .ok (.aload_n 1, 1) := by decide +kernel
theorem d_S_mergeCells_95 : decode b_S_mergeCells 95 = .ok (.iload 5, 2) := by decide +kernel
theorem d_S_mergeCells_97 : decode b_S_mergeCells 97 = .ok (.aload_n 2, 1) := by decide +kernel
theorem d_S_mergeCells_98 : decode b_S_mergeCells 98 = .ok (.iload 5, 2) := by decide +kernel
theorem d_S_mergeCells_100 : decode b_S_mergeCells 100 = .ok (.laload, 1) := by decide +kernel
theorem d_S_mergeCells_101 : decode b_S_mergeCells 101 = .ok (.lastore, 1) := by decide +kernel
theorem d_S_mergeCells_102 : decode b_S_mergeCells 102 = .ok (.goto 27, 3) := by decide +kernel
theorem d_S_mergeCells_105 : decode b_S_mergeCells 105 = .ok (.iload 6, 2) := by decide +kernel
theorem d_S_mergeCells_107 : decode b_S_mergeCells 107 = .ok (.aload_n 3, 1) := by decide +kernel
theorem d_S_mergeCells_108 : decode b_S_mergeCells 108 = .ok (.iload 5, 2) := by decide +kernel
theorem d_S_mergeCells_110 : decode b_S_mergeCells 110 = .ok (.iaload, 1) := by decide +kernel
theorem d_S_mergeCells_111 : decode b_S_mergeCells 111 = .ok (.if_icmp .ne 18, 3) := by decide +kernel
theorem d_S_mergeCells_114 : decode b_S_mergeCells 114 = .ok (.iload 6, 2) := by decide +kernel
theorem d_S_mergeCells_116 : decode b_S_mergeCells 116 = .ok (.iload 7, 2) := by decide +kernel
theorem d_S_mergeCells_118 : decode b_S_mergeCells 118 = .ok (.if_icmp .eq 11, 3) := by decide +kernel
theorem d_S_mergeCells_121 : decode b_S_mergeCells 121 = .ok (.aload_n 1, 1) := by decide +kernel
theorem d_S_mergeCells_122 : decode b_S_mergeCells 122 = .ok (.iload 5, 2) := by decide +kernel
theorem d_S_mergeCells_124 : decode b_S_mergeCells 124 = .ok (.aload_n 2, 1) := by decide +kernel
theorem d_S_mergeCells_125 : decode b_S_mergeCells 125 = .ok (.iload 5, 2) := by decide +kernel
theorem d_S_mergeCells_127 : decode b_S_mergeCells 127 = .ok (.laload, 1) := by decide +kernel
theorem d_S_mergeCells_128 : decode b_S_mergeCells 128 = .ok (.lastore, 1) := by decide +kernel
theorem d_S_mergeCells_129 : decode b_S_mergeCells 129 = .ok (.iinc 5 1, 3) := by decide +kernel
theorem d_S_mergeCells_132 : decode b_S_mergeCells 132 = .ok (.goto (-129), 3) := by decide +kernel
theorem d_S_mergeCells_135 : decode b_S_mergeCells 135 = .ok (.return_, 1) := by decide +kernel
theorem d_K_add_0 : decode b_K_add 0 = .ok (.aload_n 0, 1) := by decide +kernel
theorem d_K_add_1 : decode b_K_add 1 = .ok (.getfield 28, 3) := by decide +kernel
theorem d_K_add_4 : decode b_K_add 4 = .ok (.sipush 4096, 3) := by decide +kernel
theorem d_K_add_7 : decode b_K_add 7 = .ok (.if_icmp .lt 4, 3) := by decide +kernel
theorem d_K_add_10 : decode b_K_add 10 = .ok (.return_, 1) := by decide +kernel
theorem d_K_add_11 : decode b_K_add 11 = .ok (.aload_n 0, 1) := by decide +kernel
theorem d_K_add_12 : decode b_K_add 12 = .ok (.getfield 9, 3) := by decide +kernel
theorem d_K_add_15 : decode b_K_add 15 = .ok (.aload_n 0, 1) := by decide +kernel
theorem d_K_add_16 : decode b_K_add 16 = .ok (.getfield 28, 3) := by decide +kernel
theorem d_K_add_19 : decode b_K_add 19 = .ok (.iload_n 1, 1) := by decide +kernel
theorem d_K_add_20 : decode b_K_add 20 = .ok (.iastore, 1) := by decide +kernel
theorem d_K_add_21 : decode b_K_add 21 = .ok (.aload_n 0, 1) := by decide +kernel
theorem d_K_add_22 : decode b_K_add 22 = .ok (.getfield 15, 3) := by decide +kernel
theorem d_K_add_25 : decode b_K_add 25 = .ok (.aload_n 0, 1) := by decide +kernel
theorem d_K_add_26 : decode b_K_add 26 = .ok (.getfield 28, 3) := by decide +kernel
theorem d_K_add_29 : decode b_K_add 29 = .ok (.iload_n 2, 1) := by decide +kernel
theorem d_K_add_30 : decode b_K_add 30 = .ok (.iastore, 1) := by decide +kernel
theorem d_K_add_31 : decode b_K_add 31 = .ok (.aload_n 0, 1) := by decide +kernel
theorem d_K_add_32 : decode b_K_add 32 = .ok (.getfield 18, 3) := by decide +kernel
theorem d_K_add_35 : decode b_K_add 35 = .ok (.aload_n 0, 1) := by decide +kernel
theorem d_K_add_36 : decode b_K_add 36 = .ok (.getfield 28, 3) := by decide +kernel
theorem d_K_add_39 : decode b_K_add 39 = .ok (.iload_n 3, 1) := by decide +kernel
theorem d_K_add_40 : decode b_K_add 40 = .ok (.iastore, 1) := by decide +kernel
theorem d_K_add_41 : decode b_K_add 41 = .ok (.aload_n 0, 1) := by decide +kernel
theorem d_K_add_42 : decode b_K_add 42 = .ok (.getfield 21, 3) := by decide +kernel
theorem d_K_add_45 : decode b_K_add 45 = .ok (.aload_n 0, 1) := by decide +kernel
theorem d_K_add_46 : decode b_K_add 46 = .ok (.getfield 28, 3) := by decide +kernel
theorem d_K_add_49 : decode b_K_add 49 = .ok (.iload 4, 2) := by decide +kernel
theorem d_K_add_51 : decode b_K_add 51 = .ok (.iastore, 1) := by decide +kernel
theorem d_K_add_52 : decode b_K_add 52 = .ok (.aload_n 0, 1) := by decide +kernel
theorem d_K_add_53 : decode b_K_add 53 = .ok (.getfield 24, 3) := by decide +kernel
theorem d_K_add_56 : decode b_K_add 56 = .ok (.aload_n 0, 1) := by decide +kernel
theorem d_K_add_57 : decode b_K_add 57 = .ok (.getfield 28, 3) := by decide +kernel
theorem d_K_add_60 : decode b_K_add 60 = .ok (.iconst 0, 1) := by decide +kernel
theorem d_K_add_61 : decode b_K_add 61 = .ok (.bastore, 1) := by decide +kernel
theorem d_K_add_62 : decode b_K_add 62 = .ok (.aload_n 0, 1) := by decide +kernel
theorem d_K_add_63 : decode b_K_add 63 = .ok (.dup, 1) := by decide +kernel
theorem d_K_add_64 : decode b_K_add 64 = .ok (.getfield 28, 3) := by decide +kernel
theorem d_K_add_67 : decode b_K_add 67 = .ok (.iconst 1, 1) := by decide +kernel
theorem d_K_add_68 : decode b_K_add 68 = .ok (.iadd, 1) := by decide +kernel
theorem d_K_add_69 : decode b_K_add 69 = .ok (.putfield 28, 3) := by decide +kernel
theorem d_K_add_72 : decode b_K_add 72 = .ok (.aload_n 0, 1) := by decide +kernel
theorem d_K_add_73 : decode b_K_add 73 = .ok (.dup, 1) := by decide +kernel
theorem d_K_add_74 : decode b_K_add 74 = .ok (.getfield 32, 3) := by decide +kernel
theorem d_K_add_77 : decode b_K_add 77 = .ok (.iconst 1, 1) := by decide +kernel
theorem d_K_add_78 : decode b_K_add 78 = .ok (.iadd, 1) := by decide +kernel
theorem d_K_add_79 : decode b_K_add 79 = .ok (.putfield 32, 3) := by decide +kernel
theorem d_K_add_82 : decode b_K_add 82 = .ok (.return_, 1) := by decide +kernel
theorem d_S_otherWins_0 : decode b_S_otherWins 0 = .ok (.iload_n 0, 1) := by decide +kernel
theorem d_S_otherWins_1 : decode b_S_otherWins 1 = .ok (.tableswitch 78 1 3 #[27, 44, 61], 27) := by decide +kernel
theorem d_S_otherWins_28 : decode b_S_otherWins 28 = .ok (.lload_n 3, 1) := by decide +kernel
theorem d_S_otherWins_29 : decode b_S_otherWins 29 = .ok (.invokestatic 142, 3) := by decide +kernel
theorem d_S_otherWins_32 : decode b_S_otherWins 32 = .ok (.lload_n 1, 1) := by decide +kernel
theorem d_S_otherWins_33 : decode b_S_otherWins 33 = .ok (.invokestatic 142, 3) := by decide +kernel
theorem d_S_otherWins_36 : decode b_S_otherWins 36 = .ok (.if_icmp .le 7, 3) := by decide +kernel
theorem d_S_otherWins_39 : decode b_S_otherWins 39 = .ok (.iconst 1, 1) := by decide +kernel
theorem d_S_otherWins_40 : decode b_S_otherWins 40 = .ok (.goto 4, 3) := by decide +kernel
theorem d_S_otherWins_43 : decode b_S_otherWins 43 = .ok (.iconst 0, 1) := by decide +kernel
theorem d_S_otherWins_44 : decode b_S_otherWins 44 = .ok (.ireturn, 1) := by decide +kernel
theorem d_S_otherWins_45 : decode b_S_otherWins 45 = .ok (.lload_n 3, 1) := by decide +kernel
theorem d_S_otherWins_46 : decode b_S_otherWins 46 = .ok (.invokestatic 142, 3) := by decide +kernel
theorem d_S_otherWins_49 : decode b_S_otherWins 49 = .ok (.lload_n 1, 1) := by decide +kernel
theorem d_S_otherWins_50 : decode b_S_otherWins 50 = .ok (.invokestatic 142, 3) := by decide +kernel
theorem d_S_otherWins_53 : decode b_S_otherWins 53 = .ok (.if_icmp .ge 7, 3) := by decide +kernel
theorem d_S_otherWins_56 : decode b_S_otherWins 56 = .ok (.iconst 1, 1) := by decide +kernel
theorem d_S_otherWins_57 : decode b_S_otherWins 57 = .ok (.goto 4, 3) := by decide +kernel
theorem d_S_otherWins_60 : decode b_S_otherWins 60 = .ok (.iconst 0, 1) := by decide +kernel
theorem d_S_otherWins_61 : decode b_S_otherWins 61 = .ok (.ireturn, 1) := by decide +kernel
theorem d_S_otherWins_62 : decode b_S_otherWins 62 = .ok (.lload_n 3, 1) := by decide +kernel
theorem d_S_otherWins_63 : decode b_S_otherWins 63 = .ok (.invokestatic 233, 3) := by decide +kernel
theorem d_S_otherWins_66 : decode b_S_otherWins 66 = .ok (.lload_n 1, 1) := by decide +kernel
theorem d_S_otherWins_67 : decode b_S_otherWins 67 = .ok (.invokestatic 233, 3) := by decide +kernel
theorem d_S_otherWins_70 : decode b_S_otherWins 70 = .ok (.if_icmp .le 7, 3) := by decide +kernel
theorem d_S_otherWins_73 : decode b_S_otherWins 73 = .ok (.iconst 1, 1) := by decide +kernel
theorem d_S_otherWins_74 : decode b_S_otherWins 74 = .ok (.goto 4, 3) := by decide +kernel
theorem d_S_otherWins_77 : decode b_S_otherWins 77 = .ok (.iconst 0, 1) := by decide +kernel
theorem d_S_otherWins_78 : decode b_S_otherWins 78 = .ok (.ireturn, 1) := by decide +kernel
theorem d_S_otherWins_79 : decode b_S_otherWins 79 = .ok (.iconst 0, 1) := by decide +kernel
theorem d_S_otherWins_80 : decode b_S_otherWins 80 = .ok (.ireturn, 1) := by decide +kernel
theorem d_S_settle_0 : decode b_S_settle 0 = .ok (.aload_n 0, 1) := by decide +kernel
theorem d_S_settle_1 : decode b_S_settle 1 = .ok (.iload_n 1, 1) := by decide +kernel
theorem d_S_settle_2 : decode b_S_settle 2 = .ok (.invokevirtual 84, 3) := by decide +kernel
theorem d_S_settle_5 : decode b_S_settle 5 = .ok (.astore 4, 2) := by decide +kernel
theorem d_S_settle_7 : decode b_S_settle 7 = .ok (.aload 4, 2) := by decide +kernel
theorem d_S_settle_9 : decode b_S_settle 9 = .ok (.ifnull 30, 3) := by decide +kernel
theorem d_S_settle_12 : decode b_S_settle 12 = .ok (.aload 4, 2) := by decide +kernel
theorem d_S_settle_14 : decode b_S_settle 14 = .ok (.getfield 209, 3) := by decide +kernel
theorem d_S_settle_17 : decode b_S_settle 17 = .ok (.ifnull 22, 3) := by decide +kernel
theorem d_S_settle_20 : decode b_S_settle 20 = .ok (.aload 4, 2) := by decide +kernel
theorem d_S_settle_22 : decode b_S_settle 22 = .ok (.getfield 209, 3) := by decide +kernel
theorem d_S_settle_25 : decode b_S_settle 25 = .ok (.iload_n 2, 1) := by decide +kernel
theorem d_S_settle_26 : decode b_S_settle 26 = .ok (.invokevirtual 217, 3) := by decide +kernel
theorem d_S_settle_29 : decode b_S_settle 29 = .ok (.ifCond .eq 10, 3) := by decide +kernel
theorem d_S_settle_32 : decode b_S_settle 32 = .ok (.iload_n 3, 1) := by decide +kernel
theorem d_S_settle_33 : decode b_S_settle 33 = .ok (.invokestatic 139, 3) := by decide +kernel
theorem d_S_settle_36 : decode b_S_settle 36 = .ok (.ifCond .ne 11, 3) := by decide +kernel
theorem d_S_settle_39 : decode b_S_settle 39 = .ok (.new 81, 3) := by decide +kernel
theorem d_S_settle_42 : decode b_S_settle 42 = .ok (.dup, 1) := by decide +kernel
theorem d_S_settle_43 : decode b_S_settle 43 = .ok (.invokespecial 83, 3) := by decide +kernel
theorem d_S_settle_46 : decode b_S_settle 46 = .ok (.athrow, 1) := by decide +kernel
theorem d_S_settle_47 : decode b_S_settle 47 = .ok (.aload 4, 2) := by decide +kernel
theorem d_S_settle_49 : decode b_S_settle 49 = .ok (.aload 4, 2) := by decide +kernel
theorem d_S_settle_51 : decode b_S_settle 51 = .ok (.getfield 209, 3) := by decide +kernel
theorem d_S_settle_54 : decode b_S_settle 54 = .ok (.getfield 220, 3) := by decide +kernel
theorem d_S_settle_57 : decode b_S_settle 57 = .ok (.iload_n 2, 1) := by decide +kernel
theorem d_S_settle_58 : decode b_S_settle 58 = .ok (.iaload, 1) := by decide +kernel
theorem d_S_settle_59 : decode b_S_settle 59 = .ok (.iload_n 3, 1) := by decide +kernel
theorem d_S_settle_60 : decode b_S_settle 60 = .ok (.invokevirtual 121, 3) := by decide +kernel
theorem d_S_settle_63 : decode b_S_settle 63 = .ok (.aload 4, 2) := by decide +kernel
theorem d_S_settle_65 : decode b_S_settle 65 = .ok (.getfield 209, 3) := by decide +kernel
theorem d_S_settle_68 : decode b_S_settle 68 = .ok (.iload_n 2, 1) := by decide +kernel
theorem d_S_settle_69 : decode b_S_settle 69 = .ok (.invokevirtual 223, 3) := by decide +kernel
theorem d_S_settle_72 : decode b_S_settle 72 = .ok (.aload 4, 2) := by decide +kernel
theorem d_S_settle_74 : decode b_S_settle 74 = .ok (.getfield 209, 3) := by decide +kernel
theorem d_S_settle_77 : decode b_S_settle 77 = .ok (.getfield 226, 3) := by decide +kernel
theorem d_S_settle_80 : decode b_S_settle 80 = .ok (.ireturn, 1) := by decide +kernel
theorem d_K_markSettled_0 : decode b_K_markSettled 0 = .ok (.aload_n 0, 1) := by decide +kernel
theorem d_K_markSettled_1 : decode b_K_markSettled 1 = .ok (.iload_n 1, 1) := by decide +kernel
theorem d_K_markSettled_2 : decode b_K_markSettled 2 = .ok (.invokevirtual 35, 3) := by decide +kernel
theorem d_K_markSettled_5 : decode b_K_markSettled 5 = .ok (.ifCond .eq 29, 3) := by decide +kernel
theorem d_K_markSettled_8 : decode b_K_markSettled 8 = .ok (.aload_n 0, 1) := by decide +kernel
theorem d_K_markSettled_9 : decode b_K_markSettled 9 = .ok (.getfield 24, 3) := by decide +kernel
theorem d_K_markSettled_12 : decode b_K_markSettled 12 = .ok (.iload_n 1, 1) := by decide +kernel
theorem d_K_markSettled_13 : decode b_K_markSettled 13 = .ok (.baload, 1) := by decide +kernel
theorem d_K_markSettled_14 : decode b_K_markSettled 14 = .ok (.ifCond .ne 20, 3) := by decide +kernel
theorem d_K_markSettled_17 : decode b_K_markSettled 17 = .ok (.aload_n 0, 1) := by decide +kernel
theorem d_K_markSettled_18 : decode b_K_markSettled 18 = .ok (.getfield 24, 3) := by decide +kernel
theorem d_K_markSettled_21 : decode b_K_markSettled 21 = .ok (.iload_n 1, 1) := by decide +kernel
theorem d_K_markSettled_22 : decode b_K_markSettled 22 = .ok (.iconst 1, 1) := by decide +kernel
theorem d_K_markSettled_23 : decode b_K_markSettled 23 = .ok (.bastore, 1) := by decide +kernel
theorem d_K_markSettled_24 : decode b_K_markSettled 24 = .ok (.aload_n 0, 1) := by decide +kernel
theorem d_K_markSettled_25 : decode b_K_markSettled 25 = .ok (.dup, 1) := by decide +kernel
theorem d_K_markSettled_26 : decode b_K_markSettled 26 = .ok (.getfield 32, 3) := by decide +kernel
theorem d_K_markSettled_29 : decode b_K_markSettled 29 = .ok (.iconst 1, 1) := by decide +kernel
theorem d_K_markSettled_30 : decode b_K_markSettled 30 = .ok (.isub, 1) := by decide +kernel
theorem d_K_markSettled_31 : decode b_K_markSettled 31 = .ok (.putfield 32, 3) := by decide +kernel
theorem d_K_markSettled_34 : decode b_K_markSettled 34 = .ok (.return_, 1) := by decide +kernel
theorem d_S_total_0 : decode b_S_total 0 = .ok (.aload_n 0, 1) := by decide +kernel
theorem d_S_total_1 : decode b_S_total 1 = .ok (.iload_n 1, 1) := by decide +kernel
theorem d_S_total_2 : decode b_S_total 2 = .ok (.invokevirtual 248, 3) := by decide +kernel
theorem d_S_total_5 : decode b_S_total 5 = .ok (.astore 4, 2) := by decide +kernel
theorem d_S_total_7 : decode b_S_total 7 = .ok (.aload 4, 2) := by decide +kernel
theorem d_S_total_9 : decode b_S_total 9 = .ok (.ifnull 19, 3) := by decide +kernel
theorem d_S_total_12 : decode b_S_total 12 = .ok (.iload_n 2, 1) := by decide +kernel
theorem d_S_total_13 : decode b_S_total 13 = .ok (.invokestatic 73, 3) := by decide +kernel
theorem d_S_total_16 : decode b_S_total 16 = .ok (.ifCond .eq 12, 3) := by decide +kernel
theorem d_S_total_19 : decode b_S_total 19 = .ok (.iload_n 3, 1) := by decide +kernel
theorem d_S_total_20 : decode b_S_total 20 = .ok (.ifCond .lt 8, 3) := by decide +kernel
theorem d_S_total_23 : decode b_S_total 23 = .ok (.iload_n 3, 1) := by decide +kernel
theorem d_S_total_24 : decode b_S_total 24 = .ok (.iconst 4, 1) := by decide +kernel
theorem d_S_total_25 : decode b_S_total 25 = .ok (.if_icmp .lt 11, 3) := by decide +kernel
theorem d_S_total_28 : decode b_S_total 28 = .ok (.new 81, 3) := by decide +kernel
theorem d_S_total_31 : decode b_S_total 31 = .ok (.dup, 1) := by decide +kernel
theorem d_S_total_32 : decode b_S_total 32 = .ok (.invokespecial 83, 3) := by decide +kernel
theorem d_S_total_35 : decode b_S_total 35 = .ok (.athrow, 1) := by decide +kernel
theorem d_S_total_36 : decode b_S_total 36 = .ok (.iconst 0, 1) := by decide +kernel
theorem d_S_total_37 : decode b_S_total 37 = .ok (.istore 5, 2) := by decide +kernel
theorem d_S_total_39 : decode b_S_total 39 = .ok (.iconst 0, 1) := by decide +kernel
theorem d_S_total_40 : decode b_S_total 40 = .ok (.istore 6, 2) := by decide +kernel
theorem d_S_total_42 : decode b_S_total 42 = .ok (.ldc 69, 2) := by decide +kernel
theorem d_S_total_44 : decode b_S_total 44 = .ok (.istore 7, 2) := by decide +kernel
theorem d_S_total_46 : decode b_S_total 46 = .ok (.ldc 69, 2) := by decide +kernel
theorem d_S_total_48 : decode b_S_total 48 = .ok (.istore 8, 2) := by decide +kernel
theorem d_S_total_50 : decode b_S_total 50 = .ok (.aload_n 0, 1) := by decide +kernel
theorem d_S_total_51 : decode b_S_total 51 = .ok (.getfield 106, 3) := by decide +kernel
theorem d_S_total_54 : decode b_S_total 54 = .ok (.istore 9, 2) := by decide +kernel
theorem d_S_total_56 : decode b_S_total 56 = .ok (.iload 9, 2) := by decide +kernel
theorem d_S_total_58 : decode b_S_total 58 = .ok (.aload_n 0, 1) := by decide +kernel
theorem d_S_total_59 : decode b_S_total 59 = .ok (.getfield 106, 3) := by decide +kernel
theorem d_S_total_62 : decode b_S_total 62 = .ok (.aload_n 0, 1) := by decide +kernel
theorem d_S_total_63 : decode b_S_total 63 = .ok (.getfield 66, 3) := by decide +kernel
theorem d_S_total_66 : decode b_S_total 66 = .ok (.iadd, 1) := by decide +kernel
theorem d_S_total_67 : decode b_S_total 67 = .ok (.if_icmp .ge 96, 3) := by decide +kernel
theorem d_S_total_70 : decode b_S_total 70 = .ok (.aload_n 0, 1) := by decide +kernel
theorem d_S_total_71 : decode b_S_total 71 = .ok (.getfield 103, 3) := by decide +kernel
theorem d_S_total_74 : decode b_S_total 74 = .ok (.istore 10, 2) := by decide +kernel
theorem d_S_total_76 : decode b_S_total 76 = .ok (.iload 10, 2) := by decide +kernel
theorem d_S_total_78 : decode b_S_total 78 = .ok (.aload_n 0, 1) := by decide +kernel
theorem d_S_total_79 : decode b_S_total 79 = .ok (.getfield 103, 3) := by decide +kernel
theorem d_S_total_82 : decode b_S_total 82 = .ok (.aload_n 0, 1) := by decide +kernel
theorem d_S_total_83 : decode b_S_total 83 = .ok (.getfield 63, 3) := by decide +kernel
theorem d_S_total_86 : decode b_S_total 86 = .ok (.iadd, 1) := by decide +kernel
theorem d_S_total_87 : decode b_S_total 87 = .ok (.if_icmp .ge 70, 3) := by decide +kernel
theorem d_S_total_90 : decode b_S_total 90 = .ok (.aload 4, 2) := by decide +kernel
theorem d_S_total_92 : decode b_S_total 92 = .ok (.iload_n 2, 1) := by decide +kernel
theorem d_S_total_93 : decode b_S_total 93 = .ok (.iload 10, 2) := by decide +kernel
theorem d_S_total_95 : decode b_S_total 95 = .ok (.iload 9, 2) := by decide +kernel
theorem d_S_total_97 : decode b_S_total 97 = .ok (.invokestatic 117, 3) := by decide +kernel
theorem d_S_total_100 : decode b_S_total 100 = .ok (.laload, 1) := by decide +kernel
theorem d_S_total_101 : decode b_S_total 101 = .ok (.invokestatic 142, 3) := by decide +kernel
theorem d_S_total_104 : decode b_S_total 104 = .ok (.istore 11, 2) := by decide +kernel
theorem d_S_total_106 : decode b_S_total 106 = .ok (.iload 11, 2) := by decide +kernel
theorem d_S_total_108 : decode b_S_total 108 = .ok (.ldc 69, 2) := by decide +kernel
theorem d_S_total_110 : decode b_S_total 110 = .ok (.if_icmp .eq 41, 3) := by decide +kernel
theorem d_S_total_113 : decode b_S_total 113 = .ok (.iload 6, 2) := by decide +kernel
theorem d_S_total_115 : decode b_S_total 115 = .ok (.ifCond .ne 8, 3) := by decide +kernel
theorem d_S_total_118 : decode b_S_total 118 = .ok (.iload 11, 2) := by decide +kernel
theorem d_S_total_120 : decode b_S_total 120 = .ok (.goto 10, 3) := by decide +kernel
theorem d_S_total_123 : decode b_S_total 123 = .ok (.iload 7, 2) := by decide +kernel
theorem d_S_total_125 : decode b_S_total 125 = .ok (.iload 11, 2) := by decide +kernel
theorem d_S_total_127 : decode b_S_total 127 = .ok (.invokestatic 252, 3) := by decide +kernel
theorem d_S_total_130 : decode b_S_total 130 = .ok (.istore 7, 2) := by decide +kernel
theorem d_S_total_132 : decode b_S_total 132 = .ok (.iload 8, 2) := by decide +kernel
theorem d_S_total_134 : decode b_S_total 134 = .ok (.iload 11, 2) := by decide +kernel
theorem d_S_total_136 : decode b_S_total 136 = .ok (.invokestatic 257, 3) := by decide +kernel
theorem d_S_total_139 : decode b_S_total 139 = .ok (.istore 8, 2) := by decide +kernel
theorem d_S_total_141 : decode b_S_total 141 = .ok (.iload 5, 2) := by decide +kernel
theorem d_S_total_143 : decode b_S_total 143 = .ok (.iload 11, 2) := by decide +kernel
theorem d_S_total_145 : decode b_S_total 145 = .ok (.iadd, 1) := by decide +kernel
theorem d_S_total_146 : decode b_S_total 146 = .ok (.istore 5, 2) := by decide +kernel
theorem d_S_total_148 : decode b_S_total 148 = .ok (.iinc 6 1, 3) := by decide +kernel
theorem d_S_total_151 : decode b_S_total 151 = .ok (.iinc 10 1, 3) := by decide +kernel
theorem d_S_total_154 : decode b_S_total 154 = .ok (.goto (-78), 3) := by decide +kernel
theorem d_S_total_157 : decode b_S_total 157 = .ok (.iinc 9 1, 3) := by decide +kernel
theorem d_S_total_160 : decode b_S_total 160 = .ok (.goto (-104), 3) := by decide +kernel
theorem d_S_total_163 : decode b_S_total 163 = .ok (.iload_n 3, 1) := by decide +kernel
theorem d_S_total_164 : decode b_S_total 164 = .ok (.tableswitch 37 0 2 #[28, 31, 34], 28) := by decide +kernel
theorem d_S_total_192 : decode b_S_total 192 = .ok (.iload 5, 2) := by decide +kernel
theorem d_S_total_194 : decode b_S_total 194 = .ok (.ireturn, 1) := by decide +kernel
theorem d_S_total_195 : decode b_S_total 195 = .ok (.iload 6, 2) := by decide +kernel
theorem d_S_total_197 : decode b_S_total 197 = .ok (.ireturn, 1) := by decide +kernel
theorem d_S_total_198 : decode b_S_total 198 = .ok (.iload 7, 2) := by decide +kernel
theorem d_S_total_200 : decode b_S_total 200 = .ok (.ireturn, 1) := by decide +kernel
theorem d_S_total_201 : decode b_S_total 201 = .ok (.iload 8, 2) := by decide +kernel
theorem d_S_total_203 : decode b_S_total 203 = .ok (.ireturn, 1) := by decide +kernel
