theorem d_Bl_init_0 : decode b_Bl_init 0 = .ok (.aload_n 0, 1) := by decide +kernel
theorem d_Bl_init_1 : decode b_Bl_init 1 = .ok (.iload_n 1, 1) := by decide +kernel
theorem d_Bl_init_2 : decode b_Bl_init 2 = .ok (.iconst 2, 1) := by decide +kernel
theorem d_Bl_init_3 : decode b_Bl_init 3 = .ok (.anewarray 3, 3) := by decide +kernel
theorem d_Bl_init_6 : decode b_Bl_init 6 = .ok (.dup, 1) := by decide +kernel
theorem d_Bl_init_7 : decode b_Bl_init 7 = .ok (.iconst 0, 1) := by decide +kernel
theorem d_Bl_init_8 : decode b_Bl_init 8 = .ok (.aload_n 2, 1) := by decide +kernel
theorem d_Bl_init_9 : decode b_Bl_init 9 = .ok (.aastore, 1) := by decide +kernel
theorem d_Bl_init_10 : decode b_Bl_init 10 = .ok (.dup, 1) := by decide +kernel
theorem d_Bl_init_11 : decode b_Bl_init 11 = .ok (.iconst 1, 1) := by decide +kernel
theorem d_Bl_init_12 : decode b_Bl_init 12 = .ok (.aload_n 3, 1) := by decide +kernel
theorem d_Bl_init_13 : decode b_Bl_init 13 = .ok (.aastore, 1) := by decide +kernel
theorem d_Bl_init_14 : decode b_Bl_init 14 = .ok (.iconst 2, 1) := by decide +kernel
theorem d_Bl_init_15 : decode b_Bl_init 15 = .ok (.invokespecial 5, 3) := by decide +kernel
theorem d_Bl_init_18 : decode b_Bl_init 18 = .ok (.aload_n 0, 1) := by decide +kernel
theorem d_Bl_init_19 : decode b_Bl_init 19 = .ok (.lload 4, 2) := by decide +kernel
theorem d_Bl_init_21 : decode b_Bl_init 21 = .ok (.putfield 9, 3) := by decide +kernel
theorem d_Bl_init_24 : decode b_Bl_init 24 = .ok (.aload_n 0, 1) := by decide +kernel
theorem d_Bl_init_25 : decode b_Bl_init 25 = .ok (.lload 6, 2) := by decide +kernel
theorem d_Bl_init_27 : decode b_Bl_init 27 = .ok (.putfield 15, 3) := by decide +kernel
theorem d_Bl_init_30 : decode b_Bl_init 30 = .ok (.return_, 1) := by decide +kernel
theorem d_Bl_sort_0 : decode b_Bl_sort 0 = .ok (.iconst 1, 1) := by decide +kernel
theorem d_Bl_sort_1 : decode b_Bl_sort 1 = .ok (.ireturn, 1) := by decide +kernel
theorem d_Bl_workOut_0 : decode b_Bl_workOut 0 = .ok (.aload_n 0, 1) := by decide +kernel
theorem d_Bl_workOut_1 : decode b_Bl_workOut 1 = .ok (.getfield 9, 3) := by decide +kernel
theorem d_Bl_workOut_4 : decode b_Bl_workOut 4 = .ok (.aload_n 0, 1) := by decide +kernel
theorem d_Bl_workOut_5 : decode b_Bl_workOut 5 = .ok (.getfield 18, 3) := by decide +kernel
theorem d_Bl_workOut_8 : decode b_Bl_workOut 8 = .ok (.iconst 0, 1) := by decide +kernel
theorem d_Bl_workOut_9 : decode b_Bl_workOut 9 = .ok (.aaload, 1) := by decide +kernel
theorem d_Bl_workOut_10 : decode b_Bl_workOut 10 = .ok (.getfield 22, 3) := by decide +kernel
theorem d_Bl_workOut_13 : decode b_Bl_workOut 13 = .ok (.lmul, 1) := by decide +kernel
theorem d_Bl_workOut_14 : decode b_Bl_workOut 14 = .ok (.aload_n 0, 1) := by decide +kernel
theorem d_Bl_workOut_15 : decode b_Bl_workOut 15 = .ok (.getfield 15, 3) := by decide +kernel
theorem d_Bl_workOut_18 : decode b_Bl_workOut 18 = .ok (.aload_n 0, 1) := by decide +kernel
theorem d_Bl_workOut_19 : decode b_Bl_workOut 19 = .ok (.getfield 18, 3) := by decide +kernel
theorem d_Bl_workOut_22 : decode b_Bl_workOut 22 = .ok (.iconst 1, 1) := by decide +kernel
theorem d_Bl_workOut_23 : decode b_Bl_workOut 23 = .ok (.aaload, 1) := by decide +kernel
theorem d_Bl_workOut_24 : decode b_Bl_workOut 24 = .ok (.getfield 22, 3) := by decide +kernel
theorem d_Bl_workOut_27 : decode b_Bl_workOut 27 = .ok (.lmul, 1) := by decide +kernel
theorem d_Bl_workOut_28 : decode b_Bl_workOut 28 = .ok (.ladd, 1) := by decide +kernel
theorem d_Bl_workOut_29 : decode b_Bl_workOut 29 = .ok (.lstore_n 1, 1) := by decide +kernel
theorem d_Bl_workOut_30 : decode b_Bl_workOut 30 = .ok (.lload_n 1, 1) := by decide +kernel
theorem d_Bl_workOut_31 : decode b_Bl_workOut 31 = .ok (.iconst 3, 1) := by decide +kernel
theorem d_Bl_workOut_32 : decode b_Bl_workOut 32 = .ok (.invokestatic 25, 3) := by decide +kernel
theorem d_Bl_workOut_35 : decode b_Bl_workOut 35 = .ok (.lreturn, 1) := by decide +kernel
theorem d_En_init_0 : decode b_En_init 0 = .ok (.aload_n 0, 1) := by decide +kernel
theorem d_En_init_1 : decode b_En_init 1 = .ok (.invokespecial 1, 3) := by decide +kernel
theorem d_En_init_4 : decode b_En_init 4 = .ok (.aload_n 0, 1) := by decide +kernel
theorem d_En_init_5 : decode b_En_init 5 = .ok (.iload_n 1, 1) := by decide +kernel
theorem d_En_init_6 : decode b_En_init 6 = .ok (.putfield 7, 3) := by decide +kernel
theorem d_En_init_9 : decode b_En_init 9 = .ok (.aload_n 0, 1) := by decide +kernel
theorem d_En_init_10 : decode b_En_init 10 = .ok (.iload_n 2, 1) := by decide +kernel
theorem d_En_init_11 : decode b_En_init 11 = .ok (.putfield 13, 3) := by decide +kernel
theorem d_En_init_14 : decode b_En_init 14 = .ok (.return_, 1) := by decide +kernel
theorem d_Gr_init_0 : decode b_Gr_init 0 = .ok (.aload_n 0, 1) := by decide +kernel
theorem d_Gr_init_1 : decode b_Gr_init 1 = .ok (.iload_n 1, 1) := by decide +kernel
theorem d_Gr_init_2 : decode b_Gr_init 2 = .ok (.iconst 2, 1) := by decide +kernel
theorem d_Gr_init_3 : decode b_Gr_init 3 = .ok (.anewarray 3, 3) := by decide +kernel
theorem d_Gr_init_6 : decode b_Gr_init 6 = .ok (.dup, 1) := by decide +kernel
theorem d_Gr_init_7 : decode b_Gr_init 7 = .ok (.iconst 0, 1) := by decide +kernel
theorem d_Gr_init_8 : decode b_Gr_init 8 = .ok (.aload_n 2, 1) := by decide +kernel
theorem d_Gr_init_9 : decode b_Gr_init 9 = .ok (.aastore, 1) := by decide +kernel
theorem d_Gr_init_10 : decode b_Gr_init 10 = .ok (.dup, 1) := by decide +kernel
theorem d_Gr_init_11 : decode b_Gr_init 11 = .ok (.iconst 1, 1) := by decide +kernel
theorem d_Gr_init_12 : decode b_Gr_init 12 = .ok (.aload_n 3, 1) := by decide +kernel
theorem d_Gr_init_13 : decode b_Gr_init 13 = .ok (.aastore, 1) := by decide +kernel
theorem d_Gr_init_14 : decode b_Gr_init 14 = .ok (.iconst 2, 1) := by decide +kernel
theorem d_Gr_init_15 : decode b_Gr_init 15 = .ok (.invokespecial 5, 3) := by decide +kernel
theorem d_Gr_init_18 : decode b_Gr_init 18 = .ok (.return_, 1) := by decide +kernel
theorem d_Gr_sort_0 : decode b_Gr_sort 0 = .ok (.iconst 2, 1) := by decide +kernel
theorem d_Gr_sort_1 : decode b_Gr_sort 1 = .ok (.ireturn, 1) := by decide +kernel
theorem d_Gr_workOut_0 : decode b_Gr_workOut 0 = .ok (.aload_n 0, 1) := by decide +kernel
theorem d_Gr_workOut_1 : decode b_Gr_workOut 1 = .ok (.getfield 9, 3) := by decide +kernel
theorem d_Gr_workOut_4 : decode b_Gr_workOut 4 = .ok (.iconst 0, 1) := by decide +kernel
theorem d_Gr_workOut_5 : decode b_Gr_workOut 5 = .ok (.aaload, 1) := by decide +kernel
theorem d_Gr_workOut_6 : decode b_Gr_workOut 6 = .ok (.getfield 15, 3) := by decide +kernel
theorem d_Gr_workOut_9 : decode b_Gr_workOut 9 = .ok (.aload_n 0, 1) := by decide +kernel
theorem d_Gr_workOut_10 : decode b_Gr_workOut 10 = .ok (.getfield 9, 3) := by decide +kernel
theorem d_Gr_workOut_13 : decode b_Gr_workOut 13 = .ok (.iconst 1, 1) := by decide +kernel
theorem d_Gr_workOut_14 : decode b_Gr_workOut 14 = .ok (.aaload, 1) := by decide +kernel
theorem d_Gr_workOut_15 : decode b_Gr_workOut 15 = .ok (.getfield 15, 3) := by decide +kernel
theorem d_Gr_workOut_18 : decode b_Gr_workOut 18 = .ok (.invokestatic 19, 3) := by decide +kernel
theorem d_Gr_workOut_21 : decode b_Gr_workOut 21 = .ok (.lreturn, 1) := by decide +kernel
theorem d_L_blend_0 : decode b_L_blend 0 = .ok (.aload 7, 2) := by decide +kernel
theorem d_L_blend_2 : decode b_L_blend 2 = .ok (.iconst 0, 1) := by decide +kernel
theorem d_L_blend_3 : decode b_L_blend 3 = .ok (.aload_n 0, 1) := by decide +kernel
theorem d_L_blend_4 : decode b_L_blend 4 = .ok (.iload_n 1, 1) := by decide +kernel
theorem d_L_blend_5 : decode b_L_blend 5 = .ok (.iload_n 2, 1) := by decide +kernel
theorem d_L_blend_6 : decode b_L_blend 6 = .ok (.dload_n 3, 1) := by decide +kernel
theorem d_L_blend_7 : decode b_L_blend 7 = .ok (.dload 5, 2) := by decide +kernel
theorem d_L_blend_9 : decode b_L_blend 9 = .ok (.invokevirtual 17, 3) := by decide +kernel
theorem d_L_blend_12 : decode b_L_blend 12 = .ok (.i2l, 1) := by decide +kernel
theorem d_L_blend_13 : decode b_L_blend 13 = .ok (.lastore, 1) := by decide +kernel
theorem d_L_blend_14 : decode b_L_blend 14 = .ok (.goto 11, 3) := by decide +kernel
theorem d_L_blend_17 : decode b_L_blend 17 = .ok (.astore 8, 2) := by decide +kernel
theorem d_L_blend_19 : decode b_L_blend 19 = .ok (.iconst 1, 1) := by decide +kernel
theorem d_L_blend_20 : decode b_L_blend 20 = .ok (.ireturn, 1) := by decide +kernel
theorem d_L_blend_21 : decode b_L_blend 21 = .ok (.astore 8, 2) := by decide +kernel
theorem d_L_blend_23 : decode b_L_blend 23 = .ok (.iconst 2, 1) := by decide +kernel
theorem d_L_blend_24 : decode b_L_blend 24 = .ok (.ireturn, 1) := by decide +kernel
theorem d_L_blend_25 : decode b_L_blend 25 = .ok (.iconst 0, 1) := by decide +kernel
theorem d_L_blend_26 : decode b_L_blend 26 = .ok (.ireturn, 1) := by decide +kernel
theorem d_L_bump_0 : decode b_L_bump 0 = .ok (.aload 5, 2) := by decide +kernel
theorem d_L_bump_2 : decode b_L_bump 2 = .ok (.iconst 0, 1) := by decide +kernel
theorem d_L_bump_3 : decode b_L_bump 3 = .ok (.aload_n 0, 1) := by decide +kernel
theorem d_L_bump_4 : decode b_L_bump 4 = .ok (.iload_n 1, 1) := by decide +kernel
theorem d_L_bump_5 : decode b_L_bump 5 = .ok (.iload_n 2, 1) := by decide +kernel
theorem d_L_bump_6 : decode b_L_bump 6 = .ok (.dload_n 3, 1) := by decide +kernel
theorem d_L_bump_7 : decode b_L_bump 7 = .ok (.invokevirtual 53, 3) := by decide +kernel
theorem d_L_bump_10 : decode b_L_bump 10 = .ok (.dastore, 1) := by decide +kernel
theorem d_L_bump_11 : decode b_L_bump 11 = .ok (.goto 15, 3) := by decide +kernel
theorem d_L_bump_14 : decode b_L_bump 14 = .ok (.astore 6, 2) := by decide +kernel
theorem d_L_bump_16 : decode b_L_bump 16 = .ok (.iconst 1, 1) := by decide +kernel
theorem d_L_bump_17 : decode b_L_bump 17 = .ok (.ireturn, 1) := by decide +kernel
theorem d_L_bump_18 : decode b_L_bump 18 = .ok (.astore 6, 2) := by decide +kernel
theorem d_L_bump_20 : decode b_L_bump 20 = .ok (.iconst 2, 1) := by decide +kernel
theorem d_L_bump_21 : decode b_L_bump 21 = .ok (.ireturn, 1) := by decide +kernel
theorem d_L_bump_22 : decode b_L_bump 22 = .ok (.astore 6, 2) := by decide +kernel
theorem d_L_bump_24 : decode b_L_bump 24 = .ok (.iconst 3, 1) := by decide +kernel
theorem d_L_bump_25 : decode b_L_bump 25 = .ok (.ireturn, 1) := by decide +kernel
theorem d_L_bump_26 : decode b_L_bump 26 = .ok (.iconst 0, 1) := by decide +kernel
theorem d_L_bump_27 : decode b_L_bump 27 = .ok (.ireturn, 1) := by decide +kernel
theorem d_L_engine_0 : decode b_L_engine 0 = .ok (.aload_n 0, 1) := by decide +kernel
theorem d_L_engine_1 : decode b_L_engine 1 = .ok (.iload_n 1, 1) := by decide +kernel
theorem d_L_engine_2 : decode b_L_engine 2 = .ok (.iload_n 2, 1) := by decide +kernel
theorem d_L_engine_3 : decode b_L_engine 3 = .ok (.iload_n 3, 1) := by decide +kernel
theorem d_L_engine_4 : decode b_L_engine 4 = .ok (.invokevirtual 33, 3) := by decide +kernel
theorem d_L_engine_7 : decode b_L_engine 7 = .ok (.goto 11, 3) := by decide +kernel
theorem d_L_engine_10 : decode b_L_engine 10 = .ok (.astore 4, 2) := by decide +kernel
theorem d_L_engine_12 : decode b_L_engine 12 = .ok (.iconst 1, 1) := by decide +kernel
theorem d_L_engine_13 : decode b_L_engine 13 = .ok (.ireturn, 1) := by decide +kernel
theorem d_L_engine_14 : decode b_L_engine 14 = .ok (.astore 4, 2) := by decide +kernel
theorem d_L_engine_16 : decode b_L_engine 16 = .ok (.iconst 2, 1) := by decide +kernel
theorem d_L_engine_17 : decode b_L_engine 17 = .ok (.ireturn, 1) := by decide +kernel
theorem d_L_engine_18 : decode b_L_engine 18 = .ok (.iconst 0, 1) := by decide +kernel
theorem d_L_engine_19 : decode b_L_engine 19 = .ok (.ireturn, 1) := by decide +kernel
theorem d_L_freeze_0 : decode b_L_freeze 0 = .ok (.aload_n 0, 1) := by decide +kernel
theorem d_L_freeze_1 : decode b_L_freeze 1 = .ok (.iload_n 1, 1) := by decide +kernel
theorem d_L_freeze_2 : decode b_L_freeze 2 = .ok (.iload_n 2, 1) := by decide +kernel
theorem d_L_freeze_3 : decode b_L_freeze 3 = .ok (.invokevirtual 49, 3) := by decide +kernel
theorem d_L_freeze_6 : decode b_L_freeze 6 = .ok (.goto 9, 3) := by decide +kernel
theorem d_L_freeze_9 : decode b_L_freeze 9 = .ok (.astore_n 3, 1) := by decide +kernel
theorem d_L_freeze_10 : decode b_L_freeze 10 = .ok (.iconst 1, 1) := by decide +kernel
theorem d_L_freeze_11 : decode b_L_freeze 11 = .ok (.ireturn, 1) := by decide +kernel
theorem d_L_freeze_12 : decode b_L_freeze 12 = .ok (.astore_n 3, 1) := by decide +kernel
theorem d_L_freeze_13 : decode b_L_freeze 13 = .ok (.iconst 2, 1) := by decide +kernel
theorem d_L_freeze_14 : decode b_L_freeze 14 = .ok (.ireturn, 1) := by decide +kernel
theorem d_L_freeze_15 : decode b_L_freeze 15 = .ok (.iconst 0, 1) := by decide +kernel
theorem d_L_freeze_16 : decode b_L_freeze 16 = .ok (.ireturn, 1) := by decide +kernel
theorem d_L_greater_0 : decode b_L_greater 0 = .ok (.aload_n 3, 1) := by decide +kernel
theorem d_L_greater_1 : decode b_L_greater 1 = .ok (.iconst 0, 1) := by decide +kernel
theorem d_L_greater_2 : decode b_L_greater 2 = .ok (.aload_n 0, 1) := by decide +kernel
theorem d_L_greater_3 : decode b_L_greater 3 = .ok (.iload_n 1, 1) := by decide +kernel
theorem d_L_greater_4 : decode b_L_greater 4 = .ok (.iload_n 2, 1) := by decide +kernel
theorem d_L_greater_5 : decode b_L_greater 5 = .ok (.invokevirtual 21, 3) := by decide +kernel
theorem d_L_greater_8 : decode b_L_greater 8 = .ok (.i2l, 1) := by decide +kernel
theorem d_L_greater_9 : decode b_L_greater 9 = .ok (.lastore, 1) := by decide +kernel
theorem d_L_greater_10 : decode b_L_greater 10 = .ok (.goto 11, 3) := by decide +kernel
theorem d_L_greater_13 : decode b_L_greater 13 = .ok (.astore 4, 2) := by decide +kernel
theorem d_L_greater_15 : decode b_L_greater 15 = .ok (.iconst 1, 1) := by decide +kernel
theorem d_L_greater_16 : decode b_L_greater 16 = .ok (.ireturn, 1) := by decide +kernel
theorem d_L_greater_17 : decode b_L_greater 17 = .ok (.astore 4, 2) := by decide +kernel
theorem d_L_greater_19 : decode b_L_greater 19 = .ok (.iconst 2, 1) := by decide +kernel
theorem d_L_greater_20 : decode b_L_greater 20 = .ok (.ireturn, 1) := by decide +kernel
theorem d_L_greater_21 : decode b_L_greater 21 = .ok (.iconst 0, 1) := by decide +kernel
theorem d_L_greater_22 : decode b_L_greater 22 = .ok (.ireturn, 1) := by decide +kernel
theorem d_L_law_0 : decode b_L_law 0 = .ok (.new 8, 3) := by decide +kernel
theorem d_L_law_3 : decode b_L_law 3 = .ok (.dup, 1) := by decide +kernel
theorem d_L_law_4 : decode b_L_law 4 = .ok (.invokespecial 64, 3) := by decide +kernel
theorem d_L_law_7 : decode b_L_law 7 = .ok (.astore_n 1, 1) := by decide +kernel
theorem d_L_law_8 : decode b_L_law 8 = .ok (.new 65, 3) := by decide +kernel
theorem d_L_law_11 : decode b_L_law 11 = .ok (.dup, 1) := by decide +kernel
theorem d_L_law_12 : decode b_L_law 12 = .ok (.invokespecial 67, 3) := by decide +kernel
theorem d_L_law_15 : decode b_L_law 15 = .ok (.astore_n 2, 1) := by decide +kernel
theorem d_L_law_16 : decode b_L_law 16 = .ok (.iconst 1, 1) := by decide +kernel
theorem d_L_law_17 : decode b_L_law 17 = .ok (.newarray .long, 2) := by decide +kernel
theorem d_L_law_19 : decode b_L_law 19 = .ok (.astore_n 3, 1) := by decide +kernel
theorem d_L_law_20 : decode b_L_law 20 = .ok (.iconst 1, 1) := by decide +kernel
theorem d_L_law_21 : decode b_L_law 21 = .ok (.newarray .double, 2) := by decide +kernel
theorem d_L_law_23 : decode b_L_law 23 = .ok (.astore 4, 2) := by decide +kernel
theorem d_L_law_25 : decode b_L_law 25 = .ok (.iconst 0, 1) := by decide +kernel
theorem d_L_law_26 : decode b_L_law 26 = .ok (.istore 5, 2) := by decide +kernel
theorem d_L_law_28 : decode b_L_law 28 = .ok (.iload 5, 2) := by decide +kernel
theorem d_L_law_30 : decode b_L_law 30 = .ok (.aload_n 0, 1) := by decide +kernel
theorem d_L_law_31 : decode b_L_law 31 = .ok (.arraylength, 1) := by decide +kernel
theorem d_L_law_32 : decode b_L_law 32 = .ok (.bipush 6, 2) := by decide +kernel
theorem d_L_law_34 : decode b_L_law 34 = .ok (.isub, 1) := by decide +kernel
theorem d_L_law_35 : decode b_L_law 35 = .ok (.if_icmp .gt 1101, 3) := by decide +kernel
theorem d_L_law_38 : decode b_L_law 38 = .ok (.aload_n 0, 1) := by decide +kernel
theorem d_L_law_39 : decode b_L_law 39 = .ok (.iload 5, 2) := by decide +kernel
theorem d_L_law_41 : decode b_L_law 41 = .ok (.iaload, 1) := by decide +kernel
theorem d_L_law_42 : decode b_L_law 42 = .ok (.bipush 15, 2) := by decide +kernel
theorem d_L_law_44 : decode b_L_law 44 = .ok (.iand, 1) := by decide +kernel
theorem d_L_law_45 : decode b_L_law 45 = .ok (.tableswitch 1085 0 12 #[67, 133, 245, 313, 427, 527, 587, 665, 742, 806, 917, 992, 1060], 67) := by decide +kernel
theorem d_L_law_112 : decode b_L_law 112 = .ok (.aload_n 1, 1) := by decide +kernel
theorem d_L_law_113 : decode b_L_law 113 = .ok (.aload_n 0, 1) := by decide +kernel
theorem d_L_law_114 : decode b_L_law 114 = .ok (.iload 5, 2) := by decide +kernel
theorem d_L_law_116 : decode b_L_law 116 = .ok (.iconst 1, 1) := by decide +kernel
theorem d_L_law_117 : decode b_L_law 117 = .ok (.iadd, 1) := by decide +kernel
theorem d_L_law_118 : decode b_L_law 118 = .ok (.iaload, 1) := by decide +kernel
theorem d_L_law_119 : decode b_L_law 119 = .ok (.i2d, 1) := by decide +kernel
theorem d_L_law_120 : decode b_L_law 120 = .ok (.ldc2_w 68, 3) := by decide +kernel
theorem d_L_law_123 : decode b_L_law 123 = .ok (.dmul, 1) := by decide +kernel
theorem d_L_law_124 : decode b_L_law 124 = .ok (.aload_n 3, 1) := by decide +kernel
theorem d_L_law_125 : decode b_L_law 125 = .ok (.invokestatic 70, 3) := by decide +kernel
theorem d_L_law_128 : decode b_L_law 128 = .ok (.istore 6, 2) := by decide +kernel
theorem d_L_law_130 : decode b_L_law 130 = .ok (.aload_n 2, 1) := by decide +kernel
theorem d_L_law_131 : decode b_L_law 131 = .ok (.aload_n 0, 1) := by decide +kernel
theorem d_L_law_132 : decode b_L_law 132 = .ok (.iload 5, 2) := by decide +kernel
theorem d_L_law_134 : decode b_L_law 134 = .ok (.iconst 1, 1) := by decide +kernel
theorem d_L_law_135 : decode b_L_law 135 = .ok (.iadd, 1) := by decide +kernel
theorem d_L_law_136 : decode b_L_law 136 = .ok (.iaload, 1) := by decide +kernel
theorem d_L_law_137 : decode b_L_law 137 = .ok (.i2d, 1) := by decide +kernel
theorem d_L_law_138 : decode b_L_law 138 = .ok (.ldc2_w 68, 3) := by decide +kernel
theorem d_L_law_141 : decode b_L_law 141 = .ok (.dmul, 1) := by decide +kernel
theorem d_L_law_142 : decode b_L_law 142 = .ok (.invokevirtual 75, 3) := by decide +kernel
theorem d_L_law_145 : decode b_L_law 145 = .ok (.istore 7, 2) := by decide +kernel
theorem d_L_law_147 : decode b_L_law 147 = .ok (.aload_n 2, 1) := by decide +kernel
theorem d_L_law_148 : decode b_L_law 148 = .ok (.invokevirtual 76, 3) := by decide +kernel
theorem d_L_law_151 : decode b_L_law 151 = .ok (.iload 6, 2) := by decide +kernel
theorem d_L_law_153 : decode b_L_law 153 = .ok (.if_icmp .eq 5, 3) := by decide +kernel
theorem d_L_law_156 : decode b_L_law 156 = .ok (.iconst 0, 1) := by decide +kernel
theorem d_L_law_157 : decode b_L_law 157 = .ok (.ireturn, 1) := by decide +kernel
theorem d_L_law_158 : decode b_L_law 158 = .ok (.iload 6, 2) := by decide +kernel
theorem d_L_law_160 : decode b_L_law 160 = .ok (.ifCond .ne 15, 3) := by decide +kernel
theorem d_L_law_163 : decode b_L_law 163 = .ok (.aload_n 3, 1) := by decide +kernel
theorem d_L_law_164 : decode b_L_law 164 = .ok (.iconst 0, 1) := by decide +kernel
theorem d_L_law_165 : decode b_L_law 165 = .ok (.laload, 1) := by decide +kernel
theorem d_L_law_166 : decode b_L_law 166 = .ok (.iload 7, 2) := by decide +kernel
theorem d_L_law_168 : decode b_L_law 168 = .ok (.i2l, 1) := by decide +kernel
theorem d_L_law_169 : decode b_L_law 169 = .ok (.lcmp, 1) := by decide +kernel
theorem d_L_law_170 : decode b_L_law 170 = .ok (.ifCond .eq 5, 3) := by decide +kernel
theorem d_L_law_173 : decode b_L_law 173 = .ok (.iconst 0, 1) := by decide +kernel
theorem d_L_law_174 : decode b_L_law 174 = .ok (.ireturn, 1) := by decide +kernel
theorem d_L_law_175 : decode b_L_law 175 = .ok (.goto 955, 3) := by decide +kernel
theorem d_L_law_178 : decode b_L_law 178 = .ok (.aload_n 1, 1) := by decide +kernel
theorem d_L_law_179 : decode b_L_law 179 = .ok (.aload_n 0, 1) := by decide +kernel
theorem d_L_law_180 : decode b_L_law 180 = .ok (.iload 5, 2) := by decide +kernel
theorem d_L_law_182 : decode b_L_law 182 = .ok (.iconst 1, 1) := by decide +kernel
theorem d_L_law_183 : decode b_L_law 183 = .ok (.iadd, 1) := by decide +kernel
theorem d_L_law_184 : decode b_L_law 184 = .ok (.iaload, 1) := by decide +kernel
theorem d_L_law_185 : decode b_L_law 185 = .ok (.aload_n 0, 1) := by decide +kernel
theorem d_L_law_186 : decode b_L_law 186 = .ok (.iload 5, 2) := by decide +kernel
theorem d_L_law_188 : decode b_L_law 188 = .ok (.iconst 2, 1) := by decide +kernel
theorem d_L_law_189 : decode b_L_law 189 = .ok (.iadd, 1) := by decide +kernel
theorem d_L_law_190 : decode b_L_law 190 = .ok (.iaload, 1) := by decide +kernel
theorem d_L_law_191 : decode b_L_law 191 = .ok (.aload_n 0, 1) := by decide +kernel
theorem d_L_law_192 : decode b_L_law 192 = .ok (.iload 5, 2) := by decide +kernel
theorem d_L_law_194 : decode b_L_law 194 = .ok (.iconst 3, 1) := by decide +kernel
theorem d_L_law_195 : decode b_L_law 195 = .ok (.iadd, 1) := by decide +kernel
theorem d_L_law_196 : decode b_L_law 196 = .ok (.iaload, 1) := by decide +kernel
theorem d_L_law_197 : decode b_L_law 197 = .ok (.i2d, 1) := by decide +kernel
theorem d_L_law_198 : decode b_L_law 198 = .ok (.ldc2_w 68, 3) := by decide +kernel
theorem d_L_law_201 : decode b_L_law 201 = .ok (.dmul, 1) := by decide +kernel
theorem d_L_law_202 : decode b_L_law 202 = .ok (.aload_n 0, 1) := by decide +kernel
theorem d_L_law_203 : decode b_L_law 203 = .ok (.iload 5, 2) := by decide +kernel
theorem d_L_law_205 : decode b_L_law 205 = .ok (.iconst 4, 1) := by decide +kernel
theorem d_L_law_206 : decode b_L_law 206 = .ok (.iadd, 1) := by decide +kernel
theorem d_L_law_207 : decode b_L_law 207 = .ok (.iaload, 1) := by decide +kernel
theorem d_L_law_208 : decode b_L_law 208 = .ok (.i2d, 1) := by decide +kernel
theorem d_L_law_209 : decode b_L_law 209 = .ok (.ldc2_w 68, 3) := by decide +kernel
theorem d_L_law_212 : decode b_L_law 212 = .ok (.dmul, 1) := by decide +kernel
theorem d_L_law_213 : decode b_L_law 213 = .ok (.aload_n 3, 1) := by decide +kernel
theorem d_L_law_214 : decode b_L_law 214 = .ok (.invokestatic 80, 3) := by decide +kernel
theorem d_L_law_217 : decode b_L_law 217 = .ok (.istore 6, 2) := by decide +kernel
theorem d_L_law_219 : decode b_L_law 219 = .ok (.aload_n 2, 1) := by decide +kernel
theorem d_L_law_220 : decode b_L_law 220 = .ok (.aload_n 0, 1) := by decide +kernel
theorem d_L_law_221 : decode b_L_law 221 = .ok (.iload 5, 2) := by decide +kernel
theorem d_L_law_223 : decode b_L_law 223 = .ok (.iconst 1, 1) := by decide +kernel
theorem d_L_law_224 : decode b_L_law 224 = .ok (.iadd, 1) := by decide +kernel
theorem d_L_law_225 : decode b_L_law 225 = .ok (.iaload, 1) := by decide +kernel
theorem d_L_law_226 : decode b_L_law 226 = .ok (.aload_n 0, 1) := by decide +kernel
theorem d_L_law_227 : decode b_L_law 227 = .ok (.iload 5, 2) := by decide +kernel
theorem d_L_law_229 : decode b_L_law 229 = .ok (.iconst 2, 1) := by decide +kernel
theorem d_L_law_230 : decode b_L_law 230 = .ok (.iadd, 1) := by decide +kernel
theorem d_L_law_231 : decode b_L_law 231 = .ok (.iaload, 1) := by decide +kernel
theorem d_L_law_232 : decode b_L_law 232 = .ok (.aload_n 0, 1) := by decide +kernel
theorem d_L_law_233 : decode b_L_law 233 = .ok (.iload 5, 2) := by decide +kernel
theorem d_L_law_235 : decode b_L_law 235 = .ok (.iconst 3, 1) := by decide +kernel
theorem d_L_law_236 : decode b_L_law 236 = .ok (.iadd, 1) := by decide +kernel
theorem d_L_law_237 : decode b_L_law 237 = .ok (.iaload, 1) := by decide +kernel
theorem d_L_law_238 : decode b_L_law 238 = .ok (.i2d, 1) := by decide +kernel
theorem d_L_law_239 : decode b_L_law 239 = .ok (.ldc2_w 68, 3) := by decide +kernel
theorem d_L_law_242 : decode b_L_law 242 = .ok (.dmul, 1) := by decide +kernel
theorem d_L_law_243 : decode b_L_law 243 = .ok (.aload_n 0, 1) := by decide +kernel
theorem d_L_law_244 : decode b_L_law 244 = .ok (.iload 5, 2) := by decide +kernel
theorem d_L_law_246 : decode b_L_law 246 = .ok (.iconst 4, 1) := by decide +kernel
theorem d_L_law_247 : decode b_L_law 247 = .ok (.iadd, 1) := by decide +kernel
theorem d_L_law_248 : decode b_L_law 248 = .ok (.iaload, 1) := by decide +kernel
theorem d_L_law_249 : decode b_L_law 249 = .ok (.i2d, 1) := by decide +kernel
theorem d_L_law_250 : decode b_L_law 250 = .ok (.ldc2_w 68, 3) := by decide +kernel
theorem d_L_law_253 : decode b_L_law 253 = .ok (.dmul, 1) := by decide +kernel
theorem d_L_law_254 : decode b_L_law 254 = .ok (.invokevirtual 83, 3) := by decide +kernel
theorem d_L_law_257 : decode b_L_law 257 = .ok (.istore 7, 2) := by decide +kernel
theorem d_L_law_259 : decode b_L_law 259 = .ok (.aload_n 2, 1) := by decide +kernel
theorem d_L_law_260 : decode b_L_law 260 = .ok (.invokevirtual 76, 3) := by decide +kernel
theorem d_L_law_263 : decode b_L_law 263 = .ok (.iload 6, 2) := by decide +kernel
theorem d_L_law_265 : decode b_L_law 265 = .ok (.if_icmp .eq 5, 3) := by decide +kernel
theorem d_L_law_268 : decode b_L_law 268 = .ok (.iconst 0, 1) := by decide +kernel
theorem d_L_law_269 : decode b_L_law 269 = .ok (.ireturn, 1) := by decide +kernel
theorem d_L_law_270 : decode b_L_law 270 = .ok (.iload 6, 2) := by decide +kernel
theorem d_L_law_272 : decode b_L_law 272 = .ok (.ifCond .ne 15, 3) := by decide +kernel
theorem d_L_law_275 : decode b_L_law 275 = .ok (.aload_n 3, 1) := by decide +kernel
theorem d_L_law_276 : decode b_L_law 276 = .ok (.iconst 0, 1) := by decide +kernel
theorem d_L_law_277 : decode b_L_law 277 = .ok (.laload, 1) := by decide +kernel
theorem d_L_law_278 : decode b_L_law 278 = .ok (.iload 7, 2) := by decide +kernel
theorem d_L_law_280 : decode b_L_law 280 = .ok (.i2l, 1) := by decide +kernel
theorem d_L_law_281 : decode b_L_law 281 = .ok (.lcmp, 1) := by decide +kernel
theorem d_L_law_282 : decode b_L_law 282 = .ok (.ifCond .eq 5, 3) := by decide +kernel
theorem d_L_law_285 : decode b_L_law 285 = .ok (.iconst 0, 1) := by decide +kernel
theorem d_L_law_286 : decode b_L_law 286 = .ok (.ireturn, 1) := by decide +kernel
theorem d_L_law_287 : decode b_L_law 287 = .ok (.goto 843, 3) := by decide +kernel
theorem d_L_law_290 : decode b_L_law 290 = .ok (.aload_n 1, 1) := by decide +kernel
theorem d_L_law_291 : decode b_L_law 291 = .ok (.aload_n 0, 1) := by decide +kernel
theorem d_L_law_292 : decode b_L_law 292 = .ok (.iload 5, 2) := by decide +kernel
theorem d_L_law_294 : decode b_L_law 294 = .ok (.iconst 1, 1) := by decide +kernel
theorem d_L_law_295 : decode b_L_law 295 = .ok (.iadd, 1) := by decide +kernel
theorem d_L_law_296 : decode b_L_law 296 = .ok (.iaload, 1) := by decide +kernel
theorem d_L_law_297 : decode b_L_law 297 = .ok (.aload_n 0, 1) := by decide +kernel
theorem d_L_law_298 : decode b_L_law 298 = .ok (.iload 5, 2) := by decide +kernel
theorem d_L_law_300 : decode b_L_law 300 = .ok (.iconst 2, 1) := by decide +kernel
theorem d_L_law_301 : decode b_L_law 301 = .ok (.iadd, 1) := by decide +kernel
theorem d_L_law_302 : decode b_L_law 302 = .ok (.iaload, 1) := by decide +kernel
theorem d_L_law_303 : decode b_L_law 303 = .ok (.aload_n 3, 1) := by decide +kernel
theorem d_L_law_304 : decode b_L_law 304 = .ok (.invokestatic 84, 3) := by decide +kernel
theorem d_L_law_307 : decode b_L_law 307 = .ok (.istore 6, 2) := by decide +kernel
theorem d_L_law_309 : decode b_L_law 309 = .ok (.aload_n 2, 1) := by decide +kernel
theorem d_L_law_310 : decode b_L_law 310 = .ok (.aload_n 0, 1) := by decide +kernel
theorem d_L_law_311 : decode b_L_law 311 = .ok (.iload 5, 2) := by decide +kernel
theorem d_L_law_313 : decode b_L_law 313 = .ok (.iconst 1, 1) := by decide +kernel
theorem d_L_law_314 : decode b_L_law 314 = .ok (.iadd, 1) := by decide +kernel
theorem d_L_law_315 : decode b_L_law 315 = .ok (.iaload, 1) := by decide +kernel
theorem d_L_law_316 : decode b_L_law 316 = .ok (.aload_n 0, 1) := by decide +kernel
theorem d_L_law_317 : decode b_L_law 317 = .ok (.iload 5, 2) := by decide +kernel
theorem d_L_law_319 : decode b_L_law 319 = .ok (.iconst 2, 1) := by decide +kernel
theorem d_L_law_320 : decode b_L_law 320 = .ok (.iadd, 1) := by decide +kernel
theorem d_L_law_321 : decode b_L_law 321 = .ok (.iaload, 1) := by decide +kernel
theorem d_L_law_322 : decode b_L_law 322 = .ok (.invokevirtual 87, 3) := by decide +kernel
theorem d_L_law_325 : decode b_L_law 325 = .ok (.istore 7, 2) := by decide +kernel
theorem d_L_law_327 : decode b_L_law 327 = .ok (.aload_n 2, 1) := by decide +kernel
theorem d_L_law_328 : decode b_L_law 328 = .ok (.invokevirtual 76, 3) := by decide +kernel
theorem d_L_law_331 : decode b_L_law 331 = .ok (.iload 6, 2) := by decide +kernel
theorem d_L_law_333 : decode b_L_law 333 = .ok (.if_icmp .eq 5, 3) := by decide +kernel
theorem d_L_law_336 : decode b_L_law 336 = .ok (.iconst 0, 1) := by decide +kernel
theorem d_L_law_337 : decode b_L_law 337 = .ok (.ireturn, 1) := by decide +kernel
theorem d_L_law_338 : decode b_L_law 338 = .ok (.iload 6, 2) := by decide +kernel
theorem d_L_law_340 : decode b_L_law 340 = .ok (.ifCond .ne 15, 3) := by decide +kernel
theorem d_L_law_343 : decode b_L_law 343 = .ok (.aload_n 3, 1) := by decide +kernel
theorem d_L_law_344 : decode b_L_law 344 = .ok (.iconst 0, 1) := by decide +kernel
theorem d_L_law_345 : decode b_L_law 345 = .ok (.laload, 1) := by decide +kernel
theorem d_L_law_346 : decode b_L_law 346 = .ok (.iload 7, 2) := by decide +kernel
theorem d_L_law_348 : decode b_L_law 348 = .ok (.i2l, 1) := by decide +kernel
theorem d_L_law_349 : decode b_L_law 349 = .ok (.lcmp, 1) := by decide +kernel
theorem d_L_law_350 : decode b_L_law 350 = .ok (.ifCond .eq 5, 3) := by decide +kernel
theorem d_L_law_353 : decode b_L_law 353 = .ok (.iconst 0, 1) := by decide +kernel
theorem d_L_law_354 : decode b_L_law 354 = .ok (.ireturn, 1) := by decide +kernel
theorem d_L_law_355 : decode b_L_law 355 = .ok (.goto 775, 3) := by decide +kernel
theorem d_L_law_358 : decode b_L_law 358 = .ok (.aload_n 1, 1) := by decide +kernel
theorem d_L_law_359 : decode b_L_law 359 = .ok (.aload_n 0, 1) := by decide +kernel
theorem d_L_law_360 : decode b_L_law 360 = .ok (.iload 5, 2) := by decide +kernel
theorem d_L_law_362 : decode b_L_law 362 = .ok (.iconst 1, 1) := by decide +kernel
theorem d_L_law_363 : decode b_L_law 363 = .ok (.iadd, 1) := by decide +kernel
theorem d_L_law_364 : decode b_L_law 364 = .ok (.iaload, 1) := by decide +kernel
theorem d_L_law_365 : decode b_L_law 365 = .ok (.aload_n 0, 1) := by decide +kernel
theorem d_L_law_366 : decode b_L_law 366 = .ok (.iload 5, 2) := by decide +kernel
theorem d_L_law_368 : decode b_L_law 368 = .ok (.iconst 2, 1) := by decide +kernel
theorem d_L_law_369 : decode b_L_law 369 = .ok (.iadd, 1) := by decide +kernel
theorem d_L_law_370 : decode b_L_law 370 = .ok (.iaload, 1) := by decide +kernel
theorem d_L_law_371 : decode b_L_law 371 = .ok (.aload_n 0, 1) := by decide +kernel
theorem d_L_law_372 : decode b_L_law 372 = .ok (.iload 5, 2) := by decide +kernel
theorem d_L_law_374 : decode b_L_law 374 = .ok (.iconst 3, 1) := by decide +kernel
theorem d_L_law_375 : decode b_L_law 375 = .ok (.iadd, 1) := by decide +kernel
theorem d_L_law_376 : decode b_L_law 376 = .ok (.iaload, 1) := by decide +kernel
theorem d_L_law_377 : decode b_L_law 377 = .ok (.aload_n 0, 1) := by decide +kernel
theorem d_L_law_378 : decode b_L_law 378 = .ok (.iload 5, 2) := by decide +kernel
theorem d_L_law_380 : decode b_L_law 380 = .ok (.iconst 4, 1) := by decide +kernel
theorem d_L_law_381 : decode b_L_law 381 = .ok (.iadd, 1) := by decide +kernel
theorem d_L_law_382 : decode b_L_law 382 = .ok (.iaload, 1) := by decide +kernel
theorem d_L_law_383 : decode b_L_law 383 = .ok (.i2d, 1) := by decide +kernel
theorem d_L_law_384 : decode b_L_law 384 = .ok (.ldc2_w 68, 3) := by decide +kernel
theorem d_L_law_387 : decode b_L_law 387 = .ok (.dmul, 1) := by decide +kernel
theorem d_L_law_388 : decode b_L_law 388 = .ok (.aload_n 0, 1) := by decide +kernel
theorem d_L_law_389 : decode b_L_law 389 = .ok (.iload 5, 2) := by decide +kernel
theorem d_L_law_391 : decode b_L_law 391 = .ok (.iconst 5, 1) := by decide +kernel
theorem d_L_law_392 : decode b_L_law 392 = .ok (.iadd, 1) := by decide +kernel
theorem d_L_law_393 : decode b_L_law 393 = .ok (.iaload, 1) := by decide +kernel
theorem d_L_law_394 : decode b_L_law 394 = .ok (.aload_n 3, 1) := by decide +kernel
theorem d_L_law_395 : decode b_L_law 395 = .ok (.invokestatic 88, 3) := by decide +kernel
theorem d_L_law_398 : decode b_L_law 398 = .ok (.istore 6, 2) := by decide +kernel
theorem d_L_law_400 : decode b_L_law 400 = .ok (.aload_n 2, 1) := by decide +kernel
theorem d_L_law_401 : decode b_L_law 401 = .ok (.aload_n 0, 1) := by decide +kernel
theorem d_L_law_402 : decode b_L_law 402 = .ok (.iload 5, 2) := by decide +kernel
theorem d_L_law_404 : decode b_L_law 404 = .ok (.iconst 1, 1) := by decide +kernel
theorem d_L_law_405 : decode b_L_law 405 = .ok (.iadd, 1) := by decide +kernel
theorem d_L_law_406 : decode b_L_law 406 = .ok (.iaload, 1) := by decide +kernel
theorem d_L_law_407 : decode b_L_law 407 = .ok (.aload_n 0, 1) := by decide +kernel
theorem d_L_law_408 : decode b_L_law 408 = .ok (.iload 5, 2) := by decide +kernel
theorem d_L_law_410 : decode b_L_law 410 = .ok (.iconst 2, 1) := by decide +kernel
theorem d_L_law_411 : decode b_L_law 411 = .ok (.iadd, 1) := by decide +kernel
theorem d_L_law_412 : decode b_L_law 412 = .ok (.iaload, 1) := by decide +kernel
theorem d_L_law_413 : decode b_L_law 413 = .ok (.aload_n 0, 1) := by decide +kernel
theorem d_L_law_414 : decode b_L_law 414 = .ok (.iload 5, 2) := by decide +kernel
theorem d_L_law_416 : decode b_L_law 416 = .ok (.iconst 3, 1) := by decide +kernel
theorem d_L_law_417 : decode b_L_law 417 = .ok (.iadd, 1) := by decide +kernel
theorem d_L_law_418 : decode b_L_law 418 = .ok (.iaload, 1) := by decide +kernel
theorem d_L_law_419 : decode b_L_law 419 = .ok (.aload_n 0, 1) := by decide +kernel
theorem d_L_law_420 : decode b_L_law 420 = .ok (.iload 5, 2) := by decide +kernel
theorem d_L_law_422 : decode b_L_law 422 = .ok (.iconst 4, 1) := by decide +kernel
theorem d_L_law_423 : decode b_L_law 423 = .ok (.iadd, 1) := by decide +kernel
theorem d_L_law_424 : decode b_L_law 424 = .ok (.iaload, 1) := by decide +kernel
theorem d_L_law_425 : decode b_L_law 425 = .ok (.i2d, 1) := by decide +kernel
theorem d_L_law_426 : decode b_L_law 426 = .ok (.ldc2_w 68, 3) := by decide +kernel
theorem d_L_law_429 : decode b_L_law 429 = .ok (.dmul, 1) := by decide +kernel
theorem d_L_law_430 : decode b_L_law 430 = .ok (.aload_n 0, 1) := by decide +kernel
theorem d_L_law_431 : decode b_L_law 431 = .ok (.iload 5, 2) := by decide +kernel
theorem d_L_law_433 : decode b_L_law 433 = .ok (.iconst 5, 1) := by decide +kernel
theorem d_L_law_434 : decode b_L_law 434 = .ok (.iadd, 1) := by decide +kernel
theorem d_L_law_435 : decode b_L_law 435 = .ok (.iaload, 1) := by decide +kernel
theorem d_L_law_436 : decode b_L_law 436 = .ok (.invokevirtual 91, 3) := by decide +kernel
theorem d_L_law_439 : decode b_L_law 439 = .ok (.istore 7, 2) := by decide +kernel
theorem d_L_law_441 : decode b_L_law 441 = .ok (.aload_n 2, 1) := by decide +kernel
theorem d_L_law_442 : decode b_L_law 442 = .ok (.invokevirtual 76, 3) := by decide +kernel
theorem d_L_law_445 : decode b_L_law 445 = .ok (.iload 6, 2) := by decide +kernel
theorem d_L_law_447 : decode b_L_law 447 = .ok (.if_icmp .eq 5, 3) := by decide +kernel
theorem d_L_law_450 : decode b_L_law 450 = .ok (.iconst 0, 1) := by decide +kernel
theorem d_L_law_451 : decode b_L_law 451 = .ok (.ireturn, 1) := by decide +kernel
theorem d_L_law_452 : decode b_L_law 452 = .ok (.iload 6, 2) := by decide +kernel
theorem d_L_law_454 : decode b_L_law 454 = .ok (.ifCond .ne 15, 3) := by decide +kernel
theorem d_L_law_457 : decode b_L_law 457 = .ok (.aload_n 3, 1) := by decide +kernel
theorem d_L_law_458 : decode b_L_law 458 = .ok (.iconst 0, 1) := by decide +kernel
theorem d_L_law_459 : decode b_L_law 459 = .ok (.laload, 1) := by decide +kernel
theorem d_L_law_460 : decode b_L_law 460 = .ok (.iload 7, 2) := by decide +kernel
theorem d_L_law_462 : decode b_L_law 462 = .ok (.i2l, 1) := by decide +kernel
theorem d_L_law_463 : decode b_L_law 463 = .ok (.lcmp, 1) := by decide +kernel
theorem d_L_law_464 : decode b_L_law 464 = .ok (.ifCond .eq 5, 3) := by decide +kernel
theorem d_L_law_467 : decode b_L_law 467 = .ok (.iconst 0, 1) := by decide +kernel
theorem d_L_law_468 : decode b_L_law 468 = .ok (.ireturn, 1) := by decide +kernel
theorem d_L_law_469 : decode b_L_law 469 = .ok (.goto 661, 3) := by decide +kernel
theorem d_L_law_472 : decode b_L_law 472 = .ok (.aload_n 1, 1) := by decide +kernel
theorem d_L_law_473 : decode b_L_law 473 = .ok (.aload_n 0, 1) := by decide +kernel
theorem d_L_law_474 : decode b_L_law 474 = .ok (.iload 5, 2) := by decide +kernel
theorem d_L_law_476 : decode b_L_law 476 = .ok (.iconst 1, 1) := by decide +kernel
theorem d_L_law_477 : decode b_L_law 477 = .ok (.iadd, 1) := by decide +kernel
theorem d_L_law_478 : decode b_L_law 478 = .ok (.iaload, 1) := by decide +kernel
theorem d_L_law_479 : decode b_L_law 479 = .ok (.aload_n 0, 1) := by decide +kernel
theorem d_L_law_480 : decode b_L_law 480 = .ok (.iload 5, 2) := by decide +kernel
theorem d_L_law_482 : decode b_L_law 482 = .ok (.iconst 2, 1) := by decide +kernel
theorem d_L_law_483 : decode b_L_law 483 = .ok (.iadd, 1) := by decide +kernel
theorem d_L_law_484 : decode b_L_law 484 = .ok (.iaload, 1) := by decide +kernel
theorem d_L_law_485 : decode b_L_law 485 = .ok (.aload_n 0, 1) := by decide +kernel
theorem d_L_law_486 : decode b_L_law 486 = .ok (.iload 5, 2) := by decide +kernel
theorem d_L_law_488 : decode b_L_law 488 = .ok (.iconst 3, 1) := by decide +kernel
theorem d_L_law_489 : decode b_L_law 489 = .ok (.iadd, 1) := by decide +kernel
theorem d_L_law_490 : decode b_L_law 490 = .ok (.iaload, 1) := by decide +kernel
theorem d_L_law_491 : decode b_L_law 491 = .ok (.aload_n 0, 1) := by decide +kernel
theorem d_L_law_492 : decode b_L_law 492 = .ok (.iload 5, 2) := by decide +kernel
theorem d_L_law_494 : decode b_L_law 494 = .ok (.iconst 4, 1) := by decide +kernel
theorem d_L_law_495 : decode b_L_law 495 = .ok (.iadd, 1) := by decide +kernel
theorem d_L_law_496 : decode b_L_law 496 = .ok (.iaload, 1) := by decide +kernel
theorem d_L_law_497 : decode b_L_law 497 = .ok (.ifCond .eq 7, 3) := by decide +kernel
theorem d_L_law_500 : decode b_L_law 500 = .ok (.iconst 1, 1) := by decide +kernel
theorem d_L_law_501 : decode b_L_law 501 = .ok (.goto 4, 3) := by decide +kernel
theorem d_L_law_504 : decode b_L_law 504 = .ok (.iconst 0, 1) := by decide +kernel
theorem d_L_law_505 : decode b_L_law 505 = .ok (.aload_n 0, 1) := by decide +kernel
theorem d_L_law_506 : decode b_L_law 506 = .ok (.iload 5, 2) := by decide +kernel
theorem d_L_law_508 : decode b_L_law 508 = .ok (.iconst 5, 1) := by decide +kernel
theorem d_L_law_509 : decode b_L_law 509 = .ok (.iadd, 1) := by decide +kernel
theorem d_L_law_510 : decode b_L_law 510 = .ok (.iaload, 1) := by decide +kernel
theorem d_L_law_511 : decode b_L_law 511 = .ok (.invokestatic 92, 3) := by decide +kernel
theorem d_L_law_514 : decode b_L_law 514 = .ok (.istore 6, 2) := by decide +kernel
theorem d_L_law_516 : decode b_L_law 516 = .ok (.aload_n 2, 1) := by decide +kernel
theorem d_L_law_517 : decode b_L_law 517 = .ok (.aload_n 0, 1) := by decide +kernel
theorem d_L_law_518 : decode b_L_law 518 = .ok (.iload 5, 2) := by decide +kernel
theorem d_L_law_520 : decode b_L_law 520 = .ok (.iconst 1, 1) := by decide +kernel
theorem d_L_law_521 : decode b_L_law 521 = .ok (.iadd, 1) := by decide +kernel
theorem d_L_law_522 : decode b_L_law 522 = .ok (.iaload, 1) := by decide +kernel
theorem d_L_law_523 : decode b_L_law 523 = .ok (.aload_n 0, 1) := by decide +kernel
theorem d_L_law_524 : decode b_L_law 524 = .ok (.iload 5, 2) := by decide +kernel
theorem d_L_law_526 : decode b_L_law 526 = .ok (.iconst 2, 1) := by decide +kernel
theorem d_L_law_527 : decode b_L_law 527 = .ok (.iadd, 1) := by decide +kernel
theorem d_L_law_528 : decode b_L_law 528 = .ok (.iaload, 1) := by decide +kernel
theorem d_L_law_529 : decode b_L_law 529 = .ok (.aload_n 0, 1) := by decide +kernel
theorem d_L_law_530 : decode b_L_law 530 = .ok (.iload 5, 2) := by decide +kernel
theorem d_L_law_532 : decode b_L_law 532 = .ok (.iconst 3, 1) := by decide +kernel
theorem d_L_law_533 : decode b_L_law 533 = .ok (.iadd, 1) := by decide +kernel
theorem d_L_law_534 : decode b_L_law 534 = .ok (.iaload, 1) := by decide +kernel
theorem d_L_law_535 : decode b_L_law 535 = .ok (.aload_n 0, 1) := by decide +kernel
theorem d_L_law_536 : decode b_L_law 536 = .ok (.iload 5, 2) := by decide +kernel
theorem d_L_law_538 : decode b_L_law 538 = .ok (.iconst 4, 1) := by decide +kernel
theorem d_L_law_539 : decode b_L_law 539 = .ok (.iadd, 1) := by decide +kernel
theorem d_L_law_540 : decode b_L_law 540 = .ok (.iaload, 1) := by decide +kernel
theorem d_L_law_541 : decode b_L_law 541 = .ok (.ifCond .eq 7, 3) := by decide +kernel
theorem d_L_law_544 : decode b_L_law 544 = .ok (.iconst 1, 1) := by decide +kernel
theorem d_L_law_545 : decode b_L_law 545 = .ok (.goto 4, 3) := by decide +kernel
theorem d_L_law_548 : decode b_L_law 548 = .ok (.iconst 0, 1) := by decide +kernel
theorem d_L_law_549 : decode b_L_law 549 = .ok (.aload_n 0, 1) := by decide +kernel
theorem d_L_law_550 : decode b_L_law 550 = .ok (.iload 5, 2) := by decide +kernel
theorem d_L_law_552 : decode b_L_law 552 = .ok (.iconst 5, 1) := by decide +kernel
theorem d_L_law_553 : decode b_L_law 553 = .ok (.iadd, 1) := by decide +kernel
theorem d_L_law_554 : decode b_L_law 554 = .ok (.iaload, 1) := by decide +kernel
theorem d_L_law_555 : decode b_L_law 555 = .ok (.invokevirtual 95, 3) := by decide +kernel
theorem d_L_law_558 : decode b_L_law 558 = .ok (.aload_n 2, 1) := by decide +kernel
theorem d_L_law_559 : decode b_L_law 559 = .ok (.invokevirtual 76, 3) := by decide +kernel
theorem d_L_law_562 : decode b_L_law 562 = .ok (.iload 6, 2) := by decide +kernel
theorem d_L_law_564 : decode b_L_law 564 = .ok (.if_icmp .eq 5, 3) := by decide +kernel
theorem d_L_law_567 : decode b_L_law 567 = .ok (.iconst 0, 1) := by decide +kernel
theorem d_L_law_568 : decode b_L_law 568 = .ok (.ireturn, 1) := by decide +kernel
theorem d_L_law_569 : decode b_L_law 569 = .ok (.goto 561, 3) := by decide +kernel
theorem d_L_law_572 : decode b_L_law 572 = .ok (.aload_n 1, 1) := by decide +kernel
theorem d_L_law_573 : decode b_L_law 573 = .ok (.aload_n 0, 1) := by decide +kernel
theorem d_L_law_574 : decode b_L_law 574 = .ok (.iload 5, 2) := by decide +kernel
theorem d_L_law_576 : decode b_L_law 576 = .ok (.iconst 1, 1) := by decide +kernel
theorem d_L_law_577 : decode b_L_law 577 = .ok (.iadd, 1) := by decide +kernel
theorem d_L_law_578 : decode b_L_law 578 = .ok (.iaload, 1) := by decide +kernel
theorem d_L_law_579 : decode b_L_law 579 = .ok (.aload_n 0, 1) := by decide +kernel
theorem d_L_law_580 : decode b_L_law 580 = .ok (.iload 5, 2) := by decide +kernel
theorem d_L_law_582 : decode b_L_law 582 = .ok (.iconst 2, 1) := by decide +kernel
theorem d_L_law_583 : decode b_L_law 583 = .ok (.iadd, 1) := by decide +kernel
theorem d_L_law_584 : decode b_L_law 584 = .ok (.iaload, 1) := by decide +kernel
theorem d_L_law_585 : decode b_L_law 585 = .ok (.aload_n 0, 1) := by decide +kernel
theorem d_L_law_586 : decode b_L_law 586 = .ok (.iload 5, 2) := by decide +kernel
theorem d_L_law_588 : decode b_L_law 588 = .ok (.iconst 3, 1) := by decide +kernel
theorem d_L_law_589 : decode b_L_law 589 = .ok (.iadd, 1) := by decide +kernel
theorem d_L_law_590 : decode b_L_law 590 = .ok (.iaload, 1) := by decide +kernel
theorem d_L_law_591 : decode b_L_law 591 = .ok (.invokestatic 96, 3) := by decide +kernel
theorem d_L_law_594 : decode b_L_law 594 = .ok (.istore 6, 2) := by decide +kernel
theorem d_L_law_596 : decode b_L_law 596 = .ok (.aload_n 2, 1) := by decide +kernel
theorem d_L_law_597 : decode b_L_law 597 = .ok (.aload_n 0, 1) := by decide +kernel
theorem d_L_law_598 : decode b_L_law 598 = .ok (.iload 5, 2) := by decide +kernel
theorem d_L_law_600 : decode b_L_law 600 = .ok (.iconst 1, 1) := by decide +kernel
theorem d_L_law_601 : decode b_L_law 601 = .ok (.iadd, 1) := by decide +kernel
theorem d_L_law_602 : decode b_L_law 602 = .ok (.iaload, 1) := by decide +kernel
theorem d_L_law_603 : decode b_L_law 603 = .ok (.aload_n 0, 1) := by decide +kernel
theorem d_L_law_604 : decode b_L_law 604 = .ok (.iload 5, 2) := by decide +kernel
theorem d_L_law_606 : decode b_L_law 606 = .ok (.iconst 2, 1) := by decide +kernel
theorem d_L_law_607 : decode b_L_law 607 = .ok (.iadd, 1) := by decide +kernel
theorem d_L_law_608 : decode b_L_law 608 = .ok (.iaload, 1) := by decide +kernel
theorem d_L_law_609 : decode b_L_law 609 = .ok (.aload_n 0, 1) := by decide +kernel
theorem d_L_law_610 : decode b_L_law 610 = .ok (.iload 5, 2) := by decide +kernel
theorem d_L_law_612 : decode b_L_law 612 = .ok (.iconst 3, 1) := by decide +kernel
theorem d_L_law_613 : decode b_L_law 613 = .ok (.iadd, 1) := by decide +kernel
theorem d_L_law_614 : decode b_L_law 614 = .ok (.iaload, 1) := by decide +kernel
theorem d_L_law_615 : decode b_L_law 615 = .ok (.invokevirtual 99, 3) := by decide +kernel
theorem d_L_law_618 : decode b_L_law 618 = .ok (.aload_n 2, 1) := by decide +kernel
theorem d_L_law_619 : decode b_L_law 619 = .ok (.invokevirtual 76, 3) := by decide +kernel
theorem d_L_law_622 : decode b_L_law 622 = .ok (.iload 6, 2) := by decide +kernel
theorem d_L_law_624 : decode b_L_law 624 = .ok (.if_icmp .eq 5, 3) := by decide +kernel
theorem d_L_law_627 : decode b_L_law 627 = .ok (.iconst 0, 1) := by decide +kernel
theorem d_L_law_628 : decode b_L_law 628 = .ok (.ireturn, 1) := by decide +kernel
theorem d_L_law_629 : decode b_L_law 629 = .ok (.goto 501, 3) := by decide +kernel
theorem d_L_law_632 : decode b_L_law 632 = .ok (.aload_n 1, 1) := by decide +kernel
theorem d_L_law_633 : decode b_L_law 633 = .ok (.aload_n 0, 1) := by decide +kernel
theorem d_L_law_634 : decode b_L_law 634 = .ok (.iload 5, 2) := by decide +kernel
theorem d_L_law_636 : decode b_L_law 636 = .ok (.iconst 1, 1) := by decide +kernel
theorem d_L_law_637 : decode b_L_law 637 = .ok (.iadd, 1) := by decide +kernel
theorem d_L_law_638 : decode b_L_law 638 = .ok (.iaload, 1) := by decide +kernel
theorem d_L_law_639 : decode b_L_law 639 = .ok (.aload_n 0, 1) := by decide +kernel
theorem d_L_law_640 : decode b_L_law 640 = .ok (.iload 5, 2) := by decide +kernel
theorem d_L_law_642 : decode b_L_law 642 = .ok (.iconst 2, 1) := by decide +kernel
theorem d_L_law_643 : decode b_L_law 643 = .ok (.iadd, 1) := by decide +kernel
theorem d_L_law_644 : decode b_L_law 644 = .ok (.iaload, 1) := by decide +kernel
theorem d_L_law_645 : decode b_L_law 645 = .ok (.i2d, 1) := by decide +kernel
theorem d_L_law_646 : decode b_L_law 646 = .ok (.ldc2_w 68, 3) := by decide +kernel
theorem d_L_law_649 : decode b_L_law 649 = .ok (.dmul, 1) := by decide +kernel
theorem d_L_law_650 : decode b_L_law 650 = .ok (.aload_n 3, 1) := by decide +kernel
theorem d_L_law_651 : decode b_L_law 651 = .ok (.invokestatic 100, 3) := by decide +kernel
theorem d_L_law_654 : decode b_L_law 654 = .ok (.istore 6, 2) := by decide +kernel
theorem d_L_law_656 : decode b_L_law 656 = .ok (.aload_n 2, 1) := by decide +kernel
theorem d_L_law_657 : decode b_L_law 657 = .ok (.aload_n 0, 1) := by decide +kernel
theorem d_L_law_658 : decode b_L_law 658 = .ok (.iload 5, 2) := by decide +kernel
theorem d_L_law_660 : decode b_L_law 660 = .ok (.iconst 1, 1) := by decide +kernel
theorem d_L_law_661 : decode b_L_law 661 = .ok (.iadd, 1) := by decide +kernel
theorem d_L_law_662 : decode b_L_law 662 = .ok (.iaload, 1) := by decide +kernel
theorem d_L_law_663 : decode b_L_law 663 = .ok (.aload_n 0, 1) := by decide +kernel
theorem d_L_law_664 : decode b_L_law 664 = .ok (.iload 5, 2) := by decide +kernel
theorem d_L_law_666 : decode b_L_law 666 = .ok (.iconst 2, 1) := by decide +kernel
theorem d_L_law_667 : decode b_L_law 667 = .ok (.iadd, 1) := by decide +kernel
theorem d_L_law_668 : decode b_L_law 668 = .ok (.iaload, 1) := by decide +kernel
theorem d_L_law_669 : decode b_L_law 669 = .ok (.i2d, 1) := by decide +kernel
theorem d_L_law_670 : decode b_L_law 670 = .ok (.ldc2_w 68, 3) := by decide +kernel
theorem d_L_law_673 : decode b_L_law 673 = .ok (.dmul, 1) := by decide +kernel
theorem d_L_law_674 : decode b_L_law 674 = .ok (.invokevirtual 103, 3) := by decide +kernel
theorem d_L_law_677 : decode b_L_law 677 = .ok (.istore 7, 2) := by decide +kernel
theorem d_L_law_679 : decode b_L_law 679 = .ok (.aload_n 2, 1) := by decide +kernel
theorem d_L_law_680 : decode b_L_law 680 = .ok (.invokevirtual 76, 3) := by decide +kernel
theorem d_L_law_683 : decode b_L_law 683 = .ok (.iload 6, 2) := by decide +kernel
theorem d_L_law_685 : decode b_L_law 685 = .ok (.if_icmp .eq 5, 3) := by decide +kernel
theorem d_L_law_688 : decode b_L_law 688 = .ok (.iconst 0, 1) := by decide +kernel
theorem d_L_law_689 : decode b_L_law 689 = .ok (.ireturn, 1) := by decide +kernel
theorem d_L_law_690 : decode b_L_law 690 = .ok (.iload 6, 2) := by decide +kernel
theorem d_L_law_692 : decode b_L_law 692 = .ok (.ifCond .ne 15, 3) := by decide +kernel
theorem d_L_law_695 : decode b_L_law 695 = .ok (.aload_n 3, 1) := by decide +kernel
theorem d_L_law_696 : decode b_L_law 696 = .ok (.iconst 0, 1) := by decide +kernel
theorem d_L_law_697 : decode b_L_law 697 = .ok (.laload, 1) := by decide +kernel
theorem d_L_law_698 : decode b_L_law 698 = .ok (.iload 7, 2) := by decide +kernel
theorem d_L_law_700 : decode b_L_law 700 = .ok (.i2l, 1) := by decide +kernel
theorem d_L_law_701 : decode b_L_law 701 = .ok (.lcmp, 1) := by decide +kernel
theorem d_L_law_702 : decode b_L_law 702 = .ok (.ifCond .eq 5, 3) := by decide +kernel
theorem d_L_law_705 : decode b_L_law 705 = .ok (.iconst 0, 1) := by decide +kernel
theorem d_L_law_706 : decode b_L_law 706 = .ok (.ireturn, 1) := by decide +kernel
theorem d_L_law_707 : decode b_L_law 707 = .ok (.goto 423, 3) := by decide +kernel
theorem d_L_law_710 : decode b_L_law 710 = .ok (.aload_n 1, 1) := by decide +kernel
theorem d_L_law_711 : decode b_L_law 711 = .ok (.aload_n 0, 1) := by decide +kernel
theorem d_L_law_712 : decode b_L_law 712 = .ok (.iload 5, 2) := by decide +kernel
theorem d_L_law_714 : decode b_L_law 714 = .ok (.iconst 1, 1) := by decide +kernel
theorem d_L_law_715 : decode b_L_law 715 = .ok (.iadd, 1) := by decide +kernel
theorem d_L_law_716 : decode b_L_law 716 = .ok (.iaload, 1) := by decide +kernel
theorem d_L_law_717 : decode b_L_law 717 = .ok (.aload 4, 2) := by decide +kernel
theorem d_L_law_719 : decode b_L_law 719 = .ok (.invokestatic 104, 3) := by decide +kernel
theorem d_L_law_722 : decode b_L_law 722 = .ok (.istore 6, 2) := by decide +kernel
theorem d_L_law_724 : decode b_L_law 724 = .ok (.aload_n 2, 1) := by decide +kernel
theorem d_L_law_725 : decode b_L_law 725 = .ok (.aload_n 0, 1) := by decide +kernel
theorem d_L_law_726 : decode b_L_law 726 = .ok (.iload 5, 2) := by decide +kernel
theorem d_L_law_728 : decode b_L_law 728 = .ok (.iconst 1, 1) := by decide +kernel
theorem d_L_law_729 : decode b_L_law 729 = .ok (.iadd, 1) := by decide +kernel
theorem d_L_law_730 : decode b_L_law 730 = .ok (.iaload, 1) := by decide +kernel
theorem d_L_law_731 : decode b_L_law 731 = .ok (.invokevirtual 107, 3) := by decide +kernel
theorem d_L_law_734 : decode b_L_law 734 = .ok (.dstore 7, 2) := by decide +kernel
theorem d_L_law_736 : decode b_L_law 736 = .ok (.aload_n 2, 1) := by decide +kernel
theorem d_L_law_737 : decode b_L_law 737 = .ok (.invokevirtual 76, 3) := by decide +kernel
theorem d_L_law_740 : decode b_L_law 740 = .ok (.iload 6, 2) := by decide +kernel
theorem d_L_law_742 : decode b_L_law 742 = .ok (.if_icmp .eq 5, 3) := by decide +kernel
theorem d_L_law_745 : decode b_L_law 745 = .ok (.iconst 0, 1) := by decide +kernel
theorem d_L_law_746 : decode b_L_law 746 = .ok (.ireturn, 1) := by decide +kernel
theorem d_L_law_747 : decode b_L_law 747 = .ok (.iload 6, 2) := by decide +kernel
theorem d_L_law_749 : decode b_L_law 749 = .ok (.ifCond .ne 35, 3) := by decide +kernel
theorem d_L_law_752 : decode b_L_law 752 = .ok (.aload 4, 2) := by decide +kernel
theorem d_L_law_754 : decode b_L_law 754 = .ok (.iconst 0, 1) := by decide +kernel
theorem d_L_law_755 : decode b_L_law 755 = .ok (.daload, 1) := by decide +kernel
theorem d_L_law_756 : decode b_L_law 756 = .ok (.dload 7, 2) := by decide +kernel
theorem d_L_law_758 : decode b_L_law 758 = .ok (.dcmp .l, 1) := by decide +kernel
theorem d_L_law_759 : decode b_L_law 759 = .ok (.ifCond .eq 25, 3) := by decide +kernel
theorem d_L_law_762 : decode b_L_law 762 = .ok (.aload 4, 2) := by decide +kernel
theorem d_L_law_764 : decode b_L_law 764 = .ok (.iconst 0, 1) := by decide +kernel
theorem d_L_law_765 : decode b_L_law 765 = .ok (.daload, 1) := by decide +kernel
theorem d_L_law_766 : decode b_L_law 766 = .ok (.aload 4, 2) := by decide +kernel
theorem d_L_law_768 : decode b_L_law 768 = .ok (.iconst 0, 1) := by decide +kernel
theorem d_L_law_769 : decode b_L_law 769 = .ok (.daload, 1) := by decide +kernel
theorem d_L_law_770 : decode b_L_law 770 = .ok (.dcmp .l, 1) := by decide +kernel
theorem d_L_law_771 : decode b_L_law 771 = .ok (.ifCond .eq 11, 3) := by decide +kernel
theorem d_L_law_774 : decode b_L_law 774 = .ok (.dload 7, 2) := by decide +kernel
theorem d_L_law_776 : decode b_L_law 776 = .ok (.dload 7, 2) := by decide +kernel
theorem d_L_law_778 : decode b_L_law 778 = .ok (.dcmp .l, 1) := by decide +kernel
theorem d_L_law_779 : decode b_L_law 779 = .ok (.ifCond .ne 5, 3) := by decide +kernel
theorem d_L_law_782 : decode b_L_law 782 = .ok (.iconst 0, 1) := by decide +kernel
theorem d_L_law_783 : decode b_L_law 783 = .ok (.ireturn, 1) := by decide +kernel
theorem d_L_law_784 : decode b_L_law 784 = .ok (.goto 346, 3) := by decide +kernel
theorem d_L_law_787 : decode b_L_law 787 = .ok (.aload_n 1, 1) := by decide +kernel
theorem d_L_law_788 : decode b_L_law 788 = .ok (.aload_n 0, 1) := by decide +kernel
theorem d_L_law_789 : decode b_L_law 789 = .ok (.iload 5, 2) := by decide +kernel
theorem d_L_law_791 : decode b_L_law 791 = .ok (.iconst 1, 1) := by decide +kernel
theorem d_L_law_792 : decode b_L_law 792 = .ok (.iadd, 1) := by decide +kernel
theorem d_L_law_793 : decode b_L_law 793 = .ok (.iaload, 1) := by decide +kernel
theorem d_L_law_794 : decode b_L_law 794 = .ok (.aload_n 0, 1) := by decide +kernel
theorem d_L_law_795 : decode b_L_law 795 = .ok (.iload 5, 2) := by decide +kernel
theorem d_L_law_797 : decode b_L_law 797 = .ok (.iconst 2, 1) := by decide +kernel
theorem d_L_law_798 : decode b_L_law 798 = .ok (.iadd, 1) := by decide +kernel
theorem d_L_law_799 : decode b_L_law 799 = .ok (.iaload, 1) := by decide +kernel
theorem d_L_law_800 : decode b_L_law 800 = .ok (.ifCond .eq 7, 3) := by decide +kernel
theorem d_L_law_803 : decode b_L_law 803 = .ok (.iconst 1, 1) := by decide +kernel
theorem d_L_law_804 : decode b_L_law 804 = .ok (.goto 4, 3) := by decide +kernel
theorem d_L_law_807 : decode b_L_law 807 = .ok (.iconst 0, 1) := by decide +kernel
theorem d_L_law_808 : decode b_L_law 808 = .ok (.invokestatic 108, 3) := by decide +kernel
theorem d_L_law_811 : decode b_L_law 811 = .ok (.istore 6, 2) := by decide +kernel
theorem d_L_law_813 : decode b_L_law 813 = .ok (.aload_n 2, 1) := by decide +kernel
theorem d_L_law_814 : decode b_L_law 814 = .ok (.aload_n 0, 1) := by decide +kernel
theorem d_L_law_815 : decode b_L_law 815 = .ok (.iload 5, 2) := by decide +kernel
theorem d_L_law_817 : decode b_L_law 817 = .ok (.iconst 1, 1) := by decide +kernel
theorem d_L_law_818 : decode b_L_law 818 = .ok (.iadd, 1) := by decide +kernel
theorem d_L_law_819 : decode b_L_law 819 = .ok (.iaload, 1) := by decide +kernel
theorem d_L_law_820 : decode b_L_law 820 = .ok (.aload_n 0, 1) := by decide +kernel
theorem d_L_law_821 : decode b_L_law 821 = .ok (.iload 5, 2) := by decide +kernel
theorem d_L_law_823 : decode b_L_law 823 = .ok (.iconst 2, 1) := by decide +kernel
theorem d_L_law_824 : decode b_L_law 824 = .ok (.iadd, 1) := by decide +kernel
theorem d_L_law_825 : decode b_L_law 825 = .ok (.iaload, 1) := by decide +kernel
theorem d_L_law_826 : decode b_L_law 826 = .ok (.ifCond .eq 7, 3) := by decide +kernel
theorem d_L_law_829 : decode b_L_law 829 = .ok (.iconst 1, 1) := by decide +kernel
theorem d_L_law_830 : decode b_L_law 830 = .ok (.goto 4, 3) := by decide +kernel
theorem d_L_law_833 : decode b_L_law 833 = .ok (.iconst 0, 1) := by decide +kernel
theorem d_L_law_834 : decode b_L_law 834 = .ok (.invokevirtual 111, 3) := by decide +kernel
theorem d_L_law_837 : decode b_L_law 837 = .ok (.aload_n 2, 1) := by decide +kernel
theorem d_L_law_838 : decode b_L_law 838 = .ok (.invokevirtual 76, 3) := by decide +kernel
theorem d_L_law_841 : decode b_L_law 841 = .ok (.iload 6, 2) := by decide +kernel
theorem d_L_law_843 : decode b_L_law 843 = .ok (.if_icmp .eq 5, 3) := by decide +kernel
theorem d_L_law_846 : decode b_L_law 846 = .ok (.iconst 0, 1) := by decide +kernel
theorem d_L_law_847 : decode b_L_law 847 = .ok (.ireturn, 1) := by decide +kernel
theorem d_L_law_848 : decode b_L_law 848 = .ok (.goto 282, 3) := by decide +kernel
theorem d_L_law_851 : decode b_L_law 851 = .ok (.aload_n 1, 1) := by decide +kernel
theorem d_L_law_852 : decode b_L_law 852 = .ok (.aload_n 0, 1) := by decide +kernel
theorem d_L_law_853 : decode b_L_law 853 = .ok (.iload 5, 2) := by decide +kernel
theorem d_L_law_855 : decode b_L_law 855 = .ok (.iconst 1, 1) := by decide +kernel
theorem d_L_law_856 : decode b_L_law 856 = .ok (.iadd, 1) := by decide +kernel
theorem d_L_law_857 : decode b_L_law 857 = .ok (.iaload, 1) := by decide +kernel
theorem d_L_law_858 : decode b_L_law 858 = .ok (.aload_n 0, 1) := by decide +kernel
theorem d_L_law_859 : decode b_L_law 859 = .ok (.iload 5, 2) := by decide +kernel
theorem d_L_law_861 : decode b_L_law 861 = .ok (.iconst 2, 1) := by decide +kernel
theorem d_L_law_862 : decode b_L_law 862 = .ok (.iadd, 1) := by decide +kernel
theorem d_L_law_863 : decode b_L_law 863 = .ok (.iaload, 1) := by decide +kernel
theorem d_L_law_864 : decode b_L_law 864 = .ok (.aload_n 0, 1) := by decide +kernel
theorem d_L_law_865 : decode b_L_law 865 = .ok (.iload 5, 2) := by decide +kernel
theorem d_L_law_867 : decode b_L_law 867 = .ok (.iconst 3, 1) := by decide +kernel
theorem d_L_law_868 : decode b_L_law 868 = .ok (.iadd, 1) := by decide +kernel
theorem d_L_law_869 : decode b_L_law 869 = .ok (.iaload, 1) := by decide +kernel
theorem d_L_law_870 : decode b_L_law 870 = .ok (.i2d, 1) := by decide +kernel
theorem d_L_law_871 : decode b_L_law 871 = .ok (.ldc2_w 68, 3) := by decide +kernel
theorem d_L_law_874 : decode b_L_law 874 = .ok (.dmul, 1) := by decide +kernel
theorem d_L_law_875 : decode b_L_law 875 = .ok (.aload 4, 2) := by decide +kernel
theorem d_L_law_877 : decode b_L_law 877 = .ok (.invokestatic 112, 3) := by decide +kernel
theorem d_L_law_880 : decode b_L_law 880 = .ok (.istore 6, 2) := by decide +kernel
theorem d_L_law_882 : decode b_L_law 882 = .ok (.aload_n 2, 1) := by decide +kernel
theorem d_L_law_883 : decode b_L_law 883 = .ok (.aload_n 0, 1) := by decide +kernel
theorem d_L_law_884 : decode b_L_law 884 = .ok (.iload 5, 2) := by decide +kernel
theorem d_L_law_886 : decode b_L_law 886 = .ok (.iconst 1, 1) := by decide +kernel
theorem d_L_law_887 : decode b_L_law 887 = .ok (.iadd, 1) := by decide +kernel
theorem d_L_law_888 : decode b_L_law 888 = .ok (.iaload, 1) := by decide +kernel
theorem d_L_law_889 : decode b_L_law 889 = .ok (.aload_n 0, 1) := by decide +kernel
theorem d_L_law_890 : decode b_L_law 890 = .ok (.iload 5, 2) := by decide +kernel
theorem d_L_law_892 : decode b_L_law 892 = .ok (.iconst 2, 1) := by decide +kernel
theorem d_L_law_893 : decode b_L_law 893 = .ok (.iadd, 1) := by decide +kernel
theorem d_L_law_894 : decode b_L_law 894 = .ok (.iaload, 1) := by decide +kernel
theorem d_L_law_895 : decode b_L_law 895 = .ok (.aload_n 0, 1) := by decide +kernel
theorem d_L_law_896 : decode b_L_law 896 = .ok (.iload 5, 2) := by decide +kernel
theorem d_L_law_898 : decode b_L_law 898 = .ok (.iconst 3, 1) := by decide +kernel
theorem d_L_law_899 : decode b_L_law 899 = .ok (.iadd, 1) := by decide +kernel
theorem d_L_law_900 : decode b_L_law 900 = .ok (.iaload, 1) := by decide +kernel
theorem d_L_law_901 : decode b_L_law 901 = .ok (.i2d, 1) := by decide +kernel
theorem d_L_law_902 : decode b_L_law 902 = .ok (.ldc2_w 68, 3) := by decide +kernel
theorem d_L_law_905 : decode b_L_law 905 = .ok (.dmul, 1) := by decide +kernel
theorem d_L_law_906 : decode b_L_law 906 = .ok (.invokevirtual 115, 3) := by decide +kernel
theorem d_L_law_909 : decode b_L_law 909 = .ok (.dstore 7, 2) := by decide +kernel
theorem d_L_law_911 : decode b_L_law 911 = .ok (.aload_n 2, 1) := by decide +kernel
theorem d_L_law_912 : decode b_L_law 912 = .ok (.invokevirtual 76, 3) := by decide +kernel
theorem d_L_law_915 : decode b_L_law 915 = .ok (.iload 6, 2) := by decide +kernel
theorem d_L_law_917 : decode b_L_law 917 = .ok (.if_icmp .eq 5, 3) := by decide +kernel
theorem d_L_law_920 : decode b_L_law 920 = .ok (.iconst 0, 1) := by decide +kernel
theorem d_L_law_921 : decode b_L_law 921 = .ok (.ireturn, 1) := by decide +kernel
theorem d_L_law_922 : decode b_L_law 922 = .ok (.iload 6, 2) := by decide +kernel
theorem d_L_law_924 : decode b_L_law 924 = .ok (.ifCond .ne 35, 3) := by decide +kernel
theorem d_L_law_927 : decode b_L_law 927 = .ok (.aload 4, 2) := by decide +kernel
theorem d_L_law_929 : decode b_L_law 929 = .ok (.iconst 0, 1) := by decide +kernel
theorem d_L_law_930 : decode b_L_law 930 = .ok (.daload, 1) := by decide +kernel
theorem d_L_law_931 : decode b_L_law 931 = .ok (.dload 7, 2) := by decide +kernel
theorem d_L_law_933 : decode b_L_law 933 = .ok (.dcmp .l, 1) := by decide +kernel
theorem d_L_law_934 : decode b_L_law 934 = .ok (.ifCond .eq 25, 3) := by decide +kernel
theorem d_L_law_937 : decode b_L_law 937 = .ok (.aload 4, 2) := by decide +kernel
theorem d_L_law_939 : decode b_L_law 939 = .ok (.iconst 0, 1) := by decide +kernel
theorem d_L_law_940 : decode b_L_law 940 = .ok (.daload, 1) := by decide +kernel
theorem d_L_law_941 : decode b_L_law 941 = .ok (.aload 4, 2) := by decide +kernel
theorem d_L_law_943 : decode b_L_law 943 = .ok (.iconst 0, 1) := by decide +kernel
theorem d_L_law_944 : decode b_L_law 944 = .ok (.daload, 1) := by decide +kernel
theorem d_L_law_945 : decode b_L_law 945 = .ok (.dcmp .l, 1) := by decide +kernel
theorem d_L_law_946 : decode b_L_law 946 = .ok (.ifCond .eq 11, 3) := by decide +kernel
theorem d_L_law_949 : decode b_L_law 949 = .ok (.dload 7, 2) := by decide +kernel
theorem d_L_law_951 : decode b_L_law 951 = .ok (.dload 7, 2) := by decide +kernel
theorem d_L_law_953 : decode b_L_law 953 = .ok (.dcmp .l, 1) := by decide +kernel
theorem d_L_law_954 : decode b_L_law 954 = .ok (.ifCond .ne 5, 3) := by decide +kernel
theorem d_L_law_957 : decode b_L_law 957 = .ok (.iconst 0, 1) := by decide +kernel
theorem d_L_law_958 : decode b_L_law 958 = .ok (.ireturn, 1) := by decide +kernel
theorem d_L_law_959 : decode b_L_law 959 = .ok (.goto 171, 3) := by decide +kernel
theorem d_L_law_962 : decode b_L_law 962 = .ok (.aload_n 1, 1) := by decide +kernel
theorem d_L_law_963 : decode b_L_law 963 = .ok (.aload_n 0, 1) := by decide +kernel
theorem d_L_law_964 : decode b_L_law 964 = .ok (.iload 5, 2) := by decide +kernel
theorem d_L_law_966 : decode b_L_law 966 = .ok (.iconst 1, 1) := by decide +kernel
theorem d_L_law_967 : decode b_L_law 967 = .ok (.iadd, 1) := by decide +kernel
theorem d_L_law_968 : decode b_L_law 968 = .ok (.iaload, 1) := by decide +kernel
theorem d_L_law_969 : decode b_L_law 969 = .ok (.aload_n 0, 1) := by decide +kernel
theorem d_L_law_970 : decode b_L_law 970 = .ok (.iload 5, 2) := by decide +kernel
theorem d_L_law_972 : decode b_L_law 972 = .ok (.iconst 2, 1) := by decide +kernel
theorem d_L_law_973 : decode b_L_law 973 = .ok (.iadd, 1) := by decide +kernel
theorem d_L_law_974 : decode b_L_law 974 = .ok (.iaload, 1) := by decide +kernel
theorem d_L_law_975 : decode b_L_law 975 = .ok (.aload_n 3, 1) := by decide +kernel
theorem d_L_law_976 : decode b_L_law 976 = .ok (.invokestatic 116, 3) := by decide +kernel
theorem d_L_law_979 : decode b_L_law 979 = .ok (.istore 6, 2) := by decide +kernel
theorem d_L_law_981 : decode b_L_law 981 = .ok (.aload_n 2, 1) := by decide +kernel
theorem d_L_law_982 : decode b_L_law 982 = .ok (.aload_n 0, 1) := by decide +kernel
theorem d_L_law_983 : decode b_L_law 983 = .ok (.iload 5, 2) := by decide +kernel
theorem d_L_law_985 : decode b_L_law 985 = .ok (.iconst 1, 1) := by decide +kernel
theorem d_L_law_986 : decode b_L_law 986 = .ok (.iadd, 1) := by decide +kernel
theorem d_L_law_987 : decode b_L_law 987 = .ok (.iaload, 1) := by decide +kernel
theorem d_L_law_988 : decode b_L_law 988 = .ok (.aload_n 0, 1) := by decide +kernel
theorem d_L_law_989 : decode b_L_law 989 = .ok (.iload 5, 2) := by decide +kernel
theorem d_L_law_991 : decode b_L_law 991 = .ok (.iconst 2, 1) := by decide +kernel
theorem d_L_law_992 : decode b_L_law 992 = .ok (.iadd, 1) := by decide +kernel
theorem d_L_law_993 : decode b_L_law 993 = .ok (.iaload, 1) := by decide +kernel
theorem d_L_law_994 : decode b_L_law 994 = .ok (.invokevirtual 118, 3) := by decide +kernel
theorem d_L_law_997 : decode b_L_law 997 = .ok (.istore 7, 2) := by decide +kernel
theorem d_L_law_999 : decode b_L_law 999 = .ok (.aload_n 2, 1) := by decide +kernel
theorem d_L_law_1000 : decode b_L_law 1000 = .ok (.invokevirtual 76, 3) := by decide +kernel
theorem d_L_law_1003 : decode b_L_law 1003 = .ok (.iload 6, 2) := by decide +kernel
theorem d_L_law_1005 : decode b_L_law 1005 = .ok (.if_icmp .eq 5, 3) := by decide +kernel
theorem d_L_law_1008 : decode b_L_law 1008 = .ok (.iconst 0, 1) := by decide +kernel
theorem d_L_law_1009 : decode b_L_law 1009 = .ok (.ireturn, 1) := by decide +kernel
theorem d_L_law_1010 : decode b_L_law 1010 = .ok (.iload 6, 2) := by decide +kernel
theorem d_L_law_1012 : decode b_L_law 1012 = .ok (.ifCond .ne 22, 3) := by decide +kernel
theorem d_L_law_1015 : decode b_L_law 1015 = .ok (.aload_n 3, 1) := by decide +kernel
theorem d_L_law_1016 : decode b_L_law 1016 = .ok (.iconst 0, 1) := by decide +kernel
theorem d_L_law_1017 : decode b_L_law 1017 = .ok (.laload, 1) := by decide +kernel
theorem d_L_law_1018 : decode b_L_law 1018 = .ok (.iload 7, 2) := by decide +kernel
theorem d_L_law_1020 : decode b_L_law 1020 = .ok (.ifCond .eq 7, 3) := by decide +kernel
theorem d_L_law_1023 : decode b_L_law 1023 = .ok (.lconst 1, 1) := by decide +kernel
theorem d_L_law_1024 : decode b_L_law 1024 = .ok (.goto 4, 3) := by decide +kernel
theorem d_L_law_1027 : decode b_L_law 1027 = .ok (.lconst 0, 1) := by decide +kernel
theorem d_L_law_1028 : decode b_L_law 1028 = .ok (.lcmp, 1) := by decide +kernel
theorem d_L_law_1029 : decode b_L_law 1029 = .ok (.ifCond .eq 5, 3) := by decide +kernel
theorem d_L_law_1032 : decode b_L_law 1032 = .ok (.iconst 0, 1) := by decide +kernel
theorem d_L_law_1033 : decode b_L_law 1033 = .ok (.ireturn, 1) := by decide +kernel
theorem d_L_law_1034 : decode b_L_law 1034 = .ok (.goto 96, 3) := by decide +kernel
theorem d_L_law_1037 : decode b_L_law 1037 = .ok (.aload_n 1, 1) := by decide +kernel
theorem d_L_law_1038 : decode b_L_law 1038 = .ok (.aload_n 0, 1) := by decide +kernel
theorem d_L_law_1039 : decode b_L_law 1039 = .ok (.iload 5, 2) := by decide +kernel
theorem d_L_law_1041 : decode b_L_law 1041 = .ok (.iconst 1, 1) := by decide +kernel
theorem d_L_law_1042 : decode b_L_law 1042 = .ok (.iadd, 1) := by decide +kernel
theorem d_L_law_1043 : decode b_L_law 1043 = .ok (.iaload, 1) := by decide +kernel
theorem d_L_law_1044 : decode b_L_law 1044 = .ok (.aload_n 0, 1) := by decide +kernel
theorem d_L_law_1045 : decode b_L_law 1045 = .ok (.iload 5, 2) := by decide +kernel
theorem d_L_law_1047 : decode b_L_law 1047 = .ok (.iconst 2, 1) := by decide +kernel
theorem d_L_law_1048 : decode b_L_law 1048 = .ok (.iadd, 1) := by decide +kernel
theorem d_L_law_1049 : decode b_L_law 1049 = .ok (.iaload, 1) := by decide +kernel
theorem d_L_law_1050 : decode b_L_law 1050 = .ok (.aload_n 3, 1) := by decide +kernel
theorem d_L_law_1051 : decode b_L_law 1051 = .ok (.invokestatic 119, 3) := by decide +kernel
theorem d_L_law_1054 : decode b_L_law 1054 = .ok (.istore 6, 2) := by decide +kernel
theorem d_L_law_1056 : decode b_L_law 1056 = .ok (.aload_n 2, 1) := by decide +kernel
theorem d_L_law_1057 : decode b_L_law 1057 = .ok (.aload_n 0, 1) := by decide +kernel
theorem d_L_law_1058 : decode b_L_law 1058 = .ok (.iload 5, 2) := by decide +kernel
theorem d_L_law_1060 : decode b_L_law 1060 = .ok (.iconst 1, 1) := by decide +kernel
theorem d_L_law_1061 : decode b_L_law 1061 = .ok (.iadd, 1) := by decide +kernel
theorem d_L_law_1062 : decode b_L_law 1062 = .ok (.iaload, 1) := by decide +kernel
theorem d_L_law_1063 : decode b_L_law 1063 = .ok (.aload_n 0, 1) := by decide +kernel
theorem d_L_law_1064 : decode b_L_law 1064 = .ok (.iload 5, 2) := by decide +kernel
theorem d_L_law_1066 : decode b_L_law 1066 = .ok (.iconst 2, 1) := by decide +kernel
theorem d_L_law_1067 : decode b_L_law 1067 = .ok (.iadd, 1) := by decide +kernel
theorem d_L_law_1068 : decode b_L_law 1068 = .ok (.iaload, 1) := by decide +kernel
theorem d_L_law_1069 : decode b_L_law 1069 = .ok (.invokevirtual 121, 3) := by decide +kernel
theorem d_L_law_1072 : decode b_L_law 1072 = .ok (.istore 7, 2) := by decide +kernel
theorem d_L_law_1074 : decode b_L_law 1074 = .ok (.aload_n 2, 1) := by decide +kernel
theorem d_L_law_1075 : decode b_L_law 1075 = .ok (.invokevirtual 76, 3) := by decide +kernel
theorem d_L_law_1078 : decode b_L_law 1078 = .ok (.iload 6, 2) := by decide +kernel
theorem d_L_law_1080 : decode b_L_law 1080 = .ok (.if_icmp .eq 5, 3) := by decide +kernel
theorem d_L_law_1083 : decode b_L_law 1083 = .ok (.iconst 0, 1) := by decide +kernel
theorem d_L_law_1084 : decode b_L_law 1084 = .ok (.ireturn, 1) := by decide +kernel
theorem d_L_law_1085 : decode b_L_law 1085 = .ok (.iload 6, 2) := by decide +kernel
theorem d_L_law_1087 : decode b_L_law 1087 = .ok (.ifCond .ne 15, 3) := by decide +kernel
theorem d_L_law_1090 : decode b_L_law 1090 = .ok (.aload_n 3, 1) := by decide +kernel
theorem d_L_law_1091 : decode b_L_law 1091 = .ok (.iconst 0, 1) := by decide +kernel
theorem d_L_law_1092 : decode b_L_law 1092 = .ok (.laload, 1) := by decide +kernel
theorem d_L_law_1093 : decode b_L_law 1093 = .ok (.iload 7, 2) := by decide +kernel
theorem d_L_law_1095 : decode b_L_law 1095 = .ok (.i2l, 1) := by decide +kernel
theorem d_L_law_1096 : decode b_L_law 1096 = .ok (.lcmp, 1) := by decide +kernel
theorem d_L_law_1097 : decode b_L_law 1097 = .ok (.ifCond .eq 5, 3) := by decide +kernel
theorem d_L_law_1100 : decode b_L_law 1100 = .ok (.iconst 0, 1) := by decide +kernel
theorem d_L_law_1101 : decode b_L_law 1101 = .ok (.ireturn, 1) := by decide +kernel
theorem d_L_law_1102 : decode b_L_law 1102 = .ok (.goto 28, 3) := by decide +kernel
theorem d_L_law_1105 : decode b_L_law 1105 = .ok (.aload_n 1, 1) := by decide +kernel
theorem d_L_law_1106 : decode b_L_law 1106 = .ok (.aload_n 0, 1) := by decide +kernel
theorem d_L_law_1107 : decode b_L_law 1107 = .ok (.iload 5, 2) := by decide +kernel
theorem d_L_law_1109 : decode b_L_law 1109 = .ok (.iconst 1, 1) := by decide +kernel
theorem d_L_law_1110 : decode b_L_law 1110 = .ok (.iadd, 1) := by decide +kernel
theorem d_L_law_1111 : decode b_L_law 1111 = .ok (.iaload, 1) := by decide +kernel
theorem d_L_law_1112 : decode b_L_law 1112 = .ok (.invokevirtual 122, 3) := by decide +kernel
theorem d_L_law_1115 : decode b_L_law 1115 = .ok (.aload_n 2, 1) := by decide +kernel
theorem d_L_law_1116 : decode b_L_law 1116 = .ok (.aload_n 0, 1) := by decide +kernel
theorem d_L_law_1117 : decode b_L_law 1117 = .ok (.iload 5, 2) := by decide +kernel
theorem d_L_law_1119 : decode b_L_law 1119 = .ok (.iconst 1, 1) := by decide +kernel
theorem d_L_law_1120 : decode b_L_law 1120 = .ok (.iadd, 1) := by decide +kernel
theorem d_L_law_1121 : decode b_L_law 1121 = .ok (.iaload, 1) := by decide +kernel
theorem d_L_law_1122 : decode b_L_law 1122 = .ok (.invokevirtual 126, 3) := by decide +kernel
theorem d_L_law_1125 : decode b_L_law 1125 = .ok (.if_icmp .eq 5, 3) := by decide +kernel
theorem d_L_law_1128 : decode b_L_law 1128 = .ok (.iconst 0, 1) := by decide +kernel
theorem d_L_law_1129 : decode b_L_law 1129 = .ok (.ireturn, 1) := by decide +kernel
theorem d_L_law_1130 : decode b_L_law 1130 = .ok (.iinc 5 6, 3) := by decide +kernel
theorem d_L_law_1133 : decode b_L_law 1133 = .ok (.goto (-1105), 3) := by decide +kernel
theorem d_L_law_1136 : decode b_L_law 1136 = .ok (.iconst 1, 1) := by decide +kernel
theorem d_L_law_1137 : decode b_L_law 1137 = .ok (.ireturn, 1) := by decide +kernel
theorem d_L_node_0 : decode b_L_node 0 = .ok (.aload_n 3, 1) := by decide +kernel
theorem d_L_node_1 : decode b_L_node 1 = .ok (.iconst 0, 1) := by decide +kernel
theorem d_L_node_2 : decode b_L_node 2 = .ok (.aload_n 0, 1) := by decide +kernel
theorem d_L_node_3 : decode b_L_node 3 = .ok (.iload_n 1, 1) := by decide +kernel
theorem d_L_node_4 : decode b_L_node 4 = .ok (.iload_n 2, 1) := by decide +kernel
theorem d_L_node_5 : decode b_L_node 5 = .ok (.invokevirtual 61, 3) := by decide +kernel
theorem d_L_node_8 : decode b_L_node 8 = .ok (.i2l, 1) := by decide +kernel
theorem d_L_node_9 : decode b_L_node 9 = .ok (.lastore, 1) := by decide +kernel
theorem d_L_node_10 : decode b_L_node 10 = .ok (.goto 7, 3) := by decide +kernel
theorem d_L_node_13 : decode b_L_node 13 = .ok (.astore 4, 2) := by decide +kernel
theorem d_L_node_15 : decode b_L_node 15 = .ok (.iconst 1, 1) := by decide +kernel
theorem d_L_node_16 : decode b_L_node 16 = .ok (.ireturn, 1) := by decide +kernel
theorem d_L_node_17 : decode b_L_node 17 = .ok (.iconst 0, 1) := by decide +kernel
theorem d_L_node_18 : decode b_L_node 18 = .ok (.ireturn, 1) := by decide +kernel
theorem d_L_option_0 : decode b_L_option 0 = .ok (.aload 7, 2) := by decide +kernel
theorem d_L_option_2 : decode b_L_option 2 = .ok (.iconst 0, 1) := by decide +kernel
theorem d_L_option_3 : decode b_L_option 3 = .ok (.aload_n 0, 1) := by decide +kernel
theorem d_L_option_4 : decode b_L_option 4 = .ok (.iload_n 1, 1) := by decide +kernel
theorem d_L_option_5 : decode b_L_option 5 = .ok (.iload_n 2, 1) := by decide +kernel
theorem d_L_option_6 : decode b_L_option 6 = .ok (.iload_n 3, 1) := by decide +kernel
theorem d_L_option_7 : decode b_L_option 7 = .ok (.dload 4, 2) := by decide +kernel
theorem d_L_option_9 : decode b_L_option 9 = .ok (.iload 6, 2) := by decide +kernel
theorem d_L_option_11 : decode b_L_option 11 = .ok (.invokevirtual 25, 3) := by decide +kernel
theorem d_L_option_14 : decode b_L_option 14 = .ok (.i2l, 1) := by decide +kernel
theorem d_L_option_15 : decode b_L_option 15 = .ok (.lastore, 1) := by decide +kernel
theorem d_L_option_16 : decode b_L_option 16 = .ok (.goto 11, 3) := by decide +kernel
theorem d_L_option_19 : decode b_L_option 19 = .ok (.astore 8, 2) := by decide +kernel
theorem d_L_option_21 : decode b_L_option 21 = .ok (.iconst 1, 1) := by decide +kernel
theorem d_L_option_22 : decode b_L_option 22 = .ok (.ireturn, 1) := by decide +kernel
theorem d_L_option_23 : decode b_L_option 23 = .ok (.astore 8, 2) := by decide +kernel
theorem d_L_option_25 : decode b_L_option 25 = .ok (.iconst 2, 1) := by decide +kernel
theorem d_L_option_26 : decode b_L_option 26 = .ok (.ireturn, 1) := by decide +kernel
theorem d_L_option_27 : decode b_L_option 27 = .ok (.iconst 0, 1) := by decide +kernel
theorem d_L_option_28 : decode b_L_option 28 = .ok (.ireturn, 1) := by decide +kernel
theorem d_L_quote_0 : decode b_L_quote 0 = .ok (.aload_n 3, 1) := by decide +kernel
theorem d_L_quote_1 : decode b_L_quote 1 = .ok (.iconst 0, 1) := by decide +kernel
theorem d_L_quote_2 : decode b_L_quote 2 = .ok (.aload_n 0, 1) := by decide +kernel
theorem d_L_quote_3 : decode b_L_quote 3 = .ok (.dload_n 1, 1) := by decide +kernel
theorem d_L_quote_4 : decode b_L_quote 4 = .ok (.invokevirtual 7, 3) := by decide +kernel
theorem d_L_quote_7 : decode b_L_quote 7 = .ok (.i2l, 1) := by decide +kernel
theorem d_L_quote_8 : decode b_L_quote 8 = .ok (.lastore, 1) := by decide +kernel
theorem d_L_quote_9 : decode b_L_quote 9 = .ok (.goto 11, 3) := by decide +kernel
theorem d_L_quote_12 : decode b_L_quote 12 = .ok (.astore 4, 2) := by decide +kernel
theorem d_L_quote_14 : decode b_L_quote 14 = .ok (.iconst 1, 1) := by decide +kernel
theorem d_L_quote_15 : decode b_L_quote 15 = .ok (.ireturn, 1) := by decide +kernel
theorem d_L_quote_16 : decode b_L_quote 16 = .ok (.astore 4, 2) := by decide +kernel
theorem d_L_quote_18 : decode b_L_quote 18 = .ok (.iconst 2, 1) := by decide +kernel
theorem d_L_quote_19 : decode b_L_quote 19 = .ok (.ireturn, 1) := by decide +kernel
theorem d_L_quote_20 : decode b_L_quote 20 = .ok (.iconst 0, 1) := by decide +kernel
theorem d_L_quote_21 : decode b_L_quote 21 = .ok (.ireturn, 1) := by decide +kernel
theorem d_L_set_0 : decode b_L_set 0 = .ok (.aload 4, 2) := by decide +kernel
theorem d_L_set_2 : decode b_L_set 2 = .ok (.iconst 0, 1) := by decide +kernel
theorem d_L_set_3 : decode b_L_set 3 = .ok (.aload_n 0, 1) := by decide +kernel
theorem d_L_set_4 : decode b_L_set 4 = .ok (.iload_n 1, 1) := by decide +kernel
theorem d_L_set_5 : decode b_L_set 5 = .ok (.dload_n 2, 1) := by decide +kernel
theorem d_L_set_6 : decode b_L_set 6 = .ok (.invokevirtual 37, 3) := by decide +kernel
theorem d_L_set_9 : decode b_L_set 9 = .ok (.i2l, 1) := by decide +kernel
theorem d_L_set_10 : decode b_L_set 10 = .ok (.lastore, 1) := by decide +kernel
theorem d_L_set_11 : decode b_L_set 11 = .ok (.goto 7, 3) := by decide +kernel
theorem d_L_set_14 : decode b_L_set 14 = .ok (.astore 5, 2) := by decide +kernel
theorem d_L_set_16 : decode b_L_set 16 = .ok (.iconst 1, 1) := by decide +kernel
theorem d_L_set_17 : decode b_L_set 17 = .ok (.ireturn, 1) := by decide +kernel
theorem d_L_set_18 : decode b_L_set 18 = .ok (.iconst 0, 1) := by decide +kernel
theorem d_L_set_19 : decode b_L_set 19 = .ok (.ireturn, 1) := by decide +kernel
theorem d_L_terms_0 : decode b_L_terms 0 = .ok (.aload_n 0, 1) := by decide +kernel
theorem d_L_terms_1 : decode b_L_terms 1 = .ok (.iload_n 1, 1) := by decide +kernel
theorem d_L_terms_2 : decode b_L_terms 2 = .ok (.iload_n 2, 1) := by decide +kernel
theorem d_L_terms_3 : decode b_L_terms 3 = .ok (.iload_n 3, 1) := by decide +kernel
theorem d_L_terms_4 : decode b_L_terms 4 = .ok (.iload 4, 2) := by decide +kernel
theorem d_L_terms_6 : decode b_L_terms 6 = .ok (.iload 5, 2) := by decide +kernel
theorem d_L_terms_8 : decode b_L_terms 8 = .ok (.invokevirtual 29, 3) := by decide +kernel
theorem d_L_terms_11 : decode b_L_terms 11 = .ok (.goto 11, 3) := by decide +kernel
theorem d_L_terms_14 : decode b_L_terms 14 = .ok (.astore 6, 2) := by decide +kernel
theorem d_L_terms_16 : decode b_L_terms 16 = .ok (.iconst 1, 1) := by decide +kernel
theorem d_L_terms_17 : decode b_L_terms 17 = .ok (.ireturn, 1) := by decide +kernel
theorem d_L_terms_18 : decode b_L_terms 18 = .ok (.astore 6, 2) := by decide +kernel
theorem d_L_terms_20 : decode b_L_terms 20 = .ok (.iconst 2, 1) := by decide +kernel
theorem d_L_terms_21 : decode b_L_terms 21 = .ok (.ireturn, 1) := by decide +kernel
theorem d_L_terms_22 : decode b_L_terms 22 = .ok (.iconst 0, 1) := by decide +kernel
theorem d_L_terms_23 : decode b_L_terms 23 = .ok (.ireturn, 1) := by decide +kernel
theorem d_L_uses_0 : decode b_L_uses 0 = .ok (.aload_n 3, 1) := by decide +kernel
theorem d_L_uses_1 : decode b_L_uses 1 = .ok (.iconst 0, 1) := by decide +kernel
theorem d_L_uses_2 : decode b_L_uses 2 = .ok (.aload_n 0, 1) := by decide +kernel
theorem d_L_uses_3 : decode b_L_uses 3 = .ok (.iload_n 1, 1) := by decide +kernel
theorem d_L_uses_4 : decode b_L_uses 4 = .ok (.iload_n 2, 1) := by decide +kernel
theorem d_L_uses_5 : decode b_L_uses 5 = .ok (.invokevirtual 57, 3) := by decide +kernel
theorem d_L_uses_8 : decode b_L_uses 8 = .ok (.ifCond .eq 7, 3) := by decide +kernel
theorem d_L_uses_11 : decode b_L_uses 11 = .ok (.lconst 1, 1) := by decide +kernel
theorem d_L_uses_12 : decode b_L_uses 12 = .ok (.goto 4, 3) := by decide +kernel
theorem d_L_uses_15 : decode b_L_uses 15 = .ok (.lconst 0, 1) := by decide +kernel
theorem d_L_uses_16 : decode b_L_uses 16 = .ok (.lastore, 1) := by decide +kernel
theorem d_L_uses_17 : decode b_L_uses 17 = .ok (.goto 7, 3) := by decide +kernel
theorem d_L_uses_20 : decode b_L_uses 20 = .ok (.astore 4, 2) := by decide +kernel
theorem d_L_uses_22 : decode b_L_uses 22 = .ok (.iconst 1, 1) := by decide +kernel
theorem d_L_uses_23 : decode b_L_uses 23 = .ok (.ireturn, 1) := by decide +kernel
theorem d_L_uses_24 : decode b_L_uses 24 = .ok (.iconst 0, 1) := by decide +kernel
theorem d_L_uses_25 : decode b_L_uses 25 = .ok (.ireturn, 1) := by decide +kernel
theorem d_L_value_0 : decode b_L_value 0 = .ok (.aload_n 2, 1) := by decide +kernel
theorem d_L_value_1 : decode b_L_value 1 = .ok (.iconst 0, 1) := by decide +kernel
theorem d_L_value_2 : decode b_L_value 2 = .ok (.aload_n 0, 1) := by decide +kernel
theorem d_L_value_3 : decode b_L_value 3 = .ok (.iload_n 1, 1) := by decide +kernel
theorem d_L_value_4 : decode b_L_value 4 = .ok (.invokevirtual 41, 3) := by decide +kernel
theorem d_L_value_7 : decode b_L_value 7 = .ok (.dastore, 1) := by decide +kernel
theorem d_L_value_8 : decode b_L_value 8 = .ok (.goto 12, 3) := by decide +kernel
theorem d_L_value_11 : decode b_L_value 11 = .ok (.astore_n 3, 1) := by decide +kernel
theorem d_L_value_12 : decode b_L_value 12 = .ok (.iconst 1, 1) := by decide +kernel
theorem d_L_value_13 : decode b_L_value 13 = .ok (.ireturn, 1) := by decide +kernel
theorem d_L_value_14 : decode b_L_value 14 = .ok (.astore_n 3, 1) := by decide +kernel
theorem d_L_value_15 : decode b_L_value 15 = .ok (.iconst 2, 1) := by decide +kernel
theorem d_L_value_16 : decode b_L_value 16 = .ok (.ireturn, 1) := by decide +kernel
theorem d_L_value_17 : decode b_L_value 17 = .ok (.astore_n 3, 1) := by decide +kernel
theorem d_L_value_18 : decode b_L_value 18 = .ok (.iconst 3, 1) := by decide +kernel
theorem d_L_value_19 : decode b_L_value 19 = .ok (.ireturn, 1) := by decide +kernel
theorem d_L_value_20 : decode b_L_value 20 = .ok (.iconst 0, 1) := by decide +kernel
theorem d_L_value_21 : decode b_L_value 21 = .ok (.ireturn, 1) := by decide +kernel
theorem d_La_checkSuits_0 : decode b_La_checkSuits 0 = .ok (.return_, 1) := by decide +kernel
theorem d_La_init_0 : decode b_La_init 0 = .ok (.aload_n 0, 1) := by decide +kernel
theorem d_La_init_1 : decode b_La_init 1 = .ok (.iconst 0, 1) := by decide +kernel
theorem d_La_init_2 : decode b_La_init 2 = .ok (.iconst 0, 1) := by decide +kernel
theorem d_La_init_3 : decode b_La_init 3 = .ok (.invokespecial 3, 3) := by decide +kernel
theorem d_La_init_6 : decode b_La_init 6 = .ok (.aload_n 0, 1) := by decide +kernel
theorem d_La_init_7 : decode b_La_init 7 = .ok (.bipush 21, 2) := by decide +kernel
theorem d_La_init_9 : decode b_La_init 9 = .ok (.newarray .long, 2) := by decide +kernel
theorem d_La_init_11 : decode b_La_init 11 = .ok (.putfield 9, 3) := by decide +kernel
theorem d_La_init_14 : decode b_La_init 14 = .ok (.return_, 1) := by decide +kernel
theorem d_La_price_0 : decode b_La_price 0 = .ok (.iconst 0, 1) := by decide +kernel
theorem d_La_price_1 : decode b_La_price 1 = .ok (.istore 4, 2) := by decide +kernel
theorem d_La_price_3 : decode b_La_price 3 = .ok (.iload 4, 2) := by decide +kernel
theorem d_La_price_5 : decode b_La_price 5 = .ok (.aload_n 1, 1) := by decide +kernel
theorem d_La_price_6 : decode b_La_price 6 = .ok (.getfield 15, 3) := by decide +kernel
theorem d_La_price_9 : decode b_La_price 9 = .ok (.if_icmp .gt 33, 3) := by decide +kernel
theorem d_La_price_12 : decode b_La_price 12 = .ok (.aload_n 0, 1) := by decide +kernel
theorem d_La_price_13 : decode b_La_price 13 = .ok (.getfield 9, 3) := by decide +kernel
theorem d_La_price_16 : decode b_La_price 16 = .ok (.iload 4, 2) := by decide +kernel
theorem d_La_price_18 : decode b_La_price 18 = .ok (.aload_n 1, 1) := by decide +kernel
theorem d_La_price_19 : decode b_La_price 19 = .ok (.aload_n 1, 1) := by decide +kernel
theorem d_La_price_20 : decode b_La_price 20 = .ok (.iconst 2, 1) := by decide +kernel
theorem d_La_price_21 : decode b_La_price 21 = .ok (.iload 4, 2) := by decide +kernel
theorem d_La_price_23 : decode b_La_price 23 = .ok (.imul, 1) := by decide +kernel
theorem d_La_price_24 : decode b_La_price 24 = .ok (.aload_n 1, 1) := by decide +kernel
theorem d_La_price_25 : decode b_La_price 25 = .ok (.getfield 15, 3) := by decide +kernel
theorem d_La_price_28 : decode b_La_price 28 = .ok (.isub, 1) := by decide +kernel
theorem d_La_price_29 : decode b_La_price 29 = .ok (.invokevirtual 21, 3) := by decide +kernel
theorem d_La_price_32 : decode b_La_price 32 = .ok (.invokevirtual 25, 3) := by decide +kernel
theorem d_La_price_35 : decode b_La_price 35 = .ok (.lastore, 1) := by decide +kernel
theorem d_La_price_36 : decode b_La_price 36 = .ok (.iinc 4 1, 3) := by decide +kernel
theorem d_La_price_39 : decode b_La_price 39 = .ok (.goto (-36), 3) := by decide +kernel
theorem d_La_price_42 : decode b_La_price 42 = .ok (.aload_n 1, 1) := by decide +kernel
theorem d_La_price_43 : decode b_La_price 43 = .ok (.getfield 15, 3) := by decide +kernel
theorem d_La_price_46 : decode b_La_price 46 = .ok (.iconst 1, 1) := by decide +kernel
theorem d_La_price_47 : decode b_La_price 47 = .ok (.isub, 1) := by decide +kernel
theorem d_La_price_48 : decode b_La_price 48 = .ok (.istore 4, 2) := by decide +kernel
theorem d_La_price_50 : decode b_La_price 50 = .ok (.iload 4, 2) := by decide +kernel
theorem d_La_price_52 : decode b_La_price 52 = .ok (.ifCond .lt 17, 3) := by decide +kernel
theorem d_La_price_55 : decode b_La_price 55 = .ok (.aload_n 0, 1) := by decide +kernel
theorem d_La_price_56 : decode b_La_price 56 = .ok (.aload_n 1, 1) := by decide +kernel
theorem d_La_price_57 : decode b_La_price 57 = .ok (.lload_n 2, 1) := by decide +kernel
theorem d_La_price_58 : decode b_La_price 58 = .ok (.iload 4, 2) := by decide +kernel
theorem d_La_price_60 : decode b_La_price 60 = .ok (.invokevirtual 29, 3) := by decide +kernel
theorem d_La_price_63 : decode b_La_price 63 = .ok (.iinc 4 (-1), 3) := by decide +kernel
theorem d_La_price_66 : decode b_La_price 66 = .ok (.goto (-16), 3) := by decide +kernel
theorem d_La_price_69 : decode b_La_price 69 = .ok (.aload_n 0, 1) := by decide +kernel
theorem d_La_price_70 : decode b_La_price 70 = .ok (.getfield 9, 3) := by decide +kernel
theorem d_La_price_73 : decode b_La_price 73 = .ok (.iconst 0, 1) := by decide +kernel
theorem d_La_price_74 : decode b_La_price 74 = .ok (.laload, 1) := by decide +kernel
theorem d_La_price_75 : decode b_La_price 75 = .ok (.lreturn, 1) := by decide +kernel
theorem d_La_stepBack_0 : decode b_La_stepBack 0 = .ok (.aload_n 1, 1) := by decide +kernel
theorem d_La_stepBack_1 : decode b_La_stepBack 1 = .ok (.getfield 33, 3) := by decide +kernel
theorem d_La_stepBack_4 : decode b_La_stepBack 4 = .ok (.istore 5, 2) := by decide +kernel
theorem d_La_stepBack_6 : decode b_La_stepBack 6 = .ok (.iconst 0, 1) := by decide +kernel
theorem d_La_stepBack_7 : decode b_La_stepBack 7 = .ok (.istore 6, 2) := by decide +kernel
theorem d_La_stepBack_9 : decode b_La_stepBack 9 = .ok (.iload 6, 2) := by decide +kernel
theorem d_La_stepBack_11 : decode b_La_stepBack 11 = .ok (.iload 4, 2) := by decide +kernel
theorem d_La_stepBack_13 : decode b_La_stepBack 13 = .ok (.if_icmp .gt 74, 3) := by decide +kernel
theorem d_La_stepBack_16 : decode b_La_stepBack 16 = .ok (.iload 5, 2) := by decide +kernel
theorem d_La_stepBack_18 : decode b_La_stepBack 18 = .ok (.i2l, 1) := by decide +kernel
theorem d_La_stepBack_19 : decode b_La_stepBack 19 = .ok (.aload_n 0, 1) := by decide +kernel
theorem d_La_stepBack_20 : decode b_La_stepBack 20 = .ok (.getfield 9, 3) := by decide +kernel
theorem d_La_stepBack_23 : decode b_La_stepBack 23 = .ok (.iload 6, 2) := by decide +kernel
theorem d_La_stepBack_25 : decode b_La_stepBack 25 = .ok (.iconst 1, 1) := by decide +kernel
theorem d_La_stepBack_26 : decode b_La_stepBack 26 = .ok (.iadd, 1) := by decide +kernel
theorem d_La_stepBack_27 : decode b_La_stepBack 27 = .ok (.laload, 1) := by decide +kernel
theorem d_La_stepBack_28 : decode b_La_stepBack 28 = .ok (.lmul, 1) := by decide +kernel
theorem d_La_stepBack_29 : decode b_La_stepBack 29 = .ok (.bipush 16, 2) := by decide +kernel
theorem d_La_stepBack_31 : decode b_La_stepBack 31 = .ok (.iload 5, 2) := by decide +kernel
theorem d_La_stepBack_33 : decode b_La_stepBack 33 = .ok (.isub, 1) := by decide +kernel
theorem d_La_stepBack_34 : decode b_La_stepBack 34 = .ok (.i2l, 1) := by decide +kernel
theorem d_La_stepBack_35 : decode b_La_stepBack 35 = .ok (.aload_n 0, 1) := by decide +kernel
theorem d_La_stepBack_36 : decode b_La_stepBack 36 = .ok (.getfield 9, 3) := by decide +kernel
theorem d_La_stepBack_39 : decode b_La_stepBack 39 = .ok (.iload 6, 2) := by decide +kernel
theorem d_La_stepBack_41 : decode b_La_stepBack 41 = .ok (.laload, 1) := by decide +kernel
theorem d_La_stepBack_42 : decode b_La_stepBack 42 = .ok (.lmul, 1) := by decide +kernel
theorem d_La_stepBack_43 : decode b_La_stepBack 43 = .ok (.ladd, 1) := by decide +kernel
theorem d_La_stepBack_44 : decode b_La_stepBack 44 = .ok (.lstore 7, 2) := by decide +kernel
theorem d_La_stepBack_46 : decode b_La_stepBack 46 = .ok (.lload_n 2, 1) := by decide +kernel
theorem d_La_stepBack_47 : decode b_La_stepBack 47 = .ok (.lload 7, 2) := by decide +kernel
theorem d_La_stepBack_49 : decode b_La_stepBack 49 = .ok (.lmul, 1) := by decide +kernel
theorem d_La_stepBack_50 : decode b_La_stepBack 50 = .ok (.bipush 14, 2) := by decide +kernel
theorem d_La_stepBack_52 : decode b_La_stepBack 52 = .ok (.invokestatic 36, 3) := by decide +kernel
theorem d_La_stepBack_55 : decode b_La_stepBack 55 = .ok (.lstore 9, 2) := by decide +kernel
theorem d_La_stepBack_57 : decode b_La_stepBack 57 = .ok (.aload_n 0, 1) := by decide +kernel
theorem d_La_stepBack_58 : decode b_La_stepBack 58 = .ok (.getfield 9, 3) := by decide +kernel
theorem d_La_stepBack_61 : decode b_La_stepBack 61 = .ok (.iload 6, 2) := by decide +kernel
theorem d_La_stepBack_63 : decode b_La_stepBack 63 = .ok (.aload_n 1, 1) := by decide +kernel
theorem d_La_stepBack_64 : decode b_La_stepBack 64 = .ok (.aload_n 1, 1) := by decide +kernel
theorem d_La_stepBack_65 : decode b_La_stepBack 65 = .ok (.iconst 2, 1) := by decide +kernel
theorem d_La_stepBack_66 : decode b_La_stepBack 66 = .ok (.iload 6, 2) := by decide +kernel
theorem d_La_stepBack_68 : decode b_La_stepBack 68 = .ok (.imul, 1) := by decide +kernel
theorem d_La_stepBack_69 : decode b_La_stepBack 69 = .ok (.iload 4, 2) := by decide +kernel
theorem d_La_stepBack_71 : decode b_La_stepBack 71 = .ok (.isub, 1) := by decide +kernel
theorem d_La_stepBack_72 : decode b_La_stepBack 72 = .ok (.invokevirtual 21, 3) := by decide +kernel
theorem d_La_stepBack_75 : decode b_La_stepBack 75 = .ok (.lload 9, 2) := by decide +kernel
theorem d_La_stepBack_77 : decode b_La_stepBack 77 = .ok (.invokevirtual 40, 3) := by decide +kernel
theorem d_La_stepBack_80 : decode b_La_stepBack 80 = .ok (.lastore, 1) := by decide +kernel
theorem d_La_stepBack_81 : decode b_La_stepBack 81 = .ok (.iinc 6 1, 3) := by decide +kernel
theorem d_La_stepBack_84 : decode b_La_stepBack 84 = .ok (.goto (-75), 3) := by decide +kernel
theorem d_La_stepBack_87 : decode b_La_stepBack 87 = .ok (.return_, 1) := by decide +kernel
theorem d_M_ask_0 : decode b_M_ask 0 = .ok (.iconst 1, 1) := by decide +kernel
theorem d_M_ask_1 : decode b_M_ask 1 = .ok (.istore_n 2, 1) := by decide +kernel
theorem d_M_ask_2 : decode b_M_ask 2 = .ok (.aload_n 0, 1) := by decide +kernel
theorem d_M_ask_3 : decode b_M_ask 3 = .ok (.getfield 57, 3) := by decide +kernel
theorem d_M_ask_6 : decode b_M_ask 6 = .ok (.iconst 0, 1) := by decide +kernel
theorem d_M_ask_7 : decode b_M_ask 7 = .ok (.iload_n 1, 1) := by decide +kernel
theorem d_M_ask_8 : decode b_M_ask 8 = .ok (.iastore, 1) := by decide +kernel
theorem d_M_ask_9 : decode b_M_ask 9 = .ok (.aload_n 0, 1) := by decide +kernel
theorem d_M_ask_10 : decode b_M_ask 10 = .ok (.getfield 60, 3) := by decide +kernel
theorem d_M_ask_13 : decode b_M_ask 13 = .ok (.iconst 0, 1) := by decide +kernel
theorem d_M_ask_14 : decode b_M_ask 14 = .ok (.iconst 0, 1) := by decide +kernel
theorem d_M_ask_15 : decode b_M_ask 15 = .ok (.iastore, 1) := by decide +kernel
theorem d_M_ask_16 : decode b_M_ask 16 = .ok (.aload_n 0, 1) := by decide +kernel
theorem d_M_ask_17 : decode b_M_ask 17 = .ok (.iconst 0, 1) := by decide +kernel
theorem d_M_ask_18 : decode b_M_ask 18 = .ok (.putfield 127, 3) := by decide +kernel
theorem d_M_ask_21 : decode b_M_ask 21 = .ok (.iload_n 2, 1) := by decide +kernel
theorem d_M_ask_22 : decode b_M_ask 22 = .ok (.ifCond .le 157, 3) := by decide +kernel
theorem d_M_ask_25 : decode b_M_ask 25 = .ok (.aload_n 0, 1) := by decide +kernel
theorem d_M_ask_26 : decode b_M_ask 26 = .ok (.getfield 57, 3) := by decide +kernel
theorem d_M_ask_29 : decode b_M_ask 29 = .ok (.iload_n 2, 1) := by decide +kernel
theorem d_M_ask_30 : decode b_M_ask 30 = .ok (.iconst 1, 1) := by decide +kernel
theorem d_M_ask_31 : decode b_M_ask 31 = .ok (.isub, 1) := by decide +kernel
theorem d_M_ask_32 : decode b_M_ask 32 = .ok (.iaload, 1) := by decide +kernel
theorem d_M_ask_33 : decode b_M_ask 33 = .ok (.istore_n 3, 1) := by decide +kernel
theorem d_M_ask_34 : decode b_M_ask 34 = .ok (.aload_n 0, 1) := by decide +kernel
theorem d_M_ask_35 : decode b_M_ask 35 = .ok (.getfield 60, 3) := by decide +kernel
theorem d_M_ask_38 : decode b_M_ask 38 = .ok (.iload_n 2, 1) := by decide +kernel
theorem d_M_ask_39 : decode b_M_ask 39 = .ok (.iconst 1, 1) := by decide +kernel
theorem d_M_ask_40 : decode b_M_ask 40 = .ok (.isub, 1) := by decide +kernel
theorem d_M_ask_41 : decode b_M_ask 41 = .ok (.iaload, 1) := by decide +kernel
theorem d_M_ask_42 : decode b_M_ask 42 = .ok (.istore 4, 2) := by decide +kernel
theorem d_M_ask_44 : decode b_M_ask 44 = .ok (.aload_n 0, 1) := by decide +kernel
theorem d_M_ask_45 : decode b_M_ask 45 = .ok (.getfield 20, 3) := by decide +kernel
theorem d_M_ask_48 : decode b_M_ask 48 = .ok (.iload_n 3, 1) := by decide +kernel
theorem d_M_ask_49 : decode b_M_ask 49 = .ok (.baload, 1) := by decide +kernel
theorem d_M_ask_50 : decode b_M_ask 50 = .ok (.ifCond .eq 9, 3) := by decide +kernel
theorem d_M_ask_53 : decode b_M_ask 53 = .ok (.iinc 2 (-1), 3) := by decide +kernel
theorem d_M_ask_56 : decode b_M_ask 56 = .ok (.goto 120, 3) := by decide +kernel
theorem d_M_ask_59 : decode b_M_ask 59 = .ok (.iload 4, 2) := by decide +kernel
theorem d_M_ask_61 : decode b_M_ask 61 = .ok (.iconst 4, 1) := by decide +kernel
theorem d_M_ask_62 : decode b_M_ask 62 = .ok (.if_icmp .ge 59, 3) := by decide +kernel
theorem d_M_ask_65 : decode b_M_ask 65 = .ok (.aload_n 0, 1) := by decide +kernel
theorem d_M_ask_66 : decode b_M_ask 66 = .ok (.getfield 60, 3) := by decide +kernel
theorem d_M_ask_69 : decode b_M_ask 69 = .ok (.iload_n 2, 1) := by decide +kernel
theorem d_M_ask_70 : decode b_M_ask 70 = .ok (.iconst 1, 1) := by decide +kernel
theorem d_M_ask_71 : decode b_M_ask 71 = .ok (.isub, 1) := by decide +kernel
theorem d_M_ask_72 : decode b_M_ask 72 = .ok (.dup2, 1) := by decide +kernel
theorem d_M_ask_73 : decode b_M_ask 73 = .ok (.iaload, 1) := by decide +kernel
theorem d_M_ask_74 : decode b_M_ask 74 = .ok (.iconst 1, 1) := by decide +kernel
theorem d_M_ask_75 : decode b_M_ask 75 = .ok (.iadd, 1) := by decide +kernel
theorem d_M_ask_76 : decode b_M_ask 76 = .ok (.iastore, 1) := by decide +kernel
theorem d_M_ask_77 : decode b_M_ask 77 = .ok (.aload_n 0, 1) := by decide +kernel
theorem d_M_ask_78 : decode b_M_ask 78 = .ok (.getfield 13, 3) := by decide +kernel
theorem d_M_ask_81 : decode b_M_ask 81 = .ok (.iload_n 3, 1) := by decide +kernel
theorem d_M_ask_82 : decode b_M_ask 82 = .ok (.iconst 4, 1) := by decide +kernel
theorem d_M_ask_83 : decode b_M_ask 83 = .ok (.imul, 1) := by decide +kernel
theorem d_M_ask_84 : decode b_M_ask 84 = .ok (.iload 4, 2) := by decide +kernel
theorem d_M_ask_86 : decode b_M_ask 86 = .ok (.iadd, 1) := by decide +kernel
theorem d_M_ask_87 : decode b_M_ask 87 = .ok (.iaload, 1) := by decide +kernel
theorem d_M_ask_88 : decode b_M_ask 88 = .ok (.ifCond .lt 88, 3) := by decide +kernel
theorem d_M_ask_91 : decode b_M_ask 91 = .ok (.aload_n 0, 1) := by decide +kernel
theorem d_M_ask_92 : decode b_M_ask 92 = .ok (.getfield 57, 3) := by decide +kernel
theorem d_M_ask_95 : decode b_M_ask 95 = .ok (.iload_n 2, 1) := by decide +kernel
theorem d_M_ask_96 : decode b_M_ask 96 = .ok (.aload_n 0, 1) := by decide +kernel
theorem d_M_ask_97 : decode b_M_ask 97 = .ok (.getfield 13, 3) := by decide +kernel
theorem d_M_ask_100 : decode b_M_ask 100 = .ok (.iload_n 3, 1) := by decide +kernel
theorem d_M_ask_101 : decode b_M_ask 101 = .ok (.iconst 4, 1) := by decide +kernel
theorem d_M_ask_102 : decode b_M_ask 102 = .ok (.imul, 1) := by decide +kernel
theorem d_M_ask_103 : decode b_M_ask 103 = .ok (.iload 4, 2) := by decide +kernel
theorem d_M_ask_105 : decode b_M_ask 105 = .ok (.iadd, 1) := by decide +kernel
theorem d_M_ask_106 : decode b_M_ask 106 = .ok (.iaload, 1) := by decide +kernel
theorem d_M_ask_107 : decode b_M_ask 107 = .ok (.iastore, 1) := by decide +kernel
theorem d_M_ask_108 : decode b_M_ask 108 = .ok (.aload_n 0, 1) := by decide +kernel
theorem d_M_ask_109 : decode b_M_ask 109 = .ok (.getfield 60, 3) := by decide +kernel
theorem d_M_ask_112 : decode b_M_ask 112 = .ok (.iload_n 2, 1) := by decide +kernel
theorem d_M_ask_113 : decode b_M_ask 113 = .ok (.iconst 0, 1) := by decide +kernel
theorem d_M_ask_114 : decode b_M_ask 114 = .ok (.iastore, 1) := by decide +kernel
theorem d_M_ask_115 : decode b_M_ask 115 = .ok (.iinc 2 1, 3) := by decide +kernel
theorem d_M_ask_118 : decode b_M_ask 118 = .ok (.goto 58, 3) := by decide +kernel
theorem d_M_ask_121 : decode b_M_ask 121 = .ok (.aload_n 0, 1) := by decide +kernel
theorem d_M_ask_122 : decode b_M_ask 122 = .ok (.aload_n 0, 1) := by decide +kernel
theorem d_M_ask_123 : decode b_M_ask 123 = .ok (.iload_n 3, 1) := by decide +kernel
theorem d_M_ask_124 : decode b_M_ask 124 = .ok (.invokevirtual 200, 3) := by decide +kernel
theorem d_M_ask_127 : decode b_M_ask 127 = .ok (.invokevirtual 150, 3) := by decide +kernel
theorem d_M_ask_130 : decode b_M_ask 130 = .ok (.lstore 5, 2) := by decide +kernel
theorem d_M_ask_132 : decode b_M_ask 132 = .ok (.aload_n 0, 1) := by decide +kernel
theorem d_M_ask_133 : decode b_M_ask 133 = .ok (.getfield 127, 3) := by decide +kernel
theorem d_M_ask_136 : decode b_M_ask 136 = .ok (.ifCond .eq 5, 3) := by decide +kernel
theorem d_M_ask_139 : decode b_M_ask 139 = .ok (.iconst 0, 1) := by decide +kernel
theorem d_M_ask_140 : decode b_M_ask 140 = .ok (.ireturn, 1) := by decide +kernel
theorem d_M_ask_141 : decode b_M_ask 141 = .ok (.aload_n 0, 1) := by decide +kernel
theorem d_M_ask_142 : decode b_M_ask 142 = .ok (.getfield 16, 3) := by decide +kernel
theorem d_M_ask_145 : decode b_M_ask 145 = .ok (.iload_n 3, 1) := by decide +kernel
theorem d_M_ask_146 : decode b_M_ask 146 = .ok (.lload 5, 2) := by decide +kernel
theorem d_M_ask_148 : decode b_M_ask 148 = .ok (.lastore, 1) := by decide +kernel
theorem d_M_ask_149 : decode b_M_ask 149 = .ok (.aload_n 0, 1) := by decide +kernel
theorem d_M_ask_150 : decode b_M_ask 150 = .ok (.getfield 20, 3) := by decide +kernel
theorem d_M_ask_153 : decode b_M_ask 153 = .ok (.iload_n 3, 1) := by decide +kernel
theorem d_M_ask_154 : decode b_M_ask 154 = .ok (.iconst 1, 1) := by decide +kernel
theorem d_M_ask_155 : decode b_M_ask 155 = .ok (.bastore, 1) := by decide +kernel
theorem d_M_ask_156 : decode b_M_ask 156 = .ok (.aload_n 0, 1) := by decide +kernel
theorem d_M_ask_157 : decode b_M_ask 157 = .ok (.getfield 30, 3) := by decide +kernel
theorem d_M_ask_160 : decode b_M_ask 160 = .ok (.iload_n 3, 1) := by decide +kernel
theorem d_M_ask_161 : decode b_M_ask 161 = .ok (.dup2, 1) := by decide +kernel
theorem d_M_ask_162 : decode b_M_ask 162 = .ok (.iaload, 1) := by decide +kernel
theorem d_M_ask_163 : decode b_M_ask 163 = .ok (.iconst 1, 1) := by decide +kernel
theorem d_M_ask_164 : decode b_M_ask 164 = .ok (.iadd, 1) := by decide +kernel
theorem d_M_ask_165 : decode b_M_ask 165 = .ok (.iastore, 1) := by decide +kernel
theorem d_M_ask_166 : decode b_M_ask 166 = .ok (.aload_n 0, 1) := by decide +kernel
theorem d_M_ask_167 : decode b_M_ask 167 = .ok (.dup, 1) := by decide +kernel
