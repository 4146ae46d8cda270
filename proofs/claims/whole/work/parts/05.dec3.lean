theorem d_Pa_endOfPath_77 : decode b_Pa_endOfPath 77 = .ok (.istore 4, 2) := by decide +kernel
theorem d_Pa_endOfPath_79 : decode b_Pa_endOfPath 79 = .ok (.iinc 5 1, 3) := by decide +kernel
theorem d_Pa_endOfPath_82 : decode b_Pa_endOfPath 82 = .ok (.goto (-64), 3) := by decide +kernel
theorem d_Pa_endOfPath_85 : decode b_Pa_endOfPath 85 = .ok (.iload 4, 2) := by decide +kernel
theorem d_Pa_endOfPath_87 : decode b_Pa_endOfPath 87 = .ok (.ifCond .eq 7, 3) := by decide +kernel
theorem d_Pa_endOfPath_90 : decode b_Pa_endOfPath 90 = .ok (.lconst 0, 1) := by decide +kernel
theorem d_Pa_endOfPath_91 : decode b_Pa_endOfPath 91 = .ok (.goto 8, 3) := by decide +kernel
theorem d_Pa_endOfPath_94 : decode b_Pa_endOfPath 94 = .ok (.aload_n 1, 1) := by decide +kernel
theorem d_Pa_endOfPath_95 : decode b_Pa_endOfPath 95 = .ok (.lload_n 2, 1) := by decide +kernel
theorem d_Pa_endOfPath_96 : decode b_Pa_endOfPath 96 = .ok (.invokevirtual 68, 3) := by decide +kernel
theorem d_Pa_endOfPath_99 : decode b_Pa_endOfPath 99 = .ok (.lreturn, 1) := by decide +kernel
theorem d_Pa_init_0 : decode b_Pa_init 0 = .ok (.aload_n 0, 1) := by decide +kernel
theorem d_Pa_init_1 : decode b_Pa_init 1 = .ok (.iconst 0, 1) := by decide +kernel
theorem d_Pa_init_2 : decode b_Pa_init 2 = .ok (.bipush 6, 2) := by decide +kernel
theorem d_Pa_init_4 : decode b_Pa_init 4 = .ok (.invokespecial 3, 3) := by decide +kernel
theorem d_Pa_init_7 : decode b_Pa_init 7 = .ok (.return_, 1) := by decide +kernel
theorem d_Pa_price_0 : decode b_Pa_price 0 = .ok (.aload_n 0, 1) := by decide +kernel
theorem d_Pa_price_1 : decode b_Pa_price 1 = .ok (.ldc2_w 24, 3) := by decide +kernel
theorem d_Pa_price_4 : decode b_Pa_price 4 = .ok (.putfield 26, 3) := by decide +kernel
theorem d_Pa_price_7 : decode b_Pa_price 7 = .ok (.iconst 1, 1) := by decide +kernel
theorem d_Pa_price_8 : decode b_Pa_price 8 = .ok (.aload_n 1, 1) := by decide +kernel
theorem d_Pa_price_9 : decode b_Pa_price 9 = .ok (.getfield 30, 3) := by decide +kernel
theorem d_Pa_price_12 : decode b_Pa_price 12 = .ok (.ishl, 1) := by decide +kernel
theorem d_Pa_price_13 : decode b_Pa_price 13 = .ok (.istore 4, 2) := by decide +kernel
theorem d_Pa_price_15 : decode b_Pa_price 15 = .ok (.lconst 0, 1) := by decide +kernel
theorem d_Pa_price_16 : decode b_Pa_price 16 = .ok (.lstore 5, 2) := by decide +kernel
theorem d_Pa_price_18 : decode b_Pa_price 18 = .ok (.iconst 0, 1) := by decide +kernel
theorem d_Pa_price_19 : decode b_Pa_price 19 = .ok (.istore 7, 2) := by decide +kernel
theorem d_Pa_price_21 : decode b_Pa_price 21 = .ok (.iload 7, 2) := by decide +kernel
theorem d_Pa_price_23 : decode b_Pa_price 23 = .ok (.iload 4, 2) := by decide +kernel
theorem d_Pa_price_25 : decode b_Pa_price 25 = .ok (.if_icmp .ge 19, 3) := by decide +kernel
theorem d_Pa_price_28 : decode b_Pa_price 28 = .ok (.lload 5, 2) := by decide +kernel
theorem d_Pa_price_30 : decode b_Pa_price 30 = .ok (.aload_n 0, 1) := by decide +kernel
theorem d_Pa_price_31 : decode b_Pa_price 31 = .ok (.aload_n 1, 1) := by decide +kernel
theorem d_Pa_price_32 : decode b_Pa_price 32 = .ok (.invokevirtual 34, 3) := by decide +kernel
theorem d_Pa_price_35 : decode b_Pa_price 35 = .ok (.ladd, 1) := by decide +kernel
theorem d_Pa_price_36 : decode b_Pa_price 36 = .ok (.lstore 5, 2) := by decide +kernel
theorem d_Pa_price_38 : decode b_Pa_price 38 = .ok (.iinc 7 1, 3) := by decide +kernel
theorem d_Pa_price_41 : decode b_Pa_price 41 = .ok (.goto (-20), 3) := by decide +kernel
theorem d_Pa_price_44 : decode b_Pa_price 44 = .ok (.lload 5, 2) := by decide +kernel
theorem d_Pa_price_46 : decode b_Pa_price 46 = .ok (.aload_n 1, 1) := by decide +kernel
theorem d_Pa_price_47 : decode b_Pa_price 47 = .ok (.getfield 30, 3) := by decide +kernel
theorem d_Pa_price_50 : decode b_Pa_price 50 = .ok (.invokestatic 38, 3) := by decide +kernel
theorem d_Pa_price_53 : decode b_Pa_price 53 = .ok (.lstore 7, 2) := by decide +kernel
theorem d_Pa_price_55 : decode b_Pa_price 55 = .ok (.iconst 0, 1) := by decide +kernel
theorem d_Pa_price_56 : decode b_Pa_price 56 = .ok (.istore 9, 2) := by decide +kernel
theorem d_Pa_price_58 : decode b_Pa_price 58 = .ok (.iload 9, 2) := by decide +kernel
theorem d_Pa_price_60 : decode b_Pa_price 60 = .ok (.aload_n 1, 1) := by decide +kernel
theorem d_Pa_price_61 : decode b_Pa_price 61 = .ok (.getfield 42, 3) := by decide +kernel
theorem d_Pa_price_64 : decode b_Pa_price 64 = .ok (.if_icmp .ge 20, 3) := by decide +kernel
theorem d_Pa_price_67 : decode b_Pa_price 67 = .ok (.lload_n 2, 1) := by decide +kernel
theorem d_Pa_price_68 : decode b_Pa_price 68 = .ok (.lload 7, 2) := by decide +kernel
theorem d_Pa_price_70 : decode b_Pa_price 70 = .ok (.lmul, 1) := by decide +kernel
theorem d_Pa_price_71 : decode b_Pa_price 71 = .ok (.bipush 10, 2) := by decide +kernel
theorem d_Pa_price_73 : decode b_Pa_price 73 = .ok (.invokestatic 38, 3) := by decide +kernel
theorem d_Pa_price_76 : decode b_Pa_price 76 = .ok (.lstore 7, 2) := by decide +kernel
theorem d_Pa_price_78 : decode b_Pa_price 78 = .ok (.iinc 9 1, 3) := by decide +kernel
theorem d_Pa_price_81 : decode b_Pa_price 81 = .ok (.goto (-23), 3) := by decide +kernel
theorem d_Pa_price_84 : decode b_Pa_price 84 = .ok (.lload 7, 2) := by decide +kernel
theorem d_Pa_price_86 : decode b_Pa_price 86 = .ok (.lreturn, 1) := by decide +kernel
theorem d_Q_add_0 : decode b_Q_add 0 = .ok (.aload_n 0, 1) := by decide +kernel
theorem d_Q_add_1 : decode b_Q_add 1 = .ok (.getfield 11, 3) := by decide +kernel
theorem d_Q_add_4 : decode b_Q_add 4 = .ok (.aload_n 1, 1) := by decide +kernel
theorem d_Q_add_5 : decode b_Q_add 5 = .ok (.getfield 195, 3) := by decide +kernel
theorem d_Q_add_8 : decode b_Q_add 8 = .ok (.aload_n 1, 1) := by decide +kernel
theorem d_Q_add_9 : decode b_Q_add 9 = .ok (.aastore, 1) := by decide +kernel
theorem d_Q_add_10 : decode b_Q_add 10 = .ok (.aload_n 0, 1) := by decide +kernel
theorem d_Q_add_11 : decode b_Q_add 11 = .ok (.dup, 1) := by decide +kernel
theorem d_Q_add_12 : decode b_Q_add 12 = .ok (.getfield 42, 3) := by decide +kernel
theorem d_Q_add_15 : decode b_Q_add 15 = .ok (.iconst 1, 1) := by decide +kernel
theorem d_Q_add_16 : decode b_Q_add 16 = .ok (.iadd, 1) := by decide +kernel
theorem d_Q_add_17 : decode b_Q_add 17 = .ok (.putfield 42, 3) := by decide +kernel
theorem d_Q_add_20 : decode b_Q_add 20 = .ok (.aload_n 1, 1) := by decide +kernel
theorem d_Q_add_21 : decode b_Q_add 21 = .ok (.getfield 195, 3) := by decide +kernel
theorem d_Q_add_24 : decode b_Q_add 24 = .ok (.ireturn, 1) := by decide +kernel
theorem d_Q_ask_0 : decode b_Q_ask 0 = .ok (.aload_n 1, 1) := by decide +kernel
theorem d_Q_ask_1 : decode b_Q_ask 1 = .ok (.getfield 150, 3) := by decide +kernel
theorem d_Q_ask_4 : decode b_Q_ask 4 = .ok (.ifCond .eq 4, 3) := by decide +kernel
theorem d_Q_ask_7 : decode b_Q_ask 7 = .ok (.return_, 1) := by decide +kernel
theorem d_Q_ask_8 : decode b_Q_ask 8 = .ok (.iconst 0, 1) := by decide +kernel
theorem d_Q_ask_9 : decode b_Q_ask 9 = .ok (.istore_n 2, 1) := by decide +kernel
theorem d_Q_ask_10 : decode b_Q_ask 10 = .ok (.iload_n 2, 1) := by decide +kernel
theorem d_Q_ask_11 : decode b_Q_ask 11 = .ok (.aload_n 1, 1) := by decide +kernel
theorem d_Q_ask_12 : decode b_Q_ask 12 = .ok (.getfield 181, 3) := by decide +kernel
theorem d_Q_ask_15 : decode b_Q_ask 15 = .ok (.if_icmp .ge 19, 3) := by decide +kernel
theorem d_Q_ask_18 : decode b_Q_ask 18 = .ok (.aload_n 0, 1) := by decide +kernel
theorem d_Q_ask_19 : decode b_Q_ask 19 = .ok (.aload_n 1, 1) := by decide +kernel
theorem d_Q_ask_20 : decode b_Q_ask 20 = .ok (.getfield 232, 3) := by decide +kernel
theorem d_Q_ask_23 : decode b_Q_ask 23 = .ok (.iload_n 2, 1) := by decide +kernel
theorem d_Q_ask_24 : decode b_Q_ask 24 = .ok (.aaload, 1) := by decide +kernel
theorem d_Q_ask_25 : decode b_Q_ask 25 = .ok (.invokevirtual 235, 3) := by decide +kernel
theorem d_Q_ask_28 : decode b_Q_ask 28 = .ok (.iinc 2 1, 3) := by decide +kernel
theorem d_Q_ask_31 : decode b_Q_ask 31 = .ok (.goto (-21), 3) := by decide +kernel
theorem d_Q_ask_34 : decode b_Q_ask 34 = .ok (.aload_n 1, 1) := by decide +kernel
theorem d_Q_ask_35 : decode b_Q_ask 35 = .ok (.aload_n 1, 1) := by decide +kernel
theorem d_Q_ask_36 : decode b_Q_ask 36 = .ok (.invokevirtual 238, 3) := by decide +kernel
theorem d_Q_ask_39 : decode b_Q_ask 39 = .ok (.invokestatic 242, 3) := by decide +kernel
theorem d_Q_ask_42 : decode b_Q_ask 42 = .ok (.putfield 138, 3) := by decide +kernel
theorem d_Q_ask_45 : decode b_Q_ask 45 = .ok (.aload_n 1, 1) := by decide +kernel
theorem d_Q_ask_46 : decode b_Q_ask 46 = .ok (.iconst 1, 1) := by decide +kernel
theorem d_Q_ask_47 : decode b_Q_ask 47 = .ok (.putfield 150, 3) := by decide +kernel
theorem d_Q_ask_50 : decode b_Q_ask 50 = .ok (.aload_n 1, 1) := by decide +kernel
theorem d_Q_ask_51 : decode b_Q_ask 51 = .ok (.dup, 1) := by decide +kernel
theorem d_Q_ask_52 : decode b_Q_ask 52 = .ok (.getfield 184, 3) := by decide +kernel
theorem d_Q_ask_55 : decode b_Q_ask 55 = .ok (.iconst 1, 1) := by decide +kernel
theorem d_Q_ask_56 : decode b_Q_ask 56 = .ok (.iadd, 1) := by decide +kernel
theorem d_Q_ask_57 : decode b_Q_ask 57 = .ok (.putfield 184, 3) := by decide +kernel
theorem d_Q_ask_60 : decode b_Q_ask 60 = .ok (.aload_n 0, 1) := by decide +kernel
theorem d_Q_ask_61 : decode b_Q_ask 61 = .ok (.dup, 1) := by decide +kernel
theorem d_Q_ask_62 : decode b_Q_ask 62 = .ok (.getfield 189, 3) := by decide +kernel
theorem d_Q_ask_65 : decode b_Q_ask 65 = .ok (.iconst 1, 1) := by decide +kernel
theorem d_Q_ask_66 : decode b_Q_ask 66 = .ok (.iadd, 1) := by decide +kernel
theorem d_Q_ask_67 : decode b_Q_ask 67 = .ok (.putfield 189, 3) := by decide +kernel
theorem d_Q_ask_70 : decode b_Q_ask 70 = .ok (.return_, 1) := by decide +kernel
theorem d_Q_bitsUsedBy_0 : decode b_Q_bitsUsedBy 0 = .ok (.aload_n 1, 1) := by decide +kernel
theorem d_Q_bitsUsedBy_1 : decode b_Q_bitsUsedBy 1 = .ok (.invokevirtual 229, 3) := by decide +kernel
theorem d_Q_bitsUsedBy_4 : decode b_Q_bitsUsedBy 4 = .ok (.istore_n 2, 1) := by decide +kernel
theorem d_Q_bitsUsedBy_5 : decode b_Q_bitsUsedBy 5 = .ok (.iconst 0, 1) := by decide +kernel
theorem d_Q_bitsUsedBy_6 : decode b_Q_bitsUsedBy 6 = .ok (.istore_n 3, 1) := by decide +kernel
theorem d_Q_bitsUsedBy_7 : decode b_Q_bitsUsedBy 7 = .ok (.iload_n 3, 1) := by decide +kernel
theorem d_Q_bitsUsedBy_8 : decode b_Q_bitsUsedBy 8 = .ok (.aload_n 0, 1) := by decide +kernel
theorem d_Q_bitsUsedBy_9 : decode b_Q_bitsUsedBy 9 = .ok (.getfield 42, 3) := by decide +kernel
theorem d_Q_bitsUsedBy_12 : decode b_Q_bitsUsedBy 12 = .ok (.if_icmp .ge 55, 3) := by decide +kernel
theorem d_Q_bitsUsedBy_15 : decode b_Q_bitsUsedBy 15 = .ok (.iconst 0, 1) := by decide +kernel
theorem d_Q_bitsUsedBy_16 : decode b_Q_bitsUsedBy 16 = .ok (.istore 4, 2) := by decide +kernel
theorem d_Q_bitsUsedBy_18 : decode b_Q_bitsUsedBy 18 = .ok (.iload 4, 2) := by decide +kernel
theorem d_Q_bitsUsedBy_20 : decode b_Q_bitsUsedBy 20 = .ok (.aload_n 0, 1) := by decide +kernel
theorem d_Q_bitsUsedBy_21 : decode b_Q_bitsUsedBy 21 = .ok (.getfield 42, 3) := by decide +kernel
theorem d_Q_bitsUsedBy_24 : decode b_Q_bitsUsedBy 24 = .ok (.if_icmp .ge 37, 3) := by decide +kernel
theorem d_Q_bitsUsedBy_27 : decode b_Q_bitsUsedBy 27 = .ok (.iload_n 2, 1) := by decide +kernel
theorem d_Q_bitsUsedBy_28 : decode b_Q_bitsUsedBy 28 = .ok (.aload_n 0, 1) := by decide +kernel
theorem d_Q_bitsUsedBy_29 : decode b_Q_bitsUsedBy 29 = .ok (.getfield 11, 3) := by decide +kernel
theorem d_Q_bitsUsedBy_32 : decode b_Q_bitsUsedBy 32 = .ok (.iload 4, 2) := by decide +kernel
theorem d_Q_bitsUsedBy_34 : decode b_Q_bitsUsedBy 34 = .ok (.aaload, 1) := by decide +kernel
theorem d_Q_bitsUsedBy_35 : decode b_Q_bitsUsedBy 35 = .ok (.invokevirtual 226, 3) := by decide +kernel
theorem d_Q_bitsUsedBy_38 : decode b_Q_bitsUsedBy 38 = .ok (.iand, 1) := by decide +kernel
theorem d_Q_bitsUsedBy_39 : decode b_Q_bitsUsedBy 39 = .ok (.ifCond .eq 16, 3) := by decide +kernel
theorem d_Q_bitsUsedBy_42 : decode b_Q_bitsUsedBy 42 = .ok (.iload_n 2, 1) := by decide +kernel
theorem d_Q_bitsUsedBy_43 : decode b_Q_bitsUsedBy 43 = .ok (.aload_n 0, 1) := by decide +kernel
theorem d_Q_bitsUsedBy_44 : decode b_Q_bitsUsedBy 44 = .ok (.getfield 11, 3) := by decide +kernel
theorem d_Q_bitsUsedBy_47 : decode b_Q_bitsUsedBy 47 = .ok (.iload 4, 2) := by decide +kernel
theorem d_Q_bitsUsedBy_49 : decode b_Q_bitsUsedBy 49 = .ok (.aaload, 1) := by decide +kernel
theorem d_Q_bitsUsedBy_50 : decode b_Q_bitsUsedBy 50 = .ok (.invokevirtual 229, 3) := by decide +kernel
theorem d_Q_bitsUsedBy_53 : decode b_Q_bitsUsedBy 53 = .ok (.ior, 1) := by decide +kernel
theorem d_Q_bitsUsedBy_54 : decode b_Q_bitsUsedBy 54 = .ok (.istore_n 2, 1) := by decide +kernel
theorem d_Q_bitsUsedBy_55 : decode b_Q_bitsUsedBy 55 = .ok (.iinc 4 1, 3) := by decide +kernel
theorem d_Q_bitsUsedBy_58 : decode b_Q_bitsUsedBy 58 = .ok (.goto (-40), 3) := by decide +kernel
theorem d_Q_bitsUsedBy_61 : decode b_Q_bitsUsedBy 61 = .ok (.iinc 3 1, 3) := by decide +kernel
theorem d_Q_bitsUsedBy_64 : decode b_Q_bitsUsedBy 64 = .ok (.goto (-57), 3) := by decide +kernel
theorem d_Q_bitsUsedBy_67 : decode b_Q_bitsUsedBy 67 = .ok (.iload_n 2, 1) := by decide +kernel
theorem d_Q_bitsUsedBy_68 : decode b_Q_bitsUsedBy 68 = .ok (.ireturn, 1) := by decide +kernel
theorem d_Q_blend_0 : decode b_Q_blend 0 = .ok (.aload_n 0, 1) := by decide +kernel
theorem d_Q_blend_1 : decode b_Q_blend 1 = .ok (.iload_n 1, 1) := by decide +kernel
theorem d_Q_blend_2 : decode b_Q_blend 2 = .ok (.invokevirtual 53, 3) := by decide +kernel
theorem d_Q_blend_5 : decode b_Q_blend 5 = .ok (.astore 7, 2) := by decide +kernel
theorem d_Q_blend_7 : decode b_Q_blend 7 = .ok (.aload_n 0, 1) := by decide +kernel
theorem d_Q_blend_8 : decode b_Q_blend 8 = .ok (.iload_n 2, 1) := by decide +kernel
theorem d_Q_blend_9 : decode b_Q_blend 9 = .ok (.invokevirtual 53, 3) := by decide +kernel
theorem d_Q_blend_12 : decode b_Q_blend 12 = .ok (.astore 8, 2) := by decide +kernel
theorem d_Q_blend_14 : decode b_Q_blend 14 = .ok (.dload_n 3, 1) := by decide +kernel
theorem d_Q_blend_15 : decode b_Q_blend 15 = .ok (.bipush 16, 2) := by decide +kernel
theorem d_Q_blend_17 : decode b_Q_blend 17 = .ok (.invokestatic 33, 3) := by decide +kernel
theorem d_Q_blend_20 : decode b_Q_blend 20 = .ok (.lstore 9, 2) := by decide +kernel
theorem d_Q_blend_22 : decode b_Q_blend 22 = .ok (.dload 5, 2) := by decide +kernel
theorem d_Q_blend_24 : decode b_Q_blend 24 = .ok (.bipush 16, 2) := by decide +kernel
theorem d_Q_blend_26 : decode b_Q_blend 26 = .ok (.invokestatic 33, 3) := by decide +kernel
theorem d_Q_blend_29 : decode b_Q_blend 29 = .ok (.lstore 11, 2) := by decide +kernel
theorem d_Q_blend_31 : decode b_Q_blend 31 = .ok (.aload_n 0, 1) := by decide +kernel
theorem d_Q_blend_32 : decode b_Q_blend 32 = .ok (.invokevirtual 37, 3) := by decide +kernel
theorem d_Q_blend_35 : decode b_Q_blend 35 = .ok (.aload_n 0, 1) := by decide +kernel
theorem d_Q_blend_36 : decode b_Q_blend 36 = .ok (.new 57, 3) := by decide +kernel
theorem d_Q_blend_39 : decode b_Q_blend 39 = .ok (.dup, 1) := by decide +kernel
theorem d_Q_blend_40 : decode b_Q_blend 40 = .ok (.aload_n 0, 1) := by decide +kernel
theorem d_Q_blend_41 : decode b_Q_blend 41 = .ok (.getfield 42, 3) := by decide +kernel
theorem d_Q_blend_44 : decode b_Q_blend 44 = .ok (.aload 7, 2) := by decide +kernel
theorem d_Q_blend_46 : decode b_Q_blend 46 = .ok (.aload 8, 2) := by decide +kernel
theorem d_Q_blend_48 : decode b_Q_blend 48 = .ok (.lload 9, 2) := by decide +kernel
theorem d_Q_blend_50 : decode b_Q_blend 50 = .ok (.lload 11, 2) := by decide +kernel
theorem d_Q_blend_52 : decode b_Q_blend 52 = .ok (.invokespecial 59, 3) := by decide +kernel
theorem d_Q_blend_55 : decode b_Q_blend 55 = .ok (.invokevirtual 49, 3) := by decide +kernel
theorem d_Q_blend_58 : decode b_Q_blend 58 = .ok (.ireturn, 1) := by decide +kernel
theorem d_Q_bump_0 : decode b_Q_bump 0 = .ok (.aload_n 0, 1) := by decide +kernel
theorem d_Q_bump_1 : decode b_Q_bump 1 = .ok (.iload_n 1, 1) := by decide +kernel
theorem d_Q_bump_2 : decode b_Q_bump 2 = .ok (.invokevirtual 53, 3) := by decide +kernel
theorem d_Q_bump_5 : decode b_Q_bump 5 = .ok (.astore 5, 2) := by decide +kernel
theorem d_Q_bump_7 : decode b_Q_bump 7 = .ok (.aload_n 0, 1) := by decide +kernel
theorem d_Q_bump_8 : decode b_Q_bump 8 = .ok (.iload_n 2, 1) := by decide +kernel
theorem d_Q_bump_9 : decode b_Q_bump 9 = .ok (.invokevirtual 116, 3) := by decide +kernel
theorem d_Q_bump_12 : decode b_Q_bump 12 = .ok (.astore 6, 2) := by decide +kernel
theorem d_Q_bump_14 : decode b_Q_bump 14 = .ok (.ldc2_w 30, 3) := by decide +kernel
theorem d_Q_bump_17 : decode b_Q_bump 17 = .ok (.dload_n 3, 1) := by decide +kernel
theorem d_Q_bump_18 : decode b_Q_bump 18 = .ok (.sipush 1000, 3) := by decide +kernel
theorem d_Q_bump_21 : decode b_Q_bump 21 = .ok (.invokestatic 33, 3) := by decide +kernel
theorem d_Q_bump_24 : decode b_Q_bump 24 = .ok (.lmul, 1) := by decide +kernel
theorem d_Q_bump_25 : decode b_Q_bump 25 = .ok (.lstore 7, 2) := by decide +kernel
theorem d_Q_bump_27 : decode b_Q_bump 27 = .ok (.aload_n 0, 1) := by decide +kernel
theorem d_Q_bump_28 : decode b_Q_bump 28 = .ok (.aload_n 0, 1) := by decide +kernel
theorem d_Q_bump_29 : decode b_Q_bump 29 = .ok (.aload 5, 2) := by decide +kernel
theorem d_Q_bump_31 : decode b_Q_bump 31 = .ok (.invokevirtual 130, 3) := by decide +kernel
theorem d_Q_bump_34 : decode b_Q_bump 34 = .ok (.invokevirtual 134, 3) := by decide +kernel
theorem d_Q_bump_37 : decode b_Q_bump 37 = .ok (.aload 5, 2) := by decide +kernel
theorem d_Q_bump_39 : decode b_Q_bump 39 = .ok (.getfield 138, 3) := by decide +kernel
theorem d_Q_bump_42 : decode b_Q_bump 42 = .ok (.lstore 9, 2) := by decide +kernel
theorem d_Q_bump_44 : decode b_Q_bump 44 = .ok (.aload_n 0, 1) := by decide +kernel
theorem d_Q_bump_45 : decode b_Q_bump 45 = .ok (.invokevirtual 164, 3) := by decide +kernel
theorem d_Q_bump_48 : decode b_Q_bump 48 = .ok (.aload 6, 2) := by decide +kernel
theorem d_Q_bump_50 : decode b_Q_bump 50 = .ok (.dup, 1) := by decide +kernel
theorem d_Q_bump_51 : decode b_Q_bump 51 = .ok (.getfield 123, 3) := by decide +kernel
theorem d_Q_bump_54 : decode b_Q_bump 54 = .ok (.lload 7, 2) := by decide +kernel
theorem d_Q_bump_56 : decode b_Q_bump 56 = .ok (.ladd, 1) := by decide +kernel
theorem d_Q_bump_57 : decode b_Q_bump 57 = .ok (.putfield 123, 3) := by decide +kernel
theorem d_Q_bump_60 : decode b_Q_bump 60 = .ok (.aload_n 0, 1) := by decide +kernel
theorem d_Q_bump_61 : decode b_Q_bump 61 = .ok (.aload 6, 2) := by decide +kernel
theorem d_Q_bump_63 : decode b_Q_bump 63 = .ok (.invokevirtual 167, 3) := by decide +kernel
theorem d_Q_bump_66 : decode b_Q_bump 66 = .ok (.aload_n 0, 1) := by decide +kernel
theorem d_Q_bump_67 : decode b_Q_bump 67 = .ok (.aload 5, 2) := by decide +kernel
theorem d_Q_bump_69 : decode b_Q_bump 69 = .ok (.invokevirtual 130, 3) := by decide +kernel
theorem d_Q_bump_72 : decode b_Q_bump 72 = .ok (.astore 11, 2) := by decide +kernel
theorem d_Q_bump_74 : decode b_Q_bump 74 = .ok (.aload 5, 2) := by decide +kernel
theorem d_Q_bump_76 : decode b_Q_bump 76 = .ok (.getfield 138, 3) := by decide +kernel
theorem d_Q_bump_79 : decode b_Q_bump 79 = .ok (.lstore 12, 2) := by decide +kernel
theorem d_Q_bump_81 : decode b_Q_bump 81 = .ok (.aload_n 0, 1) := by decide +kernel
theorem d_Q_bump_82 : decode b_Q_bump 82 = .ok (.invokevirtual 170, 3) := by decide +kernel
theorem d_Q_bump_85 : decode b_Q_bump 85 = .ok (.aload_n 0, 1) := by decide +kernel
theorem d_Q_bump_86 : decode b_Q_bump 86 = .ok (.aload 11, 2) := by decide +kernel
theorem d_Q_bump_88 : decode b_Q_bump 88 = .ok (.invokevirtual 134, 3) := by decide +kernel
theorem d_Q_bump_91 : decode b_Q_bump 91 = .ok (.lload 12, 2) := by decide +kernel
theorem d_Q_bump_93 : decode b_Q_bump 93 = .ok (.lload 9, 2) := by decide +kernel
theorem d_Q_bump_95 : decode b_Q_bump 95 = .ok (.lsub, 1) := by decide +kernel
theorem d_Q_bump_96 : decode b_Q_bump 96 = .ok (.invokestatic 139, 3) := by decide +kernel
theorem d_Q_bump_99 : decode b_Q_bump 99 = .ok (.dreturn, 1) := by decide +kernel
theorem d_Q_checkNotFrozen_0 : decode b_Q_checkNotFrozen 0 = .ok (.aload_n 0, 1) := by decide +kernel
theorem d_Q_checkNotFrozen_1 : decode b_Q_checkNotFrozen 1 = .ok (.getfield 200, 3) := by decide +kernel
theorem d_Q_checkNotFrozen_4 : decode b_Q_checkNotFrozen 4 = .ok (.ifCond .eq 13, 3) := by decide +kernel
theorem d_Q_checkNotFrozen_7 : decode b_Q_checkNotFrozen 7 = .ok (.new 153, 3) := by decide +kernel
theorem d_Q_checkNotFrozen_10 : decode b_Q_checkNotFrozen 10 = .ok (.dup, 1) := by decide +kernel
theorem d_Q_checkNotFrozen_11 : decode b_Q_checkNotFrozen 11 = .ok (.ldc 201, 2) := by decide +kernel
theorem d_Q_checkNotFrozen_13 : decode b_Q_checkNotFrozen 13 = .ok (.invokespecial 157, 3) := by decide +kernel
theorem d_Q_checkNotFrozen_16 : decode b_Q_checkNotFrozen 16 = .ok (.athrow, 1) := by decide +kernel
theorem d_Q_checkNotFrozen_17 : decode b_Q_checkNotFrozen 17 = .ok (.return_, 1) := by decide +kernel
theorem d_Q_checkRange_0 : decode b_Q_checkRange 0 = .ok (.iload_n 0, 1) := by decide +kernel
theorem d_Q_checkRange_1 : decode b_Q_checkRange 1 = .ok (.iload_n 1, 1) := by decide +kernel
theorem d_Q_checkRange_2 : decode b_Q_checkRange 2 = .ok (.if_icmp .lt 8, 3) := by decide +kernel
theorem d_Q_checkRange_5 : decode b_Q_checkRange 5 = .ok (.iload_n 0, 1) := by decide +kernel
theorem d_Q_checkRange_6 : decode b_Q_checkRange 6 = .ok (.iload_n 2, 1) := by decide +kernel
theorem d_Q_checkRange_7 : decode b_Q_checkRange 7 = .ok (.if_icmp .le 13, 3) := by decide +kernel
theorem d_Q_checkRange_10 : decode b_Q_checkRange 10 = .ok (.new 143, 3) := by decide +kernel
theorem d_Q_checkRange_13 : decode b_Q_checkRange 13 = .ok (.dup, 1) := by decide +kernel
theorem d_Q_checkRange_14 : decode b_Q_checkRange 14 = .ok (.ldc 203, 2) := by decide +kernel
theorem d_Q_checkRange_16 : decode b_Q_checkRange 16 = .ok (.invokespecial 147, 3) := by decide +kernel
theorem d_Q_checkRange_19 : decode b_Q_checkRange 19 = .ok (.athrow, 1) := by decide +kernel
theorem d_Q_checkRange_20 : decode b_Q_checkRange 20 = .ok (.return_, 1) := by decide +kernel
theorem d_Q_checkRoom_0 : decode b_Q_checkRoom 0 = .ok (.aload_n 0, 1) := by decide +kernel
theorem d_Q_checkRoom_1 : decode b_Q_checkRoom 1 = .ok (.getfield 42, 3) := by decide +kernel
theorem d_Q_checkRoom_4 : decode b_Q_checkRoom 4 = .ok (.bipush 16, 2) := by decide +kernel
theorem d_Q_checkRoom_6 : decode b_Q_checkRoom 6 = .ok (.if_icmp .lt 13, 3) := by decide +kernel
theorem d_Q_checkRoom_9 : decode b_Q_checkRoom 9 = .ok (.new 153, 3) := by decide +kernel
theorem d_Q_checkRoom_12 : decode b_Q_checkRoom 12 = .ok (.dup, 1) := by decide +kernel
theorem d_Q_checkRoom_13 : decode b_Q_checkRoom 13 = .ok (.ldc 198, 2) := by decide +kernel
theorem d_Q_checkRoom_15 : decode b_Q_checkRoom 15 = .ok (.invokespecial 157, 3) := by decide +kernel
theorem d_Q_checkRoom_18 : decode b_Q_checkRoom 18 = .ok (.athrow, 1) := by decide +kernel
theorem d_Q_checkRoom_19 : decode b_Q_checkRoom 19 = .ok (.return_, 1) := by decide +kernel
theorem d_Q_count_0 : decode b_Q_count 0 = .ok (.iload_n 1, 1) := by decide +kernel
theorem d_Q_count_1 : decode b_Q_count 1 = .ok (.tableswitch 51 0 3 #[31, 36, 41, 46], 31) := by decide +kernel
theorem d_Q_count_32 : decode b_Q_count 32 = .ok (.aload_n 0, 1) := by decide +kernel
theorem d_Q_count_33 : decode b_Q_count 33 = .ok (.getfield 42, 3) := by decide +kernel
theorem d_Q_count_36 : decode b_Q_count 36 = .ok (.ireturn, 1) := by decide +kernel
theorem d_Q_count_37 : decode b_Q_count 37 = .ok (.aload_n 0, 1) := by decide +kernel
theorem d_Q_count_38 : decode b_Q_count 38 = .ok (.getfield 120, 3) := by decide +kernel
theorem d_Q_count_41 : decode b_Q_count 41 = .ok (.ireturn, 1) := by decide +kernel
theorem d_Q_count_42 : decode b_Q_count 42 = .ok (.aload_n 0, 1) := by decide +kernel
theorem d_Q_count_43 : decode b_Q_count 43 = .ok (.getfield 189, 3) := by decide +kernel
theorem d_Q_count_46 : decode b_Q_count 46 = .ok (.ireturn, 1) := by decide +kernel
theorem d_Q_count_47 : decode b_Q_count 47 = .ok (.aload_n 0, 1) := by decide +kernel
theorem d_Q_count_48 : decode b_Q_count 48 = .ok (.getfield 192, 3) := by decide +kernel
theorem d_Q_count_51 : decode b_Q_count 51 = .ok (.ireturn, 1) := by decide +kernel
theorem d_Q_count_52 : decode b_Q_count 52 = .ok (.iconst (-1), 1) := by decide +kernel
theorem d_Q_count_53 : decode b_Q_count 53 = .ok (.ireturn, 1) := by decide +kernel
theorem d_Q_eighthsOf_0 : decode b_Q_eighthsOf 0 = .ok (.dload_n 0, 1) := by decide +kernel
theorem d_Q_eighthsOf_1 : decode b_Q_eighthsOf 1 = .ok (.iload_n 2, 1) := by decide +kernel
theorem d_Q_eighthsOf_2 : decode b_Q_eighthsOf 2 = .ok (.ineg, 1) := by decide +kernel
theorem d_Q_eighthsOf_3 : decode b_Q_eighthsOf 3 = .ok (.i2d, 1) := by decide +kernel
theorem d_Q_eighthsOf_4 : decode b_Q_eighthsOf 4 = .ok (.dcmp .l, 1) := by decide +kernel
theorem d_Q_eighthsOf_5 : decode b_Q_eighthsOf 5 = .ok (.ifCond .lt 30, 3) := by decide +kernel
theorem d_Q_eighthsOf_8 : decode b_Q_eighthsOf 8 = .ok (.dload_n 0, 1) := by decide +kernel
theorem d_Q_eighthsOf_9 : decode b_Q_eighthsOf 9 = .ok (.iload_n 2, 1) := by decide +kernel
theorem d_Q_eighthsOf_10 : decode b_Q_eighthsOf 10 = .ok (.i2d, 1) := by decide +kernel
theorem d_Q_eighthsOf_11 : decode b_Q_eighthsOf 11 = .ok (.dcmp .g, 1) := by decide +kernel
theorem d_Q_eighthsOf_12 : decode b_Q_eighthsOf 12 = .ok (.ifCond .gt 23, 3) := by decide +kernel
theorem d_Q_eighthsOf_15 : decode b_Q_eighthsOf 15 = .ok (.dload_n 0, 1) := by decide +kernel
theorem d_Q_eighthsOf_16 : decode b_Q_eighthsOf 16 = .ok (.ldc2_w 205, 3) := by decide +kernel
theorem d_Q_eighthsOf_19 : decode b_Q_eighthsOf 19 = .ok (.dmul, 1) := by decide +kernel
theorem d_Q_eighthsOf_20 : decode b_Q_eighthsOf 20 = .ok (.d2l, 1) := by decide +kernel
theorem d_Q_eighthsOf_21 : decode b_Q_eighthsOf 21 = .ok (.lstore_n 3, 1) := by decide +kernel
theorem d_Q_eighthsOf_22 : decode b_Q_eighthsOf 22 = .ok (.lload_n 3, 1) := by decide +kernel
theorem d_Q_eighthsOf_23 : decode b_Q_eighthsOf 23 = .ok (.l2d, 1) := by decide +kernel
theorem d_Q_eighthsOf_24 : decode b_Q_eighthsOf 24 = .ok (.dload_n 0, 1) := by decide +kernel
theorem d_Q_eighthsOf_25 : decode b_Q_eighthsOf 25 = .ok (.ldc2_w 205, 3) := by decide +kernel
theorem d_Q_eighthsOf_28 : decode b_Q_eighthsOf 28 = .ok (.dmul, 1) := by decide +kernel
theorem d_Q_eighthsOf_29 : decode b_Q_eighthsOf 29 = .ok (.dcmp .l, 1) := by decide +kernel
theorem d_Q_eighthsOf_30 : decode b_Q_eighthsOf 30 = .ok (.ifCond .ne 5, 3) := by decide +kernel
theorem d_Q_eighthsOf_33 : decode b_Q_eighthsOf 33 = .ok (.lload_n 3, 1) := by decide +kernel
theorem d_Q_eighthsOf_34 : decode b_Q_eighthsOf 34 = .ok (.lreturn, 1) := by decide +kernel
theorem d_Q_eighthsOf_35 : decode b_Q_eighthsOf 35 = .ok (.new 143, 3) := by decide +kernel
theorem d_Q_eighthsOf_38 : decode b_Q_eighthsOf 38 = .ok (.dup, 1) := by decide +kernel
theorem d_Q_eighthsOf_39 : decode b_Q_eighthsOf 39 = .ok (.ldc 207, 2) := by decide +kernel
theorem d_Q_eighthsOf_41 : decode b_Q_eighthsOf 41 = .ok (.invokespecial 147, 3) := by decide +kernel
theorem d_Q_eighthsOf_44 : decode b_Q_eighthsOf 44 = .ok (.athrow, 1) := by decide +kernel
theorem d_Q_engine_0 : decode b_Q_engine 0 = .ok (.aload_n 0, 1) := by decide +kernel
theorem d_Q_engine_1 : decode b_Q_engine 1 = .ok (.iload_n 1, 1) := by decide +kernel
theorem d_Q_engine_2 : decode b_Q_engine 2 = .ok (.invokevirtual 80, 3) := by decide +kernel
theorem d_Q_engine_5 : decode b_Q_engine 5 = .ok (.astore 4, 2) := by decide +kernel
theorem d_Q_engine_7 : decode b_Q_engine 7 = .ok (.iload_n 2, 1) := by decide +kernel
theorem d_Q_engine_8 : decode b_Q_engine 8 = .ok (.iconst 0, 1) := by decide +kernel
theorem d_Q_engine_9 : decode b_Q_engine 9 = .ok (.aload_n 0, 1) := by decide +kernel
theorem d_Q_engine_10 : decode b_Q_engine 10 = .ok (.getfield 26, 3) := by decide +kernel
theorem d_Q_engine_13 : decode b_Q_engine 13 = .ok (.arraylength, 1) := by decide +kernel
theorem d_Q_engine_14 : decode b_Q_engine 14 = .ok (.iconst 1, 1) := by decide +kernel
theorem d_Q_engine_15 : decode b_Q_engine 15 = .ok (.isub, 1) := by decide +kernel
theorem d_Q_engine_16 : decode b_Q_engine 16 = .ok (.invokestatic 67, 3) := by decide +kernel
theorem d_Q_engine_19 : decode b_Q_engine 19 = .ok (.aload_n 0, 1) := by decide +kernel
theorem d_Q_engine_20 : decode b_Q_engine 20 = .ok (.getfield 26, 3) := by decide +kernel
theorem d_Q_engine_23 : decode b_Q_engine 23 = .ok (.iload_n 2, 1) := by decide +kernel
theorem d_Q_engine_24 : decode b_Q_engine 24 = .ok (.aaload, 1) := by decide +kernel
theorem d_Q_engine_25 : decode b_Q_engine 25 = .ok (.astore 5, 2) := by decide +kernel
theorem d_Q_engine_27 : decode b_Q_engine 27 = .ok (.iload_n 3, 1) := by decide +kernel
theorem d_Q_engine_28 : decode b_Q_engine 28 = .ok (.aload 5, 2) := by decide +kernel
theorem d_Q_engine_30 : decode b_Q_engine 30 = .ok (.getfield 107, 3) := by decide +kernel
theorem d_Q_engine_33 : decode b_Q_engine 33 = .ok (.aload 5, 2) := by decide +kernel
theorem d_Q_engine_35 : decode b_Q_engine 35 = .ok (.getfield 110, 3) := by decide +kernel
theorem d_Q_engine_38 : decode b_Q_engine 38 = .ok (.invokestatic 67, 3) := by decide +kernel
theorem d_Q_engine_41 : decode b_Q_engine 41 = .ok (.aload 4, 2) := by decide +kernel
theorem d_Q_engine_43 : decode b_Q_engine 43 = .ok (.invokestatic 88, 3) := by decide +kernel
theorem d_Q_engine_46 : decode b_Q_engine 46 = .ok (.aload 4, 2) := by decide +kernel
theorem d_Q_engine_48 : decode b_Q_engine 48 = .ok (.aload 5, 2) := by decide +kernel
theorem d_Q_engine_50 : decode b_Q_engine 50 = .ok (.putfield 76, 3) := by decide +kernel
theorem d_Q_engine_53 : decode b_Q_engine 53 = .ok (.aload 4, 2) := by decide +kernel
theorem d_Q_engine_55 : decode b_Q_engine 55 = .ok (.iload_n 3, 1) := by decide +kernel
theorem d_Q_engine_56 : decode b_Q_engine 56 = .ok (.putfield 113, 3) := by decide +kernel
theorem d_Q_engine_59 : decode b_Q_engine 59 = .ok (.aload_n 0, 1) := by decide +kernel
theorem d_Q_engine_60 : decode b_Q_engine 60 = .ok (.aload 4, 2) := by decide +kernel
theorem d_Q_engine_62 : decode b_Q_engine 62 = .ok (.invokevirtual 103, 3) := by decide +kernel
theorem d_Q_engine_65 : decode b_Q_engine 65 = .ok (.return_, 1) := by decide +kernel
theorem d_Q_extraPartAt_0 : decode b_Q_extraPartAt 0 = .ok (.iload_n 1, 1) := by decide +kernel
theorem d_Q_extraPartAt_1 : decode b_Q_extraPartAt 1 = .ok (.iconst (-1), 1) := by decide +kernel
theorem d_Q_extraPartAt_2 : decode b_Q_extraPartAt 2 = .ok (.if_icmp .ne 5, 3) := by decide +kernel
theorem d_Q_extraPartAt_5 : decode b_Q_extraPartAt 5 = .ok (.aconst_null, 1) := by decide +kernel
theorem d_Q_extraPartAt_6 : decode b_Q_extraPartAt 6 = .ok (.areturn, 1) := by decide +kernel
theorem d_Q_extraPartAt_7 : decode b_Q_extraPartAt 7 = .ok (.aload_n 0, 1) := by decide +kernel
theorem d_Q_extraPartAt_8 : decode b_Q_extraPartAt 8 = .ok (.iload_n 1, 1) := by decide +kernel
theorem d_Q_extraPartAt_9 : decode b_Q_extraPartAt 9 = .ok (.invokevirtual 53, 3) := by decide +kernel
theorem d_Q_extraPartAt_12 : decode b_Q_extraPartAt 12 = .ok (.astore_n 3, 1) := by decide +kernel
theorem d_Q_extraPartAt_13 : decode b_Q_extraPartAt 13 = .ok (.aload_n 3, 1) := by decide +kernel
theorem d_Q_extraPartAt_14 : decode b_Q_extraPartAt 14 = .ok (.aload_n 2, 1) := by decide +kernel
theorem d_Q_extraPartAt_15 : decode b_Q_extraPartAt 15 = .ok (.if_acmp .eq 12, 3) := by decide +kernel
theorem d_Q_extraPartAt_18 : decode b_Q_extraPartAt 18 = .ok (.aload_n 0, 1) := by decide +kernel
theorem d_Q_extraPartAt_19 : decode b_Q_extraPartAt 19 = .ok (.aload_n 3, 1) := by decide +kernel
theorem d_Q_extraPartAt_20 : decode b_Q_extraPartAt 20 = .ok (.aload_n 2, 1) := by decide +kernel
theorem d_Q_extraPartAt_21 : decode b_Q_extraPartAt 21 = .ok (.invokevirtual 173, 3) := by decide +kernel
theorem d_Q_extraPartAt_24 : decode b_Q_extraPartAt 24 = .ok (.ifCond .eq 13, 3) := by decide +kernel
theorem d_Q_extraPartAt_27 : decode b_Q_extraPartAt 27 = .ok (.new 143, 3) := by decide +kernel
theorem d_Q_extraPartAt_30 : decode b_Q_extraPartAt 30 = .ok (.dup, 1) := by decide +kernel
theorem d_Q_extraPartAt_31 : decode b_Q_extraPartAt 31 = .ok (.ldc 221, 2) := by decide +kernel
theorem d_Q_extraPartAt_33 : decode b_Q_extraPartAt 33 = .ok (.invokespecial 147, 3) := by decide +kernel
theorem d_Q_extraPartAt_36 : decode b_Q_extraPartAt 36 = .ok (.athrow, 1) := by decide +kernel
theorem d_Q_extraPartAt_37 : decode b_Q_extraPartAt 37 = .ok (.aload_n 3, 1) := by decide +kernel
theorem d_Q_extraPartAt_38 : decode b_Q_extraPartAt 38 = .ok (.areturn, 1) := by decide +kernel
theorem d_Q_freeze_0 : decode b_Q_freeze 0 = .ok (.aload_n 0, 1) := by decide +kernel
theorem d_Q_freeze_1 : decode b_Q_freeze 1 = .ok (.iload_n 1, 1) := by decide +kernel
theorem d_Q_freeze_2 : decode b_Q_freeze 2 = .ok (.invokevirtual 53, 3) := by decide +kernel
theorem d_Q_freeze_5 : decode b_Q_freeze 5 = .ok (.astore_n 3, 1) := by decide +kernel
theorem d_Q_freeze_6 : decode b_Q_freeze 6 = .ok (.aload_n 3, 1) := by decide +kernel
theorem d_Q_freeze_7 : decode b_Q_freeze 7 = .ok (.instanceof 40, 3) := by decide +kernel
theorem d_Q_freeze_10 : decode b_Q_freeze 10 = .ok (.ifCond .eq 13, 3) := by decide +kernel
theorem d_Q_freeze_13 : decode b_Q_freeze 13 = .ok (.new 143, 3) := by decide +kernel
theorem d_Q_freeze_16 : decode b_Q_freeze 16 = .ok (.dup, 1) := by decide +kernel
theorem d_Q_freeze_17 : decode b_Q_freeze 17 = .ok (.ldc 145, 2) := by decide +kernel
theorem d_Q_freeze_19 : decode b_Q_freeze 19 = .ok (.invokespecial 147, 3) := by decide +kernel
theorem d_Q_freeze_22 : decode b_Q_freeze 22 = .ok (.athrow, 1) := by decide +kernel
theorem d_Q_freeze_23 : decode b_Q_freeze 23 = .ok (.iload_n 2, 1) := by decide +kernel
theorem d_Q_freeze_24 : decode b_Q_freeze 24 = .ok (.ifCond .eq 20, 3) := by decide +kernel
theorem d_Q_freeze_27 : decode b_Q_freeze 27 = .ok (.aload_n 3, 1) := by decide +kernel
theorem d_Q_freeze_28 : decode b_Q_freeze 28 = .ok (.getfield 150, 3) := by decide +kernel
theorem d_Q_freeze_31 : decode b_Q_freeze 31 = .ok (.ifCond .ne 13, 3) := by decide +kernel
theorem d_Q_freeze_34 : decode b_Q_freeze 34 = .ok (.new 153, 3) := by decide +kernel
theorem d_Q_freeze_37 : decode b_Q_freeze 37 = .ok (.dup, 1) := by decide +kernel
theorem d_Q_freeze_38 : decode b_Q_freeze 38 = .ok (.ldc 155, 2) := by decide +kernel
theorem d_Q_freeze_40 : decode b_Q_freeze 40 = .ok (.invokespecial 157, 3) := by decide +kernel
theorem d_Q_freeze_43 : decode b_Q_freeze 43 = .ok (.athrow, 1) := by decide +kernel
theorem d_Q_freeze_44 : decode b_Q_freeze 44 = .ok (.aload_n 3, 1) := by decide +kernel
theorem d_Q_freeze_45 : decode b_Q_freeze 45 = .ok (.iload_n 2, 1) := by decide +kernel
theorem d_Q_freeze_46 : decode b_Q_freeze 46 = .ok (.putfield 158, 3) := by decide +kernel
theorem d_Q_freeze_49 : decode b_Q_freeze 49 = .ok (.iload_n 2, 1) := by decide +kernel
theorem d_Q_freeze_50 : decode b_Q_freeze 50 = .ok (.ifCond .ne 20, 3) := by decide +kernel
theorem d_Q_freeze_53 : decode b_Q_freeze 53 = .ok (.aload_n 3, 1) := by decide +kernel
theorem d_Q_freeze_54 : decode b_Q_freeze 54 = .ok (.getfield 161, 3) := by decide +kernel
theorem d_Q_freeze_57 : decode b_Q_freeze 57 = .ok (.ifCond .eq 13, 3) := by decide +kernel
theorem d_Q_freeze_60 : decode b_Q_freeze 60 = .ok (.aload_n 3, 1) := by decide +kernel
theorem d_Q_freeze_61 : decode b_Q_freeze 61 = .ok (.iconst 0, 1) := by decide +kernel
theorem d_Q_freeze_62 : decode b_Q_freeze 62 = .ok (.putfield 161, 3) := by decide +kernel
theorem d_Q_freeze_65 : decode b_Q_freeze 65 = .ok (.aload_n 0, 1) := by decide +kernel
theorem d_Q_freeze_66 : decode b_Q_freeze 66 = .ok (.aload_n 3, 1) := by decide +kernel
theorem d_Q_freeze_67 : decode b_Q_freeze 67 = .ok (.invokevirtual 103, 3) := by decide +kernel
theorem d_Q_freeze_70 : decode b_Q_freeze 70 = .ok (.return_, 1) := by decide +kernel
theorem d_Q_greater_0 : decode b_Q_greater 0 = .ok (.aload_n 0, 1) := by decide +kernel
theorem d_Q_greater_1 : decode b_Q_greater 1 = .ok (.iload_n 1, 1) := by decide +kernel
theorem d_Q_greater_2 : decode b_Q_greater 2 = .ok (.invokevirtual 53, 3) := by decide +kernel
theorem d_Q_greater_5 : decode b_Q_greater 5 = .ok (.astore_n 3, 1) := by decide +kernel
theorem d_Q_greater_6 : decode b_Q_greater 6 = .ok (.aload_n 0, 1) := by decide +kernel
theorem d_Q_greater_7 : decode b_Q_greater 7 = .ok (.iload_n 2, 1) := by decide +kernel
theorem d_Q_greater_8 : decode b_Q_greater 8 = .ok (.invokevirtual 53, 3) := by decide +kernel
theorem d_Q_greater_11 : decode b_Q_greater 11 = .ok (.astore 4, 2) := by decide +kernel
theorem d_Q_greater_13 : decode b_Q_greater 13 = .ok (.aload_n 0, 1) := by decide +kernel
theorem d_Q_greater_14 : decode b_Q_greater 14 = .ok (.invokevirtual 37, 3) := by decide +kernel
theorem d_Q_greater_17 : decode b_Q_greater 17 = .ok (.aload_n 0, 1) := by decide +kernel
theorem d_Q_greater_18 : decode b_Q_greater 18 = .ok (.new 62, 3) := by decide +kernel
theorem d_Q_greater_21 : decode b_Q_greater 21 = .ok (.dup, 1) := by decide +kernel
theorem d_Q_greater_22 : decode b_Q_greater 22 = .ok (.aload_n 0, 1) := by decide +kernel
theorem d_Q_greater_23 : decode b_Q_greater 23 = .ok (.getfield 42, 3) := by decide +kernel
theorem d_Q_greater_26 : decode b_Q_greater 26 = .ok (.aload_n 3, 1) := by decide +kernel
theorem d_Q_greater_27 : decode b_Q_greater 27 = .ok (.aload 4, 2) := by decide +kernel
theorem d_Q_greater_29 : decode b_Q_greater 29 = .ok (.invokespecial 64, 3) := by decide +kernel
theorem d_Q_greater_32 : decode b_Q_greater 32 = .ok (.invokevirtual 49, 3) := by decide +kernel
theorem d_Q_greater_35 : decode b_Q_greater 35 = .ok (.ireturn, 1) := by decide +kernel
theorem d_Q_hangsOn_0 : decode b_Q_hangsOn 0 = .ok (.aload_n 0, 1) := by decide +kernel
theorem d_Q_hangsOn_1 : decode b_Q_hangsOn 1 = .ok (.aload_n 1, 1) := by decide +kernel
theorem d_Q_hangsOn_2 : decode b_Q_hangsOn 2 = .ok (.invokevirtual 223, 3) := by decide +kernel
theorem d_Q_hangsOn_5 : decode b_Q_hangsOn 5 = .ok (.aload_n 2, 1) := by decide +kernel
theorem d_Q_hangsOn_6 : decode b_Q_hangsOn 6 = .ok (.invokevirtual 226, 3) := by decide +kernel
theorem d_Q_hangsOn_9 : decode b_Q_hangsOn 9 = .ok (.iand, 1) := by decide +kernel
theorem d_Q_hangsOn_10 : decode b_Q_hangsOn 10 = .ok (.ifCond .eq 7, 3) := by decide +kernel
theorem d_Q_hangsOn_13 : decode b_Q_hangsOn 13 = .ok (.iconst 1, 1) := by decide +kernel
theorem d_Q_hangsOn_14 : decode b_Q_hangsOn 14 = .ok (.goto 4, 3) := by decide +kernel
theorem d_Q_hangsOn_17 : decode b_Q_hangsOn 17 = .ok (.iconst 0, 1) := by decide +kernel
theorem d_Q_hangsOn_18 : decode b_Q_hangsOn 18 = .ok (.ireturn, 1) := by decide +kernel
theorem d_Q_init_0 : decode b_Q_init 0 = .ok (.aload_n 0, 1) := by decide +kernel
theorem d_Q_init_1 : decode b_Q_init 1 = .ok (.invokespecial 3, 3) := by decide +kernel
theorem d_Q_init_4 : decode b_Q_init 4 = .ok (.aload_n 0, 1) := by decide +kernel
theorem d_Q_init_5 : decode b_Q_init 5 = .ok (.bipush 16, 2) := by decide +kernel
theorem d_Q_init_7 : decode b_Q_init 7 = .ok (.anewarray 9, 3) := by decide +kernel
theorem d_Q_init_10 : decode b_Q_init 10 = .ok (.putfield 11, 3) := by decide +kernel
theorem d_Q_init_13 : decode b_Q_init 13 = .ok (.aload_n 0, 1) := by decide +kernel
theorem d_Q_init_14 : decode b_Q_init 14 = .ok (.iconst 3, 1) := by decide +kernel
theorem d_Q_init_15 : decode b_Q_init 15 = .ok (.anewarray 15, 3) := by decide +kernel
theorem d_Q_init_18 : decode b_Q_init 18 = .ok (.dup, 1) := by decide +kernel
theorem d_Q_init_19 : decode b_Q_init 19 = .ok (.iconst 0, 1) := by decide +kernel
theorem d_Q_init_20 : decode b_Q_init 20 = .ok (.new 17, 3) := by decide +kernel
theorem d_Q_init_23 : decode b_Q_init 23 = .ok (.dup, 1) := by decide +kernel
theorem d_Q_init_24 : decode b_Q_init 24 = .ok (.invokespecial 19, 3) := by decide +kernel
theorem d_Q_init_27 : decode b_Q_init 27 = .ok (.aastore, 1) := by decide +kernel
theorem d_Q_init_28 : decode b_Q_init 28 = .ok (.dup, 1) := by decide +kernel
theorem d_Q_init_29 : decode b_Q_init 29 = .ok (.iconst 1, 1) := by decide +kernel
theorem d_Q_init_30 : decode b_Q_init 30 = .ok (.new 20, 3) := by decide +kernel
theorem d_Q_init_33 : decode b_Q_init 33 = .ok (.dup, 1) := by decide +kernel
theorem d_Q_init_34 : decode b_Q_init 34 = .ok (.invokespecial 22, 3) := by decide +kernel
theorem d_Q_init_37 : decode b_Q_init 37 = .ok (.aastore, 1) := by decide +kernel
theorem d_Q_init_38 : decode b_Q_init 38 = .ok (.dup, 1) := by decide +kernel
theorem d_Q_init_39 : decode b_Q_init 39 = .ok (.iconst 2, 1) := by decide +kernel
theorem d_Q_init_40 : decode b_Q_init 40 = .ok (.new 23, 3) := by decide +kernel
theorem d_Q_init_43 : decode b_Q_init 43 = .ok (.dup, 1) := by decide +kernel
theorem d_Q_init_44 : decode b_Q_init 44 = .ok (.invokespecial 25, 3) := by decide +kernel
theorem d_Q_init_47 : decode b_Q_init 47 = .ok (.aastore, 1) := by decide +kernel
theorem d_Q_init_48 : decode b_Q_init 48 = .ok (.putfield 26, 3) := by decide +kernel
theorem d_Q_init_51 : decode b_Q_init 51 = .ok (.return_, 1) := by decide +kernel
theorem d_Q_isThere_0 : decode b_Q_isThere 0 = .ok (.iload_n 1, 1) := by decide +kernel
theorem d_Q_isThere_1 : decode b_Q_isThere 1 = .ok (.ifCond .lt 15, 3) := by decide +kernel
theorem d_Q_isThere_4 : decode b_Q_isThere 4 = .ok (.iload_n 1, 1) := by decide +kernel
theorem d_Q_isThere_5 : decode b_Q_isThere 5 = .ok (.aload_n 0, 1) := by decide +kernel
theorem d_Q_isThere_6 : decode b_Q_isThere 6 = .ok (.getfield 42, 3) := by decide +kernel
theorem d_Q_isThere_9 : decode b_Q_isThere 9 = .ok (.if_icmp .ge 7, 3) := by decide +kernel
theorem d_Q_isThere_12 : decode b_Q_isThere 12 = .ok (.iconst 1, 1) := by decide +kernel
theorem d_Q_isThere_13 : decode b_Q_isThere 13 = .ok (.goto 4, 3) := by decide +kernel
theorem d_Q_isThere_16 : decode b_Q_isThere 16 = .ok (.iconst 0, 1) := by decide +kernel
theorem d_Q_isThere_17 : decode b_Q_isThere 17 = .ok (.ireturn, 1) := by decide +kernel
theorem d_Q_makeUsersStale_0 : decode b_Q_makeUsersStale 0 = .ok (.iconst 0, 1) := by decide +kernel
theorem d_Q_makeUsersStale_1 : decode b_Q_makeUsersStale 1 = .ok (.istore_n 2, 1) := by decide +kernel
theorem d_Q_makeUsersStale_2 : decode b_Q_makeUsersStale 2 = .ok (.iload_n 2, 1) := by decide +kernel
theorem d_Q_makeUsersStale_3 : decode b_Q_makeUsersStale 3 = .ok (.aload_n 0, 1) := by decide +kernel
theorem d_Q_makeUsersStale_4 : decode b_Q_makeUsersStale 4 = .ok (.getfield 42, 3) := by decide +kernel
theorem d_Q_makeUsersStale_7 : decode b_Q_makeUsersStale 7 = .ok (.if_icmp .ge 45, 3) := by decide +kernel
theorem d_Q_makeUsersStale_10 : decode b_Q_makeUsersStale 10 = .ok (.aload_n 0, 1) := by decide +kernel
theorem d_Q_makeUsersStale_11 : decode b_Q_makeUsersStale 11 = .ok (.getfield 11, 3) := by decide +kernel
theorem d_Q_makeUsersStale_14 : decode b_Q_makeUsersStale 14 = .ok (.iload_n 2, 1) := by decide +kernel
theorem d_Q_makeUsersStale_15 : decode b_Q_makeUsersStale 15 = .ok (.aaload, 1) := by decide +kernel
theorem d_Q_makeUsersStale_16 : decode b_Q_makeUsersStale 16 = .ok (.getfield 158, 3) := by decide +kernel
theorem d_Q_makeUsersStale_19 : decode b_Q_makeUsersStale 19 = .ok (.ifCond .ne 27, 3) := by decide +kernel
theorem d_Q_makeUsersStale_22 : decode b_Q_makeUsersStale 22 = .ok (.aload_n 0, 1) := by decide +kernel
theorem d_Q_makeUsersStale_23 : decode b_Q_makeUsersStale 23 = .ok (.aload_n 0, 1) := by decide +kernel
theorem d_Q_makeUsersStale_24 : decode b_Q_makeUsersStale 24 = .ok (.getfield 11, 3) := by decide +kernel
theorem d_Q_makeUsersStale_27 : decode b_Q_makeUsersStale 27 = .ok (.iload_n 2, 1) := by decide +kernel
theorem d_Q_makeUsersStale_28 : decode b_Q_makeUsersStale 28 = .ok (.aaload, 1) := by decide +kernel
theorem d_Q_makeUsersStale_29 : decode b_Q_makeUsersStale 29 = .ok (.aload_n 1, 1) := by decide +kernel
theorem d_Q_makeUsersStale_30 : decode b_Q_makeUsersStale 30 = .ok (.invokevirtual 173, 3) := by decide +kernel
theorem d_Q_makeUsersStale_33 : decode b_Q_makeUsersStale 33 = .ok (.ifCond .eq 13, 3) := by decide +kernel
theorem d_Q_makeUsersStale_36 : decode b_Q_makeUsersStale 36 = .ok (.aload_n 0, 1) := by decide +kernel
theorem d_Q_makeUsersStale_37 : decode b_Q_makeUsersStale 37 = .ok (.getfield 11, 3) := by decide +kernel
theorem d_Q_makeUsersStale_40 : decode b_Q_makeUsersStale 40 = .ok (.iload_n 2, 1) := by decide +kernel
theorem d_Q_makeUsersStale_41 : decode b_Q_makeUsersStale 41 = .ok (.aaload, 1) := by decide +kernel
theorem d_Q_makeUsersStale_42 : decode b_Q_makeUsersStale 42 = .ok (.iconst 0, 1) := by decide +kernel
theorem d_Q_makeUsersStale_43 : decode b_Q_makeUsersStale 43 = .ok (.putfield 150, 3) := by decide +kernel
theorem d_Q_makeUsersStale_46 : decode b_Q_makeUsersStale 46 = .ok (.iinc 2 1, 3) := by decide +kernel
theorem d_Q_makeUsersStale_49 : decode b_Q_makeUsersStale 49 = .ok (.goto (-47), 3) := by decide +kernel
theorem d_Q_makeUsersStale_52 : decode b_Q_makeUsersStale 52 = .ok (.return_, 1) := by decide +kernel
theorem d_Q_node_0 : decode b_Q_node 0 = .ok (.aload_n 0, 1) := by decide +kernel
theorem d_Q_node_1 : decode b_Q_node 1 = .ok (.iload_n 1, 1) := by decide +kernel
theorem d_Q_node_2 : decode b_Q_node 2 = .ok (.invokevirtual 53, 3) := by decide +kernel
theorem d_Q_node_5 : decode b_Q_node 5 = .ok (.astore_n 3, 1) := by decide +kernel
theorem d_Q_node_6 : decode b_Q_node 6 = .ok (.iload_n 2, 1) := by decide +kernel
theorem d_Q_node_7 : decode b_Q_node 7 = .ok (.tableswitch 91 0 5 #[37, 42, 55, 68, 81, 86], 37) := by decide +kernel
theorem d_Q_node_44 : decode b_Q_node 44 = .ok (.aload_n 3, 1) := by decide +kernel
theorem d_Q_node_45 : decode b_Q_node 45 = .ok (.invokevirtual 177, 3) := by decide +kernel
theorem d_Q_node_48 : decode b_Q_node 48 = .ok (.ireturn, 1) := by decide +kernel
theorem d_Q_node_49 : decode b_Q_node 49 = .ok (.aload_n 3, 1) := by decide +kernel
theorem d_Q_node_50 : decode b_Q_node 50 = .ok (.getfield 150, 3) := by decide +kernel
theorem d_Q_node_53 : decode b_Q_node 53 = .ok (.ifCond .eq 7, 3) := by decide +kernel
theorem d_Q_node_56 : decode b_Q_node 56 = .ok (.iconst 1, 1) := by decide +kernel
theorem d_Q_node_57 : decode b_Q_node 57 = .ok (.goto 4, 3) := by decide +kernel
theorem d_Q_node_60 : decode b_Q_node 60 = .ok (.iconst 0, 1) := by decide +kernel
theorem d_Q_node_61 : decode b_Q_node 61 = .ok (.ireturn, 1) := by decide +kernel
theorem d_Q_node_62 : decode b_Q_node 62 = .ok (.aload_n 3, 1) := by decide +kernel
theorem d_Q_node_63 : decode b_Q_node 63 = .ok (.getfield 158, 3) := by decide +kernel
theorem d_Q_node_66 : decode b_Q_node 66 = .ok (.ifCond .eq 7, 3) := by decide +kernel
theorem d_Q_node_69 : decode b_Q_node 69 = .ok (.iconst 1, 1) := by decide +kernel
theorem d_Q_node_70 : decode b_Q_node 70 = .ok (.goto 4, 3) := by decide +kernel
theorem d_Q_node_73 : decode b_Q_node 73 = .ok (.iconst 0, 1) := by decide +kernel
theorem d_Q_node_74 : decode b_Q_node 74 = .ok (.ireturn, 1) := by decide +kernel
theorem d_Q_node_75 : decode b_Q_node 75 = .ok (.aload_n 3, 1) := by decide +kernel
theorem d_Q_node_76 : decode b_Q_node 76 = .ok (.getfield 161, 3) := by decide +kernel
theorem d_Q_node_79 : decode b_Q_node 79 = .ok (.ifCond .eq 7, 3) := by decide +kernel
theorem d_Q_node_82 : decode b_Q_node 82 = .ok (.iconst 1, 1) := by decide +kernel
theorem d_Q_node_83 : decode b_Q_node 83 = .ok (.goto 4, 3) := by decide +kernel
theorem d_Q_node_86 : decode b_Q_node 86 = .ok (.iconst 0, 1) := by decide +kernel
theorem d_Q_node_87 : decode b_Q_node 87 = .ok (.ireturn, 1) := by decide +kernel
theorem d_Q_node_88 : decode b_Q_node 88 = .ok (.aload_n 3, 1) := by decide +kernel
theorem d_Q_node_89 : decode b_Q_node 89 = .ok (.getfield 181, 3) := by decide +kernel
theorem d_Q_node_92 : decode b_Q_node 92 = .ok (.ireturn, 1) := by decide +kernel
theorem d_Q_node_93 : decode b_Q_node 93 = .ok (.aload_n 3, 1) := by decide +kernel
theorem d_Q_node_94 : decode b_Q_node 94 = .ok (.getfield 184, 3) := by decide +kernel
theorem d_Q_node_97 : decode b_Q_node 97 = .ok (.ireturn, 1) := by decide +kernel
theorem d_Q_node_98 : decode b_Q_node 98 = .ok (.new 143, 3) := by decide +kernel
theorem d_Q_node_101 : decode b_Q_node 101 = .ok (.dup, 1) := by decide +kernel
theorem d_Q_node_102 : decode b_Q_node 102 = .ok (.ldc 187, 2) := by decide +kernel
theorem d_Q_node_104 : decode b_Q_node 104 = .ok (.invokespecial 147, 3) := by decide +kernel
theorem d_Q_node_107 : decode b_Q_node 107 = .ok (.athrow, 1) := by decide +kernel
theorem d_Q_nodeAt_0 : decode b_Q_nodeAt 0 = .ok (.aload_n 0, 1) := by decide +kernel
theorem d_Q_nodeAt_1 : decode b_Q_nodeAt 1 = .ok (.iload_n 1, 1) := by decide +kernel
theorem d_Q_nodeAt_2 : decode b_Q_nodeAt 2 = .ok (.invokevirtual 211, 3) := by decide +kernel
theorem d_Q_nodeAt_5 : decode b_Q_nodeAt 5 = .ok (.ifCond .eq 10, 3) := by decide +kernel
theorem d_Q_nodeAt_8 : decode b_Q_nodeAt 8 = .ok (.aload_n 0, 1) := by decide +kernel
theorem d_Q_nodeAt_9 : decode b_Q_nodeAt 9 = .ok (.getfield 11, 3) := by decide +kernel
theorem d_Q_nodeAt_12 : decode b_Q_nodeAt 12 = .ok (.iload_n 1, 1) := by decide +kernel
theorem d_Q_nodeAt_13 : decode b_Q_nodeAt 13 = .ok (.aaload, 1) := by decide +kernel
theorem d_Q_nodeAt_14 : decode b_Q_nodeAt 14 = .ok (.areturn, 1) := by decide +kernel
theorem d_Q_nodeAt_15 : decode b_Q_nodeAt 15 = .ok (.new 143, 3) := by decide +kernel
theorem d_Q_nodeAt_18 : decode b_Q_nodeAt 18 = .ok (.dup, 1) := by decide +kernel
theorem d_Q_nodeAt_19 : decode b_Q_nodeAt 19 = .ok (.ldc 215, 2) := by decide +kernel
theorem d_Q_nodeAt_21 : decode b_Q_nodeAt 21 = .ok (.invokespecial 147, 3) := by decide +kernel
theorem d_Q_nodeAt_24 : decode b_Q_nodeAt 24 = .ok (.athrow, 1) := by decide +kernel
theorem d_Q_notTooLarge_0 : decode b_Q_notTooLarge 0 = .ok (.lload_n 0, 1) := by decide +kernel
theorem d_Q_notTooLarge_1 : decode b_Q_notTooLarge 1 = .ok (.ldc2_w 276, 3) := by decide +kernel
theorem d_Q_notTooLarge_4 : decode b_Q_notTooLarge 4 = .ok (.lcmp, 1) := by decide +kernel
theorem d_Q_notTooLarge_5 : decode b_Q_notTooLarge 5 = .ok (.ifCond .gt 11, 3) := by decide +kernel
theorem d_Q_notTooLarge_8 : decode b_Q_notTooLarge 8 = .ok (.lload_n 0, 1) := by decide +kernel
theorem d_Q_notTooLarge_9 : decode b_Q_notTooLarge 9 = .ok (.ldc2_w 278, 3) := by decide +kernel
theorem d_Q_notTooLarge_12 : decode b_Q_notTooLarge 12 = .ok (.lcmp, 1) := by decide +kernel
theorem d_Q_notTooLarge_13 : decode b_Q_notTooLarge 13 = .ok (.ifCond .ge 14, 3) := by decide +kernel
theorem d_Q_notTooLarge_16 : decode b_Q_notTooLarge 16 = .ok (.new 246, 3) := by decide +kernel
theorem d_Q_notTooLarge_19 : decode b_Q_notTooLarge 19 = .ok (.dup, 1) := by decide +kernel
theorem d_Q_notTooLarge_20 : decode b_Q_notTooLarge 20 = .ok (.ldc_w 280, 3) := by decide +kernel
theorem d_Q_notTooLarge_23 : decode b_Q_notTooLarge 23 = .ok (.invokespecial 267, 3) := by decide +kernel
theorem d_Q_notTooLarge_26 : decode b_Q_notTooLarge 26 = .ok (.athrow, 1) := by decide +kernel
theorem d_Q_notTooLarge_27 : decode b_Q_notTooLarge 27 = .ok (.lload_n 0, 1) := by decide +kernel
theorem d_Q_notTooLarge_28 : decode b_Q_notTooLarge 28 = .ok (.lreturn, 1) := by decide +kernel
theorem d_Q_numberOf_0 : decode b_Q_numberOf 0 = .ok (.lload_n 0, 1) := by decide +kernel
theorem d_Q_numberOf_1 : decode b_Q_numberOf 1 = .ok (.l2d, 1) := by decide +kernel
theorem d_Q_numberOf_2 : decode b_Q_numberOf 2 = .ok (.ldc2_w 209, 3) := by decide +kernel
theorem d_Q_numberOf_5 : decode b_Q_numberOf 5 = .ok (.ddiv, 1) := by decide +kernel
theorem d_Q_numberOf_6 : decode b_Q_numberOf 6 = .ok (.dreturn, 1) := by decide +kernel
theorem d_Q_option_0 : decode b_Q_option 0 = .ok (.aload_n 0, 1) := by decide +kernel
theorem d_Q_option_1 : decode b_Q_option 1 = .ok (.iload_n 1, 1) := by decide +kernel
theorem d_Q_option_2 : decode b_Q_option 2 = .ok (.invokevirtual 53, 3) := by decide +kernel
theorem d_Q_option_5 : decode b_Q_option 5 = .ok (.astore 7, 2) := by decide +kernel
theorem d_Q_option_7 : decode b_Q_option 7 = .ok (.aload_n 0, 1) := by decide +kernel
theorem d_Q_option_8 : decode b_Q_option 8 = .ok (.iload_n 2, 1) := by decide +kernel
theorem d_Q_option_9 : decode b_Q_option 9 = .ok (.invokevirtual 53, 3) := by decide +kernel
theorem d_Q_option_12 : decode b_Q_option 12 = .ok (.astore 8, 2) := by decide +kernel
theorem d_Q_option_14 : decode b_Q_option 14 = .ok (.iload_n 3, 1) := by decide +kernel
theorem d_Q_option_15 : decode b_Q_option 15 = .ok (.iconst 0, 1) := by decide +kernel
theorem d_Q_option_16 : decode b_Q_option 16 = .ok (.iconst 3, 1) := by decide +kernel
theorem d_Q_option_17 : decode b_Q_option 17 = .ok (.invokestatic 67, 3) := by decide +kernel
theorem d_Q_option_20 : decode b_Q_option 20 = .ok (.ldc2_w 30, 3) := by decide +kernel
theorem d_Q_option_23 : decode b_Q_option 23 = .ok (.dload 4, 2) := by decide +kernel
theorem d_Q_option_25 : decode b_Q_option 25 = .ok (.ldc 32, 2) := by decide +kernel
theorem d_Q_option_27 : decode b_Q_option 27 = .ok (.invokestatic 33, 3) := by decide +kernel
theorem d_Q_option_30 : decode b_Q_option 30 = .ok (.lmul, 1) := by decide +kernel
theorem d_Q_option_31 : decode b_Q_option 31 = .ok (.lstore 9, 2) := by decide +kernel
theorem d_Q_option_33 : decode b_Q_option 33 = .ok (.iload 6, 2) := by decide +kernel
theorem d_Q_option_35 : decode b_Q_option 35 = .ok (.iconst 1, 1) := by decide +kernel
theorem d_Q_option_36 : decode b_Q_option 36 = .ok (.bipush 20, 2) := by decide +kernel
theorem d_Q_option_38 : decode b_Q_option 38 = .ok (.invokestatic 67, 3) := by decide +kernel
theorem d_Q_option_41 : decode b_Q_option 41 = .ok (.aload_n 0, 1) := by decide +kernel
theorem d_Q_option_42 : decode b_Q_option 42 = .ok (.invokevirtual 37, 3) := by decide +kernel
theorem d_Q_option_45 : decode b_Q_option 45 = .ok (.new 71, 3) := by decide +kernel
theorem d_Q_option_48 : decode b_Q_option 48 = .ok (.dup, 1) := by decide +kernel
theorem d_Q_option_49 : decode b_Q_option 49 = .ok (.aload_n 0, 1) := by decide +kernel
theorem d_Q_option_50 : decode b_Q_option 50 = .ok (.getfield 42, 3) := by decide +kernel
theorem d_Q_option_53 : decode b_Q_option 53 = .ok (.aload 7, 2) := by decide +kernel
theorem d_Q_option_55 : decode b_Q_option 55 = .ok (.aload 8, 2) := by decide +kernel
theorem d_Q_option_57 : decode b_Q_option 57 = .ok (.iload_n 3, 1) := by decide +kernel
theorem d_Q_option_58 : decode b_Q_option 58 = .ok (.lload 9, 2) := by decide +kernel
theorem d_Q_option_60 : decode b_Q_option 60 = .ok (.iload 6, 2) := by decide +kernel
theorem d_Q_option_62 : decode b_Q_option 62 = .ok (.invokespecial 73, 3) := by decide +kernel
theorem d_Q_option_65 : decode b_Q_option 65 = .ok (.astore 11, 2) := by decide +kernel
theorem d_Q_option_67 : decode b_Q_option 67 = .ok (.aload 11, 2) := by decide +kernel
theorem d_Q_option_69 : decode b_Q_option 69 = .ok (.aload_n 0, 1) := by decide +kernel
theorem d_Q_option_70 : decode b_Q_option 70 = .ok (.getfield 26, 3) := by decide +kernel
theorem d_Q_option_73 : decode b_Q_option 73 = .ok (.iconst 0, 1) := by decide +kernel
theorem d_Q_option_74 : decode b_Q_option 74 = .ok (.aaload, 1) := by decide +kernel
theorem d_Q_option_75 : decode b_Q_option 75 = .ok (.putfield 76, 3) := by decide +kernel
theorem d_Q_option_78 : decode b_Q_option 78 = .ok (.aload_n 0, 1) := by decide +kernel
theorem d_Q_option_79 : decode b_Q_option 79 = .ok (.aload 11, 2) := by decide +kernel
theorem d_Q_option_81 : decode b_Q_option 81 = .ok (.invokevirtual 49, 3) := by decide +kernel
theorem d_Q_option_84 : decode b_Q_option 84 = .ok (.ireturn, 1) := by decide +kernel
theorem d_Q_optionAt_0 : decode b_Q_optionAt 0 = .ok (.aload_n 0, 1) := by decide +kernel
theorem d_Q_optionAt_1 : decode b_Q_optionAt 1 = .ok (.iload_n 1, 1) := by decide +kernel
theorem d_Q_optionAt_2 : decode b_Q_optionAt 2 = .ok (.invokevirtual 211, 3) := by decide +kernel
theorem d_Q_optionAt_5 : decode b_Q_optionAt 5 = .ok (.ifCond .eq 24, 3) := by decide +kernel
theorem d_Q_optionAt_8 : decode b_Q_optionAt 8 = .ok (.aload_n 0, 1) := by decide +kernel
theorem d_Q_optionAt_9 : decode b_Q_optionAt 9 = .ok (.getfield 11, 3) := by decide +kernel
theorem d_Q_optionAt_12 : decode b_Q_optionAt 12 = .ok (.iload_n 1, 1) := by decide +kernel
theorem d_Q_optionAt_13 : decode b_Q_optionAt 13 = .ok (.aaload, 1) := by decide +kernel
theorem d_Q_optionAt_14 : decode b_Q_optionAt 14 = .ok (.astore_n 3, 1) := by decide +kernel
theorem d_Q_optionAt_15 : decode b_Q_optionAt 15 = .ok (.aload_n 3, 1) := by decide +kernel
theorem d_Q_optionAt_16 : decode b_Q_optionAt 16 = .ok (.instanceof 71, 3) := by decide +kernel
theorem d_Q_optionAt_19 : decode b_Q_optionAt 19 = .ok (.ifCond .eq 10, 3) := by decide +kernel
theorem d_Q_optionAt_22 : decode b_Q_optionAt 22 = .ok (.aload_n 3, 1) := by decide +kernel
theorem d_Q_optionAt_23 : decode b_Q_optionAt 23 = .ok (.checkcast 71, 3) := by decide +kernel
theorem d_Q_optionAt_26 : decode b_Q_optionAt 26 = .ok (.astore_n 2, 1) := by decide +kernel
theorem d_Q_optionAt_27 : decode b_Q_optionAt 27 = .ok (.aload_n 2, 1) := by decide +kernel
theorem d_Q_optionAt_28 : decode b_Q_optionAt 28 = .ok (.areturn, 1) := by decide +kernel
theorem d_Q_optionAt_29 : decode b_Q_optionAt 29 = .ok (.new 143, 3) := by decide +kernel
theorem d_Q_optionAt_32 : decode b_Q_optionAt 32 = .ok (.dup, 1) := by decide +kernel
theorem d_Q_optionAt_33 : decode b_Q_optionAt 33 = .ok (.ldc 219, 2) := by decide +kernel
theorem d_Q_optionAt_35 : decode b_Q_optionAt 35 = .ok (.invokespecial 147, 3) := by decide +kernel
theorem d_Q_optionAt_38 : decode b_Q_optionAt 38 = .ok (.athrow, 1) := by decide +kernel
theorem d_Q_quote_0 : decode b_Q_quote 0 = .ok (.ldc2_w 30, 3) := by decide +kernel
theorem d_Q_quote_3 : decode b_Q_quote 3 = .ok (.dload_n 1, 1) := by decide +kernel
theorem d_Q_quote_4 : decode b_Q_quote 4 = .ok (.ldc 32, 2) := by decide +kernel
theorem d_Q_quote_6 : decode b_Q_quote 6 = .ok (.invokestatic 33, 3) := by decide +kernel
theorem d_Q_quote_9 : decode b_Q_quote 9 = .ok (.lmul, 1) := by decide +kernel
theorem d_Q_quote_10 : decode b_Q_quote 10 = .ok (.lstore_n 3, 1) := by decide +kernel
theorem d_Q_quote_11 : decode b_Q_quote 11 = .ok (.aload_n 0, 1) := by decide +kernel
theorem d_Q_quote_12 : decode b_Q_quote 12 = .ok (.invokevirtual 37, 3) := by decide +kernel
theorem d_Q_quote_15 : decode b_Q_quote 15 = .ok (.aload_n 0, 1) := by decide +kernel
theorem d_Q_quote_16 : decode b_Q_quote 16 = .ok (.new 40, 3) := by decide +kernel
theorem d_Q_quote_19 : decode b_Q_quote 19 = .ok (.dup, 1) := by decide +kernel
theorem d_Q_quote_20 : decode b_Q_quote 20 = .ok (.aload_n 0, 1) := by decide +kernel
theorem d_Q_quote_21 : decode b_Q_quote 21 = .ok (.getfield 42, 3) := by decide +kernel
theorem d_Q_quote_24 : decode b_Q_quote 24 = .ok (.lload_n 3, 1) := by decide +kernel
theorem d_Q_quote_25 : decode b_Q_quote 25 = .ok (.invokespecial 46, 3) := by decide +kernel
theorem d_Q_quote_28 : decode b_Q_quote 28 = .ok (.invokevirtual 49, 3) := by decide +kernel
theorem d_Q_quote_31 : decode b_Q_quote 31 = .ok (.ireturn, 1) := by decide +kernel
theorem d_Q_quoteAt_0 : decode b_Q_quoteAt 0 = .ok (.aload_n 0, 1) := by decide +kernel
theorem d_Q_quoteAt_1 : decode b_Q_quoteAt 1 = .ok (.iload_n 1, 1) := by decide +kernel
theorem d_Q_quoteAt_2 : decode b_Q_quoteAt 2 = .ok (.invokevirtual 211, 3) := by decide +kernel
theorem d_Q_quoteAt_5 : decode b_Q_quoteAt 5 = .ok (.ifCond .eq 24, 3) := by decide +kernel
theorem d_Q_quoteAt_8 : decode b_Q_quoteAt 8 = .ok (.aload_n 0, 1) := by decide +kernel
theorem d_Q_quoteAt_9 : decode b_Q_quoteAt 9 = .ok (.getfield 11, 3) := by decide +kernel
theorem d_Q_quoteAt_12 : decode b_Q_quoteAt 12 = .ok (.iload_n 1, 1) := by decide +kernel
theorem d_Q_quoteAt_13 : decode b_Q_quoteAt 13 = .ok (.aaload, 1) := by decide +kernel
theorem d_Q_quoteAt_14 : decode b_Q_quoteAt 14 = .ok (.astore_n 3, 1) := by decide +kernel
theorem d_Q_quoteAt_15 : decode b_Q_quoteAt 15 = .ok (.aload_n 3, 1) := by decide +kernel
theorem d_Q_quoteAt_16 : decode b_Q_quoteAt 16 = .ok (.instanceof 40, 3) := by decide +kernel
theorem d_Q_quoteAt_19 : decode b_Q_quoteAt 19 = .ok (.ifCond .eq 10, 3) := by decide +kernel
theorem d_Q_quoteAt_22 : decode b_Q_quoteAt 22 = .ok (.aload_n 3, 1) := by decide +kernel
theorem d_Q_quoteAt_23 : decode b_Q_quoteAt 23 = .ok (.checkcast 40, 3) := by decide +kernel
theorem d_Q_quoteAt_26 : decode b_Q_quoteAt 26 = .ok (.astore_n 2, 1) := by decide +kernel
theorem d_Q_quoteAt_27 : decode b_Q_quoteAt 27 = .ok (.aload_n 2, 1) := by decide +kernel
theorem d_Q_quoteAt_28 : decode b_Q_quoteAt 28 = .ok (.areturn, 1) := by decide +kernel
theorem d_Q_quoteAt_29 : decode b_Q_quoteAt 29 = .ok (.new 143, 3) := by decide +kernel
theorem d_Q_quoteAt_32 : decode b_Q_quoteAt 32 = .ok (.dup, 1) := by decide +kernel
theorem d_Q_quoteAt_33 : decode b_Q_quoteAt 33 = .ok (.ldc 217, 2) := by decide +kernel
theorem d_Q_quoteAt_35 : decode b_Q_quoteAt 35 = .ok (.invokespecial 147, 3) := by decide +kernel
theorem d_Q_quoteAt_38 : decode b_Q_quoteAt 38 = .ok (.athrow, 1) := by decide +kernel
theorem d_Q_raise_0 : decode b_Q_raise 0 = .ok (.aload_n 1, 1) := by decide +kernel
theorem d_Q_raise_1 : decode b_Q_raise 1 = .ok (.getstatic 259, 3) := by decide +kernel
theorem d_Q_raise_4 : decode b_Q_raise 4 = .ok (.if_acmp .ne 4, 3) := by decide +kernel
theorem d_Q_raise_7 : decode b_Q_raise 7 = .ok (.return_, 1) := by decide +kernel
theorem d_Q_raise_8 : decode b_Q_raise 8 = .ok (.aload_n 0, 1) := by decide +kernel
theorem d_Q_raise_9 : decode b_Q_raise 9 = .ok (.dup, 1) := by decide +kernel
theorem d_Q_raise_10 : decode b_Q_raise 10 = .ok (.getfield 192, 3) := by decide +kernel
theorem d_Q_raise_13 : decode b_Q_raise 13 = .ok (.iconst 1, 1) := by decide +kernel
theorem d_Q_raise_14 : decode b_Q_raise 14 = .ok (.iadd, 1) := by decide +kernel
theorem d_Q_raise_15 : decode b_Q_raise 15 = .ok (.putfield 192, 3) := by decide +kernel
theorem d_Q_raise_18 : decode b_Q_raise 18 = .ok (.aload_n 1, 1) := by decide +kernel
theorem d_Q_raise_19 : decode b_Q_raise 19 = .ok (.getstatic 256, 3) := by decide +kernel
theorem d_Q_raise_22 : decode b_Q_raise 22 = .ok (.if_acmp .ne 14, 3) := by decide +kernel
theorem d_Q_raise_25 : decode b_Q_raise 25 = .ok (.new 254, 3) := by decide +kernel
theorem d_Q_raise_28 : decode b_Q_raise 28 = .ok (.dup, 1) := by decide +kernel
theorem d_Q_raise_29 : decode b_Q_raise 29 = .ok (.ldc_w 262, 3) := by decide +kernel
theorem d_Q_raise_32 : decode b_Q_raise 32 = .ok (.invokespecial 264, 3) := by decide +kernel
theorem d_Q_raise_35 : decode b_Q_raise 35 = .ok (.athrow, 1) := by decide +kernel
theorem d_Q_raise_36 : decode b_Q_raise 36 = .ok (.new 246, 3) := by decide +kernel
theorem d_Q_raise_39 : decode b_Q_raise 39 = .ok (.dup, 1) := by decide +kernel
theorem d_Q_raise_40 : decode b_Q_raise 40 = .ok (.ldc_w 265, 3) := by decide +kernel
theorem d_Q_raise_43 : decode b_Q_raise 43 = .ok (.invokespecial 267, 3) := by decide +kernel
theorem d_Q_raise_46 : decode b_Q_raise 46 = .ok (.athrow, 1) := by decide +kernel
theorem d_Q_rememberAll_0 : decode b_Q_rememberAll 0 = .ok (.iconst 0, 1) := by decide +kernel
theorem d_Q_rememberAll_1 : decode b_Q_rememberAll 1 = .ok (.istore_n 1, 1) := by decide +kernel
theorem d_Q_rememberAll_2 : decode b_Q_rememberAll 2 = .ok (.iload_n 1, 1) := by decide +kernel
theorem d_Q_rememberAll_3 : decode b_Q_rememberAll 3 = .ok (.aload_n 0, 1) := by decide +kernel
theorem d_Q_rememberAll_4 : decode b_Q_rememberAll 4 = .ok (.getfield 42, 3) := by decide +kernel
theorem d_Q_rememberAll_7 : decode b_Q_rememberAll 7 = .ok (.if_icmp .ge 18, 3) := by decide +kernel
theorem d_Q_rememberAll_10 : decode b_Q_rememberAll 10 = .ok (.aload_n 0, 1) := by decide +kernel
theorem d_Q_rememberAll_11 : decode b_Q_rememberAll 11 = .ok (.getfield 11, 3) := by decide +kernel
theorem d_Q_rememberAll_14 : decode b_Q_rememberAll 14 = .ok (.iload_n 1, 1) := by decide +kernel
theorem d_Q_rememberAll_15 : decode b_Q_rememberAll 15 = .ok (.aaload, 1) := by decide +kernel
theorem d_Q_rememberAll_16 : decode b_Q_rememberAll 16 = .ok (.invokevirtual 268, 3) := by decide +kernel
theorem d_Q_rememberAll_19 : decode b_Q_rememberAll 19 = .ok (.iinc 1 1, 3) := by decide +kernel
theorem d_Q_rememberAll_22 : decode b_Q_rememberAll 22 = .ok (.goto (-20), 3) := by decide +kernel
theorem d_Q_rememberAll_25 : decode b_Q_rememberAll 25 = .ok (.return_, 1) := by decide +kernel
theorem d_Q_restoreAll_0 : decode b_Q_restoreAll 0 = .ok (.iconst 0, 1) := by decide +kernel
theorem d_Q_restoreAll_1 : decode b_Q_restoreAll 1 = .ok (.istore_n 1, 1) := by decide +kernel
theorem d_Q_restoreAll_2 : decode b_Q_restoreAll 2 = .ok (.iload_n 1, 1) := by decide +kernel
theorem d_Q_restoreAll_3 : decode b_Q_restoreAll 3 = .ok (.aload_n 0, 1) := by decide +kernel
theorem d_Q_restoreAll_4 : decode b_Q_restoreAll 4 = .ok (.getfield 42, 3) := by decide +kernel
theorem d_Q_restoreAll_7 : decode b_Q_restoreAll 7 = .ok (.if_icmp .ge 18, 3) := by decide +kernel
theorem d_Q_restoreAll_10 : decode b_Q_restoreAll 10 = .ok (.aload_n 0, 1) := by decide +kernel
theorem d_Q_restoreAll_11 : decode b_Q_restoreAll 11 = .ok (.getfield 11, 3) := by decide +kernel
theorem d_Q_restoreAll_14 : decode b_Q_restoreAll 14 = .ok (.iload_n 1, 1) := by decide +kernel
theorem d_Q_restoreAll_15 : decode b_Q_restoreAll 15 = .ok (.aaload, 1) := by decide +kernel
theorem d_Q_restoreAll_16 : decode b_Q_restoreAll 16 = .ok (.invokevirtual 271, 3) := by decide +kernel
theorem d_Q_restoreAll_19 : decode b_Q_restoreAll 19 = .ok (.iinc 1 1, 3) := by decide +kernel
theorem d_Q_restoreAll_22 : decode b_Q_restoreAll 22 = .ok (.goto (-20), 3) := by decide +kernel
theorem d_Q_restoreAll_25 : decode b_Q_restoreAll 25 = .ok (.return_, 1) := by decide +kernel
theorem d_Q_rounded_0 : decode b_Q_rounded 0 = .ok (.ldc2_w 274, 3) := by decide +kernel
theorem d_Q_rounded_3 : decode b_Q_rounded 3 = .ok (.lload_n 0, 1) := by decide +kernel
theorem d_Q_rounded_4 : decode b_Q_rounded 4 = .ok (.lmul, 1) := by decide +kernel
theorem d_Q_rounded_5 : decode b_Q_rounded 5 = .ok (.lconst 1, 1) := by decide +kernel
theorem d_Q_rounded_6 : decode b_Q_rounded 6 = .ok (.iload_n 2, 1) := by decide +kernel
theorem d_Q_rounded_7 : decode b_Q_rounded 7 = .ok (.lshl, 1) := by decide +kernel
theorem d_Q_rounded_8 : decode b_Q_rounded 8 = .ok (.ladd, 1) := by decide +kernel
theorem d_Q_rounded_9 : decode b_Q_rounded 9 = .ok (.iload_n 2, 1) := by decide +kernel
theorem d_Q_rounded_10 : decode b_Q_rounded 10 = .ok (.iconst 1, 1) := by decide +kernel
theorem d_Q_rounded_11 : decode b_Q_rounded 11 = .ok (.iadd, 1) := by decide +kernel
theorem d_Q_rounded_12 : decode b_Q_rounded 12 = .ok (.lshr, 1) := by decide +kernel
theorem d_Q_rounded_13 : decode b_Q_rounded 13 = .ok (.invokestatic 242, 3) := by decide +kernel
theorem d_Q_rounded_16 : decode b_Q_rounded 16 = .ok (.lreturn, 1) := by decide +kernel
theorem d_Q_set_0 : decode b_Q_set 0 = .ok (.aload_n 0, 1) := by decide +kernel
theorem d_Q_set_1 : decode b_Q_set 1 = .ok (.iload_n 1, 1) := by decide +kernel
theorem d_Q_set_2 : decode b_Q_set 2 = .ok (.invokevirtual 116, 3) := by decide +kernel
theorem d_Q_set_5 : decode b_Q_set 5 = .ok (.astore 4, 2) := by decide +kernel
theorem d_Q_set_7 : decode b_Q_set 7 = .ok (.ldc2_w 30, 3) := by decide +kernel
theorem d_Q_set_10 : decode b_Q_set 10 = .ok (.dload_n 2, 1) := by decide +kernel
theorem d_Q_set_11 : decode b_Q_set 11 = .ok (.ldc 32, 2) := by decide +kernel
theorem d_Q_set_13 : decode b_Q_set 13 = .ok (.invokestatic 33, 3) := by decide +kernel
theorem d_Q_set_16 : decode b_Q_set 16 = .ok (.lmul, 1) := by decide +kernel
theorem d_Q_set_17 : decode b_Q_set 17 = .ok (.lstore 5, 2) := by decide +kernel
theorem d_Q_set_19 : decode b_Q_set 19 = .ok (.aload_n 0, 1) := by decide +kernel
theorem d_Q_set_20 : decode b_Q_set 20 = .ok (.getfield 120, 3) := by decide +kernel
theorem d_Q_set_23 : decode b_Q_set 23 = .ok (.istore 7, 2) := by decide +kernel
theorem d_Q_set_25 : decode b_Q_set 25 = .ok (.lload 5, 2) := by decide +kernel
theorem d_Q_set_27 : decode b_Q_set 27 = .ok (.aload 4, 2) := by decide +kernel
theorem d_Q_set_29 : decode b_Q_set 29 = .ok (.getfield 123, 3) := by decide +kernel
theorem d_Q_set_32 : decode b_Q_set 32 = .ok (.lcmp, 1) := by decide +kernel
theorem d_Q_set_33 : decode b_Q_set 33 = .ok (.ifCond .eq 16, 3) := by decide +kernel
theorem d_Q_set_36 : decode b_Q_set 36 = .ok (.aload 4, 2) := by decide +kernel
theorem d_Q_set_38 : decode b_Q_set 38 = .ok (.lload 5, 2) := by decide +kernel
theorem d_Q_set_40 : decode b_Q_set 40 = .ok (.putfield 123, 3) := by decide +kernel
theorem d_Q_set_43 : decode b_Q_set 43 = .ok (.aload_n 0, 1) := by decide +kernel
theorem d_Q_set_44 : decode b_Q_set 44 = .ok (.aload 4, 2) := by decide +kernel
theorem d_Q_set_46 : decode b_Q_set 46 = .ok (.invokevirtual 127, 3) := by decide +kernel
theorem d_Q_set_49 : decode b_Q_set 49 = .ok (.aload_n 0, 1) := by decide +kernel
theorem d_Q_set_50 : decode b_Q_set 50 = .ok (.getfield 120, 3) := by decide +kernel
theorem d_Q_set_53 : decode b_Q_set 53 = .ok (.iload 7, 2) := by decide +kernel
theorem d_Q_set_55 : decode b_Q_set 55 = .ok (.isub, 1) := by decide +kernel
theorem d_Q_set_56 : decode b_Q_set 56 = .ok (.ireturn, 1) := by decide +kernel
theorem d_Q_tell_0 : decode b_Q_tell 0 = .ok (.aload_n 1, 1) := by decide +kernel
theorem d_Q_tell_1 : decode b_Q_tell 1 = .ok (.getfield 150, 3) := by decide +kernel
theorem d_Q_tell_4 : decode b_Q_tell 4 = .ok (.ifCond .ne 4, 3) := by decide +kernel
theorem d_Q_tell_7 : decode b_Q_tell 7 = .ok (.return_, 1) := by decide +kernel
theorem d_Q_tell_8 : decode b_Q_tell 8 = .ok (.aload_n 1, 1) := by decide +kernel
theorem d_Q_tell_9 : decode b_Q_tell 9 = .ok (.getfield 158, 3) := by decide +kernel
theorem d_Q_tell_12 : decode b_Q_tell 12 = .ok (.ifCond .eq 9, 3) := by decide +kernel
theorem d_Q_tell_15 : decode b_Q_tell 15 = .ok (.aload_n 1, 1) := by decide +kernel
theorem d_Q_tell_16 : decode b_Q_tell 16 = .ok (.iconst 1, 1) := by decide +kernel
theorem d_Q_tell_17 : decode b_Q_tell 17 = .ok (.putfield 161, 3) := by decide +kernel
theorem d_Q_tell_20 : decode b_Q_tell 20 = .ok (.return_, 1) := by decide +kernel
theorem d_Q_tell_21 : decode b_Q_tell 21 = .ok (.aload_n 1, 1) := by decide +kernel
theorem d_Q_tell_22 : decode b_Q_tell 22 = .ok (.iconst 0, 1) := by decide +kernel
theorem d_Q_tell_23 : decode b_Q_tell 23 = .ok (.putfield 150, 3) := by decide +kernel
theorem d_Q_tell_26 : decode b_Q_tell 26 = .ok (.aload_n 0, 1) := by decide +kernel
theorem d_Q_tell_27 : decode b_Q_tell 27 = .ok (.dup, 1) := by decide +kernel
theorem d_Q_tell_28 : decode b_Q_tell 28 = .ok (.getfield 120, 3) := by decide +kernel
theorem d_Q_tell_31 : decode b_Q_tell 31 = .ok (.iconst 1, 1) := by decide +kernel
theorem d_Q_tell_32 : decode b_Q_tell 32 = .ok (.iadd, 1) := by decide +kernel
theorem d_Q_tell_33 : decode b_Q_tell 33 = .ok (.putfield 120, 3) := by decide +kernel
theorem d_Q_tell_36 : decode b_Q_tell 36 = .ok (.aload_n 0, 1) := by decide +kernel
theorem d_Q_tell_37 : decode b_Q_tell 37 = .ok (.aload_n 1, 1) := by decide +kernel
theorem d_Q_tell_38 : decode b_Q_tell 38 = .ok (.invokevirtual 127, 3) := by decide +kernel
theorem d_Q_tell_41 : decode b_Q_tell 41 = .ok (.return_, 1) := by decide +kernel
theorem d_Q_tellUsersOf_0 : decode b_Q_tellUsersOf 0 = .ok (.iconst 0, 1) := by decide +kernel
theorem d_Q_tellUsersOf_1 : decode b_Q_tellUsersOf 1 = .ok (.istore_n 2, 1) := by decide +kernel
theorem d_Q_tellUsersOf_2 : decode b_Q_tellUsersOf 2 = .ok (.iload_n 2, 1) := by decide +kernel
theorem d_Q_tellUsersOf_3 : decode b_Q_tellUsersOf 3 = .ok (.aload_n 0, 1) := by decide +kernel
theorem d_Q_tellUsersOf_4 : decode b_Q_tellUsersOf 4 = .ok (.getfield 42, 3) := by decide +kernel
theorem d_Q_tellUsersOf_7 : decode b_Q_tellUsersOf 7 = .ok (.if_icmp .ge 36, 3) := by decide +kernel
theorem d_Q_tellUsersOf_10 : decode b_Q_tellUsersOf 10 = .ok (.aload_n 0, 1) := by decide +kernel
theorem d_Q_tellUsersOf_11 : decode b_Q_tellUsersOf 11 = .ok (.getfield 11, 3) := by decide +kernel
theorem d_Q_tellUsersOf_14 : decode b_Q_tellUsersOf 14 = .ok (.iload_n 2, 1) := by decide +kernel
theorem d_Q_tellUsersOf_15 : decode b_Q_tellUsersOf 15 = .ok (.aaload, 1) := by decide +kernel
theorem d_Q_tellUsersOf_16 : decode b_Q_tellUsersOf 16 = .ok (.invokevirtual 229, 3) := by decide +kernel
theorem d_Q_tellUsersOf_19 : decode b_Q_tellUsersOf 19 = .ok (.aload_n 1, 1) := by decide +kernel
theorem d_Q_tellUsersOf_20 : decode b_Q_tellUsersOf 20 = .ok (.invokevirtual 226, 3) := by decide +kernel
theorem d_Q_tellUsersOf_23 : decode b_Q_tellUsersOf 23 = .ok (.iand, 1) := by decide +kernel
theorem d_Q_tellUsersOf_24 : decode b_Q_tellUsersOf 24 = .ok (.ifCond .eq 13, 3) := by decide +kernel
theorem d_Q_tellUsersOf_27 : decode b_Q_tellUsersOf 27 = .ok (.aload_n 0, 1) := by decide +kernel
theorem d_Q_tellUsersOf_28 : decode b_Q_tellUsersOf 28 = .ok (.aload_n 0, 1) := by decide +kernel
theorem d_Q_tellUsersOf_29 : decode b_Q_tellUsersOf 29 = .ok (.getfield 11, 3) := by decide +kernel
theorem d_Q_tellUsersOf_32 : decode b_Q_tellUsersOf 32 = .ok (.iload_n 2, 1) := by decide +kernel
theorem d_Q_tellUsersOf_33 : decode b_Q_tellUsersOf 33 = .ok (.aaload, 1) := by decide +kernel
theorem d_Q_tellUsersOf_34 : decode b_Q_tellUsersOf 34 = .ok (.invokevirtual 103, 3) := by decide +kernel
theorem d_Q_tellUsersOf_37 : decode b_Q_tellUsersOf 37 = .ok (.iinc 2 1, 3) := by decide +kernel
theorem d_Q_tellUsersOf_40 : decode b_Q_tellUsersOf 40 = .ok (.goto (-38), 3) := by decide +kernel
theorem d_Q_tellUsersOf_43 : decode b_Q_tellUsersOf 43 = .ok (.return_, 1) := by decide +kernel
theorem d_Q_terms_0 : decode b_Q_terms 0 = .ok (.aload_n 0, 1) := by decide +kernel
theorem d_Q_terms_1 : decode b_Q_terms 1 = .ok (.iload_n 1, 1) := by decide +kernel
theorem d_Q_terms_2 : decode b_Q_terms 2 = .ok (.invokevirtual 80, 3) := by decide +kernel
theorem d_Q_terms_5 : decode b_Q_terms 5 = .ok (.astore 6, 2) := by decide +kernel
theorem d_Q_terms_7 : decode b_Q_terms 7 = .ok (.aload_n 0, 1) := by decide +kernel
theorem d_Q_terms_8 : decode b_Q_terms 8 = .ok (.iload_n 2, 1) := by decide +kernel
theorem d_Q_terms_9 : decode b_Q_terms 9 = .ok (.aload 6, 2) := by decide +kernel
theorem d_Q_terms_11 : decode b_Q_terms 11 = .ok (.invokevirtual 84, 3) := by decide +kernel
theorem d_Q_terms_14 : decode b_Q_terms 14 = .ok (.astore 7, 2) := by decide +kernel
theorem d_Q_terms_16 : decode b_Q_terms 16 = .ok (.aload_n 0, 1) := by decide +kernel
theorem d_Q_terms_17 : decode b_Q_terms 17 = .ok (.iload 5, 2) := by decide +kernel
theorem d_Q_terms_19 : decode b_Q_terms 19 = .ok (.aload 6, 2) := by decide +kernel
theorem d_Q_terms_21 : decode b_Q_terms 21 = .ok (.invokevirtual 84, 3) := by decide +kernel
theorem d_Q_terms_24 : decode b_Q_terms 24 = .ok (.astore 8, 2) := by decide +kernel
theorem d_Q_terms_26 : decode b_Q_terms 26 = .ok (.iload_n 3, 1) := by decide +kernel
theorem d_Q_terms_27 : decode b_Q_terms 27 = .ok (.iconst 1, 1) := by decide +kernel
theorem d_Q_terms_28 : decode b_Q_terms 28 = .ok (.bipush 15, 2) := by decide +kernel
theorem d_Q_terms_30 : decode b_Q_terms 30 = .ok (.invokestatic 67, 3) := by decide +kernel
theorem d_Q_terms_33 : decode b_Q_terms 33 = .ok (.aload 6, 2) := by decide +kernel
theorem d_Q_terms_35 : decode b_Q_terms 35 = .ok (.invokestatic 88, 3) := by decide +kernel
theorem d_Q_terms_38 : decode b_Q_terms 38 = .ok (.aload 6, 2) := by decide +kernel
theorem d_Q_terms_40 : decode b_Q_terms 40 = .ok (.aload 7, 2) := by decide +kernel
theorem d_Q_terms_42 : decode b_Q_terms 42 = .ok (.aload 8, 2) := by decide +kernel
theorem d_Q_terms_44 : decode b_Q_terms 44 = .ok (.invokevirtual 92, 3) := by decide +kernel
theorem d_Q_terms_47 : decode b_Q_terms 47 = .ok (.aload 6, 2) := by decide +kernel
theorem d_Q_terms_49 : decode b_Q_terms 49 = .ok (.iload_n 3, 1) := by decide +kernel
theorem d_Q_terms_50 : decode b_Q_terms 50 = .ok (.putfield 96, 3) := by decide +kernel
theorem d_Q_terms_53 : decode b_Q_terms 53 = .ok (.aload 6, 2) := by decide +kernel
theorem d_Q_terms_55 : decode b_Q_terms 55 = .ok (.iload 4, 2) := by decide +kernel
theorem d_Q_terms_57 : decode b_Q_terms 57 = .ok (.putfield 99, 3) := by decide +kernel
theorem d_Q_terms_60 : decode b_Q_terms 60 = .ok (.aload_n 0, 1) := by decide +kernel
theorem d_Q_terms_61 : decode b_Q_terms 61 = .ok (.aload 6, 2) := by decide +kernel
theorem d_Q_terms_63 : decode b_Q_terms 63 = .ok (.invokevirtual 103, 3) := by decide +kernel
theorem d_Q_terms_66 : decode b_Q_terms 66 = .ok (.return_, 1) := by decide +kernel
theorem d_Q_tryToAsk_0 : decode b_Q_tryToAsk 0 = .ok (.aload_n 0, 1) := by decide +kernel
theorem d_Q_tryToAsk_1 : decode b_Q_tryToAsk 1 = .ok (.aload_n 1, 1) := by decide +kernel
theorem d_Q_tryToAsk_2 : decode b_Q_tryToAsk 2 = .ok (.invokevirtual 235, 3) := by decide +kernel
theorem d_Q_tryToAsk_5 : decode b_Q_tryToAsk 5 = .ok (.goto 13, 3) := by decide +kernel
theorem d_Q_tryToAsk_8 : decode b_Q_tryToAsk 8 = .ok (.astore_n 2, 1) := by decide +kernel
theorem d_Q_tryToAsk_9 : decode b_Q_tryToAsk 9 = .ok (.getstatic 248, 3) := by decide +kernel
theorem d_Q_tryToAsk_12 : decode b_Q_tryToAsk 12 = .ok (.areturn, 1) := by decide +kernel
theorem d_Q_tryToAsk_13 : decode b_Q_tryToAsk 13 = .ok (.astore_n 2, 1) := by decide +kernel
theorem d_Q_tryToAsk_14 : decode b_Q_tryToAsk 14 = .ok (.getstatic 256, 3) := by decide +kernel
theorem d_Q_tryToAsk_17 : decode b_Q_tryToAsk 17 = .ok (.areturn, 1) := by decide +kernel
theorem d_Q_tryToAsk_18 : decode b_Q_tryToAsk 18 = .ok (.getstatic 259, 3) := by decide +kernel
theorem d_Q_tryToAsk_21 : decode b_Q_tryToAsk 21 = .ok (.areturn, 1) := by decide +kernel
theorem d_Q_uses_0 : decode b_Q_uses 0 = .ok (.aload_n 0, 1) := by decide +kernel
theorem d_Q_uses_1 : decode b_Q_uses 1 = .ok (.aload_n 0, 1) := by decide +kernel
theorem d_Q_uses_2 : decode b_Q_uses 2 = .ok (.iload_n 1, 1) := by decide +kernel
theorem d_Q_uses_3 : decode b_Q_uses 3 = .ok (.invokevirtual 53, 3) := by decide +kernel
theorem d_Q_uses_6 : decode b_Q_uses 6 = .ok (.aload_n 0, 1) := by decide +kernel
theorem d_Q_uses_7 : decode b_Q_uses 7 = .ok (.iload_n 2, 1) := by decide +kernel
theorem d_Q_uses_8 : decode b_Q_uses 8 = .ok (.invokevirtual 53, 3) := by decide +kernel
theorem d_Q_uses_11 : decode b_Q_uses 11 = .ok (.invokevirtual 173, 3) := by decide +kernel
theorem d_Q_uses_14 : decode b_Q_uses 14 = .ok (.ireturn, 1) := by decide +kernel
theorem d_Q_value_0 : decode b_Q_value 0 = .ok (.aload_n 0, 1) := by decide +kernel
theorem d_Q_value_1 : decode b_Q_value 1 = .ok (.iload_n 1, 1) := by decide +kernel
theorem d_Q_value_2 : decode b_Q_value 2 = .ok (.invokevirtual 53, 3) := by decide +kernel
theorem d_Q_value_5 : decode b_Q_value 5 = .ok (.astore_n 2, 1) := by decide +kernel
theorem d_Q_value_6 : decode b_Q_value 6 = .ok (.aload_n 0, 1) := by decide +kernel
theorem d_Q_value_7 : decode b_Q_value 7 = .ok (.aload_n 0, 1) := by decide +kernel
theorem d_Q_value_8 : decode b_Q_value 8 = .ok (.aload_n 2, 1) := by decide +kernel
theorem d_Q_value_9 : decode b_Q_value 9 = .ok (.invokevirtual 130, 3) := by decide +kernel
theorem d_Q_value_12 : decode b_Q_value 12 = .ok (.invokevirtual 134, 3) := by decide +kernel
theorem d_Q_value_15 : decode b_Q_value 15 = .ok (.aload_n 2, 1) := by decide +kernel
theorem d_Q_value_16 : decode b_Q_value 16 = .ok (.getfield 138, 3) := by decide +kernel
theorem d_Q_value_19 : decode b_Q_value 19 = .ok (.invokestatic 139, 3) := by decide +kernel
theorem d_Q_value_22 : decode b_Q_value 22 = .ok (.dreturn, 1) := by decide +kernel
theorem d_Qt_init_0 : decode b_Qt_init 0 = .ok (.aload_n 0, 1) := by decide +kernel
theorem d_Qt_init_1 : decode b_Qt_init 1 = .ok (.iload_n 1, 1) := by decide +kernel
theorem d_Qt_init_2 : decode b_Qt_init 2 = .ok (.iconst 0, 1) := by decide +kernel
theorem d_Qt_init_3 : decode b_Qt_init 3 = .ok (.anewarray 3, 3) := by decide +kernel
theorem d_Qt_init_6 : decode b_Qt_init 6 = .ok (.iconst 0, 1) := by decide +kernel
theorem d_Qt_init_7 : decode b_Qt_init 7 = .ok (.invokespecial 5, 3) := by decide +kernel
theorem d_Qt_init_10 : decode b_Qt_init 10 = .ok (.aload_n 0, 1) := by decide +kernel
theorem d_Qt_init_11 : decode b_Qt_init 11 = .ok (.lload_n 2, 1) := by decide +kernel
theorem d_Qt_init_12 : decode b_Qt_init 12 = .ok (.putfield 9, 3) := by decide +kernel
theorem d_Qt_init_15 : decode b_Qt_init 15 = .ok (.aload_n 0, 1) := by decide +kernel
theorem d_Qt_init_16 : decode b_Qt_init 16 = .ok (.iconst 1, 1) := by decide +kernel
theorem d_Qt_init_17 : decode b_Qt_init 17 = .ok (.putfield 15, 3) := by decide +kernel
theorem d_Qt_init_20 : decode b_Qt_init 20 = .ok (.return_, 1) := by decide +kernel
theorem d_Qt_sort_0 : decode b_Qt_sort 0 = .ok (.iconst 0, 1) := by decide +kernel
theorem d_Qt_sort_1 : decode b_Qt_sort 1 = .ok (.ireturn, 1) := by decide +kernel
theorem d_Qt_workOut_0 : decode b_Qt_workOut 0 = .ok (.aload_n 0, 1) := by decide +kernel
theorem d_Qt_workOut_1 : decode b_Qt_workOut 1 = .ok (.getfield 9, 3) := by decide +kernel
theorem d_Qt_workOut_4 : decode b_Qt_workOut 4 = .ok (.lreturn, 1) := by decide +kernel
