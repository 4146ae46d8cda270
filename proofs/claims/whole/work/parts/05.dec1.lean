theorem d_M_ask_168 : decode b_M_ask 168 = .ok (.getfield 203, 3) := by decide +kernel
theorem d_M_ask_171 : decode b_M_ask 171 = .ok (.iconst 1, 1) := by decide +kernel
theorem d_M_ask_172 : decode b_M_ask 172 = .ok (.iadd, 1) := by decide +kernel
theorem d_M_ask_173 : decode b_M_ask 173 = .ok (.putfield 203, 3) := by decide +kernel
theorem d_M_ask_176 : decode b_M_ask 176 = .ok (.goto (-155), 3) := by decide +kernel
theorem d_M_ask_179 : decode b_M_ask 179 = .ok (.iconst 1, 1) := by decide +kernel
theorem d_M_ask_180 : decode b_M_ask 180 = .ok (.ireturn, 1) := by decide +kernel
theorem d_M_badPart_0 : decode b_M_badPart 0 = .ok (.iload_n 2, 1) := by decide +kernel
theorem d_M_badPart_1 : decode b_M_badPart 1 = .ok (.iconst (-1), 1) := by decide +kernel
theorem d_M_badPart_2 : decode b_M_badPart 2 = .ok (.if_icmp .eq 29, 3) := by decide +kernel
theorem d_M_badPart_5 : decode b_M_badPart 5 = .ok (.aload_n 0, 1) := by decide +kernel
theorem d_M_badPart_6 : decode b_M_badPart 6 = .ok (.iload_n 2, 1) := by decide +kernel
theorem d_M_badPart_7 : decode b_M_badPart 7 = .ok (.invokevirtual 96, 3) := by decide +kernel
theorem d_M_badPart_10 : decode b_M_badPart 10 = .ok (.ifCond .ne 17, 3) := by decide +kernel
theorem d_M_badPart_13 : decode b_M_badPart 13 = .ok (.iload_n 2, 1) := by decide +kernel
theorem d_M_badPart_14 : decode b_M_badPart 14 = .ok (.iload_n 1, 1) := by decide +kernel
theorem d_M_badPart_15 : decode b_M_badPart 15 = .ok (.if_icmp .eq 12, 3) := by decide +kernel
theorem d_M_badPart_18 : decode b_M_badPart 18 = .ok (.aload_n 0, 1) := by decide +kernel
theorem d_M_badPart_19 : decode b_M_badPart 19 = .ok (.iload_n 2, 1) := by decide +kernel
theorem d_M_badPart_20 : decode b_M_badPart 20 = .ok (.iload_n 1, 1) := by decide +kernel
theorem d_M_badPart_21 : decode b_M_badPart 21 = .ok (.invokevirtual 102, 3) := by decide +kernel
theorem d_M_badPart_24 : decode b_M_badPart 24 = .ok (.ifCond .eq 7, 3) := by decide +kernel
theorem d_M_badPart_27 : decode b_M_badPart 27 = .ok (.iconst 1, 1) := by decide +kernel
theorem d_M_badPart_28 : decode b_M_badPart 28 = .ok (.goto 4, 3) := by decide +kernel
theorem d_M_badPart_31 : decode b_M_badPart 31 = .ok (.iconst 0, 1) := by decide +kernel
theorem d_M_badPart_32 : decode b_M_badPart 32 = .ok (.ireturn, 1) := by decide +kernel
theorem d_M_blend_0 : decode b_M_blend 0 = .ok (.aload_n 0, 1) := by decide +kernel
theorem d_M_blend_1 : decode b_M_blend 1 = .ok (.aload_n 0, 1) := by decide +kernel
theorem d_M_blend_2 : decode b_M_blend 2 = .ok (.iload_n 1, 1) := by decide +kernel
theorem d_M_blend_3 : decode b_M_blend 3 = .ok (.invokevirtual 96, 3) := by decide +kernel
theorem d_M_blend_6 : decode b_M_blend 6 = .ok (.ifCond .ne 34, 3) := by decide +kernel
theorem d_M_blend_9 : decode b_M_blend 9 = .ok (.aload_n 0, 1) := by decide +kernel
theorem d_M_blend_10 : decode b_M_blend 10 = .ok (.iload_n 2, 1) := by decide +kernel
theorem d_M_blend_11 : decode b_M_blend 11 = .ok (.invokevirtual 96, 3) := by decide +kernel
theorem d_M_blend_14 : decode b_M_blend 14 = .ok (.ifCond .ne 26, 3) := by decide +kernel
theorem d_M_blend_17 : decode b_M_blend 17 = .ok (.aload_n 0, 1) := by decide +kernel
theorem d_M_blend_18 : decode b_M_blend 18 = .ok (.dload_n 3, 1) := by decide +kernel
theorem d_M_blend_19 : decode b_M_blend 19 = .ok (.ldc2_w 100, 3) := by decide +kernel
theorem d_M_blend_22 : decode b_M_blend 22 = .ok (.invokevirtual 86, 3) := by decide +kernel
theorem d_M_blend_25 : decode b_M_blend 25 = .ok (.ifCond .ne 15, 3) := by decide +kernel
theorem d_M_blend_28 : decode b_M_blend 28 = .ok (.aload_n 0, 1) := by decide +kernel
theorem d_M_blend_29 : decode b_M_blend 29 = .ok (.dload 5, 2) := by decide +kernel
theorem d_M_blend_31 : decode b_M_blend 31 = .ok (.ldc2_w 100, 3) := by decide +kernel
theorem d_M_blend_34 : decode b_M_blend 34 = .ok (.invokevirtual 86, 3) := by decide +kernel
theorem d_M_blend_37 : decode b_M_blend 37 = .ok (.ifCond .eq 7, 3) := by decide +kernel
theorem d_M_blend_40 : decode b_M_blend 40 = .ok (.iconst 1, 1) := by decide +kernel
theorem d_M_blend_41 : decode b_M_blend 41 = .ok (.goto 17, 3) := by decide +kernel
theorem d_M_blend_44 : decode b_M_blend 44 = .ok (.aload_n 0, 1) := by decide +kernel
theorem d_M_blend_45 : decode b_M_blend 45 = .ok (.getfield 79, 3) := by decide +kernel
theorem d_M_blend_48 : decode b_M_blend 48 = .ok (.bipush 16, 2) := by decide +kernel
theorem d_M_blend_50 : decode b_M_blend 50 = .ok (.if_icmp .ne 7, 3) := by decide +kernel
theorem d_M_blend_53 : decode b_M_blend 53 = .ok (.iconst 2, 1) := by decide +kernel
theorem d_M_blend_54 : decode b_M_blend 54 = .ok (.goto 4, 3) := by decide +kernel
theorem d_M_blend_57 : decode b_M_blend 57 = .ok (.iconst 0, 1) := by decide +kernel
theorem d_M_blend_58 : decode b_M_blend 58 = .ok (.putfield 75, 3) := by decide +kernel
theorem d_M_blend_61 : decode b_M_blend 61 = .ok (.aload_n 0, 1) := by decide +kernel
theorem d_M_blend_62 : decode b_M_blend 62 = .ok (.getfield 75, 3) := by decide +kernel
theorem d_M_blend_65 : decode b_M_blend 65 = .ok (.ifCond .eq 5, 3) := by decide +kernel
theorem d_M_blend_68 : decode b_M_blend 68 = .ok (.iconst 0, 1) := by decide +kernel
theorem d_M_blend_69 : decode b_M_blend 69 = .ok (.ireturn, 1) := by decide +kernel
theorem d_M_blend_70 : decode b_M_blend 70 = .ok (.aload_n 0, 1) := by decide +kernel
theorem d_M_blend_71 : decode b_M_blend 71 = .ok (.iconst 1, 1) := by decide +kernel
theorem d_M_blend_72 : decode b_M_blend 72 = .ok (.iload_n 1, 1) := by decide +kernel
theorem d_M_blend_73 : decode b_M_blend 73 = .ok (.iload_n 2, 1) := by decide +kernel
theorem d_M_blend_74 : decode b_M_blend 74 = .ok (.invokevirtual 90, 3) := by decide +kernel
theorem d_M_blend_77 : decode b_M_blend 77 = .ok (.istore 7, 2) := by decide +kernel
theorem d_M_blend_79 : decode b_M_blend 79 = .ok (.aload_n 0, 1) := by decide +kernel
theorem d_M_blend_80 : decode b_M_blend 80 = .ok (.getfield 33, 3) := by decide +kernel
theorem d_M_blend_83 : decode b_M_blend 83 = .ok (.iload 7, 2) := by decide +kernel
theorem d_M_blend_85 : decode b_M_blend 85 = .ok (.dload_n 3, 1) := by decide +kernel
theorem d_M_blend_86 : decode b_M_blend 86 = .ok (.ldc2_w 82, 3) := by decide +kernel
theorem d_M_blend_89 : decode b_M_blend 89 = .ok (.dmul, 1) := by decide +kernel
theorem d_M_blend_90 : decode b_M_blend 90 = .ok (.d2l, 1) := by decide +kernel
theorem d_M_blend_91 : decode b_M_blend 91 = .ok (.lastore, 1) := by decide +kernel
theorem d_M_blend_92 : decode b_M_blend 92 = .ok (.aload_n 0, 1) := by decide +kernel
theorem d_M_blend_93 : decode b_M_blend 93 = .ok (.getfield 36, 3) := by decide +kernel
theorem d_M_blend_96 : decode b_M_blend 96 = .ok (.iload 7, 2) := by decide +kernel
theorem d_M_blend_98 : decode b_M_blend 98 = .ok (.dload 5, 2) := by decide +kernel
theorem d_M_blend_100 : decode b_M_blend 100 = .ok (.ldc2_w 82, 3) := by decide +kernel
theorem d_M_blend_103 : decode b_M_blend 103 = .ok (.dmul, 1) := by decide +kernel
theorem d_M_blend_104 : decode b_M_blend 104 = .ok (.d2l, 1) := by decide +kernel
theorem d_M_blend_105 : decode b_M_blend 105 = .ok (.lastore, 1) := by decide +kernel
theorem d_M_blend_106 : decode b_M_blend 106 = .ok (.iload 7, 2) := by decide +kernel
theorem d_M_blend_108 : decode b_M_blend 108 = .ok (.ireturn, 1) := by decide +kernel
theorem d_M_bounded_0 : decode b_M_bounded 0 = .ok (.lload_n 1, 1) := by decide +kernel
theorem d_M_bounded_1 : decode b_M_bounded 1 = .ok (.ldc2_w 123, 3) := by decide +kernel
theorem d_M_bounded_4 : decode b_M_bounded 4 = .ok (.lcmp, 1) := by decide +kernel
theorem d_M_bounded_5 : decode b_M_bounded 5 = .ok (.ifCond .gt 11, 3) := by decide +kernel
theorem d_M_bounded_8 : decode b_M_bounded 8 = .ok (.lload_n 1, 1) := by decide +kernel
theorem d_M_bounded_9 : decode b_M_bounded 9 = .ok (.ldc2_w 125, 3) := by decide +kernel
theorem d_M_bounded_12 : decode b_M_bounded 12 = .ok (.lcmp, 1) := by decide +kernel
theorem d_M_bounded_13 : decode b_M_bounded 13 = .ok (.ifCond .ge 8, 3) := by decide +kernel
theorem d_M_bounded_16 : decode b_M_bounded 16 = .ok (.aload_n 0, 1) := by decide +kernel
theorem d_M_bounded_17 : decode b_M_bounded 17 = .ok (.iconst 2, 1) := by decide +kernel
theorem d_M_bounded_18 : decode b_M_bounded 18 = .ok (.putfield 127, 3) := by decide +kernel
theorem d_M_bounded_21 : decode b_M_bounded 21 = .ok (.lload_n 1, 1) := by decide +kernel
theorem d_M_bounded_22 : decode b_M_bounded 22 = .ok (.lreturn, 1) := by decide +kernel
theorem d_M_bump_0 : decode b_M_bump 0 = .ok (.aload_n 0, 1) := by decide +kernel
theorem d_M_bump_1 : decode b_M_bump 1 = .ok (.aload_n 0, 1) := by decide +kernel
theorem d_M_bump_2 : decode b_M_bump 2 = .ok (.iload_n 1, 1) := by decide +kernel
theorem d_M_bump_3 : decode b_M_bump 3 = .ok (.invokevirtual 96, 3) := by decide +kernel
theorem d_M_bump_6 : decode b_M_bump 6 = .ok (.ifCond .ne 31, 3) := by decide +kernel
theorem d_M_bump_9 : decode b_M_bump 9 = .ok (.aload_n 0, 1) := by decide +kernel
theorem d_M_bump_10 : decode b_M_bump 10 = .ok (.iload_n 2, 1) := by decide +kernel
theorem d_M_bump_11 : decode b_M_bump 11 = .ok (.invokevirtual 96, 3) := by decide +kernel
theorem d_M_bump_14 : decode b_M_bump 14 = .ok (.ifCond .ne 23, 3) := by decide +kernel
theorem d_M_bump_17 : decode b_M_bump 17 = .ok (.aload_n 0, 1) := by decide +kernel
theorem d_M_bump_18 : decode b_M_bump 18 = .ok (.getfield 7, 3) := by decide +kernel
theorem d_M_bump_21 : decode b_M_bump 21 = .ok (.iload_n 2, 1) := by decide +kernel
theorem d_M_bump_22 : decode b_M_bump 22 = .ok (.iaload, 1) := by decide +kernel
theorem d_M_bump_23 : decode b_M_bump 23 = .ok (.ifCond .ne 14, 3) := by decide +kernel
theorem d_M_bump_26 : decode b_M_bump 26 = .ok (.aload_n 0, 1) := by decide +kernel
theorem d_M_bump_27 : decode b_M_bump 27 = .ok (.dload_n 3, 1) := by decide +kernel
theorem d_M_bump_28 : decode b_M_bump 28 = .ok (.ldc2_w 212, 3) := by decide +kernel
theorem d_M_bump_31 : decode b_M_bump 31 = .ok (.invokevirtual 86, 3) := by decide +kernel
theorem d_M_bump_34 : decode b_M_bump 34 = .ok (.ifCond .eq 7, 3) := by decide +kernel
theorem d_M_bump_37 : decode b_M_bump 37 = .ok (.iconst 1, 1) := by decide +kernel
theorem d_M_bump_38 : decode b_M_bump 38 = .ok (.goto 4, 3) := by decide +kernel
theorem d_M_bump_41 : decode b_M_bump 41 = .ok (.iconst 0, 1) := by decide +kernel
theorem d_M_bump_42 : decode b_M_bump 42 = .ok (.putfield 75, 3) := by decide +kernel
theorem d_M_bump_45 : decode b_M_bump 45 = .ok (.aload_n 0, 1) := by decide +kernel
theorem d_M_bump_46 : decode b_M_bump 46 = .ok (.getfield 75, 3) := by decide +kernel
theorem d_M_bump_49 : decode b_M_bump 49 = .ok (.ifCond .eq 5, 3) := by decide +kernel
theorem d_M_bump_52 : decode b_M_bump 52 = .ok (.dconst 0, 1) := by decide +kernel
theorem d_M_bump_53 : decode b_M_bump 53 = .ok (.dreturn, 1) := by decide +kernel
theorem d_M_bump_54 : decode b_M_bump 54 = .ok (.aload_n 0, 1) := by decide +kernel
theorem d_M_bump_55 : decode b_M_bump 55 = .ok (.iload_n 1, 1) := by decide +kernel
theorem d_M_bump_56 : decode b_M_bump 56 = .ok (.invokevirtual 206, 3) := by decide +kernel
theorem d_M_bump_59 : decode b_M_bump 59 = .ok (.istore 5, 2) := by decide +kernel
theorem d_M_bump_61 : decode b_M_bump 61 = .ok (.aload_n 0, 1) := by decide +kernel
theorem d_M_bump_62 : decode b_M_bump 62 = .ok (.getfield 16, 3) := by decide +kernel
theorem d_M_bump_65 : decode b_M_bump 65 = .ok (.iload_n 1, 1) := by decide +kernel
theorem d_M_bump_66 : decode b_M_bump 66 = .ok (.laload, 1) := by decide +kernel
theorem d_M_bump_67 : decode b_M_bump 67 = .ok (.lstore 6, 2) := by decide +kernel
theorem d_M_bump_69 : decode b_M_bump 69 = .ok (.lconst 0, 1) := by decide +kernel
theorem d_M_bump_70 : decode b_M_bump 70 = .ok (.lstore 8, 2) := by decide +kernel
theorem d_M_bump_72 : decode b_M_bump 72 = .ok (.iload 5, 2) := by decide +kernel
theorem d_M_bump_74 : decode b_M_bump 74 = .ok (.ifCond .eq 181, 3) := by decide +kernel
theorem d_M_bump_77 : decode b_M_bump 77 = .ok (.iconst 0, 1) := by decide +kernel
theorem d_M_bump_78 : decode b_M_bump 78 = .ok (.istore 10, 2) := by decide +kernel
theorem d_M_bump_80 : decode b_M_bump 80 = .ok (.iload 10, 2) := by decide +kernel
theorem d_M_bump_82 : decode b_M_bump 82 = .ok (.aload_n 0, 1) := by decide +kernel
theorem d_M_bump_83 : decode b_M_bump 83 = .ok (.getfield 79, 3) := by decide +kernel
theorem d_M_bump_86 : decode b_M_bump 86 = .ok (.if_icmp .ge 37, 3) := by decide +kernel
theorem d_M_bump_89 : decode b_M_bump 89 = .ok (.aload_n 0, 1) := by decide +kernel
theorem d_M_bump_90 : decode b_M_bump 90 = .ok (.getfield 63, 3) := by decide +kernel
theorem d_M_bump_93 : decode b_M_bump 93 = .ok (.iload 10, 2) := by decide +kernel
theorem d_M_bump_95 : decode b_M_bump 95 = .ok (.aload_n 0, 1) := by decide +kernel
theorem d_M_bump_96 : decode b_M_bump 96 = .ok (.getfield 16, 3) := by decide +kernel
theorem d_M_bump_99 : decode b_M_bump 99 = .ok (.iload 10, 2) := by decide +kernel
theorem d_M_bump_101 : decode b_M_bump 101 = .ok (.laload, 1) := by decide +kernel
theorem d_M_bump_102 : decode b_M_bump 102 = .ok (.lastore, 1) := by decide +kernel
theorem d_M_bump_103 : decode b_M_bump 103 = .ok (.aload_n 0, 1) := by decide +kernel
theorem d_M_bump_104 : decode b_M_bump 104 = .ok (.getfield 66, 3) := by decide +kernel
theorem d_M_bump_107 : decode b_M_bump 107 = .ok (.iload 10, 2) := by decide +kernel
theorem d_M_bump_109 : decode b_M_bump 109 = .ok (.aload_n 0, 1) := by decide +kernel
theorem d_M_bump_110 : decode b_M_bump 110 = .ok (.getfield 20, 3) := by decide +kernel
theorem d_M_bump_113 : decode b_M_bump 113 = .ok (.iload 10, 2) := by decide +kernel
theorem d_M_bump_115 : decode b_M_bump 115 = .ok (.baload, 1) := by decide +kernel
theorem d_M_bump_116 : decode b_M_bump 116 = .ok (.bastore, 1) := by decide +kernel
theorem d_M_bump_117 : decode b_M_bump 117 = .ok (.iinc 10 1, 3) := by decide +kernel
theorem d_M_bump_120 : decode b_M_bump 120 = .ok (.goto (-40), 3) := by decide +kernel
theorem d_M_bump_123 : decode b_M_bump 123 = .ok (.aload_n 0, 1) := by decide +kernel
theorem d_M_bump_124 : decode b_M_bump 124 = .ok (.getfield 16, 3) := by decide +kernel
theorem d_M_bump_127 : decode b_M_bump 127 = .ok (.iload_n 2, 1) := by decide +kernel
theorem d_M_bump_128 : decode b_M_bump 128 = .ok (.dup2, 1) := by decide +kernel
theorem d_M_bump_129 : decode b_M_bump 129 = .ok (.laload, 1) := by decide +kernel
theorem d_M_bump_130 : decode b_M_bump 130 = .ok (.dload_n 3, 1) := by decide +kernel
theorem d_M_bump_131 : decode b_M_bump 131 = .ok (.ldc2_w 94, 3) := by decide +kernel
theorem d_M_bump_134 : decode b_M_bump 134 = .ok (.dmul, 1) := by decide +kernel
theorem d_M_bump_135 : decode b_M_bump 135 = .ok (.d2l, 1) := by decide +kernel
theorem d_M_bump_136 : decode b_M_bump 136 = .ok (.ladd, 1) := by decide +kernel
theorem d_M_bump_137 : decode b_M_bump 137 = .ok (.lastore, 1) := by decide +kernel
theorem d_M_bump_138 : decode b_M_bump 138 = .ok (.iconst 0, 1) := by decide +kernel
theorem d_M_bump_139 : decode b_M_bump 139 = .ok (.istore 10, 2) := by decide +kernel
theorem d_M_bump_141 : decode b_M_bump 141 = .ok (.iload 10, 2) := by decide +kernel
theorem d_M_bump_143 : decode b_M_bump 143 = .ok (.aload_n 0, 1) := by decide +kernel
theorem d_M_bump_144 : decode b_M_bump 144 = .ok (.getfield 79, 3) := by decide +kernel
theorem d_M_bump_147 : decode b_M_bump 147 = .ok (.if_icmp .ge 47, 3) := by decide +kernel
theorem d_M_bump_150 : decode b_M_bump 150 = .ok (.aload_n 0, 1) := by decide +kernel
theorem d_M_bump_151 : decode b_M_bump 151 = .ok (.getfield 7, 3) := by decide +kernel
theorem d_M_bump_154 : decode b_M_bump 154 = .ok (.iload 10, 2) := by decide +kernel
theorem d_M_bump_156 : decode b_M_bump 156 = .ok (.iaload, 1) := by decide +kernel
theorem d_M_bump_157 : decode b_M_bump 157 = .ok (.ifCond .le 31, 3) := by decide +kernel
theorem d_M_bump_160 : decode b_M_bump 160 = .ok (.aload_n 0, 1) := by decide +kernel
theorem d_M_bump_161 : decode b_M_bump 161 = .ok (.getfield 24, 3) := by decide +kernel
theorem d_M_bump_164 : decode b_M_bump 164 = .ok (.iload 10, 2) := by decide +kernel
theorem d_M_bump_166 : decode b_M_bump 166 = .ok (.baload, 1) := by decide +kernel
theorem d_M_bump_167 : decode b_M_bump 167 = .ok (.ifCond .ne 21, 3) := by decide +kernel
theorem d_M_bump_170 : decode b_M_bump 170 = .ok (.aload_n 0, 1) := by decide +kernel
theorem d_M_bump_171 : decode b_M_bump 171 = .ok (.iload 10, 2) := by decide +kernel
theorem d_M_bump_173 : decode b_M_bump 173 = .ok (.iload_n 2, 1) := by decide +kernel
theorem d_M_bump_174 : decode b_M_bump 174 = .ok (.invokevirtual 102, 3) := by decide +kernel
theorem d_M_bump_177 : decode b_M_bump 177 = .ok (.ifCond .eq 11, 3) := by decide +kernel
theorem d_M_bump_180 : decode b_M_bump 180 = .ok (.aload_n 0, 1) := by decide +kernel
theorem d_M_bump_181 : decode b_M_bump 181 = .ok (.getfield 20, 3) := by decide +kernel
theorem d_M_bump_184 : decode b_M_bump 184 = .ok (.iload 10, 2) := by decide +kernel
theorem d_M_bump_186 : decode b_M_bump 186 = .ok (.iconst 0, 1) := by decide +kernel
theorem d_M_bump_187 : decode b_M_bump 187 = .ok (.bastore, 1) := by decide +kernel
theorem d_M_bump_188 : decode b_M_bump 188 = .ok (.iinc 10 1, 3) := by decide +kernel
theorem d_M_bump_191 : decode b_M_bump 191 = .ok (.goto (-50), 3) := by decide +kernel
theorem d_M_bump_194 : decode b_M_bump 194 = .ok (.aload_n 0, 1) := by decide +kernel
theorem d_M_bump_195 : decode b_M_bump 195 = .ok (.iload_n 1, 1) := by decide +kernel
theorem d_M_bump_196 : decode b_M_bump 196 = .ok (.invokevirtual 206, 3) := by decide +kernel
theorem d_M_bump_199 : decode b_M_bump 199 = .ok (.istore 5, 2) := by decide +kernel
theorem d_M_bump_201 : decode b_M_bump 201 = .ok (.aload_n 0, 1) := by decide +kernel
theorem d_M_bump_202 : decode b_M_bump 202 = .ok (.getfield 16, 3) := by decide +kernel
theorem d_M_bump_205 : decode b_M_bump 205 = .ok (.iload_n 1, 1) := by decide +kernel
theorem d_M_bump_206 : decode b_M_bump 206 = .ok (.laload, 1) := by decide +kernel
theorem d_M_bump_207 : decode b_M_bump 207 = .ok (.lstore 8, 2) := by decide +kernel
theorem d_M_bump_209 : decode b_M_bump 209 = .ok (.iconst 0, 1) := by decide +kernel
theorem d_M_bump_210 : decode b_M_bump 210 = .ok (.istore 10, 2) := by decide +kernel
theorem d_M_bump_212 : decode b_M_bump 212 = .ok (.iload 10, 2) := by decide +kernel
theorem d_M_bump_214 : decode b_M_bump 214 = .ok (.aload_n 0, 1) := by decide +kernel
theorem d_M_bump_215 : decode b_M_bump 215 = .ok (.getfield 79, 3) := by decide +kernel
theorem d_M_bump_218 : decode b_M_bump 218 = .ok (.if_icmp .ge 37, 3) := by decide +kernel
theorem d_M_bump_221 : decode b_M_bump 221 = .ok (.aload_n 0, 1) := by decide +kernel
theorem d_M_bump_222 : decode b_M_bump 222 = .ok (.getfield 16, 3) := by decide +kernel
theorem d_M_bump_225 : decode b_M_bump 225 = .ok (.iload 10, 2) := by decide +kernel
theorem d_M_bump_227 : decode b_M_bump 227 = .ok (.aload_n 0, 1) := by decide +kernel
theorem d_M_bump_228 : decode b_M_bump 228 = .ok (.getfield 63, 3) := by decide +kernel
theorem d_M_bump_231 : decode b_M_bump 231 = .ok (.iload 10, 2) := by decide +kernel
theorem d_M_bump_233 : decode b_M_bump 233 = .ok (.laload, 1) := by decide +kernel
theorem d_M_bump_234 : decode b_M_bump 234 = .ok (.lastore, 1) := by decide +kernel
theorem d_M_bump_235 : decode b_M_bump 235 = .ok (.aload_n 0, 1) := by decide +kernel
theorem d_M_bump_236 : decode b_M_bump 236 = .ok (.getfield 20, 3) := by decide +kernel
theorem d_M_bump_239 : decode b_M_bump 239 = .ok (.iload 10, 2) := by decide +kernel
theorem d_M_bump_241 : decode b_M_bump 241 = .ok (.aload_n 0, 1) := by decide +kernel
theorem d_M_bump_242 : decode b_M_bump 242 = .ok (.getfield 66, 3) := by decide +kernel
theorem d_M_bump_245 : decode b_M_bump 245 = .ok (.iload 10, 2) := by decide +kernel
theorem d_M_bump_247 : decode b_M_bump 247 = .ok (.baload, 1) := by decide +kernel
theorem d_M_bump_248 : decode b_M_bump 248 = .ok (.bastore, 1) := by decide +kernel
theorem d_M_bump_249 : decode b_M_bump 249 = .ok (.iinc 10 1, 3) := by decide +kernel
theorem d_M_bump_252 : decode b_M_bump 252 = .ok (.goto (-40), 3) := by decide +kernel
theorem d_M_bump_255 : decode b_M_bump 255 = .ok (.iload 5, 2) := by decide +kernel
theorem d_M_bump_257 : decode b_M_bump 257 = .ok (.ifCond .eq 14, 3) := by decide +kernel
theorem d_M_bump_260 : decode b_M_bump 260 = .ok (.lload 8, 2) := by decide +kernel
theorem d_M_bump_262 : decode b_M_bump 262 = .ok (.lload 6, 2) := by decide +kernel
theorem d_M_bump_264 : decode b_M_bump 264 = .ok (.lsub, 1) := by decide +kernel
theorem d_M_bump_265 : decode b_M_bump 265 = .ok (.l2d, 1) := by decide +kernel
theorem d_M_bump_266 : decode b_M_bump 266 = .ok (.ldc2_w 94, 3) := by decide +kernel
theorem d_M_bump_269 : decode b_M_bump 269 = .ok (.ddiv, 1) := by decide +kernel
theorem d_M_bump_270 : decode b_M_bump 270 = .ok (.dreturn, 1) := by decide +kernel
theorem d_M_bump_271 : decode b_M_bump 271 = .ok (.aload_n 0, 1) := by decide +kernel
theorem d_M_bump_272 : decode b_M_bump 272 = .ok (.aload_n 0, 1) := by decide +kernel
theorem d_M_bump_273 : decode b_M_bump 273 = .ok (.getfield 127, 3) := by decide +kernel
theorem d_M_bump_276 : decode b_M_bump 276 = .ok (.putfield 75, 3) := by decide +kernel
theorem d_M_bump_279 : decode b_M_bump 279 = .ok (.aload_n 0, 1) := by decide +kernel
theorem d_M_bump_280 : decode b_M_bump 280 = .ok (.dup, 1) := by decide +kernel
theorem d_M_bump_281 : decode b_M_bump 281 = .ok (.getfield 209, 3) := by decide +kernel
theorem d_M_bump_284 : decode b_M_bump 284 = .ok (.iconst 1, 1) := by decide +kernel
theorem d_M_bump_285 : decode b_M_bump 285 = .ok (.iadd, 1) := by decide +kernel
theorem d_M_bump_286 : decode b_M_bump 286 = .ok (.putfield 209, 3) := by decide +kernel
theorem d_M_bump_289 : decode b_M_bump 289 = .ok (.dconst 0, 1) := by decide +kernel
theorem d_M_bump_290 : decode b_M_bump 290 = .ok (.dreturn, 1) := by decide +kernel
theorem d_M_count_0 : decode b_M_count 0 = .ok (.aload_n 0, 1) := by decide +kernel
theorem d_M_count_1 : decode b_M_count 1 = .ok (.iconst 0, 1) := by decide +kernel
theorem d_M_count_2 : decode b_M_count 2 = .ok (.putfield 75, 3) := by decide +kernel
theorem d_M_count_5 : decode b_M_count 5 = .ok (.iload_n 1, 1) := by decide +kernel
theorem d_M_count_6 : decode b_M_count 6 = .ok (.ifCond .ne 8, 3) := by decide +kernel
theorem d_M_count_9 : decode b_M_count 9 = .ok (.aload_n 0, 1) := by decide +kernel
theorem d_M_count_10 : decode b_M_count 10 = .ok (.getfield 79, 3) := by decide +kernel
theorem d_M_count_13 : decode b_M_count 13 = .ok (.ireturn, 1) := by decide +kernel
theorem d_M_count_14 : decode b_M_count 14 = .ok (.iload_n 1, 1) := by decide +kernel
theorem d_M_count_15 : decode b_M_count 15 = .ok (.iconst 1, 1) := by decide +kernel
theorem d_M_count_16 : decode b_M_count 16 = .ok (.if_icmp .ne 8, 3) := by decide +kernel
theorem d_M_count_19 : decode b_M_count 19 = .ok (.aload_n 0, 1) := by decide +kernel
theorem d_M_count_20 : decode b_M_count 20 = .ok (.getfield 106, 3) := by decide +kernel
theorem d_M_count_23 : decode b_M_count 23 = .ok (.ireturn, 1) := by decide +kernel
theorem d_M_count_24 : decode b_M_count 24 = .ok (.iload_n 1, 1) := by decide +kernel
theorem d_M_count_25 : decode b_M_count 25 = .ok (.iconst 2, 1) := by decide +kernel
theorem d_M_count_26 : decode b_M_count 26 = .ok (.if_icmp .ne 8, 3) := by decide +kernel
theorem d_M_count_29 : decode b_M_count 29 = .ok (.aload_n 0, 1) := by decide +kernel
theorem d_M_count_30 : decode b_M_count 30 = .ok (.getfield 203, 3) := by decide +kernel
theorem d_M_count_33 : decode b_M_count 33 = .ok (.ireturn, 1) := by decide +kernel
theorem d_M_count_34 : decode b_M_count 34 = .ok (.iload_n 1, 1) := by decide +kernel
theorem d_M_count_35 : decode b_M_count 35 = .ok (.iconst 3, 1) := by decide +kernel
theorem d_M_count_36 : decode b_M_count 36 = .ok (.if_icmp .ne 10, 3) := by decide +kernel
theorem d_M_count_39 : decode b_M_count 39 = .ok (.aload_n 0, 1) := by decide +kernel
theorem d_M_count_40 : decode b_M_count 40 = .ok (.getfield 209, 3) := by decide +kernel
theorem d_M_count_43 : decode b_M_count 43 = .ok (.goto 4, 3) := by decide +kernel
theorem d_M_count_46 : decode b_M_count 46 = .ok (.iconst (-1), 1) := by decide +kernel
theorem d_M_count_47 : decode b_M_count 47 = .ok (.ireturn, 1) := by decide +kernel
theorem d_M_create_0 : decode b_M_create 0 = .ok (.aload_n 0, 1) := by decide +kernel
theorem d_M_create_1 : decode b_M_create 1 = .ok (.getfield 7, 3) := by decide +kernel
theorem d_M_create_4 : decode b_M_create 4 = .ok (.aload_n 0, 1) := by decide +kernel
theorem d_M_create_5 : decode b_M_create 5 = .ok (.getfield 79, 3) := by decide +kernel
theorem d_M_create_8 : decode b_M_create 8 = .ok (.iload_n 1, 1) := by decide +kernel
theorem d_M_create_9 : decode b_M_create 9 = .ok (.iastore, 1) := by decide +kernel
theorem d_M_create_10 : decode b_M_create 10 = .ok (.iconst 0, 1) := by decide +kernel
theorem d_M_create_11 : decode b_M_create 11 = .ok (.istore 4, 2) := by decide +kernel
theorem d_M_create_13 : decode b_M_create 13 = .ok (.iload 4, 2) := by decide +kernel
theorem d_M_create_15 : decode b_M_create 15 = .ok (.iconst 4, 1) := by decide +kernel
theorem d_M_create_16 : decode b_M_create 16 = .ok (.if_icmp .ge 24, 3) := by decide +kernel
theorem d_M_create_19 : decode b_M_create 19 = .ok (.aload_n 0, 1) := by decide +kernel
theorem d_M_create_20 : decode b_M_create 20 = .ok (.getfield 13, 3) := by decide +kernel
theorem d_M_create_23 : decode b_M_create 23 = .ok (.aload_n 0, 1) := by decide +kernel
theorem d_M_create_24 : decode b_M_create 24 = .ok (.getfield 79, 3) := by decide +kernel
theorem d_M_create_27 : decode b_M_create 27 = .ok (.iconst 4, 1) := by decide +kernel
theorem d_M_create_28 : decode b_M_create 28 = .ok (.imul, 1) := by decide +kernel
theorem d_M_create_29 : decode b_M_create 29 = .ok (.iload 4, 2) := by decide +kernel
theorem d_M_create_31 : decode b_M_create 31 = .ok (.iadd, 1) := by decide +kernel
theorem d_M_create_32 : decode b_M_create 32 = .ok (.iconst (-1), 1) := by decide +kernel
theorem d_M_create_33 : decode b_M_create 33 = .ok (.iastore, 1) := by decide +kernel
theorem d_M_create_34 : decode b_M_create 34 = .ok (.iinc 4 1, 3) := by decide +kernel
theorem d_M_create_37 : decode b_M_create 37 = .ok (.goto (-24), 3) := by decide +kernel
theorem d_M_create_40 : decode b_M_create 40 = .ok (.aload_n 0, 1) := by decide +kernel
theorem d_M_create_41 : decode b_M_create 41 = .ok (.getfield 13, 3) := by decide +kernel
theorem d_M_create_44 : decode b_M_create 44 = .ok (.aload_n 0, 1) := by decide +kernel
theorem d_M_create_45 : decode b_M_create 45 = .ok (.getfield 79, 3) := by decide +kernel
theorem d_M_create_48 : decode b_M_create 48 = .ok (.iconst 4, 1) := by decide +kernel
theorem d_M_create_49 : decode b_M_create 49 = .ok (.imul, 1) := by decide +kernel
theorem d_M_create_50 : decode b_M_create 50 = .ok (.iload_n 2, 1) := by decide +kernel
theorem d_M_create_51 : decode b_M_create 51 = .ok (.iastore, 1) := by decide +kernel
theorem d_M_create_52 : decode b_M_create 52 = .ok (.aload_n 0, 1) := by decide +kernel
theorem d_M_create_53 : decode b_M_create 53 = .ok (.getfield 13, 3) := by decide +kernel
theorem d_M_create_56 : decode b_M_create 56 = .ok (.aload_n 0, 1) := by decide +kernel
theorem d_M_create_57 : decode b_M_create 57 = .ok (.getfield 79, 3) := by decide +kernel
theorem d_M_create_60 : decode b_M_create 60 = .ok (.iconst 4, 1) := by decide +kernel
theorem d_M_create_61 : decode b_M_create 61 = .ok (.imul, 1) := by decide +kernel
theorem d_M_create_62 : decode b_M_create 62 = .ok (.iconst 1, 1) := by decide +kernel
theorem d_M_create_63 : decode b_M_create 63 = .ok (.iadd, 1) := by decide +kernel
theorem d_M_create_64 : decode b_M_create 64 = .ok (.iload_n 3, 1) := by decide +kernel
theorem d_M_create_65 : decode b_M_create 65 = .ok (.iastore, 1) := by decide +kernel
theorem d_M_create_66 : decode b_M_create 66 = .ok (.aload_n 0, 1) := by decide +kernel
theorem d_M_create_67 : decode b_M_create 67 = .ok (.getfield 20, 3) := by decide +kernel
theorem d_M_create_70 : decode b_M_create 70 = .ok (.aload_n 0, 1) := by decide +kernel
theorem d_M_create_71 : decode b_M_create 71 = .ok (.getfield 79, 3) := by decide +kernel
theorem d_M_create_74 : decode b_M_create 74 = .ok (.iload_n 1, 1) := by decide +kernel
theorem d_M_create_75 : decode b_M_create 75 = .ok (.ifCond .ne 7, 3) := by decide +kernel
theorem d_M_create_78 : decode b_M_create 78 = .ok (.iconst 1, 1) := by decide +kernel
theorem d_M_create_79 : decode b_M_create 79 = .ok (.goto 4, 3) := by decide +kernel
theorem d_M_create_82 : decode b_M_create 82 = .ok (.iconst 0, 1) := by decide +kernel
theorem d_M_create_83 : decode b_M_create 83 = .ok (.bastore, 1) := by decide +kernel
theorem d_M_create_84 : decode b_M_create 84 = .ok (.aload_n 0, 1) := by decide +kernel
theorem d_M_create_85 : decode b_M_create 85 = .ok (.getfield 45, 3) := by decide +kernel
theorem d_M_create_88 : decode b_M_create 88 = .ok (.aload_n 0, 1) := by decide +kernel
theorem d_M_create_89 : decode b_M_create 89 = .ok (.getfield 79, 3) := by decide +kernel
theorem d_M_create_92 : decode b_M_create 92 = .ok (.bipush 8, 2) := by decide +kernel
theorem d_M_create_94 : decode b_M_create 94 = .ok (.iastore, 1) := by decide +kernel
theorem d_M_create_95 : decode b_M_create 95 = .ok (.aload_n 0, 1) := by decide +kernel
theorem d_M_create_96 : decode b_M_create 96 = .ok (.dup, 1) := by decide +kernel
theorem d_M_create_97 : decode b_M_create 97 = .ok (.getfield 79, 3) := by decide +kernel
theorem d_M_create_100 : decode b_M_create 100 = .ok (.iconst 1, 1) := by decide +kernel
theorem d_M_create_101 : decode b_M_create 101 = .ok (.iadd, 1) := by decide +kernel
theorem d_M_create_102 : decode b_M_create 102 = .ok (.putfield 79, 3) := by decide +kernel
theorem d_M_create_105 : decode b_M_create 105 = .ok (.aload_n 0, 1) := by decide +kernel
theorem d_M_create_106 : decode b_M_create 106 = .ok (.getfield 79, 3) := by decide +kernel
theorem d_M_create_109 : decode b_M_create 109 = .ok (.iconst 1, 1) := by decide +kernel
theorem d_M_create_110 : decode b_M_create 110 = .ok (.isub, 1) := by decide +kernel
theorem d_M_create_111 : decode b_M_create 111 = .ok (.ireturn, 1) := by decide +kernel
theorem d_M_earlier_0 : decode b_M_earlier 0 = .ok (.aload_n 0, 1) := by decide +kernel
theorem d_M_earlier_1 : decode b_M_earlier 1 = .ok (.aload_n 0, 1) := by decide +kernel
theorem d_M_earlier_2 : decode b_M_earlier 2 = .ok (.aload_n 0, 1) := by decide +kernel
theorem d_M_earlier_3 : decode b_M_earlier 3 = .ok (.getfield 139, 3) := by decide +kernel
theorem d_M_earlier_6 : decode b_M_earlier 6 = .ok (.lload_n 1, 1) := by decide +kernel
theorem d_M_earlier_7 : decode b_M_earlier 7 = .ok (.lmul, 1) := by decide +kernel
theorem d_M_earlier_8 : decode b_M_earlier 8 = .ok (.ldc2_w 142, 3) := by decide +kernel
theorem d_M_earlier_11 : decode b_M_earlier 11 = .ok (.ladd, 1) := by decide +kernel
theorem d_M_earlier_12 : decode b_M_earlier 12 = .ok (.ldc2_w 144, 3) := by decide +kernel
theorem d_M_earlier_15 : decode b_M_earlier 15 = .ok (.invokevirtual 146, 3) := by decide +kernel
theorem d_M_earlier_18 : decode b_M_earlier 18 = .ok (.invokevirtual 150, 3) := by decide +kernel
theorem d_M_earlier_21 : decode b_M_earlier 21 = .ok (.lstore 5, 2) := by decide +kernel
theorem d_M_earlier_23 : decode b_M_earlier 23 = .ok (.aload_n 0, 1) := by decide +kernel
theorem d_M_earlier_24 : decode b_M_earlier 24 = .ok (.getfield 13, 3) := by decide +kernel
theorem d_M_earlier_27 : decode b_M_earlier 27 = .ok (.aload_n 0, 1) := by decide +kernel
theorem d_M_earlier_28 : decode b_M_earlier 28 = .ok (.getfield 130, 3) := by decide +kernel
theorem d_M_earlier_31 : decode b_M_earlier 31 = .ok (.iconst 4, 1) := by decide +kernel
theorem d_M_earlier_32 : decode b_M_earlier 32 = .ok (.imul, 1) := by decide +kernel
theorem d_M_earlier_33 : decode b_M_earlier 33 = .ok (.iconst 3, 1) := by decide +kernel
theorem d_M_earlier_34 : decode b_M_earlier 34 = .ok (.iadd, 1) := by decide +kernel
theorem d_M_earlier_35 : decode b_M_earlier 35 = .ok (.iaload, 1) := by decide +kernel
theorem d_M_earlier_36 : decode b_M_earlier 36 = .ok (.ifCond .lt 14, 3) := by decide +kernel
theorem d_M_earlier_39 : decode b_M_earlier 39 = .ok (.lload_n 3, 1) := by decide +kernel
theorem d_M_earlier_40 : decode b_M_earlier 40 = .ok (.aload_n 0, 1) := by decide +kernel
theorem d_M_earlier_41 : decode b_M_earlier 41 = .ok (.getfield 133, 3) := by decide +kernel
theorem d_M_earlier_44 : decode b_M_earlier 44 = .ok (.lcmp, 1) := by decide +kernel
theorem d_M_earlier_45 : decode b_M_earlier 45 = .ok (.ifCond .lt 5, 3) := by decide +kernel
theorem d_M_earlier_48 : decode b_M_earlier 48 = .ok (.lconst 0, 1) := by decide +kernel
theorem d_M_earlier_49 : decode b_M_earlier 49 = .ok (.lreturn, 1) := by decide +kernel
theorem d_M_earlier_50 : decode b_M_earlier 50 = .ok (.aload_n 0, 1) := by decide +kernel
theorem d_M_earlier_51 : decode b_M_earlier 51 = .ok (.lload_n 3, 1) := by decide +kernel
theorem d_M_earlier_52 : decode b_M_earlier 52 = .ok (.invokevirtual 154, 3) := by decide +kernel
theorem d_M_earlier_55 : decode b_M_earlier 55 = .ok (.lstore 7, 2) := by decide +kernel
theorem d_M_earlier_57 : decode b_M_earlier 57 = .ok (.aload_n 0, 1) := by decide +kernel
theorem d_M_earlier_58 : decode b_M_earlier 58 = .ok (.getfield 48, 3) := by decide +kernel
theorem d_M_earlier_61 : decode b_M_earlier 61 = .ok (.aload_n 0, 1) := by decide +kernel
theorem d_M_earlier_62 : decode b_M_earlier 62 = .ok (.getfield 130, 3) := by decide +kernel
theorem d_M_earlier_65 : decode b_M_earlier 65 = .ok (.baload, 1) := by decide +kernel
theorem d_M_earlier_66 : decode b_M_earlier 66 = .ok (.ifCond .eq 16, 3) := by decide +kernel
theorem d_M_earlier_69 : decode b_M_earlier 69 = .ok (.lload 7, 2) := by decide +kernel
theorem d_M_earlier_71 : decode b_M_earlier 71 = .ok (.lload 5, 2) := by decide +kernel
theorem d_M_earlier_73 : decode b_M_earlier 73 = .ok (.lcmp, 1) := by decide +kernel
theorem d_M_earlier_74 : decode b_M_earlier 74 = .ok (.ifCond .le 8, 3) := by decide +kernel
theorem d_M_earlier_77 : decode b_M_earlier 77 = .ok (.lload 7, 2) := by decide +kernel
theorem d_M_earlier_79 : decode b_M_earlier 79 = .ok (.goto 5, 3) := by decide +kernel
theorem d_M_earlier_82 : decode b_M_earlier 82 = .ok (.lload 5, 2) := by decide +kernel
theorem d_M_earlier_84 : decode b_M_earlier 84 = .ok (.lreturn, 1) := by decide +kernel
theorem d_M_engine_0 : decode b_M_engine 0 = .ok (.iload_n 2, 1) := by decide +kernel
theorem d_M_engine_1 : decode b_M_engine 1 = .ok (.ifCond .ne 7, 3) := by decide +kernel
theorem d_M_engine_4 : decode b_M_engine 4 = .ok (.iload_n 3, 1) := by decide +kernel
theorem d_M_engine_5 : decode b_M_engine 5 = .ok (.ifCond .eq 34, 3) := by decide +kernel
theorem d_M_engine_8 : decode b_M_engine 8 = .ok (.iload_n 2, 1) := by decide +kernel
theorem d_M_engine_9 : decode b_M_engine 9 = .ok (.iconst 1, 1) := by decide +kernel
theorem d_M_engine_10 : decode b_M_engine 10 = .ok (.if_icmp .ne 13, 3) := by decide +kernel
theorem d_M_engine_13 : decode b_M_engine 13 = .ok (.iload_n 3, 1) := by decide +kernel
theorem d_M_engine_14 : decode b_M_engine 14 = .ok (.ifCond .lt 9, 3) := by decide +kernel
theorem d_M_engine_17 : decode b_M_engine 17 = .ok (.iload_n 3, 1) := by decide +kernel
theorem d_M_engine_18 : decode b_M_engine 18 = .ok (.bipush 6, 2) := by decide +kernel
theorem d_M_engine_20 : decode b_M_engine 20 = .ok (.if_icmp .le 19, 3) := by decide +kernel
theorem d_M_engine_23 : decode b_M_engine 23 = .ok (.iload_n 2, 1) := by decide +kernel
theorem d_M_engine_24 : decode b_M_engine 24 = .ok (.iconst 2, 1) := by decide +kernel
theorem d_M_engine_25 : decode b_M_engine 25 = .ok (.if_icmp .ne 18, 3) := by decide +kernel
theorem d_M_engine_28 : decode b_M_engine 28 = .ok (.iload_n 3, 1) := by decide +kernel
theorem d_M_engine_29 : decode b_M_engine 29 = .ok (.iconst 1, 1) := by decide +kernel
theorem d_M_engine_30 : decode b_M_engine 30 = .ok (.if_icmp .lt 13, 3) := by decide +kernel
theorem d_M_engine_33 : decode b_M_engine 33 = .ok (.iload_n 3, 1) := by decide +kernel
theorem d_M_engine_34 : decode b_M_engine 34 = .ok (.bipush 20, 2) := by decide +kernel
theorem d_M_engine_36 : decode b_M_engine 36 = .ok (.if_icmp .gt 7, 3) := by decide +kernel
theorem d_M_engine_39 : decode b_M_engine 39 = .ok (.iconst 1, 1) := by decide +kernel
theorem d_M_engine_40 : decode b_M_engine 40 = .ok (.goto 4, 3) := by decide +kernel
theorem d_M_engine_43 : decode b_M_engine 43 = .ok (.iconst 0, 1) := by decide +kernel
theorem d_M_engine_44 : decode b_M_engine 44 = .ok (.istore 4, 2) := by decide +kernel
theorem d_M_engine_46 : decode b_M_engine 46 = .ok (.aload_n 0, 1) := by decide +kernel
theorem d_M_engine_47 : decode b_M_engine 47 = .ok (.aload_n 0, 1) := by decide +kernel
theorem d_M_engine_48 : decode b_M_engine 48 = .ok (.iload_n 1, 1) := by decide +kernel
theorem d_M_engine_49 : decode b_M_engine 49 = .ok (.invokevirtual 113, 3) := by decide +kernel
theorem d_M_engine_52 : decode b_M_engine 52 = .ok (.ifCond .ne 8, 3) := by decide +kernel
theorem d_M_engine_55 : decode b_M_engine 55 = .ok (.iload 4, 2) := by decide +kernel
theorem d_M_engine_57 : decode b_M_engine 57 = .ok (.ifCond .ne 7, 3) := by decide +kernel
theorem d_M_engine_60 : decode b_M_engine 60 = .ok (.iconst 1, 1) := by decide +kernel
theorem d_M_engine_61 : decode b_M_engine 61 = .ok (.goto 17, 3) := by decide +kernel
theorem d_M_engine_64 : decode b_M_engine 64 = .ok (.aload_n 0, 1) := by decide +kernel
theorem d_M_engine_65 : decode b_M_engine 65 = .ok (.getfield 24, 3) := by decide +kernel
theorem d_M_engine_68 : decode b_M_engine 68 = .ok (.iload_n 1, 1) := by decide +kernel
theorem d_M_engine_69 : decode b_M_engine 69 = .ok (.baload, 1) := by decide +kernel
theorem d_M_engine_70 : decode b_M_engine 70 = .ok (.ifCond .eq 7, 3) := by decide +kernel
theorem d_M_engine_73 : decode b_M_engine 73 = .ok (.iconst 2, 1) := by decide +kernel
theorem d_M_engine_74 : decode b_M_engine 74 = .ok (.goto 4, 3) := by decide +kernel
theorem d_M_engine_77 : decode b_M_engine 77 = .ok (.iconst 0, 1) := by decide +kernel
theorem d_M_engine_78 : decode b_M_engine 78 = .ok (.putfield 75, 3) := by decide +kernel
theorem d_M_engine_81 : decode b_M_engine 81 = .ok (.aload_n 0, 1) := by decide +kernel
theorem d_M_engine_82 : decode b_M_engine 82 = .ok (.getfield 75, 3) := by decide +kernel
theorem d_M_engine_85 : decode b_M_engine 85 = .ok (.ifCond .eq 4, 3) := by decide +kernel
theorem d_M_engine_88 : decode b_M_engine 88 = .ok (.return_, 1) := by decide +kernel
theorem d_M_engine_89 : decode b_M_engine 89 = .ok (.aload_n 0, 1) := by decide +kernel
theorem d_M_engine_90 : decode b_M_engine 90 = .ok (.getfield 51, 3) := by decide +kernel
theorem d_M_engine_93 : decode b_M_engine 93 = .ok (.iload_n 1, 1) := by decide +kernel
theorem d_M_engine_94 : decode b_M_engine 94 = .ok (.iload_n 2, 1) := by decide +kernel
theorem d_M_engine_95 : decode b_M_engine 95 = .ok (.iastore, 1) := by decide +kernel
theorem d_M_engine_96 : decode b_M_engine 96 = .ok (.aload_n 0, 1) := by decide +kernel
theorem d_M_engine_97 : decode b_M_engine 97 = .ok (.getfield 54, 3) := by decide +kernel
theorem d_M_engine_100 : decode b_M_engine 100 = .ok (.iload_n 1, 1) := by decide +kernel
theorem d_M_engine_101 : decode b_M_engine 101 = .ok (.iload_n 3, 1) := by decide +kernel
theorem d_M_engine_102 : decode b_M_engine 102 = .ok (.iastore, 1) := by decide +kernel
theorem d_M_engine_103 : decode b_M_engine 103 = .ok (.aload_n 0, 1) := by decide +kernel
theorem d_M_engine_104 : decode b_M_engine 104 = .ok (.getfield 57, 3) := by decide +kernel
theorem d_M_engine_107 : decode b_M_engine 107 = .ok (.iconst 0, 1) := by decide +kernel
theorem d_M_engine_108 : decode b_M_engine 108 = .ok (.iload_n 1, 1) := by decide +kernel
theorem d_M_engine_109 : decode b_M_engine 109 = .ok (.iastore, 1) := by decide +kernel
theorem d_M_engine_110 : decode b_M_engine 110 = .ok (.aload_n 0, 1) := by decide +kernel
theorem d_M_engine_111 : decode b_M_engine 111 = .ok (.iconst 1, 1) := by decide +kernel
theorem d_M_engine_112 : decode b_M_engine 112 = .ok (.invokevirtual 119, 3) := by decide +kernel
theorem d_M_engine_115 : decode b_M_engine 115 = .ok (.return_, 1) := by decide +kernel
theorem d_M_far_0 : decode b_M_far 0 = .ok (.dload_n 1, 1) := by decide +kernel
theorem d_M_far_1 : decode b_M_far 1 = .ok (.dload_n 3, 1) := by decide +kernel
theorem d_M_far_2 : decode b_M_far 2 = .ok (.dneg, 1) := by decide +kernel
theorem d_M_far_3 : decode b_M_far 3 = .ok (.dcmp .l, 1) := by decide +kernel
theorem d_M_far_4 : decode b_M_far 4 = .ok (.ifCond .lt 25, 3) := by decide +kernel
theorem d_M_far_7 : decode b_M_far 7 = .ok (.dload_n 1, 1) := by decide +kernel
theorem d_M_far_8 : decode b_M_far 8 = .ok (.dload_n 3, 1) := by decide +kernel
theorem d_M_far_9 : decode b_M_far 9 = .ok (.dcmp .g, 1) := by decide +kernel
theorem d_M_far_10 : decode b_M_far 10 = .ok (.ifCond .gt 19, 3) := by decide +kernel
theorem d_M_far_13 : decode b_M_far 13 = .ok (.dload_n 1, 1) := by decide +kernel
theorem d_M_far_14 : decode b_M_far 14 = .ok (.ldc2_w 82, 3) := by decide +kernel
theorem d_M_far_17 : decode b_M_far 17 = .ok (.dmul, 1) := by decide +kernel
theorem d_M_far_18 : decode b_M_far 18 = .ok (.dload_n 1, 1) := by decide +kernel
theorem d_M_far_19 : decode b_M_far 19 = .ok (.ldc2_w 82, 3) := by decide +kernel
theorem d_M_far_22 : decode b_M_far 22 = .ok (.dmul, 1) := by decide +kernel
theorem d_M_far_23 : decode b_M_far 23 = .ok (.d2l, 1) := by decide +kernel
theorem d_M_far_24 : decode b_M_far 24 = .ok (.l2d, 1) := by decide +kernel
theorem d_M_far_25 : decode b_M_far 25 = .ok (.dcmp .l, 1) := by decide +kernel
theorem d_M_far_26 : decode b_M_far 26 = .ok (.ifCond .eq 7, 3) := by decide +kernel
theorem d_M_far_29 : decode b_M_far 29 = .ok (.iconst 1, 1) := by decide +kernel
theorem d_M_far_30 : decode b_M_far 30 = .ok (.goto 4, 3) := by decide +kernel
theorem d_M_far_33 : decode b_M_far 33 = .ok (.iconst 0, 1) := by decide +kernel
theorem d_M_far_34 : decode b_M_far 34 = .ok (.ireturn, 1) := by decide +kernel
theorem d_M_floored_0 : decode b_M_floored 0 = .ok (.lload_n 1, 1) := by decide +kernel
theorem d_M_floored_1 : decode b_M_floored 1 = .ok (.lload_n 3, 1) := by decide +kernel
theorem d_M_floored_2 : decode b_M_floored 2 = .ok (.lrem, 1) := by decide +kernel
theorem d_M_floored_3 : decode b_M_floored 3 = .ok (.lconst 0, 1) := by decide +kernel
theorem d_M_floored_4 : decode b_M_floored 4 = .ok (.lcmp, 1) := by decide +kernel
theorem d_M_floored_5 : decode b_M_floored 5 = .ok (.ifCond .ge 11, 3) := by decide +kernel
theorem d_M_floored_8 : decode b_M_floored 8 = .ok (.lload_n 1, 1) := by decide +kernel
theorem d_M_floored_9 : decode b_M_floored 9 = .ok (.lload_n 3, 1) := by decide +kernel
theorem d_M_floored_10 : decode b_M_floored 10 = .ok (.ldiv, 1) := by decide +kernel
theorem d_M_floored_11 : decode b_M_floored 11 = .ok (.lconst 1, 1) := by decide +kernel
theorem d_M_floored_12 : decode b_M_floored 12 = .ok (.lsub, 1) := by decide +kernel
theorem d_M_floored_13 : decode b_M_floored 13 = .ok (.goto 6, 3) := by decide +kernel
theorem d_M_floored_16 : decode b_M_floored 16 = .ok (.lload_n 1, 1) := by decide +kernel
theorem d_M_floored_17 : decode b_M_floored 17 = .ok (.lload_n 3, 1) := by decide +kernel
theorem d_M_floored_18 : decode b_M_floored 18 = .ok (.ldiv, 1) := by decide +kernel
theorem d_M_floored_19 : decode b_M_floored 19 = .ok (.lreturn, 1) := by decide +kernel
theorem d_M_freeze_0 : decode b_M_freeze 0 = .ok (.aload_n 0, 1) := by decide +kernel
theorem d_M_freeze_1 : decode b_M_freeze 1 = .ok (.aload_n 0, 1) := by decide +kernel
theorem d_M_freeze_2 : decode b_M_freeze 2 = .ok (.iload_n 1, 1) := by decide +kernel
theorem d_M_freeze_3 : decode b_M_freeze 3 = .ok (.invokevirtual 96, 3) := by decide +kernel
theorem d_M_freeze_6 : decode b_M_freeze 6 = .ok (.ifCond .ne 12, 3) := by decide +kernel
theorem d_M_freeze_9 : decode b_M_freeze 9 = .ok (.aload_n 0, 1) := by decide +kernel
theorem d_M_freeze_10 : decode b_M_freeze 10 = .ok (.getfield 7, 3) := by decide +kernel
theorem d_M_freeze_13 : decode b_M_freeze 13 = .ok (.iload_n 1, 1) := by decide +kernel
theorem d_M_freeze_14 : decode b_M_freeze 14 = .ok (.iaload, 1) := by decide +kernel
theorem d_M_freeze_15 : decode b_M_freeze 15 = .ok (.ifCond .ne 7, 3) := by decide +kernel
theorem d_M_freeze_18 : decode b_M_freeze 18 = .ok (.iconst 1, 1) := by decide +kernel
theorem d_M_freeze_19 : decode b_M_freeze 19 = .ok (.goto 21, 3) := by decide +kernel
theorem d_M_freeze_22 : decode b_M_freeze 22 = .ok (.iload_n 2, 1) := by decide +kernel
theorem d_M_freeze_23 : decode b_M_freeze 23 = .ok (.ifCond .eq 16, 3) := by decide +kernel
theorem d_M_freeze_26 : decode b_M_freeze 26 = .ok (.aload_n 0, 1) := by decide +kernel
theorem d_M_freeze_27 : decode b_M_freeze 27 = .ok (.getfield 20, 3) := by decide +kernel
theorem d_M_freeze_30 : decode b_M_freeze 30 = .ok (.iload_n 1, 1) := by decide +kernel
theorem d_M_freeze_31 : decode b_M_freeze 31 = .ok (.baload, 1) := by decide +kernel
theorem d_M_freeze_32 : decode b_M_freeze 32 = .ok (.ifCond .ne 7, 3) := by decide +kernel
theorem d_M_freeze_35 : decode b_M_freeze 35 = .ok (.iconst 2, 1) := by decide +kernel
theorem d_M_freeze_36 : decode b_M_freeze 36 = .ok (.goto 4, 3) := by decide +kernel
theorem d_M_freeze_39 : decode b_M_freeze 39 = .ok (.iconst 0, 1) := by decide +kernel
theorem d_M_freeze_40 : decode b_M_freeze 40 = .ok (.putfield 75, 3) := by decide +kernel
theorem d_M_freeze_43 : decode b_M_freeze 43 = .ok (.aload_n 0, 1) := by decide +kernel
theorem d_M_freeze_44 : decode b_M_freeze 44 = .ok (.getfield 75, 3) := by decide +kernel
theorem d_M_freeze_47 : decode b_M_freeze 47 = .ok (.ifCond .ne 13, 3) := by decide +kernel
theorem d_M_freeze_50 : decode b_M_freeze 50 = .ok (.aload_n 0, 1) := by decide +kernel
theorem d_M_freeze_51 : decode b_M_freeze 51 = .ok (.getfield 24, 3) := by decide +kernel
theorem d_M_freeze_54 : decode b_M_freeze 54 = .ok (.iload_n 1, 1) := by decide +kernel
theorem d_M_freeze_55 : decode b_M_freeze 55 = .ok (.baload, 1) := by decide +kernel
theorem d_M_freeze_56 : decode b_M_freeze 56 = .ok (.iload_n 2, 1) := by decide +kernel
theorem d_M_freeze_57 : decode b_M_freeze 57 = .ok (.if_icmp .ne 4, 3) := by decide +kernel
theorem d_M_freeze_60 : decode b_M_freeze 60 = .ok (.return_, 1) := by decide +kernel
theorem d_M_freeze_61 : decode b_M_freeze 61 = .ok (.aload_n 0, 1) := by decide +kernel
theorem d_M_freeze_62 : decode b_M_freeze 62 = .ok (.getfield 24, 3) := by decide +kernel
theorem d_M_freeze_65 : decode b_M_freeze 65 = .ok (.iload_n 1, 1) := by decide +kernel
theorem d_M_freeze_66 : decode b_M_freeze 66 = .ok (.iload_n 2, 1) := by decide +kernel
theorem d_M_freeze_67 : decode b_M_freeze 67 = .ok (.bastore, 1) := by decide +kernel
theorem d_M_freeze_68 : decode b_M_freeze 68 = .ok (.iload_n 2, 1) := by decide +kernel
theorem d_M_freeze_69 : decode b_M_freeze 69 = .ok (.ifCond .ne 12, 3) := by decide +kernel
theorem d_M_freeze_72 : decode b_M_freeze 72 = .ok (.aload_n 0, 1) := by decide +kernel
theorem d_M_freeze_73 : decode b_M_freeze 73 = .ok (.getfield 27, 3) := by decide +kernel
theorem d_M_freeze_76 : decode b_M_freeze 76 = .ok (.iload_n 1, 1) := by decide +kernel
theorem d_M_freeze_77 : decode b_M_freeze 77 = .ok (.baload, 1) := by decide +kernel
theorem d_M_freeze_78 : decode b_M_freeze 78 = .ok (.ifCond .ne 4, 3) := by decide +kernel
theorem d_M_freeze_81 : decode b_M_freeze 81 = .ok (.return_, 1) := by decide +kernel
theorem d_M_freeze_82 : decode b_M_freeze 82 = .ok (.aload_n 0, 1) := by decide +kernel
theorem d_M_freeze_83 : decode b_M_freeze 83 = .ok (.getfield 27, 3) := by decide +kernel
theorem d_M_freeze_86 : decode b_M_freeze 86 = .ok (.iload_n 1, 1) := by decide +kernel
theorem d_M_freeze_87 : decode b_M_freeze 87 = .ok (.iconst 0, 1) := by decide +kernel
theorem d_M_freeze_88 : decode b_M_freeze 88 = .ok (.bastore, 1) := by decide +kernel
theorem d_M_freeze_89 : decode b_M_freeze 89 = .ok (.aload_n 0, 1) := by decide +kernel
theorem d_M_freeze_90 : decode b_M_freeze 90 = .ok (.getfield 57, 3) := by decide +kernel
theorem d_M_freeze_93 : decode b_M_freeze 93 = .ok (.iconst 0, 1) := by decide +kernel
theorem d_M_freeze_94 : decode b_M_freeze 94 = .ok (.iload_n 1, 1) := by decide +kernel
theorem d_M_freeze_95 : decode b_M_freeze 95 = .ok (.iastore, 1) := by decide +kernel
theorem d_M_freeze_96 : decode b_M_freeze 96 = .ok (.aload_n 0, 1) := by decide +kernel
theorem d_M_freeze_97 : decode b_M_freeze 97 = .ok (.iconst 1, 1) := by decide +kernel
theorem d_M_freeze_98 : decode b_M_freeze 98 = .ok (.invokevirtual 119, 3) := by decide +kernel
theorem d_M_freeze_101 : decode b_M_freeze 101 = .ok (.return_, 1) := by decide +kernel
theorem d_M_greater_0 : decode b_M_greater 0 = .ok (.aload_n 0, 1) := by decide +kernel
theorem d_M_greater_1 : decode b_M_greater 1 = .ok (.aload_n 0, 1) := by decide +kernel
theorem d_M_greater_2 : decode b_M_greater 2 = .ok (.iload_n 1, 1) := by decide +kernel
theorem d_M_greater_3 : decode b_M_greater 3 = .ok (.invokevirtual 96, 3) := by decide +kernel
theorem d_M_greater_6 : decode b_M_greater 6 = .ok (.ifCond .ne 11, 3) := by decide +kernel
theorem d_M_greater_9 : decode b_M_greater 9 = .ok (.aload_n 0, 1) := by decide +kernel
theorem d_M_greater_10 : decode b_M_greater 10 = .ok (.iload_n 2, 1) := by decide +kernel
theorem d_M_greater_11 : decode b_M_greater 11 = .ok (.invokevirtual 96, 3) := by decide +kernel
theorem d_M_greater_14 : decode b_M_greater 14 = .ok (.ifCond .eq 7, 3) := by decide +kernel
theorem d_M_greater_17 : decode b_M_greater 17 = .ok (.iconst 1, 1) := by decide +kernel
theorem d_M_greater_18 : decode b_M_greater 18 = .ok (.goto 17, 3) := by decide +kernel
theorem d_M_greater_21 : decode b_M_greater 21 = .ok (.aload_n 0, 1) := by decide +kernel
theorem d_M_greater_22 : decode b_M_greater 22 = .ok (.getfield 79, 3) := by decide +kernel
theorem d_M_greater_25 : decode b_M_greater 25 = .ok (.bipush 16, 2) := by decide +kernel
theorem d_M_greater_27 : decode b_M_greater 27 = .ok (.if_icmp .ne 7, 3) := by decide +kernel
theorem d_M_greater_30 : decode b_M_greater 30 = .ok (.iconst 2, 1) := by decide +kernel
theorem d_M_greater_31 : decode b_M_greater 31 = .ok (.goto 4, 3) := by decide +kernel
theorem d_M_greater_34 : decode b_M_greater 34 = .ok (.iconst 0, 1) := by decide +kernel
theorem d_M_greater_35 : decode b_M_greater 35 = .ok (.putfield 75, 3) := by decide +kernel
theorem d_M_greater_38 : decode b_M_greater 38 = .ok (.aload_n 0, 1) := by decide +kernel
theorem d_M_greater_39 : decode b_M_greater 39 = .ok (.getfield 75, 3) := by decide +kernel
theorem d_M_greater_42 : decode b_M_greater 42 = .ok (.ifCond .eq 7, 3) := by decide +kernel
theorem d_M_greater_45 : decode b_M_greater 45 = .ok (.iconst 0, 1) := by decide +kernel
theorem d_M_greater_46 : decode b_M_greater 46 = .ok (.goto 10, 3) := by decide +kernel
theorem d_M_greater_49 : decode b_M_greater 49 = .ok (.aload_n 0, 1) := by decide +kernel
theorem d_M_greater_50 : decode b_M_greater 50 = .ok (.iconst 2, 1) := by decide +kernel
theorem d_M_greater_51 : decode b_M_greater 51 = .ok (.iload_n 1, 1) := by decide +kernel
theorem d_M_greater_52 : decode b_M_greater 52 = .ok (.iload_n 2, 1) := by decide +kernel
theorem d_M_greater_53 : decode b_M_greater 53 = .ok (.invokevirtual 90, 3) := by decide +kernel
theorem d_M_greater_56 : decode b_M_greater 56 = .ok (.ireturn, 1) := by decide +kernel
theorem d_M_hangs_0 : decode b_M_hangs 0 = .ok (.iconst 0, 1) := by decide +kernel
theorem d_M_hangs_1 : decode b_M_hangs 1 = .ok (.istore_n 3, 1) := by decide +kernel
theorem d_M_hangs_2 : decode b_M_hangs 2 = .ok (.iconst 0, 1) := by decide +kernel
theorem d_M_hangs_3 : decode b_M_hangs 3 = .ok (.istore 4, 2) := by decide +kernel
theorem d_M_hangs_5 : decode b_M_hangs 5 = .ok (.iload 4, 2) := by decide +kernel
theorem d_M_hangs_7 : decode b_M_hangs 7 = .ok (.bipush 16, 2) := by decide +kernel
theorem d_M_hangs_9 : decode b_M_hangs 9 = .ok (.if_icmp .ge 89, 3) := by decide +kernel
theorem d_M_hangs_12 : decode b_M_hangs 12 = .ok (.iconst 0, 1) := by decide +kernel
theorem d_M_hangs_13 : decode b_M_hangs 13 = .ok (.istore 5, 2) := by decide +kernel
theorem d_M_hangs_15 : decode b_M_hangs 15 = .ok (.iload 5, 2) := by decide +kernel
theorem d_M_hangs_17 : decode b_M_hangs 17 = .ok (.aload_n 0, 1) := by decide +kernel
theorem d_M_hangs_18 : decode b_M_hangs 18 = .ok (.getfield 79, 3) := by decide +kernel
theorem d_M_hangs_21 : decode b_M_hangs 21 = .ok (.if_icmp .ge 71, 3) := by decide +kernel
theorem d_M_hangs_24 : decode b_M_hangs 24 = .ok (.iconst 0, 1) := by decide +kernel
theorem d_M_hangs_25 : decode b_M_hangs 25 = .ok (.istore 6, 2) := by decide +kernel
theorem d_M_hangs_27 : decode b_M_hangs 27 = .ok (.iload 6, 2) := by decide +kernel
theorem d_M_hangs_29 : decode b_M_hangs 29 = .ok (.iconst 4, 1) := by decide +kernel
theorem d_M_hangs_30 : decode b_M_hangs 30 = .ok (.if_icmp .ge 56, 3) := by decide +kernel
theorem d_M_hangs_33 : decode b_M_hangs 33 = .ok (.iload 5, 2) := by decide +kernel
theorem d_M_hangs_35 : decode b_M_hangs 35 = .ok (.iload_n 1, 1) := by decide +kernel
theorem d_M_hangs_36 : decode b_M_hangs 36 = .ok (.if_icmp .eq 12, 3) := by decide +kernel
theorem d_M_hangs_39 : decode b_M_hangs 39 = .ok (.iload_n 3, 1) := by decide +kernel
theorem d_M_hangs_40 : decode b_M_hangs 40 = .ok (.iload 5, 2) := by decide +kernel
theorem d_M_hangs_42 : decode b_M_hangs 42 = .ok (.ishr, 1) := by decide +kernel
theorem d_M_hangs_43 : decode b_M_hangs 43 = .ok (.iconst 1, 1) := by decide +kernel
theorem d_M_hangs_44 : decode b_M_hangs 44 = .ok (.iand, 1) := by decide +kernel
theorem d_M_hangs_45 : decode b_M_hangs 45 = .ok (.ifCond .eq 35, 3) := by decide +kernel
theorem d_M_hangs_48 : decode b_M_hangs 48 = .ok (.aload_n 0, 1) := by decide +kernel
theorem d_M_hangs_49 : decode b_M_hangs 49 = .ok (.getfield 13, 3) := by decide +kernel
theorem d_M_hangs_52 : decode b_M_hangs 52 = .ok (.iload 5, 2) := by decide +kernel
theorem d_M_hangs_54 : decode b_M_hangs 54 = .ok (.iconst 4, 1) := by decide +kernel
theorem d_M_hangs_55 : decode b_M_hangs 55 = .ok (.imul, 1) := by decide +kernel
theorem d_M_hangs_56 : decode b_M_hangs 56 = .ok (.iload 6, 2) := by decide +kernel
theorem d_M_hangs_58 : decode b_M_hangs 58 = .ok (.iadd, 1) := by decide +kernel
theorem d_M_hangs_59 : decode b_M_hangs 59 = .ok (.iaload, 1) := by decide +kernel
theorem d_M_hangs_60 : decode b_M_hangs 60 = .ok (.ifCond .lt 20, 3) := by decide +kernel
theorem d_M_hangs_63 : decode b_M_hangs 63 = .ok (.iload_n 3, 1) := by decide +kernel
theorem d_M_hangs_64 : decode b_M_hangs 64 = .ok (.iconst 1, 1) := by decide +kernel
theorem d_M_hangs_65 : decode b_M_hangs 65 = .ok (.aload_n 0, 1) := by decide +kernel
theorem d_M_hangs_66 : decode b_M_hangs 66 = .ok (.getfield 13, 3) := by decide +kernel
theorem d_M_hangs_69 : decode b_M_hangs 69 = .ok (.iload 5, 2) := by decide +kernel
theorem d_M_hangs_71 : decode b_M_hangs 71 = .ok (.iconst 4, 1) := by decide +kernel
theorem d_M_hangs_72 : decode b_M_hangs 72 = .ok (.imul, 1) := by decide +kernel
theorem d_M_hangs_73 : decode b_M_hangs 73 = .ok (.iload 6, 2) := by decide +kernel
theorem d_M_hangs_75 : decode b_M_hangs 75 = .ok (.iadd, 1) := by decide +kernel
theorem d_M_hangs_76 : decode b_M_hangs 76 = .ok (.iaload, 1) := by decide +kernel
theorem d_M_hangs_77 : decode b_M_hangs 77 = .ok (.ishl, 1) := by decide +kernel
theorem d_M_hangs_78 : decode b_M_hangs 78 = .ok (.ior, 1) := by decide +kernel
theorem d_M_hangs_79 : decode b_M_hangs 79 = .ok (.istore_n 3, 1) := by decide +kernel
theorem d_M_hangs_80 : decode b_M_hangs 80 = .ok (.iinc 6 1, 3) := by decide +kernel
theorem d_M_hangs_83 : decode b_M_hangs 83 = .ok (.goto (-56), 3) := by decide +kernel
theorem d_M_hangs_86 : decode b_M_hangs 86 = .ok (.iinc 5 1, 3) := by decide +kernel
theorem d_M_hangs_89 : decode b_M_hangs 89 = .ok (.goto (-74), 3) := by decide +kernel
theorem d_M_hangs_92 : decode b_M_hangs 92 = .ok (.iinc 4 1, 3) := by decide +kernel
theorem d_M_hangs_95 : decode b_M_hangs 95 = .ok (.goto (-90), 3) := by decide +kernel
theorem d_M_hangs_98 : decode b_M_hangs 98 = .ok (.iload_n 3, 1) := by decide +kernel
theorem d_M_hangs_99 : decode b_M_hangs 99 = .ok (.iload_n 2, 1) := by decide +kernel
theorem d_M_hangs_100 : decode b_M_hangs 100 = .ok (.ishr, 1) := by decide +kernel
theorem d_M_hangs_101 : decode b_M_hangs 101 = .ok (.iconst 1, 1) := by decide +kernel
theorem d_M_hangs_102 : decode b_M_hangs 102 = .ok (.iand, 1) := by decide +kernel
theorem d_M_hangs_103 : decode b_M_hangs 103 = .ok (.ifCond .eq 7, 3) := by decide +kernel
theorem d_M_hangs_106 : decode b_M_hangs 106 = .ok (.iconst 1, 1) := by decide +kernel
theorem d_M_hangs_107 : decode b_M_hangs 107 = .ok (.goto 4, 3) := by decide +kernel
theorem d_M_hangs_110 : decode b_M_hangs 110 = .ok (.iconst 0, 1) := by decide +kernel
theorem d_M_hangs_111 : decode b_M_hangs 111 = .ok (.ireturn, 1) := by decide +kernel
theorem d_M_init_0 : decode b_M_init 0 = .ok (.aload_n 0, 1) := by decide +kernel
theorem d_M_init_1 : decode b_M_init 1 = .ok (.invokespecial 1, 3) := by decide +kernel
theorem d_M_init_4 : decode b_M_init 4 = .ok (.aload_n 0, 1) := by decide +kernel
theorem d_M_init_5 : decode b_M_init 5 = .ok (.bipush 16, 2) := by decide +kernel
theorem d_M_init_7 : decode b_M_init 7 = .ok (.newarray .int, 2) := by decide +kernel
theorem d_M_init_9 : decode b_M_init 9 = .ok (.putfield 7, 3) := by decide +kernel
theorem d_M_init_12 : decode b_M_init 12 = .ok (.aload_n 0, 1) := by decide +kernel
theorem d_M_init_13 : decode b_M_init 13 = .ok (.bipush 64, 2) := by decide +kernel
theorem d_M_init_15 : decode b_M_init 15 = .ok (.newarray .int, 2) := by decide +kernel
theorem d_M_init_17 : decode b_M_init 17 = .ok (.putfield 13, 3) := by decide +kernel
theorem d_M_init_20 : decode b_M_init 20 = .ok (.aload_n 0, 1) := by decide +kernel
theorem d_M_init_21 : decode b_M_init 21 = .ok (.bipush 16, 2) := by decide +kernel
theorem d_M_init_23 : decode b_M_init 23 = .ok (.newarray .long, 2) := by decide +kernel
theorem d_M_init_25 : decode b_M_init 25 = .ok (.putfield 16, 3) := by decide +kernel
theorem d_M_init_28 : decode b_M_init 28 = .ok (.aload_n 0, 1) := by decide +kernel
theorem d_M_init_29 : decode b_M_init 29 = .ok (.bipush 16, 2) := by decide +kernel
theorem d_M_init_31 : decode b_M_init 31 = .ok (.newarray .boolean, 2) := by decide +kernel
theorem d_M_init_33 : decode b_M_init 33 = .ok (.putfield 20, 3) := by decide +kernel
theorem d_M_init_36 : decode b_M_init 36 = .ok (.aload_n 0, 1) := by decide +kernel
theorem d_M_init_37 : decode b_M_init 37 = .ok (.bipush 16, 2) := by decide +kernel
theorem d_M_init_39 : decode b_M_init 39 = .ok (.newarray .boolean, 2) := by decide +kernel
theorem d_M_init_41 : decode b_M_init 41 = .ok (.putfield 24, 3) := by decide +kernel
theorem d_M_init_44 : decode b_M_init 44 = .ok (.aload_n 0, 1) := by decide +kernel
theorem d_M_init_45 : decode b_M_init 45 = .ok (.bipush 16, 2) := by decide +kernel
theorem d_M_init_47 : decode b_M_init 47 = .ok (.newarray .boolean, 2) := by decide +kernel
theorem d_M_init_49 : decode b_M_init 49 = .ok (.putfield 27, 3) := by decide +kernel
theorem d_M_init_52 : decode b_M_init 52 = .ok (.aload_n 0, 1) := by decide +kernel
theorem d_M_init_53 : decode b_M_init 53 = .ok (.bipush 16, 2) := by decide +kernel
theorem d_M_init_55 : decode b_M_init 55 = .ok (.newarray .int, 2) := by decide +kernel
theorem d_M_init_57 : decode b_M_init 57 = .ok (.putfield 30, 3) := by decide +kernel
theorem d_M_init_60 : decode b_M_init 60 = .ok (.aload_n 0, 1) := by decide +kernel
theorem d_M_init_61 : decode b_M_init 61 = .ok (.bipush 16, 2) := by decide +kernel
theorem d_M_init_63 : decode b_M_init 63 = .ok (.newarray .long, 2) := by decide +kernel
theorem d_M_init_65 : decode b_M_init 65 = .ok (.putfield 33, 3) := by decide +kernel
theorem d_M_init_68 : decode b_M_init 68 = .ok (.aload_n 0, 1) := by decide +kernel
theorem d_M_init_69 : decode b_M_init 69 = .ok (.bipush 16, 2) := by decide +kernel
theorem d_M_init_71 : decode b_M_init 71 = .ok (.newarray .long, 2) := by decide +kernel
theorem d_M_init_73 : decode b_M_init 73 = .ok (.putfield 36, 3) := by decide +kernel
theorem d_M_init_76 : decode b_M_init 76 = .ok (.aload_n 0, 1) := by decide +kernel
theorem d_M_init_77 : decode b_M_init 77 = .ok (.bipush 16, 2) := by decide +kernel
theorem d_M_init_79 : decode b_M_init 79 = .ok (.newarray .int, 2) := by decide +kernel
theorem d_M_init_81 : decode b_M_init 81 = .ok (.putfield 39, 3) := by decide +kernel
theorem d_M_init_84 : decode b_M_init 84 = .ok (.aload_n 0, 1) := by decide +kernel
theorem d_M_init_85 : decode b_M_init 85 = .ok (.bipush 16, 2) := by decide +kernel
theorem d_M_init_87 : decode b_M_init 87 = .ok (.newarray .int, 2) := by decide +kernel
theorem d_M_init_89 : decode b_M_init 89 = .ok (.putfield 42, 3) := by decide +kernel
theorem d_M_init_92 : decode b_M_init 92 = .ok (.aload_n 0, 1) := by decide +kernel
theorem d_M_init_93 : decode b_M_init 93 = .ok (.bipush 16, 2) := by decide +kernel
theorem d_M_init_95 : decode b_M_init 95 = .ok (.newarray .int, 2) := by decide +kernel
theorem d_M_init_97 : decode b_M_init 97 = .ok (.putfield 45, 3) := by decide +kernel
theorem d_M_init_100 : decode b_M_init 100 = .ok (.aload_n 0, 1) := by decide +kernel
theorem d_M_init_101 : decode b_M_init 101 = .ok (.bipush 16, 2) := by decide +kernel
theorem d_M_init_103 : decode b_M_init 103 = .ok (.newarray .boolean, 2) := by decide +kernel
theorem d_M_init_105 : decode b_M_init 105 = .ok (.putfield 48, 3) := by decide +kernel
theorem d_M_init_108 : decode b_M_init 108 = .ok (.aload_n 0, 1) := by decide +kernel
theorem d_M_init_109 : decode b_M_init 109 = .ok (.bipush 16, 2) := by decide +kernel
theorem d_M_init_111 : decode b_M_init 111 = .ok (.newarray .int, 2) := by decide +kernel
theorem d_M_init_113 : decode b_M_init 113 = .ok (.putfield 51, 3) := by decide +kernel
theorem d_M_init_116 : decode b_M_init 116 = .ok (.aload_n 0, 1) := by decide +kernel
theorem d_M_init_117 : decode b_M_init 117 = .ok (.bipush 16, 2) := by decide +kernel
theorem d_M_init_119 : decode b_M_init 119 = .ok (.newarray .int, 2) := by decide +kernel
theorem d_M_init_121 : decode b_M_init 121 = .ok (.putfield 54, 3) := by decide +kernel
theorem d_M_init_124 : decode b_M_init 124 = .ok (.aload_n 0, 1) := by decide +kernel
theorem d_M_init_125 : decode b_M_init 125 = .ok (.bipush 64, 2) := by decide +kernel
theorem d_M_init_127 : decode b_M_init 127 = .ok (.newarray .int, 2) := by decide +kernel
theorem d_M_init_129 : decode b_M_init 129 = .ok (.putfield 57, 3) := by decide +kernel
theorem d_M_init_132 : decode b_M_init 132 = .ok (.aload_n 0, 1) := by decide +kernel
theorem d_M_init_133 : decode b_M_init 133 = .ok (.bipush 64, 2) := by decide +kernel
theorem d_M_init_135 : decode b_M_init 135 = .ok (.newarray .int, 2) := by decide +kernel
theorem d_M_init_137 : decode b_M_init 137 = .ok (.putfield 60, 3) := by decide +kernel
theorem d_M_init_140 : decode b_M_init 140 = .ok (.aload_n 0, 1) := by decide +kernel
theorem d_M_init_141 : decode b_M_init 141 = .ok (.bipush 16, 2) := by decide +kernel
theorem d_M_init_143 : decode b_M_init 143 = .ok (.newarray .long, 2) := by decide +kernel
theorem d_M_init_145 : decode b_M_init 145 = .ok (.putfield 63, 3) := by decide +kernel
theorem d_M_init_148 : decode b_M_init 148 = .ok (.aload_n 0, 1) := by decide +kernel
theorem d_M_init_149 : decode b_M_init 149 = .ok (.bipush 16, 2) := by decide +kernel
theorem d_M_init_151 : decode b_M_init 151 = .ok (.newarray .boolean, 2) := by decide +kernel
theorem d_M_init_153 : decode b_M_init 153 = .ok (.putfield 66, 3) := by decide +kernel
theorem d_M_init_156 : decode b_M_init 156 = .ok (.aload_n 0, 1) := by decide +kernel
theorem d_M_init_157 : decode b_M_init 157 = .ok (.bipush 44, 2) := by decide +kernel
theorem d_M_init_159 : decode b_M_init 159 = .ok (.newarray .long, 2) := by decide +kernel
theorem d_M_init_161 : decode b_M_init 161 = .ok (.putfield 69, 3) := by decide +kernel
theorem d_M_init_164 : decode b_M_init 164 = .ok (.aload_n 0, 1) := by decide +kernel
theorem d_M_init_165 : decode b_M_init 165 = .ok (.bipush 44, 2) := by decide +kernel
theorem d_M_init_167 : decode b_M_init 167 = .ok (.newarray .long, 2) := by decide +kernel
theorem d_M_init_169 : decode b_M_init 169 = .ok (.putfield 72, 3) := by decide +kernel
theorem d_M_init_172 : decode b_M_init 172 = .ok (.return_, 1) := by decide +kernel
theorem d_M_lattice_0 : decode b_M_lattice 0 = .ok (.aload_n 0, 1) := by decide +kernel
theorem d_M_lattice_1 : decode b_M_lattice 1 = .ok (.getfield 42, 3) := by decide +kernel
theorem d_M_lattice_4 : decode b_M_lattice 4 = .ok (.aload_n 0, 1) := by decide +kernel
theorem d_M_lattice_5 : decode b_M_lattice 5 = .ok (.getfield 130, 3) := by decide +kernel
theorem d_M_lattice_8 : decode b_M_lattice 8 = .ok (.iaload, 1) := by decide +kernel
theorem d_M_lattice_9 : decode b_M_lattice 9 = .ok (.istore_n 1, 1) := by decide +kernel
theorem d_M_lattice_10 : decode b_M_lattice 10 = .ok (.aload_n 0, 1) := by decide +kernel
theorem d_M_lattice_11 : decode b_M_lattice 11 = .ok (.getfield 45, 3) := by decide +kernel
theorem d_M_lattice_14 : decode b_M_lattice 14 = .ok (.aload_n 0, 1) := by decide +kernel
theorem d_M_lattice_15 : decode b_M_lattice 15 = .ok (.getfield 130, 3) := by decide +kernel
theorem d_M_lattice_18 : decode b_M_lattice 18 = .ok (.iaload, 1) := by decide +kernel
theorem d_M_lattice_19 : decode b_M_lattice 19 = .ok (.i2l, 1) := by decide +kernel
theorem d_M_lattice_20 : decode b_M_lattice 20 = .ok (.lstore_n 2, 1) := by decide +kernel
theorem d_M_lattice_21 : decode b_M_lattice 21 = .ok (.iconst 0, 1) := by decide +kernel
theorem d_M_lattice_22 : decode b_M_lattice 22 = .ok (.istore 4, 2) := by decide +kernel
theorem d_M_lattice_24 : decode b_M_lattice 24 = .ok (.iload 4, 2) := by decide +kernel
theorem d_M_lattice_26 : decode b_M_lattice 26 = .ok (.iload_n 1, 1) := by decide +kernel
theorem d_M_lattice_27 : decode b_M_lattice 27 = .ok (.if_icmp .gt 37, 3) := by decide +kernel
theorem d_M_lattice_30 : decode b_M_lattice 30 = .ok (.aload_n 0, 1) := by decide +kernel
theorem d_M_lattice_31 : decode b_M_lattice 31 = .ok (.getfield 69, 3) := by decide +kernel
theorem d_M_lattice_34 : decode b_M_lattice 34 = .ok (.iload 4, 2) := by decide +kernel
theorem d_M_lattice_36 : decode b_M_lattice 36 = .ok (.aload_n 0, 1) := by decide +kernel
theorem d_M_lattice_37 : decode b_M_lattice 37 = .ok (.aload_n 0, 1) := by decide +kernel
theorem d_M_lattice_38 : decode b_M_lattice 38 = .ok (.getfield 157, 3) := by decide +kernel
theorem d_M_lattice_41 : decode b_M_lattice 41 = .ok (.iconst 2, 1) := by decide +kernel
theorem d_M_lattice_42 : decode b_M_lattice 42 = .ok (.iload 4, 2) := by decide +kernel
theorem d_M_lattice_44 : decode b_M_lattice 44 = .ok (.imul, 1) := by decide +kernel
theorem d_M_lattice_45 : decode b_M_lattice 45 = .ok (.iload_n 1, 1) := by decide +kernel
theorem d_M_lattice_46 : decode b_M_lattice 46 = .ok (.isub, 1) := by decide +kernel
theorem d_M_lattice_47 : decode b_M_lattice 47 = .ok (.i2l, 1) := by decide +kernel
theorem d_M_lattice_48 : decode b_M_lattice 48 = .ok (.aload_n 0, 1) := by decide +kernel
theorem d_M_lattice_49 : decode b_M_lattice 49 = .ok (.getfield 160, 3) := by decide +kernel
theorem d_M_lattice_52 : decode b_M_lattice 52 = .ok (.lmul, 1) := by decide +kernel
theorem d_M_lattice_53 : decode b_M_lattice 53 = .ok (.ladd, 1) := by decide +kernel
theorem d_M_lattice_54 : decode b_M_lattice 54 = .ok (.invokevirtual 154, 3) := by decide +kernel
theorem d_M_lattice_57 : decode b_M_lattice 57 = .ok (.lastore, 1) := by decide +kernel
theorem d_M_lattice_58 : decode b_M_lattice 58 = .ok (.iinc 4 1, 3) := by decide +kernel
theorem d_M_lattice_61 : decode b_M_lattice 61 = .ok (.goto (-37), 3) := by decide +kernel
theorem d_M_lattice_64 : decode b_M_lattice 64 = .ok (.iload_n 1, 1) := by decide +kernel
theorem d_M_lattice_65 : decode b_M_lattice 65 = .ok (.iconst 1, 1) := by decide +kernel
theorem d_M_lattice_66 : decode b_M_lattice 66 = .ok (.isub, 1) := by decide +kernel
theorem d_M_lattice_67 : decode b_M_lattice 67 = .ok (.istore 4, 2) := by decide +kernel
theorem d_M_lattice_69 : decode b_M_lattice 69 = .ok (.iload 4, 2) := by decide +kernel
theorem d_M_lattice_71 : decode b_M_lattice 71 = .ok (.ifCond .lt 79, 3) := by decide +kernel
theorem d_M_lattice_74 : decode b_M_lattice 74 = .ok (.iconst 0, 1) := by decide +kernel
theorem d_M_lattice_75 : decode b_M_lattice 75 = .ok (.istore 5, 2) := by decide +kernel
theorem d_M_lattice_77 : decode b_M_lattice 77 = .ok (.iload 5, 2) := by decide +kernel
theorem d_M_lattice_79 : decode b_M_lattice 79 = .ok (.iload 4, 2) := by decide +kernel
theorem d_M_lattice_81 : decode b_M_lattice 81 = .ok (.if_icmp .gt 63, 3) := by decide +kernel
theorem d_M_lattice_84 : decode b_M_lattice 84 = .ok (.aload_n 0, 1) := by decide +kernel
theorem d_M_lattice_85 : decode b_M_lattice 85 = .ok (.getfield 69, 3) := by decide +kernel
theorem d_M_lattice_88 : decode b_M_lattice 88 = .ok (.iload 5, 2) := by decide +kernel
theorem d_M_lattice_90 : decode b_M_lattice 90 = .ok (.aload_n 0, 1) := by decide +kernel
theorem d_M_lattice_91 : decode b_M_lattice 91 = .ok (.lload_n 2, 1) := by decide +kernel
theorem d_M_lattice_92 : decode b_M_lattice 92 = .ok (.aload_n 0, 1) := by decide +kernel
theorem d_M_lattice_93 : decode b_M_lattice 93 = .ok (.getfield 69, 3) := by decide +kernel
theorem d_M_lattice_96 : decode b_M_lattice 96 = .ok (.iload 5, 2) := by decide +kernel
theorem d_M_lattice_98 : decode b_M_lattice 98 = .ok (.iconst 1, 1) := by decide +kernel
theorem d_M_lattice_99 : decode b_M_lattice 99 = .ok (.iadd, 1) := by decide +kernel
theorem d_M_lattice_100 : decode b_M_lattice 100 = .ok (.laload, 1) := by decide +kernel
theorem d_M_lattice_101 : decode b_M_lattice 101 = .ok (.lmul, 1) := by decide +kernel
theorem d_M_lattice_102 : decode b_M_lattice 102 = .ok (.ldc2_w 163, 3) := by decide +kernel
theorem d_M_lattice_105 : decode b_M_lattice 105 = .ok (.lload_n 2, 1) := by decide +kernel
theorem d_M_lattice_106 : decode b_M_lattice 106 = .ok (.lsub, 1) := by decide +kernel
theorem d_M_lattice_107 : decode b_M_lattice 107 = .ok (.aload_n 0, 1) := by decide +kernel
theorem d_M_lattice_108 : decode b_M_lattice 108 = .ok (.getfield 69, 3) := by decide +kernel
theorem d_M_lattice_111 : decode b_M_lattice 111 = .ok (.iload 5, 2) := by decide +kernel
theorem d_M_lattice_113 : decode b_M_lattice 113 = .ok (.laload, 1) := by decide +kernel
theorem d_M_lattice_114 : decode b_M_lattice 114 = .ok (.lmul, 1) := by decide +kernel
theorem d_M_lattice_115 : decode b_M_lattice 115 = .ok (.ladd, 1) := by decide +kernel
theorem d_M_lattice_116 : decode b_M_lattice 116 = .ok (.aload_n 0, 1) := by decide +kernel
theorem d_M_lattice_117 : decode b_M_lattice 117 = .ok (.getfield 157, 3) := by decide +kernel
theorem d_M_lattice_120 : decode b_M_lattice 120 = .ok (.iconst 2, 1) := by decide +kernel
theorem d_M_lattice_121 : decode b_M_lattice 121 = .ok (.iload 5, 2) := by decide +kernel
theorem d_M_lattice_123 : decode b_M_lattice 123 = .ok (.imul, 1) := by decide +kernel
theorem d_M_lattice_124 : decode b_M_lattice 124 = .ok (.iload 4, 2) := by decide +kernel
theorem d_M_lattice_126 : decode b_M_lattice 126 = .ok (.isub, 1) := by decide +kernel
theorem d_M_lattice_127 : decode b_M_lattice 127 = .ok (.i2l, 1) := by decide +kernel
theorem d_M_lattice_128 : decode b_M_lattice 128 = .ok (.aload_n 0, 1) := by decide +kernel
theorem d_M_lattice_129 : decode b_M_lattice 129 = .ok (.getfield 160, 3) := by decide +kernel
theorem d_M_lattice_132 : decode b_M_lattice 132 = .ok (.lmul, 1) := by decide +kernel
theorem d_M_lattice_133 : decode b_M_lattice 133 = .ok (.ladd, 1) := by decide +kernel
theorem d_M_lattice_134 : decode b_M_lattice 134 = .ok (.invokevirtual 165, 3) := by decide +kernel
theorem d_M_lattice_137 : decode b_M_lattice 137 = .ok (.lastore, 1) := by decide +kernel
theorem d_M_lattice_138 : decode b_M_lattice 138 = .ok (.iinc 5 1, 3) := by decide +kernel
theorem d_M_lattice_141 : decode b_M_lattice 141 = .ok (.goto (-64), 3) := by decide +kernel
theorem d_M_lattice_144 : decode b_M_lattice 144 = .ok (.iinc 4 (-1), 3) := by decide +kernel
theorem d_M_lattice_147 : decode b_M_lattice 147 = .ok (.goto (-78), 3) := by decide +kernel
theorem d_M_lattice_150 : decode b_M_lattice 150 = .ok (.aload_n 0, 1) := by decide +kernel
theorem d_M_lattice_151 : decode b_M_lattice 151 = .ok (.getfield 69, 3) := by decide +kernel
theorem d_M_lattice_154 : decode b_M_lattice 154 = .ok (.iconst 0, 1) := by decide +kernel
theorem d_M_lattice_155 : decode b_M_lattice 155 = .ok (.laload, 1) := by decide +kernel
theorem d_M_lattice_156 : decode b_M_lattice 156 = .ok (.lreturn, 1) := by decide +kernel
theorem d_M_net_0 : decode b_M_net 0 = .ok (.aload_n 0, 1) := by decide +kernel
theorem d_M_net_1 : decode b_M_net 1 = .ok (.getfield 54, 3) := by decide +kernel
theorem d_M_net_4 : decode b_M_net 4 = .ok (.aload_n 0, 1) := by decide +kernel
theorem d_M_net_5 : decode b_M_net 5 = .ok (.getfield 130, 3) := by decide +kernel
theorem d_M_net_8 : decode b_M_net 8 = .ok (.iaload, 1) := by decide +kernel
theorem d_M_net_9 : decode b_M_net 9 = .ok (.istore_n 1, 1) := by decide +kernel
theorem d_M_net_10 : decode b_M_net 10 = .ok (.aload_n 0, 1) := by decide +kernel
theorem d_M_net_11 : decode b_M_net 11 = .ok (.getfield 45, 3) := by decide +kernel
theorem d_M_net_14 : decode b_M_net 14 = .ok (.aload_n 0, 1) := by decide +kernel
theorem d_M_net_15 : decode b_M_net 15 = .ok (.getfield 130, 3) := by decide +kernel
theorem d_M_net_18 : decode b_M_net 18 = .ok (.iaload, 1) := by decide +kernel
theorem d_M_net_19 : decode b_M_net 19 = .ok (.i2l, 1) := by decide +kernel
theorem d_M_net_20 : decode b_M_net 20 = .ok (.lstore_n 2, 1) := by decide +kernel
theorem d_M_net_21 : decode b_M_net 21 = .ok (.lload_n 2, 1) := by decide +kernel
theorem d_M_net_22 : decode b_M_net 22 = .ok (.ldc2_w 182, 3) := by decide +kernel
theorem d_M_net_25 : decode b_M_net 25 = .ok (.lcmp, 1) := by decide +kernel
theorem d_M_net_26 : decode b_M_net 26 = .ok (.ifCond .le 10, 3) := by decide +kernel
theorem d_M_net_29 : decode b_M_net 29 = .ok (.aload_n 0, 1) := by decide +kernel
theorem d_M_net_30 : decode b_M_net 30 = .ok (.iconst 2, 1) := by decide +kernel
theorem d_M_net_31 : decode b_M_net 31 = .ok (.putfield 127, 3) := by decide +kernel
theorem d_M_net_34 : decode b_M_net 34 = .ok (.lconst 0, 1) := by decide +kernel
theorem d_M_net_35 : decode b_M_net 35 = .ok (.lreturn, 1) := by decide +kernel
theorem d_M_net_36 : decode b_M_net 36 = .ok (.iconst 0, 1) := by decide +kernel
theorem d_M_net_37 : decode b_M_net 37 = .ok (.istore 4, 2) := by decide +kernel
theorem d_M_net_39 : decode b_M_net 39 = .ok (.iload 4, 2) := by decide +kernel
theorem d_M_net_41 : decode b_M_net 41 = .ok (.iconst 2, 1) := by decide +kernel
theorem d_M_net_42 : decode b_M_net 42 = .ok (.iload_n 1, 1) := by decide +kernel
theorem d_M_net_43 : decode b_M_net 43 = .ok (.imul, 1) := by decide +kernel
theorem d_M_net_44 : decode b_M_net 44 = .ok (.if_icmp .gt 35, 3) := by decide +kernel
theorem d_M_net_47 : decode b_M_net 47 = .ok (.aload_n 0, 1) := by decide +kernel
theorem d_M_net_48 : decode b_M_net 48 = .ok (.getfield 69, 3) := by decide +kernel
theorem d_M_net_51 : decode b_M_net 51 = .ok (.iload 4, 2) := by decide +kernel
theorem d_M_net_53 : decode b_M_net 53 = .ok (.aload_n 0, 1) := by decide +kernel
theorem d_M_net_54 : decode b_M_net 54 = .ok (.aload_n 0, 1) := by decide +kernel
theorem d_M_net_55 : decode b_M_net 55 = .ok (.getfield 157, 3) := by decide +kernel
theorem d_M_net_58 : decode b_M_net 58 = .ok (.iload 4, 2) := by decide +kernel
theorem d_M_net_60 : decode b_M_net 60 = .ok (.iload_n 1, 1) := by decide +kernel
theorem d_M_net_61 : decode b_M_net 61 = .ok (.isub, 1) := by decide +kernel
theorem d_M_net_62 : decode b_M_net 62 = .ok (.i2l, 1) := by decide +kernel
theorem d_M_net_63 : decode b_M_net 63 = .ok (.aload_n 0, 1) := by decide +kernel
theorem d_M_net_64 : decode b_M_net 64 = .ok (.getfield 160, 3) := by decide +kernel
theorem d_M_net_67 : decode b_M_net 67 = .ok (.lmul, 1) := by decide +kernel
theorem d_M_net_68 : decode b_M_net 68 = .ok (.ladd, 1) := by decide +kernel
theorem d_M_net_69 : decode b_M_net 69 = .ok (.invokevirtual 154, 3) := by decide +kernel
theorem d_M_net_72 : decode b_M_net 72 = .ok (.lastore, 1) := by decide +kernel
theorem d_M_net_73 : decode b_M_net 73 = .ok (.iinc 4 1, 3) := by decide +kernel
theorem d_M_net_76 : decode b_M_net 76 = .ok (.goto (-37), 3) := by decide +kernel
theorem d_M_net_79 : decode b_M_net 79 = .ok (.iconst 0, 1) := by decide +kernel
theorem d_M_net_80 : decode b_M_net 80 = .ok (.istore 4, 2) := by decide +kernel
theorem d_M_net_82 : decode b_M_net 82 = .ok (.iload 4, 2) := by decide +kernel
theorem d_M_net_84 : decode b_M_net 84 = .ok (.aload_n 0, 1) := by decide +kernel
theorem d_M_net_85 : decode b_M_net 85 = .ok (.getfield 42, 3) := by decide +kernel
theorem d_M_net_88 : decode b_M_net 88 = .ok (.aload_n 0, 1) := by decide +kernel
theorem d_M_net_89 : decode b_M_net 89 = .ok (.getfield 130, 3) := by decide +kernel
theorem d_M_net_92 : decode b_M_net 92 = .ok (.iaload, 1) := by decide +kernel
theorem d_M_net_93 : decode b_M_net 93 = .ok (.if_icmp .ge 128, 3) := by decide +kernel
theorem d_M_net_96 : decode b_M_net 96 = .ok (.iconst 1, 1) := by decide +kernel
theorem d_M_net_97 : decode b_M_net 97 = .ok (.istore 5, 2) := by decide +kernel
theorem d_M_net_99 : decode b_M_net 99 = .ok (.iload 5, 2) := by decide +kernel
theorem d_M_net_101 : decode b_M_net 101 = .ok (.iconst 2, 1) := by decide +kernel
theorem d_M_net_102 : decode b_M_net 102 = .ok (.iload_n 1, 1) := by decide +kernel
theorem d_M_net_103 : decode b_M_net 103 = .ok (.imul, 1) := by decide +kernel
theorem d_M_net_104 : decode b_M_net 104 = .ok (.if_icmp .ge 80, 3) := by decide +kernel
theorem d_M_net_107 : decode b_M_net 107 = .ok (.aload_n 0, 1) := by decide +kernel
theorem d_M_net_108 : decode b_M_net 108 = .ok (.getfield 72, 3) := by decide +kernel
theorem d_M_net_111 : decode b_M_net 111 = .ok (.iload 5, 2) := by decide +kernel
theorem d_M_net_113 : decode b_M_net 113 = .ok (.aload_n 0, 1) := by decide +kernel
theorem d_M_net_114 : decode b_M_net 114 = .ok (.ldc2_w 163, 3) := by decide +kernel
theorem d_M_net_117 : decode b_M_net 117 = .ok (.aload_n 0, 1) := by decide +kernel
theorem d_M_net_118 : decode b_M_net 118 = .ok (.getfield 69, 3) := by decide +kernel
theorem d_M_net_121 : decode b_M_net 121 = .ok (.iload 5, 2) := by decide +kernel
theorem d_M_net_123 : decode b_M_net 123 = .ok (.laload, 1) := by decide +kernel
theorem d_M_net_124 : decode b_M_net 124 = .ok (.lmul, 1) := by decide +kernel
theorem d_M_net_125 : decode b_M_net 125 = .ok (.lload_n 2, 1) := by decide +kernel
theorem d_M_net_126 : decode b_M_net 126 = .ok (.aload_n 0, 1) := by decide +kernel
theorem d_M_net_127 : decode b_M_net 127 = .ok (.getfield 69, 3) := by decide +kernel
theorem d_M_net_130 : decode b_M_net 130 = .ok (.iload 5, 2) := by decide +kernel
theorem d_M_net_132 : decode b_M_net 132 = .ok (.iconst 1, 1) := by decide +kernel
theorem d_M_net_133 : decode b_M_net 133 = .ok (.iadd, 1) := by decide +kernel
theorem d_M_net_134 : decode b_M_net 134 = .ok (.laload, 1) := by decide +kernel
theorem d_M_net_135 : decode b_M_net 135 = .ok (.ldc2_w 176, 3) := by decide +kernel
theorem d_M_net_138 : decode b_M_net 138 = .ok (.aload_n 0, 1) := by decide +kernel
theorem d_M_net_139 : decode b_M_net 139 = .ok (.getfield 69, 3) := by decide +kernel
theorem d_M_net_142 : decode b_M_net 142 = .ok (.iload 5, 2) := by decide +kernel
theorem d_M_net_144 : decode b_M_net 144 = .ok (.laload, 1) := by decide +kernel
theorem d_M_net_145 : decode b_M_net 145 = .ok (.lmul, 1) := by decide +kernel
theorem d_M_net_146 : decode b_M_net 146 = .ok (.lsub, 1) := by decide +kernel
theorem d_M_net_147 : decode b_M_net 147 = .ok (.aload_n 0, 1) := by decide +kernel
theorem d_M_net_148 : decode b_M_net 148 = .ok (.getfield 69, 3) := by decide +kernel
theorem d_M_net_151 : decode b_M_net 151 = .ok (.iload 5, 2) := by decide +kernel
theorem d_M_net_153 : decode b_M_net 153 = .ok (.iconst 1, 1) := by decide +kernel
theorem d_M_net_154 : decode b_M_net 154 = .ok (.isub, 1) := by decide +kernel
theorem d_M_net_155 : decode b_M_net 155 = .ok (.laload, 1) := by decide +kernel
theorem d_M_net_156 : decode b_M_net 156 = .ok (.ladd, 1) := by decide +kernel
theorem d_M_net_157 : decode b_M_net 157 = .ok (.lmul, 1) := by decide +kernel
theorem d_M_net_158 : decode b_M_net 158 = .ok (.ladd, 1) := by decide +kernel
theorem d_M_net_159 : decode b_M_net 159 = .ok (.aload_n 0, 1) := by decide +kernel
theorem d_M_net_160 : decode b_M_net 160 = .ok (.getfield 157, 3) := by decide +kernel
theorem d_M_net_163 : decode b_M_net 163 = .ok (.iload 5, 2) := by decide +kernel
theorem d_M_net_165 : decode b_M_net 165 = .ok (.iload_n 1, 1) := by decide +kernel
theorem d_M_net_166 : decode b_M_net 166 = .ok (.isub, 1) := by decide +kernel
theorem d_M_net_167 : decode b_M_net 167 = .ok (.i2l, 1) := by decide +kernel
theorem d_M_net_168 : decode b_M_net 168 = .ok (.aload_n 0, 1) := by decide +kernel
theorem d_M_net_169 : decode b_M_net 169 = .ok (.getfield 160, 3) := by decide +kernel
theorem d_M_net_172 : decode b_M_net 172 = .ok (.lmul, 1) := by decide +kernel
theorem d_M_net_173 : decode b_M_net 173 = .ok (.ladd, 1) := by decide +kernel
theorem d_M_net_174 : decode b_M_net 174 = .ok (.invokevirtual 165, 3) := by decide +kernel
theorem d_M_net_177 : decode b_M_net 177 = .ok (.lastore, 1) := by decide +kernel
theorem d_M_net_178 : decode b_M_net 178 = .ok (.iinc 5 1, 3) := by decide +kernel
theorem d_M_net_181 : decode b_M_net 181 = .ok (.goto (-82), 3) := by decide +kernel
theorem d_M_net_184 : decode b_M_net 184 = .ok (.iconst 1, 1) := by decide +kernel
theorem d_M_net_185 : decode b_M_net 185 = .ok (.istore 5, 2) := by decide +kernel
theorem d_M_net_187 : decode b_M_net 187 = .ok (.iload 5, 2) := by decide +kernel
theorem d_M_net_189 : decode b_M_net 189 = .ok (.iconst 2, 1) := by decide +kernel
theorem d_M_net_190 : decode b_M_net 190 = .ok (.iload_n 1, 1) := by decide +kernel
theorem d_M_net_191 : decode b_M_net 191 = .ok (.imul, 1) := by decide +kernel
theorem d_M_net_192 : decode b_M_net 192 = .ok (.if_icmp .ge 23, 3) := by decide +kernel
theorem d_M_net_195 : decode b_M_net 195 = .ok (.aload_n 0, 1) := by decide +kernel
theorem d_M_net_196 : decode b_M_net 196 = .ok (.getfield 69, 3) := by decide +kernel
theorem d_M_net_199 : decode b_M_net 199 = .ok (.iload 5, 2) := by decide +kernel
theorem d_M_net_201 : decode b_M_net 201 = .ok (.aload_n 0, 1) := by decide +kernel
theorem d_M_net_202 : decode b_M_net 202 = .ok (.getfield 72, 3) := by decide +kernel
theorem d_M_net_205 : decode b_M_net 205 = .ok (.iload 5, 2) := by decide +kernel
theorem d_M_net_207 : decode b_M_net 207 = .ok (.laload, 1) := by decide +kernel
theorem d_M_net_208 : decode b_M_net 208 = .ok (.lastore, 1) := by decide +kernel
theorem d_M_net_209 : decode b_M_net 209 = .ok (.iinc 5 1, 3) := by decide +kernel
theorem d_M_net_212 : decode b_M_net 212 = .ok (.goto (-25), 3) := by decide +kernel
theorem d_M_net_215 : decode b_M_net 215 = .ok (.iinc 4 1, 3) := by decide +kernel
theorem d_M_net_218 : decode b_M_net 218 = .ok (.goto (-136), 3) := by decide +kernel
theorem d_M_net_221 : decode b_M_net 221 = .ok (.aload_n 0, 1) := by decide +kernel
theorem d_M_net_222 : decode b_M_net 222 = .ok (.getfield 69, 3) := by decide +kernel
theorem d_M_net_225 : decode b_M_net 225 = .ok (.iload_n 1, 1) := by decide +kernel
theorem d_M_net_226 : decode b_M_net 226 = .ok (.laload, 1) := by decide +kernel
theorem d_M_net_227 : decode b_M_net 227 = .ok (.lreturn, 1) := by decide +kernel
theorem d_M_no_0 : decode b_M_no 0 = .ok (.iload_n 1, 1) := by decide +kernel
theorem d_M_no_1 : decode b_M_no 1 = .ok (.ifCond .lt 11, 3) := by decide +kernel
theorem d_M_no_4 : decode b_M_no 4 = .ok (.iload_n 1, 1) := by decide +kernel
theorem d_M_no_5 : decode b_M_no 5 = .ok (.aload_n 0, 1) := by decide +kernel
theorem d_M_no_6 : decode b_M_no 6 = .ok (.getfield 79, 3) := by decide +kernel
theorem d_M_no_9 : decode b_M_no 9 = .ok (.if_icmp .lt 7, 3) := by decide +kernel
theorem d_M_no_12 : decode b_M_no 12 = .ok (.iconst 1, 1) := by decide +kernel
theorem d_M_no_13 : decode b_M_no 13 = .ok (.goto 4, 3) := by decide +kernel
theorem d_M_no_16 : decode b_M_no 16 = .ok (.iconst 0, 1) := by decide +kernel
theorem d_M_no_17 : decode b_M_no 17 = .ok (.ireturn, 1) := by decide +kernel
theorem d_M_noOption_0 : decode b_M_noOption 0 = .ok (.aload_n 0, 1) := by decide +kernel
theorem d_M_noOption_1 : decode b_M_noOption 1 = .ok (.iload_n 1, 1) := by decide +kernel
theorem d_M_noOption_2 : decode b_M_noOption 2 = .ok (.invokevirtual 96, 3) := by decide +kernel
theorem d_M_noOption_5 : decode b_M_noOption 5 = .ok (.ifCond .ne 13, 3) := by decide +kernel
theorem d_M_noOption_8 : decode b_M_noOption 8 = .ok (.aload_n 0, 1) := by decide +kernel
theorem d_M_noOption_9 : decode b_M_noOption 9 = .ok (.getfield 7, 3) := by decide +kernel
theorem d_M_noOption_12 : decode b_M_noOption 12 = .ok (.iload_n 1, 1) := by decide +kernel
theorem d_M_noOption_13 : decode b_M_noOption 13 = .ok (.iaload, 1) := by decide +kernel
theorem d_M_noOption_14 : decode b_M_noOption 14 = .ok (.iconst 3, 1) := by decide +kernel
theorem d_M_noOption_15 : decode b_M_noOption 15 = .ok (.if_icmp .eq 7, 3) := by decide +kernel
theorem d_M_noOption_18 : decode b_M_noOption 18 = .ok (.iconst 1, 1) := by decide +kernel
theorem d_M_noOption_19 : decode b_M_noOption 19 = .ok (.goto 4, 3) := by decide +kernel
theorem d_M_noOption_22 : decode b_M_noOption 22 = .ok (.iconst 0, 1) := by decide +kernel
theorem d_M_noOption_23 : decode b_M_noOption 23 = .ok (.ireturn, 1) := by decide +kernel
theorem d_M_node_0 : decode b_M_node 0 = .ok (.aload_n 0, 1) := by decide +kernel
theorem d_M_node_1 : decode b_M_node 1 = .ok (.aload_n 0, 1) := by decide +kernel
theorem d_M_node_2 : decode b_M_node 2 = .ok (.iload_n 1, 1) := by decide +kernel
theorem d_M_node_3 : decode b_M_node 3 = .ok (.invokevirtual 96, 3) := by decide +kernel
theorem d_M_node_6 : decode b_M_node 6 = .ok (.ifCond .ne 12, 3) := by decide +kernel
theorem d_M_node_9 : decode b_M_node 9 = .ok (.iload_n 2, 1) := by decide +kernel
theorem d_M_node_10 : decode b_M_node 10 = .ok (.ifCond .lt 8, 3) := by decide +kernel
theorem d_M_node_13 : decode b_M_node 13 = .ok (.iload_n 2, 1) := by decide +kernel
theorem d_M_node_14 : decode b_M_node 14 = .ok (.iconst 5, 1) := by decide +kernel
theorem d_M_node_15 : decode b_M_node 15 = .ok (.if_icmp .le 7, 3) := by decide +kernel
theorem d_M_node_18 : decode b_M_node 18 = .ok (.iconst 1, 1) := by decide +kernel
theorem d_M_node_19 : decode b_M_node 19 = .ok (.goto 4, 3) := by decide +kernel
theorem d_M_node_22 : decode b_M_node 22 = .ok (.iconst 0, 1) := by decide +kernel
theorem d_M_node_23 : decode b_M_node 23 = .ok (.putfield 75, 3) := by decide +kernel
theorem d_M_node_26 : decode b_M_node 26 = .ok (.aload_n 0, 1) := by decide +kernel
theorem d_M_node_27 : decode b_M_node 27 = .ok (.getfield 75, 3) := by decide +kernel
theorem d_M_node_30 : decode b_M_node 30 = .ok (.ifCond .eq 5, 3) := by decide +kernel
theorem d_M_node_33 : decode b_M_node 33 = .ok (.iconst 0, 1) := by decide +kernel
theorem d_M_node_34 : decode b_M_node 34 = .ok (.ireturn, 1) := by decide +kernel
theorem d_M_node_35 : decode b_M_node 35 = .ok (.iload_n 2, 1) := by decide +kernel
theorem d_M_node_36 : decode b_M_node 36 = .ok (.ifCond .ne 10, 3) := by decide +kernel
theorem d_M_node_39 : decode b_M_node 39 = .ok (.aload_n 0, 1) := by decide +kernel
theorem d_M_node_40 : decode b_M_node 40 = .ok (.getfield 7, 3) := by decide +kernel
theorem d_M_node_43 : decode b_M_node 43 = .ok (.iload_n 1, 1) := by decide +kernel
theorem d_M_node_44 : decode b_M_node 44 = .ok (.iaload, 1) := by decide +kernel
theorem d_M_node_45 : decode b_M_node 45 = .ok (.ireturn, 1) := by decide +kernel
theorem d_M_node_46 : decode b_M_node 46 = .ok (.iload_n 2, 1) := by decide +kernel
theorem d_M_node_47 : decode b_M_node 47 = .ok (.iconst 1, 1) := by decide +kernel
theorem d_M_node_48 : decode b_M_node 48 = .ok (.if_icmp .ne 18, 3) := by decide +kernel
theorem d_M_node_51 : decode b_M_node 51 = .ok (.aload_n 0, 1) := by decide +kernel
theorem d_M_node_52 : decode b_M_node 52 = .ok (.getfield 20, 3) := by decide +kernel
theorem d_M_node_55 : decode b_M_node 55 = .ok (.iload_n 1, 1) := by decide +kernel
theorem d_M_node_56 : decode b_M_node 56 = .ok (.baload, 1) := by decide +kernel
theorem d_M_node_57 : decode b_M_node 57 = .ok (.ifCond .eq 7, 3) := by decide +kernel
theorem d_M_node_60 : decode b_M_node 60 = .ok (.iconst 1, 1) := by decide +kernel
theorem d_M_node_61 : decode b_M_node 61 = .ok (.goto 4, 3) := by decide +kernel
theorem d_M_node_64 : decode b_M_node 64 = .ok (.iconst 0, 1) := by decide +kernel
theorem d_M_node_65 : decode b_M_node 65 = .ok (.ireturn, 1) := by decide +kernel
theorem d_M_node_66 : decode b_M_node 66 = .ok (.iload_n 2, 1) := by decide +kernel
theorem d_M_node_67 : decode b_M_node 67 = .ok (.iconst 2, 1) := by decide +kernel
theorem d_M_node_68 : decode b_M_node 68 = .ok (.if_icmp .ne 18, 3) := by decide +kernel
theorem d_M_node_71 : decode b_M_node 71 = .ok (.aload_n 0, 1) := by decide +kernel
theorem d_M_node_72 : decode b_M_node 72 = .ok (.getfield 24, 3) := by decide +kernel
theorem d_M_node_75 : decode b_M_node 75 = .ok (.iload_n 1, 1) := by decide +kernel
theorem d_M_node_76 : decode b_M_node 76 = .ok (.baload, 1) := by decide +kernel
theorem d_M_node_77 : decode b_M_node 77 = .ok (.ifCond .eq 7, 3) := by decide +kernel
theorem d_M_node_80 : decode b_M_node 80 = .ok (.iconst 1, 1) := by decide +kernel
theorem d_M_node_81 : decode b_M_node 81 = .ok (.goto 4, 3) := by decide +kernel
theorem d_M_node_84 : decode b_M_node 84 = .ok (.iconst 0, 1) := by decide +kernel
theorem d_M_node_85 : decode b_M_node 85 = .ok (.ireturn, 1) := by decide +kernel
theorem d_M_node_86 : decode b_M_node 86 = .ok (.iload_n 2, 1) := by decide +kernel
theorem d_M_node_87 : decode b_M_node 87 = .ok (.iconst 3, 1) := by decide +kernel
theorem d_M_node_88 : decode b_M_node 88 = .ok (.if_icmp .ne 18, 3) := by decide +kernel
theorem d_M_node_91 : decode b_M_node 91 = .ok (.aload_n 0, 1) := by decide +kernel
theorem d_M_node_92 : decode b_M_node 92 = .ok (.getfield 27, 3) := by decide +kernel
theorem d_M_node_95 : decode b_M_node 95 = .ok (.iload_n 1, 1) := by decide +kernel
theorem d_M_node_96 : decode b_M_node 96 = .ok (.baload, 1) := by decide +kernel
theorem d_M_node_97 : decode b_M_node 97 = .ok (.ifCond .eq 7, 3) := by decide +kernel
theorem d_M_node_100 : decode b_M_node 100 = .ok (.iconst 1, 1) := by decide +kernel
theorem d_M_node_101 : decode b_M_node 101 = .ok (.goto 4, 3) := by decide +kernel
theorem d_M_node_104 : decode b_M_node 104 = .ok (.iconst 0, 1) := by decide +kernel
theorem d_M_node_105 : decode b_M_node 105 = .ok (.ireturn, 1) := by decide +kernel
theorem d_M_node_106 : decode b_M_node 106 = .ok (.iload_n 2, 1) := by decide +kernel
theorem d_M_node_107 : decode b_M_node 107 = .ok (.iconst 5, 1) := by decide +kernel
theorem d_M_node_108 : decode b_M_node 108 = .ok (.if_icmp .ne 10, 3) := by decide +kernel
theorem d_M_node_111 : decode b_M_node 111 = .ok (.aload_n 0, 1) := by decide +kernel
theorem d_M_node_112 : decode b_M_node 112 = .ok (.getfield 30, 3) := by decide +kernel
theorem d_M_node_115 : decode b_M_node 115 = .ok (.iload_n 1, 1) := by decide +kernel
theorem d_M_node_116 : decode b_M_node 116 = .ok (.iaload, 1) := by decide +kernel
theorem d_M_node_117 : decode b_M_node 117 = .ok (.ireturn, 1) := by decide +kernel
theorem d_M_node_118 : decode b_M_node 118 = .ok (.iconst 0, 1) := by decide +kernel
theorem d_M_node_119 : decode b_M_node 119 = .ok (.istore_n 3, 1) := by decide +kernel
theorem d_M_node_120 : decode b_M_node 120 = .ok (.iconst 0, 1) := by decide +kernel
theorem d_M_node_121 : decode b_M_node 121 = .ok (.istore 4, 2) := by decide +kernel
theorem d_M_node_123 : decode b_M_node 123 = .ok (.iload 4, 2) := by decide +kernel
theorem d_M_node_125 : decode b_M_node 125 = .ok (.iconst 4, 1) := by decide +kernel
theorem d_M_node_126 : decode b_M_node 126 = .ok (.if_icmp .ge 26, 3) := by decide +kernel
theorem d_M_node_129 : decode b_M_node 129 = .ok (.aload_n 0, 1) := by decide +kernel
theorem d_M_node_130 : decode b_M_node 130 = .ok (.getfield 13, 3) := by decide +kernel
theorem d_M_node_133 : decode b_M_node 133 = .ok (.iload_n 1, 1) := by decide +kernel
theorem d_M_node_134 : decode b_M_node 134 = .ok (.iconst 4, 1) := by decide +kernel
theorem d_M_node_135 : decode b_M_node 135 = .ok (.imul, 1) := by decide +kernel
theorem d_M_node_136 : decode b_M_node 136 = .ok (.iload 4, 2) := by decide +kernel
theorem d_M_node_138 : decode b_M_node 138 = .ok (.iadd, 1) := by decide +kernel
theorem d_M_node_139 : decode b_M_node 139 = .ok (.iaload, 1) := by decide +kernel
theorem d_M_node_140 : decode b_M_node 140 = .ok (.ifCond .lt 6, 3) := by decide +kernel
theorem d_M_node_143 : decode b_M_node 143 = .ok (.iinc 3 1, 3) := by decide +kernel
theorem d_M_node_146 : decode b_M_node 146 = .ok (.iinc 4 1, 3) := by decide +kernel
theorem d_M_node_149 : decode b_M_node 149 = .ok (.goto (-26), 3) := by decide +kernel
theorem d_M_node_152 : decode b_M_node 152 = .ok (.iload_n 3, 1) := by decide +kernel
theorem d_M_node_153 : decode b_M_node 153 = .ok (.ireturn, 1) := by decide +kernel
theorem d_M_option_0 : decode b_M_option 0 = .ok (.aload_n 0, 1) := by decide +kernel
theorem d_M_option_1 : decode b_M_option 1 = .ok (.aload_n 0, 1) := by decide +kernel
theorem d_M_option_2 : decode b_M_option 2 = .ok (.iload_n 1, 1) := by decide +kernel
theorem d_M_option_3 : decode b_M_option 3 = .ok (.invokevirtual 96, 3) := by decide +kernel
theorem d_M_option_6 : decode b_M_option 6 = .ok (.ifCond .ne 45, 3) := by decide +kernel
theorem d_M_option_9 : decode b_M_option 9 = .ok (.aload_n 0, 1) := by decide +kernel
theorem d_M_option_10 : decode b_M_option 10 = .ok (.iload_n 2, 1) := by decide +kernel
theorem d_M_option_11 : decode b_M_option 11 = .ok (.invokevirtual 96, 3) := by decide +kernel
theorem d_M_option_14 : decode b_M_option 14 = .ok (.ifCond .ne 37, 3) := by decide +kernel
theorem d_M_option_17 : decode b_M_option 17 = .ok (.iload_n 3, 1) := by decide +kernel
theorem d_M_option_18 : decode b_M_option 18 = .ok (.ifCond .lt 33, 3) := by decide +kernel
theorem d_M_option_21 : decode b_M_option 21 = .ok (.iload_n 3, 1) := by decide +kernel
theorem d_M_option_22 : decode b_M_option 22 = .ok (.iconst 3, 1) := by decide +kernel
theorem d_M_option_23 : decode b_M_option 23 = .ok (.if_icmp .gt 28, 3) := by decide +kernel
theorem d_M_option_26 : decode b_M_option 26 = .ok (.aload_n 0, 1) := by decide +kernel
theorem d_M_option_27 : decode b_M_option 27 = .ok (.dload 4, 2) := by decide +kernel
theorem d_M_option_29 : decode b_M_option 29 = .ok (.ldc2_w 84, 3) := by decide +kernel
theorem d_M_option_32 : decode b_M_option 32 = .ok (.invokevirtual 86, 3) := by decide +kernel
theorem d_M_option_35 : decode b_M_option 35 = .ok (.ifCond .ne 16, 3) := by decide +kernel
theorem d_M_option_38 : decode b_M_option 38 = .ok (.iload 6, 2) := by decide +kernel
theorem d_M_option_40 : decode b_M_option 40 = .ok (.iconst 1, 1) := by decide +kernel
theorem d_M_option_41 : decode b_M_option 41 = .ok (.if_icmp .lt 10, 3) := by decide +kernel
theorem d_M_option_44 : decode b_M_option 44 = .ok (.iload 6, 2) := by decide +kernel
theorem d_M_option_46 : decode b_M_option 46 = .ok (.bipush 20, 2) := by decide +kernel
theorem d_M_option_48 : decode b_M_option 48 = .ok (.if_icmp .le 7, 3) := by decide +kernel
theorem d_M_option_51 : decode b_M_option 51 = .ok (.iconst 1, 1) := by decide +kernel
theorem d_M_option_52 : decode b_M_option 52 = .ok (.goto 17, 3) := by decide +kernel
theorem d_M_option_55 : decode b_M_option 55 = .ok (.aload_n 0, 1) := by decide +kernel
theorem d_M_option_56 : decode b_M_option 56 = .ok (.getfield 79, 3) := by decide +kernel
theorem d_M_option_59 : decode b_M_option 59 = .ok (.bipush 16, 2) := by decide +kernel
theorem d_M_option_61 : decode b_M_option 61 = .ok (.if_icmp .ne 7, 3) := by decide +kernel
theorem d_M_option_64 : decode b_M_option 64 = .ok (.iconst 2, 1) := by decide +kernel
theorem d_M_option_65 : decode b_M_option 65 = .ok (.goto 4, 3) := by decide +kernel
theorem d_M_option_68 : decode b_M_option 68 = .ok (.iconst 0, 1) := by decide +kernel
theorem d_M_option_69 : decode b_M_option 69 = .ok (.putfield 75, 3) := by decide +kernel
theorem d_M_option_72 : decode b_M_option 72 = .ok (.aload_n 0, 1) := by decide +kernel
theorem d_M_option_73 : decode b_M_option 73 = .ok (.getfield 75, 3) := by decide +kernel
theorem d_M_option_76 : decode b_M_option 76 = .ok (.ifCond .eq 5, 3) := by decide +kernel
theorem d_M_option_79 : decode b_M_option 79 = .ok (.iconst 0, 1) := by decide +kernel
theorem d_M_option_80 : decode b_M_option 80 = .ok (.ireturn, 1) := by decide +kernel
theorem d_M_option_81 : decode b_M_option 81 = .ok (.aload_n 0, 1) := by decide +kernel
theorem d_M_option_82 : decode b_M_option 82 = .ok (.iconst 3, 1) := by decide +kernel
theorem d_M_option_83 : decode b_M_option 83 = .ok (.iload_n 1, 1) := by decide +kernel
theorem d_M_option_84 : decode b_M_option 84 = .ok (.iload_n 2, 1) := by decide +kernel
theorem d_M_option_85 : decode b_M_option 85 = .ok (.invokevirtual 90, 3) := by decide +kernel
theorem d_M_option_88 : decode b_M_option 88 = .ok (.istore 7, 2) := by decide +kernel
theorem d_M_option_90 : decode b_M_option 90 = .ok (.aload_n 0, 1) := by decide +kernel
theorem d_M_option_91 : decode b_M_option 91 = .ok (.getfield 39, 3) := by decide +kernel
theorem d_M_option_94 : decode b_M_option 94 = .ok (.iload 7, 2) := by decide +kernel
theorem d_M_option_96 : decode b_M_option 96 = .ok (.iload_n 3, 1) := by decide +kernel
theorem d_M_option_97 : decode b_M_option 97 = .ok (.iastore, 1) := by decide +kernel
theorem d_M_option_98 : decode b_M_option 98 = .ok (.aload_n 0, 1) := by decide +kernel
theorem d_M_option_99 : decode b_M_option 99 = .ok (.getfield 33, 3) := by decide +kernel
theorem d_M_option_102 : decode b_M_option 102 = .ok (.iload 7, 2) := by decide +kernel
theorem d_M_option_104 : decode b_M_option 104 = .ok (.dload 4, 2) := by decide +kernel
theorem d_M_option_106 : decode b_M_option 106 = .ok (.ldc2_w 94, 3) := by decide +kernel
theorem d_M_option_109 : decode b_M_option 109 = .ok (.dmul, 1) := by decide +kernel
theorem d_M_option_110 : decode b_M_option 110 = .ok (.d2l, 1) := by decide +kernel
theorem d_M_option_111 : decode b_M_option 111 = .ok (.lastore, 1) := by decide +kernel
theorem d_M_option_112 : decode b_M_option 112 = .ok (.aload_n 0, 1) := by decide +kernel
theorem d_M_option_113 : decode b_M_option 113 = .ok (.getfield 42, 3) := by decide +kernel
theorem d_M_option_116 : decode b_M_option 116 = .ok (.iload 7, 2) := by decide +kernel
theorem d_M_option_118 : decode b_M_option 118 = .ok (.iload 6, 2) := by decide +kernel
theorem d_M_option_120 : decode b_M_option 120 = .ok (.iastore, 1) := by decide +kernel
theorem d_M_option_121 : decode b_M_option 121 = .ok (.iload 7, 2) := by decide +kernel
theorem d_M_option_123 : decode b_M_option 123 = .ok (.ireturn, 1) := by decide +kernel
theorem d_M_paths_0 : decode b_M_paths 0 = .ok (.ldc2_w 168, 3) := by decide +kernel
theorem d_M_paths_3 : decode b_M_paths 3 = .ok (.lstore_n 1, 1) := by decide +kernel
theorem d_M_paths_4 : decode b_M_paths 4 = .ok (.lconst 0, 1) := by decide +kernel
theorem d_M_paths_5 : decode b_M_paths 5 = .ok (.lstore_n 3, 1) := by decide +kernel
theorem d_M_paths_6 : decode b_M_paths 6 = .ok (.iconst 0, 1) := by decide +kernel
theorem d_M_paths_7 : decode b_M_paths 7 = .ok (.istore 5, 2) := by decide +kernel
theorem d_M_paths_9 : decode b_M_paths 9 = .ok (.iload 5, 2) := by decide +kernel
theorem d_M_paths_11 : decode b_M_paths 11 = .ok (.iconst 1, 1) := by decide +kernel
theorem d_M_paths_12 : decode b_M_paths 12 = .ok (.aload_n 0, 1) := by decide +kernel
theorem d_M_paths_13 : decode b_M_paths 13 = .ok (.getfield 54, 3) := by decide +kernel
theorem d_M_paths_16 : decode b_M_paths 16 = .ok (.aload_n 0, 1) := by decide +kernel
theorem d_M_paths_17 : decode b_M_paths 17 = .ok (.getfield 130, 3) := by decide +kernel
theorem d_M_paths_20 : decode b_M_paths 20 = .ok (.iaload, 1) := by decide +kernel
theorem d_M_paths_21 : decode b_M_paths 21 = .ok (.ishl, 1) := by decide +kernel
theorem d_M_paths_22 : decode b_M_paths 22 = .ok (.if_icmp .ge 168, 3) := by decide +kernel
theorem d_M_paths_25 : decode b_M_paths 25 = .ok (.aload_n 0, 1) := by decide +kernel
theorem d_M_paths_26 : decode b_M_paths 26 = .ok (.getfield 157, 3) := by decide +kernel
theorem d_M_paths_29 : decode b_M_paths 29 = .ok (.lstore 6, 2) := by decide +kernel
theorem d_M_paths_31 : decode b_M_paths 31 = .ok (.aload_n 0, 1) := by decide +kernel
theorem d_M_paths_32 : decode b_M_paths 32 = .ok (.getfield 13, 3) := by decide +kernel
theorem d_M_paths_35 : decode b_M_paths 35 = .ok (.aload_n 0, 1) := by decide +kernel
theorem d_M_paths_36 : decode b_M_paths 36 = .ok (.getfield 130, 3) := by decide +kernel
theorem d_M_paths_39 : decode b_M_paths 39 = .ok (.iconst 4, 1) := by decide +kernel
theorem d_M_paths_40 : decode b_M_paths 40 = .ok (.imul, 1) := by decide +kernel
theorem d_M_paths_41 : decode b_M_paths 41 = .ok (.iconst 3, 1) := by decide +kernel
theorem d_M_paths_42 : decode b_M_paths 42 = .ok (.iadd, 1) := by decide +kernel
theorem d_M_paths_43 : decode b_M_paths 43 = .ok (.iaload, 1) := by decide +kernel
theorem d_M_paths_44 : decode b_M_paths 44 = .ok (.ifCond .lt 17, 3) := by decide +kernel
theorem d_M_paths_47 : decode b_M_paths 47 = .ok (.lload 6, 2) := by decide +kernel
theorem d_M_paths_49 : decode b_M_paths 49 = .ok (.aload_n 0, 1) := by decide +kernel
theorem d_M_paths_50 : decode b_M_paths 50 = .ok (.getfield 133, 3) := by decide +kernel
theorem d_M_paths_53 : decode b_M_paths 53 = .ok (.lcmp, 1) := by decide +kernel
theorem d_M_paths_54 : decode b_M_paths 54 = .ok (.ifCond .lt 7, 3) := by decide +kernel
theorem d_M_paths_57 : decode b_M_paths 57 = .ok (.iconst 1, 1) := by decide +kernel
theorem d_M_paths_58 : decode b_M_paths 58 = .ok (.goto 4, 3) := by decide +kernel
theorem d_M_paths_61 : decode b_M_paths 61 = .ok (.iconst 0, 1) := by decide +kernel
theorem d_M_paths_62 : decode b_M_paths 62 = .ok (.istore 8, 2) := by decide +kernel
theorem d_M_paths_64 : decode b_M_paths 64 = .ok (.iconst 0, 1) := by decide +kernel
theorem d_M_paths_65 : decode b_M_paths 65 = .ok (.istore 9, 2) := by decide +kernel
theorem d_M_paths_67 : decode b_M_paths 67 = .ok (.iload 9, 2) := by decide +kernel
theorem d_M_paths_69 : decode b_M_paths 69 = .ok (.aload_n 0, 1) := by decide +kernel
theorem d_M_paths_70 : decode b_M_paths 70 = .ok (.getfield 42, 3) := by decide +kernel
theorem d_M_paths_73 : decode b_M_paths 73 = .ok (.aload_n 0, 1) := by decide +kernel
theorem d_M_paths_74 : decode b_M_paths 74 = .ok (.getfield 130, 3) := by decide +kernel
theorem d_M_paths_77 : decode b_M_paths 77 = .ok (.iaload, 1) := by decide +kernel
theorem d_M_paths_78 : decode b_M_paths 78 = .ok (.if_icmp .ge 92, 3) := by decide +kernel
theorem d_M_paths_81 : decode b_M_paths 81 = .ok (.lload_n 1, 1) := by decide +kernel
