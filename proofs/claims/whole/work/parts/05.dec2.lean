theorem d_M_paths_82 : decode b_M_paths 82 = .ok (.ldc2_w 170, 3) := by decide +kernel
theorem d_M_paths_85 : decode b_M_paths 85 = .ok (.lmul, 1) := by decide +kernel
theorem d_M_paths_86 : decode b_M_paths 86 = .ok (.ldc2_w 168, 3) := by decide +kernel
theorem d_M_paths_89 : decode b_M_paths 89 = .ok (.ladd, 1) := by decide +kernel
theorem d_M_paths_90 : decode b_M_paths 90 = .ok (.ldc2_w 172, 3) := by decide +kernel
theorem d_M_paths_93 : decode b_M_paths 93 = .ok (.land, 1) := by decide +kernel
theorem d_M_paths_94 : decode b_M_paths 94 = .ok (.lstore_n 1, 1) := by decide +kernel
theorem d_M_paths_95 : decode b_M_paths 95 = .ok (.lload 6, 2) := by decide +kernel
theorem d_M_paths_97 : decode b_M_paths 97 = .ok (.lload_n 1, 1) := by decide +kernel
theorem d_M_paths_98 : decode b_M_paths 98 = .ok (.ldc2_w 174, 3) := by decide +kernel
theorem d_M_paths_101 : decode b_M_paths 101 = .ok (.ldiv, 1) := by decide +kernel
theorem d_M_paths_102 : decode b_M_paths 102 = .ok (.ldc2_w 163, 3) := by decide +kernel
theorem d_M_paths_105 : decode b_M_paths 105 = .ok (.lrem, 1) := by decide +kernel
theorem d_M_paths_106 : decode b_M_paths 106 = .ok (.aload_n 0, 1) := by decide +kernel
theorem d_M_paths_107 : decode b_M_paths 107 = .ok (.getfield 45, 3) := by decide +kernel
theorem d_M_paths_110 : decode b_M_paths 110 = .ok (.aload_n 0, 1) := by decide +kernel
theorem d_M_paths_111 : decode b_M_paths 111 = .ok (.getfield 130, 3) := by decide +kernel
theorem d_M_paths_114 : decode b_M_paths 114 = .ok (.iaload, 1) := by decide +kernel
theorem d_M_paths_115 : decode b_M_paths 115 = .ok (.i2l, 1) := by decide +kernel
theorem d_M_paths_116 : decode b_M_paths 116 = .ok (.lcmp, 1) := by decide +kernel
theorem d_M_paths_117 : decode b_M_paths 117 = .ok (.ifCond .ge 10, 3) := by decide +kernel
theorem d_M_paths_120 : decode b_M_paths 120 = .ok (.aload_n 0, 1) := by decide +kernel
theorem d_M_paths_121 : decode b_M_paths 121 = .ok (.getfield 160, 3) := by decide +kernel
theorem d_M_paths_124 : decode b_M_paths 124 = .ok (.goto 8, 3) := by decide +kernel
theorem d_M_paths_127 : decode b_M_paths 127 = .ok (.aload_n 0, 1) := by decide +kernel
theorem d_M_paths_128 : decode b_M_paths 128 = .ok (.getfield 160, 3) := by decide +kernel
theorem d_M_paths_131 : decode b_M_paths 131 = .ok (.lneg, 1) := by decide +kernel
theorem d_M_paths_132 : decode b_M_paths 132 = .ok (.ladd, 1) := by decide +kernel
theorem d_M_paths_133 : decode b_M_paths 133 = .ok (.lstore 6, 2) := by decide +kernel
theorem d_M_paths_135 : decode b_M_paths 135 = .ok (.aload_n 0, 1) := by decide +kernel
theorem d_M_paths_136 : decode b_M_paths 136 = .ok (.getfield 13, 3) := by decide +kernel
theorem d_M_paths_139 : decode b_M_paths 139 = .ok (.aload_n 0, 1) := by decide +kernel
theorem d_M_paths_140 : decode b_M_paths 140 = .ok (.getfield 130, 3) := by decide +kernel
theorem d_M_paths_143 : decode b_M_paths 143 = .ok (.iconst 4, 1) := by decide +kernel
theorem d_M_paths_144 : decode b_M_paths 144 = .ok (.imul, 1) := by decide +kernel
theorem d_M_paths_145 : decode b_M_paths 145 = .ok (.iconst 3, 1) := by decide +kernel
theorem d_M_paths_146 : decode b_M_paths 146 = .ok (.iadd, 1) := by decide +kernel
theorem d_M_paths_147 : decode b_M_paths 147 = .ok (.iaload, 1) := by decide +kernel
theorem d_M_paths_148 : decode b_M_paths 148 = .ok (.ifCond .lt 16, 3) := by decide +kernel
theorem d_M_paths_151 : decode b_M_paths 151 = .ok (.lload 6, 2) := by decide +kernel
theorem d_M_paths_153 : decode b_M_paths 153 = .ok (.aload_n 0, 1) := by decide +kernel
theorem d_M_paths_154 : decode b_M_paths 154 = .ok (.getfield 133, 3) := by decide +kernel
theorem d_M_paths_157 : decode b_M_paths 157 = .ok (.lcmp, 1) := by decide +kernel
theorem d_M_paths_158 : decode b_M_paths 158 = .ok (.ifCond .lt 6, 3) := by decide +kernel
theorem d_M_paths_161 : decode b_M_paths 161 = .ok (.iconst 1, 1) := by decide +kernel
theorem d_M_paths_162 : decode b_M_paths 162 = .ok (.istore 8, 2) := by decide +kernel
theorem d_M_paths_164 : decode b_M_paths 164 = .ok (.iinc 9 1, 3) := by decide +kernel
theorem d_M_paths_167 : decode b_M_paths 167 = .ok (.goto (-100), 3) := by decide +kernel
theorem d_M_paths_170 : decode b_M_paths 170 = .ok (.iload 8, 2) := by decide +kernel
theorem d_M_paths_172 : decode b_M_paths 172 = .ok (.ifCond .ne 12, 3) := by decide +kernel
theorem d_M_paths_175 : decode b_M_paths 175 = .ok (.lload_n 3, 1) := by decide +kernel
theorem d_M_paths_176 : decode b_M_paths 176 = .ok (.aload_n 0, 1) := by decide +kernel
theorem d_M_paths_177 : decode b_M_paths 177 = .ok (.lload 6, 2) := by decide +kernel
theorem d_M_paths_179 : decode b_M_paths 179 = .ok (.invokevirtual 154, 3) := by decide +kernel
theorem d_M_paths_182 : decode b_M_paths 182 = .ok (.ladd, 1) := by decide +kernel
theorem d_M_paths_183 : decode b_M_paths 183 = .ok (.lstore_n 3, 1) := by decide +kernel
theorem d_M_paths_184 : decode b_M_paths 184 = .ok (.iinc 5 1, 3) := by decide +kernel
theorem d_M_paths_187 : decode b_M_paths 187 = .ok (.goto (-178), 3) := by decide +kernel
theorem d_M_paths_190 : decode b_M_paths 190 = .ok (.aload_n 0, 1) := by decide +kernel
theorem d_M_paths_191 : decode b_M_paths 191 = .ok (.aload_n 0, 1) := by decide +kernel
theorem d_M_paths_192 : decode b_M_paths 192 = .ok (.lload_n 3, 1) := by decide +kernel
theorem d_M_paths_193 : decode b_M_paths 193 = .ok (.ldc2_w 176, 3) := by decide +kernel
theorem d_M_paths_196 : decode b_M_paths 196 = .ok (.lmul, 1) := by decide +kernel
theorem d_M_paths_197 : decode b_M_paths 197 = .ok (.lconst 1, 1) := by decide +kernel
theorem d_M_paths_198 : decode b_M_paths 198 = .ok (.aload_n 0, 1) := by decide +kernel
theorem d_M_paths_199 : decode b_M_paths 199 = .ok (.getfield 54, 3) := by decide +kernel
theorem d_M_paths_202 : decode b_M_paths 202 = .ok (.aload_n 0, 1) := by decide +kernel
theorem d_M_paths_203 : decode b_M_paths 203 = .ok (.getfield 130, 3) := by decide +kernel
theorem d_M_paths_206 : decode b_M_paths 206 = .ok (.iaload, 1) := by decide +kernel
theorem d_M_paths_207 : decode b_M_paths 207 = .ok (.lshl, 1) := by decide +kernel
theorem d_M_paths_208 : decode b_M_paths 208 = .ok (.ladd, 1) := by decide +kernel
theorem d_M_paths_209 : decode b_M_paths 209 = .ok (.ldc2_w 176, 3) := by decide +kernel
theorem d_M_paths_212 : decode b_M_paths 212 = .ok (.aload_n 0, 1) := by decide +kernel
theorem d_M_paths_213 : decode b_M_paths 213 = .ok (.getfield 54, 3) := by decide +kernel
theorem d_M_paths_216 : decode b_M_paths 216 = .ok (.aload_n 0, 1) := by decide +kernel
theorem d_M_paths_217 : decode b_M_paths 217 = .ok (.getfield 130, 3) := by decide +kernel
theorem d_M_paths_220 : decode b_M_paths 220 = .ok (.iaload, 1) := by decide +kernel
theorem d_M_paths_221 : decode b_M_paths 221 = .ok (.lshl, 1) := by decide +kernel
theorem d_M_paths_222 : decode b_M_paths 222 = .ok (.invokevirtual 146, 3) := by decide +kernel
theorem d_M_paths_225 : decode b_M_paths 225 = .ok (.invokevirtual 150, 3) := by decide +kernel
theorem d_M_paths_228 : decode b_M_paths 228 = .ok (.lstore 5, 2) := by decide +kernel
theorem d_M_paths_230 : decode b_M_paths 230 = .ok (.iconst 0, 1) := by decide +kernel
theorem d_M_paths_231 : decode b_M_paths 231 = .ok (.istore 7, 2) := by decide +kernel
theorem d_M_paths_233 : decode b_M_paths 233 = .ok (.iload 7, 2) := by decide +kernel
theorem d_M_paths_235 : decode b_M_paths 235 = .ok (.aload_n 0, 1) := by decide +kernel
theorem d_M_paths_236 : decode b_M_paths 236 = .ok (.getfield 42, 3) := by decide +kernel
theorem d_M_paths_239 : decode b_M_paths 239 = .ok (.aload_n 0, 1) := by decide +kernel
theorem d_M_paths_240 : decode b_M_paths 240 = .ok (.getfield 130, 3) := by decide +kernel
theorem d_M_paths_243 : decode b_M_paths 243 = .ok (.iaload, 1) := by decide +kernel
theorem d_M_paths_244 : decode b_M_paths 244 = .ok (.if_icmp .ge 33, 3) := by decide +kernel
theorem d_M_paths_247 : decode b_M_paths 247 = .ok (.aload_n 0, 1) := by decide +kernel
theorem d_M_paths_248 : decode b_M_paths 248 = .ok (.aload_n 0, 1) := by decide +kernel
theorem d_M_paths_249 : decode b_M_paths 249 = .ok (.aload_n 0, 1) := by decide +kernel
theorem d_M_paths_250 : decode b_M_paths 250 = .ok (.getfield 139, 3) := by decide +kernel
theorem d_M_paths_253 : decode b_M_paths 253 = .ok (.lload 5, 2) := by decide +kernel
theorem d_M_paths_255 : decode b_M_paths 255 = .ok (.lmul, 1) := by decide +kernel
theorem d_M_paths_256 : decode b_M_paths 256 = .ok (.ldc2_w 178, 3) := by decide +kernel
theorem d_M_paths_259 : decode b_M_paths 259 = .ok (.ladd, 1) := by decide +kernel
theorem d_M_paths_260 : decode b_M_paths 260 = .ok (.ldc2_w 180, 3) := by decide +kernel
theorem d_M_paths_263 : decode b_M_paths 263 = .ok (.invokevirtual 146, 3) := by decide +kernel
theorem d_M_paths_266 : decode b_M_paths 266 = .ok (.invokevirtual 150, 3) := by decide +kernel
theorem d_M_paths_269 : decode b_M_paths 269 = .ok (.lstore 5, 2) := by decide +kernel
theorem d_M_paths_271 : decode b_M_paths 271 = .ok (.iinc 7 1, 3) := by decide +kernel
theorem d_M_paths_274 : decode b_M_paths 274 = .ok (.goto (-41), 3) := by decide +kernel
theorem d_M_paths_277 : decode b_M_paths 277 = .ok (.lload 5, 2) := by decide +kernel
theorem d_M_paths_279 : decode b_M_paths 279 = .ok (.lreturn, 1) := by decide +kernel
theorem d_M_payoff_0 : decode b_M_payoff 0 = .ok (.lload_n 1, 1) := by decide +kernel
theorem d_M_payoff_1 : decode b_M_payoff 1 = .ok (.aload_n 0, 1) := by decide +kernel
theorem d_M_payoff_2 : decode b_M_payoff 2 = .ok (.getfield 33, 3) := by decide +kernel
theorem d_M_payoff_5 : decode b_M_payoff 5 = .ok (.aload_n 0, 1) := by decide +kernel
theorem d_M_payoff_6 : decode b_M_payoff 6 = .ok (.getfield 130, 3) := by decide +kernel
theorem d_M_payoff_9 : decode b_M_payoff 9 = .ok (.laload, 1) := by decide +kernel
theorem d_M_payoff_10 : decode b_M_payoff 10 = .ok (.lsub, 1) := by decide +kernel
theorem d_M_payoff_11 : decode b_M_payoff 11 = .ok (.lstore_n 3, 1) := by decide +kernel
theorem d_M_payoff_12 : decode b_M_payoff 12 = .ok (.aload_n 0, 1) := by decide +kernel
theorem d_M_payoff_13 : decode b_M_payoff 13 = .ok (.getfield 13, 3) := by decide +kernel
theorem d_M_payoff_16 : decode b_M_payoff 16 = .ok (.aload_n 0, 1) := by decide +kernel
theorem d_M_payoff_17 : decode b_M_payoff 17 = .ok (.getfield 130, 3) := by decide +kernel
theorem d_M_payoff_20 : decode b_M_payoff 20 = .ok (.iconst 4, 1) := by decide +kernel
theorem d_M_payoff_21 : decode b_M_payoff 21 = .ok (.imul, 1) := by decide +kernel
theorem d_M_payoff_22 : decode b_M_payoff 22 = .ok (.iconst 3, 1) := by decide +kernel
theorem d_M_payoff_23 : decode b_M_payoff 23 = .ok (.iadd, 1) := by decide +kernel
theorem d_M_payoff_24 : decode b_M_payoff 24 = .ok (.iaload, 1) := by decide +kernel
theorem d_M_payoff_25 : decode b_M_payoff 25 = .ok (.ifCond .lt 14, 3) := by decide +kernel
theorem d_M_payoff_28 : decode b_M_payoff 28 = .ok (.lload_n 1, 1) := by decide +kernel
theorem d_M_payoff_29 : decode b_M_payoff 29 = .ok (.aload_n 0, 1) := by decide +kernel
theorem d_M_payoff_30 : decode b_M_payoff 30 = .ok (.getfield 133, 3) := by decide +kernel
theorem d_M_payoff_33 : decode b_M_payoff 33 = .ok (.lcmp, 1) := by decide +kernel
theorem d_M_payoff_34 : decode b_M_payoff 34 = .ok (.ifCond .lt 5, 3) := by decide +kernel
theorem d_M_payoff_37 : decode b_M_payoff 37 = .ok (.lconst 0, 1) := by decide +kernel
theorem d_M_payoff_38 : decode b_M_payoff 38 = .ok (.lreturn, 1) := by decide +kernel
theorem d_M_payoff_39 : decode b_M_payoff 39 = .ok (.aload_n 0, 1) := by decide +kernel
theorem d_M_payoff_40 : decode b_M_payoff 40 = .ok (.getfield 39, 3) := by decide +kernel
theorem d_M_payoff_43 : decode b_M_payoff 43 = .ok (.aload_n 0, 1) := by decide +kernel
theorem d_M_payoff_44 : decode b_M_payoff 44 = .ok (.getfield 130, 3) := by decide +kernel
theorem d_M_payoff_47 : decode b_M_payoff 47 = .ok (.iaload, 1) := by decide +kernel
theorem d_M_payoff_48 : decode b_M_payoff 48 = .ok (.ifCond .ne 15, 3) := by decide +kernel
theorem d_M_payoff_51 : decode b_M_payoff 51 = .ok (.lload_n 3, 1) := by decide +kernel
theorem d_M_payoff_52 : decode b_M_payoff 52 = .ok (.lconst 0, 1) := by decide +kernel
theorem d_M_payoff_53 : decode b_M_payoff 53 = .ok (.lcmp, 1) := by decide +kernel
theorem d_M_payoff_54 : decode b_M_payoff 54 = .ok (.ifCond .le 7, 3) := by decide +kernel
theorem d_M_payoff_57 : decode b_M_payoff 57 = .ok (.lload_n 3, 1) := by decide +kernel
theorem d_M_payoff_58 : decode b_M_payoff 58 = .ok (.goto 4, 3) := by decide +kernel
theorem d_M_payoff_61 : decode b_M_payoff 61 = .ok (.lconst 0, 1) := by decide +kernel
theorem d_M_payoff_62 : decode b_M_payoff 62 = .ok (.lreturn, 1) := by decide +kernel
theorem d_M_payoff_63 : decode b_M_payoff 63 = .ok (.aload_n 0, 1) := by decide +kernel
theorem d_M_payoff_64 : decode b_M_payoff 64 = .ok (.getfield 39, 3) := by decide +kernel
theorem d_M_payoff_67 : decode b_M_payoff 67 = .ok (.aload_n 0, 1) := by decide +kernel
theorem d_M_payoff_68 : decode b_M_payoff 68 = .ok (.getfield 130, 3) := by decide +kernel
theorem d_M_payoff_71 : decode b_M_payoff 71 = .ok (.iaload, 1) := by decide +kernel
theorem d_M_payoff_72 : decode b_M_payoff 72 = .ok (.iconst 1, 1) := by decide +kernel
theorem d_M_payoff_73 : decode b_M_payoff 73 = .ok (.if_icmp .ne 16, 3) := by decide +kernel
theorem d_M_payoff_76 : decode b_M_payoff 76 = .ok (.lload_n 3, 1) := by decide +kernel
theorem d_M_payoff_77 : decode b_M_payoff 77 = .ok (.lconst 0, 1) := by decide +kernel
theorem d_M_payoff_78 : decode b_M_payoff 78 = .ok (.lcmp, 1) := by decide +kernel
theorem d_M_payoff_79 : decode b_M_payoff 79 = .ok (.ifCond .ge 8, 3) := by decide +kernel
theorem d_M_payoff_82 : decode b_M_payoff 82 = .ok (.lload_n 3, 1) := by decide +kernel
theorem d_M_payoff_83 : decode b_M_payoff 83 = .ok (.lneg, 1) := by decide +kernel
theorem d_M_payoff_84 : decode b_M_payoff 84 = .ok (.goto 4, 3) := by decide +kernel
theorem d_M_payoff_87 : decode b_M_payoff 87 = .ok (.lconst 0, 1) := by decide +kernel
theorem d_M_payoff_88 : decode b_M_payoff 88 = .ok (.lreturn, 1) := by decide +kernel
theorem d_M_payoff_89 : decode b_M_payoff 89 = .ok (.aload_n 0, 1) := by decide +kernel
theorem d_M_payoff_90 : decode b_M_payoff 90 = .ok (.getfield 39, 3) := by decide +kernel
theorem d_M_payoff_93 : decode b_M_payoff 93 = .ok (.aload_n 0, 1) := by decide +kernel
theorem d_M_payoff_94 : decode b_M_payoff 94 = .ok (.getfield 130, 3) := by decide +kernel
theorem d_M_payoff_97 : decode b_M_payoff 97 = .ok (.iaload, 1) := by decide +kernel
theorem d_M_payoff_98 : decode b_M_payoff 98 = .ok (.iconst 2, 1) := by decide +kernel
theorem d_M_payoff_99 : decode b_M_payoff 99 = .ok (.if_icmp .ne 19, 3) := by decide +kernel
theorem d_M_payoff_102 : decode b_M_payoff 102 = .ok (.lload_n 3, 1) := by decide +kernel
theorem d_M_payoff_103 : decode b_M_payoff 103 = .ok (.lconst 0, 1) := by decide +kernel
theorem d_M_payoff_104 : decode b_M_payoff 104 = .ok (.lcmp, 1) := by decide +kernel
theorem d_M_payoff_105 : decode b_M_payoff 105 = .ok (.ifCond .lt 9, 3) := by decide +kernel
theorem d_M_payoff_108 : decode b_M_payoff 108 = .ok (.ldc2_w 137, 3) := by decide +kernel
theorem d_M_payoff_111 : decode b_M_payoff 111 = .ok (.goto 8, 3) := by decide +kernel
theorem d_M_payoff_114 : decode b_M_payoff 114 = .ok (.lconst 0, 1) := by decide +kernel
theorem d_M_payoff_115 : decode b_M_payoff 115 = .ok (.goto 4, 3) := by decide +kernel
theorem d_M_payoff_118 : decode b_M_payoff 118 = .ok (.lload_n 3, 1) := by decide +kernel
theorem d_M_payoff_119 : decode b_M_payoff 119 = .ok (.lreturn, 1) := by decide +kernel
theorem d_M_quote_0 : decode b_M_quote 0 = .ok (.aload_n 0, 1) := by decide +kernel
theorem d_M_quote_1 : decode b_M_quote 1 = .ok (.aload_n 0, 1) := by decide +kernel
theorem d_M_quote_2 : decode b_M_quote 2 = .ok (.dload_n 1, 1) := by decide +kernel
theorem d_M_quote_3 : decode b_M_quote 3 = .ok (.ldc2_w 84, 3) := by decide +kernel
theorem d_M_quote_6 : decode b_M_quote 6 = .ok (.invokevirtual 86, 3) := by decide +kernel
theorem d_M_quote_9 : decode b_M_quote 9 = .ok (.ifCond .eq 7, 3) := by decide +kernel
theorem d_M_quote_12 : decode b_M_quote 12 = .ok (.iconst 1, 1) := by decide +kernel
theorem d_M_quote_13 : decode b_M_quote 13 = .ok (.goto 17, 3) := by decide +kernel
theorem d_M_quote_16 : decode b_M_quote 16 = .ok (.aload_n 0, 1) := by decide +kernel
theorem d_M_quote_17 : decode b_M_quote 17 = .ok (.getfield 79, 3) := by decide +kernel
theorem d_M_quote_20 : decode b_M_quote 20 = .ok (.bipush 16, 2) := by decide +kernel
theorem d_M_quote_22 : decode b_M_quote 22 = .ok (.if_icmp .ne 7, 3) := by decide +kernel
theorem d_M_quote_25 : decode b_M_quote 25 = .ok (.iconst 2, 1) := by decide +kernel
theorem d_M_quote_26 : decode b_M_quote 26 = .ok (.goto 4, 3) := by decide +kernel
theorem d_M_quote_29 : decode b_M_quote 29 = .ok (.iconst 0, 1) := by decide +kernel
theorem d_M_quote_30 : decode b_M_quote 30 = .ok (.putfield 75, 3) := by decide +kernel
theorem d_M_quote_33 : decode b_M_quote 33 = .ok (.aload_n 0, 1) := by decide +kernel
theorem d_M_quote_34 : decode b_M_quote 34 = .ok (.getfield 75, 3) := by decide +kernel
theorem d_M_quote_37 : decode b_M_quote 37 = .ok (.ifCond .eq 5, 3) := by decide +kernel
theorem d_M_quote_40 : decode b_M_quote 40 = .ok (.iconst 0, 1) := by decide +kernel
theorem d_M_quote_41 : decode b_M_quote 41 = .ok (.ireturn, 1) := by decide +kernel
theorem d_M_quote_42 : decode b_M_quote 42 = .ok (.aload_n 0, 1) := by decide +kernel
theorem d_M_quote_43 : decode b_M_quote 43 = .ok (.iconst 0, 1) := by decide +kernel
theorem d_M_quote_44 : decode b_M_quote 44 = .ok (.iconst (-1), 1) := by decide +kernel
theorem d_M_quote_45 : decode b_M_quote 45 = .ok (.iconst (-1), 1) := by decide +kernel
theorem d_M_quote_46 : decode b_M_quote 46 = .ok (.invokevirtual 90, 3) := by decide +kernel
theorem d_M_quote_49 : decode b_M_quote 49 = .ok (.istore_n 3, 1) := by decide +kernel
theorem d_M_quote_50 : decode b_M_quote 50 = .ok (.aload_n 0, 1) := by decide +kernel
theorem d_M_quote_51 : decode b_M_quote 51 = .ok (.getfield 16, 3) := by decide +kernel
theorem d_M_quote_54 : decode b_M_quote 54 = .ok (.iload_n 3, 1) := by decide +kernel
theorem d_M_quote_55 : decode b_M_quote 55 = .ok (.dload_n 1, 1) := by decide +kernel
theorem d_M_quote_56 : decode b_M_quote 56 = .ok (.ldc2_w 94, 3) := by decide +kernel
theorem d_M_quote_59 : decode b_M_quote 59 = .ok (.dmul, 1) := by decide +kernel
theorem d_M_quote_60 : decode b_M_quote 60 = .ok (.d2l, 1) := by decide +kernel
theorem d_M_quote_61 : decode b_M_quote 61 = .ok (.lastore, 1) := by decide +kernel
theorem d_M_quote_62 : decode b_M_quote 62 = .ok (.iload_n 3, 1) := by decide +kernel
theorem d_M_quote_63 : decode b_M_quote 63 = .ok (.ireturn, 1) := by decide +kernel
theorem d_M_result_0 : decode b_M_result 0 = .ok (.aload_n 0, 1) := by decide +kernel
theorem d_M_result_1 : decode b_M_result 1 = .ok (.getfield 7, 3) := by decide +kernel
theorem d_M_result_4 : decode b_M_result 4 = .ok (.iload_n 1, 1) := by decide +kernel
theorem d_M_result_5 : decode b_M_result 5 = .ok (.iaload, 1) := by decide +kernel
theorem d_M_result_6 : decode b_M_result 6 = .ok (.iconst 3, 1) := by decide +kernel
theorem d_M_result_7 : decode b_M_result 7 = .ok (.if_icmp .ge 19, 3) := by decide +kernel
theorem d_M_result_10 : decode b_M_result 10 = .ok (.aload_n 0, 1) := by decide +kernel
theorem d_M_result_11 : decode b_M_result 11 = .ok (.getfield 16, 3) := by decide +kernel
theorem d_M_result_14 : decode b_M_result 14 = .ok (.aload_n 0, 1) := by decide +kernel
theorem d_M_result_15 : decode b_M_result 15 = .ok (.getfield 13, 3) := by decide +kernel
theorem d_M_result_18 : decode b_M_result 18 = .ok (.iload_n 1, 1) := by decide +kernel
theorem d_M_result_19 : decode b_M_result 19 = .ok (.iconst 4, 1) := by decide +kernel
theorem d_M_result_20 : decode b_M_result 20 = .ok (.imul, 1) := by decide +kernel
theorem d_M_result_21 : decode b_M_result 21 = .ok (.iaload, 1) := by decide +kernel
theorem d_M_result_22 : decode b_M_result 22 = .ok (.laload, 1) := by decide +kernel
theorem d_M_result_23 : decode b_M_result 23 = .ok (.goto 4, 3) := by decide +kernel
theorem d_M_result_26 : decode b_M_result 26 = .ok (.lconst 0, 1) := by decide +kernel
theorem d_M_result_27 : decode b_M_result 27 = .ok (.lstore_n 2, 1) := by decide +kernel
theorem d_M_result_28 : decode b_M_result 28 = .ok (.aload_n 0, 1) := by decide +kernel
theorem d_M_result_29 : decode b_M_result 29 = .ok (.getfield 7, 3) := by decide +kernel
theorem d_M_result_32 : decode b_M_result 32 = .ok (.iload_n 1, 1) := by decide +kernel
theorem d_M_result_33 : decode b_M_result 33 = .ok (.iaload, 1) := by decide +kernel
theorem d_M_result_34 : decode b_M_result 34 = .ok (.iconst 3, 1) := by decide +kernel
theorem d_M_result_35 : decode b_M_result 35 = .ok (.if_icmp .ge 21, 3) := by decide +kernel
theorem d_M_result_38 : decode b_M_result 38 = .ok (.aload_n 0, 1) := by decide +kernel
theorem d_M_result_39 : decode b_M_result 39 = .ok (.getfield 16, 3) := by decide +kernel
theorem d_M_result_42 : decode b_M_result 42 = .ok (.aload_n 0, 1) := by decide +kernel
theorem d_M_result_43 : decode b_M_result 43 = .ok (.getfield 13, 3) := by decide +kernel
theorem d_M_result_46 : decode b_M_result 46 = .ok (.iload_n 1, 1) := by decide +kernel
theorem d_M_result_47 : decode b_M_result 47 = .ok (.iconst 4, 1) := by decide +kernel
theorem d_M_result_48 : decode b_M_result 48 = .ok (.imul, 1) := by decide +kernel
theorem d_M_result_49 : decode b_M_result 49 = .ok (.iconst 1, 1) := by decide +kernel
theorem d_M_result_50 : decode b_M_result 50 = .ok (.iadd, 1) := by decide +kernel
theorem d_M_result_51 : decode b_M_result 51 = .ok (.iaload, 1) := by decide +kernel
theorem d_M_result_52 : decode b_M_result 52 = .ok (.laload, 1) := by decide +kernel
theorem d_M_result_53 : decode b_M_result 53 = .ok (.goto 4, 3) := by decide +kernel
theorem d_M_result_56 : decode b_M_result 56 = .ok (.lconst 0, 1) := by decide +kernel
theorem d_M_result_57 : decode b_M_result 57 = .ok (.lstore 4, 2) := by decide +kernel
theorem d_M_result_59 : decode b_M_result 59 = .ok (.aload_n 0, 1) := by decide +kernel
theorem d_M_result_60 : decode b_M_result 60 = .ok (.getfield 7, 3) := by decide +kernel
theorem d_M_result_63 : decode b_M_result 63 = .ok (.iload_n 1, 1) := by decide +kernel
theorem d_M_result_64 : decode b_M_result 64 = .ok (.iaload, 1) := by decide +kernel
theorem d_M_result_65 : decode b_M_result 65 = .ok (.iconst 1, 1) := by decide +kernel
theorem d_M_result_66 : decode b_M_result 66 = .ok (.if_icmp .ne 33, 3) := by decide +kernel
theorem d_M_result_69 : decode b_M_result 69 = .ok (.aload_n 0, 1) := by decide +kernel
theorem d_M_result_70 : decode b_M_result 70 = .ok (.aload_n 0, 1) := by decide +kernel
theorem d_M_result_71 : decode b_M_result 71 = .ok (.getfield 33, 3) := by decide +kernel
theorem d_M_result_74 : decode b_M_result 74 = .ok (.iload_n 1, 1) := by decide +kernel
theorem d_M_result_75 : decode b_M_result 75 = .ok (.laload, 1) := by decide +kernel
theorem d_M_result_76 : decode b_M_result 76 = .ok (.lload_n 2, 1) := by decide +kernel
theorem d_M_result_77 : decode b_M_result 77 = .ok (.lmul, 1) := by decide +kernel
theorem d_M_result_78 : decode b_M_result 78 = .ok (.aload_n 0, 1) := by decide +kernel
theorem d_M_result_79 : decode b_M_result 79 = .ok (.getfield 36, 3) := by decide +kernel
theorem d_M_result_82 : decode b_M_result 82 = .ok (.iload_n 1, 1) := by decide +kernel
theorem d_M_result_83 : decode b_M_result 83 = .ok (.laload, 1) := by decide +kernel
theorem d_M_result_84 : decode b_M_result 84 = .ok (.lload 4, 2) := by decide +kernel
theorem d_M_result_86 : decode b_M_result 86 = .ok (.lmul, 1) := by decide +kernel
theorem d_M_result_87 : decode b_M_result 87 = .ok (.ladd, 1) := by decide +kernel
theorem d_M_result_88 : decode b_M_result 88 = .ok (.ldc2_w 194, 3) := by decide +kernel
theorem d_M_result_91 : decode b_M_result 91 = .ok (.ladd, 1) := by decide +kernel
theorem d_M_result_92 : decode b_M_result 92 = .ok (.ldc2_w 182, 3) := by decide +kernel
theorem d_M_result_95 : decode b_M_result 95 = .ok (.invokevirtual 146, 3) := by decide +kernel
theorem d_M_result_98 : decode b_M_result 98 = .ok (.lreturn, 1) := by decide +kernel
theorem d_M_result_99 : decode b_M_result 99 = .ok (.aload_n 0, 1) := by decide +kernel
theorem d_M_result_100 : decode b_M_result 100 = .ok (.getfield 7, 3) := by decide +kernel
theorem d_M_result_103 : decode b_M_result 103 = .ok (.iload_n 1, 1) := by decide +kernel
theorem d_M_result_104 : decode b_M_result 104 = .ok (.iaload, 1) := by decide +kernel
theorem d_M_result_105 : decode b_M_result 105 = .ok (.iconst 2, 1) := by decide +kernel
theorem d_M_result_106 : decode b_M_result 106 = .ok (.if_icmp .ne 19, 3) := by decide +kernel
theorem d_M_result_109 : decode b_M_result 109 = .ok (.lload_n 2, 1) := by decide +kernel
theorem d_M_result_110 : decode b_M_result 110 = .ok (.lload 4, 2) := by decide +kernel
theorem d_M_result_112 : decode b_M_result 112 = .ok (.lcmp, 1) := by decide +kernel
theorem d_M_result_113 : decode b_M_result 113 = .ok (.ifCond .le 7, 3) := by decide +kernel
theorem d_M_result_116 : decode b_M_result 116 = .ok (.lload_n 2, 1) := by decide +kernel
theorem d_M_result_117 : decode b_M_result 117 = .ok (.goto 13, 3) := by decide +kernel
theorem d_M_result_120 : decode b_M_result 120 = .ok (.lload 4, 2) := by decide +kernel
theorem d_M_result_122 : decode b_M_result 122 = .ok (.goto 8, 3) := by decide +kernel
theorem d_M_result_125 : decode b_M_result 125 = .ok (.aload_n 0, 1) := by decide +kernel
theorem d_M_result_126 : decode b_M_result 126 = .ok (.iload_n 1, 1) := by decide +kernel
theorem d_M_result_127 : decode b_M_result 127 = .ok (.invokevirtual 196, 3) := by decide +kernel
theorem d_M_result_130 : decode b_M_result 130 = .ok (.lreturn, 1) := by decide +kernel
theorem d_M_set_0 : decode b_M_set 0 = .ok (.aload_n 0, 1) := by decide +kernel
theorem d_M_set_1 : decode b_M_set 1 = .ok (.aload_n 0, 1) := by decide +kernel
theorem d_M_set_2 : decode b_M_set 2 = .ok (.iload_n 1, 1) := by decide +kernel
theorem d_M_set_3 : decode b_M_set 3 = .ok (.invokevirtual 96, 3) := by decide +kernel
theorem d_M_set_6 : decode b_M_set 6 = .ok (.ifCond .ne 23, 3) := by decide +kernel
theorem d_M_set_9 : decode b_M_set 9 = .ok (.aload_n 0, 1) := by decide +kernel
theorem d_M_set_10 : decode b_M_set 10 = .ok (.getfield 7, 3) := by decide +kernel
theorem d_M_set_13 : decode b_M_set 13 = .ok (.iload_n 1, 1) := by decide +kernel
theorem d_M_set_14 : decode b_M_set 14 = .ok (.iaload, 1) := by decide +kernel
theorem d_M_set_15 : decode b_M_set 15 = .ok (.ifCond .ne 14, 3) := by decide +kernel
theorem d_M_set_18 : decode b_M_set 18 = .ok (.aload_n 0, 1) := by decide +kernel
theorem d_M_set_19 : decode b_M_set 19 = .ok (.dload_n 2, 1) := by decide +kernel
theorem d_M_set_20 : decode b_M_set 20 = .ok (.ldc2_w 84, 3) := by decide +kernel
theorem d_M_set_23 : decode b_M_set 23 = .ok (.invokevirtual 86, 3) := by decide +kernel
theorem d_M_set_26 : decode b_M_set 26 = .ok (.ifCond .eq 7, 3) := by decide +kernel
theorem d_M_set_29 : decode b_M_set 29 = .ok (.iconst 1, 1) := by decide +kernel
theorem d_M_set_30 : decode b_M_set 30 = .ok (.goto 4, 3) := by decide +kernel
theorem d_M_set_33 : decode b_M_set 33 = .ok (.iconst 0, 1) := by decide +kernel
theorem d_M_set_34 : decode b_M_set 34 = .ok (.putfield 75, 3) := by decide +kernel
theorem d_M_set_37 : decode b_M_set 37 = .ok (.aload_n 0, 1) := by decide +kernel
theorem d_M_set_38 : decode b_M_set 38 = .ok (.getfield 75, 3) := by decide +kernel
theorem d_M_set_41 : decode b_M_set 41 = .ok (.ifCond .eq 5, 3) := by decide +kernel
theorem d_M_set_44 : decode b_M_set 44 = .ok (.iconst 0, 1) := by decide +kernel
theorem d_M_set_45 : decode b_M_set 45 = .ok (.ireturn, 1) := by decide +kernel
theorem d_M_set_46 : decode b_M_set 46 = .ok (.dload_n 2, 1) := by decide +kernel
theorem d_M_set_47 : decode b_M_set 47 = .ok (.ldc2_w 94, 3) := by decide +kernel
theorem d_M_set_50 : decode b_M_set 50 = .ok (.dmul, 1) := by decide +kernel
theorem d_M_set_51 : decode b_M_set 51 = .ok (.d2l, 1) := by decide +kernel
theorem d_M_set_52 : decode b_M_set 52 = .ok (.lstore 4, 2) := by decide +kernel
theorem d_M_set_54 : decode b_M_set 54 = .ok (.aload_n 0, 1) := by decide +kernel
theorem d_M_set_55 : decode b_M_set 55 = .ok (.getfield 106, 3) := by decide +kernel
theorem d_M_set_58 : decode b_M_set 58 = .ok (.istore 6, 2) := by decide +kernel
theorem d_M_set_60 : decode b_M_set 60 = .ok (.lload 4, 2) := by decide +kernel
theorem d_M_set_62 : decode b_M_set 62 = .ok (.aload_n 0, 1) := by decide +kernel
theorem d_M_set_63 : decode b_M_set 63 = .ok (.getfield 16, 3) := by decide +kernel
theorem d_M_set_66 : decode b_M_set 66 = .ok (.iload_n 1, 1) := by decide +kernel
theorem d_M_set_67 : decode b_M_set 67 = .ok (.laload, 1) := by decide +kernel
theorem d_M_set_68 : decode b_M_set 68 = .ok (.lcmp, 1) := by decide +kernel
theorem d_M_set_69 : decode b_M_set 69 = .ok (.ifCond .eq 21, 3) := by decide +kernel
theorem d_M_set_72 : decode b_M_set 72 = .ok (.aload_n 0, 1) := by decide +kernel
theorem d_M_set_73 : decode b_M_set 73 = .ok (.getfield 16, 3) := by decide +kernel
theorem d_M_set_76 : decode b_M_set 76 = .ok (.iload_n 1, 1) := by decide +kernel
theorem d_M_set_77 : decode b_M_set 77 = .ok (.lload 4, 2) := by decide +kernel
theorem d_M_set_79 : decode b_M_set 79 = .ok (.lastore, 1) := by decide +kernel
theorem d_M_set_80 : decode b_M_set 80 = .ok (.aload_n 0, 1) := by decide +kernel
theorem d_M_set_81 : decode b_M_set 81 = .ok (.aload_n 0, 1) := by decide +kernel
theorem d_M_set_82 : decode b_M_set 82 = .ok (.iload_n 1, 1) := by decide +kernel
theorem d_M_set_83 : decode b_M_set 83 = .ok (.iconst 0, 1) := by decide +kernel
theorem d_M_set_84 : decode b_M_set 84 = .ok (.invokevirtual 109, 3) := by decide +kernel
theorem d_M_set_87 : decode b_M_set 87 = .ok (.invokevirtual 119, 3) := by decide +kernel
theorem d_M_set_90 : decode b_M_set 90 = .ok (.aload_n 0, 1) := by decide +kernel
theorem d_M_set_91 : decode b_M_set 91 = .ok (.getfield 106, 3) := by decide +kernel
theorem d_M_set_94 : decode b_M_set 94 = .ok (.iload 6, 2) := by decide +kernel
theorem d_M_set_96 : decode b_M_set 96 = .ok (.isub, 1) := by decide +kernel
theorem d_M_set_97 : decode b_M_set 97 = .ok (.ireturn, 1) := by decide +kernel
theorem d_M_tell_0 : decode b_M_tell 0 = .ok (.iload_n 1, 1) := by decide +kernel
theorem d_M_tell_1 : decode b_M_tell 1 = .ok (.istore_n 2, 1) := by decide +kernel
theorem d_M_tell_2 : decode b_M_tell 2 = .ok (.iload_n 2, 1) := by decide +kernel
theorem d_M_tell_3 : decode b_M_tell 3 = .ok (.ifCond .le 77, 3) := by decide +kernel
theorem d_M_tell_6 : decode b_M_tell 6 = .ok (.iinc 2 (-1), 3) := by decide +kernel
theorem d_M_tell_9 : decode b_M_tell 9 = .ok (.aload_n 0, 1) := by decide +kernel
theorem d_M_tell_10 : decode b_M_tell 10 = .ok (.getfield 57, 3) := by decide +kernel
theorem d_M_tell_13 : decode b_M_tell 13 = .ok (.iload_n 2, 1) := by decide +kernel
theorem d_M_tell_14 : decode b_M_tell 14 = .ok (.iaload, 1) := by decide +kernel
theorem d_M_tell_15 : decode b_M_tell 15 = .ok (.istore_n 3, 1) := by decide +kernel
theorem d_M_tell_16 : decode b_M_tell 16 = .ok (.aload_n 0, 1) := by decide +kernel
theorem d_M_tell_17 : decode b_M_tell 17 = .ok (.getfield 24, 3) := by decide +kernel
theorem d_M_tell_20 : decode b_M_tell 20 = .ok (.iload_n 3, 1) := by decide +kernel
theorem d_M_tell_21 : decode b_M_tell 21 = .ok (.baload, 1) := by decide +kernel
theorem d_M_tell_22 : decode b_M_tell 22 = .ok (.ifCond .eq 13, 3) := by decide +kernel
theorem d_M_tell_25 : decode b_M_tell 25 = .ok (.aload_n 0, 1) := by decide +kernel
theorem d_M_tell_26 : decode b_M_tell 26 = .ok (.getfield 27, 3) := by decide +kernel
theorem d_M_tell_29 : decode b_M_tell 29 = .ok (.iload_n 3, 1) := by decide +kernel
theorem d_M_tell_30 : decode b_M_tell 30 = .ok (.iconst 1, 1) := by decide +kernel
theorem d_M_tell_31 : decode b_M_tell 31 = .ok (.bastore, 1) := by decide +kernel
theorem d_M_tell_32 : decode b_M_tell 32 = .ok (.goto 45, 3) := by decide +kernel
theorem d_M_tell_35 : decode b_M_tell 35 = .ok (.aload_n 0, 1) := by decide +kernel
theorem d_M_tell_36 : decode b_M_tell 36 = .ok (.getfield 7, 3) := by decide +kernel
theorem d_M_tell_39 : decode b_M_tell 39 = .ok (.iload_n 3, 1) := by decide +kernel
theorem d_M_tell_40 : decode b_M_tell 40 = .ok (.iaload, 1) := by decide +kernel
theorem d_M_tell_41 : decode b_M_tell 41 = .ok (.ifCond .le 36, 3) := by decide +kernel
theorem d_M_tell_44 : decode b_M_tell 44 = .ok (.aload_n 0, 1) := by decide +kernel
theorem d_M_tell_45 : decode b_M_tell 45 = .ok (.getfield 20, 3) := by decide +kernel
theorem d_M_tell_48 : decode b_M_tell 48 = .ok (.iload_n 3, 1) := by decide +kernel
theorem d_M_tell_49 : decode b_M_tell 49 = .ok (.baload, 1) := by decide +kernel
theorem d_M_tell_50 : decode b_M_tell 50 = .ok (.ifCond .eq 27, 3) := by decide +kernel
theorem d_M_tell_53 : decode b_M_tell 53 = .ok (.aload_n 0, 1) := by decide +kernel
theorem d_M_tell_54 : decode b_M_tell 54 = .ok (.getfield 20, 3) := by decide +kernel
theorem d_M_tell_57 : decode b_M_tell 57 = .ok (.iload_n 3, 1) := by decide +kernel
theorem d_M_tell_58 : decode b_M_tell 58 = .ok (.iconst 0, 1) := by decide +kernel
theorem d_M_tell_59 : decode b_M_tell 59 = .ok (.bastore, 1) := by decide +kernel
theorem d_M_tell_60 : decode b_M_tell 60 = .ok (.aload_n 0, 1) := by decide +kernel
theorem d_M_tell_61 : decode b_M_tell 61 = .ok (.dup, 1) := by decide +kernel
theorem d_M_tell_62 : decode b_M_tell 62 = .ok (.getfield 106, 3) := by decide +kernel
theorem d_M_tell_65 : decode b_M_tell 65 = .ok (.iconst 1, 1) := by decide +kernel
theorem d_M_tell_66 : decode b_M_tell 66 = .ok (.iadd, 1) := by decide +kernel
theorem d_M_tell_67 : decode b_M_tell 67 = .ok (.putfield 106, 3) := by decide +kernel
theorem d_M_tell_70 : decode b_M_tell 70 = .ok (.aload_n 0, 1) := by decide +kernel
theorem d_M_tell_71 : decode b_M_tell 71 = .ok (.iload_n 3, 1) := by decide +kernel
theorem d_M_tell_72 : decode b_M_tell 72 = .ok (.iload_n 2, 1) := by decide +kernel
theorem d_M_tell_73 : decode b_M_tell 73 = .ok (.invokevirtual 109, 3) := by decide +kernel
theorem d_M_tell_76 : decode b_M_tell 76 = .ok (.istore_n 2, 1) := by decide +kernel
theorem d_M_tell_77 : decode b_M_tell 77 = .ok (.goto (-75), 3) := by decide +kernel
theorem d_M_tell_80 : decode b_M_tell 80 = .ok (.return_, 1) := by decide +kernel
theorem d_M_terms_0 : decode b_M_terms 0 = .ok (.aload_n 0, 1) := by decide +kernel
theorem d_M_terms_1 : decode b_M_terms 1 = .ok (.aload_n 0, 1) := by decide +kernel
theorem d_M_terms_2 : decode b_M_terms 2 = .ok (.iload_n 1, 1) := by decide +kernel
theorem d_M_terms_3 : decode b_M_terms 3 = .ok (.invokevirtual 113, 3) := by decide +kernel
theorem d_M_terms_6 : decode b_M_terms 6 = .ok (.ifCond .ne 33, 3) := by decide +kernel
theorem d_M_terms_9 : decode b_M_terms 9 = .ok (.aload_n 0, 1) := by decide +kernel
theorem d_M_terms_10 : decode b_M_terms 10 = .ok (.iload_n 1, 1) := by decide +kernel
theorem d_M_terms_11 : decode b_M_terms 11 = .ok (.iload_n 2, 1) := by decide +kernel
theorem d_M_terms_12 : decode b_M_terms 12 = .ok (.invokevirtual 116, 3) := by decide +kernel
theorem d_M_terms_15 : decode b_M_terms 15 = .ok (.ifCond .ne 24, 3) := by decide +kernel
theorem d_M_terms_18 : decode b_M_terms 18 = .ok (.iload_n 3, 1) := by decide +kernel
theorem d_M_terms_19 : decode b_M_terms 19 = .ok (.iconst 1, 1) := by decide +kernel
theorem d_M_terms_20 : decode b_M_terms 20 = .ok (.if_icmp .lt 19, 3) := by decide +kernel
theorem d_M_terms_23 : decode b_M_terms 23 = .ok (.iload_n 3, 1) := by decide +kernel
theorem d_M_terms_24 : decode b_M_terms 24 = .ok (.bipush 15, 2) := by decide +kernel
theorem d_M_terms_26 : decode b_M_terms 26 = .ok (.if_icmp .gt 13, 3) := by decide +kernel
theorem d_M_terms_29 : decode b_M_terms 29 = .ok (.aload_n 0, 1) := by decide +kernel
theorem d_M_terms_30 : decode b_M_terms 30 = .ok (.iload_n 1, 1) := by decide +kernel
theorem d_M_terms_31 : decode b_M_terms 31 = .ok (.iload 5, 2) := by decide +kernel
theorem d_M_terms_33 : decode b_M_terms 33 = .ok (.invokevirtual 116, 3) := by decide +kernel
theorem d_M_terms_36 : decode b_M_terms 36 = .ok (.ifCond .eq 7, 3) := by decide +kernel
theorem d_M_terms_39 : decode b_M_terms 39 = .ok (.iconst 1, 1) := by decide +kernel
theorem d_M_terms_40 : decode b_M_terms 40 = .ok (.goto 17, 3) := by decide +kernel
theorem d_M_terms_43 : decode b_M_terms 43 = .ok (.aload_n 0, 1) := by decide +kernel
theorem d_M_terms_44 : decode b_M_terms 44 = .ok (.getfield 24, 3) := by decide +kernel
theorem d_M_terms_47 : decode b_M_terms 47 = .ok (.iload_n 1, 1) := by decide +kernel
theorem d_M_terms_48 : decode b_M_terms 48 = .ok (.baload, 1) := by decide +kernel
theorem d_M_terms_49 : decode b_M_terms 49 = .ok (.ifCond .eq 7, 3) := by decide +kernel
theorem d_M_terms_52 : decode b_M_terms 52 = .ok (.iconst 2, 1) := by decide +kernel
theorem d_M_terms_53 : decode b_M_terms 53 = .ok (.goto 4, 3) := by decide +kernel
theorem d_M_terms_56 : decode b_M_terms 56 = .ok (.iconst 0, 1) := by decide +kernel
theorem d_M_terms_57 : decode b_M_terms 57 = .ok (.putfield 75, 3) := by decide +kernel
theorem d_M_terms_60 : decode b_M_terms 60 = .ok (.aload_n 0, 1) := by decide +kernel
theorem d_M_terms_61 : decode b_M_terms 61 = .ok (.getfield 75, 3) := by decide +kernel
theorem d_M_terms_64 : decode b_M_terms 64 = .ok (.ifCond .eq 4, 3) := by decide +kernel
theorem d_M_terms_67 : decode b_M_terms 67 = .ok (.return_, 1) := by decide +kernel
theorem d_M_terms_68 : decode b_M_terms 68 = .ok (.aload_n 0, 1) := by decide +kernel
theorem d_M_terms_69 : decode b_M_terms 69 = .ok (.getfield 13, 3) := by decide +kernel
theorem d_M_terms_72 : decode b_M_terms 72 = .ok (.iload_n 1, 1) := by decide +kernel
theorem d_M_terms_73 : decode b_M_terms 73 = .ok (.iconst 4, 1) := by decide +kernel
theorem d_M_terms_74 : decode b_M_terms 74 = .ok (.imul, 1) := by decide +kernel
theorem d_M_terms_75 : decode b_M_terms 75 = .ok (.iconst 2, 1) := by decide +kernel
theorem d_M_terms_76 : decode b_M_terms 76 = .ok (.iadd, 1) := by decide +kernel
theorem d_M_terms_77 : decode b_M_terms 77 = .ok (.iload_n 2, 1) := by decide +kernel
theorem d_M_terms_78 : decode b_M_terms 78 = .ok (.iastore, 1) := by decide +kernel
theorem d_M_terms_79 : decode b_M_terms 79 = .ok (.aload_n 0, 1) := by decide +kernel
theorem d_M_terms_80 : decode b_M_terms 80 = .ok (.getfield 13, 3) := by decide +kernel
theorem d_M_terms_83 : decode b_M_terms 83 = .ok (.iload_n 1, 1) := by decide +kernel
theorem d_M_terms_84 : decode b_M_terms 84 = .ok (.iconst 4, 1) := by decide +kernel
theorem d_M_terms_85 : decode b_M_terms 85 = .ok (.imul, 1) := by decide +kernel
theorem d_M_terms_86 : decode b_M_terms 86 = .ok (.iconst 3, 1) := by decide +kernel
theorem d_M_terms_87 : decode b_M_terms 87 = .ok (.iadd, 1) := by decide +kernel
theorem d_M_terms_88 : decode b_M_terms 88 = .ok (.iload 5, 2) := by decide +kernel
theorem d_M_terms_90 : decode b_M_terms 90 = .ok (.iastore, 1) := by decide +kernel
theorem d_M_terms_91 : decode b_M_terms 91 = .ok (.aload_n 0, 1) := by decide +kernel
theorem d_M_terms_92 : decode b_M_terms 92 = .ok (.getfield 45, 3) := by decide +kernel
theorem d_M_terms_95 : decode b_M_terms 95 = .ok (.iload_n 1, 1) := by decide +kernel
theorem d_M_terms_96 : decode b_M_terms 96 = .ok (.iload_n 3, 1) := by decide +kernel
theorem d_M_terms_97 : decode b_M_terms 97 = .ok (.iastore, 1) := by decide +kernel
theorem d_M_terms_98 : decode b_M_terms 98 = .ok (.aload_n 0, 1) := by decide +kernel
theorem d_M_terms_99 : decode b_M_terms 99 = .ok (.getfield 48, 3) := by decide +kernel
theorem d_M_terms_102 : decode b_M_terms 102 = .ok (.iload_n 1, 1) := by decide +kernel
theorem d_M_terms_103 : decode b_M_terms 103 = .ok (.iload 4, 2) := by decide +kernel
theorem d_M_terms_105 : decode b_M_terms 105 = .ok (.bastore, 1) := by decide +kernel
theorem d_M_terms_106 : decode b_M_terms 106 = .ok (.aload_n 0, 1) := by decide +kernel
theorem d_M_terms_107 : decode b_M_terms 107 = .ok (.getfield 57, 3) := by decide +kernel
theorem d_M_terms_110 : decode b_M_terms 110 = .ok (.iconst 0, 1) := by decide +kernel
theorem d_M_terms_111 : decode b_M_terms 111 = .ok (.iload_n 1, 1) := by decide +kernel
theorem d_M_terms_112 : decode b_M_terms 112 = .ok (.iastore, 1) := by decide +kernel
theorem d_M_terms_113 : decode b_M_terms 113 = .ok (.aload_n 0, 1) := by decide +kernel
theorem d_M_terms_114 : decode b_M_terms 114 = .ok (.iconst 1, 1) := by decide +kernel
theorem d_M_terms_115 : decode b_M_terms 115 = .ok (.invokevirtual 119, 3) := by decide +kernel
theorem d_M_terms_118 : decode b_M_terms 118 = .ok (.return_, 1) := by decide +kernel
theorem d_M_thrown_0 : decode b_M_thrown 0 = .ok (.aload_n 0, 1) := by decide +kernel
theorem d_M_thrown_1 : decode b_M_thrown 1 = .ok (.getfield 75, 3) := by decide +kernel
theorem d_M_thrown_4 : decode b_M_thrown 4 = .ok (.ireturn, 1) := by decide +kernel
theorem d_M_users_0 : decode b_M_users 0 = .ok (.iload_n 2, 1) := by decide +kernel
theorem d_M_users_1 : decode b_M_users 1 = .ok (.istore_n 3, 1) := by decide +kernel
theorem d_M_users_2 : decode b_M_users 2 = .ok (.iconst 0, 1) := by decide +kernel
theorem d_M_users_3 : decode b_M_users 3 = .ok (.istore 4, 2) := by decide +kernel
theorem d_M_users_5 : decode b_M_users 5 = .ok (.iload 4, 2) := by decide +kernel
theorem d_M_users_7 : decode b_M_users 7 = .ok (.aload_n 0, 1) := by decide +kernel
theorem d_M_users_8 : decode b_M_users 8 = .ok (.getfield 79, 3) := by decide +kernel
theorem d_M_users_11 : decode b_M_users 11 = .ok (.if_icmp .ge 100, 3) := by decide +kernel
theorem d_M_users_14 : decode b_M_users 14 = .ok (.iconst 0, 1) := by decide +kernel
theorem d_M_users_15 : decode b_M_users 15 = .ok (.istore 5, 2) := by decide +kernel
theorem d_M_users_17 : decode b_M_users 17 = .ok (.iconst 0, 1) := by decide +kernel
theorem d_M_users_18 : decode b_M_users 18 = .ok (.istore 6, 2) := by decide +kernel
theorem d_M_users_20 : decode b_M_users 20 = .ok (.iload 6, 2) := by decide +kernel
theorem d_M_users_22 : decode b_M_users 22 = .ok (.iconst 4, 1) := by decide +kernel
theorem d_M_users_23 : decode b_M_users 23 = .ok (.if_icmp .ge 28, 3) := by decide +kernel
theorem d_M_users_26 : decode b_M_users 26 = .ok (.aload_n 0, 1) := by decide +kernel
theorem d_M_users_27 : decode b_M_users 27 = .ok (.getfield 13, 3) := by decide +kernel
theorem d_M_users_30 : decode b_M_users 30 = .ok (.iload 4, 2) := by decide +kernel
theorem d_M_users_32 : decode b_M_users 32 = .ok (.iconst 4, 1) := by decide +kernel
theorem d_M_users_33 : decode b_M_users 33 = .ok (.imul, 1) := by decide +kernel
theorem d_M_users_34 : decode b_M_users 34 = .ok (.iload 6, 2) := by decide +kernel
theorem d_M_users_36 : decode b_M_users 36 = .ok (.iadd, 1) := by decide +kernel
theorem d_M_users_37 : decode b_M_users 37 = .ok (.iaload, 1) := by decide +kernel
theorem d_M_users_38 : decode b_M_users 38 = .ok (.iload_n 1, 1) := by decide +kernel
theorem d_M_users_39 : decode b_M_users 39 = .ok (.if_icmp .ne 6, 3) := by decide +kernel
theorem d_M_users_42 : decode b_M_users 42 = .ok (.iconst 1, 1) := by decide +kernel
theorem d_M_users_43 : decode b_M_users 43 = .ok (.istore 5, 2) := by decide +kernel
theorem d_M_users_45 : decode b_M_users 45 = .ok (.iinc 6 1, 3) := by decide +kernel
theorem d_M_users_48 : decode b_M_users 48 = .ok (.goto (-28), 3) := by decide +kernel
theorem d_M_users_51 : decode b_M_users 51 = .ok (.iconst 0, 1) := by decide +kernel
theorem d_M_users_52 : decode b_M_users 52 = .ok (.istore 6, 2) := by decide +kernel
theorem d_M_users_54 : decode b_M_users 54 = .ok (.iconst 0, 1) := by decide +kernel
theorem d_M_users_55 : decode b_M_users 55 = .ok (.istore 7, 2) := by decide +kernel
theorem d_M_users_57 : decode b_M_users 57 = .ok (.iload 7, 2) := by decide +kernel
theorem d_M_users_59 : decode b_M_users 59 = .ok (.iload_n 3, 1) := by decide +kernel
theorem d_M_users_60 : decode b_M_users 60 = .ok (.if_icmp .ge 24, 3) := by decide +kernel
theorem d_M_users_63 : decode b_M_users 63 = .ok (.aload_n 0, 1) := by decide +kernel
theorem d_M_users_64 : decode b_M_users 64 = .ok (.getfield 57, 3) := by decide +kernel
theorem d_M_users_67 : decode b_M_users 67 = .ok (.iload 7, 2) := by decide +kernel
theorem d_M_users_69 : decode b_M_users 69 = .ok (.iaload, 1) := by decide +kernel
theorem d_M_users_70 : decode b_M_users 70 = .ok (.iload 4, 2) := by decide +kernel
theorem d_M_users_72 : decode b_M_users 72 = .ok (.if_icmp .ne 6, 3) := by decide +kernel
theorem d_M_users_75 : decode b_M_users 75 = .ok (.iconst 1, 1) := by decide +kernel
theorem d_M_users_76 : decode b_M_users 76 = .ok (.istore 6, 2) := by decide +kernel
theorem d_M_users_78 : decode b_M_users 78 = .ok (.iinc 7 1, 3) := by decide +kernel
theorem d_M_users_81 : decode b_M_users 81 = .ok (.goto (-24), 3) := by decide +kernel
theorem d_M_users_84 : decode b_M_users 84 = .ok (.iload 5, 2) := by decide +kernel
theorem d_M_users_86 : decode b_M_users 86 = .ok (.ifCond .eq 19, 3) := by decide +kernel
theorem d_M_users_89 : decode b_M_users 89 = .ok (.iload 6, 2) := by decide +kernel
theorem d_M_users_91 : decode b_M_users 91 = .ok (.ifCond .ne 14, 3) := by decide +kernel
theorem d_M_users_94 : decode b_M_users 94 = .ok (.aload_n 0, 1) := by decide +kernel
theorem d_M_users_95 : decode b_M_users 95 = .ok (.getfield 57, 3) := by decide +kernel
theorem d_M_users_98 : decode b_M_users 98 = .ok (.iload_n 3, 1) := by decide +kernel
theorem d_M_users_99 : decode b_M_users 99 = .ok (.iload 4, 2) := by decide +kernel
theorem d_M_users_101 : decode b_M_users 101 = .ok (.iastore, 1) := by decide +kernel
theorem d_M_users_102 : decode b_M_users 102 = .ok (.iinc 3 1, 3) := by decide +kernel
theorem d_M_users_105 : decode b_M_users 105 = .ok (.iinc 4 1, 3) := by decide +kernel
theorem d_M_users_108 : decode b_M_users 108 = .ok (.goto (-103), 3) := by decide +kernel
theorem d_M_users_111 : decode b_M_users 111 = .ok (.iload_n 3, 1) := by decide +kernel
theorem d_M_users_112 : decode b_M_users 112 = .ok (.ireturn, 1) := by decide +kernel
theorem d_M_uses_0 : decode b_M_uses 0 = .ok (.aload_n 0, 1) := by decide +kernel
theorem d_M_uses_1 : decode b_M_uses 1 = .ok (.aload_n 0, 1) := by decide +kernel
theorem d_M_uses_2 : decode b_M_uses 2 = .ok (.iload_n 1, 1) := by decide +kernel
theorem d_M_uses_3 : decode b_M_uses 3 = .ok (.invokevirtual 96, 3) := by decide +kernel
theorem d_M_uses_6 : decode b_M_uses 6 = .ok (.ifCond .ne 11, 3) := by decide +kernel
theorem d_M_uses_9 : decode b_M_uses 9 = .ok (.aload_n 0, 1) := by decide +kernel
theorem d_M_uses_10 : decode b_M_uses 10 = .ok (.iload_n 2, 1) := by decide +kernel
theorem d_M_uses_11 : decode b_M_uses 11 = .ok (.invokevirtual 96, 3) := by decide +kernel
theorem d_M_uses_14 : decode b_M_uses 14 = .ok (.ifCond .eq 7, 3) := by decide +kernel
theorem d_M_uses_17 : decode b_M_uses 17 = .ok (.iconst 1, 1) := by decide +kernel
theorem d_M_uses_18 : decode b_M_uses 18 = .ok (.goto 4, 3) := by decide +kernel
theorem d_M_uses_21 : decode b_M_uses 21 = .ok (.iconst 0, 1) := by decide +kernel
theorem d_M_uses_22 : decode b_M_uses 22 = .ok (.putfield 75, 3) := by decide +kernel
theorem d_M_uses_25 : decode b_M_uses 25 = .ok (.aload_n 0, 1) := by decide +kernel
theorem d_M_uses_26 : decode b_M_uses 26 = .ok (.getfield 75, 3) := by decide +kernel
theorem d_M_uses_29 : decode b_M_uses 29 = .ok (.ifCond .ne 16, 3) := by decide +kernel
theorem d_M_uses_32 : decode b_M_uses 32 = .ok (.aload_n 0, 1) := by decide +kernel
theorem d_M_uses_33 : decode b_M_uses 33 = .ok (.iload_n 1, 1) := by decide +kernel
theorem d_M_uses_34 : decode b_M_uses 34 = .ok (.iload_n 2, 1) := by decide +kernel
theorem d_M_uses_35 : decode b_M_uses 35 = .ok (.invokevirtual 102, 3) := by decide +kernel
theorem d_M_uses_38 : decode b_M_uses 38 = .ok (.ifCond .eq 7, 3) := by decide +kernel
theorem d_M_uses_41 : decode b_M_uses 41 = .ok (.iconst 1, 1) := by decide +kernel
theorem d_M_uses_42 : decode b_M_uses 42 = .ok (.goto 4, 3) := by decide +kernel
theorem d_M_uses_45 : decode b_M_uses 45 = .ok (.iconst 0, 1) := by decide +kernel
theorem d_M_uses_46 : decode b_M_uses 46 = .ok (.ireturn, 1) := by decide +kernel
theorem d_M_value_0 : decode b_M_value 0 = .ok (.aload_n 0, 1) := by decide +kernel
theorem d_M_value_1 : decode b_M_value 1 = .ok (.aload_n 0, 1) := by decide +kernel
theorem d_M_value_2 : decode b_M_value 2 = .ok (.iload_n 1, 1) := by decide +kernel
theorem d_M_value_3 : decode b_M_value 3 = .ok (.invokevirtual 96, 3) := by decide +kernel
theorem d_M_value_6 : decode b_M_value 6 = .ok (.ifCond .eq 7, 3) := by decide +kernel
theorem d_M_value_9 : decode b_M_value 9 = .ok (.iconst 1, 1) := by decide +kernel
theorem d_M_value_10 : decode b_M_value 10 = .ok (.goto 4, 3) := by decide +kernel
theorem d_M_value_13 : decode b_M_value 13 = .ok (.iconst 0, 1) := by decide +kernel
theorem d_M_value_14 : decode b_M_value 14 = .ok (.putfield 75, 3) := by decide +kernel
theorem d_M_value_17 : decode b_M_value 17 = .ok (.aload_n 0, 1) := by decide +kernel
theorem d_M_value_18 : decode b_M_value 18 = .ok (.getfield 75, 3) := by decide +kernel
theorem d_M_value_21 : decode b_M_value 21 = .ok (.ifCond .eq 5, 3) := by decide +kernel
theorem d_M_value_24 : decode b_M_value 24 = .ok (.dconst 0, 1) := by decide +kernel
theorem d_M_value_25 : decode b_M_value 25 = .ok (.dreturn, 1) := by decide +kernel
theorem d_M_value_26 : decode b_M_value 26 = .ok (.aload_n 0, 1) := by decide +kernel
theorem d_M_value_27 : decode b_M_value 27 = .ok (.iload_n 1, 1) := by decide +kernel
theorem d_M_value_28 : decode b_M_value 28 = .ok (.invokevirtual 206, 3) := by decide +kernel
theorem d_M_value_31 : decode b_M_value 31 = .ok (.ifCond .eq 15, 3) := by decide +kernel
theorem d_M_value_34 : decode b_M_value 34 = .ok (.aload_n 0, 1) := by decide +kernel
theorem d_M_value_35 : decode b_M_value 35 = .ok (.getfield 16, 3) := by decide +kernel
theorem d_M_value_38 : decode b_M_value 38 = .ok (.iload_n 1, 1) := by decide +kernel
theorem d_M_value_39 : decode b_M_value 39 = .ok (.laload, 1) := by decide +kernel
theorem d_M_value_40 : decode b_M_value 40 = .ok (.l2d, 1) := by decide +kernel
theorem d_M_value_41 : decode b_M_value 41 = .ok (.ldc2_w 94, 3) := by decide +kernel
theorem d_M_value_44 : decode b_M_value 44 = .ok (.ddiv, 1) := by decide +kernel
theorem d_M_value_45 : decode b_M_value 45 = .ok (.dreturn, 1) := by decide +kernel
theorem d_M_value_46 : decode b_M_value 46 = .ok (.aload_n 0, 1) := by decide +kernel
theorem d_M_value_47 : decode b_M_value 47 = .ok (.aload_n 0, 1) := by decide +kernel
theorem d_M_value_48 : decode b_M_value 48 = .ok (.getfield 127, 3) := by decide +kernel
theorem d_M_value_51 : decode b_M_value 51 = .ok (.putfield 75, 3) := by decide +kernel
theorem d_M_value_54 : decode b_M_value 54 = .ok (.aload_n 0, 1) := by decide +kernel
theorem d_M_value_55 : decode b_M_value 55 = .ok (.dup, 1) := by decide +kernel
theorem d_M_value_56 : decode b_M_value 56 = .ok (.getfield 209, 3) := by decide +kernel
theorem d_M_value_59 : decode b_M_value 59 = .ok (.iconst 1, 1) := by decide +kernel
theorem d_M_value_60 : decode b_M_value 60 = .ok (.iadd, 1) := by decide +kernel
theorem d_M_value_61 : decode b_M_value 61 = .ok (.putfield 209, 3) := by decide +kernel
theorem d_M_value_64 : decode b_M_value 64 = .ok (.dconst 0, 1) := by decide +kernel
theorem d_M_value_65 : decode b_M_value 65 = .ok (.dreturn, 1) := by decide +kernel
theorem d_M_valueOfOption_0 : decode b_M_valueOfOption 0 = .ok (.aload_n 0, 1) := by decide +kernel
theorem d_M_valueOfOption_1 : decode b_M_valueOfOption 1 = .ok (.iload_n 1, 1) := by decide +kernel
theorem d_M_valueOfOption_2 : decode b_M_valueOfOption 2 = .ok (.putfield 130, 3) := by decide +kernel
theorem d_M_valueOfOption_5 : decode b_M_valueOfOption 5 = .ok (.aload_n 0, 1) := by decide +kernel
theorem d_M_valueOfOption_6 : decode b_M_valueOfOption 6 = .ok (.getfield 51, 3) := by decide +kernel
theorem d_M_valueOfOption_9 : decode b_M_valueOfOption 9 = .ok (.iload_n 1, 1) := by decide +kernel
theorem d_M_valueOfOption_10 : decode b_M_valueOfOption 10 = .ok (.iaload, 1) := by decide +kernel
theorem d_M_valueOfOption_11 : decode b_M_valueOfOption 11 = .ok (.iconst 1, 1) := by decide +kernel
theorem d_M_valueOfOption_12 : decode b_M_valueOfOption 12 = .ok (.if_icmp .ne 19, 3) := by decide +kernel
theorem d_M_valueOfOption_15 : decode b_M_valueOfOption 15 = .ok (.aload_n 0, 1) := by decide +kernel
theorem d_M_valueOfOption_16 : decode b_M_valueOfOption 16 = .ok (.getfield 48, 3) := by decide +kernel
theorem d_M_valueOfOption_19 : decode b_M_valueOfOption 19 = .ok (.iload_n 1, 1) := by decide +kernel
theorem d_M_valueOfOption_20 : decode b_M_valueOfOption 20 = .ok (.baload, 1) := by decide +kernel
theorem d_M_valueOfOption_21 : decode b_M_valueOfOption 21 = .ok (.ifCond .eq 10, 3) := by decide +kernel
theorem d_M_valueOfOption_24 : decode b_M_valueOfOption 24 = .ok (.aload_n 0, 1) := by decide +kernel
theorem d_M_valueOfOption_25 : decode b_M_valueOfOption 25 = .ok (.iconst 3, 1) := by decide +kernel
theorem d_M_valueOfOption_26 : decode b_M_valueOfOption 26 = .ok (.putfield 127, 3) := by decide +kernel
theorem d_M_valueOfOption_29 : decode b_M_valueOfOption 29 = .ok (.lconst 0, 1) := by decide +kernel
theorem d_M_valueOfOption_30 : decode b_M_valueOfOption 30 = .ok (.lreturn, 1) := by decide +kernel
theorem d_M_valueOfOption_31 : decode b_M_valueOfOption 31 = .ok (.aload_n 0, 1) := by decide +kernel
theorem d_M_valueOfOption_32 : decode b_M_valueOfOption 32 = .ok (.aload_n 0, 1) := by decide +kernel
theorem d_M_valueOfOption_33 : decode b_M_valueOfOption 33 = .ok (.getfield 16, 3) := by decide +kernel
theorem d_M_valueOfOption_36 : decode b_M_valueOfOption 36 = .ok (.aload_n 0, 1) := by decide +kernel
theorem d_M_valueOfOption_37 : decode b_M_valueOfOption 37 = .ok (.getfield 13, 3) := by decide +kernel
theorem d_M_valueOfOption_40 : decode b_M_valueOfOption 40 = .ok (.iload_n 1, 1) := by decide +kernel
theorem d_M_valueOfOption_41 : decode b_M_valueOfOption 41 = .ok (.iconst 4, 1) := by decide +kernel
theorem d_M_valueOfOption_42 : decode b_M_valueOfOption 42 = .ok (.imul, 1) := by decide +kernel
theorem d_M_valueOfOption_43 : decode b_M_valueOfOption 43 = .ok (.iaload, 1) := by decide +kernel
theorem d_M_valueOfOption_44 : decode b_M_valueOfOption 44 = .ok (.laload, 1) := by decide +kernel
theorem d_M_valueOfOption_45 : decode b_M_valueOfOption 45 = .ok (.putfield 157, 3) := by decide +kernel
theorem d_M_valueOfOption_48 : decode b_M_valueOfOption 48 = .ok (.aload_n 0, 1) := by decide +kernel
theorem d_M_valueOfOption_49 : decode b_M_valueOfOption 49 = .ok (.aload_n 0, 1) := by decide +kernel
theorem d_M_valueOfOption_50 : decode b_M_valueOfOption 50 = .ok (.getfield 16, 3) := by decide +kernel
theorem d_M_valueOfOption_53 : decode b_M_valueOfOption 53 = .ok (.aload_n 0, 1) := by decide +kernel
theorem d_M_valueOfOption_54 : decode b_M_valueOfOption 54 = .ok (.getfield 13, 3) := by decide +kernel
theorem d_M_valueOfOption_57 : decode b_M_valueOfOption 57 = .ok (.iload_n 1, 1) := by decide +kernel
theorem d_M_valueOfOption_58 : decode b_M_valueOfOption 58 = .ok (.iconst 4, 1) := by decide +kernel
theorem d_M_valueOfOption_59 : decode b_M_valueOfOption 59 = .ok (.imul, 1) := by decide +kernel
theorem d_M_valueOfOption_60 : decode b_M_valueOfOption 60 = .ok (.iconst 1, 1) := by decide +kernel
theorem d_M_valueOfOption_61 : decode b_M_valueOfOption 61 = .ok (.iadd, 1) := by decide +kernel
theorem d_M_valueOfOption_62 : decode b_M_valueOfOption 62 = .ok (.iaload, 1) := by decide +kernel
theorem d_M_valueOfOption_63 : decode b_M_valueOfOption 63 = .ok (.laload, 1) := by decide +kernel
theorem d_M_valueOfOption_64 : decode b_M_valueOfOption 64 = .ok (.putfield 160, 3) := by decide +kernel
theorem d_M_valueOfOption_67 : decode b_M_valueOfOption 67 = .ok (.aload_n 0, 1) := by decide +kernel
theorem d_M_valueOfOption_68 : decode b_M_valueOfOption 68 = .ok (.getfield 13, 3) := by decide +kernel
theorem d_M_valueOfOption_71 : decode b_M_valueOfOption 71 = .ok (.iload_n 1, 1) := by decide +kernel
theorem d_M_valueOfOption_72 : decode b_M_valueOfOption 72 = .ok (.iconst 4, 1) := by decide +kernel
theorem d_M_valueOfOption_73 : decode b_M_valueOfOption 73 = .ok (.imul, 1) := by decide +kernel
theorem d_M_valueOfOption_74 : decode b_M_valueOfOption 74 = .ok (.iconst 2, 1) := by decide +kernel
theorem d_M_valueOfOption_75 : decode b_M_valueOfOption 75 = .ok (.iadd, 1) := by decide +kernel
theorem d_M_valueOfOption_76 : decode b_M_valueOfOption 76 = .ok (.iaload, 1) := by decide +kernel
theorem d_M_valueOfOption_77 : decode b_M_valueOfOption 77 = .ok (.ifCond .ge 7, 3) := by decide +kernel
theorem d_M_valueOfOption_80 : decode b_M_valueOfOption 80 = .ok (.lconst 0, 1) := by decide +kernel
theorem d_M_valueOfOption_81 : decode b_M_valueOfOption 81 = .ok (.goto 25, 3) := by decide +kernel
theorem d_M_valueOfOption_84 : decode b_M_valueOfOption 84 = .ok (.aload_n 0, 1) := by decide +kernel
theorem d_M_valueOfOption_85 : decode b_M_valueOfOption 85 = .ok (.aload_n 0, 1) := by decide +kernel
theorem d_M_valueOfOption_86 : decode b_M_valueOfOption 86 = .ok (.getfield 16, 3) := by decide +kernel
theorem d_M_valueOfOption_89 : decode b_M_valueOfOption 89 = .ok (.aload_n 0, 1) := by decide +kernel
theorem d_M_valueOfOption_90 : decode b_M_valueOfOption 90 = .ok (.getfield 13, 3) := by decide +kernel
theorem d_M_valueOfOption_93 : decode b_M_valueOfOption 93 = .ok (.iload_n 1, 1) := by decide +kernel
theorem d_M_valueOfOption_94 : decode b_M_valueOfOption 94 = .ok (.iconst 4, 1) := by decide +kernel
theorem d_M_valueOfOption_95 : decode b_M_valueOfOption 95 = .ok (.imul, 1) := by decide +kernel
theorem d_M_valueOfOption_96 : decode b_M_valueOfOption 96 = .ok (.iconst 2, 1) := by decide +kernel
theorem d_M_valueOfOption_97 : decode b_M_valueOfOption 97 = .ok (.iadd, 1) := by decide +kernel
theorem d_M_valueOfOption_98 : decode b_M_valueOfOption 98 = .ok (.iaload, 1) := by decide +kernel
theorem d_M_valueOfOption_99 : decode b_M_valueOfOption 99 = .ok (.laload, 1) := by decide +kernel
theorem d_M_valueOfOption_100 : decode b_M_valueOfOption 100 = .ok (.ldc2_w 180, 3) := by decide +kernel
theorem d_M_valueOfOption_103 : decode b_M_valueOfOption 103 = .ok (.invokevirtual 146, 3) := by decide +kernel
theorem d_M_valueOfOption_106 : decode b_M_valueOfOption 106 = .ok (.lstore_n 2, 1) := by decide +kernel
theorem d_M_valueOfOption_107 : decode b_M_valueOfOption 107 = .ok (.aload_n 0, 1) := by decide +kernel
theorem d_M_valueOfOption_108 : decode b_M_valueOfOption 108 = .ok (.getfield 13, 3) := by decide +kernel
theorem d_M_valueOfOption_111 : decode b_M_valueOfOption 111 = .ok (.iload_n 1, 1) := by decide +kernel
theorem d_M_valueOfOption_112 : decode b_M_valueOfOption 112 = .ok (.iconst 4, 1) := by decide +kernel
theorem d_M_valueOfOption_113 : decode b_M_valueOfOption 113 = .ok (.imul, 1) := by decide +kernel
theorem d_M_valueOfOption_114 : decode b_M_valueOfOption 114 = .ok (.iconst 3, 1) := by decide +kernel
theorem d_M_valueOfOption_115 : decode b_M_valueOfOption 115 = .ok (.iadd, 1) := by decide +kernel
theorem d_M_valueOfOption_116 : decode b_M_valueOfOption 116 = .ok (.iaload, 1) := by decide +kernel
theorem d_M_valueOfOption_117 : decode b_M_valueOfOption 117 = .ok (.ifCond .lt 22, 3) := by decide +kernel
theorem d_M_valueOfOption_120 : decode b_M_valueOfOption 120 = .ok (.aload_n 0, 1) := by decide +kernel
theorem d_M_valueOfOption_121 : decode b_M_valueOfOption 121 = .ok (.aload_n 0, 1) := by decide +kernel
theorem d_M_valueOfOption_122 : decode b_M_valueOfOption 122 = .ok (.getfield 16, 3) := by decide +kernel
theorem d_M_valueOfOption_125 : decode b_M_valueOfOption 125 = .ok (.aload_n 0, 1) := by decide +kernel
theorem d_M_valueOfOption_126 : decode b_M_valueOfOption 126 = .ok (.getfield 13, 3) := by decide +kernel
theorem d_M_valueOfOption_129 : decode b_M_valueOfOption 129 = .ok (.iload_n 1, 1) := by decide +kernel
theorem d_M_valueOfOption_130 : decode b_M_valueOfOption 130 = .ok (.iconst 4, 1) := by decide +kernel
theorem d_M_valueOfOption_131 : decode b_M_valueOfOption 131 = .ok (.imul, 1) := by decide +kernel
theorem d_M_valueOfOption_132 : decode b_M_valueOfOption 132 = .ok (.iconst 3, 1) := by decide +kernel
theorem d_M_valueOfOption_133 : decode b_M_valueOfOption 133 = .ok (.iadd, 1) := by decide +kernel
theorem d_M_valueOfOption_134 : decode b_M_valueOfOption 134 = .ok (.iaload, 1) := by decide +kernel
theorem d_M_valueOfOption_135 : decode b_M_valueOfOption 135 = .ok (.laload, 1) := by decide +kernel
theorem d_M_valueOfOption_136 : decode b_M_valueOfOption 136 = .ok (.putfield 133, 3) := by decide +kernel
theorem d_M_valueOfOption_139 : decode b_M_valueOfOption 139 = .ok (.aload_n 0, 1) := by decide +kernel
theorem d_M_valueOfOption_140 : decode b_M_valueOfOption 140 = .ok (.ldc2_w 180, 3) := by decide +kernel
theorem d_M_valueOfOption_143 : decode b_M_valueOfOption 143 = .ok (.lload_n 2, 1) := by decide +kernel
theorem d_M_valueOfOption_144 : decode b_M_valueOfOption 144 = .ok (.lsub, 1) := by decide +kernel
theorem d_M_valueOfOption_145 : decode b_M_valueOfOption 145 = .ok (.putfield 139, 3) := by decide +kernel
theorem d_M_valueOfOption_148 : decode b_M_valueOfOption 148 = .ok (.aload_n 0, 1) := by decide +kernel
theorem d_M_valueOfOption_149 : decode b_M_valueOfOption 149 = .ok (.getfield 160, 3) := by decide +kernel
theorem d_M_valueOfOption_152 : decode b_M_valueOfOption 152 = .ok (.lconst 0, 1) := by decide +kernel
theorem d_M_valueOfOption_153 : decode b_M_valueOfOption 153 = .ok (.lcmp, 1) := by decide +kernel
theorem d_M_valueOfOption_154 : decode b_M_valueOfOption 154 = .ok (.ifCond .le 17, 3) := by decide +kernel
theorem d_M_valueOfOption_157 : decode b_M_valueOfOption 157 = .ok (.lload_n 2, 1) := by decide +kernel
theorem d_M_valueOfOption_158 : decode b_M_valueOfOption 158 = .ok (.lconst 0, 1) := by decide +kernel
theorem d_M_valueOfOption_159 : decode b_M_valueOfOption 159 = .ok (.lcmp, 1) := by decide +kernel
theorem d_M_valueOfOption_160 : decode b_M_valueOfOption 160 = .ok (.ifCond .lt 11, 3) := by decide +kernel
theorem d_M_valueOfOption_163 : decode b_M_valueOfOption 163 = .ok (.lload_n 2, 1) := by decide +kernel
theorem d_M_valueOfOption_164 : decode b_M_valueOfOption 164 = .ok (.ldc2_w 180, 3) := by decide +kernel
theorem d_M_valueOfOption_167 : decode b_M_valueOfOption 167 = .ok (.lcmp, 1) := by decide +kernel
theorem d_M_valueOfOption_168 : decode b_M_valueOfOption 168 = .ok (.ifCond .le 10, 3) := by decide +kernel
theorem d_M_valueOfOption_171 : decode b_M_valueOfOption 171 = .ok (.aload_n 0, 1) := by decide +kernel
theorem d_M_valueOfOption_172 : decode b_M_valueOfOption 172 = .ok (.iconst 2, 1) := by decide +kernel
theorem d_M_valueOfOption_173 : decode b_M_valueOfOption 173 = .ok (.putfield 127, 3) := by decide +kernel
theorem d_M_valueOfOption_176 : decode b_M_valueOfOption 176 = .ok (.lconst 0, 1) := by decide +kernel
theorem d_M_valueOfOption_177 : decode b_M_valueOfOption 177 = .ok (.lreturn, 1) := by decide +kernel
theorem d_M_valueOfOption_178 : decode b_M_valueOfOption 178 = .ok (.aload_n 0, 1) := by decide +kernel
theorem d_M_valueOfOption_179 : decode b_M_valueOfOption 179 = .ok (.getfield 51, 3) := by decide +kernel
theorem d_M_valueOfOption_182 : decode b_M_valueOfOption 182 = .ok (.iload_n 1, 1) := by decide +kernel
theorem d_M_valueOfOption_183 : decode b_M_valueOfOption 183 = .ok (.iaload, 1) := by decide +kernel
theorem d_M_valueOfOption_184 : decode b_M_valueOfOption 184 = .ok (.ifCond .ne 10, 3) := by decide +kernel
theorem d_M_valueOfOption_187 : decode b_M_valueOfOption 187 = .ok (.aload_n 0, 1) := by decide +kernel
theorem d_M_valueOfOption_188 : decode b_M_valueOfOption 188 = .ok (.invokevirtual 184, 3) := by decide +kernel
theorem d_M_valueOfOption_191 : decode b_M_valueOfOption 191 = .ok (.goto 24, 3) := by decide +kernel
theorem d_M_valueOfOption_194 : decode b_M_valueOfOption 194 = .ok (.aload_n 0, 1) := by decide +kernel
theorem d_M_valueOfOption_195 : decode b_M_valueOfOption 195 = .ok (.getfield 51, 3) := by decide +kernel
theorem d_M_valueOfOption_198 : decode b_M_valueOfOption 198 = .ok (.iload_n 1, 1) := by decide +kernel
theorem d_M_valueOfOption_199 : decode b_M_valueOfOption 199 = .ok (.iaload, 1) := by decide +kernel
theorem d_M_valueOfOption_200 : decode b_M_valueOfOption 200 = .ok (.iconst 1, 1) := by decide +kernel
theorem d_M_valueOfOption_201 : decode b_M_valueOfOption 201 = .ok (.if_icmp .ne 10, 3) := by decide +kernel
theorem d_M_valueOfOption_204 : decode b_M_valueOfOption 204 = .ok (.aload_n 0, 1) := by decide +kernel
theorem d_M_valueOfOption_205 : decode b_M_valueOfOption 205 = .ok (.invokevirtual 188, 3) := by decide +kernel
theorem d_M_valueOfOption_208 : decode b_M_valueOfOption 208 = .ok (.goto 7, 3) := by decide +kernel
theorem d_M_valueOfOption_211 : decode b_M_valueOfOption 211 = .ok (.aload_n 0, 1) := by decide +kernel
theorem d_M_valueOfOption_212 : decode b_M_valueOfOption 212 = .ok (.invokevirtual 191, 3) := by decide +kernel
theorem d_M_valueOfOption_215 : decode b_M_valueOfOption 215 = .ok (.lreturn, 1) := by decide +kernel
theorem d_Nd_bit_0 : decode b_Nd_bit 0 = .ok (.iconst 1, 1) := by decide +kernel
theorem d_Nd_bit_1 : decode b_Nd_bit 1 = .ok (.aload_n 0, 1) := by decide +kernel
theorem d_Nd_bit_2 : decode b_Nd_bit 2 = .ok (.getfield 7, 3) := by decide +kernel
theorem d_Nd_bit_5 : decode b_Nd_bit 5 = .ok (.ishl, 1) := by decide +kernel
theorem d_Nd_bit_6 : decode b_Nd_bit 6 = .ok (.ireturn, 1) := by decide +kernel
theorem d_Nd_init_0 : decode b_Nd_init 0 = .ok (.aload_n 0, 1) := by decide +kernel
theorem d_Nd_init_1 : decode b_Nd_init 1 = .ok (.invokespecial 1, 3) := by decide +kernel
theorem d_Nd_init_4 : decode b_Nd_init 4 = .ok (.aload_n 0, 1) := by decide +kernel
theorem d_Nd_init_5 : decode b_Nd_init 5 = .ok (.iload_n 1, 1) := by decide +kernel
theorem d_Nd_init_6 : decode b_Nd_init 6 = .ok (.putfield 7, 3) := by decide +kernel
theorem d_Nd_init_9 : decode b_Nd_init 9 = .ok (.aload_n 0, 1) := by decide +kernel
theorem d_Nd_init_10 : decode b_Nd_init 10 = .ok (.aload_n 2, 1) := by decide +kernel
theorem d_Nd_init_11 : decode b_Nd_init 11 = .ok (.putfield 13, 3) := by decide +kernel
theorem d_Nd_init_14 : decode b_Nd_init 14 = .ok (.aload_n 0, 1) := by decide +kernel
theorem d_Nd_init_15 : decode b_Nd_init 15 = .ok (.iload_n 3, 1) := by decide +kernel
theorem d_Nd_init_16 : decode b_Nd_init 16 = .ok (.putfield 17, 3) := by decide +kernel
theorem d_Nd_init_19 : decode b_Nd_init 19 = .ok (.return_, 1) := by decide +kernel
theorem d_Nd_partBits_0 : decode b_Nd_partBits 0 = .ok (.iconst 0, 1) := by decide +kernel
theorem d_Nd_partBits_1 : decode b_Nd_partBits 1 = .ok (.istore_n 1, 1) := by decide +kernel
theorem d_Nd_partBits_2 : decode b_Nd_partBits 2 = .ok (.iconst 0, 1) := by decide +kernel
theorem d_Nd_partBits_3 : decode b_Nd_partBits 3 = .ok (.istore_n 2, 1) := by decide +kernel
theorem d_Nd_partBits_4 : decode b_Nd_partBits 4 = .ok (.iload_n 2, 1) := by decide +kernel
theorem d_Nd_partBits_5 : decode b_Nd_partBits 5 = .ok (.aload_n 0, 1) := by decide +kernel
theorem d_Nd_partBits_6 : decode b_Nd_partBits 6 = .ok (.getfield 17, 3) := by decide +kernel
theorem d_Nd_partBits_9 : decode b_Nd_partBits 9 = .ok (.if_icmp .ge 21, 3) := by decide +kernel
theorem d_Nd_partBits_12 : decode b_Nd_partBits 12 = .ok (.iload_n 1, 1) := by decide +kernel
theorem d_Nd_partBits_13 : decode b_Nd_partBits 13 = .ok (.aload_n 0, 1) := by decide +kernel
theorem d_Nd_partBits_14 : decode b_Nd_partBits 14 = .ok (.getfield 13, 3) := by decide +kernel
theorem d_Nd_partBits_17 : decode b_Nd_partBits 17 = .ok (.iload_n 2, 1) := by decide +kernel
theorem d_Nd_partBits_18 : decode b_Nd_partBits 18 = .ok (.aaload, 1) := by decide +kernel
theorem d_Nd_partBits_19 : decode b_Nd_partBits 19 = .ok (.invokevirtual 20, 3) := by decide +kernel
theorem d_Nd_partBits_22 : decode b_Nd_partBits 22 = .ok (.ior, 1) := by decide +kernel
theorem d_Nd_partBits_23 : decode b_Nd_partBits 23 = .ok (.istore_n 1, 1) := by decide +kernel
theorem d_Nd_partBits_24 : decode b_Nd_partBits 24 = .ok (.iinc 2 1, 3) := by decide +kernel
theorem d_Nd_partBits_27 : decode b_Nd_partBits 27 = .ok (.goto (-23), 3) := by decide +kernel
theorem d_Nd_partBits_30 : decode b_Nd_partBits 30 = .ok (.iload_n 1, 1) := by decide +kernel
theorem d_Nd_partBits_31 : decode b_Nd_partBits 31 = .ok (.ireturn, 1) := by decide +kernel
theorem d_Nd_remember_0 : decode b_Nd_remember 0 = .ok (.aload_n 0, 1) := by decide +kernel
theorem d_Nd_remember_1 : decode b_Nd_remember 1 = .ok (.aload_n 0, 1) := by decide +kernel
theorem d_Nd_remember_2 : decode b_Nd_remember 2 = .ok (.getfield 24, 3) := by decide +kernel
theorem d_Nd_remember_5 : decode b_Nd_remember 5 = .ok (.putfield 28, 3) := by decide +kernel
theorem d_Nd_remember_8 : decode b_Nd_remember 8 = .ok (.aload_n 0, 1) := by decide +kernel
theorem d_Nd_remember_9 : decode b_Nd_remember 9 = .ok (.aload_n 0, 1) := by decide +kernel
theorem d_Nd_remember_10 : decode b_Nd_remember 10 = .ok (.getfield 31, 3) := by decide +kernel
theorem d_Nd_remember_13 : decode b_Nd_remember 13 = .ok (.putfield 35, 3) := by decide +kernel
theorem d_Nd_remember_16 : decode b_Nd_remember 16 = .ok (.return_, 1) := by decide +kernel
theorem d_Nd_restore_0 : decode b_Nd_restore 0 = .ok (.aload_n 0, 1) := by decide +kernel
theorem d_Nd_restore_1 : decode b_Nd_restore 1 = .ok (.aload_n 0, 1) := by decide +kernel
theorem d_Nd_restore_2 : decode b_Nd_restore 2 = .ok (.getfield 28, 3) := by decide +kernel
theorem d_Nd_restore_5 : decode b_Nd_restore 5 = .ok (.putfield 24, 3) := by decide +kernel
theorem d_Nd_restore_8 : decode b_Nd_restore 8 = .ok (.aload_n 0, 1) := by decide +kernel
theorem d_Nd_restore_9 : decode b_Nd_restore 9 = .ok (.aload_n 0, 1) := by decide +kernel
theorem d_Nd_restore_10 : decode b_Nd_restore 10 = .ok (.getfield 35, 3) := by decide +kernel
theorem d_Nd_restore_13 : decode b_Nd_restore 13 = .ok (.putfield 31, 3) := by decide +kernel
theorem d_Nd_restore_16 : decode b_Nd_restore 16 = .ok (.return_, 1) := by decide +kernel
theorem d_Ne_checkSuits_0 : decode b_Ne_checkSuits 0 = .ok (.aload_n 1, 1) := by decide +kernel
theorem d_Ne_checkSuits_1 : decode b_Ne_checkSuits 1 = .ok (.getfield 15, 3) := by decide +kernel
theorem d_Ne_checkSuits_4 : decode b_Ne_checkSuits 4 = .ok (.bipush 8, 2) := by decide +kernel
theorem d_Ne_checkSuits_6 : decode b_Ne_checkSuits 6 = .ok (.if_icmp .le 13, 3) := by decide +kernel
theorem d_Ne_checkSuits_9 : decode b_Ne_checkSuits 9 = .ok (.new 21, 3) := by decide +kernel
theorem d_Ne_checkSuits_12 : decode b_Ne_checkSuits 12 = .ok (.dup, 1) := by decide +kernel
theorem d_Ne_checkSuits_13 : decode b_Ne_checkSuits 13 = .ok (.ldc 23, 2) := by decide +kernel
theorem d_Ne_checkSuits_15 : decode b_Ne_checkSuits 15 = .ok (.invokespecial 25, 3) := by decide +kernel
theorem d_Ne_checkSuits_18 : decode b_Ne_checkSuits 18 = .ok (.athrow, 1) := by decide +kernel
theorem d_Ne_checkSuits_19 : decode b_Ne_checkSuits 19 = .ok (.return_, 1) := by decide +kernel
theorem d_Ne_init_0 : decode b_Ne_init 0 = .ok (.aload_n 0, 1) := by decide +kernel
theorem d_Ne_init_1 : decode b_Ne_init 1 = .ok (.iconst 1, 1) := by decide +kernel
theorem d_Ne_init_2 : decode b_Ne_init 2 = .ok (.bipush 20, 2) := by decide +kernel
theorem d_Ne_init_4 : decode b_Ne_init 4 = .ok (.invokespecial 3, 3) := by decide +kernel
theorem d_Ne_init_7 : decode b_Ne_init 7 = .ok (.aload_n 0, 1) := by decide +kernel
theorem d_Ne_init_8 : decode b_Ne_init 8 = .ok (.bipush 41, 2) := by decide +kernel
theorem d_Ne_init_10 : decode b_Ne_init 10 = .ok (.newarray .long, 2) := by decide +kernel
theorem d_Ne_init_12 : decode b_Ne_init 12 = .ok (.putfield 9, 3) := by decide +kernel
theorem d_Ne_init_15 : decode b_Ne_init 15 = .ok (.return_, 1) := by decide +kernel
theorem d_Ne_price_0 : decode b_Ne_price 0 = .ok (.aload_n 1, 1) := by decide +kernel
theorem d_Ne_price_1 : decode b_Ne_price 1 = .ok (.getfield 28, 3) := by decide +kernel
theorem d_Ne_price_4 : decode b_Ne_price 4 = .ok (.istore 4, 2) := by decide +kernel
theorem d_Ne_price_6 : decode b_Ne_price 6 = .ok (.iconst 0, 1) := by decide +kernel
theorem d_Ne_price_7 : decode b_Ne_price 7 = .ok (.istore 5, 2) := by decide +kernel
theorem d_Ne_price_9 : decode b_Ne_price 9 = .ok (.iload 5, 2) := by decide +kernel
theorem d_Ne_price_11 : decode b_Ne_price 11 = .ok (.iconst 2, 1) := by decide +kernel
theorem d_Ne_price_12 : decode b_Ne_price 12 = .ok (.iload 4, 2) := by decide +kernel
theorem d_Ne_price_14 : decode b_Ne_price 14 = .ok (.imul, 1) := by decide +kernel
theorem d_Ne_price_15 : decode b_Ne_price 15 = .ok (.if_icmp .gt 29, 3) := by decide +kernel
theorem d_Ne_price_18 : decode b_Ne_price 18 = .ok (.aload_n 0, 1) := by decide +kernel
theorem d_Ne_price_19 : decode b_Ne_price 19 = .ok (.getfield 9, 3) := by decide +kernel
theorem d_Ne_price_22 : decode b_Ne_price 22 = .ok (.iload 5, 2) := by decide +kernel
theorem d_Ne_price_24 : decode b_Ne_price 24 = .ok (.aload_n 1, 1) := by decide +kernel
theorem d_Ne_price_25 : decode b_Ne_price 25 = .ok (.aload_n 1, 1) := by decide +kernel
theorem d_Ne_price_26 : decode b_Ne_price 26 = .ok (.iload 5, 2) := by decide +kernel
theorem d_Ne_price_28 : decode b_Ne_price 28 = .ok (.iload 4, 2) := by decide +kernel
theorem d_Ne_price_30 : decode b_Ne_price 30 = .ok (.isub, 1) := by decide +kernel
theorem d_Ne_price_31 : decode b_Ne_price 31 = .ok (.invokevirtual 31, 3) := by decide +kernel
theorem d_Ne_price_34 : decode b_Ne_price 34 = .ok (.invokevirtual 35, 3) := by decide +kernel
theorem d_Ne_price_37 : decode b_Ne_price 37 = .ok (.lastore, 1) := by decide +kernel
theorem d_Ne_price_38 : decode b_Ne_price 38 = .ok (.iinc 5 1, 3) := by decide +kernel
theorem d_Ne_price_41 : decode b_Ne_price 41 = .ok (.goto (-32), 3) := by decide +kernel
theorem d_Ne_price_44 : decode b_Ne_price 44 = .ok (.iconst 0, 1) := by decide +kernel
theorem d_Ne_price_45 : decode b_Ne_price 45 = .ok (.istore 5, 2) := by decide +kernel
theorem d_Ne_price_47 : decode b_Ne_price 47 = .ok (.iload 5, 2) := by decide +kernel
theorem d_Ne_price_49 : decode b_Ne_price 49 = .ok (.aload_n 1, 1) := by decide +kernel
theorem d_Ne_price_50 : decode b_Ne_price 50 = .ok (.getfield 39, 3) := by decide +kernel
theorem d_Ne_price_53 : decode b_Ne_price 53 = .ok (.if_icmp .ge 17, 3) := by decide +kernel
theorem d_Ne_price_56 : decode b_Ne_price 56 = .ok (.aload_n 0, 1) := by decide +kernel
theorem d_Ne_price_57 : decode b_Ne_price 57 = .ok (.aload_n 1, 1) := by decide +kernel
theorem d_Ne_price_58 : decode b_Ne_price 58 = .ok (.lload_n 2, 1) := by decide +kernel
theorem d_Ne_price_59 : decode b_Ne_price 59 = .ok (.iload 4, 2) := by decide +kernel
theorem d_Ne_price_61 : decode b_Ne_price 61 = .ok (.invokevirtual 42, 3) := by decide +kernel
theorem d_Ne_price_64 : decode b_Ne_price 64 = .ok (.iinc 5 1, 3) := by decide +kernel
theorem d_Ne_price_67 : decode b_Ne_price 67 = .ok (.goto (-20), 3) := by decide +kernel
theorem d_Ne_price_70 : decode b_Ne_price 70 = .ok (.aload_n 0, 1) := by decide +kernel
theorem d_Ne_price_71 : decode b_Ne_price 71 = .ok (.getfield 9, 3) := by decide +kernel
theorem d_Ne_price_74 : decode b_Ne_price 74 = .ok (.iload 4, 2) := by decide +kernel
theorem d_Ne_price_76 : decode b_Ne_price 76 = .ok (.laload, 1) := by decide +kernel
theorem d_Ne_price_77 : decode b_Ne_price 77 = .ok (.lreturn, 1) := by decide +kernel
theorem d_Ne_stepBack_0 : decode b_Ne_stepBack 0 = .ok (.aload_n 0, 1) := by decide +kernel
theorem d_Ne_stepBack_1 : decode b_Ne_stepBack 1 = .ok (.getfield 9, 3) := by decide +kernel
theorem d_Ne_stepBack_4 : decode b_Ne_stepBack 4 = .ok (.iconst 0, 1) := by decide +kernel
theorem d_Ne_stepBack_5 : decode b_Ne_stepBack 5 = .ok (.laload, 1) := by decide +kernel
theorem d_Ne_stepBack_6 : decode b_Ne_stepBack 6 = .ok (.lstore 5, 2) := by decide +kernel
theorem d_Ne_stepBack_8 : decode b_Ne_stepBack 8 = .ok (.iconst 1, 1) := by decide +kernel
theorem d_Ne_stepBack_9 : decode b_Ne_stepBack 9 = .ok (.istore 7, 2) := by decide +kernel
theorem d_Ne_stepBack_11 : decode b_Ne_stepBack 11 = .ok (.iload 7, 2) := by decide +kernel
theorem d_Ne_stepBack_13 : decode b_Ne_stepBack 13 = .ok (.iconst 2, 1) := by decide +kernel
theorem d_Ne_stepBack_14 : decode b_Ne_stepBack 14 = .ok (.iload 4, 2) := by decide +kernel
theorem d_Ne_stepBack_16 : decode b_Ne_stepBack 16 = .ok (.imul, 1) := by decide +kernel
theorem d_Ne_stepBack_17 : decode b_Ne_stepBack 17 = .ok (.if_icmp .ge 93, 3) := by decide +kernel
theorem d_Ne_stepBack_20 : decode b_Ne_stepBack 20 = .ok (.aload_n 0, 1) := by decide +kernel
theorem d_Ne_stepBack_21 : decode b_Ne_stepBack 21 = .ok (.getfield 9, 3) := by decide +kernel
theorem d_Ne_stepBack_24 : decode b_Ne_stepBack 24 = .ok (.iload 7, 2) := by decide +kernel
theorem d_Ne_stepBack_26 : decode b_Ne_stepBack 26 = .ok (.laload, 1) := by decide +kernel
theorem d_Ne_stepBack_27 : decode b_Ne_stepBack 27 = .ok (.lstore 8, 2) := by decide +kernel
theorem d_Ne_stepBack_29 : decode b_Ne_stepBack 29 = .ok (.aload_n 0, 1) := by decide +kernel
theorem d_Ne_stepBack_30 : decode b_Ne_stepBack 30 = .ok (.getfield 9, 3) := by decide +kernel
theorem d_Ne_stepBack_33 : decode b_Ne_stepBack 33 = .ok (.iload 7, 2) := by decide +kernel
theorem d_Ne_stepBack_35 : decode b_Ne_stepBack 35 = .ok (.iconst 1, 1) := by decide +kernel
theorem d_Ne_stepBack_36 : decode b_Ne_stepBack 36 = .ok (.iadd, 1) := by decide +kernel
theorem d_Ne_stepBack_37 : decode b_Ne_stepBack 37 = .ok (.laload, 1) := by decide +kernel
theorem d_Ne_stepBack_38 : decode b_Ne_stepBack 38 = .ok (.ldc2_w 46, 3) := by decide +kernel
theorem d_Ne_stepBack_41 : decode b_Ne_stepBack 41 = .ok (.lload 8, 2) := by decide +kernel
theorem d_Ne_stepBack_43 : decode b_Ne_stepBack 43 = .ok (.lmul, 1) := by decide +kernel
theorem d_Ne_stepBack_44 : decode b_Ne_stepBack 44 = .ok (.lsub, 1) := by decide +kernel
theorem d_Ne_stepBack_45 : decode b_Ne_stepBack 45 = .ok (.lload 5, 2) := by decide +kernel
theorem d_Ne_stepBack_47 : decode b_Ne_stepBack 47 = .ok (.ladd, 1) := by decide +kernel
theorem d_Ne_stepBack_48 : decode b_Ne_stepBack 48 = .ok (.lstore 10, 2) := by decide +kernel
theorem d_Ne_stepBack_50 : decode b_Ne_stepBack 50 = .ok (.ldc2_w 48, 3) := by decide +kernel
theorem d_Ne_stepBack_53 : decode b_Ne_stepBack 53 = .ok (.lload 8, 2) := by decide +kernel
theorem d_Ne_stepBack_55 : decode b_Ne_stepBack 55 = .ok (.lmul, 1) := by decide +kernel
theorem d_Ne_stepBack_56 : decode b_Ne_stepBack 56 = .ok (.aload_n 1, 1) := by decide +kernel
theorem d_Ne_stepBack_57 : decode b_Ne_stepBack 57 = .ok (.getfield 15, 3) := by decide +kernel
theorem d_Ne_stepBack_60 : decode b_Ne_stepBack 60 = .ok (.i2l, 1) := by decide +kernel
theorem d_Ne_stepBack_61 : decode b_Ne_stepBack 61 = .ok (.lload 10, 2) := by decide +kernel
theorem d_Ne_stepBack_63 : decode b_Ne_stepBack 63 = .ok (.lmul, 1) := by decide +kernel
theorem d_Ne_stepBack_64 : decode b_Ne_stepBack 64 = .ok (.ladd, 1) := by decide +kernel
theorem d_Ne_stepBack_65 : decode b_Ne_stepBack 65 = .ok (.lstore 12, 2) := by decide +kernel
theorem d_Ne_stepBack_67 : decode b_Ne_stepBack 67 = .ok (.lload_n 2, 1) := by decide +kernel
theorem d_Ne_stepBack_68 : decode b_Ne_stepBack 68 = .ok (.lload 12, 2) := by decide +kernel
theorem d_Ne_stepBack_70 : decode b_Ne_stepBack 70 = .ok (.lmul, 1) := by decide +kernel
theorem d_Ne_stepBack_71 : decode b_Ne_stepBack 71 = .ok (.bipush 14, 2) := by decide +kernel
theorem d_Ne_stepBack_73 : decode b_Ne_stepBack 73 = .ok (.invokestatic 50, 3) := by decide +kernel
theorem d_Ne_stepBack_76 : decode b_Ne_stepBack 76 = .ok (.lstore 14, 2) := by decide +kernel
theorem d_Ne_stepBack_78 : decode b_Ne_stepBack 78 = .ok (.aload_n 0, 1) := by decide +kernel
theorem d_Ne_stepBack_79 : decode b_Ne_stepBack 79 = .ok (.getfield 9, 3) := by decide +kernel
theorem d_Ne_stepBack_82 : decode b_Ne_stepBack 82 = .ok (.iload 7, 2) := by decide +kernel
theorem d_Ne_stepBack_84 : decode b_Ne_stepBack 84 = .ok (.aload_n 1, 1) := by decide +kernel
theorem d_Ne_stepBack_85 : decode b_Ne_stepBack 85 = .ok (.aload_n 1, 1) := by decide +kernel
theorem d_Ne_stepBack_86 : decode b_Ne_stepBack 86 = .ok (.iload 7, 2) := by decide +kernel
theorem d_Ne_stepBack_88 : decode b_Ne_stepBack 88 = .ok (.iload 4, 2) := by decide +kernel
theorem d_Ne_stepBack_90 : decode b_Ne_stepBack 90 = .ok (.isub, 1) := by decide +kernel
theorem d_Ne_stepBack_91 : decode b_Ne_stepBack 91 = .ok (.invokevirtual 31, 3) := by decide +kernel
theorem d_Ne_stepBack_94 : decode b_Ne_stepBack 94 = .ok (.lload 14, 2) := by decide +kernel
theorem d_Ne_stepBack_96 : decode b_Ne_stepBack 96 = .ok (.invokevirtual 54, 3) := by decide +kernel
theorem d_Ne_stepBack_99 : decode b_Ne_stepBack 99 = .ok (.lastore, 1) := by decide +kernel
theorem d_Ne_stepBack_100 : decode b_Ne_stepBack 100 = .ok (.lload 8, 2) := by decide +kernel
theorem d_Ne_stepBack_102 : decode b_Ne_stepBack 102 = .ok (.lstore 5, 2) := by decide +kernel
theorem d_Ne_stepBack_104 : decode b_Ne_stepBack 104 = .ok (.iinc 7 1, 3) := by decide +kernel
theorem d_Ne_stepBack_107 : decode b_Ne_stepBack 107 = .ok (.goto (-96), 3) := by decide +kernel
theorem d_Ne_stepBack_110 : decode b_Ne_stepBack 110 = .ok (.return_, 1) := by decide +kernel
theorem d_Op_discount_0 : decode b_Op_discount 0 = .ok (.aload_n 0, 1) := by decide +kernel
theorem d_Op_discount_1 : decode b_Op_discount 1 = .ok (.getfield 32, 3) := by decide +kernel
theorem d_Op_discount_4 : decode b_Op_discount 4 = .ok (.ifnonnull 7, 3) := by decide +kernel
theorem d_Op_discount_7 : decode b_Op_discount 7 = .ok (.lconst 0, 1) := by decide +kernel
theorem d_Op_discount_8 : decode b_Op_discount 8 = .ok (.goto 13, 3) := by decide +kernel
theorem d_Op_discount_11 : decode b_Op_discount 11 = .ok (.aload_n 0, 1) := by decide +kernel
theorem d_Op_discount_12 : decode b_Op_discount 12 = .ok (.getfield 32, 3) := by decide +kernel
theorem d_Op_discount_15 : decode b_Op_discount 15 = .ok (.getfield 55, 3) := by decide +kernel
theorem d_Op_discount_18 : decode b_Op_discount 18 = .ok (.bipush 10, 2) := by decide +kernel
theorem d_Op_discount_20 : decode b_Op_discount 20 = .ok (.lshr, 1) := by decide +kernel
theorem d_Op_discount_21 : decode b_Op_discount 21 = .ok (.lstore_n 1, 1) := by decide +kernel
theorem d_Op_discount_22 : decode b_Op_discount 22 = .ok (.lload_n 1, 1) := by decide +kernel
theorem d_Op_discount_23 : decode b_Op_discount 23 = .ok (.lconst 0, 1) := by decide +kernel
theorem d_Op_discount_24 : decode b_Op_discount 24 = .ok (.lcmp, 1) := by decide +kernel
theorem d_Op_discount_25 : decode b_Op_discount 25 = .ok (.ifCond .lt 11, 3) := by decide +kernel
theorem d_Op_discount_28 : decode b_Op_discount 28 = .ok (.lload_n 1, 1) := by decide +kernel
theorem d_Op_discount_29 : decode b_Op_discount 29 = .ok (.ldc2_w 73, 3) := by decide +kernel
theorem d_Op_discount_32 : decode b_Op_discount 32 = .ok (.lcmp, 1) := by decide +kernel
theorem d_Op_discount_33 : decode b_Op_discount 33 = .ok (.ifCond .le 13, 3) := by decide +kernel
theorem d_Op_discount_36 : decode b_Op_discount 36 = .ok (.new 58, 3) := by decide +kernel
theorem d_Op_discount_39 : decode b_Op_discount 39 = .ok (.dup, 1) := by decide +kernel
theorem d_Op_discount_40 : decode b_Op_discount 40 = .ok (.ldc 75, 2) := by decide +kernel
theorem d_Op_discount_42 : decode b_Op_discount 42 = .ok (.invokespecial 62, 3) := by decide +kernel
theorem d_Op_discount_45 : decode b_Op_discount 45 = .ok (.athrow, 1) := by decide +kernel
theorem d_Op_discount_46 : decode b_Op_discount 46 = .ok (.ldc2_w 73, 3) := by decide +kernel
theorem d_Op_discount_49 : decode b_Op_discount 49 = .ok (.lload_n 1, 1) := by decide +kernel
theorem d_Op_discount_50 : decode b_Op_discount 50 = .ok (.lsub, 1) := by decide +kernel
theorem d_Op_discount_51 : decode b_Op_discount 51 = .ok (.lreturn, 1) := by decide +kernel
theorem d_Op_heldAt_0 : decode b_Op_heldAt 0 = .ok (.aload_n 0, 1) := by decide +kernel
theorem d_Op_heldAt_1 : decode b_Op_heldAt 1 = .ok (.lload_n 1, 1) := by decide +kernel
theorem d_Op_heldAt_2 : decode b_Op_heldAt 2 = .ok (.invokevirtual 77, 3) := by decide +kernel
theorem d_Op_heldAt_5 : decode b_Op_heldAt 5 = .ok (.ifCond .eq 5, 3) := by decide +kernel
theorem d_Op_heldAt_8 : decode b_Op_heldAt 8 = .ok (.lconst 0, 1) := by decide +kernel
theorem d_Op_heldAt_9 : decode b_Op_heldAt 9 = .ok (.lreturn, 1) := by decide +kernel
theorem d_Op_heldAt_10 : decode b_Op_heldAt 10 = .ok (.aload_n 0, 1) := by decide +kernel
theorem d_Op_heldAt_11 : decode b_Op_heldAt 11 = .ok (.getfield 93, 3) := by decide +kernel
theorem d_Op_heldAt_14 : decode b_Op_heldAt 14 = .ok (.ifCond .eq 15, 3) := by decide +kernel
theorem d_Op_heldAt_17 : decode b_Op_heldAt 17 = .ok (.lload_n 3, 1) := by decide +kernel
theorem d_Op_heldAt_18 : decode b_Op_heldAt 18 = .ok (.aload_n 0, 1) := by decide +kernel
theorem d_Op_heldAt_19 : decode b_Op_heldAt 19 = .ok (.lload_n 1, 1) := by decide +kernel
theorem d_Op_heldAt_20 : decode b_Op_heldAt 20 = .ok (.invokevirtual 81, 3) := by decide +kernel
theorem d_Op_heldAt_23 : decode b_Op_heldAt 23 = .ok (.invokestatic 85, 3) := by decide +kernel
theorem d_Op_heldAt_26 : decode b_Op_heldAt 26 = .ok (.goto 4, 3) := by decide +kernel
theorem d_Op_heldAt_29 : decode b_Op_heldAt 29 = .ok (.lload_n 3, 1) := by decide +kernel
theorem d_Op_heldAt_30 : decode b_Op_heldAt 30 = .ok (.lreturn, 1) := by decide +kernel
theorem d_Op_init_0 : decode b_Op_init 0 = .ok (.aload_n 0, 1) := by decide +kernel
theorem d_Op_init_1 : decode b_Op_init 1 = .ok (.iload_n 1, 1) := by decide +kernel
theorem d_Op_init_2 : decode b_Op_init 2 = .ok (.iconst 4, 1) := by decide +kernel
theorem d_Op_init_3 : decode b_Op_init 3 = .ok (.anewarray 3, 3) := by decide +kernel
theorem d_Op_init_6 : decode b_Op_init 6 = .ok (.dup, 1) := by decide +kernel
theorem d_Op_init_7 : decode b_Op_init 7 = .ok (.iconst 0, 1) := by decide +kernel
theorem d_Op_init_8 : decode b_Op_init 8 = .ok (.aload_n 2, 1) := by decide +kernel
theorem d_Op_init_9 : decode b_Op_init 9 = .ok (.aastore, 1) := by decide +kernel
theorem d_Op_init_10 : decode b_Op_init 10 = .ok (.dup, 1) := by decide +kernel
theorem d_Op_init_11 : decode b_Op_init 11 = .ok (.iconst 1, 1) := by decide +kernel
theorem d_Op_init_12 : decode b_Op_init 12 = .ok (.aload_n 3, 1) := by decide +kernel
theorem d_Op_init_13 : decode b_Op_init 13 = .ok (.aastore, 1) := by decide +kernel
theorem d_Op_init_14 : decode b_Op_init 14 = .ok (.dup, 1) := by decide +kernel
theorem d_Op_init_15 : decode b_Op_init 15 = .ok (.iconst 2, 1) := by decide +kernel
theorem d_Op_init_16 : decode b_Op_init 16 = .ok (.aconst_null, 1) := by decide +kernel
theorem d_Op_init_17 : decode b_Op_init 17 = .ok (.aastore, 1) := by decide +kernel
theorem d_Op_init_18 : decode b_Op_init 18 = .ok (.dup, 1) := by decide +kernel
theorem d_Op_init_19 : decode b_Op_init 19 = .ok (.iconst 3, 1) := by decide +kernel
theorem d_Op_init_20 : decode b_Op_init 20 = .ok (.aconst_null, 1) := by decide +kernel
theorem d_Op_init_21 : decode b_Op_init 21 = .ok (.aastore, 1) := by decide +kernel
theorem d_Op_init_22 : decode b_Op_init 22 = .ok (.iconst 2, 1) := by decide +kernel
theorem d_Op_init_23 : decode b_Op_init 23 = .ok (.invokespecial 5, 3) := by decide +kernel
theorem d_Op_init_26 : decode b_Op_init 26 = .ok (.aload_n 0, 1) := by decide +kernel
theorem d_Op_init_27 : decode b_Op_init 27 = .ok (.aload_n 2, 1) := by decide +kernel
theorem d_Op_init_28 : decode b_Op_init 28 = .ok (.putfield 9, 3) := by decide +kernel
theorem d_Op_init_31 : decode b_Op_init 31 = .ok (.aload_n 0, 1) := by decide +kernel
theorem d_Op_init_32 : decode b_Op_init 32 = .ok (.aload_n 3, 1) := by decide +kernel
theorem d_Op_init_33 : decode b_Op_init 33 = .ok (.putfield 15, 3) := by decide +kernel
theorem d_Op_init_36 : decode b_Op_init 36 = .ok (.aload_n 0, 1) := by decide +kernel
theorem d_Op_init_37 : decode b_Op_init 37 = .ok (.iload 4, 2) := by decide +kernel
theorem d_Op_init_39 : decode b_Op_init 39 = .ok (.putfield 18, 3) := by decide +kernel
theorem d_Op_init_42 : decode b_Op_init 42 = .ok (.aload_n 0, 1) := by decide +kernel
theorem d_Op_init_43 : decode b_Op_init 43 = .ok (.lload 5, 2) := by decide +kernel
theorem d_Op_init_45 : decode b_Op_init 45 = .ok (.putfield 22, 3) := by decide +kernel
theorem d_Op_init_48 : decode b_Op_init 48 = .ok (.aload_n 0, 1) := by decide +kernel
theorem d_Op_init_49 : decode b_Op_init 49 = .ok (.iload 7, 2) := by decide +kernel
theorem d_Op_init_51 : decode b_Op_init 51 = .ok (.putfield 26, 3) := by decide +kernel
theorem d_Op_init_54 : decode b_Op_init 54 = .ok (.aload_n 0, 1) := by decide +kernel
theorem d_Op_init_55 : decode b_Op_init 55 = .ok (.bipush 8, 2) := by decide +kernel
theorem d_Op_init_57 : decode b_Op_init 57 = .ok (.putfield 29, 3) := by decide +kernel
theorem d_Op_init_60 : decode b_Op_init 60 = .ok (.return_, 1) := by decide +kernel
theorem d_Op_isOut_0 : decode b_Op_isOut 0 = .ok (.aload_n 0, 1) := by decide +kernel
theorem d_Op_isOut_1 : decode b_Op_isOut 1 = .ok (.getfield 35, 3) := by decide +kernel
theorem d_Op_isOut_4 : decode b_Op_isOut 4 = .ok (.ifnull 19, 3) := by decide +kernel
theorem d_Op_isOut_7 : decode b_Op_isOut 7 = .ok (.lload_n 1, 1) := by decide +kernel
theorem d_Op_isOut_8 : decode b_Op_isOut 8 = .ok (.aload_n 0, 1) := by decide +kernel
theorem d_Op_isOut_9 : decode b_Op_isOut 9 = .ok (.getfield 35, 3) := by decide +kernel
theorem d_Op_isOut_12 : decode b_Op_isOut 12 = .ok (.getfield 55, 3) := by decide +kernel
theorem d_Op_isOut_15 : decode b_Op_isOut 15 = .ok (.lcmp, 1) := by decide +kernel
theorem d_Op_isOut_16 : decode b_Op_isOut 16 = .ok (.ifCond .lt 7, 3) := by decide +kernel
theorem d_Op_isOut_19 : decode b_Op_isOut 19 = .ok (.iconst 1, 1) := by decide +kernel
theorem d_Op_isOut_20 : decode b_Op_isOut 20 = .ok (.goto 4, 3) := by decide +kernel
theorem d_Op_isOut_23 : decode b_Op_isOut 23 = .ok (.iconst 0, 1) := by decide +kernel
theorem d_Op_isOut_24 : decode b_Op_isOut 24 = .ok (.ireturn, 1) := by decide +kernel
theorem d_Op_payoff_0 : decode b_Op_payoff 0 = .ok (.aload_n 0, 1) := by decide +kernel
theorem d_Op_payoff_1 : decode b_Op_payoff 1 = .ok (.lload_n 1, 1) := by decide +kernel
theorem d_Op_payoff_2 : decode b_Op_payoff 2 = .ok (.invokevirtual 77, 3) := by decide +kernel
theorem d_Op_payoff_5 : decode b_Op_payoff 5 = .ok (.ifCond .eq 7, 3) := by decide +kernel
theorem d_Op_payoff_8 : decode b_Op_payoff 8 = .ok (.lconst 0, 1) := by decide +kernel
theorem d_Op_payoff_9 : decode b_Op_payoff 9 = .ok (.goto 8, 3) := by decide +kernel
theorem d_Op_payoff_12 : decode b_Op_payoff 12 = .ok (.aload_n 0, 1) := by decide +kernel
theorem d_Op_payoff_13 : decode b_Op_payoff 13 = .ok (.lload_n 1, 1) := by decide +kernel
theorem d_Op_payoff_14 : decode b_Op_payoff 14 = .ok (.invokevirtual 81, 3) := by decide +kernel
theorem d_Op_payoff_17 : decode b_Op_payoff 17 = .ok (.lreturn, 1) := by decide +kernel
theorem d_Op_payoffInside_0 : decode b_Op_payoffInside 0 = .ok (.aload_n 0, 1) := by decide +kernel
theorem d_Op_payoffInside_1 : decode b_Op_payoffInside 1 = .ok (.getfield 18, 3) := by decide +kernel
theorem d_Op_payoffInside_4 : decode b_Op_payoffInside 4 = .ok (.tableswitch 67 0 2 #[28, 39, 50], 28) := by decide +kernel
theorem d_Op_payoffInside_32 : decode b_Op_payoffInside 32 = .ok (.lload_n 1, 1) := by decide +kernel
theorem d_Op_payoffInside_33 : decode b_Op_payoffInside 33 = .ok (.aload_n 0, 1) := by decide +kernel
theorem d_Op_payoffInside_34 : decode b_Op_payoffInside 34 = .ok (.getfield 22, 3) := by decide +kernel
theorem d_Op_payoffInside_37 : decode b_Op_payoffInside 37 = .ok (.lsub, 1) := by decide +kernel
theorem d_Op_payoffInside_38 : decode b_Op_payoffInside 38 = .ok (.lconst 0, 1) := by decide +kernel
theorem d_Op_payoffInside_39 : decode b_Op_payoffInside 39 = .ok (.invokestatic 85, 3) := by decide +kernel
theorem d_Op_payoffInside_42 : decode b_Op_payoffInside 42 = .ok (.lreturn, 1) := by decide +kernel
theorem d_Op_payoffInside_43 : decode b_Op_payoffInside 43 = .ok (.aload_n 0, 1) := by decide +kernel
theorem d_Op_payoffInside_44 : decode b_Op_payoffInside 44 = .ok (.getfield 22, 3) := by decide +kernel
theorem d_Op_payoffInside_47 : decode b_Op_payoffInside 47 = .ok (.lload_n 1, 1) := by decide +kernel
theorem d_Op_payoffInside_48 : decode b_Op_payoffInside 48 = .ok (.lsub, 1) := by decide +kernel
theorem d_Op_payoffInside_49 : decode b_Op_payoffInside 49 = .ok (.lconst 0, 1) := by decide +kernel
theorem d_Op_payoffInside_50 : decode b_Op_payoffInside 50 = .ok (.invokestatic 85, 3) := by decide +kernel
theorem d_Op_payoffInside_53 : decode b_Op_payoffInside 53 = .ok (.lreturn, 1) := by decide +kernel
theorem d_Op_payoffInside_54 : decode b_Op_payoffInside 54 = .ok (.lload_n 1, 1) := by decide +kernel
theorem d_Op_payoffInside_55 : decode b_Op_payoffInside 55 = .ok (.aload_n 0, 1) := by decide +kernel
theorem d_Op_payoffInside_56 : decode b_Op_payoffInside 56 = .ok (.getfield 22, 3) := by decide +kernel
theorem d_Op_payoffInside_59 : decode b_Op_payoffInside 59 = .ok (.lcmp, 1) := by decide +kernel
theorem d_Op_payoffInside_60 : decode b_Op_payoffInside 60 = .ok (.ifCond .lt 9, 3) := by decide +kernel
theorem d_Op_payoffInside_63 : decode b_Op_payoffInside 63 = .ok (.ldc2_w 91, 3) := by decide +kernel
theorem d_Op_payoffInside_66 : decode b_Op_payoffInside 66 = .ok (.goto 4, 3) := by decide +kernel
theorem d_Op_payoffInside_69 : decode b_Op_payoffInside 69 = .ok (.lconst 0, 1) := by decide +kernel
theorem d_Op_payoffInside_70 : decode b_Op_payoffInside 70 = .ok (.lreturn, 1) := by decide +kernel
theorem d_Op_payoffInside_71 : decode b_Op_payoffInside 71 = .ok (.lload_n 1, 1) := by decide +kernel
theorem d_Op_payoffInside_72 : decode b_Op_payoffInside 72 = .ok (.aload_n 0, 1) := by decide +kernel
theorem d_Op_payoffInside_73 : decode b_Op_payoffInside 73 = .ok (.getfield 22, 3) := by decide +kernel
theorem d_Op_payoffInside_76 : decode b_Op_payoffInside 76 = .ok (.lsub, 1) := by decide +kernel
theorem d_Op_payoffInside_77 : decode b_Op_payoffInside 77 = .ok (.lreturn, 1) := by decide +kernel
theorem d_Op_priceAt_0 : decode b_Op_priceAt 0 = .ok (.aload_n 0, 1) := by decide +kernel
theorem d_Op_priceAt_1 : decode b_Op_priceAt 1 = .ok (.getfield 9, 3) := by decide +kernel
theorem d_Op_priceAt_4 : decode b_Op_priceAt 4 = .ok (.getfield 55, 3) := by decide +kernel
theorem d_Op_priceAt_7 : decode b_Op_priceAt 7 = .ok (.iload_n 1, 1) := by decide +kernel
theorem d_Op_priceAt_8 : decode b_Op_priceAt 8 = .ok (.i2l, 1) := by decide +kernel
theorem d_Op_priceAt_9 : decode b_Op_priceAt 9 = .ok (.aload_n 0, 1) := by decide +kernel
theorem d_Op_priceAt_10 : decode b_Op_priceAt 10 = .ok (.getfield 15, 3) := by decide +kernel
theorem d_Op_priceAt_13 : decode b_Op_priceAt 13 = .ok (.getfield 55, 3) := by decide +kernel
theorem d_Op_priceAt_16 : decode b_Op_priceAt 16 = .ok (.lmul, 1) := by decide +kernel
theorem d_Op_priceAt_17 : decode b_Op_priceAt 17 = .ok (.ladd, 1) := by decide +kernel
theorem d_Op_priceAt_18 : decode b_Op_priceAt 18 = .ok (.lreturn, 1) := by decide +kernel
theorem d_Op_sort_0 : decode b_Op_sort 0 = .ok (.iconst 3, 1) := by decide +kernel
theorem d_Op_sort_1 : decode b_Op_sort 1 = .ok (.ireturn, 1) := by decide +kernel
theorem d_Op_takeParts_0 : decode b_Op_takeParts 0 = .ok (.aload_n 0, 1) := by decide +kernel
theorem d_Op_takeParts_1 : decode b_Op_takeParts 1 = .ok (.aload_n 1, 1) := by decide +kernel
theorem d_Op_takeParts_2 : decode b_Op_takeParts 2 = .ok (.putfield 32, 3) := by decide +kernel
theorem d_Op_takeParts_5 : decode b_Op_takeParts 5 = .ok (.aload_n 0, 1) := by decide +kernel
theorem d_Op_takeParts_6 : decode b_Op_takeParts 6 = .ok (.aload_n 2, 1) := by decide +kernel
theorem d_Op_takeParts_7 : decode b_Op_takeParts 7 = .ok (.putfield 35, 3) := by decide +kernel
theorem d_Op_takeParts_10 : decode b_Op_takeParts 10 = .ok (.aload_n 0, 1) := by decide +kernel
theorem d_Op_takeParts_11 : decode b_Op_takeParts 11 = .ok (.iconst 2, 1) := by decide +kernel
theorem d_Op_takeParts_12 : decode b_Op_takeParts 12 = .ok (.putfield 38, 3) := by decide +kernel
theorem d_Op_takeParts_15 : decode b_Op_takeParts 15 = .ok (.aload_n 0, 1) := by decide +kernel
theorem d_Op_takeParts_16 : decode b_Op_takeParts 16 = .ok (.getfield 32, 3) := by decide +kernel
theorem d_Op_takeParts_19 : decode b_Op_takeParts 19 = .ok (.ifnull 26, 3) := by decide +kernel
theorem d_Op_takeParts_22 : decode b_Op_takeParts 22 = .ok (.aload_n 0, 1) := by decide +kernel
theorem d_Op_takeParts_23 : decode b_Op_takeParts 23 = .ok (.getfield 41, 3) := by decide +kernel
theorem d_Op_takeParts_26 : decode b_Op_takeParts 26 = .ok (.aload_n 0, 1) := by decide +kernel
theorem d_Op_takeParts_27 : decode b_Op_takeParts 27 = .ok (.getfield 38, 3) := by decide +kernel
theorem d_Op_takeParts_30 : decode b_Op_takeParts 30 = .ok (.aload_n 0, 1) := by decide +kernel
theorem d_Op_takeParts_31 : decode b_Op_takeParts 31 = .ok (.getfield 32, 3) := by decide +kernel
theorem d_Op_takeParts_34 : decode b_Op_takeParts 34 = .ok (.aastore, 1) := by decide +kernel
theorem d_Op_takeParts_35 : decode b_Op_takeParts 35 = .ok (.aload_n 0, 1) := by decide +kernel
theorem d_Op_takeParts_36 : decode b_Op_takeParts 36 = .ok (.dup, 1) := by decide +kernel
theorem d_Op_takeParts_37 : decode b_Op_takeParts 37 = .ok (.getfield 38, 3) := by decide +kernel
theorem d_Op_takeParts_40 : decode b_Op_takeParts 40 = .ok (.iconst 1, 1) := by decide +kernel
theorem d_Op_takeParts_41 : decode b_Op_takeParts 41 = .ok (.iadd, 1) := by decide +kernel
theorem d_Op_takeParts_42 : decode b_Op_takeParts 42 = .ok (.putfield 38, 3) := by decide +kernel
theorem d_Op_takeParts_45 : decode b_Op_takeParts 45 = .ok (.aload_n 0, 1) := by decide +kernel
theorem d_Op_takeParts_46 : decode b_Op_takeParts 46 = .ok (.getfield 35, 3) := by decide +kernel
theorem d_Op_takeParts_49 : decode b_Op_takeParts 49 = .ok (.ifnull 26, 3) := by decide +kernel
theorem d_Op_takeParts_52 : decode b_Op_takeParts 52 = .ok (.aload_n 0, 1) := by decide +kernel
theorem d_Op_takeParts_53 : decode b_Op_takeParts 53 = .ok (.getfield 41, 3) := by decide +kernel
theorem d_Op_takeParts_56 : decode b_Op_takeParts 56 = .ok (.aload_n 0, 1) := by decide +kernel
theorem d_Op_takeParts_57 : decode b_Op_takeParts 57 = .ok (.getfield 38, 3) := by decide +kernel
theorem d_Op_takeParts_60 : decode b_Op_takeParts 60 = .ok (.aload_n 0, 1) := by decide +kernel
theorem d_Op_takeParts_61 : decode b_Op_takeParts 61 = .ok (.getfield 35, 3) := by decide +kernel
theorem d_Op_takeParts_64 : decode b_Op_takeParts 64 = .ok (.aastore, 1) := by decide +kernel
theorem d_Op_takeParts_65 : decode b_Op_takeParts 65 = .ok (.aload_n 0, 1) := by decide +kernel
theorem d_Op_takeParts_66 : decode b_Op_takeParts 66 = .ok (.dup, 1) := by decide +kernel
theorem d_Op_takeParts_67 : decode b_Op_takeParts 67 = .ok (.getfield 38, 3) := by decide +kernel
theorem d_Op_takeParts_70 : decode b_Op_takeParts 70 = .ok (.iconst 1, 1) := by decide +kernel
theorem d_Op_takeParts_71 : decode b_Op_takeParts 71 = .ok (.iadd, 1) := by decide +kernel
theorem d_Op_takeParts_72 : decode b_Op_takeParts 72 = .ok (.putfield 38, 3) := by decide +kernel
theorem d_Op_takeParts_75 : decode b_Op_takeParts 75 = .ok (.return_, 1) := by decide +kernel
theorem d_Op_workOut_0 : decode b_Op_workOut 0 = .ok (.aload_n 0, 1) := by decide +kernel
theorem d_Op_workOut_1 : decode b_Op_workOut 1 = .ok (.getfield 45, 3) := by decide +kernel
theorem d_Op_workOut_4 : decode b_Op_workOut 4 = .ok (.aload_n 0, 1) := by decide +kernel
theorem d_Op_workOut_5 : decode b_Op_workOut 5 = .ok (.invokevirtual 49, 3) := by decide +kernel
theorem d_Op_workOut_8 : decode b_Op_workOut 8 = .ok (.aload_n 0, 1) := by decide +kernel
theorem d_Op_workOut_9 : decode b_Op_workOut 9 = .ok (.getfield 15, 3) := by decide +kernel
theorem d_Op_workOut_12 : decode b_Op_workOut 12 = .ok (.getfield 55, 3) := by decide +kernel
theorem d_Op_workOut_15 : decode b_Op_workOut 15 = .ok (.lconst 0, 1) := by decide +kernel
theorem d_Op_workOut_16 : decode b_Op_workOut 16 = .ok (.lcmp, 1) := by decide +kernel
theorem d_Op_workOut_17 : decode b_Op_workOut 17 = .ok (.ifCond .gt 13, 3) := by decide +kernel
theorem d_Op_workOut_20 : decode b_Op_workOut 20 = .ok (.new 58, 3) := by decide +kernel
theorem d_Op_workOut_23 : decode b_Op_workOut 23 = .ok (.dup, 1) := by decide +kernel
theorem d_Op_workOut_24 : decode b_Op_workOut 24 = .ok (.ldc 60, 2) := by decide +kernel
theorem d_Op_workOut_26 : decode b_Op_workOut 26 = .ok (.invokespecial 62, 3) := by decide +kernel
theorem d_Op_workOut_29 : decode b_Op_workOut 29 = .ok (.athrow, 1) := by decide +kernel
theorem d_Op_workOut_30 : decode b_Op_workOut 30 = .ok (.aload_n 0, 1) := by decide +kernel
theorem d_Op_workOut_31 : decode b_Op_workOut 31 = .ok (.getfield 45, 3) := by decide +kernel
theorem d_Op_workOut_34 : decode b_Op_workOut 34 = .ok (.aload_n 0, 1) := by decide +kernel
theorem d_Op_workOut_35 : decode b_Op_workOut 35 = .ok (.aload_n 0, 1) := by decide +kernel
theorem d_Op_workOut_36 : decode b_Op_workOut 36 = .ok (.invokevirtual 65, 3) := by decide +kernel
theorem d_Op_workOut_39 : decode b_Op_workOut 39 = .ok (.invokevirtual 69, 3) := by decide +kernel
theorem d_Op_workOut_42 : decode b_Op_workOut 42 = .ok (.lreturn, 1) := by decide +kernel
theorem d_Pa_checkSuits_0 : decode b_Pa_checkSuits 0 = .ok (.aload_n 1, 1) := by decide +kernel
theorem d_Pa_checkSuits_1 : decode b_Pa_checkSuits 1 = .ok (.getfield 9, 3) := by decide +kernel
theorem d_Pa_checkSuits_4 : decode b_Pa_checkSuits 4 = .ok (.ifCond .eq 13, 3) := by decide +kernel
theorem d_Pa_checkSuits_7 : decode b_Pa_checkSuits 7 = .ok (.new 15, 3) := by decide +kernel
theorem d_Pa_checkSuits_10 : decode b_Pa_checkSuits 10 = .ok (.dup, 1) := by decide +kernel
theorem d_Pa_checkSuits_11 : decode b_Pa_checkSuits 11 = .ok (.ldc 17, 2) := by decide +kernel
theorem d_Pa_checkSuits_13 : decode b_Pa_checkSuits 13 = .ok (.invokespecial 19, 3) := by decide +kernel
theorem d_Pa_checkSuits_16 : decode b_Pa_checkSuits 16 = .ok (.athrow, 1) := by decide +kernel
theorem d_Pa_checkSuits_17 : decode b_Pa_checkSuits 17 = .ok (.return_, 1) := by decide +kernel
theorem d_Pa_drawsUp_0 : decode b_Pa_drawsUp 0 = .ok (.aload_n 0, 1) := by decide +kernel
theorem d_Pa_drawsUp_1 : decode b_Pa_drawsUp 1 = .ok (.aload_n 0, 1) := by decide +kernel
theorem d_Pa_drawsUp_2 : decode b_Pa_drawsUp 2 = .ok (.getfield 26, 3) := by decide +kernel
theorem d_Pa_drawsUp_5 : decode b_Pa_drawsUp 5 = .ok (.ldc2_w 72, 3) := by decide +kernel
theorem d_Pa_drawsUp_8 : decode b_Pa_drawsUp 8 = .ok (.lmul, 1) := by decide +kernel
theorem d_Pa_drawsUp_9 : decode b_Pa_drawsUp 9 = .ok (.ldc2_w 24, 3) := by decide +kernel
theorem d_Pa_drawsUp_12 : decode b_Pa_drawsUp 12 = .ok (.ladd, 1) := by decide +kernel
theorem d_Pa_drawsUp_13 : decode b_Pa_drawsUp 13 = .ok (.ldc2_w 74, 3) := by decide +kernel
theorem d_Pa_drawsUp_16 : decode b_Pa_drawsUp 16 = .ok (.land, 1) := by decide +kernel
theorem d_Pa_drawsUp_17 : decode b_Pa_drawsUp 17 = .ok (.putfield 26, 3) := by decide +kernel
theorem d_Pa_drawsUp_20 : decode b_Pa_drawsUp 20 = .ok (.aload_n 0, 1) := by decide +kernel
theorem d_Pa_drawsUp_21 : decode b_Pa_drawsUp 21 = .ok (.getfield 26, 3) := by decide +kernel
theorem d_Pa_drawsUp_24 : decode b_Pa_drawsUp 24 = .ok (.bipush 16, 2) := by decide +kernel
theorem d_Pa_drawsUp_26 : decode b_Pa_drawsUp 26 = .ok (.lshr, 1) := by decide +kernel
theorem d_Pa_drawsUp_27 : decode b_Pa_drawsUp 27 = .ok (.ldc2_w 76, 3) := by decide +kernel
theorem d_Pa_drawsUp_30 : decode b_Pa_drawsUp 30 = .ok (.land, 1) := by decide +kernel
theorem d_Pa_drawsUp_31 : decode b_Pa_drawsUp 31 = .ok (.iload_n 1, 1) := by decide +kernel
theorem d_Pa_drawsUp_32 : decode b_Pa_drawsUp 32 = .ok (.i2l, 1) := by decide +kernel
theorem d_Pa_drawsUp_33 : decode b_Pa_drawsUp 33 = .ok (.lcmp, 1) := by decide +kernel
theorem d_Pa_drawsUp_34 : decode b_Pa_drawsUp 34 = .ok (.ifCond .ge 7, 3) := by decide +kernel
theorem d_Pa_drawsUp_37 : decode b_Pa_drawsUp 37 = .ok (.iconst 1, 1) := by decide +kernel
theorem d_Pa_drawsUp_38 : decode b_Pa_drawsUp 38 = .ok (.goto 4, 3) := by decide +kernel
theorem d_Pa_drawsUp_41 : decode b_Pa_drawsUp 41 = .ok (.iconst 0, 1) := by decide +kernel
theorem d_Pa_drawsUp_42 : decode b_Pa_drawsUp 42 = .ok (.ireturn, 1) := by decide +kernel
theorem d_Pa_endOfPath_0 : decode b_Pa_endOfPath 0 = .ok (.aload_n 1, 1) := by decide +kernel
theorem d_Pa_endOfPath_1 : decode b_Pa_endOfPath 1 = .ok (.getfield 45, 3) := by decide +kernel
theorem d_Pa_endOfPath_4 : decode b_Pa_endOfPath 4 = .ok (.getfield 49, 3) := by decide +kernel
theorem d_Pa_endOfPath_7 : decode b_Pa_endOfPath 7 = .ok (.lstore_n 2, 1) := by decide +kernel
theorem d_Pa_endOfPath_8 : decode b_Pa_endOfPath 8 = .ok (.aload_n 1, 1) := by decide +kernel
theorem d_Pa_endOfPath_9 : decode b_Pa_endOfPath 9 = .ok (.lload_n 2, 1) := by decide +kernel
theorem d_Pa_endOfPath_10 : decode b_Pa_endOfPath 10 = .ok (.invokevirtual 54, 3) := by decide +kernel
theorem d_Pa_endOfPath_13 : decode b_Pa_endOfPath 13 = .ok (.istore 4, 2) := by decide +kernel
theorem d_Pa_endOfPath_15 : decode b_Pa_endOfPath 15 = .ok (.iconst 0, 1) := by decide +kernel
theorem d_Pa_endOfPath_16 : decode b_Pa_endOfPath 16 = .ok (.istore 5, 2) := by decide +kernel
theorem d_Pa_endOfPath_18 : decode b_Pa_endOfPath 18 = .ok (.iload 5, 2) := by decide +kernel
theorem d_Pa_endOfPath_20 : decode b_Pa_endOfPath 20 = .ok (.aload_n 1, 1) := by decide +kernel
theorem d_Pa_endOfPath_21 : decode b_Pa_endOfPath 21 = .ok (.getfield 42, 3) := by decide +kernel
theorem d_Pa_endOfPath_24 : decode b_Pa_endOfPath 24 = .ok (.if_icmp .ge 61, 3) := by decide +kernel
theorem d_Pa_endOfPath_27 : decode b_Pa_endOfPath 27 = .ok (.lload_n 2, 1) := by decide +kernel
theorem d_Pa_endOfPath_28 : decode b_Pa_endOfPath 28 = .ok (.aload_n 0, 1) := by decide +kernel
theorem d_Pa_endOfPath_29 : decode b_Pa_endOfPath 29 = .ok (.aload_n 1, 1) := by decide +kernel
theorem d_Pa_endOfPath_30 : decode b_Pa_endOfPath 30 = .ok (.getfield 58, 3) := by decide +kernel
theorem d_Pa_endOfPath_33 : decode b_Pa_endOfPath 33 = .ok (.invokevirtual 61, 3) := by decide +kernel
theorem d_Pa_endOfPath_36 : decode b_Pa_endOfPath 36 = .ok (.ifCond .eq 13, 3) := by decide +kernel
theorem d_Pa_endOfPath_39 : decode b_Pa_endOfPath 39 = .ok (.aload_n 1, 1) := by decide +kernel
theorem d_Pa_endOfPath_40 : decode b_Pa_endOfPath 40 = .ok (.getfield 65, 3) := by decide +kernel
theorem d_Pa_endOfPath_43 : decode b_Pa_endOfPath 43 = .ok (.getfield 49, 3) := by decide +kernel
theorem d_Pa_endOfPath_46 : decode b_Pa_endOfPath 46 = .ok (.goto 11, 3) := by decide +kernel
theorem d_Pa_endOfPath_49 : decode b_Pa_endOfPath 49 = .ok (.aload_n 1, 1) := by decide +kernel
theorem d_Pa_endOfPath_50 : decode b_Pa_endOfPath 50 = .ok (.getfield 65, 3) := by decide +kernel
theorem d_Pa_endOfPath_53 : decode b_Pa_endOfPath 53 = .ok (.getfield 49, 3) := by decide +kernel
theorem d_Pa_endOfPath_56 : decode b_Pa_endOfPath 56 = .ok (.lneg, 1) := by decide +kernel
theorem d_Pa_endOfPath_57 : decode b_Pa_endOfPath 57 = .ok (.ladd, 1) := by decide +kernel
theorem d_Pa_endOfPath_58 : decode b_Pa_endOfPath 58 = .ok (.lstore_n 2, 1) := by decide +kernel
theorem d_Pa_endOfPath_59 : decode b_Pa_endOfPath 59 = .ok (.iload 4, 2) := by decide +kernel
theorem d_Pa_endOfPath_61 : decode b_Pa_endOfPath 61 = .ok (.ifCond .ne 11, 3) := by decide +kernel
theorem d_Pa_endOfPath_64 : decode b_Pa_endOfPath 64 = .ok (.aload_n 1, 1) := by decide +kernel
theorem d_Pa_endOfPath_65 : decode b_Pa_endOfPath 65 = .ok (.lload_n 2, 1) := by decide +kernel
theorem d_Pa_endOfPath_66 : decode b_Pa_endOfPath 66 = .ok (.invokevirtual 54, 3) := by decide +kernel
theorem d_Pa_endOfPath_69 : decode b_Pa_endOfPath 69 = .ok (.ifCond .eq 7, 3) := by decide +kernel
theorem d_Pa_endOfPath_72 : decode b_Pa_endOfPath 72 = .ok (.iconst 1, 1) := by decide +kernel
theorem d_Pa_endOfPath_73 : decode b_Pa_endOfPath 73 = .ok (.goto 4, 3) := by decide +kernel
theorem d_Pa_endOfPath_76 : decode b_Pa_endOfPath 76 = .ok (.iconst 0, 1) := by decide +kernel
