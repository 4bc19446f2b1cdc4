/-! what each instruction is, method by method (by program) -/

theorem q140_0 : decode (mB 140) 0 = .ok (.iconst 1, 1) := by decide +kernel
theorem q140_1 : decode (mB 140) 1 = .ok (.istore_n 3, 1) := by decide +kernel
theorem q140_2 : decode (mB 140) 2 = .ok (.iload_n 3, 1) := by decide +kernel
theorem q140_3 : decode (mB 140) 3 = .ok (.bipush 9, 2) := by decide +kernel
theorem q140_5 : decode (mB 140) 5 = .ok (.if_icmp .gt 21, 3) := by decide +kernel
theorem q140_8 : decode (mB 140) 8 = .ok (.aload_n 0, 1) := by decide +kernel
theorem q140_9 : decode (mB 140) 9 = .ok (.aload_n 1, 1) := by decide +kernel
theorem q140_10 : decode (mB 140) 10 = .ok (.iload_n 3, 1) := by decide +kernel
theorem q140_11 : decode (mB 140) 11 = .ok (.aload_n 2, 1) := by decide +kernel
theorem q140_12 : cfB 140 12 141 139 0 4 4 = true := by decide +kernel
theorem q140_15 : decode (mB 140) 15 = .ok (.ifCond .ne 5, 3) := by decide +kernel
theorem q140_18 : decode (mB 140) 18 = .ok (.iload_n 3, 1) := by decide +kernel
theorem q140_19 : decode (mB 140) 19 = .ok (.ireturn, 1) := by decide +kernel
theorem q140_20 : decode (mB 140) 20 = .ok (.iinc 3 1, 3) := by decide +kernel
theorem q140_23 : decode (mB 140) 23 = .ok (.goto (-21), 3) := by decide +kernel
theorem q140_26 : decode (mB 140) 26 = .ok (.iconst 0, 1) := by decide +kernel
theorem q140_27 : decode (mB 140) 27 = .ok (.ireturn, 1) := by decide +kernel
theorem q141_0 : decode (mB 141) 0 = .ok (.iconst 0, 1) := by decide +kernel
theorem q141_1 : decode (mB 141) 1 = .ok (.istore_n 3, 1) := by decide +kernel
theorem q141_2 : decode (mB 141) 2 = .ok (.iconst 2, 1) := by decide +kernel
theorem q141_3 : decode (mB 141) 3 = .ok (.istore 4, 2) := by decide +kernel
theorem q141_5 : decode (mB 141) 5 = .ok (.iload 4, 2) := by decide +kernel
theorem q141_7 : decode (mB 141) 7 = .ok (.bipush 6, 2) := by decide +kernel
theorem q141_9 : decode (mB 141) 9 = .ok (.if_icmp .ge 24, 3) := by decide +kernel
theorem q141_12 : decode (mB 141) 12 = .ok (.iload_n 3, 1) := by decide +kernel
theorem q141_13 : decode (mB 141) 13 = .ok (.aload_n 2, 1) := by decide +kernel
theorem q141_14 : decode (mB 141) 14 = .ok (.iload 4, 2) := by decide +kernel
theorem q141_16 : decode (mB 141) 16 = .ok (.iaload, 1) := by decide +kernel
theorem q141_17 : decode (mB 141) 17 = .ok (.ifCond .ge 7, 3) := by decide +kernel
theorem q141_20 : decode (mB 141) 20 = .ok (.iconst 0, 1) := by decide +kernel
theorem q141_21 : decode (mB 141) 21 = .ok (.goto 4, 3) := by decide +kernel
theorem q141_24 : decode (mB 141) 24 = .ok (.iconst 1, 1) := by decide +kernel
theorem q141_25 : decode (mB 141) 25 = .ok (.iadd, 1) := by decide +kernel
theorem q141_26 : decode (mB 141) 26 = .ok (.istore_n 3, 1) := by decide +kernel
theorem q141_27 : decode (mB 141) 27 = .ok (.iinc 4 1, 3) := by decide +kernel
theorem q141_30 : decode (mB 141) 30 = .ok (.goto (-25), 3) := by decide +kernel
theorem q141_33 : decode (mB 141) 33 = .ok (.aload_n 2, 1) := by decide +kernel
theorem q141_34 : decode (mB 141) 34 = .ok (.iconst 0, 1) := by decide +kernel
theorem q141_35 : decode (mB 141) 35 = .ok (.iaload, 1) := by decide +kernel
theorem q141_36 : decode (mB 141) 36 = .ok (.iconst 2, 1) := by decide +kernel
theorem q141_37 : decode (mB 141) 37 = .ok (.if_icmp .ne 7, 3) := by decide +kernel
theorem q141_40 : decode (mB 141) 40 = .ok (.iconst 1, 1) := by decide +kernel
theorem q141_41 : decode (mB 141) 41 = .ok (.goto 4, 3) := by decide +kernel
theorem q141_44 : decode (mB 141) 44 = .ok (.iconst 0, 1) := by decide +kernel
theorem q141_45 : decode (mB 141) 45 = .ok (.istore 4, 2) := by decide +kernel
theorem q141_47 : decode (mB 141) 47 = .ok (.aload_n 2, 1) := by decide +kernel
theorem q141_48 : decode (mB 141) 48 = .ok (.iconst 1, 1) := by decide +kernel
theorem q141_49 : decode (mB 141) 49 = .ok (.iaload, 1) := by decide +kernel
theorem q141_50 : decode (mB 141) 50 = .ok (.ifCond .ne 7, 3) := by decide +kernel
theorem q141_53 : decode (mB 141) 53 = .ok (.iconst 1, 1) := by decide +kernel
theorem q141_54 : decode (mB 141) 54 = .ok (.goto 4, 3) := by decide +kernel
theorem q141_57 : decode (mB 141) 57 = .ok (.iconst 0, 1) := by decide +kernel
theorem q141_58 : decode (mB 141) 58 = .ok (.istore 5, 2) := by decide +kernel
theorem q141_60 : decode (mB 141) 60 = .ok (.iconst 0, 1) := by decide +kernel
theorem q141_61 : decode (mB 141) 61 = .ok (.istore 6, 2) := by decide +kernel
theorem q141_63 : decode (mB 141) 63 = .ok (.iload 6, 2) := by decide +kernel
theorem q141_65 : decode (mB 141) 65 = .ok (.aload_n 2, 1) := by decide +kernel
theorem q141_66 : decode (mB 141) 66 = .ok (.iconst 0, 1) := by decide +kernel
theorem q141_67 : decode (mB 141) 67 = .ok (.iaload, 1) := by decide +kernel
theorem q141_68 : decode (mB 141) 68 = .ok (.ifCond .ne 12, 3) := by decide +kernel
theorem q141_71 : decode (mB 141) 71 = .ok (.iload 5, 2) := by decide +kernel
theorem q141_73 : decode (mB 141) 73 = .ok (.ifCond .eq 7, 3) := by decide +kernel
theorem q141_76 : decode (mB 141) 76 = .ok (.iconst 1, 1) := by decide +kernel
theorem q141_77 : decode (mB 141) 77 = .ok (.goto 4, 3) := by decide +kernel
theorem q141_80 : decode (mB 141) 80 = .ok (.iconst 0, 1) := by decide +kernel
theorem q141_81 : decode (mB 141) 81 = .ok (.iadd, 1) := by decide +kernel
theorem q141_82 : decode (mB 141) 82 = .ok (.istore 6, 2) := by decide +kernel
theorem q141_84 : decode (mB 141) 84 = .ok (.iload 6, 2) := by decide +kernel
theorem q141_86 : decode (mB 141) 86 = .ok (.aload_n 1, 1) := by decide +kernel
theorem q141_87 : decode (mB 141) 87 = .ok (.aload_n 2, 1) := by decide +kernel
theorem q141_88 : decode (mB 141) 88 = .ok (.iconst 2, 1) := by decide +kernel
theorem q141_89 : decode (mB 141) 89 = .ok (.iaload, 1) := by decide +kernel
theorem q141_90 : decode (mB 141) 90 = .ok (.iconst 3, 1) := by decide +kernel
theorem q141_91 : decode (mB 141) 91 = .ok (.iconst 3, 1) := by decide +kernel
theorem q141_92 : cfB 141 92 137 138 0 4 4 = true := by decide +kernel
theorem q141_95 : decode (mB 141) 95 = .ok (.ifCond .eq 19, 3) := by decide +kernel
theorem q141_98 : decode (mB 141) 98 = .ok (.aload_n 1, 1) := by decide +kernel
theorem q141_99 : decode (mB 141) 99 = .ok (.aload_n 2, 1) := by decide +kernel
theorem q141_100 : decode (mB 141) 100 = .ok (.iconst 3, 1) := by decide +kernel
theorem q141_101 : decode (mB 141) 101 = .ok (.iaload, 1) := by decide +kernel
theorem q141_102 : decode (mB 141) 102 = .ok (.iconst 3, 1) := by decide +kernel
theorem q141_103 : decode (mB 141) 103 = .ok (.iconst 3, 1) := by decide +kernel
theorem q141_104 : cfB 141 104 137 138 0 4 4 = true := by decide +kernel
theorem q141_107 : decode (mB 141) 107 = .ok (.ifCond .eq 7, 3) := by decide +kernel
theorem q141_110 : decode (mB 141) 110 = .ok (.iconst 2, 1) := by decide +kernel
theorem q141_111 : decode (mB 141) 111 = .ok (.goto 4, 3) := by decide +kernel
theorem q141_114 : decode (mB 141) 114 = .ok (.iconst 0, 1) := by decide +kernel
theorem q141_115 : decode (mB 141) 115 = .ok (.iadd, 1) := by decide +kernel
theorem q141_116 : decode (mB 141) 116 = .ok (.istore 6, 2) := by decide +kernel
theorem q141_118 : decode (mB 141) 118 = .ok (.iload 6, 2) := by decide +kernel
theorem q141_120 : decode (mB 141) 120 = .ok (.aload_n 1, 1) := by decide +kernel
theorem q141_121 : decode (mB 141) 121 = .ok (.aload_n 2, 1) := by decide +kernel
theorem q141_122 : decode (mB 141) 122 = .ok (.iconst 4, 1) := by decide +kernel
theorem q141_123 : decode (mB 141) 123 = .ok (.iaload, 1) := by decide +kernel
theorem q141_124 : decode (mB 141) 124 = .ok (.iconst 4, 1) := by decide +kernel
theorem q141_125 : decode (mB 141) 125 = .ok (.iconst 4, 1) := by decide +kernel
theorem q141_126 : cfB 141 126 137 138 0 4 4 = true := by decide +kernel
theorem q141_129 : decode (mB 141) 129 = .ok (.ifCond .eq 7, 3) := by decide +kernel
theorem q141_132 : decode (mB 141) 132 = .ok (.iconst 4, 1) := by decide +kernel
theorem q141_133 : decode (mB 141) 133 = .ok (.goto 4, 3) := by decide +kernel
theorem q141_136 : decode (mB 141) 136 = .ok (.iconst 0, 1) := by decide +kernel
theorem q141_137 : decode (mB 141) 137 = .ok (.iadd, 1) := by decide +kernel
theorem q141_138 : decode (mB 141) 138 = .ok (.istore 6, 2) := by decide +kernel
theorem q141_140 : decode (mB 141) 140 = .ok (.iload 6, 2) := by decide +kernel
theorem q141_142 : decode (mB 141) 142 = .ok (.iload 4, 2) := by decide +kernel
theorem q141_144 : decode (mB 141) 144 = .ok (.ifCond .eq 21, 3) := by decide +kernel
theorem q141_147 : decode (mB 141) 147 = .ok (.iload 5, 2) := by decide +kernel
theorem q141_149 : decode (mB 141) 149 = .ok (.ifCond .eq 16, 3) := by decide +kernel
theorem q141_152 : decode (mB 141) 152 = .ok (.aload_n 0, 1) := by decide +kernel
theorem q141_153 : decode (mB 141) 153 = .ok (.iconst 0, 1) := by decide +kernel
theorem q141_154 : decode (mB 141) 154 = .ok (.iaload, 1) := by decide +kernel
theorem q141_155 : decode (mB 141) 155 = .ok (.bipush 20, 2) := by decide +kernel
theorem q141_157 : decode (mB 141) 157 = .ok (.if_icmp .le 8, 3) := by decide +kernel
theorem q141_160 : decode (mB 141) 160 = .ok (.bipush 8, 2) := by decide +kernel
theorem q141_162 : decode (mB 141) 162 = .ok (.goto 4, 3) := by decide +kernel
theorem q141_165 : decode (mB 141) 165 = .ok (.iconst 0, 1) := by decide +kernel
theorem q141_166 : decode (mB 141) 166 = .ok (.iadd, 1) := by decide +kernel
theorem q141_167 : decode (mB 141) 167 = .ok (.istore 6, 2) := by decide +kernel
theorem q141_169 : decode (mB 141) 169 = .ok (.iload 6, 2) := by decide +kernel
theorem q141_171 : decode (mB 141) 171 = .ok (.iload 4, 2) := by decide +kernel
theorem q141_173 : decode (mB 141) 173 = .ok (.ifCond .eq 13, 3) := by decide +kernel
theorem q141_176 : decode (mB 141) 176 = .ok (.iload 5, 2) := by decide +kernel
theorem q141_178 : decode (mB 141) 178 = .ok (.ifCond .ne 8, 3) := by decide +kernel
theorem q141_181 : decode (mB 141) 181 = .ok (.bipush 16, 2) := by decide +kernel
theorem q141_183 : decode (mB 141) 183 = .ok (.goto 4, 3) := by decide +kernel
theorem q141_186 : decode (mB 141) 186 = .ok (.iconst 0, 1) := by decide +kernel
theorem q141_187 : decode (mB 141) 187 = .ok (.iadd, 1) := by decide +kernel
theorem q141_188 : decode (mB 141) 188 = .ok (.istore 6, 2) := by decide +kernel
theorem q141_190 : decode (mB 141) 190 = .ok (.iload 6, 2) := by decide +kernel
theorem q141_192 : decode (mB 141) 192 = .ok (.iload_n 3, 1) := by decide +kernel
theorem q141_193 : decode (mB 141) 193 = .ok (.iconst 2, 1) := by decide +kernel
theorem q141_194 : decode (mB 141) 194 = .ok (.if_icmp .le 8, 3) := by decide +kernel
theorem q141_197 : decode (mB 141) 197 = .ok (.bipush 32, 2) := by decide +kernel
theorem q141_199 : decode (mB 141) 199 = .ok (.goto 4, 3) := by decide +kernel
theorem q141_202 : decode (mB 141) 202 = .ok (.iconst 0, 1) := by decide +kernel
theorem q141_203 : decode (mB 141) 203 = .ok (.iadd, 1) := by decide +kernel
theorem q141_204 : decode (mB 141) 204 = .ok (.istore 6, 2) := by decide +kernel
theorem q141_206 : decode (mB 141) 206 = .ok (.iload 6, 2) := by decide +kernel
theorem q141_208 : decode (mB 141) 208 = .ok (.aload_n 1, 1) := by decide +kernel
theorem q141_209 : decode (mB 141) 209 = .ok (.aload_n 2, 1) := by decide +kernel
theorem q141_210 : decode (mB 141) 210 = .ok (.iconst 4, 1) := by decide +kernel
theorem q141_211 : decode (mB 141) 211 = .ok (.iaload, 1) := by decide +kernel
theorem q141_212 : decode (mB 141) 212 = .ok (.iconst 3, 1) := by decide +kernel
theorem q141_213 : decode (mB 141) 213 = .ok (.iconst 3, 1) := by decide +kernel
theorem q141_214 : cfB 141 214 137 138 0 4 4 = true := by decide +kernel
theorem q141_217 : decode (mB 141) 217 = .ok (.ifCond .eq 20, 3) := by decide +kernel
theorem q141_220 : decode (mB 141) 220 = .ok (.aload_n 1, 1) := by decide +kernel
theorem q141_221 : decode (mB 141) 221 = .ok (.bipush 6, 2) := by decide +kernel
theorem q141_223 : decode (mB 141) 223 = .ok (.aload_n 2, 1) := by decide +kernel
theorem q141_224 : decode (mB 141) 224 = .ok (.iconst 4, 1) := by decide +kernel
theorem q141_225 : decode (mB 141) 225 = .ok (.iaload, 1) := by decide +kernel
theorem q141_226 : decode (mB 141) 226 = .ok (.iadd, 1) := by decide +kernel
theorem q141_227 : decode (mB 141) 227 = .ok (.iaload, 1) := by decide +kernel
theorem q141_228 : decode (mB 141) 228 = .ok (.iconst 4, 1) := by decide +kernel
theorem q141_229 : decode (mB 141) 229 = .ok (.if_icmp .le 8, 3) := by decide +kernel
theorem q141_232 : decode (mB 141) 232 = .ok (.bipush 64, 2) := by decide +kernel
theorem q141_234 : decode (mB 141) 234 = .ok (.goto 4, 3) := by decide +kernel
theorem q141_237 : decode (mB 141) 237 = .ok (.iconst 0, 1) := by decide +kernel
theorem q141_238 : decode (mB 141) 238 = .ok (.iadd, 1) := by decide +kernel
theorem q141_239 : decode (mB 141) 239 = .ok (.istore 6, 2) := by decide +kernel
theorem q141_241 : decode (mB 141) 241 = .ok (.iload 6, 2) := by decide +kernel
theorem q141_243 : decode (mB 141) 243 = .ok (.aload_n 2, 1) := by decide +kernel
theorem q141_244 : decode (mB 141) 244 = .ok (.iconst 2, 1) := by decide +kernel
theorem q141_245 : decode (mB 141) 245 = .ok (.iaload, 1) := by decide +kernel
theorem q141_246 : decode (mB 141) 246 = .ok (.aload_n 2, 1) := by decide +kernel
theorem q141_247 : decode (mB 141) 247 = .ok (.iconst 3, 1) := by decide +kernel
theorem q141_248 : decode (mB 141) 248 = .ok (.iaload, 1) := by decide +kernel
theorem q141_249 : (decide (141 < 152) && decide (decode (mB 141) 249 = .ok (.invokestatic 145, 3)) && (lks (mD 141)).contains (145, 3, 3, 0) && decide (1 ≤ mV 141)) = true := by decide +kernel
theorem q141_252 : decode (mB 141) 252 = .ok (.ifCond .ge 9, 3) := by decide +kernel
theorem q141_255 : decode (mB 141) 255 = .ok (.sipush 128, 3) := by decide +kernel
theorem q141_258 : decode (mB 141) 258 = .ok (.goto 4, 3) := by decide +kernel
theorem q141_261 : decode (mB 141) 261 = .ok (.iconst 0, 1) := by decide +kernel
theorem q141_262 : decode (mB 141) 262 = .ok (.iadd, 1) := by decide +kernel
theorem q141_263 : decode (mB 141) 263 = .ok (.ireturn, 1) := by decide +kernel
theorem q142_0 : decode (mB 142) 0 = .ok (.bipush 12, 2) := by decide +kernel
theorem q142_2 : naB 142 2 0 = true := by decide +kernel
theorem q142_4 : decode (mB 142) 4 = .ok (.dup, 1) := by decide +kernel
theorem q142_5 : decode (mB 142) 5 = .ok (.iconst 0, 1) := by decide +kernel
theorem q142_6 : decode (mB 142) 6 = .ok (.iconst 0, 1) := by decide +kernel
theorem q142_7 : decode (mB 142) 7 = .ok (.iastore, 1) := by decide +kernel
theorem q142_8 : decode (mB 142) 8 = .ok (.dup, 1) := by decide +kernel
theorem q142_9 : decode (mB 142) 9 = .ok (.iconst 1, 1) := by decide +kernel
theorem q142_10 : decode (mB 142) 10 = .ok (.iconst 2, 1) := by decide +kernel
theorem q142_11 : decode (mB 142) 11 = .ok (.iastore, 1) := by decide +kernel
theorem q142_12 : decode (mB 142) 12 = .ok (.dup, 1) := by decide +kernel
theorem q142_13 : decode (mB 142) 13 = .ok (.iconst 2, 1) := by decide +kernel
theorem q142_14 : decode (mB 142) 14 = .ok (.bipush 6, 2) := by decide +kernel
theorem q142_16 : decode (mB 142) 16 = .ok (.iastore, 1) := by decide +kernel
theorem q142_17 : decode (mB 142) 17 = .ok (.dup, 1) := by decide +kernel
theorem q142_18 : decode (mB 142) 18 = .ok (.iconst 3, 1) := by decide +kernel
theorem q142_19 : decode (mB 142) 19 = .ok (.iconst 0, 1) := by decide +kernel
theorem q142_20 : decode (mB 142) 20 = .ok (.iastore, 1) := by decide +kernel
theorem q142_21 : decode (mB 142) 21 = .ok (.dup, 1) := by decide +kernel
theorem q142_22 : decode (mB 142) 22 = .ok (.iconst 4, 1) := by decide +kernel
theorem q142_23 : decode (mB 142) 23 = .ok (.iconst 1, 1) := by decide +kernel
theorem q142_24 : decode (mB 142) 24 = .ok (.iastore, 1) := by decide +kernel
theorem q142_25 : decode (mB 142) 25 = .ok (.dup, 1) := by decide +kernel
theorem q142_26 : decode (mB 142) 26 = .ok (.iconst 5, 1) := by decide +kernel
theorem q142_27 : decode (mB 142) 27 = .ok (.iconst 2, 1) := by decide +kernel
theorem q142_28 : decode (mB 142) 28 = .ok (.iastore, 1) := by decide +kernel
theorem q142_29 : decode (mB 142) 29 = .ok (.dup, 1) := by decide +kernel
theorem q142_30 : decode (mB 142) 30 = .ok (.bipush 6, 2) := by decide +kernel
theorem q142_32 : decode (mB 142) 32 = .ok (.iconst 2, 1) := by decide +kernel
theorem q142_33 : decode (mB 142) 33 = .ok (.iastore, 1) := by decide +kernel
theorem q142_34 : decode (mB 142) 34 = .ok (.dup, 1) := by decide +kernel
theorem q142_35 : decode (mB 142) 35 = .ok (.bipush 7, 2) := by decide +kernel
theorem q142_37 : decode (mB 142) 37 = .ok (.iconst 0, 1) := by decide +kernel
theorem q142_38 : decode (mB 142) 38 = .ok (.iastore, 1) := by decide +kernel
theorem q142_39 : decode (mB 142) 39 = .ok (.dup, 1) := by decide +kernel
theorem q142_40 : decode (mB 142) 40 = .ok (.bipush 8, 2) := by decide +kernel
theorem q142_42 : decode (mB 142) 42 = .ok (.iconst 1, 1) := by decide +kernel
theorem q142_43 : decode (mB 142) 43 = .ok (.iastore, 1) := by decide +kernel
theorem q142_44 : decode (mB 142) 44 = .ok (.dup, 1) := by decide +kernel
theorem q142_45 : decode (mB 142) 45 = .ok (.bipush 9, 2) := by decide +kernel
theorem q142_47 : decode (mB 142) 47 = .ok (.iconst 0, 1) := by decide +kernel
theorem q142_48 : decode (mB 142) 48 = .ok (.iastore, 1) := by decide +kernel
theorem q142_49 : decode (mB 142) 49 = .ok (.dup, 1) := by decide +kernel
theorem q142_50 : decode (mB 142) 50 = .ok (.bipush 10, 2) := by decide +kernel
theorem q142_52 : decode (mB 142) 52 = .ok (.iconst 4, 1) := by decide +kernel
theorem q142_53 : decode (mB 142) 53 = .ok (.iastore, 1) := by decide +kernel
theorem q142_54 : decode (mB 142) 54 = .ok (.dup, 1) := by decide +kernel
theorem q142_55 : decode (mB 142) 55 = .ok (.bipush 11, 2) := by decide +kernel
theorem q142_57 : decode (mB 142) 57 = .ok (.iconst 3, 1) := by decide +kernel
theorem q142_58 : decode (mB 142) 58 = .ok (.iastore, 1) := by decide +kernel
theorem q142_59 : decode (mB 142) 59 = .ok (.astore_n 3, 1) := by decide +kernel
theorem q142_60 : decode (mB 142) 60 = .ok (.iconst 0, 1) := by decide +kernel
theorem q142_61 : decode (mB 142) 61 = .ok (.istore 4, 2) := by decide +kernel
theorem q142_63 : decode (mB 142) 63 = .ok (.iconst 0, 1) := by decide +kernel
theorem q142_64 : decode (mB 142) 64 = .ok (.istore 5, 2) := by decide +kernel
theorem q142_66 : decode (mB 142) 66 = .ok (.iload 5, 2) := by decide +kernel
theorem q142_68 : decode (mB 142) 68 = .ok (.iconst 4, 1) := by decide +kernel
theorem q142_69 : decode (mB 142) 69 = .ok (.if_icmp .ge 53, 3) := by decide +kernel
theorem q142_72 : decode (mB 142) 72 = .ok (.aload_n 2, 1) := by decide +kernel
theorem q142_73 : decode (mB 142) 73 = .ok (.iconst 2, 1) := by decide +kernel
theorem q142_74 : decode (mB 142) 74 = .ok (.iload 5, 2) := by decide +kernel
theorem q142_76 : decode (mB 142) 76 = .ok (.iadd, 1) := by decide +kernel
theorem q142_77 : decode (mB 142) 77 = .ok (.iaload, 1) := by decide +kernel
theorem q142_78 : decode (mB 142) 78 = .ok (.istore 6, 2) := by decide +kernel
theorem q142_80 : decode (mB 142) 80 = .ok (.iload 4, 2) := by decide +kernel
theorem q142_82 : decode (mB 142) 82 = .ok (.iload 6, 2) := by decide +kernel
theorem q142_84 : decode (mB 142) 84 = .ok (.ifCond .lt 28, 3) := by decide +kernel
theorem q142_87 : decode (mB 142) 87 = .ok (.aload_n 1, 1) := by decide +kernel
theorem q142_88 : decode (mB 142) 88 = .ok (.iload 6, 2) := by decide +kernel
theorem q142_90 : decode (mB 142) 90 = .ok (.iaload, 1) := by decide +kernel
theorem q142_91 : decode (mB 142) 91 = .ok (.iconst 1, 1) := by decide +kernel
theorem q142_92 : decode (mB 142) 92 = .ok (.if_icmp .le 20, 3) := by decide +kernel
theorem q142_95 : decode (mB 142) 95 = .ok (.aload_n 3, 1) := by decide +kernel
theorem q142_96 : decode (mB 142) 96 = .ok (.iconst 4, 1) := by decide +kernel
theorem q142_97 : decode (mB 142) 97 = .ok (.aload_n 1, 1) := by decide +kernel
theorem q142_98 : decode (mB 142) 98 = .ok (.iload 6, 2) := by decide +kernel
theorem q142_100 : decode (mB 142) 100 = .ok (.iaload, 1) := by decide +kernel
theorem q142_101 : decode (mB 142) 101 = .ok (.imul, 1) := by decide +kernel
theorem q142_102 : decode (mB 142) 102 = .ok (.bipush 8, 2) := by decide +kernel
theorem q142_104 : decode (mB 142) 104 = .ok (.isub, 1) := by decide +kernel
theorem q142_105 : decode (mB 142) 105 = .ok (.iload 5, 2) := by decide +kernel
theorem q142_107 : decode (mB 142) 107 = .ok (.iadd, 1) := by decide +kernel
theorem q142_108 : decode (mB 142) 108 = .ok (.iaload, 1) := by decide +kernel
theorem q142_109 : decode (mB 142) 109 = .ok (.goto 4, 3) := by decide +kernel
theorem q142_112 : decode (mB 142) 112 = .ok (.iconst 0, 1) := by decide +kernel
theorem q142_113 : decode (mB 142) 113 = .ok (.iadd, 1) := by decide +kernel
theorem q142_114 : decode (mB 142) 114 = .ok (.istore 4, 2) := by decide +kernel
theorem q142_116 : decode (mB 142) 116 = .ok (.iinc 5 1, 3) := by decide +kernel
theorem q142_119 : decode (mB 142) 119 = .ok (.goto (-53), 3) := by decide +kernel
theorem q142_122 : decode (mB 142) 122 = .ok (.aload_n 0, 1) := by decide +kernel
theorem q142_123 : decode (mB 142) 123 = .ok (.aload_n 1, 1) := by decide +kernel
theorem q142_124 : decode (mB 142) 124 = .ok (.aload_n 2, 1) := by decide +kernel
theorem q142_125 : cfB 142 125 148 141 0 4 3 = true := by decide +kernel
theorem q142_128 : decode (mB 142) 128 = .ok (.istore 5, 2) := by decide +kernel
theorem q142_130 : decode (mB 142) 130 = .ok (.iconst 0, 1) := by decide +kernel
theorem q142_131 : decode (mB 142) 131 = .ok (.istore 6, 2) := by decide +kernel
theorem q142_133 : decode (mB 142) 133 = .ok (.iload 6, 2) := by decide +kernel
theorem q142_135 : decode (mB 142) 135 = .ok (.bipush 8, 2) := by decide +kernel
theorem q142_137 : decode (mB 142) 137 = .ok (.if_icmp .ge 29, 3) := by decide +kernel
theorem q142_140 : decode (mB 142) 140 = .ok (.iload 4, 2) := by decide +kernel
theorem q142_142 : decode (mB 142) 142 = .ok (.iload 5, 2) := by decide +kernel
theorem q142_144 : decode (mB 142) 144 = .ok (.iload 6, 2) := by decide +kernel
theorem q142_146 : decode (mB 142) 146 = .ok (.ishr, 1) := by decide +kernel
theorem q142_147 : decode (mB 142) 147 = .ok (.iconst 1, 1) := by decide +kernel
theorem q142_148 : decode (mB 142) 148 = .ok (.iand, 1) := by decide +kernel
theorem q142_149 : decode (mB 142) 149 = .ok (.aload_n 0, 1) := by decide +kernel
theorem q142_150 : decode (mB 142) 150 = .ok (.bipush 20, 2) := by decide +kernel
theorem q142_152 : decode (mB 142) 152 = .ok (.iload 6, 2) := by decide +kernel
theorem q142_154 : decode (mB 142) 154 = .ok (.iadd, 1) := by decide +kernel
theorem q142_155 : decode (mB 142) 155 = .ok (.iaload, 1) := by decide +kernel
theorem q142_156 : decode (mB 142) 156 = .ok (.imul, 1) := by decide +kernel
theorem q142_157 : decode (mB 142) 157 = .ok (.iadd, 1) := by decide +kernel
theorem q142_158 : decode (mB 142) 158 = .ok (.istore 4, 2) := by decide +kernel
theorem q142_160 : decode (mB 142) 160 = .ok (.iinc 6 1, 3) := by decide +kernel
theorem q142_163 : decode (mB 142) 163 = .ok (.goto (-30), 3) := by decide +kernel
theorem q142_166 : decode (mB 142) 166 = .ok (.iconst 0, 1) := by decide +kernel
theorem q142_167 : decode (mB 142) 167 = .ok (.istore 6, 2) := by decide +kernel
theorem q142_169 : decode (mB 142) 169 = .ok (.iconst 0, 1) := by decide +kernel
theorem q142_170 : decode (mB 142) 170 = .ok (.istore 7, 2) := by decide +kernel
theorem q142_172 : decode (mB 142) 172 = .ok (.iload 7, 2) := by decide +kernel
theorem q142_174 : decode (mB 142) 174 = .ok (.aload_n 0, 1) := by decide +kernel
theorem q142_175 : decode (mB 142) 175 = .ok (.iconst 0, 1) := by decide +kernel
theorem q142_176 : decode (mB 142) 176 = .ok (.iaload, 1) := by decide +kernel
theorem q142_177 : decode (mB 142) 177 = .ok (.if_icmp .ge 76, 3) := by decide +kernel
theorem q142_180 : decode (mB 142) 180 = .ok (.iconst 0, 1) := by decide +kernel
theorem q142_181 : decode (mB 142) 181 = .ok (.istore 8, 2) := by decide +kernel
theorem q142_183 : decode (mB 142) 183 = .ok (.iconst 2, 1) := by decide +kernel
theorem q142_184 : decode (mB 142) 184 = .ok (.istore 9, 2) := by decide +kernel
theorem q142_186 : decode (mB 142) 186 = .ok (.iload 9, 2) := by decide +kernel
theorem q142_188 : decode (mB 142) 188 = .ok (.bipush 6, 2) := by decide +kernel
theorem q142_190 : decode (mB 142) 190 = .ok (.if_icmp .ge 42, 3) := by decide +kernel
theorem q142_193 : decode (mB 142) 193 = .ok (.iload 8, 2) := by decide +kernel
theorem q142_195 : decode (mB 142) 195 = .ok (.aload_n 2, 1) := by decide +kernel
theorem q142_196 : decode (mB 142) 196 = .ok (.iload 9, 2) := by decide +kernel
theorem q142_198 : decode (mB 142) 198 = .ok (.iaload, 1) := by decide +kernel
theorem q142_199 : decode (mB 142) 199 = .ok (.ifCond .lt 23, 3) := by decide +kernel
theorem q142_202 : decode (mB 142) 202 = .ok (.aload_n 0, 1) := by decide +kernel
theorem q142_203 : decode (mB 142) 203 = .ok (.iload 7, 2) := by decide +kernel
theorem q142_205 : decode (mB 142) 205 = .ok (.aload_n 2, 1) := by decide +kernel
theorem q142_206 : decode (mB 142) 206 = .ok (.iload 9, 2) := by decide +kernel
theorem q142_208 : decode (mB 142) 208 = .ok (.iaload, 1) := by decide +kernel
theorem q142_209 : cfB 142 209 121 131 0 4 3 = true := by decide +kernel
theorem q142_212 : decode (mB 142) 212 = .ok (.sipush (-10000), 3) := by decide +kernel
theorem q142_215 : decode (mB 142) 215 = .ok (.if_icmp .ne 7, 3) := by decide +kernel
theorem q142_218 : decode (mB 142) 218 = .ok (.iconst 1, 1) := by decide +kernel
theorem q142_219 : decode (mB 142) 219 = .ok (.goto 4, 3) := by decide +kernel
theorem q142_222 : decode (mB 142) 222 = .ok (.iconst 0, 1) := by decide +kernel
theorem q142_223 : decode (mB 142) 223 = .ok (.iadd, 1) := by decide +kernel
theorem q142_224 : decode (mB 142) 224 = .ok (.istore 8, 2) := by decide +kernel
theorem q142_226 : decode (mB 142) 226 = .ok (.iinc 9 1, 3) := by decide +kernel
theorem q142_229 : decode (mB 142) 229 = .ok (.goto (-43), 3) := by decide +kernel
theorem q142_232 : decode (mB 142) 232 = .ok (.iload 6, 2) := by decide +kernel
theorem q142_234 : decode (mB 142) 234 = .ok (.iload 8, 2) := by decide +kernel
theorem q142_236 : decode (mB 142) 236 = .ok (.ifCond .le 7, 3) := by decide +kernel
theorem q142_239 : decode (mB 142) 239 = .ok (.iconst 1, 1) := by decide +kernel
theorem q142_240 : decode (mB 142) 240 = .ok (.goto 4, 3) := by decide +kernel
theorem q142_243 : decode (mB 142) 243 = .ok (.iconst 0, 1) := by decide +kernel
theorem q142_244 : decode (mB 142) 244 = .ok (.iadd, 1) := by decide +kernel
theorem q142_245 : decode (mB 142) 245 = .ok (.istore 6, 2) := by decide +kernel
theorem q142_247 : decode (mB 142) 247 = .ok (.iinc 7 1, 3) := by decide +kernel
theorem q142_250 : decode (mB 142) 250 = .ok (.goto (-78), 3) := by decide +kernel
theorem q142_253 : decode (mB 142) 253 = .ok (.iload 4, 2) := by decide +kernel
theorem q142_255 : decode (mB 142) 255 = .ok (.iload 6, 2) := by decide +kernel
theorem q142_257 : decode (mB 142) 257 = .ok (.iconst 5, 1) := by decide +kernel
theorem q142_258 : decode (mB 142) 258 = .ok (.idiv, 1) := by decide +kernel
theorem q142_259 : decode (mB 142) 259 = .ok (.iadd, 1) := by decide +kernel
theorem q142_260 : decode (mB 142) 260 = .ok (.ireturn, 1) := by decide +kernel
theorem q143_0 : decode (mB 143) 0 = .ok (.iconst 3, 1) := by decide +kernel
theorem q143_1 : decode (mB 143) 1 = .ok (.aload_n 0, 1) := by decide +kernel
theorem q143_2 : decode (mB 143) 2 = .ok (.iconst 0, 1) := by decide +kernel
theorem q143_3 : decode (mB 143) 3 = .ok (.iaload, 1) := by decide +kernel
theorem q143_4 : decode (mB 143) 4 = .ok (.imul, 1) := by decide +kernel
theorem q143_5 : decode (mB 143) 5 = .ok (.aload_n 0, 1) := by decide +kernel
theorem q143_6 : decode (mB 143) 6 = .ok (.iconst 1, 1) := by decide +kernel
theorem q143_7 : decode (mB 143) 7 = .ok (.iaload, 1) := by decide +kernel
theorem q143_8 : decode (mB 143) 8 = .ok (.iadd, 1) := by decide +kernel
theorem q143_9 : decode (mB 143) 9 = .ok (.istore_n 1, 1) := by decide +kernel
theorem q143_10 : decode (mB 143) 10 = .ok (.iconst 2, 1) := by decide +kernel
theorem q143_11 : decode (mB 143) 11 = .ok (.istore_n 2, 1) := by decide +kernel
theorem q143_12 : decode (mB 143) 12 = .ok (.iload_n 2, 1) := by decide +kernel
theorem q143_13 : decode (mB 143) 13 = .ok (.bipush 6, 2) := by decide +kernel
theorem q143_15 : decode (mB 143) 15 = .ok (.if_icmp .ge 20, 3) := by decide +kernel
theorem q143_18 : decode (mB 143) 18 = .ok (.bipush 7, 2) := by decide +kernel
theorem q143_20 : decode (mB 143) 20 = .ok (.iload_n 1, 1) := by decide +kernel
theorem q143_21 : decode (mB 143) 21 = .ok (.imul, 1) := by decide +kernel
theorem q143_22 : decode (mB 143) 22 = .ok (.iconst 1, 1) := by decide +kernel
theorem q143_23 : decode (mB 143) 23 = .ok (.iadd, 1) := by decide +kernel
theorem q143_24 : decode (mB 143) 24 = .ok (.aload_n 0, 1) := by decide +kernel
theorem q143_25 : decode (mB 143) 25 = .ok (.iload_n 2, 1) := by decide +kernel
theorem q143_26 : decode (mB 143) 26 = .ok (.iaload, 1) := by decide +kernel
theorem q143_27 : decode (mB 143) 27 = .ok (.iadd, 1) := by decide +kernel
theorem q143_28 : decode (mB 143) 28 = .ok (.istore_n 1, 1) := by decide +kernel
theorem q143_29 : decode (mB 143) 29 = .ok (.iinc 2 1, 3) := by decide +kernel
theorem q143_32 : decode (mB 143) 32 = .ok (.goto (-20), 3) := by decide +kernel
theorem q143_35 : decode (mB 143) 35 = .ok (.iload_n 1, 1) := by decide +kernel
theorem q143_36 : decode (mB 143) 36 = .ok (.ireturn, 1) := by decide +kernel
theorem q144_0 : decode (mB 144) 0 = .ok (.bipush 6, 2) := by decide +kernel
theorem q144_2 : naB 144 2 0 = true := by decide +kernel
theorem q144_4 : decode (mB 144) 4 = .ok (.astore_n 1, 1) := by decide +kernel
theorem q144_5 : decode (mB 144) 5 = .ok (.iload_n 0, 1) := by decide +kernel
theorem q144_6 : decode (mB 144) 6 = .ok (.istore_n 2, 1) := by decide +kernel
theorem q144_7 : decode (mB 144) 7 = .ok (.iconst 5, 1) := by decide +kernel
theorem q144_8 : decode (mB 144) 8 = .ok (.istore_n 3, 1) := by decide +kernel
theorem q144_9 : decode (mB 144) 9 = .ok (.iload_n 3, 1) := by decide +kernel
theorem q144_10 : decode (mB 144) 10 = .ok (.iconst 2, 1) := by decide +kernel
theorem q144_11 : decode (mB 144) 11 = .ok (.if_icmp .lt 23, 3) := by decide +kernel
theorem q144_14 : decode (mB 144) 14 = .ok (.aload_n 1, 1) := by decide +kernel
theorem q144_15 : decode (mB 144) 15 = .ok (.iload_n 3, 1) := by decide +kernel
theorem q144_16 : decode (mB 144) 16 = .ok (.iload_n 2, 1) := by decide +kernel
theorem q144_17 : decode (mB 144) 17 = .ok (.bipush 7, 2) := by decide +kernel
theorem q144_19 : decode (mB 144) 19 = .ok (.irem, 1) := by decide +kernel
theorem q144_20 : decode (mB 144) 20 = .ok (.iconst 1, 1) := by decide +kernel
theorem q144_21 : decode (mB 144) 21 = .ok (.isub, 1) := by decide +kernel
theorem q144_22 : decode (mB 144) 22 = .ok (.iastore, 1) := by decide +kernel
theorem q144_23 : decode (mB 144) 23 = .ok (.iload_n 2, 1) := by decide +kernel
theorem q144_24 : decode (mB 144) 24 = .ok (.bipush 7, 2) := by decide +kernel
theorem q144_26 : decode (mB 144) 26 = .ok (.idiv, 1) := by decide +kernel
theorem q144_27 : decode (mB 144) 27 = .ok (.istore_n 2, 1) := by decide +kernel
theorem q144_28 : decode (mB 144) 28 = .ok (.iinc 3 (-1), 3) := by decide +kernel
theorem q144_31 : decode (mB 144) 31 = .ok (.goto (-22), 3) := by decide +kernel
theorem q144_34 : decode (mB 144) 34 = .ok (.aload_n 1, 1) := by decide +kernel
theorem q144_35 : decode (mB 144) 35 = .ok (.iconst 1, 1) := by decide +kernel
theorem q144_36 : decode (mB 144) 36 = .ok (.iload_n 2, 1) := by decide +kernel
theorem q144_37 : decode (mB 144) 37 = .ok (.iconst 3, 1) := by decide +kernel
theorem q144_38 : decode (mB 144) 38 = .ok (.irem, 1) := by decide +kernel
theorem q144_39 : decode (mB 144) 39 = .ok (.iastore, 1) := by decide +kernel
theorem q144_40 : decode (mB 144) 40 = .ok (.aload_n 1, 1) := by decide +kernel
theorem q144_41 : decode (mB 144) 41 = .ok (.iconst 0, 1) := by decide +kernel
theorem q144_42 : decode (mB 144) 42 = .ok (.iload_n 2, 1) := by decide +kernel
theorem q144_43 : decode (mB 144) 43 = .ok (.iconst 3, 1) := by decide +kernel
theorem q144_44 : decode (mB 144) 44 = .ok (.idiv, 1) := by decide +kernel
theorem q144_45 : decode (mB 144) 45 = .ok (.iastore, 1) := by decide +kernel
theorem q144_46 : decode (mB 144) 46 = .ok (.aload_n 1, 1) := by decide +kernel
theorem q144_47 : decode (mB 144) 47 = .ok (.areturn, 1) := by decide +kernel
theorem q145_0 : decode (mB 145) 0 = .ok (.aload_n 0, 1) := by decide +kernel
theorem q145_1 : cfB 145 1 152 137 0 4 1 = true := by decide +kernel
theorem q145_4 : decode (mB 145) 4 = .ok (.astore_n 1, 1) := by decide +kernel
theorem q145_5 : decode (mB 145) 5 = .ok (.bipush 6, 2) := by decide +kernel
theorem q145_7 : naB 145 7 1 = true := by decide +kernel
theorem q145_9 : decode (mB 145) 9 = .ok (.astore_n 2, 1) := by decide +kernel
theorem q145_10 : decode (mB 145) 10 = .ok (.iconst 0, 1) := by decide +kernel
theorem q145_11 : decode (mB 145) 11 = .ok (.istore_n 3, 1) := by decide +kernel
theorem q145_12 : decode (mB 145) 12 = .ok (.iload_n 3, 1) := by decide +kernel
theorem q145_13 : decode (mB 145) 13 = .ok (.iconst 5, 1) := by decide +kernel
theorem q145_14 : decode (mB 145) 14 = .ok (.if_icmp .ge 15, 3) := by decide +kernel
theorem q145_17 : decode (mB 145) 17 = .ok (.aload_n 2, 1) := by decide +kernel
theorem q145_18 : decode (mB 145) 18 = .ok (.iload_n 3, 1) := by decide +kernel
theorem q145_19 : (decide (145 < 152) && decide (decode (mB 145) 19 = .ok (.ldc2_w 158, 3)) && (lks (mD 145)).contains (158, 7, 9223372036854775807, 0)) = true := by decide +kernel
theorem q145_22 : decode (mB 145) 22 = .ok (.lastore, 1) := by decide +kernel
theorem q145_23 : decode (mB 145) 23 = .ok (.iinc 3 1, 3) := by decide +kernel
theorem q145_26 : decode (mB 145) 26 = .ok (.goto (-14), 3) := by decide +kernel
theorem q145_29 : decode (mB 145) 29 = .ok (.iconst (-1), 1) := by decide +kernel
theorem q145_30 : decode (mB 145) 30 = .ok (.istore_n 3, 1) := by decide +kernel
theorem q145_31 : decode (mB 145) 31 = .ok (.iload_n 3, 1) := by decide +kernel
theorem q145_32 : decode (mB 145) 32 = .ok (.bipush 6, 2) := by decide +kernel
theorem q145_34 : decode (mB 145) 34 = .ok (.if_icmp .ge 324, 3) := by decide +kernel
theorem q145_37 : decode (mB 145) 37 = .ok (.iconst (-1), 1) := by decide +kernel
theorem q145_38 : decode (mB 145) 38 = .ok (.istore 4, 2) := by decide +kernel
theorem q145_40 : decode (mB 145) 40 = .ok (.iload 4, 2) := by decide +kernel
theorem q145_42 : decode (mB 145) 42 = .ok (.bipush 6, 2) := by decide +kernel
theorem q145_44 : decode (mB 145) 44 = .ok (.if_icmp .ge 308, 3) := by decide +kernel
theorem q145_47 : decode (mB 145) 47 = .ok (.iconst (-1), 1) := by decide +kernel
theorem q145_48 : decode (mB 145) 48 = .ok (.istore 5, 2) := by decide +kernel
theorem q145_50 : decode (mB 145) 50 = .ok (.iload 5, 2) := by decide +kernel
theorem q145_52 : decode (mB 145) 52 = .ok (.bipush 6, 2) := by decide +kernel
theorem q145_54 : decode (mB 145) 54 = .ok (.if_icmp .ge 292, 3) := by decide +kernel
theorem q145_57 : decode (mB 145) 57 = .ok (.iconst (-1), 1) := by decide +kernel
theorem q145_58 : decode (mB 145) 58 = .ok (.istore 6, 2) := by decide +kernel
theorem q145_60 : decode (mB 145) 60 = .ok (.iload 6, 2) := by decide +kernel
theorem q145_62 : decode (mB 145) 62 = .ok (.bipush 6, 2) := by decide +kernel
theorem q145_64 : decode (mB 145) 64 = .ok (.if_icmp .ge 276, 3) := by decide +kernel
theorem q145_67 : decode (mB 145) 67 = .ok (.iload_n 3, 1) := by decide +kernel
theorem q145_68 : decode (mB 145) 68 = .ok (.ifCond .lt 21, 3) := by decide +kernel
theorem q145_71 : decode (mB 145) 71 = .ok (.iload_n 3, 1) := by decide +kernel
theorem q145_72 : decode (mB 145) 72 = .ok (.iload 4, 2) := by decide +kernel
theorem q145_74 : decode (mB 145) 74 = .ok (.if_icmp .eq 46, 3) := by decide +kernel
theorem q145_77 : decode (mB 145) 77 = .ok (.iload_n 3, 1) := by decide +kernel
theorem q145_78 : decode (mB 145) 78 = .ok (.iload 5, 2) := by decide +kernel
theorem q145_80 : decode (mB 145) 80 = .ok (.if_icmp .eq 40, 3) := by decide +kernel
theorem q145_83 : decode (mB 145) 83 = .ok (.iload_n 3, 1) := by decide +kernel
theorem q145_84 : decode (mB 145) 84 = .ok (.iload 6, 2) := by decide +kernel
theorem q145_86 : decode (mB 145) 86 = .ok (.if_icmp .eq 34, 3) := by decide +kernel
theorem q145_89 : decode (mB 145) 89 = .ok (.iload 4, 2) := by decide +kernel
theorem q145_91 : decode (mB 145) 91 = .ok (.ifCond .lt 17, 3) := by decide +kernel
theorem q145_94 : decode (mB 145) 94 = .ok (.iload 4, 2) := by decide +kernel
theorem q145_96 : decode (mB 145) 96 = .ok (.iload 5, 2) := by decide +kernel
theorem q145_98 : decode (mB 145) 98 = .ok (.if_icmp .eq 22, 3) := by decide +kernel
theorem q145_101 : decode (mB 145) 101 = .ok (.iload 4, 2) := by decide +kernel
theorem q145_103 : decode (mB 145) 103 = .ok (.iload 6, 2) := by decide +kernel
theorem q145_105 : decode (mB 145) 105 = .ok (.if_icmp .eq 15, 3) := by decide +kernel
theorem q145_108 : decode (mB 145) 108 = .ok (.iload 5, 2) := by decide +kernel
theorem q145_110 : decode (mB 145) 110 = .ok (.ifCond .lt 14, 3) := by decide +kernel
theorem q145_113 : decode (mB 145) 113 = .ok (.iload 5, 2) := by decide +kernel
theorem q145_115 : decode (mB 145) 115 = .ok (.iload 6, 2) := by decide +kernel
theorem q145_117 : decode (mB 145) 117 = .ok (.if_icmp .ne 7, 3) := by decide +kernel
theorem q145_120 : decode (mB 145) 120 = .ok (.iconst 1, 1) := by decide +kernel
theorem q145_121 : decode (mB 145) 121 = .ok (.goto 4, 3) := by decide +kernel
theorem q145_124 : decode (mB 145) 124 = .ok (.iconst 0, 1) := by decide +kernel
theorem q145_125 : decode (mB 145) 125 = .ok (.istore 7, 2) := by decide +kernel
theorem q145_127 : decode (mB 145) 127 = .ok (.iconst 0, 1) := by decide +kernel
theorem q145_128 : decode (mB 145) 128 = .ok (.istore 8, 2) := by decide +kernel
theorem q145_130 : decode (mB 145) 130 = .ok (.iload 8, 2) := by decide +kernel
theorem q145_132 : decode (mB 145) 132 = .ok (.bipush 9, 2) := by decide +kernel
theorem q145_134 : decode (mB 145) 134 = .ok (.if_icmp .ge 200, 3) := by decide +kernel
theorem q145_137 : decode (mB 145) 137 = .ok (.iload 7, 2) := by decide +kernel
theorem q145_139 : decode (mB 145) 139 = .ok (.ifCond .ne 195, 3) := by decide +kernel
theorem q145_142 : decode (mB 145) 142 = .ok (.aload_n 0, 1) := by decide +kernel
theorem q145_143 : decode (mB 145) 143 = .ok (.aload_n 1, 1) := by decide +kernel
theorem q145_144 : decode (mB 145) 144 = .ok (.bipush 6, 2) := by decide +kernel
theorem q145_146 : naB 145 146 0 = true := by decide +kernel
theorem q145_148 : decode (mB 145) 148 = .ok (.dup, 1) := by decide +kernel
theorem q145_149 : decode (mB 145) 149 = .ok (.iconst 0, 1) := by decide +kernel
theorem q145_150 : decode (mB 145) 150 = .ok (.iload 8, 2) := by decide +kernel
theorem q145_152 : decode (mB 145) 152 = .ok (.iconst 3, 1) := by decide +kernel
theorem q145_153 : decode (mB 145) 153 = .ok (.idiv, 1) := by decide +kernel
theorem q145_154 : decode (mB 145) 154 = .ok (.iastore, 1) := by decide +kernel
theorem q145_155 : decode (mB 145) 155 = .ok (.dup, 1) := by decide +kernel
theorem q145_156 : decode (mB 145) 156 = .ok (.iconst 1, 1) := by decide +kernel
theorem q145_157 : decode (mB 145) 157 = .ok (.iload 8, 2) := by decide +kernel
theorem q145_159 : decode (mB 145) 159 = .ok (.iconst 3, 1) := by decide +kernel
theorem q145_160 : decode (mB 145) 160 = .ok (.irem, 1) := by decide +kernel
theorem q145_161 : decode (mB 145) 161 = .ok (.iastore, 1) := by decide +kernel
theorem q145_162 : decode (mB 145) 162 = .ok (.dup, 1) := by decide +kernel
theorem q145_163 : decode (mB 145) 163 = .ok (.iconst 2, 1) := by decide +kernel
theorem q145_164 : decode (mB 145) 164 = .ok (.iload_n 3, 1) := by decide +kernel
theorem q145_165 : decode (mB 145) 165 = .ok (.iastore, 1) := by decide +kernel
theorem q145_166 : decode (mB 145) 166 = .ok (.dup, 1) := by decide +kernel
theorem q145_167 : decode (mB 145) 167 = .ok (.iconst 3, 1) := by decide +kernel
theorem q145_168 : decode (mB 145) 168 = .ok (.iload 4, 2) := by decide +kernel
theorem q145_170 : decode (mB 145) 170 = .ok (.iastore, 1) := by decide +kernel
theorem q145_171 : decode (mB 145) 171 = .ok (.dup, 1) := by decide +kernel
theorem q145_172 : decode (mB 145) 172 = .ok (.iconst 4, 1) := by decide +kernel
theorem q145_173 : decode (mB 145) 173 = .ok (.iload 5, 2) := by decide +kernel
theorem q145_175 : decode (mB 145) 175 = .ok (.iastore, 1) := by decide +kernel
theorem q145_176 : decode (mB 145) 176 = .ok (.dup, 1) := by decide +kernel
theorem q145_177 : decode (mB 145) 177 = .ok (.iconst 5, 1) := by decide +kernel
theorem q145_178 : decode (mB 145) 178 = .ok (.iload 6, 2) := by decide +kernel
theorem q145_180 : decode (mB 145) 180 = .ok (.iastore, 1) := by decide +kernel
theorem q145_181 : cfB 145 181 160 140 0 4 3 = true := by decide +kernel
theorem q145_184 : decode (mB 145) 184 = .ok (.ifCond .ne 144, 3) := by decide +kernel
theorem q145_187 : decode (mB 145) 187 = .ok (.aload_n 2, 1) := by decide +kernel
theorem q145_188 : decode (mB 145) 188 = .ok (.iconst 5, 1) := by decide +kernel
theorem q145_189 : decode (mB 145) 189 = .ok (.dup2, 1) := by decide +kernel
theorem q145_190 : decode (mB 145) 190 = .ok (.laload, 1) := by decide +kernel
theorem q145_191 : decode (mB 145) 191 = .ok (.lconst 1, 1) := by decide +kernel
theorem q145_192 : decode (mB 145) 192 = .ok (.ladd, 1) := by decide +kernel
theorem q145_193 : decode (mB 145) 193 = .ok (.lastore, 1) := by decide +kernel
theorem q145_194 : (decide (145 < 152) && decide (decode (mB 145) 194 = .ok (.ldc2_w 163, 3)) && (lks (mD 145)).contains (163, 7, 100000, 0)) = true := by decide +kernel
theorem q145_197 : decode (mB 145) 197 = .ok (.aload_n 0, 1) := by decide +kernel
theorem q145_198 : decode (mB 145) 198 = .ok (.aload_n 1, 1) := by decide +kernel
theorem q145_199 : decode (mB 145) 199 = .ok (.bipush 6, 2) := by decide +kernel
theorem q145_201 : naB 145 201 0 = true := by decide +kernel
theorem q145_203 : decode (mB 145) 203 = .ok (.dup, 1) := by decide +kernel
theorem q145_204 : decode (mB 145) 204 = .ok (.iconst 0, 1) := by decide +kernel
theorem q145_205 : decode (mB 145) 205 = .ok (.iload 8, 2) := by decide +kernel
theorem q145_207 : decode (mB 145) 207 = .ok (.iconst 3, 1) := by decide +kernel
theorem q145_208 : decode (mB 145) 208 = .ok (.idiv, 1) := by decide +kernel
theorem q145_209 : decode (mB 145) 209 = .ok (.iastore, 1) := by decide +kernel
theorem q145_210 : decode (mB 145) 210 = .ok (.dup, 1) := by decide +kernel
theorem q145_211 : decode (mB 145) 211 = .ok (.iconst 1, 1) := by decide +kernel
theorem q145_212 : decode (mB 145) 212 = .ok (.iload 8, 2) := by decide +kernel
theorem q145_214 : decode (mB 145) 214 = .ok (.iconst 3, 1) := by decide +kernel
theorem q145_215 : decode (mB 145) 215 = .ok (.irem, 1) := by decide +kernel
theorem q145_216 : decode (mB 145) 216 = .ok (.iastore, 1) := by decide +kernel
theorem q145_217 : decode (mB 145) 217 = .ok (.dup, 1) := by decide +kernel
theorem q145_218 : decode (mB 145) 218 = .ok (.iconst 2, 1) := by decide +kernel
theorem q145_219 : decode (mB 145) 219 = .ok (.iload_n 3, 1) := by decide +kernel
theorem q145_220 : decode (mB 145) 220 = .ok (.iastore, 1) := by decide +kernel
theorem q145_221 : decode (mB 145) 221 = .ok (.dup, 1) := by decide +kernel
theorem q145_222 : decode (mB 145) 222 = .ok (.iconst 3, 1) := by decide +kernel
theorem q145_223 : decode (mB 145) 223 = .ok (.iload 4, 2) := by decide +kernel
theorem q145_225 : decode (mB 145) 225 = .ok (.iastore, 1) := by decide +kernel
theorem q145_226 : decode (mB 145) 226 = .ok (.dup, 1) := by decide +kernel
theorem q145_227 : decode (mB 145) 227 = .ok (.iconst 4, 1) := by decide +kernel
theorem q145_228 : decode (mB 145) 228 = .ok (.iload 5, 2) := by decide +kernel
theorem q145_230 : decode (mB 145) 230 = .ok (.iastore, 1) := by decide +kernel
theorem q145_231 : decode (mB 145) 231 = .ok (.dup, 1) := by decide +kernel
theorem q145_232 : decode (mB 145) 232 = .ok (.iconst 5, 1) := by decide +kernel
theorem q145_233 : decode (mB 145) 233 = .ok (.iload 6, 2) := by decide +kernel
theorem q145_235 : decode (mB 145) 235 = .ok (.iastore, 1) := by decide +kernel
theorem q145_236 : cfB 145 236 165 142 0 4 3 = true := by decide +kernel
theorem q145_239 : decode (mB 145) 239 = .ok (.i2l, 1) := by decide +kernel
theorem q145_240 : decode (mB 145) 240 = .ok (.lmul, 1) := by decide +kernel
theorem q145_241 : decode (mB 145) 241 = .ok (.bipush 6, 2) := by decide +kernel
theorem q145_243 : naB 145 243 0 = true := by decide +kernel
theorem q145_245 : decode (mB 145) 245 = .ok (.dup, 1) := by decide +kernel
theorem q145_246 : decode (mB 145) 246 = .ok (.iconst 0, 1) := by decide +kernel
theorem q145_247 : decode (mB 145) 247 = .ok (.iload 8, 2) := by decide +kernel
theorem q145_249 : decode (mB 145) 249 = .ok (.iconst 3, 1) := by decide +kernel
theorem q145_250 : decode (mB 145) 250 = .ok (.idiv, 1) := by decide +kernel
theorem q145_251 : decode (mB 145) 251 = .ok (.iastore, 1) := by decide +kernel
theorem q145_252 : decode (mB 145) 252 = .ok (.dup, 1) := by decide +kernel
theorem q145_253 : decode (mB 145) 253 = .ok (.iconst 1, 1) := by decide +kernel
theorem q145_254 : decode (mB 145) 254 = .ok (.iload 8, 2) := by decide +kernel
theorem q145_256 : decode (mB 145) 256 = .ok (.iconst 3, 1) := by decide +kernel
theorem q145_257 : decode (mB 145) 257 = .ok (.irem, 1) := by decide +kernel
theorem q145_258 : decode (mB 145) 258 = .ok (.iastore, 1) := by decide +kernel
theorem q145_259 : decode (mB 145) 259 = .ok (.dup, 1) := by decide +kernel
theorem q145_260 : decode (mB 145) 260 = .ok (.iconst 2, 1) := by decide +kernel
theorem q145_261 : decode (mB 145) 261 = .ok (.iload_n 3, 1) := by decide +kernel
theorem q145_262 : decode (mB 145) 262 = .ok (.iastore, 1) := by decide +kernel
theorem q145_263 : decode (mB 145) 263 = .ok (.dup, 1) := by decide +kernel
theorem q145_264 : decode (mB 145) 264 = .ok (.iconst 3, 1) := by decide +kernel
theorem q145_265 : decode (mB 145) 265 = .ok (.iload 4, 2) := by decide +kernel
theorem q145_267 : decode (mB 145) 267 = .ok (.iastore, 1) := by decide +kernel
theorem q145_268 : decode (mB 145) 268 = .ok (.dup, 1) := by decide +kernel
theorem q145_269 : decode (mB 145) 269 = .ok (.iconst 4, 1) := by decide +kernel
theorem q145_270 : decode (mB 145) 270 = .ok (.iload 5, 2) := by decide +kernel
theorem q145_272 : decode (mB 145) 272 = .ok (.iastore, 1) := by decide +kernel
theorem q145_273 : decode (mB 145) 273 = .ok (.dup, 1) := by decide +kernel
theorem q145_274 : decode (mB 145) 274 = .ok (.iconst 5, 1) := by decide +kernel
theorem q145_275 : decode (mB 145) 275 = .ok (.iload 6, 2) := by decide +kernel
theorem q145_277 : decode (mB 145) 277 = .ok (.iastore, 1) := by decide +kernel
theorem q145_278 : cfB 145 278 167 143 0 4 1 = true := by decide +kernel
theorem q145_281 : decode (mB 145) 281 = .ok (.i2l, 1) := by decide +kernel
theorem q145_282 : decode (mB 145) 282 = .ok (.ladd, 1) := by decide +kernel
theorem q145_283 : decode (mB 145) 283 = .ok (.lstore 9, 2) := by decide +kernel
theorem q145_285 : decode (mB 145) 285 = .ok (.iconst 0, 1) := by decide +kernel
theorem q145_286 : decode (mB 145) 286 = .ok (.istore 11, 2) := by decide +kernel
theorem q145_288 : decode (mB 145) 288 = .ok (.iload 11, 2) := by decide +kernel
theorem q145_290 : decode (mB 145) 290 = .ok (.iconst 5, 1) := by decide +kernel
theorem q145_291 : decode (mB 145) 291 = .ok (.if_icmp .ge 37, 3) := by decide +kernel
theorem q145_294 : decode (mB 145) 294 = .ok (.lload 9, 2) := by decide +kernel
theorem q145_296 : decode (mB 145) 296 = .ok (.aload_n 2, 1) := by decide +kernel
theorem q145_297 : decode (mB 145) 297 = .ok (.iload 11, 2) := by decide +kernel
theorem q145_299 : decode (mB 145) 299 = .ok (.laload, 1) := by decide +kernel
theorem q145_300 : (decide (145 < 152) && decide (decode (mB 145) 300 = .ok (.invokestatic 171, 3)) && (lks (mD 145)).contains (171, 3, 4, 0) && decide (1 ≤ mV 145)) = true := by decide +kernel
theorem q145_303 : decode (mB 145) 303 = .ok (.lstore 12, 2) := by decide +kernel
theorem q145_305 : decode (mB 145) 305 = .ok (.lload 9, 2) := by decide +kernel
theorem q145_307 : decode (mB 145) 307 = .ok (.aload_n 2, 1) := by decide +kernel
theorem q145_308 : decode (mB 145) 308 = .ok (.iload 11, 2) := by decide +kernel
theorem q145_310 : decode (mB 145) 310 = .ok (.laload, 1) := by decide +kernel
theorem q145_311 : (decide (145 < 152) && decide (decode (mB 145) 311 = .ok (.invokestatic 174, 3)) && (lks (mD 145)).contains (174, 3, 2, 0) && decide (1 ≤ mV 145)) = true := by decide +kernel
theorem q145_314 : decode (mB 145) 314 = .ok (.lstore 9, 2) := by decide +kernel
theorem q145_316 : decode (mB 145) 316 = .ok (.aload_n 2, 1) := by decide +kernel
theorem q145_317 : decode (mB 145) 317 = .ok (.iload 11, 2) := by decide +kernel
theorem q145_319 : decode (mB 145) 319 = .ok (.lload 12, 2) := by decide +kernel
theorem q145_321 : decode (mB 145) 321 = .ok (.lastore, 1) := by decide +kernel
theorem q145_322 : decode (mB 145) 322 = .ok (.iinc 11 1, 3) := by decide +kernel
theorem q145_325 : decode (mB 145) 325 = .ok (.goto (-37), 3) := by decide +kernel
theorem q145_328 : decode (mB 145) 328 = .ok (.iinc 8 1, 3) := by decide +kernel
theorem q145_331 : decode (mB 145) 331 = .ok (.goto (-201), 3) := by decide +kernel
theorem q145_334 : decode (mB 145) 334 = .ok (.iinc 6 1, 3) := by decide +kernel
theorem q145_337 : decode (mB 145) 337 = .ok (.goto (-277), 3) := by decide +kernel
theorem q145_340 : decode (mB 145) 340 = .ok (.iinc 5 1, 3) := by decide +kernel
theorem q145_343 : decode (mB 145) 343 = .ok (.goto (-293), 3) := by decide +kernel
theorem q145_346 : decode (mB 145) 346 = .ok (.iinc 4 1, 3) := by decide +kernel
theorem q145_349 : decode (mB 145) 349 = .ok (.goto (-309), 3) := by decide +kernel
theorem q145_352 : decode (mB 145) 352 = .ok (.iinc 3 1, 3) := by decide +kernel
theorem q145_355 : decode (mB 145) 355 = .ok (.goto (-324), 3) := by decide +kernel
theorem q145_358 : decode (mB 145) 358 = .ok (.aload_n 2, 1) := by decide +kernel
theorem q145_359 : decode (mB 145) 359 = .ok (.areturn, 1) := by decide +kernel
theorem q146_0 : decode (mB 146) 0 = .ok (.aload_n 2, 1) := by decide +kernel
theorem q146_1 : decode (mB 146) 1 = .ok (.iload_n 3, 1) := by decide +kernel
theorem q146_2 : decode (mB 146) 2 = .ok (.iconst 1, 1) := by decide +kernel
theorem q146_3 : decode (mB 146) 3 = .ok (.iadd, 1) := by decide +kernel
theorem q146_4 : decode (mB 146) 4 = .ok (.bipush 6, 2) := by decide +kernel
theorem q146_6 : cfB 146 6 110 129 0 4 3 = true := by decide +kernel
theorem q146_9 : decode (mB 146) 9 = .ok (.istore 4, 2) := by decide +kernel
theorem q146_11 : decode (mB 146) 11 = .ok (.aload_n 2, 1) := by decide +kernel
theorem q146_12 : decode (mB 146) 12 = .ok (.iload_n 3, 1) := by decide +kernel
theorem q146_13 : decode (mB 146) 13 = .ok (.bipush 10, 2) := by decide +kernel
theorem q146_15 : cfB 146 15 110 129 0 4 3 = true := by decide +kernel
theorem q146_18 : decode (mB 146) 18 = .ok (.tableswitch 628 0 8 #[50, 95, 151, 238, 309, 309, 341, 401, 516], 50) := by decide +kernel
theorem q146_68 : decode (mB 146) 68 = .ok (.aload_n 1, 1) := by decide +kernel
theorem q146_69 : decode (mB 146) 69 = .ok (.bipush 10, 2) := by decide +kernel
theorem q146_71 : decode (mB 146) 71 = .ok (.iload 4, 2) := by decide +kernel
theorem q146_73 : decode (mB 146) 73 = .ok (.iadd, 1) := by decide +kernel
theorem q146_74 : decode (mB 146) 74 = .ok (.iconst 2, 1) := by decide +kernel
theorem q146_75 : decode (mB 146) 75 = .ok (.aload_n 2, 1) := by decide +kernel
theorem q146_76 : decode (mB 146) 76 = .ok (.iload_n 3, 1) := by decide +kernel
theorem q146_77 : decode (mB 146) 77 = .ok (.iconst 2, 1) := by decide +kernel
theorem q146_78 : decode (mB 146) 78 = .ok (.iadd, 1) := by decide +kernel
theorem q146_79 : decode (mB 146) 79 = .ok (.iconst 3, 1) := by decide +kernel
theorem q146_80 : cfB 146 80 110 129 0 4 3 = true := by decide +kernel
theorem q146_83 : decode (mB 146) 83 = .ok (.iadd, 1) := by decide +kernel
theorem q146_84 : decode (mB 146) 84 = .ok (.iastore, 1) := by decide +kernel
theorem q146_85 : decode (mB 146) 85 = .ok (.aload_n 0, 1) := by decide +kernel
theorem q146_86 : decode (mB 146) 86 = .ok (.iload 4, 2) := by decide +kernel
theorem q146_88 : decode (mB 146) 88 = .ok (.aload_n 1, 1) := by decide +kernel
theorem q146_89 : decode (mB 146) 89 = .ok (.bipush 10, 2) := by decide +kernel
theorem q146_91 : decode (mB 146) 91 = .ok (.iload 4, 2) := by decide +kernel
theorem q146_93 : decode (mB 146) 93 = .ok (.iadd, 1) := by decide +kernel
theorem q146_94 : decode (mB 146) 94 = .ok (.iaload, 1) := by decide +kernel
theorem q146_95 : cfW 146 95 176 117 3 = true := by decide +kernel
theorem q146_98 : decode (mB 146) 98 = .ok (.aload_n 1, 1) := by decide +kernel
theorem q146_99 : decode (mB 146) 99 = .ok (.iload 4, 2) := by decide +kernel
theorem q146_101 : cfB 146 101 134 136 0 4 2 = true := by decide +kernel
theorem q146_104 : decode (mB 146) 104 = .ok (.if_icmp .ne 7, 3) := by decide +kernel
theorem q146_107 : decode (mB 146) 107 = .ok (.iconst 1, 1) := by decide +kernel
theorem q146_108 : decode (mB 146) 108 = .ok (.goto 4, 3) := by decide +kernel
theorem q146_111 : decode (mB 146) 111 = .ok (.iconst 0, 1) := by decide +kernel
theorem q146_112 : decode (mB 146) 112 = .ok (.ireturn, 1) := by decide +kernel
theorem q146_113 : decode (mB 146) 113 = .ok (.aload_n 1, 1) := by decide +kernel
theorem q146_114 : decode (mB 146) 114 = .ok (.bipush 10, 2) := by decide +kernel
theorem q146_116 : decode (mB 146) 116 = .ok (.iload 4, 2) := by decide +kernel
theorem q146_118 : decode (mB 146) 118 = .ok (.iadd, 1) := by decide +kernel
theorem q146_119 : decode (mB 146) 119 = .ok (.iaload, 1) := by decide +kernel
theorem q146_120 : decode (mB 146) 120 = .ok (.ifCond .le 7, 3) := by decide +kernel
theorem q146_123 : decode (mB 146) 123 = .ok (.iconst 1, 1) := by decide +kernel
theorem q146_124 : decode (mB 146) 124 = .ok (.goto 4, 3) := by decide +kernel
theorem q146_127 : decode (mB 146) 127 = .ok (.iconst 0, 1) := by decide +kernel
theorem q146_128 : decode (mB 146) 128 = .ok (.istore 5, 2) := by decide +kernel
theorem q146_130 : decode (mB 146) 130 = .ok (.aload_n 1, 1) := by decide +kernel
theorem q146_131 : decode (mB 146) 131 = .ok (.bipush 10, 2) := by decide +kernel
theorem q146_133 : decode (mB 146) 133 = .ok (.iload 4, 2) := by decide +kernel
theorem q146_135 : decode (mB 146) 135 = .ok (.iadd, 1) := by decide +kernel
theorem q146_136 : decode (mB 146) 136 = .ok (.iconst 0, 1) := by decide +kernel
theorem q146_137 : decode (mB 146) 137 = .ok (.iastore, 1) := by decide +kernel
theorem q146_138 : decode (mB 146) 138 = .ok (.aload_n 0, 1) := by decide +kernel
theorem q146_139 : decode (mB 146) 139 = .ok (.iload 4, 2) := by decide +kernel
theorem q146_141 : cfW 146 141 179 118 2 = true := by decide +kernel
theorem q146_144 : decode (mB 146) 144 = .ok (.iload 5, 2) := by decide +kernel
theorem q146_146 : decode (mB 146) 146 = .ok (.ifCond .eq 12, 3) := by decide +kernel
theorem q146_149 : decode (mB 146) 149 = .ok (.aload_n 1, 1) := by decide +kernel
theorem q146_150 : decode (mB 146) 150 = .ok (.iload 4, 2) := by decide +kernel
theorem q146_152 : cfB 146 152 134 136 0 4 2 = true := by decide +kernel
theorem q146_155 : decode (mB 146) 155 = .ok (.goto 5, 3) := by decide +kernel
theorem q146_158 : (decide (146 < 152) && decide (decode (mB 146) 158 = .ok (.ldc 20, 2)) && (lks (mD 146)).contains (20, 6, 4294067294, 0)) = true := by decide +kernel
theorem q146_160 : decode (mB 146) 160 = .ok (.if_icmp .ne 7, 3) := by decide +kernel
theorem q146_163 : decode (mB 146) 163 = .ok (.iconst 1, 1) := by decide +kernel
theorem q146_164 : decode (mB 146) 164 = .ok (.goto 4, 3) := by decide +kernel
theorem q146_167 : decode (mB 146) 167 = .ok (.iconst 0, 1) := by decide +kernel
theorem q146_168 : decode (mB 146) 168 = .ok (.ireturn, 1) := by decide +kernel
theorem q146_169 : decode (mB 146) 169 = .ok (.aload_n 1, 1) := by decide +kernel
theorem q146_170 : decode (mB 146) 170 = .ok (.bipush 30, 2) := by decide +kernel
theorem q146_172 : decode (mB 146) 172 = .ok (.iload 4, 2) := by decide +kernel
theorem q146_174 : decode (mB 146) 174 = .ok (.iadd, 1) := by decide +kernel
theorem q146_175 : decode (mB 146) 175 = .ok (.aload_n 2, 1) := by decide +kernel
theorem q146_176 : decode (mB 146) 176 = .ok (.iload_n 3, 1) := by decide +kernel
theorem q146_177 : decode (mB 146) 177 = .ok (.iconst 2, 1) := by decide +kernel
theorem q146_178 : decode (mB 146) 178 = .ok (.iadd, 1) := by decide +kernel
theorem q146_179 : decode (mB 146) 179 = .ok (.iconst 3, 1) := by decide +kernel
theorem q146_180 : cfB 146 180 110 129 0 4 3 = true := by decide +kernel
theorem q146_183 : decode (mB 146) 183 = .ok (.ifCond .ne 7, 3) := by decide +kernel
theorem q146_186 : decode (mB 146) 186 = .ok (.iconst 1, 1) := by decide +kernel
theorem q146_187 : decode (mB 146) 187 = .ok (.goto 4, 3) := by decide +kernel
theorem q146_190 : decode (mB 146) 190 = .ok (.iconst 0, 1) := by decide +kernel
theorem q146_191 : decode (mB 146) 191 = .ok (.iastore, 1) := by decide +kernel
theorem q146_192 : decode (mB 146) 192 = .ok (.iconst 0, 1) := by decide +kernel
theorem q146_193 : decode (mB 146) 193 = .ok (.istore 5, 2) := by decide +kernel
theorem q146_195 : decode (mB 146) 195 = .ok (.iconst 0, 1) := by decide +kernel
theorem q146_196 : decode (mB 146) 196 = .ok (.istore 6, 2) := by decide +kernel
theorem q146_198 : decode (mB 146) 198 = .ok (.iload 6, 2) := by decide +kernel
theorem q146_200 : decode (mB 146) 200 = .ok (.bipush 6, 2) := by decide +kernel
theorem q146_202 : decode (mB 146) 202 = .ok (.if_icmp .ge 21, 3) := by decide +kernel
theorem q146_205 : decode (mB 146) 205 = .ok (.iload 5, 2) := by decide +kernel
theorem q146_207 : decode (mB 146) 207 = .ok (.aload_n 1, 1) := by decide +kernel
theorem q146_208 : decode (mB 146) 208 = .ok (.bipush 30, 2) := by decide +kernel
theorem q146_210 : decode (mB 146) 210 = .ok (.iload 6, 2) := by decide +kernel
theorem q146_212 : decode (mB 146) 212 = .ok (.iadd, 1) := by decide +kernel
theorem q146_213 : decode (mB 146) 213 = .ok (.iaload, 1) := by decide +kernel
theorem q146_214 : decode (mB 146) 214 = .ok (.iadd, 1) := by decide +kernel
theorem q146_215 : decode (mB 146) 215 = .ok (.istore 5, 2) := by decide +kernel
theorem q146_217 : decode (mB 146) 217 = .ok (.iinc 6 1, 3) := by decide +kernel
theorem q146_220 : decode (mB 146) 220 = .ok (.goto (-22), 3) := by decide +kernel
theorem q146_223 : decode (mB 146) 223 = .ok (.aload_n 0, 1) := by decide +kernel
theorem q146_224 : decode (mB 146) 224 = .ok (.iload 4, 2) := by decide +kernel
theorem q146_226 : decode (mB 146) 226 = .ok (.aload_n 1, 1) := by decide +kernel
theorem q146_227 : decode (mB 146) 227 = .ok (.bipush 30, 2) := by decide +kernel
theorem q146_229 : decode (mB 146) 229 = .ok (.iload 4, 2) := by decide +kernel
theorem q146_231 : decode (mB 146) 231 = .ok (.iadd, 1) := by decide +kernel
theorem q146_232 : decode (mB 146) 232 = .ok (.iaload, 1) := by decide +kernel
theorem q146_233 : decode (mB 146) 233 = .ok (.iconst 1, 1) := by decide +kernel
theorem q146_234 : decode (mB 146) 234 = .ok (.if_icmp .ne 7, 3) := by decide +kernel
theorem q146_237 : decode (mB 146) 237 = .ok (.iconst 1, 1) := by decide +kernel
theorem q146_238 : decode (mB 146) 238 = .ok (.goto 4, 3) := by decide +kernel
theorem q146_241 : decode (mB 146) 241 = .ok (.iconst 0, 1) := by decide +kernel
theorem q146_242 : cfW 146 242 182 119 3 = true := by decide +kernel
theorem q146_245 : decode (mB 146) 245 = .ok (.iload 5, 2) := by decide +kernel
theorem q146_247 : decode (mB 146) 247 = .ok (.if_icmp .ne 7, 3) := by decide +kernel
theorem q146_250 : decode (mB 146) 250 = .ok (.iconst 1, 1) := by decide +kernel
theorem q146_251 : decode (mB 146) 251 = .ok (.goto 4, 3) := by decide +kernel
theorem q146_254 : decode (mB 146) 254 = .ok (.iconst 0, 1) := by decide +kernel
theorem q146_255 : decode (mB 146) 255 = .ok (.ireturn, 1) := by decide +kernel
theorem q146_256 : decode (mB 146) 256 = .ok (.aload_n 1, 1) := by decide +kernel
theorem q146_257 : decode (mB 146) 257 = .ok (.iconst 1, 1) := by decide +kernel
theorem q146_258 : decode (mB 146) 258 = .ok (.iaload, 1) := by decide +kernel
theorem q146_259 : decode (mB 146) 259 = .ok (.istore 5, 2) := by decide +kernel
theorem q146_261 : decode (mB 146) 261 = .ok (.aload_n 2, 1) := by decide +kernel
theorem q146_262 : decode (mB 146) 262 = .ok (.iload_n 3, 1) := by decide +kernel
theorem q146_263 : decode (mB 146) 263 = .ok (.iconst 2, 1) := by decide +kernel
theorem q146_264 : decode (mB 146) 264 = .ok (.iadd, 1) := by decide +kernel
theorem q146_265 : decode (mB 146) 265 = .ok (.iconst 5, 1) := by decide +kernel
theorem q146_266 : cfB 146 266 110 129 0 4 3 = true := by decide +kernel
theorem q146_269 : decode (mB 146) 269 = .ok (.istore 6, 2) := by decide +kernel
theorem q146_271 : decode (mB 146) 271 = .ok (.aload_n 1, 1) := by decide +kernel
theorem q146_272 : decode (mB 146) 272 = .ok (.iconst 1, 1) := by decide +kernel
theorem q146_273 : decode (mB 146) 273 = .ok (.iload 6, 2) := by decide +kernel
theorem q146_275 : decode (mB 146) 275 = .ok (.ifCond .ne 8, 3) := by decide +kernel
theorem q146_278 : decode (mB 146) 278 = .ok (.bipush 98, 2) := by decide +kernel
theorem q146_280 : decode (mB 146) 280 = .ok (.goto 27, 3) := by decide +kernel
theorem q146_283 : decode (mB 146) 283 = .ok (.iload 6, 2) := by decide +kernel
theorem q146_285 : decode (mB 146) 285 = .ok (.iconst 1, 1) := by decide +kernel
theorem q146_286 : decode (mB 146) 286 = .ok (.if_icmp .ne 8, 3) := by decide +kernel
theorem q146_289 : decode (mB 146) 289 = .ok (.bipush 108, 2) := by decide +kernel
theorem q146_291 : decode (mB 146) 291 = .ok (.goto 16, 3) := by decide +kernel
theorem q146_294 : decode (mB 146) 294 = .ok (.iload 6, 2) := by decide +kernel
theorem q146_296 : decode (mB 146) 296 = .ok (.iconst 2, 1) := by decide +kernel
theorem q146_297 : decode (mB 146) 297 = .ok (.if_icmp .ne 8, 3) := by decide +kernel
theorem q146_300 : decode (mB 146) 300 = .ok (.bipush 112, 2) := by decide +kernel
theorem q146_302 : decode (mB 146) 302 = .ok (.goto 5, 3) := by decide +kernel
theorem q146_305 : decode (mB 146) 305 = .ok (.bipush 45, 2) := by decide +kernel
theorem q146_307 : decode (mB 146) 307 = .ok (.iastore, 1) := by decide +kernel
theorem q146_308 : decode (mB 146) 308 = .ok (.aload_n 0, 1) := by decide +kernel
theorem q146_309 : decode (mB 146) 309 = .ok (.aload_n 1, 1) := by decide +kernel
theorem q146_310 : decode (mB 146) 310 = .ok (.iconst 1, 1) := by decide +kernel
theorem q146_311 : decode (mB 146) 311 = .ok (.iaload, 1) := by decide +kernel
theorem q146_312 : decode (mB 146) 312 = .ok (.i2c, 1) := by decide +kernel
theorem q146_313 : cfW 146 313 185 120 2 = true := by decide +kernel
theorem q146_316 : decode (mB 146) 316 = .ok (.iload 5, 2) := by decide +kernel
theorem q146_318 : decode (mB 146) 318 = .ok (.if_icmp .ne 7, 3) := by decide +kernel
theorem q146_321 : decode (mB 146) 321 = .ok (.iconst 1, 1) := by decide +kernel
theorem q146_322 : decode (mB 146) 322 = .ok (.goto 4, 3) := by decide +kernel
theorem q146_325 : decode (mB 146) 325 = .ok (.iconst 0, 1) := by decide +kernel
theorem q146_326 : decode (mB 146) 326 = .ok (.ireturn, 1) := by decide +kernel
theorem q146_327 : decode (mB 146) 327 = .ok (.aload_n 0, 1) := by decide +kernel
theorem q146_328 : decode (mB 146) 328 = .ok (.aload_n 1, 1) := by decide +kernel
theorem q146_329 : decode (mB 146) 329 = .ok (.iload 4, 2) := by decide +kernel
theorem q146_331 : decode (mB 146) 331 = .ok (.aload_n 2, 1) := by decide +kernel
theorem q146_332 : decode (mB 146) 332 = .ok (.iload_n 3, 1) := by decide +kernel
theorem q146_333 : decode (mB 146) 333 = .ok (.iconst 2, 1) := by decide +kernel
theorem q146_334 : decode (mB 146) 334 = .ok (.iadd, 1) := by decide +kernel
theorem q146_335 : decode (mB 146) 335 = .ok (.iconst 4, 1) := by decide +kernel
theorem q146_336 : cfB 146 336 110 129 0 4 3 = true := by decide +kernel
theorem q146_339 : decode (mB 146) 339 = .ok (.aload_n 2, 1) := by decide +kernel
theorem q146_340 : decode (mB 146) 340 = .ok (.iload_n 3, 1) := by decide +kernel
theorem q146_341 : decode (mB 146) 341 = .ok (.iconst 3, 1) := by decide +kernel
theorem q146_342 : decode (mB 146) 342 = .ok (.iadd, 1) := by decide +kernel
theorem q146_343 : decode (mB 146) 343 = .ok (.iconst 3, 1) := by decide +kernel
theorem q146_344 : cfB 146 344 110 129 0 4 3 = true := by decide +kernel
theorem q146_347 : decode (mB 146) 347 = .ok (.ifCond .le 7, 3) := by decide +kernel
theorem q146_350 : decode (mB 146) 350 = .ok (.iconst 1, 1) := by decide +kernel
theorem q146_351 : decode (mB 146) 351 = .ok (.goto 4, 3) := by decide +kernel
theorem q146_354 : decode (mB 146) 354 = .ok (.iconst 0, 1) := by decide +kernel
theorem q146_355 : cfB 146 355 188 147 0 4 5 = true := by decide +kernel
theorem q146_358 : decode (mB 146) 358 = .ok (.ireturn, 1) := by decide +kernel
theorem q146_359 : decode (mB 146) 359 = .ok (.aload_n 2, 1) := by decide +kernel
theorem q146_360 : decode (mB 146) 360 = .ok (.iload_n 3, 1) := by decide +kernel
theorem q146_361 : decode (mB 146) 361 = .ok (.iconst 1, 1) := by decide +kernel
theorem q146_362 : decode (mB 146) 362 = .ok (.iadd, 1) := by decide +kernel
theorem q146_363 : decode (mB 146) 363 = .ok (.bipush 8, 2) := by decide +kernel
theorem q146_365 : cfB 146 365 110 129 0 4 3 = true := by decide +kernel
theorem q146_368 : decode (mB 146) 368 = .ok (.istore 5, 2) := by decide +kernel
theorem q146_370 : decode (mB 146) 370 = .ok (.aload_n 1, 1) := by decide +kernel
theorem q146_371 : decode (mB 146) 371 = .ok (.bipush 20, 2) := by decide +kernel
theorem q146_373 : decode (mB 146) 373 = .ok (.iload 5, 2) := by decide +kernel
theorem q146_375 : decode (mB 146) 375 = .ok (.iadd, 1) := by decide +kernel
theorem q146_376 : decode (mB 146) 376 = .ok (.iaload, 1) := by decide +kernel
theorem q146_377 : decode (mB 146) 377 = .ok (.istore 6, 2) := by decide +kernel
theorem q146_379 : decode (mB 146) 379 = .ok (.aload_n 1, 1) := by decide +kernel
theorem q146_380 : decode (mB 146) 380 = .ok (.bipush 20, 2) := by decide +kernel
theorem q146_382 : decode (mB 146) 382 = .ok (.iload 5, 2) := by decide +kernel
theorem q146_384 : decode (mB 146) 384 = .ok (.iadd, 1) := by decide +kernel
theorem q146_385 : decode (mB 146) 385 = .ok (.aload_n 2, 1) := by decide +kernel
theorem q146_386 : decode (mB 146) 386 = .ok (.iload_n 3, 1) := by decide +kernel
theorem q146_387 : decode (mB 146) 387 = .ok (.iconst 2, 1) := by decide +kernel
theorem q146_388 : decode (mB 146) 388 = .ok (.iadd, 1) := by decide +kernel
theorem q146_389 : decode (mB 146) 389 = .ok (.bipush 12, 2) := by decide +kernel
theorem q146_391 : cfB 146 391 110 129 0 4 3 = true := by decide +kernel
theorem q146_394 : decode (mB 146) 394 = .ok (.iastore, 1) := by decide +kernel
theorem q146_395 : decode (mB 146) 395 = .ok (.aload_n 0, 1) := by decide +kernel
theorem q146_396 : decode (mB 146) 396 = .ok (.iload 5, 2) := by decide +kernel
theorem q146_398 : decode (mB 146) 398 = .ok (.aload_n 1, 1) := by decide +kernel
theorem q146_399 : decode (mB 146) 399 = .ok (.bipush 20, 2) := by decide +kernel
theorem q146_401 : decode (mB 146) 401 = .ok (.iload 5, 2) := by decide +kernel
theorem q146_403 : decode (mB 146) 403 = .ok (.iadd, 1) := by decide +kernel
theorem q146_404 : decode (mB 146) 404 = .ok (.iaload, 1) := by decide +kernel
theorem q146_405 : cfW 146 405 192 123 3 = true := by decide +kernel
theorem q146_408 : decode (mB 146) 408 = .ok (.iload 6, 2) := by decide +kernel
theorem q146_410 : decode (mB 146) 410 = .ok (.if_icmp .ne 7, 3) := by decide +kernel
theorem q146_413 : decode (mB 146) 413 = .ok (.iconst 1, 1) := by decide +kernel
theorem q146_414 : decode (mB 146) 414 = .ok (.goto 4, 3) := by decide +kernel
theorem q146_417 : decode (mB 146) 417 = .ok (.iconst 0, 1) := by decide +kernel
theorem q146_418 : decode (mB 146) 418 = .ok (.ireturn, 1) := by decide +kernel
theorem q146_419 : decode (mB 146) 419 = .ok (.aload_n 1, 1) := by decide +kernel
theorem q146_420 : decode (mB 146) 420 = .ok (.iconst 0, 1) := by decide +kernel
theorem q146_421 : decode (mB 146) 421 = .ok (.iaload, 1) := by decide +kernel
theorem q146_422 : decode (mB 146) 422 = .ok (.ifCond .ne 19, 3) := by decide +kernel
theorem q146_425 : decode (mB 146) 425 = .ok (.aload_n 0, 1) := by decide +kernel
theorem q146_426 : decode (mB 146) 426 = .ok (.iconst 0, 1) := by decide +kernel
theorem q146_427 : cfW 146 427 194 110 2 = true := by decide +kernel
theorem q146_430 : (decide (146 < 152) && decide (decode (mB 146) 430 = .ok (.ldc 17, 2)) && (lks (mD 146)).contains (17, 6, 4294067295, 0)) = true := by decide +kernel
theorem q146_432 : decode (mB 146) 432 = .ok (.if_icmp .ne 7, 3) := by decide +kernel
theorem q146_435 : decode (mB 146) 435 = .ok (.iconst 1, 1) := by decide +kernel
theorem q146_436 : decode (mB 146) 436 = .ok (.goto 4, 3) := by decide +kernel
theorem q146_439 : decode (mB 146) 439 = .ok (.iconst 0, 1) := by decide +kernel
theorem q146_440 : decode (mB 146) 440 = .ok (.ireturn, 1) := by decide +kernel
theorem q146_441 : decode (mB 146) 441 = .ok (.aload_n 2, 1) := by decide +kernel
theorem q146_442 : decode (mB 146) 442 = .ok (.iload_n 3, 1) := by decide +kernel
theorem q146_443 : decode (mB 146) 443 = .ok (.iconst 2, 1) := by decide +kernel
theorem q146_444 : decode (mB 146) 444 = .ok (.iadd, 1) := by decide +kernel
theorem q146_445 : decode (mB 146) 445 = .ok (.aload_n 1, 1) := by decide +kernel
theorem q146_446 : decode (mB 146) 446 = .ok (.iconst 0, 1) := by decide +kernel
theorem q146_447 : decode (mB 146) 447 = .ok (.iaload, 1) := by decide +kernel
theorem q146_448 : cfB 146 448 110 129 0 4 3 = true := by decide +kernel
theorem q146_451 : decode (mB 146) 451 = .ok (.istore 5, 2) := by decide +kernel
theorem q146_453 : decode (mB 146) 453 = .ok (.aload_n 1, 1) := by decide +kernel
theorem q146_454 : decode (mB 146) 454 = .ok (.iload 5, 2) := by decide +kernel
theorem q146_456 : decode (mB 146) 456 = .ok (.iload 4, 2) := by decide +kernel
theorem q146_458 : cfB 146 458 121 131 0 4 3 = true := by decide +kernel
theorem q146_461 : decode (mB 146) 461 = .ok (.istore 6, 2) := by decide +kernel
theorem q146_463 : decode (mB 146) 463 = .ok (.aload_n 1, 1) := by decide +kernel
theorem q146_464 : decode (mB 146) 464 = .ok (.bipush 100, 2) := by decide +kernel
theorem q146_466 : decode (mB 146) 466 = .ok (.bipush 6, 2) := by decide +kernel
theorem q146_468 : decode (mB 146) 468 = .ok (.iload 5, 2) := by decide +kernel
theorem q146_470 : decode (mB 146) 470 = .ok (.imul, 1) := by decide +kernel
theorem q146_471 : decode (mB 146) 471 = .ok (.iadd, 1) := by decide +kernel
theorem q146_472 : decode (mB 146) 472 = .ok (.iload 4, 2) := by decide +kernel
theorem q146_474 : decode (mB 146) 474 = .ok (.iadd, 1) := by decide +kernel
theorem q146_475 : decode (mB 146) 475 = .ok (.aload_n 2, 1) := by decide +kernel
theorem q146_476 : decode (mB 146) 476 = .ok (.iload_n 3, 1) := by decide +kernel
theorem q146_477 : decode (mB 146) 477 = .ok (.iconst 3, 1) := by decide +kernel
theorem q146_478 : decode (mB 146) 478 = .ok (.iadd, 1) := by decide +kernel
theorem q146_479 : decode (mB 146) 479 = .ok (.iconst 4, 1) := by decide +kernel
theorem q146_480 : cfB 146 480 110 129 0 4 3 = true := by decide +kernel
theorem q146_483 : decode (mB 146) 483 = .ok (.ifCond .ne 9, 3) := by decide +kernel
theorem q146_486 : decode (mB 146) 486 = .ok (.sipush (-10000), 3) := by decide +kernel
theorem q146_489 : decode (mB 146) 489 = .ok (.goto 12, 3) := by decide +kernel
theorem q146_492 : decode (mB 146) 492 = .ok (.aload_n 2, 1) := by decide +kernel
theorem q146_493 : decode (mB 146) 493 = .ok (.iload_n 3, 1) := by decide +kernel
theorem q146_494 : decode (mB 146) 494 = .ok (.iconst 4, 1) := by decide +kernel
theorem q146_495 : decode (mB 146) 495 = .ok (.iadd, 1) := by decide +kernel
theorem q146_496 : decode (mB 146) 496 = .ok (.bipush 30, 2) := by decide +kernel
theorem q146_498 : cfB 146 498 110 129 0 4 3 = true := by decide +kernel
theorem q146_501 : decode (mB 146) 501 = .ok (.iastore, 1) := by decide +kernel
theorem q146_502 : decode (mB 146) 502 = .ok (.aload_n 0, 1) := by decide +kernel
theorem q146_503 : decode (mB 146) 503 = .ok (.iload 5, 2) := by decide +kernel
theorem q146_505 : decode (mB 146) 505 = .ok (.iload 4, 2) := by decide +kernel
theorem q146_507 : decode (mB 146) 507 = .ok (.aload_n 1, 1) := by decide +kernel
theorem q146_508 : decode (mB 146) 508 = .ok (.bipush 100, 2) := by decide +kernel
theorem q146_510 : decode (mB 146) 510 = .ok (.bipush 6, 2) := by decide +kernel
theorem q146_512 : decode (mB 146) 512 = .ok (.iload 5, 2) := by decide +kernel
theorem q146_514 : decode (mB 146) 514 = .ok (.imul, 1) := by decide +kernel
theorem q146_515 : decode (mB 146) 515 = .ok (.iadd, 1) := by decide +kernel
theorem q146_516 : decode (mB 146) 516 = .ok (.iload 4, 2) := by decide +kernel
theorem q146_518 : decode (mB 146) 518 = .ok (.iadd, 1) := by decide +kernel
theorem q146_519 : decode (mB 146) 519 = .ok (.iaload, 1) := by decide +kernel
theorem q146_520 : cfW 146 520 196 111 4 = true := by decide +kernel
theorem q146_523 : decode (mB 146) 523 = .ok (.iload 6, 2) := by decide +kernel
theorem q146_525 : decode (mB 146) 525 = .ok (.if_icmp .ne 7, 3) := by decide +kernel
theorem q146_528 : decode (mB 146) 528 = .ok (.iconst 1, 1) := by decide +kernel
theorem q146_529 : decode (mB 146) 529 = .ok (.goto 4, 3) := by decide +kernel
theorem q146_532 : decode (mB 146) 532 = .ok (.iconst 0, 1) := by decide +kernel
theorem q146_533 : decode (mB 146) 533 = .ok (.ireturn, 1) := by decide +kernel
theorem q146_534 : decode (mB 146) 534 = .ok (.aload_n 1, 1) := by decide +kernel
theorem q146_535 : decode (mB 146) 535 = .ok (.iconst 0, 1) := by decide +kernel
theorem q146_536 : decode (mB 146) 536 = .ok (.iaload, 1) := by decide +kernel
theorem q146_537 : decode (mB 146) 537 = .ok (.ifCond .ne 21, 3) := by decide +kernel
theorem q146_540 : decode (mB 146) 540 = .ok (.aload_n 0, 1) := by decide +kernel
theorem q146_541 : decode (mB 146) 541 = .ok (.iconst 0, 1) := by decide +kernel
theorem q146_542 : decode (mB 146) 542 = .ok (.iconst 0, 1) := by decide +kernel
theorem q146_543 : decode (mB 146) 543 = .ok (.iconst 0, 1) := by decide +kernel
theorem q146_544 : cfW 146 544 196 111 4 = true := by decide +kernel
theorem q146_547 : (decide (146 < 152) && decide (decode (mB 146) 547 = .ok (.ldc 17, 2)) && (lks (mD 146)).contains (17, 6, 4294067295, 0)) = true := by decide +kernel
theorem q146_549 : decode (mB 146) 549 = .ok (.if_icmp .ne 7, 3) := by decide +kernel
theorem q146_552 : decode (mB 146) 552 = .ok (.iconst 1, 1) := by decide +kernel
theorem q146_553 : decode (mB 146) 553 = .ok (.goto 4, 3) := by decide +kernel
theorem q146_556 : decode (mB 146) 556 = .ok (.iconst 0, 1) := by decide +kernel
theorem q146_557 : decode (mB 146) 557 = .ok (.ireturn, 1) := by decide +kernel
theorem q146_558 : decode (mB 146) 558 = .ok (.aload_n 2, 1) := by decide +kernel
theorem q146_559 : decode (mB 146) 559 = .ok (.iload_n 3, 1) := by decide +kernel
theorem q146_560 : decode (mB 146) 560 = .ok (.iconst 2, 1) := by decide +kernel
theorem q146_561 : decode (mB 146) 561 = .ok (.iadd, 1) := by decide +kernel
theorem q146_562 : decode (mB 146) 562 = .ok (.aload_n 1, 1) := by decide +kernel
theorem q146_563 : decode (mB 146) 563 = .ok (.iconst 0, 1) := by decide +kernel
theorem q146_564 : decode (mB 146) 564 = .ok (.iaload, 1) := by decide +kernel
theorem q146_565 : cfB 146 565 110 129 0 4 3 = true := by decide +kernel
theorem q146_568 : decode (mB 146) 568 = .ok (.istore 5, 2) := by decide +kernel
theorem q146_570 : decode (mB 146) 570 = .ok (.aload_n 1, 1) := by decide +kernel
theorem q146_571 : decode (mB 146) 571 = .ok (.iconst 0, 1) := by decide +kernel
theorem q146_572 : decode (mB 146) 572 = .ok (.dup2, 1) := by decide +kernel
theorem q146_573 : decode (mB 146) 573 = .ok (.iaload, 1) := by decide +kernel
theorem q146_574 : decode (mB 146) 574 = .ok (.iconst 1, 1) := by decide +kernel
theorem q146_575 : decode (mB 146) 575 = .ok (.isub, 1) := by decide +kernel
theorem q146_576 : decode (mB 146) 576 = .ok (.iastore, 1) := by decide +kernel
theorem q146_577 : decode (mB 146) 577 = .ok (.bipush 100, 2) := by decide +kernel
theorem q146_579 : decode (mB 146) 579 = .ok (.bipush 6, 2) := by decide +kernel
theorem q146_581 : decode (mB 146) 581 = .ok (.iload 5, 2) := by decide +kernel
theorem q146_583 : decode (mB 146) 583 = .ok (.imul, 1) := by decide +kernel
theorem q146_584 : decode (mB 146) 584 = .ok (.iadd, 1) := by decide +kernel
theorem q146_585 : decode (mB 146) 585 = .ok (.istore 6, 2) := by decide +kernel
theorem q146_587 : decode (mB 146) 587 = .ok (.iload 6, 2) := by decide +kernel
theorem q146_589 : decode (mB 146) 589 = .ok (.bipush 100, 2) := by decide +kernel
theorem q146_591 : decode (mB 146) 591 = .ok (.bipush 6, 2) := by decide +kernel
theorem q146_593 : decode (mB 146) 593 = .ok (.aload_n 1, 1) := by decide +kernel
theorem q146_594 : decode (mB 146) 594 = .ok (.iconst 0, 1) := by decide +kernel
theorem q146_595 : decode (mB 146) 595 = .ok (.iaload, 1) := by decide +kernel
theorem q146_596 : decode (mB 146) 596 = .ok (.imul, 1) := by decide +kernel
theorem q146_597 : decode (mB 146) 597 = .ok (.iadd, 1) := by decide +kernel
theorem q146_598 : decode (mB 146) 598 = .ok (.if_icmp .ge 20, 3) := by decide +kernel
theorem q146_601 : decode (mB 146) 601 = .ok (.aload_n 1, 1) := by decide +kernel
theorem q146_602 : decode (mB 146) 602 = .ok (.iload 6, 2) := by decide +kernel
theorem q146_604 : decode (mB 146) 604 = .ok (.aload_n 1, 1) := by decide +kernel
theorem q146_605 : decode (mB 146) 605 = .ok (.iload 6, 2) := by decide +kernel
theorem q146_607 : decode (mB 146) 607 = .ok (.bipush 6, 2) := by decide +kernel
theorem q146_609 : decode (mB 146) 609 = .ok (.iadd, 1) := by decide +kernel
theorem q146_610 : decode (mB 146) 610 = .ok (.iaload, 1) := by decide +kernel
theorem q146_611 : decode (mB 146) 611 = .ok (.iastore, 1) := by decide +kernel
theorem q146_612 : decode (mB 146) 612 = .ok (.iinc 6 1, 3) := by decide +kernel
theorem q146_615 : decode (mB 146) 615 = .ok (.goto (-28), 3) := by decide +kernel
theorem q146_618 : decode (mB 146) 618 = .ok (.aload_n 0, 1) := by decide +kernel
theorem q146_619 : decode (mB 146) 619 = .ok (.iload 5, 2) := by decide +kernel
theorem q146_621 : cfW 146 621 194 110 2 = true := by decide +kernel
theorem q146_624 : decode (mB 146) 624 = .ok (.aload_n 1, 1) := by decide +kernel
theorem q146_625 : decode (mB 146) 625 = .ok (.iconst 0, 1) := by decide +kernel
theorem q146_626 : decode (mB 146) 626 = .ok (.iaload, 1) := by decide +kernel
theorem q146_627 : decode (mB 146) 627 = .ok (.if_icmp .ne 17, 3) := by decide +kernel
theorem q146_630 : decode (mB 146) 630 = .ok (.aload_n 0, 1) := by decide +kernel
theorem q146_631 : cfB 146 631 199 75 1 4 0 = true := by decide +kernel
theorem q146_634 : decode (mB 146) 634 = .ok (.aload_n 1, 1) := by decide +kernel
theorem q146_635 : decode (mB 146) 635 = .ok (.iconst 0, 1) := by decide +kernel
theorem q146_636 : decode (mB 146) 636 = .ok (.iaload, 1) := by decide +kernel
theorem q146_637 : decode (mB 146) 637 = .ok (.if_icmp .ne 7, 3) := by decide +kernel
theorem q146_640 : decode (mB 146) 640 = .ok (.iconst 1, 1) := by decide +kernel
theorem q146_641 : decode (mB 146) 641 = .ok (.goto 4, 3) := by decide +kernel
theorem q146_644 : decode (mB 146) 644 = .ok (.iconst 0, 1) := by decide +kernel
theorem q146_645 : decode (mB 146) 645 = .ok (.ireturn, 1) := by decide +kernel
theorem q146_646 : decode (mB 146) 646 = .ok (.aload_n 0, 1) := by decide +kernel
theorem q146_647 : decode (mB 146) 647 = .ok (.aload_n 1, 1) := by decide +kernel
theorem q146_648 : decode (mB 146) 648 = .ok (.aload_n 2, 1) := by decide +kernel
theorem q146_649 : decode (mB 146) 649 = .ok (.iload_n 3, 1) := by decide +kernel
theorem q146_650 : cfB 146 650 203 133 0 4 4 = true := by decide +kernel
theorem q146_653 : decode (mB 146) 653 = .ok (.ireturn, 1) := by decide +kernel
theorem q147_0 : decode (mB 147) 0 = .ok (.aload_n 1, 1) := by decide +kernel
theorem q147_1 : decode (mB 147) 1 = .ok (.bipush 40, 2) := by decide +kernel
theorem q147_3 : decode (mB 147) 3 = .ok (.iload_n 2, 1) := by decide +kernel
theorem q147_4 : decode (mB 147) 4 = .ok (.iadd, 1) := by decide +kernel
theorem q147_5 : decode (mB 147) 5 = .ok (.iaload, 1) := by decide +kernel
theorem q147_6 : decode (mB 147) 6 = .ok (.iload_n 3, 1) := by decide +kernel
theorem q147_7 : decode (mB 147) 7 = .ok (.ishr, 1) := by decide +kernel
theorem q147_8 : decode (mB 147) 8 = .ok (.iconst 1, 1) := by decide +kernel
theorem q147_9 : decode (mB 147) 9 = .ok (.iand, 1) := by decide +kernel
theorem q147_10 : decode (mB 147) 10 = .ok (.iconst 1, 1) := by decide +kernel
theorem q147_11 : decode (mB 147) 11 = .ok (.if_icmp .ne 7, 3) := by decide +kernel
theorem q147_14 : decode (mB 147) 14 = .ok (.iconst 1, 1) := by decide +kernel
theorem q147_15 : decode (mB 147) 15 = .ok (.goto 4, 3) := by decide +kernel
theorem q147_18 : decode (mB 147) 18 = .ok (.iconst 0, 1) := by decide +kernel
theorem q147_19 : decode (mB 147) 19 = .ok (.istore 5, 2) := by decide +kernel
theorem q147_21 : decode (mB 147) 21 = .ok (.aload_n 1, 1) := by decide +kernel
theorem q147_22 : decode (mB 147) 22 = .ok (.bipush 40, 2) := by decide +kernel
theorem q147_24 : decode (mB 147) 24 = .ok (.iload_n 2, 1) := by decide +kernel
theorem q147_25 : decode (mB 147) 25 = .ok (.iadd, 1) := by decide +kernel
theorem q147_26 : decode (mB 147) 26 = .ok (.iload 4, 2) := by decide +kernel
theorem q147_28 : decode (mB 147) 28 = .ok (.ifCond .eq 16, 3) := by decide +kernel
theorem q147_31 : decode (mB 147) 31 = .ok (.aload_n 1, 1) := by decide +kernel
theorem q147_32 : decode (mB 147) 32 = .ok (.bipush 40, 2) := by decide +kernel
theorem q147_34 : decode (mB 147) 34 = .ok (.iload_n 2, 1) := by decide +kernel
theorem q147_35 : decode (mB 147) 35 = .ok (.iadd, 1) := by decide +kernel
theorem q147_36 : decode (mB 147) 36 = .ok (.iaload, 1) := by decide +kernel
theorem q147_37 : decode (mB 147) 37 = .ok (.iconst 1, 1) := by decide +kernel
theorem q147_38 : decode (mB 147) 38 = .ok (.iload_n 3, 1) := by decide +kernel
theorem q147_39 : decode (mB 147) 39 = .ok (.ishl, 1) := by decide +kernel
theorem q147_40 : decode (mB 147) 40 = .ok (.ior, 1) := by decide +kernel
theorem q147_41 : decode (mB 147) 41 = .ok (.goto 15, 3) := by decide +kernel
theorem q147_44 : decode (mB 147) 44 = .ok (.aload_n 1, 1) := by decide +kernel
theorem q147_45 : decode (mB 147) 45 = .ok (.bipush 40, 2) := by decide +kernel
theorem q147_47 : decode (mB 147) 47 = .ok (.iload_n 2, 1) := by decide +kernel
theorem q147_48 : decode (mB 147) 48 = .ok (.iadd, 1) := by decide +kernel
theorem q147_49 : decode (mB 147) 49 = .ok (.iaload, 1) := by decide +kernel
theorem q147_50 : decode (mB 147) 50 = .ok (.iconst 1, 1) := by decide +kernel
theorem q147_51 : decode (mB 147) 51 = .ok (.iload_n 3, 1) := by decide +kernel
theorem q147_52 : decode (mB 147) 52 = .ok (.ishl, 1) := by decide +kernel
theorem q147_53 : decode (mB 147) 53 = .ok (.iconst (-1), 1) := by decide +kernel
theorem q147_54 : decode (mB 147) 54 = .ok (.ixor, 1) := by decide +kernel
theorem q147_55 : decode (mB 147) 55 = .ok (.iand, 1) := by decide +kernel
theorem q147_56 : decode (mB 147) 56 = .ok (.iastore, 1) := by decide +kernel
theorem q147_57 : decode (mB 147) 57 = .ok (.iconst 0, 1) := by decide +kernel
theorem q147_58 : decode (mB 147) 58 = .ok (.istore 6, 2) := by decide +kernel
theorem q147_60 : decode (mB 147) 60 = .ok (.iconst 0, 1) := by decide +kernel
theorem q147_61 : decode (mB 147) 61 = .ok (.istore 7, 2) := by decide +kernel
theorem q147_63 : decode (mB 147) 63 = .ok (.iload 7, 2) := by decide +kernel
theorem q147_65 : decode (mB 147) 65 = .ok (.bipush 24, 2) := by decide +kernel
theorem q147_67 : decode (mB 147) 67 = .ok (.if_icmp .ge 30, 3) := by decide +kernel
theorem q147_70 : decode (mB 147) 70 = .ok (.iload 6, 2) := by decide +kernel
theorem q147_72 : decode (mB 147) 72 = .ok (.aload_n 1, 1) := by decide +kernel
theorem q147_73 : decode (mB 147) 73 = .ok (.bipush 40, 2) := by decide +kernel
theorem q147_75 : decode (mB 147) 75 = .ok (.iload 7, 2) := by decide +kernel
theorem q147_77 : decode (mB 147) 77 = .ok (.iconst 4, 1) := by decide +kernel
theorem q147_78 : decode (mB 147) 78 = .ok (.idiv, 1) := by decide +kernel
theorem q147_79 : decode (mB 147) 79 = .ok (.iadd, 1) := by decide +kernel
theorem q147_80 : decode (mB 147) 80 = .ok (.iaload, 1) := by decide +kernel
theorem q147_81 : decode (mB 147) 81 = .ok (.iload 7, 2) := by decide +kernel
theorem q147_83 : decode (mB 147) 83 = .ok (.iconst 4, 1) := by decide +kernel
theorem q147_84 : decode (mB 147) 84 = .ok (.irem, 1) := by decide +kernel
theorem q147_85 : decode (mB 147) 85 = .ok (.ishr, 1) := by decide +kernel
theorem q147_86 : decode (mB 147) 86 = .ok (.iconst 1, 1) := by decide +kernel
theorem q147_87 : decode (mB 147) 87 = .ok (.iand, 1) := by decide +kernel
theorem q147_88 : decode (mB 147) 88 = .ok (.iadd, 1) := by decide +kernel
theorem q147_89 : decode (mB 147) 89 = .ok (.istore 6, 2) := by decide +kernel
theorem q147_91 : decode (mB 147) 91 = .ok (.iinc 7 1, 3) := by decide +kernel
theorem q147_94 : decode (mB 147) 94 = .ok (.goto (-31), 3) := by decide +kernel
theorem q147_97 : decode (mB 147) 97 = .ok (.iload 4, 2) := by decide +kernel
theorem q147_99 : decode (mB 147) 99 = .ok (.ifCond .eq 12, 3) := by decide +kernel
theorem q147_102 : decode (mB 147) 102 = .ok (.aload_n 0, 1) := by decide +kernel
theorem q147_103 : decode (mB 147) 103 = .ok (.iload_n 2, 1) := by decide +kernel
theorem q147_104 : decode (mB 147) 104 = .ok (.iload_n 3, 1) := by decide +kernel
theorem q147_105 : cfW 147 105 207 121 3 = true := by decide +kernel
theorem q147_108 : decode (mB 147) 108 = .ok (.goto 9, 3) := by decide +kernel
theorem q147_111 : decode (mB 147) 111 = .ok (.aload_n 0, 1) := by decide +kernel
theorem q147_112 : decode (mB 147) 112 = .ok (.iload_n 2, 1) := by decide +kernel
theorem q147_113 : decode (mB 147) 113 = .ok (.iload_n 3, 1) := by decide +kernel
theorem q147_114 : cfW 147 114 209 122 3 = true := by decide +kernel
theorem q147_117 : decode (mB 147) 117 = .ok (.iload 5, 2) := by decide +kernel
theorem q147_119 : decode (mB 147) 119 = .ok (.iload 4, 2) := by decide +kernel
theorem q147_121 : decode (mB 147) 121 = .ok (.if_icmp .ne 8, 3) := by decide +kernel
theorem q147_124 : (decide (147 < 152) && decide (decode (mB 147) 124 = .ok (.ldc 20, 2)) && (lks (mD 147)).contains (20, 6, 4294067294, 0)) = true := by decide +kernel
theorem q147_126 : decode (mB 147) 126 = .ok (.goto 5, 3) := by decide +kernel
theorem q147_129 : decode (mB 147) 129 = .ok (.iload 6, 2) := by decide +kernel
theorem q147_131 : decode (mB 147) 131 = .ok (.if_icmp .ne 7, 3) := by decide +kernel
theorem q147_134 : decode (mB 147) 134 = .ok (.iconst 1, 1) := by decide +kernel
theorem q147_135 : decode (mB 147) 135 = .ok (.goto 4, 3) := by decide +kernel
theorem q147_138 : decode (mB 147) 138 = .ok (.iconst 0, 1) := by decide +kernel
theorem q147_139 : decode (mB 147) 139 = .ok (.ireturn, 1) := by decide +kernel
theorem q148_0 : nwB 148 0 10 7 = true := by decide +kernel
theorem q148_3 : decode (mB 148) 3 = .ok (.dup, 1) := by decide +kernel
theorem q148_4 : cfB 148 4 211 71 2 4 0 = true := by decide +kernel
theorem q148_7 : decode (mB 148) 7 = .ok (.astore_n 2, 1) := by decide +kernel
theorem q148_8 : decode (mB 148) 8 = .ok (.iconst 1, 1) := by decide +kernel
theorem q148_9 : decode (mB 148) 9 = .ok (.istore_n 3, 1) := by decide +kernel
theorem q148_10 : decode (mB 148) 10 = .ok (.aload_n 0, 1) := by decide +kernel
theorem q148_11 : decode (mB 148) 11 = .ok (.iconst 0, 1) := by decide +kernel
theorem q148_12 : decode (mB 148) 12 = .ok (.iconst 5, 1) := by decide +kernel
theorem q148_13 : cfB 148 13 110 129 0 4 3 = true := by decide +kernel
theorem q148_16 : decode (mB 148) 16 = .ok (.ifCond .ne 17, 3) := by decide +kernel
theorem q148_19 : decode (mB 148) 19 = .ok (.bipush 20, 2) := by decide +kernel
theorem q148_21 : decode (mB 148) 21 = .ok (.aload_n 0, 1) := by decide +kernel
theorem q148_22 : decode (mB 148) 22 = .ok (.bipush 8, 2) := by decide +kernel
theorem q148_24 : decode (mB 148) 24 = .ok (.bipush 21, 2) := by decide +kernel
theorem q148_26 : cfB 148 26 110 129 0 4 3 = true := by decide +kernel
theorem q148_29 : decode (mB 148) 29 = .ok (.iadd, 1) := by decide +kernel
theorem q148_30 : decode (mB 148) 30 = .ok (.goto 13, 3) := by decide +kernel
theorem q148_33 : decode (mB 148) 33 = .ok (.iconst 4, 1) := by decide +kernel
theorem q148_34 : decode (mB 148) 34 = .ok (.aload_n 0, 1) := by decide +kernel
theorem q148_35 : decode (mB 148) 35 = .ok (.bipush 8, 2) := by decide +kernel
theorem q148_37 : decode (mB 148) 37 = .ok (.bipush 14, 2) := by decide +kernel
theorem q148_39 : cfB 148 39 110 129 0 4 3 = true := by decide +kernel
theorem q148_42 : decode (mB 148) 42 = .ok (.iadd, 1) := by decide +kernel
theorem q148_43 : decode (mB 148) 43 = .ok (.istore 4, 2) := by decide +kernel
theorem q148_45 : decode (mB 148) 45 = .ok (.iload 4, 2) := by decide +kernel
theorem q148_47 : decode (mB 148) 47 = .ok (.ifCond .le 25, 3) := by decide +kernel
theorem q148_50 : decode (mB 148) 50 = .ok (.iload_n 3, 1) := by decide +kernel
theorem q148_51 : decode (mB 148) 51 = .ok (.aload_n 2, 1) := by decide +kernel
theorem q148_52 : decode (mB 148) 52 = .ok (.aload_n 1, 1) := by decide +kernel
theorem q148_53 : decode (mB 148) 53 = .ok (.aload_n 0, 1) := by decide +kernel
theorem q148_54 : decode (mB 148) 54 = .ok (.bipush 10, 2) := by decide +kernel
theorem q148_56 : decode (mB 148) 56 = .ok (.iconst 3, 1) := by decide +kernel
theorem q148_57 : decode (mB 148) 57 = .ok (.iload 4, 2) := by decide +kernel
theorem q148_59 : decode (mB 148) 59 = .ok (.imul, 1) := by decide +kernel
theorem q148_60 : decode (mB 148) 60 = .ok (.iadd, 1) := by decide +kernel
theorem q148_61 : cfB 148 61 203 133 0 4 4 = true := by decide +kernel
theorem q148_64 : decode (mB 148) 64 = .ok (.iand, 1) := by decide +kernel
theorem q148_65 : decode (mB 148) 65 = .ok (.istore_n 3, 1) := by decide +kernel
theorem q148_66 : decode (mB 148) 66 = .ok (.iinc 4 (-1), 3) := by decide +kernel
theorem q148_69 : decode (mB 148) 69 = .ok (.goto (-24), 3) := by decide +kernel
theorem q148_72 : decode (mB 148) 72 = .ok (.iload_n 3, 1) := by decide +kernel
theorem q148_73 : decode (mB 148) 73 = .ok (.ifCond .eq 7, 3) := by decide +kernel
theorem q148_76 : decode (mB 148) 76 = .ok (.aload_n 2, 1) := by decide +kernel
theorem q148_77 : decode (mB 148) 77 = .ok (.goto 4, 3) := by decide +kernel
theorem q148_80 : decode (mB 148) 80 = .ok (.aconst_null, 1) := by decide +kernel
theorem q148_81 : decode (mB 148) 81 = .ok (.areturn, 1) := by decide +kernel
theorem q149_0 : decode (mB 149) 0 = .ok (.iconst 0, 1) := by decide +kernel
theorem q149_1 : decode (mB 149) 1 = .ok (.istore_n 2, 1) := by decide +kernel
theorem q149_2 : decode (mB 149) 2 = .ok (.iload_n 2, 1) := by decide +kernel
theorem q149_3 : decode (mB 149) 3 = .ok (.bipush 6, 2) := by decide +kernel
theorem q149_5 : decode (mB 149) 5 = .ok (.if_icmp .ge 167, 3) := by decide +kernel
theorem q149_8 : decode (mB 149) 8 = .ok (.lconst 0, 1) := by decide +kernel
theorem q149_9 : decode (mB 149) 9 = .ok (.lstore_n 3, 1) := by decide +kernel
theorem q149_10 : decode (mB 149) 10 = .ok (.iconst 0, 1) := by decide +kernel
theorem q149_11 : decode (mB 149) 11 = .ok (.istore 5, 2) := by decide +kernel
theorem q149_13 : decode (mB 149) 13 = .ok (.iload 5, 2) := by decide +kernel
theorem q149_15 : decode (mB 149) 15 = .ok (.aload_n 1, 1) := by decide +kernel
theorem q149_16 : decode (mB 149) 16 = .ok (.iconst 0, 1) := by decide +kernel
theorem q149_17 : decode (mB 149) 17 = .ok (.iaload, 1) := by decide +kernel
theorem q149_18 : decode (mB 149) 18 = .ok (.if_icmp .ge 37, 3) := by decide +kernel
theorem q149_21 : decode (mB 149) 21 = .ok (.lload_n 3, 1) := by decide +kernel
theorem q149_22 : decode (mB 149) 22 = .ok (.aload_n 1, 1) := by decide +kernel
theorem q149_23 : decode (mB 149) 23 = .ok (.iload 5, 2) := by decide +kernel
theorem q149_25 : decode (mB 149) 25 = .ok (.iload_n 2, 1) := by decide +kernel
theorem q149_26 : cfB 149 26 121 131 0 4 3 = true := by decide +kernel
theorem q149_29 : decode (mB 149) 29 = .ok (.sipush (-10000), 3) := by decide +kernel
theorem q149_32 : decode (mB 149) 32 = .ok (.if_icmp .ne 7, 3) := by decide +kernel
theorem q149_35 : decode (mB 149) 35 = .ok (.lconst 0, 1) := by decide +kernel
theorem q149_36 : decode (mB 149) 36 = .ok (.goto 11, 3) := by decide +kernel
theorem q149_39 : decode (mB 149) 39 = .ok (.aload_n 1, 1) := by decide +kernel
theorem q149_40 : decode (mB 149) 40 = .ok (.iload 5, 2) := by decide +kernel
theorem q149_42 : decode (mB 149) 42 = .ok (.iload_n 2, 1) := by decide +kernel
theorem q149_43 : cfB 149 43 121 131 0 4 3 = true := by decide +kernel
theorem q149_46 : decode (mB 149) 46 = .ok (.i2l, 1) := by decide +kernel
theorem q149_47 : decode (mB 149) 47 = .ok (.ladd, 1) := by decide +kernel
theorem q149_48 : decode (mB 149) 48 = .ok (.lstore_n 3, 1) := by decide +kernel
theorem q149_49 : decode (mB 149) 49 = .ok (.iinc 5 1, 3) := by decide +kernel
theorem q149_52 : decode (mB 149) 52 = .ok (.goto (-39), 3) := by decide +kernel
theorem q149_55 : decode (mB 149) 55 = .ok (.aload_n 1, 1) := by decide +kernel
theorem q149_56 : decode (mB 149) 56 = .ok (.iload_n 2, 1) := by decide +kernel
theorem q149_57 : cfB 149 57 124 134 0 4 2 = true := by decide +kernel
theorem q149_60 : decode (mB 149) 60 = .ok (.istore 5, 2) := by decide +kernel
theorem q149_62 : decode (mB 149) 62 = .ok (.aload_n 0, 1) := by decide +kernel
theorem q149_63 : decode (mB 149) 63 = .ok (.iload_n 2, 1) := by decide +kernel
theorem q149_64 : cfW 149 64 212 116 2 = true := by decide +kernel
theorem q149_67 : decode (mB 149) 67 = .ok (.aload_n 1, 1) := by decide +kernel
theorem q149_68 : decode (mB 149) 68 = .ok (.iload_n 2, 1) := by decide +kernel
theorem q149_69 : cfB 149 69 134 136 0 4 2 = true := by decide +kernel
theorem q149_72 : decode (mB 149) 72 = .ok (.if_icmp .ne 56, 3) := by decide +kernel
theorem q149_75 : decode (mB 149) 75 = .ok (.aload_n 0, 1) := by decide +kernel
theorem q149_76 : decode (mB 149) 76 = .ok (.iload_n 2, 1) := by decide +kernel
theorem q149_77 : cfW 149 77 214 112 2 = true := by decide +kernel
theorem q149_80 : decode (mB 149) 80 = .ok (.aload_n 1, 1) := by decide +kernel
theorem q149_81 : decode (mB 149) 81 = .ok (.iload_n 2, 1) := by decide +kernel
theorem q149_82 : cfB 149 82 127 135 0 4 2 = true := by decide +kernel
theorem q149_85 : decode (mB 149) 85 = .ok (.if_icmp .ne 43, 3) := by decide +kernel
theorem q149_88 : decode (mB 149) 88 = .ok (.aload_n 0, 1) := by decide +kernel
theorem q149_89 : decode (mB 149) 89 = .ok (.iload_n 2, 1) := by decide +kernel
theorem q149_90 : cfW 149 90 216 113 2 = true := by decide +kernel
theorem q149_93 : decode (mB 149) 93 = .ok (.lload_n 3, 1) := by decide +kernel
theorem q149_94 : decode (mB 149) 94 = .ok (.lcmp, 1) := by decide +kernel
theorem q149_95 : decode (mB 149) 95 = .ok (.ifCond .ne 33, 3) := by decide +kernel
theorem q149_98 : decode (mB 149) 98 = .ok (.aload_n 0, 1) := by decide +kernel
theorem q149_99 : decode (mB 149) 99 = .ok (.iload_n 2, 1) := by decide +kernel
theorem q149_100 : cfW 149 100 219 114 2 = true := by decide +kernel
theorem q149_103 : decode (mB 149) 103 = .ok (.iload 5, 2) := by decide +kernel
theorem q149_105 : decode (mB 149) 105 = .ok (.ifCond .ne 9, 3) := by decide +kernel
theorem q149_108 : (decide (149 < 152) && decide (decode (mB 149) 108 = .ok (.ldc2_w 48, 3)) && (lks (mD 149)).contains (48, 7, 13919350207260131328, 1)) = true := by decide +kernel
theorem q149_111 : decode (mB 149) 111 = .ok (.goto 9, 3) := by decide +kernel
theorem q149_114 : decode (mB 149) 114 = .ok (.lload_n 3, 1) := by decide +kernel
theorem q149_115 : decode (mB 149) 115 = .ok (.l2d, 1) := by decide +kernel
theorem q149_116 : decode (mB 149) 116 = .ok (.iload 5, 2) := by decide +kernel
theorem q149_118 : decode (mB 149) 118 = .ok (.i2d, 1) := by decide +kernel
theorem q149_119 : decode (mB 149) 119 = .ok (.ddiv, 1) := by decide +kernel
theorem q149_120 : decode (mB 149) 120 = .ok (.dcmp .l, 1) := by decide +kernel
theorem q149_121 : decode (mB 149) 121 = .ok (.ifCond .ne 7, 3) := by decide +kernel
theorem q149_124 : decode (mB 149) 124 = .ok (.iconst 1, 1) := by decide +kernel
theorem q149_125 : decode (mB 149) 125 = .ok (.goto 4, 3) := by decide +kernel
theorem q149_128 : decode (mB 149) 128 = .ok (.iconst 0, 1) := by decide +kernel
theorem q149_129 : decode (mB 149) 129 = .ok (.istore 6, 2) := by decide +kernel
theorem q149_131 : decode (mB 149) 131 = .ok (.iload 6, 2) := by decide +kernel
theorem q149_133 : decode (mB 149) 133 = .ok (.ifCond .eq 31, 3) := by decide +kernel
theorem q149_136 : decode (mB 149) 136 = .ok (.aload_n 0, 1) := by decide +kernel
theorem q149_137 : decode (mB 149) 137 = .ok (.iload_n 2, 1) := by decide +kernel
theorem q149_138 : cfW 149 138 222 115 2 = true := by decide +kernel
theorem q149_141 : decode (mB 149) 141 = .ok (.aload_n 1, 1) := by decide +kernel
theorem q149_142 : decode (mB 149) 142 = .ok (.iconst 0, 1) := by decide +kernel
theorem q149_143 : decode (mB 149) 143 = .ok (.iaload, 1) := by decide +kernel
theorem q149_144 : decode (mB 149) 144 = .ok (.ifCond .ne 8, 3) := by decide +kernel
theorem q149_147 : (decide (149 < 152) && decide (decode (mB 149) 147 = .ok (.ldc 55, 2)) && (lks (mD 149)).contains (55, 6, 3378231840, 1)) = true := by decide +kernel
theorem q149_149 : decode (mB 149) 149 = .ok (.goto 11, 3) := by decide +kernel
theorem q149_152 : decode (mB 149) 152 = .ok (.iload 5, 2) := by decide +kernel
theorem q149_154 : decode (mB 149) 154 = .ok (.i2f, 1) := by decide +kernel
theorem q149_155 : decode (mB 149) 155 = .ok (.aload_n 1, 1) := by decide +kernel
theorem q149_156 : decode (mB 149) 156 = .ok (.iconst 0, 1) := by decide +kernel
theorem q149_157 : decode (mB 149) 157 = .ok (.iaload, 1) := by decide +kernel
theorem q149_158 : decode (mB 149) 158 = .ok (.i2f, 1) := by decide +kernel
theorem q149_159 : decode (mB 149) 159 = .ok (.fdiv, 1) := by decide +kernel
theorem q149_160 : decode (mB 149) 160 = .ok (.fcmp .l, 1) := by decide +kernel
theorem q149_161 : decode (mB 149) 161 = .ok (.ifCond .eq 5, 3) := by decide +kernel
theorem q149_164 : decode (mB 149) 164 = .ok (.iconst 0, 1) := by decide +kernel
theorem q149_165 : decode (mB 149) 165 = .ok (.ireturn, 1) := by decide +kernel
theorem q149_166 : decode (mB 149) 166 = .ok (.iinc 2 1, 3) := by decide +kernel
theorem q149_169 : decode (mB 149) 169 = .ok (.goto (-167), 3) := by decide +kernel
theorem q149_172 : decode (mB 149) 172 = .ok (.aload_n 0, 1) := by decide +kernel
theorem q149_173 : cfB 149 173 199 75 1 4 0 = true := by decide +kernel
theorem q149_176 : decode (mB 149) 176 = .ok (.aload_n 1, 1) := by decide +kernel
theorem q149_177 : decode (mB 149) 177 = .ok (.iconst 0, 1) := by decide +kernel
theorem q149_178 : decode (mB 149) 178 = .ok (.iaload, 1) := by decide +kernel
theorem q149_179 : decode (mB 149) 179 = .ok (.if_icmp .ne 7, 3) := by decide +kernel
theorem q149_182 : decode (mB 149) 182 = .ok (.iconst 1, 1) := by decide +kernel
theorem q149_183 : decode (mB 149) 183 = .ok (.goto 4, 3) := by decide +kernel
theorem q149_186 : decode (mB 149) 186 = .ok (.iconst 0, 1) := by decide +kernel
theorem q149_187 : decode (mB 149) 187 = .ok (.ireturn, 1) := by decide +kernel
theorem q150_0 : decode (mB 150) 0 = .ok (.aload_n 1, 1) := by decide +kernel
theorem q150_1 : cfB 150 1 225 145 0 4 1 = true := by decide +kernel
theorem q150_4 : decode (mB 150) 4 = .ok (.astore_n 2, 1) := by decide +kernel
theorem q150_5 : decode (mB 150) 5 = .ok (.iconst 0, 1) := by decide +kernel
theorem q150_6 : decode (mB 150) 6 = .ok (.istore_n 3, 1) := by decide +kernel
theorem q150_7 : decode (mB 150) 7 = .ok (.iconst 0, 1) := by decide +kernel
theorem q150_8 : decode (mB 150) 8 = .ok (.istore 4, 2) := by decide +kernel
theorem q150_10 : decode (mB 150) 10 = .ok (.iload 4, 2) := by decide +kernel
theorem q150_12 : decode (mB 150) 12 = .ok (.bipush 6, 2) := by decide +kernel
theorem q150_14 : decode (mB 150) 14 = .ok (.if_icmp .ge 27, 3) := by decide +kernel
theorem q150_17 : decode (mB 150) 17 = .ok (.iload_n 3, 1) := by decide +kernel
theorem q150_18 : decode (mB 150) 18 = .ok (.aload_n 1, 1) := by decide +kernel
theorem q150_19 : decode (mB 150) 19 = .ok (.iload 4, 2) := by decide +kernel
theorem q150_21 : cfB 150 21 134 136 0 4 2 = true := by decide +kernel
theorem q150_24 : decode (mB 150) 24 = .ok (.iconst 1, 1) := by decide +kernel
theorem q150_25 : decode (mB 150) 25 = .ok (.if_icmp .le 7, 3) := by decide +kernel
theorem q150_28 : decode (mB 150) 28 = .ok (.iconst 1, 1) := by decide +kernel
theorem q150_29 : decode (mB 150) 29 = .ok (.goto 4, 3) := by decide +kernel
theorem q150_32 : decode (mB 150) 32 = .ok (.iconst 0, 1) := by decide +kernel
theorem q150_33 : decode (mB 150) 33 = .ok (.iadd, 1) := by decide +kernel
theorem q150_34 : decode (mB 150) 34 = .ok (.istore_n 3, 1) := by decide +kernel
theorem q150_35 : decode (mB 150) 35 = .ok (.iinc 4 1, 3) := by decide +kernel
theorem q150_38 : decode (mB 150) 38 = .ok (.goto (-28), 3) := by decide +kernel
theorem q150_41 : decode (mB 150) 41 = .ok (.aload_n 0, 1) := by decide +kernel
theorem q150_42 : cfB 150 42 229 88 1 4 0 = true := by decide +kernel
theorem q150_45 : decode (mB 150) 45 = .ok (.i2l, 1) := by decide +kernel
theorem q150_46 : decode (mB 150) 46 = .ok (.aload_n 2, 1) := by decide +kernel
theorem q150_47 : decode (mB 150) 47 = .ok (.iconst 5, 1) := by decide +kernel
theorem q150_48 : decode (mB 150) 48 = .ok (.laload, 1) := by decide +kernel
theorem q150_49 : decode (mB 150) 49 = .ok (.lcmp, 1) := by decide +kernel
theorem q150_50 : decode (mB 150) 50 = .ok (.ifCond .eq 5, 3) := by decide +kernel
theorem q150_53 : decode (mB 150) 53 = .ok (.iconst 0, 1) := by decide +kernel
theorem q150_54 : decode (mB 150) 54 = .ok (.ireturn, 1) := by decide +kernel
theorem q150_55 : decode (mB 150) 55 = .ok (.iconst 0, 1) := by decide +kernel
theorem q150_56 : decode (mB 150) 56 = .ok (.istore 4, 2) := by decide +kernel
theorem q150_58 : decode (mB 150) 58 = .ok (.iload 4, 2) := by decide +kernel
theorem q150_60 : decode (mB 150) 60 = .ok (.iconst 5, 1) := by decide +kernel
theorem q150_61 : decode (mB 150) 61 = .ok (.if_icmp .gt 243, 3) := by decide +kernel
theorem q150_64 : decode (mB 150) 64 = .ok (.iload 4, 2) := by decide +kernel
theorem q150_66 : decode (mB 150) 66 = .ok (.iconst 5, 1) := by decide +kernel
theorem q150_67 : decode (mB 150) 67 = .ok (.if_icmp .eq 14, 3) := by decide +kernel
theorem q150_70 : decode (mB 150) 70 = .ok (.aload_n 2, 1) := by decide +kernel
theorem q150_71 : decode (mB 150) 71 = .ok (.iload 4, 2) := by decide +kernel
theorem q150_73 : decode (mB 150) 73 = .ok (.laload, 1) := by decide +kernel
theorem q150_74 : (decide (150 < 152) && decide (decode (mB 150) 74 = .ok (.ldc2_w 158, 3)) && (lks (mD 150)).contains (158, 7, 9223372036854775807, 0)) = true := by decide +kernel
theorem q150_77 : decode (mB 150) 77 = .ok (.lcmp, 1) := by decide +kernel
theorem q150_78 : decode (mB 150) 78 = .ok (.ifCond .ne 7, 3) := by decide +kernel
theorem q150_81 : decode (mB 150) 81 = .ok (.iconst 1, 1) := by decide +kernel
theorem q150_82 : decode (mB 150) 82 = .ok (.goto 4, 3) := by decide +kernel
theorem q150_85 : decode (mB 150) 85 = .ok (.iconst 0, 1) := by decide +kernel
theorem q150_86 : decode (mB 150) 86 = .ok (.istore 5, 2) := by decide +kernel
theorem q150_88 : decode (mB 150) 88 = .ok (.iload 5, 2) := by decide +kernel
theorem q150_90 : decode (mB 150) 90 = .ok (.ifCond .eq 8, 3) := by decide +kernel
theorem q150_93 : (decide (150 < 152) && decide (decode (mB 150) 93 = .ok (.ldc 17, 2)) && (lks (mD 150)).contains (17, 6, 4294067295, 0)) = true := by decide +kernel
theorem q150_95 : decode (mB 150) 95 = .ok (.goto 12, 3) := by decide +kernel
theorem q150_98 : decode (mB 150) 98 = .ok (.aload_n 2, 1) := by decide +kernel
theorem q150_99 : decode (mB 150) 99 = .ok (.iload 4, 2) := by decide +kernel
theorem q150_101 : decode (mB 150) 101 = .ok (.laload, 1) := by decide +kernel
theorem q150_102 : (decide (150 < 152) && decide (decode (mB 150) 102 = .ok (.ldc2_w 163, 3)) && (lks (mD 150)).contains (163, 7, 100000, 0)) = true := by decide +kernel
theorem q150_105 : decode (mB 150) 105 = .ok (.ldiv, 1) := by decide +kernel
theorem q150_106 : decode (mB 150) 106 = .ok (.l2i, 1) := by decide +kernel
theorem q150_107 : decode (mB 150) 107 = .ok (.istore 6, 2) := by decide +kernel
theorem q150_109 : decode (mB 150) 109 = .ok (.iload_n 3, 1) := by decide +kernel
theorem q150_110 : decode (mB 150) 110 = .ok (.iconst 3, 1) := by decide +kernel
theorem q150_111 : decode (mB 150) 111 = .ok (.if_icmp .le 8, 3) := by decide +kernel
theorem q150_114 : (decide (150 < 152) && decide (decode (mB 150) 114 = .ok (.ldc 17, 2)) && (lks (mD 150)).contains (17, 6, 4294067295, 0)) = true := by decide +kernel
theorem q150_116 : decode (mB 150) 116 = .ok (.goto 15, 3) := by decide +kernel
theorem q150_119 : decode (mB 150) 119 = .ok (.iload 5, 2) := by decide +kernel
theorem q150_121 : decode (mB 150) 121 = .ok (.ifCond .eq 8, 3) := by decide +kernel
theorem q150_124 : (decide (150 < 152) && decide (decode (mB 150) 124 = .ok (.ldc 20, 2)) && (lks (mD 150)).contains (20, 6, 4294067294, 0)) = true := by decide +kernel
theorem q150_126 : decode (mB 150) 126 = .ok (.goto 5, 3) := by decide +kernel
theorem q150_129 : decode (mB 150) 129 = .ok (.iload 6, 2) := by decide +kernel
theorem q150_131 : decode (mB 150) 131 = .ok (.istore 7, 2) := by decide +kernel
theorem q150_133 : decode (mB 150) 133 = .ok (.iload 5, 2) := by decide +kernel
theorem q150_135 : decode (mB 150) 135 = .ok (.ifCond .eq 7, 3) := by decide +kernel
theorem q150_138 : decode (mB 150) 138 = .ok (.iconst 0, 1) := by decide +kernel
theorem q150_139 : decode (mB 150) 139 = .ok (.goto 12, 3) := by decide +kernel
theorem q150_142 : decode (mB 150) 142 = .ok (.aload_n 2, 1) := by decide +kernel
theorem q150_143 : decode (mB 150) 143 = .ok (.iload 4, 2) := by decide +kernel
theorem q150_145 : decode (mB 150) 145 = .ok (.laload, 1) := by decide +kernel
theorem q150_146 : (decide (150 < 152) && decide (decode (mB 150) 146 = .ok (.ldc2_w 163, 3)) && (lks (mD 150)).contains (163, 7, 100000, 0)) = true := by decide +kernel
theorem q150_149 : decode (mB 150) 149 = .ok (.lrem, 1) := by decide +kernel
theorem q150_150 : decode (mB 150) 150 = .ok (.l2i, 1) := by decide +kernel
theorem q150_151 : cfB 150 151 232 144 0 4 1 = true := by decide +kernel
theorem q150_154 : decode (mB 150) 154 = .ok (.astore 8, 2) := by decide +kernel
theorem q150_156 : decode (mB 150) 156 = .ok (.aload 8, 2) := by decide +kernel
theorem q150_158 : decode (mB 150) 158 = .ok (.iconst 0, 1) := by decide +kernel
theorem q150_159 : decode (mB 150) 159 = .ok (.iaload, 1) := by decide +kernel
theorem q150_160 : decode (mB 150) 160 = .ok (.ifCond .ne 8, 3) := by decide +kernel
theorem q150_163 : decode (mB 150) 163 = .ok (.bipush 98, 2) := by decide +kernel
theorem q150_165 : decode (mB 150) 165 = .ok (.goto 18, 3) := by decide +kernel
theorem q150_168 : decode (mB 150) 168 = .ok (.aload 8, 2) := by decide +kernel
theorem q150_170 : decode (mB 150) 170 = .ok (.iconst 0, 1) := by decide +kernel
theorem q150_171 : decode (mB 150) 171 = .ok (.iaload, 1) := by decide +kernel
theorem q150_172 : decode (mB 150) 172 = .ok (.iconst 1, 1) := by decide +kernel
theorem q150_173 : decode (mB 150) 173 = .ok (.if_icmp .ne 8, 3) := by decide +kernel
theorem q150_176 : decode (mB 150) 176 = .ok (.bipush 108, 2) := by decide +kernel
theorem q150_178 : decode (mB 150) 178 = .ok (.goto 5, 3) := by decide +kernel
theorem q150_181 : decode (mB 150) 181 = .ok (.bipush 112, 2) := by decide +kernel
theorem q150_183 : decode (mB 150) 183 = .ok (.istore 9, 2) := by decide +kernel
theorem q150_185 : decode (mB 150) 185 = .ok (.aload_n 0, 1) := by decide +kernel
theorem q150_186 : decode (mB 150) 186 = .ok (.iload 4, 2) := by decide +kernel
theorem q150_188 : cfW 150 188 236 124 2 = true := by decide +kernel
theorem q150_191 : decode (mB 150) 191 = .ok (.iload 6, 2) := by decide +kernel
theorem q150_193 : decode (mB 150) 193 = .ok (.if_icmp .ne 58, 3) := by decide +kernel
theorem q150_196 : decode (mB 150) 196 = .ok (.aload_n 0, 1) := by decide +kernel
theorem q150_197 : decode (mB 150) 197 = .ok (.iload 4, 2) := by decide +kernel
theorem q150_199 : cfW 150 199 238 125 2 = true := by decide +kernel
theorem q150_202 : decode (mB 150) 202 = .ok (.iload 7, 2) := by decide +kernel
theorem q150_204 : decode (mB 150) 204 = .ok (.if_icmp .ne 47, 3) := by decide +kernel
theorem q150_207 : decode (mB 150) 207 = .ok (.aload_n 0, 1) := by decide +kernel
theorem q150_208 : decode (mB 150) 208 = .ok (.iload 4, 2) := by decide +kernel
theorem q150_210 : cfW 150 210 240 126 2 = true := by decide +kernel
theorem q150_213 : decode (mB 150) 213 = .ok (.iload 5, 2) := by decide +kernel
theorem q150_215 : decode (mB 150) 215 = .ok (.ifCond .eq 8, 3) := by decide +kernel
theorem q150_218 : (decide (150 < 152) && decide (decode (mB 150) 218 = .ok (.ldc 17, 2)) && (lks (mD 150)).contains (17, 6, 4294067295, 0)) = true := by decide +kernel
theorem q150_220 : decode (mB 150) 220 = .ok (.goto 5, 3) := by decide +kernel
theorem q150_223 : decode (mB 150) 223 = .ok (.iload 9, 2) := by decide +kernel
theorem q150_225 : decode (mB 150) 225 = .ok (.if_icmp .ne 26, 3) := by decide +kernel
theorem q150_228 : decode (mB 150) 228 = .ok (.aload_n 0, 1) := by decide +kernel
theorem q150_229 : decode (mB 150) 229 = .ok (.iload 4, 2) := by decide +kernel
theorem q150_231 : cfW 150 231 242 127 2 = true := by decide +kernel
theorem q150_234 : decode (mB 150) 234 = .ok (.iload 5, 2) := by decide +kernel
theorem q150_236 : decode (mB 150) 236 = .ok (.ifCond .eq 8, 3) := by decide +kernel
theorem q150_239 : (decide (150 < 152) && decide (decode (mB 150) 239 = .ok (.ldc 17, 2)) && (lks (mD 150)).contains (17, 6, 4294067295, 0)) = true := by decide +kernel
theorem q150_241 : decode (mB 150) 241 = .ok (.goto 7, 3) := by decide +kernel
theorem q150_244 : decode (mB 150) 244 = .ok (.aload 8, 2) := by decide +kernel
theorem q150_246 : decode (mB 150) 246 = .ok (.iconst 1, 1) := by decide +kernel
theorem q150_247 : decode (mB 150) 247 = .ok (.iaload, 1) := by decide +kernel
theorem q150_248 : decode (mB 150) 248 = .ok (.if_icmp .eq 5, 3) := by decide +kernel
theorem q150_251 : decode (mB 150) 251 = .ok (.iconst 0, 1) := by decide +kernel
theorem q150_252 : decode (mB 150) 252 = .ok (.ireturn, 1) := by decide +kernel
theorem q150_253 : decode (mB 150) 253 = .ok (.iconst 0, 1) := by decide +kernel
theorem q150_254 : decode (mB 150) 254 = .ok (.istore 10, 2) := by decide +kernel
theorem q150_256 : decode (mB 150) 256 = .ok (.iload 10, 2) := by decide +kernel
theorem q150_258 : decode (mB 150) 258 = .ok (.iconst 4, 1) := by decide +kernel
theorem q150_259 : decode (mB 150) 259 = .ok (.if_icmp .ge 39, 3) := by decide +kernel
theorem q150_262 : decode (mB 150) 262 = .ok (.aload_n 0, 1) := by decide +kernel
theorem q150_263 : decode (mB 150) 263 = .ok (.iload 4, 2) := by decide +kernel
theorem q150_265 : decode (mB 150) 265 = .ok (.iload 10, 2) := by decide +kernel
theorem q150_267 : cfW 150 267 244 128 3 = true := by decide +kernel
theorem q150_270 : decode (mB 150) 270 = .ok (.iload 5, 2) := by decide +kernel
theorem q150_272 : decode (mB 150) 272 = .ok (.ifCond .eq 8, 3) := by decide +kernel
theorem q150_275 : (decide (150 < 152) && decide (decode (mB 150) 275 = .ok (.ldc 17, 2)) && (lks (mD 150)).contains (17, 6, 4294067295, 0)) = true := by decide +kernel
theorem q150_277 : decode (mB 150) 277 = .ok (.goto 10, 3) := by decide +kernel
theorem q150_280 : decode (mB 150) 280 = .ok (.aload 8, 2) := by decide +kernel
theorem q150_282 : decode (mB 150) 282 = .ok (.iconst 2, 1) := by decide +kernel
theorem q150_283 : decode (mB 150) 283 = .ok (.iload 10, 2) := by decide +kernel
theorem q150_285 : decode (mB 150) 285 = .ok (.iadd, 1) := by decide +kernel
theorem q150_286 : decode (mB 150) 286 = .ok (.iaload, 1) := by decide +kernel
theorem q150_287 : decode (mB 150) 287 = .ok (.if_icmp .eq 5, 3) := by decide +kernel
theorem q150_290 : decode (mB 150) 290 = .ok (.iconst 0, 1) := by decide +kernel
theorem q150_291 : decode (mB 150) 291 = .ok (.ireturn, 1) := by decide +kernel
theorem q150_292 : decode (mB 150) 292 = .ok (.iinc 10 1, 3) := by decide +kernel
theorem q150_295 : decode (mB 150) 295 = .ok (.goto (-39), 3) := by decide +kernel
theorem q150_298 : decode (mB 150) 298 = .ok (.iinc 4 1, 3) := by decide +kernel
theorem q150_301 : decode (mB 150) 301 = .ok (.goto (-243), 3) := by decide +kernel
theorem q150_304 : decode (mB 150) 304 = .ok (.iconst 1, 1) := by decide +kernel
theorem q150_305 : decode (mB 150) 305 = .ok (.ireturn, 1) := by decide +kernel
theorem q151_0 : cfB 151 0 246 130 0 4 0 = true := by decide +kernel
theorem q151_3 : decode (mB 151) 3 = .ok (.astore_n 1, 1) := by decide +kernel
theorem q151_4 : decode (mB 151) 4 = .ok (.aload_n 0, 1) := by decide +kernel
theorem q151_5 : decode (mB 151) 5 = .ok (.aload_n 1, 1) := by decide +kernel
theorem q151_6 : cfB 151 6 250 148 0 4 2 = true := by decide +kernel
theorem q151_9 : decode (mB 151) 9 = .ok (.astore_n 2, 1) := by decide +kernel
theorem q151_10 : decode (mB 151) 10 = .ok (.aload_n 2, 1) := by decide +kernel
theorem q151_11 : decode (mB 151) 11 = .ok (.ifnull 38, 3) := by decide +kernel
theorem q151_14 : nwB 151 14 10 7 = true := by decide +kernel
theorem q151_17 : decode (mB 151) 17 = .ok (.dup, 1) := by decide +kernel
theorem q151_18 : cfB 151 18 211 71 2 4 0 = true := by decide +kernel
theorem q151_21 : decode (mB 151) 21 = .ok (.iconst 0, 1) := by decide +kernel
theorem q151_22 : cfW 151 22 219 114 2 = true := by decide +kernel
theorem q151_25 : (decide (151 < 152) && decide (decode (mB 151) 25 = .ok (.ldc2_w 48, 3)) && (lks (mD 151)).contains (48, 7, 13919350207260131328, 1)) = true := by decide +kernel
theorem q151_28 : decode (mB 151) 28 = .ok (.dcmp .l, 1) := by decide +kernel
theorem q151_29 : decode (mB 151) 29 = .ok (.ifCond .ne 20, 3) := by decide +kernel
theorem q151_32 : nwB 151 32 10 7 = true := by decide +kernel
theorem q151_35 : decode (mB 151) 35 = .ok (.dup, 1) := by decide +kernel
theorem q151_36 : cfB 151 36 211 71 2 4 0 = true := by decide +kernel
theorem q151_39 : decode (mB 151) 39 = .ok (.iconst 0, 1) := by decide +kernel
theorem q151_40 : cfW 151 40 222 115 2 = true := by decide +kernel
theorem q151_43 : (decide (151 < 152) && decide (decode (mB 151) 43 = .ok (.ldc 55, 2)) && (lks (mD 151)).contains (55, 6, 3378231840, 1)) = true := by decide +kernel
theorem q151_45 : decode (mB 151) 45 = .ok (.fcmp .l, 1) := by decide +kernel
theorem q151_46 : decode (mB 151) 46 = .ok (.ifCond .eq 5, 3) := by decide +kernel
theorem q151_49 : decode (mB 151) 49 = .ok (.iconst 0, 1) := by decide +kernel
theorem q151_50 : decode (mB 151) 50 = .ok (.ireturn, 1) := by decide +kernel
theorem q151_51 : decode (mB 151) 51 = .ok (.iconst 0, 1) := by decide +kernel
theorem q151_52 : decode (mB 151) 52 = .ok (.istore_n 3, 1) := by decide +kernel
theorem q151_53 : decode (mB 151) 53 = .ok (.iload_n 3, 1) := by decide +kernel
theorem q151_54 : decode (mB 151) 54 = .ok (.bipush 16, 2) := by decide +kernel
theorem q151_56 : decode (mB 151) 56 = .ok (.if_icmp .ge 55, 3) := by decide +kernel
theorem q151_59 : decode (mB 151) 59 = .ok (.sipush 140, 3) := by decide +kernel
theorem q151_62 : decode (mB 151) 62 = .ok (.bipush 14, 2) := by decide +kernel
theorem q151_64 : decode (mB 151) 64 = .ok (.iload_n 3, 1) := by decide +kernel
theorem q151_65 : decode (mB 151) 65 = .ok (.imul, 1) := by decide +kernel
theorem q151_66 : decode (mB 151) 66 = .ok (.iadd, 1) := by decide +kernel
theorem q151_67 : decode (mB 151) 67 = .ok (.istore 4, 2) := by decide +kernel
theorem q151_69 : decode (mB 151) 69 = .ok (.aload_n 2, 1) := by decide +kernel
theorem q151_70 : decode (mB 151) 70 = .ok (.aload_n 1, 1) := by decide +kernel
theorem q151_71 : decode (mB 151) 71 = .ok (.aload_n 0, 1) := by decide +kernel
theorem q151_72 : decode (mB 151) 72 = .ok (.iload 4, 2) := by decide +kernel
theorem q151_74 : cfB 151 74 253 146 0 4 4 = true := by decide +kernel
theorem q151_77 : decode (mB 151) 77 = .ok (.ifCond .eq 26, 3) := by decide +kernel
theorem q151_80 : decode (mB 151) 80 = .ok (.aload_n 2, 1) := by decide +kernel
theorem q151_81 : decode (mB 151) 81 = .ok (.aload_n 1, 1) := by decide +kernel
theorem q151_82 : cfB 151 82 256 149 0 4 2 = true := by decide +kernel
theorem q151_85 : decode (mB 151) 85 = .ok (.ifCond .eq 18, 3) := by decide +kernel
theorem q151_88 : decode (mB 151) 88 = .ok (.iload_n 3, 1) := by decide +kernel
theorem q151_89 : decode (mB 151) 89 = .ok (.iconst 5, 1) := by decide +kernel
theorem q151_90 : decode (mB 151) 90 = .ok (.irem, 1) := by decide +kernel
theorem q151_91 : decode (mB 151) 91 = .ok (.iconst 4, 1) := by decide +kernel
theorem q151_92 : decode (mB 151) 92 = .ok (.if_icmp .ne 13, 3) := by decide +kernel
theorem q151_95 : decode (mB 151) 95 = .ok (.aload_n 2, 1) := by decide +kernel
theorem q151_96 : decode (mB 151) 96 = .ok (.aload_n 1, 1) := by decide +kernel
theorem q151_97 : cfB 151 97 260 150 0 4 2 = true := by decide +kernel
theorem q151_100 : decode (mB 151) 100 = .ok (.ifCond .ne 5, 3) := by decide +kernel
theorem q151_103 : decode (mB 151) 103 = .ok (.iconst 0, 1) := by decide +kernel
theorem q151_104 : decode (mB 151) 104 = .ok (.ireturn, 1) := by decide +kernel
theorem q151_105 : decode (mB 151) 105 = .ok (.iinc 3 1, 3) := by decide +kernel
theorem q151_108 : decode (mB 151) 108 = .ok (.goto (-55), 3) := by decide +kernel
theorem q151_111 : decode (mB 151) 111 = .ok (.aload_n 2, 1) := by decide +kernel
theorem q151_112 : decode (mB 151) 112 = .ok (.sipush 10000, 3) := by decide +kernel
theorem q151_115 : decode (mB 151) 115 = .ok (.iconst 0, 1) := by decide +kernel
theorem q151_116 : decode (mB 151) 116 = .ok (.iconst 0, 1) := by decide +kernel
theorem q151_117 : decode (mB 151) 117 = .ok (.iconst 0, 1) := by decide +kernel
theorem q151_118 : decode (mB 151) 118 = .ok (.iconst 0, 1) := by decide +kernel
theorem q151_119 : decode (mB 151) 119 = .ok (.iconst 0, 1) := by decide +kernel
theorem q151_120 : cfW 151 120 118 109 7 = true := by decide +kernel
theorem q151_123 : (decide (151 < 152) && decide (decode (mB 151) 123 = .ok (.ldc 17, 2)) && (lks (mD 151)).contains (17, 6, 4294067295, 0)) = true := by decide +kernel
theorem q151_125 : decode (mB 151) 125 = .ok (.if_icmp .ne 120, 3) := by decide +kernel
theorem q151_128 : decode (mB 151) 128 = .ok (.aload_n 2, 1) := by decide +kernel
theorem q151_129 : decode (mB 151) 129 = .ok (.iconst 0, 1) := by decide +kernel
theorem q151_130 : decode (mB 151) 130 = .ok (.iconst 0, 1) := by decide +kernel
theorem q151_131 : decode (mB 151) 131 = .ok (.iconst 0, 1) := by decide +kernel
theorem q151_132 : decode (mB 151) 132 = .ok (.iconst 0, 1) := by decide +kernel
theorem q151_133 : decode (mB 151) 133 = .ok (.iconst 0, 1) := by decide +kernel
theorem q151_134 : decode (mB 151) 134 = .ok (.sipush (-10001), 3) := by decide +kernel
theorem q151_137 : cfW 151 137 118 109 7 = true := by decide +kernel
theorem q151_140 : (decide (151 < 152) && decide (decode (mB 151) 140 = .ok (.ldc 17, 2)) && (lks (mD 151)).contains (17, 6, 4294067295, 0)) = true := by decide +kernel
theorem q151_142 : decode (mB 151) 142 = .ok (.if_icmp .ne 103, 3) := by decide +kernel
theorem q151_145 : decode (mB 151) 145 = .ok (.aload_n 2, 1) := by decide +kernel
theorem q151_146 : decode (mB 151) 146 = .ok (.aload_n 1, 1) := by decide +kernel
theorem q151_147 : decode (mB 151) 147 = .ok (.iconst 0, 1) := by decide +kernel
theorem q151_148 : decode (mB 151) 148 = .ok (.iaload, 1) := by decide +kernel
theorem q151_149 : cfW 151 149 194 110 2 = true := by decide +kernel
theorem q151_152 : (decide (151 < 152) && decide (decode (mB 151) 152 = .ok (.ldc 17, 2)) && (lks (mD 151)).contains (17, 6, 4294067295, 0)) = true := by decide +kernel
theorem q151_154 : decode (mB 151) 154 = .ok (.if_icmp .ne 91, 3) := by decide +kernel
theorem q151_157 : decode (mB 151) 157 = .ok (.aload_n 2, 1) := by decide +kernel
theorem q151_158 : decode (mB 151) 158 = .ok (.iconst (-1), 1) := by decide +kernel
theorem q151_159 : decode (mB 151) 159 = .ok (.iconst 0, 1) := by decide +kernel
theorem q151_160 : decode (mB 151) 160 = .ok (.iconst 0, 1) := by decide +kernel
theorem q151_161 : cfW 151 161 196 111 4 = true := by decide +kernel
theorem q151_164 : (decide (151 < 152) && decide (decode (mB 151) 164 = .ok (.ldc 17, 2)) && (lks (mD 151)).contains (17, 6, 4294067295, 0)) = true := by decide +kernel
theorem q151_166 : decode (mB 151) 166 = .ok (.if_icmp .ne 79, 3) := by decide +kernel
theorem q151_169 : decode (mB 151) 169 = .ok (.aload_n 2, 1) := by decide +kernel
theorem q151_170 : decode (mB 151) 170 = .ok (.aload_n 1, 1) := by decide +kernel
theorem q151_171 : decode (mB 151) 171 = .ok (.iconst 0, 1) := by decide +kernel
theorem q151_172 : decode (mB 151) 172 = .ok (.iaload, 1) := by decide +kernel
theorem q151_173 : decode (mB 151) 173 = .ok (.iconst 0, 1) := by decide +kernel
theorem q151_174 : decode (mB 151) 174 = .ok (.iconst 0, 1) := by decide +kernel
theorem q151_175 : cfW 151 175 196 111 4 = true := by decide +kernel
theorem q151_178 : (decide (151 < 152) && decide (decode (mB 151) 178 = .ok (.ldc 17, 2)) && (lks (mD 151)).contains (17, 6, 4294067295, 0)) = true := by decide +kernel
theorem q151_180 : decode (mB 151) 180 = .ok (.if_icmp .ne 65, 3) := by decide +kernel
theorem q151_183 : decode (mB 151) 183 = .ok (.aload_n 2, 1) := by decide +kernel
theorem q151_184 : decode (mB 151) 184 = .ok (.bipush 6, 2) := by decide +kernel
theorem q151_186 : cfW 151 186 214 112 2 = true := by decide +kernel
theorem q151_189 : (decide (151 < 152) && decide (decode (mB 151) 189 = .ok (.ldc 17, 2)) && (lks (mD 151)).contains (17, 6, 4294067295, 0)) = true := by decide +kernel
theorem q151_191 : decode (mB 151) 191 = .ok (.if_icmp .ne 54, 3) := by decide +kernel
theorem q151_194 : decode (mB 151) 194 = .ok (.aload_n 2, 1) := by decide +kernel
theorem q151_195 : decode (mB 151) 195 = .ok (.iconst (-1), 1) := by decide +kernel
theorem q151_196 : cfW 151 196 216 113 2 = true := by decide +kernel
theorem q151_199 : (decide (151 < 152) && decide (decode (mB 151) 199 = .ok (.ldc2_w 38, 3)) && (lks (mD 151)).contains (38, 7, 18446744073708651615, 0)) = true := by decide +kernel
theorem q151_202 : decode (mB 151) 202 = .ok (.lcmp, 1) := by decide +kernel
theorem q151_203 : decode (mB 151) 203 = .ok (.ifCond .ne 42, 3) := by decide +kernel
theorem q151_206 : decode (mB 151) 206 = .ok (.aload_n 2, 1) := by decide +kernel
theorem q151_207 : decode (mB 151) 207 = .ok (.bipush 6, 2) := by decide +kernel
theorem q151_209 : cfW 151 209 219 114 2 = true := by decide +kernel
theorem q151_212 : (decide (151 < 152) && decide (decode (mB 151) 212 = .ok (.ldc2_w 44, 3)) && (lks (mD 151)).contains (44, 7, 13919350198670196736, 1)) = true := by decide +kernel
theorem q151_215 : decode (mB 151) 215 = .ok (.dcmp .l, 1) := by decide +kernel
theorem q151_216 : decode (mB 151) 216 = .ok (.ifCond .ne 29, 3) := by decide +kernel
theorem q151_219 : decode (mB 151) 219 = .ok (.aload_n 2, 1) := by decide +kernel
theorem q151_220 : decode (mB 151) 220 = .ok (.iconst (-1), 1) := by decide +kernel
theorem q151_221 : cfW 151 221 222 115 2 = true := by decide +kernel
theorem q151_224 : (decide (151 < 152) && decide (decode (mB 151) 224 = .ok (.ldc 54, 2)) && (lks (mD 151)).contains (54, 6, 3378231824, 1)) = true := by decide +kernel
theorem q151_226 : decode (mB 151) 226 = .ok (.fcmp .l, 1) := by decide +kernel
theorem q151_227 : decode (mB 151) 227 = .ok (.ifCond .ne 18, 3) := by decide +kernel
theorem q151_230 : decode (mB 151) 230 = .ok (.aload_n 2, 1) := by decide +kernel
theorem q151_231 : decode (mB 151) 231 = .ok (.bipush 6, 2) := by decide +kernel
theorem q151_233 : cfW 151 233 212 116 2 = true := by decide +kernel
theorem q151_236 : (decide (151 < 152) && decide (decode (mB 151) 236 = .ok (.ldc 17, 2)) && (lks (mD 151)).contains (17, 6, 4294067295, 0)) = true := by decide +kernel
theorem q151_238 : decode (mB 151) 238 = .ok (.if_icmp .ne 7, 3) := by decide +kernel
theorem q151_241 : decode (mB 151) 241 = .ok (.iconst 1, 1) := by decide +kernel
theorem q151_242 : decode (mB 151) 242 = .ok (.goto 4, 3) := by decide +kernel
theorem q151_245 : decode (mB 151) 245 = .ok (.iconst 0, 1) := by decide +kernel
theorem q151_246 : decode (mB 151) 246 = .ok (.istore_n 3, 1) := by decide +kernel
theorem q151_247 : decode (mB 151) 247 = .ok (.iload_n 3, 1) := by decide +kernel
theorem q151_248 : decode (mB 151) 248 = .ok (.ifCond .eq 149, 3) := by decide +kernel
theorem q151_251 : decode (mB 151) 251 = .ok (.aload_n 2, 1) := by decide +kernel
theorem q151_252 : decode (mB 151) 252 = .ok (.bipush 6, 2) := by decide +kernel
theorem q151_254 : decode (mB 151) 254 = .ok (.iconst 2, 1) := by decide +kernel
theorem q151_255 : cfW 151 255 176 117 3 = true := by decide +kernel
theorem q151_258 : (decide (151 < 152) && decide (decode (mB 151) 258 = .ok (.ldc 17, 2)) && (lks (mD 151)).contains (17, 6, 4294067295, 0)) = true := by decide +kernel
theorem q151_260 : decode (mB 151) 260 = .ok (.if_icmp .ne 137, 3) := by decide +kernel
theorem q151_263 : decode (mB 151) 263 = .ok (.aload_n 2, 1) := by decide +kernel
theorem q151_264 : decode (mB 151) 264 = .ok (.iconst 0, 1) := by decide +kernel
theorem q151_265 : decode (mB 151) 265 = .ok (.iconst 1, 1) := by decide +kernel
theorem q151_266 : cfW 151 266 176 117 3 = true := by decide +kernel
theorem q151_269 : (decide (151 < 152) && decide (decode (mB 151) 269 = .ok (.ldc 20, 2)) && (lks (mD 151)).contains (20, 6, 4294067294, 0)) = true := by decide +kernel
theorem q151_271 : decode (mB 151) 271 = .ok (.if_icmp .ne 126, 3) := by decide +kernel
theorem q151_274 : decode (mB 151) 274 = .ok (.aload_n 2, 1) := by decide +kernel
theorem q151_275 : decode (mB 151) 275 = .ok (.iconst 0, 1) := by decide +kernel
theorem q151_276 : decode (mB 151) 276 = .ok (.iconst 5, 1) := by decide +kernel
theorem q151_277 : cfW 151 277 176 117 3 = true := by decide +kernel
theorem q151_280 : (decide (151 < 152) && decide (decode (mB 151) 280 = .ok (.ldc 20, 2)) && (lks (mD 151)).contains (20, 6, 4294067294, 0)) = true := by decide +kernel
theorem q151_282 : decode (mB 151) 282 = .ok (.if_icmp .ne 115, 3) := by decide +kernel
theorem q151_285 : decode (mB 151) 285 = .ok (.aload_n 2, 1) := by decide +kernel
theorem q151_286 : decode (mB 151) 286 = .ok (.iconst (-1), 1) := by decide +kernel
theorem q151_287 : cfW 151 287 179 118 2 = true := by decide +kernel
theorem q151_290 : (decide (151 < 152) && decide (decode (mB 151) 290 = .ok (.ldc 17, 2)) && (lks (mD 151)).contains (17, 6, 4294067295, 0)) = true := by decide +kernel
theorem q151_292 : decode (mB 151) 292 = .ok (.if_icmp .ne 105, 3) := by decide +kernel
theorem q151_295 : decode (mB 151) 295 = .ok (.aload_n 2, 1) := by decide +kernel
theorem q151_296 : decode (mB 151) 296 = .ok (.bipush 6, 2) := by decide +kernel
theorem q151_298 : decode (mB 151) 298 = .ok (.iconst 1, 1) := by decide +kernel
theorem q151_299 : cfW 151 299 182 119 3 = true := by decide +kernel
theorem q151_302 : (decide (151 < 152) && decide (decode (mB 151) 302 = .ok (.ldc 17, 2)) && (lks (mD 151)).contains (17, 6, 4294067295, 0)) = true := by decide +kernel
theorem q151_304 : decode (mB 151) 304 = .ok (.if_icmp .ne 93, 3) := by decide +kernel
theorem q151_307 : decode (mB 151) 307 = .ok (.aload_n 2, 1) := by decide +kernel
theorem q151_308 : decode (mB 151) 308 = .ok (.bipush 113, 2) := by decide +kernel
theorem q151_310 : cfW 151 310 185 120 2 = true := by decide +kernel
theorem q151_313 : (decide (151 < 152) && decide (decode (mB 151) 313 = .ok (.ldc 17, 2)) && (lks (mD 151)).contains (17, 6, 4294067295, 0)) = true := by decide +kernel
theorem q151_315 : decode (mB 151) 315 = .ok (.if_icmp .ne 82, 3) := by decide +kernel
theorem q151_318 : decode (mB 151) 318 = .ok (.aload_n 2, 1) := by decide +kernel
theorem q151_319 : decode (mB 151) 319 = .ok (.iconst 0, 1) := by decide +kernel
theorem q151_320 : decode (mB 151) 320 = .ok (.iconst 4, 1) := by decide +kernel
theorem q151_321 : cfW 151 321 207 121 3 = true := by decide +kernel
theorem q151_324 : (decide (151 < 152) && decide (decode (mB 151) 324 = .ok (.ldc 17, 2)) && (lks (mD 151)).contains (17, 6, 4294067295, 0)) = true := by decide +kernel
theorem q151_326 : decode (mB 151) 326 = .ok (.if_icmp .ne 71, 3) := by decide +kernel
theorem q151_329 : decode (mB 151) 329 = .ok (.aload_n 2, 1) := by decide +kernel
theorem q151_330 : decode (mB 151) 330 = .ok (.iconst (-1), 1) := by decide +kernel
theorem q151_331 : decode (mB 151) 331 = .ok (.iconst 0, 1) := by decide +kernel
theorem q151_332 : cfW 151 332 209 122 3 = true := by decide +kernel
theorem q151_335 : (decide (151 < 152) && decide (decode (mB 151) 335 = .ok (.ldc 17, 2)) && (lks (mD 151)).contains (17, 6, 4294067295, 0)) = true := by decide +kernel
theorem q151_337 : decode (mB 151) 337 = .ok (.if_icmp .ne 60, 3) := by decide +kernel
theorem q151_340 : decode (mB 151) 340 = .ok (.aload_n 2, 1) := by decide +kernel
theorem q151_341 : decode (mB 151) 341 = .ok (.bipush 8, 2) := by decide +kernel
theorem q151_343 : decode (mB 151) 343 = .ok (.iconst 0, 1) := by decide +kernel
theorem q151_344 : cfW 151 344 192 123 3 = true := by decide +kernel
theorem q151_347 : (decide (151 < 152) && decide (decode (mB 151) 347 = .ok (.ldc 17, 2)) && (lks (mD 151)).contains (17, 6, 4294067295, 0)) = true := by decide +kernel
theorem q151_349 : decode (mB 151) 349 = .ok (.if_icmp .ne 48, 3) := by decide +kernel
theorem q151_352 : decode (mB 151) 352 = .ok (.aload_n 2, 1) := by decide +kernel
theorem q151_353 : decode (mB 151) 353 = .ok (.iconst 0, 1) := by decide +kernel
theorem q151_354 : decode (mB 151) 354 = .ok (.bipush 100, 2) := by decide +kernel
theorem q151_356 : cfW 151 356 192 123 3 = true := by decide +kernel
theorem q151_359 : (decide (151 < 152) && decide (decode (mB 151) 359 = .ok (.ldc 20, 2)) && (lks (mD 151)).contains (20, 6, 4294067294, 0)) = true := by decide +kernel
theorem q151_361 : decode (mB 151) 361 = .ok (.if_icmp .ne 36, 3) := by decide +kernel
theorem q151_364 : decode (mB 151) 364 = .ok (.aload_n 2, 1) := by decide +kernel
theorem q151_365 : decode (mB 151) 365 = .ok (.iconst (-1), 1) := by decide +kernel
theorem q151_366 : cfW 151 366 236 124 2 = true := by decide +kernel
theorem q151_369 : (decide (151 < 152) && decide (decode (mB 151) 369 = .ok (.ldc 17, 2)) && (lks (mD 151)).contains (17, 6, 4294067295, 0)) = true := by decide +kernel
theorem q151_371 : decode (mB 151) 371 = .ok (.if_icmp .ne 26, 3) := by decide +kernel
theorem q151_374 : decode (mB 151) 374 = .ok (.aload_n 2, 1) := by decide +kernel
theorem q151_375 : decode (mB 151) 375 = .ok (.iconst (-1), 1) := by decide +kernel
theorem q151_376 : decode (mB 151) 376 = .ok (.bipush 9, 2) := by decide +kernel
theorem q151_378 : cfW 151 378 244 128 3 = true := by decide +kernel
theorem q151_381 : (decide (151 < 152) && decide (decode (mB 151) 381 = .ok (.ldc 17, 2)) && (lks (mD 151)).contains (17, 6, 4294067295, 0)) = true := by decide +kernel
theorem q151_383 : decode (mB 151) 383 = .ok (.if_icmp .ne 14, 3) := by decide +kernel
theorem q151_386 : decode (mB 151) 386 = .ok (.aload_n 2, 1) := by decide +kernel
theorem q151_387 : cfB 151 387 263 94 1 4 0 = true := by decide +kernel
theorem q151_390 : decode (mB 151) 390 = .ok (.ifCond .eq 7, 3) := by decide +kernel
theorem q151_393 : decode (mB 151) 393 = .ok (.iconst 1, 1) := by decide +kernel
theorem q151_394 : decode (mB 151) 394 = .ok (.goto 4, 3) := by decide +kernel
theorem q151_397 : decode (mB 151) 397 = .ok (.iconst 0, 1) := by decide +kernel
theorem q151_398 : decode (mB 151) 398 = .ok (.ireturn, 1) := by decide +kernel
