/-! what each instruction is, method by method (by program) -/

theorem q170_0 : decode (mB 170) 0 = .ok (.aload_n 0, 1) := by decide +kernel
theorem q170_1 : decode (mB 170) 1 = .ok (.aload_n 1, 1) := by decide +kernel
theorem q170_2 : decode (mB 170) 2 = .ok (.iconst 0, 1) := by decide +kernel
theorem q170_3 : cfB 170 3 112 165 1 4 2 = true := by decide +kernel
theorem q170_6 : decode (mB 170) 6 = .ok (.istore_n 2, 1) := by decide +kernel
theorem q170_7 : decode (mB 170) 7 = .ok (.aload_n 0, 1) := by decide +kernel
theorem q170_8 : decode (mB 170) 8 = .ok (.aload_n 1, 1) := by decide +kernel
theorem q170_9 : decode (mB 170) 9 = .ok (.iconst 1, 1) := by decide +kernel
theorem q170_10 : cfB 170 10 112 165 1 4 2 = true := by decide +kernel
theorem q170_13 : decode (mB 170) 13 = .ok (.istore_n 3, 1) := by decide +kernel
theorem q170_14 : decode (mB 170) 14 = .ok (.aload_n 0, 1) := by decide +kernel
theorem q170_15 : decode (mB 170) 15 = .ok (.aload_n 1, 1) := by decide +kernel
theorem q170_16 : decode (mB 170) 16 = .ok (.iconst 2, 1) := by decide +kernel
theorem q170_17 : cfB 170 17 112 165 1 4 2 = true := by decide +kernel
theorem q170_20 : decode (mB 170) 20 = .ok (.istore 4, 2) := by decide +kernel
theorem q170_22 : decode (mB 170) 22 = .ok (.aload_n 0, 1) := by decide +kernel
theorem q170_23 : decode (mB 170) 23 = .ok (.aload_n 1, 1) := by decide +kernel
theorem q170_24 : cfB 170 24 120 169 1 4 1 = true := by decide +kernel
theorem q170_27 : decode (mB 170) 27 = .ok (.iconst 5, 1) := by decide +kernel
theorem q170_28 : decode (mB 170) 28 = .ok (.idiv, 1) := by decide +kernel
theorem q170_29 : decode (mB 170) 29 = .ok (.istore 5, 2) := by decide +kernel
theorem q170_31 : decode (mB 170) 31 = .ok (.iload 5, 2) := by decide +kernel
theorem q170_33 : decode (mB 170) 33 = .ok (.iload_n 2, 1) := by decide +kernel
theorem q170_34 : decode (mB 170) 34 = .ok (.iconst 3, 1) := by decide +kernel
theorem q170_35 : decode (mB 170) 35 = .ok (.if_icmp .eq 8, 3) := by decide +kernel
theorem q170_38 : decode (mB 170) 38 = .ok (.iload_n 2, 1) := by decide +kernel
theorem q170_39 : decode (mB 170) 39 = .ok (.iconst 4, 1) := by decide +kernel
theorem q170_40 : decode (mB 170) 40 = .ok (.if_icmp .ne 7, 3) := by decide +kernel
theorem q170_43 : decode (mB 170) 43 = .ok (.iconst 1, 1) := by decide +kernel
theorem q170_44 : decode (mB 170) 44 = .ok (.goto 4, 3) := by decide +kernel
theorem q170_47 : decode (mB 170) 47 = .ok (.iconst 0, 1) := by decide +kernel
theorem q170_48 : decode (mB 170) 48 = .ok (.iadd, 1) := by decide +kernel
theorem q170_49 : decode (mB 170) 49 = .ok (.istore 5, 2) := by decide +kernel
theorem q170_51 : decode (mB 170) 51 = .ok (.iload 5, 2) := by decide +kernel
theorem q170_53 : decode (mB 170) 53 = .ok (.iload_n 3, 1) := by decide +kernel
theorem q170_54 : decode (mB 170) 54 = .ok (.iconst 2, 1) := by decide +kernel
theorem q170_55 : decode (mB 170) 55 = .ok (.if_icmp .eq 8, 3) := by decide +kernel
theorem q170_58 : decode (mB 170) 58 = .ok (.iload_n 3, 1) := by decide +kernel
theorem q170_59 : decode (mB 170) 59 = .ok (.iconst 3, 1) := by decide +kernel
theorem q170_60 : decode (mB 170) 60 = .ok (.if_icmp .ne 7, 3) := by decide +kernel
theorem q170_63 : decode (mB 170) 63 = .ok (.iconst 2, 1) := by decide +kernel
theorem q170_64 : decode (mB 170) 64 = .ok (.goto 4, 3) := by decide +kernel
theorem q170_67 : decode (mB 170) 67 = .ok (.iconst 0, 1) := by decide +kernel
theorem q170_68 : decode (mB 170) 68 = .ok (.iadd, 1) := by decide +kernel
theorem q170_69 : decode (mB 170) 69 = .ok (.istore 5, 2) := by decide +kernel
theorem q170_71 : decode (mB 170) 71 = .ok (.iload 5, 2) := by decide +kernel
theorem q170_73 : decode (mB 170) 73 = .ok (.iload 4, 2) := by decide +kernel
theorem q170_75 : decode (mB 170) 75 = .ok (.iconst 2, 1) := by decide +kernel
theorem q170_76 : decode (mB 170) 76 = .ok (.if_icmp .ne 8, 3) := by decide +kernel
theorem q170_79 : decode (mB 170) 79 = .ok (.bipush 6, 2) := by decide +kernel
theorem q170_81 : decode (mB 170) 81 = .ok (.goto 24, 3) := by decide +kernel
theorem q170_84 : decode (mB 170) 84 = .ok (.iload 4, 2) := by decide +kernel
theorem q170_86 : decode (mB 170) 86 = .ok (.iconst 3, 1) := by decide +kernel
theorem q170_87 : decode (mB 170) 87 = .ok (.if_icmp .ne 7, 3) := by decide +kernel
theorem q170_90 : decode (mB 170) 90 = .ok (.iconst 2, 1) := by decide +kernel
theorem q170_91 : decode (mB 170) 91 = .ok (.goto 14, 3) := by decide +kernel
theorem q170_94 : decode (mB 170) 94 = .ok (.iload 4, 2) := by decide +kernel
theorem q170_96 : decode (mB 170) 96 = .ok (.iconst 4, 1) := by decide +kernel
theorem q170_97 : decode (mB 170) 97 = .ok (.if_icmp .ne 7, 3) := by decide +kernel
theorem q170_100 : decode (mB 170) 100 = .ok (.iconst 4, 1) := by decide +kernel
theorem q170_101 : decode (mB 170) 101 = .ok (.goto 4, 3) := by decide +kernel
theorem q170_104 : decode (mB 170) 104 = .ok (.iconst 0, 1) := by decide +kernel
theorem q170_105 : decode (mB 170) 105 = .ok (.iadd, 1) := by decide +kernel
theorem q170_106 : decode (mB 170) 106 = .ok (.istore 5, 2) := by decide +kernel
theorem q170_108 : decode (mB 170) 108 = .ok (.iload 5, 2) := by decide +kernel
theorem q170_110 : decode (mB 170) 110 = .ok (.aload_n 0, 1) := by decide +kernel
theorem q170_111 : decode (mB 170) 111 = .ok (.aload_n 1, 1) := by decide +kernel
theorem q170_112 : decode (mB 170) 112 = .ok (.iconst 3, 1) := by decide +kernel
theorem q170_113 : cfB 170 113 112 165 1 4 2 = true := by decide +kernel
theorem q170_116 : decode (mB 170) 116 = .ok (.iconst 4, 1) := by decide +kernel
theorem q170_117 : decode (mB 170) 117 = .ok (.if_icmp .ne 7, 3) := by decide +kernel
theorem q170_120 : decode (mB 170) 120 = .ok (.iconst 3, 1) := by decide +kernel
theorem q170_121 : decode (mB 170) 121 = .ok (.goto 4, 3) := by decide +kernel
theorem q170_124 : decode (mB 170) 124 = .ok (.iconst 0, 1) := by decide +kernel
theorem q170_125 : decode (mB 170) 125 = .ok (.iadd, 1) := by decide +kernel
theorem q170_126 : decode (mB 170) 126 = .ok (.istore 5, 2) := by decide +kernel
theorem q170_128 : decode (mB 170) 128 = .ok (.aload_n 0, 1) := by decide +kernel
theorem q170_129 : decode (mB 170) 129 = .ok (.aload_n 1, 1) := by decide +kernel
theorem q170_130 : cfB 170 130 124 168 1 4 1 = true := by decide +kernel
theorem q170_133 : decode (mB 170) 133 = .ok (.istore 6, 2) := by decide +kernel
theorem q170_135 : decode (mB 170) 135 = .ok (.iconst 0, 1) := by decide +kernel
theorem q170_136 : decode (mB 170) 136 = .ok (.istore 7, 2) := by decide +kernel
theorem q170_138 : decode (mB 170) 138 = .ok (.iload 7, 2) := by decide +kernel
theorem q170_140 : decode (mB 170) 140 = .ok (.bipush 8, 2) := by decide +kernel
theorem q170_142 : decode (mB 170) 142 = .ok (.if_icmp .ge 36, 3) := by decide +kernel
theorem q170_145 : decode (mB 170) 145 = .ok (.iload 5, 2) := by decide +kernel
theorem q170_147 : decode (mB 170) 147 = .ok (.iload 6, 2) := by decide +kernel
theorem q170_149 : decode (mB 170) 149 = .ok (.iload 7, 2) := by decide +kernel
theorem q170_151 : decode (mB 170) 151 = .ok (.ishr, 1) := by decide +kernel
theorem q170_152 : decode (mB 170) 152 = .ok (.iconst 1, 1) := by decide +kernel
theorem q170_153 : decode (mB 170) 153 = .ok (.iand, 1) := by decide +kernel
theorem q170_154 : decode (mB 170) 154 = .ok (.iconst 1, 1) := by decide +kernel
theorem q170_155 : decode (mB 170) 155 = .ok (.if_icmp .ne 13, 3) := by decide +kernel
theorem q170_158 : decode (mB 170) 158 = .ok (.aload_n 0, 1) := by decide +kernel
theorem q170_159 : gfB 170 159 16 8 2 = true := by decide +kernel
theorem q170_162 : decode (mB 170) 162 = .ok (.iload 7, 2) := by decide +kernel
theorem q170_164 : decode (mB 170) 164 = .ok (.iaload, 1) := by decide +kernel
theorem q170_165 : decode (mB 170) 165 = .ok (.goto 4, 3) := by decide +kernel
theorem q170_168 : decode (mB 170) 168 = .ok (.iconst 0, 1) := by decide +kernel
theorem q170_169 : decode (mB 170) 169 = .ok (.iadd, 1) := by decide +kernel
theorem q170_170 : decode (mB 170) 170 = .ok (.istore 5, 2) := by decide +kernel
theorem q170_172 : decode (mB 170) 172 = .ok (.iinc 7 1, 3) := by decide +kernel
theorem q170_175 : decode (mB 170) 175 = .ok (.goto (-37), 3) := by decide +kernel
theorem q170_178 : decode (mB 170) 178 = .ok (.iload 5, 2) := by decide +kernel
theorem q170_180 : decode (mB 170) 180 = .ok (.ireturn, 1) := by decide +kernel
theorem q171_0 : decode (mB 171) 0 = .ok (.aload_n 0, 1) := by decide +kernel
theorem q171_1 : decode (mB 171) 1 = .ok (.aload_n 0, 1) := by decide +kernel
theorem q171_2 : gfB 171 2 32 8 7 = true := by decide +kernel
theorem q171_5 : cfB 171 5 127 170 1 4 1 = true := by decide +kernel
theorem q171_8 : decode (mB 171) 8 = .ok (.istore_n 1, 1) := by decide +kernel
theorem q171_9 : decode (mB 171) 9 = .ok (.aload_n 0, 1) := by decide +kernel
theorem q171_10 : decode (mB 171) 10 = .ok (.dup, 1) := by decide +kernel
theorem q171_11 : gfB 171 11 130 8 17 = true := by decide +kernel
theorem q171_14 : decode (mB 171) 14 = .ok (.iconst 1, 1) := by decide +kernel
theorem q171_15 : decode (mB 171) 15 = .ok (.iadd, 1) := by decide +kernel
theorem q171_16 : pfB 171 16 130 8 17 = true := by decide +kernel
theorem q171_19 : decode (mB 171) 19 = .ok (.aload_n 0, 1) := by decide +kernel
theorem q171_20 : gfB 171 20 133 8 15 = true := by decide +kernel
theorem q171_23 : decode (mB 171) 23 = .ok (.istore_n 2, 1) := by decide +kernel
theorem q171_24 : decode (mB 171) 24 = .ok (.iload_n 2, 1) := by decide +kernel
theorem q171_25 : decode (mB 171) 25 = .ok (.ifCond .le 21, 3) := by decide +kernel
theorem q171_28 : decode (mB 171) 28 = .ok (.aload_n 0, 1) := by decide +kernel
theorem q171_29 : gfB 171 29 44 8 11 = true := by decide +kernel
theorem q171_32 : decode (mB 171) 32 = .ok (.iload_n 2, 1) := by decide +kernel
theorem q171_33 : decode (mB 171) 33 = .ok (.iconst 1, 1) := by decide +kernel
theorem q171_34 : decode (mB 171) 34 = .ok (.isub, 1) := by decide +kernel
theorem q171_35 : decode (mB 171) 35 = .ok (.iaload, 1) := by decide +kernel
theorem q171_36 : decode (mB 171) 36 = .ok (.iload_n 1, 1) := by decide +kernel
theorem q171_37 : decode (mB 171) 37 = .ok (.if_icmp .le 9, 3) := by decide +kernel
theorem q171_40 : decode (mB 171) 40 = .ok (.iinc 2 (-1), 3) := by decide +kernel
theorem q171_43 : decode (mB 171) 43 = .ok (.goto (-19), 3) := by decide +kernel
theorem q171_46 : decode (mB 171) 46 = .ok (.iload_n 2, 1) := by decide +kernel
theorem q171_47 : decode (mB 171) 47 = .ok (.iconst 5, 1) := by decide +kernel
theorem q171_48 : decode (mB 171) 48 = .ok (.if_icmp .ge 147, 3) := by decide +kernel
theorem q171_51 : decode (mB 171) 51 = .ok (.aload_n 0, 1) := by decide +kernel
theorem q171_52 : gfB 171 52 133 8 15 = true := by decide +kernel
theorem q171_55 : decode (mB 171) 55 = .ok (.iconst 4, 1) := by decide +kernel
theorem q171_56 : decode (mB 171) 56 = .ok (.if_icmp .ge 10, 3) := by decide +kernel
theorem q171_59 : decode (mB 171) 59 = .ok (.aload_n 0, 1) := by decide +kernel
theorem q171_60 : gfB 171 60 133 8 15 = true := by decide +kernel
theorem q171_63 : decode (mB 171) 63 = .ok (.goto 4, 3) := by decide +kernel
theorem q171_66 : decode (mB 171) 66 = .ok (.iconst 4, 1) := by decide +kernel
theorem q171_67 : decode (mB 171) 67 = .ok (.istore_n 3, 1) := by decide +kernel
theorem q171_68 : decode (mB 171) 68 = .ok (.iload_n 3, 1) := by decide +kernel
theorem q171_69 : decode (mB 171) 69 = .ok (.iload_n 2, 1) := by decide +kernel
theorem q171_70 : decode (mB 171) 70 = .ok (.if_icmp .le 65, 3) := by decide +kernel
theorem q171_73 : decode (mB 171) 73 = .ok (.aload_n 0, 1) := by decide +kernel
theorem q171_74 : gfB 171 74 44 8 11 = true := by decide +kernel
theorem q171_77 : decode (mB 171) 77 = .ok (.iload_n 3, 1) := by decide +kernel
theorem q171_78 : decode (mB 171) 78 = .ok (.aload_n 0, 1) := by decide +kernel
theorem q171_79 : gfB 171 79 44 8 11 = true := by decide +kernel
theorem q171_82 : decode (mB 171) 82 = .ok (.iload_n 3, 1) := by decide +kernel
theorem q171_83 : decode (mB 171) 83 = .ok (.iconst 1, 1) := by decide +kernel
theorem q171_84 : decode (mB 171) 84 = .ok (.isub, 1) := by decide +kernel
theorem q171_85 : decode (mB 171) 85 = .ok (.iaload, 1) := by decide +kernel
theorem q171_86 : decode (mB 171) 86 = .ok (.iastore, 1) := by decide +kernel
theorem q171_87 : decode (mB 171) 87 = .ok (.iconst 0, 1) := by decide +kernel
theorem q171_88 : decode (mB 171) 88 = .ok (.istore 4, 2) := by decide +kernel
theorem q171_90 : decode (mB 171) 90 = .ok (.iload 4, 2) := by decide +kernel
theorem q171_92 : decode (mB 171) 92 = .ok (.bipush 6, 2) := by decide +kernel
theorem q171_94 : decode (mB 171) 94 = .ok (.if_icmp .ge 35, 3) := by decide +kernel
theorem q171_97 : decode (mB 171) 97 = .ok (.aload_n 0, 1) := by decide +kernel
theorem q171_98 : gfB 171 98 41 8 10 = true := by decide +kernel
theorem q171_101 : decode (mB 171) 101 = .ok (.bipush 6, 2) := by decide +kernel
theorem q171_103 : decode (mB 171) 103 = .ok (.iload_n 3, 1) := by decide +kernel
theorem q171_104 : decode (mB 171) 104 = .ok (.imul, 1) := by decide +kernel
theorem q171_105 : decode (mB 171) 105 = .ok (.iload 4, 2) := by decide +kernel
theorem q171_107 : decode (mB 171) 107 = .ok (.iadd, 1) := by decide +kernel
theorem q171_108 : decode (mB 171) 108 = .ok (.aload_n 0, 1) := by decide +kernel
theorem q171_109 : gfB 171 109 41 8 10 = true := by decide +kernel
theorem q171_112 : decode (mB 171) 112 = .ok (.bipush 6, 2) := by decide +kernel
theorem q171_114 : decode (mB 171) 114 = .ok (.iload_n 3, 1) := by decide +kernel
theorem q171_115 : decode (mB 171) 115 = .ok (.iconst 1, 1) := by decide +kernel
theorem q171_116 : decode (mB 171) 116 = .ok (.isub, 1) := by decide +kernel
theorem q171_117 : decode (mB 171) 117 = .ok (.imul, 1) := by decide +kernel
theorem q171_118 : decode (mB 171) 118 = .ok (.iload 4, 2) := by decide +kernel
theorem q171_120 : decode (mB 171) 120 = .ok (.iadd, 1) := by decide +kernel
theorem q171_121 : decode (mB 171) 121 = .ok (.iaload, 1) := by decide +kernel
theorem q171_122 : decode (mB 171) 122 = .ok (.iastore, 1) := by decide +kernel
theorem q171_123 : decode (mB 171) 123 = .ok (.iinc 4 1, 3) := by decide +kernel
theorem q171_126 : decode (mB 171) 126 = .ok (.goto (-36), 3) := by decide +kernel
theorem q171_129 : decode (mB 171) 129 = .ok (.iinc 3 (-1), 3) := by decide +kernel
theorem q171_132 : decode (mB 171) 132 = .ok (.goto (-64), 3) := by decide +kernel
theorem q171_135 : decode (mB 171) 135 = .ok (.aload_n 0, 1) := by decide +kernel
theorem q171_136 : gfB 171 136 44 8 11 = true := by decide +kernel
theorem q171_139 : decode (mB 171) 139 = .ok (.iload_n 2, 1) := by decide +kernel
theorem q171_140 : decode (mB 171) 140 = .ok (.iload_n 1, 1) := by decide +kernel
theorem q171_141 : decode (mB 171) 141 = .ok (.iastore, 1) := by decide +kernel
theorem q171_142 : decode (mB 171) 142 = .ok (.iconst 0, 1) := by decide +kernel
theorem q171_143 : decode (mB 171) 143 = .ok (.istore_n 3, 1) := by decide +kernel
theorem q171_144 : decode (mB 171) 144 = .ok (.iload_n 3, 1) := by decide +kernel
theorem q171_145 : decode (mB 171) 145 = .ok (.bipush 6, 2) := by decide +kernel
theorem q171_147 : decode (mB 171) 147 = .ok (.if_icmp .ge 26, 3) := by decide +kernel
theorem q171_150 : decode (mB 171) 150 = .ok (.aload_n 0, 1) := by decide +kernel
theorem q171_151 : gfB 171 151 41 8 10 = true := by decide +kernel
theorem q171_154 : decode (mB 171) 154 = .ok (.bipush 6, 2) := by decide +kernel
theorem q171_156 : decode (mB 171) 156 = .ok (.iload_n 2, 1) := by decide +kernel
theorem q171_157 : decode (mB 171) 157 = .ok (.imul, 1) := by decide +kernel
theorem q171_158 : decode (mB 171) 158 = .ok (.iload_n 3, 1) := by decide +kernel
theorem q171_159 : decode (mB 171) 159 = .ok (.iadd, 1) := by decide +kernel
theorem q171_160 : decode (mB 171) 160 = .ok (.aload_n 0, 1) := by decide +kernel
theorem q171_161 : gfB 171 161 32 8 7 = true := by decide +kernel
theorem q171_164 : decode (mB 171) 164 = .ok (.iload_n 3, 1) := by decide +kernel
theorem q171_165 : decode (mB 171) 165 = .ok (.iaload, 1) := by decide +kernel
theorem q171_166 : decode (mB 171) 166 = .ok (.iastore, 1) := by decide +kernel
theorem q171_167 : decode (mB 171) 167 = .ok (.iinc 3 1, 3) := by decide +kernel
theorem q171_170 : decode (mB 171) 170 = .ok (.goto (-26), 3) := by decide +kernel
theorem q171_173 : decode (mB 171) 173 = .ok (.aload_n 0, 1) := by decide +kernel
theorem q171_174 : decode (mB 171) 174 = .ok (.dup, 1) := by decide +kernel
theorem q171_175 : gfB 171 175 133 8 15 = true := by decide +kernel
theorem q171_178 : decode (mB 171) 178 = .ok (.aload_n 0, 1) := by decide +kernel
theorem q171_179 : gfB 171 179 133 8 15 = true := by decide +kernel
theorem q171_182 : decode (mB 171) 182 = .ok (.iconst 5, 1) := by decide +kernel
theorem q171_183 : decode (mB 171) 183 = .ok (.if_icmp .ge 7, 3) := by decide +kernel
theorem q171_186 : decode (mB 171) 186 = .ok (.iconst 1, 1) := by decide +kernel
theorem q171_187 : decode (mB 171) 187 = .ok (.goto 4, 3) := by decide +kernel
theorem q171_190 : decode (mB 171) 190 = .ok (.iconst 0, 1) := by decide +kernel
theorem q171_191 : decode (mB 171) 191 = .ok (.iadd, 1) := by decide +kernel
theorem q171_192 : pfB 171 192 133 8 15 = true := by decide +kernel
theorem q171_195 : decode (mB 171) 195 = .ok (.return_, 1) := by decide +kernel
theorem q172_0 : decode (mB 172) 0 = .ok (.iconst 1, 1) := by decide +kernel
theorem q172_1 : decode (mB 172) 1 = .ok (.istore_n 3, 1) := by decide +kernel
theorem q172_2 : decode (mB 172) 2 = .ok (.iconst 0, 1) := by decide +kernel
theorem q172_3 : decode (mB 172) 3 = .ok (.istore 4, 2) := by decide +kernel
theorem q172_5 : decode (mB 172) 5 = .ok (.iload 4, 2) := by decide +kernel
theorem q172_7 : decode (mB 172) 7 = .ok (.bipush 6, 2) := by decide +kernel
theorem q172_9 : decode (mB 172) 9 = .ok (.if_icmp .ge 28, 3) := by decide +kernel
theorem q172_12 : decode (mB 172) 12 = .ok (.iload_n 3, 1) := by decide +kernel
theorem q172_13 : decode (mB 172) 13 = .ok (.aload_n 1, 1) := by decide +kernel
theorem q172_14 : decode (mB 172) 14 = .ok (.iload 4, 2) := by decide +kernel
theorem q172_16 : decode (mB 172) 16 = .ok (.iaload, 1) := by decide +kernel
theorem q172_17 : decode (mB 172) 17 = .ok (.aload_n 2, 1) := by decide +kernel
theorem q172_18 : decode (mB 172) 18 = .ok (.iload 4, 2) := by decide +kernel
theorem q172_20 : decode (mB 172) 20 = .ok (.iaload, 1) := by decide +kernel
theorem q172_21 : decode (mB 172) 21 = .ok (.if_icmp .ne 7, 3) := by decide +kernel
theorem q172_24 : decode (mB 172) 24 = .ok (.iconst 1, 1) := by decide +kernel
theorem q172_25 : decode (mB 172) 25 = .ok (.goto 4, 3) := by decide +kernel
theorem q172_28 : decode (mB 172) 28 = .ok (.iconst 0, 1) := by decide +kernel
theorem q172_29 : decode (mB 172) 29 = .ok (.iand, 1) := by decide +kernel
theorem q172_30 : decode (mB 172) 30 = .ok (.istore_n 3, 1) := by decide +kernel
theorem q172_31 : decode (mB 172) 31 = .ok (.iinc 4 1, 3) := by decide +kernel
theorem q172_34 : decode (mB 172) 34 = .ok (.goto (-29), 3) := by decide +kernel
theorem q172_37 : decode (mB 172) 37 = .ok (.iload_n 3, 1) := by decide +kernel
theorem q172_38 : decode (mB 172) 38 = .ok (.ireturn, 1) := by decide +kernel
theorem q173_0 : decode (mB 173) 0 = .ok (.aload_n 0, 1) := by decide +kernel
theorem q173_1 : gfB 173 1 76 8 22 = true := by decide +kernel
theorem q173_4 : decode (mB 173) 4 = .ok (.ifCond .eq 4, 3) := by decide +kernel
theorem q173_7 : decode (mB 173) 7 = .ok (.return_, 1) := by decide +kernel
theorem q173_8 : decode (mB 173) 8 = .ok (.aload_n 0, 1) := by decide +kernel
theorem q173_9 : decode (mB 173) 9 = .ok (.iconst 1, 1) := by decide +kernel
theorem q173_10 : pfB 173 10 76 8 22 = true := by decide +kernel
theorem q173_13 : decode (mB 173) 13 = .ok (.aload_n 0, 1) := by decide +kernel
theorem q173_14 : cfB 173 14 136 164 1 4 0 = true := by decide +kernel
theorem q173_17 : decode (mB 173) 17 = .ok (.aload_n 0, 1) := by decide +kernel
theorem q173_18 : decode (mB 173) 18 = .ok (.iconst 0, 1) := by decide +kernel
theorem q173_19 : pfB 173 19 133 8 15 = true := by decide +kernel
theorem q173_22 : decode (mB 173) 22 = .ok (.aload_n 0, 1) := by decide +kernel
theorem q173_23 : decode (mB 173) 23 = .ok (.iconst 0, 1) := by decide +kernel
theorem q173_24 : pfB 173 24 130 8 17 = true := by decide +kernel
theorem q173_27 : decode (mB 173) 27 = .ok (.aload_n 0, 1) := by decide +kernel
theorem q173_28 : decode (mB 173) 28 = .ok (.iconst 0, 1) := by decide +kernel
theorem q173_29 : pfB 173 29 138 8 18 = true := by decide +kernel
theorem q173_32 : decode (mB 173) 32 = .ok (.aload_n 0, 1) := by decide +kernel
theorem q173_33 : decode (mB 173) 33 = .ok (.aload_n 0, 1) := by decide +kernel
theorem q173_34 : gfB 173 34 35 8 8 = true := by decide +kernel
theorem q173_37 : cfB 173 37 127 170 1 4 1 = true := by decide +kernel
theorem q173_40 : decode (mB 173) 40 = .ok (.istore_n 1, 1) := by decide +kernel
theorem q173_41 : decode (mB 173) 41 = .ok (.iconst 1, 1) := by decide +kernel
theorem q173_42 : decode (mB 173) 42 = .ok (.istore_n 2, 1) := by decide +kernel
theorem q173_43 : decode (mB 173) 43 = .ok (.iconst 0, 1) := by decide +kernel
theorem q173_44 : decode (mB 173) 44 = .ok (.istore_n 3, 1) := by decide +kernel
theorem q173_45 : decode (mB 173) 45 = .ok (.iload_n 3, 1) := by decide +kernel
theorem q173_46 : decode (mB 173) 46 = .ok (.sipush 21609, 3) := by decide +kernel
theorem q173_49 : decode (mB 173) 49 = .ok (.if_icmp .ge 153, 3) := by decide +kernel
theorem q173_52 : decode (mB 173) 52 = .ok (.iload_n 3, 1) := by decide +kernel
theorem q173_53 : decode (mB 173) 53 = .ok (.istore 4, 2) := by decide +kernel
theorem q173_55 : decode (mB 173) 55 = .ok (.iconst 5, 1) := by decide +kernel
theorem q173_56 : decode (mB 173) 56 = .ok (.istore 5, 2) := by decide +kernel
theorem q173_58 : decode (mB 173) 58 = .ok (.iload 5, 2) := by decide +kernel
theorem q173_60 : decode (mB 173) 60 = .ok (.iconst 2, 1) := by decide +kernel
theorem q173_61 : decode (mB 173) 61 = .ok (.if_icmp .lt 30, 3) := by decide +kernel
theorem q173_64 : decode (mB 173) 64 = .ok (.aload_n 0, 1) := by decide +kernel
theorem q173_65 : gfB 173 65 32 8 7 = true := by decide +kernel
theorem q173_68 : decode (mB 173) 68 = .ok (.iload 5, 2) := by decide +kernel
theorem q173_70 : decode (mB 173) 70 = .ok (.iload 4, 2) := by decide +kernel
theorem q173_72 : decode (mB 173) 72 = .ok (.bipush 7, 2) := by decide +kernel
theorem q173_74 : decode (mB 173) 74 = .ok (.irem, 1) := by decide +kernel
theorem q173_75 : decode (mB 173) 75 = .ok (.iconst 1, 1) := by decide +kernel
theorem q173_76 : decode (mB 173) 76 = .ok (.isub, 1) := by decide +kernel
theorem q173_77 : decode (mB 173) 77 = .ok (.iastore, 1) := by decide +kernel
theorem q173_78 : decode (mB 173) 78 = .ok (.iload 4, 2) := by decide +kernel
theorem q173_80 : decode (mB 173) 80 = .ok (.bipush 7, 2) := by decide +kernel
theorem q173_82 : decode (mB 173) 82 = .ok (.idiv, 1) := by decide +kernel
theorem q173_83 : decode (mB 173) 83 = .ok (.istore 4, 2) := by decide +kernel
theorem q173_85 : decode (mB 173) 85 = .ok (.iinc 5 (-1), 3) := by decide +kernel
theorem q173_88 : decode (mB 173) 88 = .ok (.goto (-30), 3) := by decide +kernel
theorem q173_91 : decode (mB 173) 91 = .ok (.aload_n 0, 1) := by decide +kernel
theorem q173_92 : gfB 173 92 32 8 7 = true := by decide +kernel
theorem q173_95 : decode (mB 173) 95 = .ok (.iconst 1, 1) := by decide +kernel
theorem q173_96 : decode (mB 173) 96 = .ok (.iload 4, 2) := by decide +kernel
theorem q173_98 : decode (mB 173) 98 = .ok (.iconst 3, 1) := by decide +kernel
theorem q173_99 : decode (mB 173) 99 = .ok (.irem, 1) := by decide +kernel
theorem q173_100 : decode (mB 173) 100 = .ok (.iastore, 1) := by decide +kernel
theorem q173_101 : decode (mB 173) 101 = .ok (.aload_n 0, 1) := by decide +kernel
theorem q173_102 : gfB 173 102 32 8 7 = true := by decide +kernel
theorem q173_105 : decode (mB 173) 105 = .ok (.iconst 0, 1) := by decide +kernel
theorem q173_106 : decode (mB 173) 106 = .ok (.iload 4, 2) := by decide +kernel
theorem q173_108 : decode (mB 173) 108 = .ok (.iconst 3, 1) := by decide +kernel
theorem q173_109 : decode (mB 173) 109 = .ok (.idiv, 1) := by decide +kernel
theorem q173_110 : decode (mB 173) 110 = .ok (.iastore, 1) := by decide +kernel
theorem q173_111 : decode (mB 173) 111 = .ok (.iload_n 2, 1) := by decide +kernel
theorem q173_112 : decode (mB 173) 112 = .ok (.aload_n 0, 1) := by decide +kernel
theorem q173_113 : decode (mB 173) 113 = .ok (.aload_n 0, 1) := by decide +kernel
theorem q173_114 : gfB 173 114 32 8 7 = true := by decide +kernel
theorem q173_117 : decode (mB 173) 117 = .ok (.aload_n 0, 1) := by decide +kernel
theorem q173_118 : gfB 173 118 35 8 8 = true := by decide +kernel
theorem q173_121 : cfB 173 121 141 172 1 4 2 = true := by decide +kernel
theorem q173_124 : decode (mB 173) 124 = .ok (.ifCond .ne 7, 3) := by decide +kernel
theorem q173_127 : decode (mB 173) 127 = .ok (.iconst 1, 1) := by decide +kernel
theorem q173_128 : decode (mB 173) 128 = .ok (.goto 4, 3) := by decide +kernel
theorem q173_131 : decode (mB 173) 131 = .ok (.iconst 0, 1) := by decide +kernel
theorem q173_132 : decode (mB 173) 132 = .ok (.iand, 1) := by decide +kernel
theorem q173_133 : decode (mB 173) 133 = .ok (.istore_n 2, 1) := by decide +kernel
theorem q173_134 : decode (mB 173) 134 = .ok (.aload_n 0, 1) := by decide +kernel
theorem q173_135 : cfB 173 135 145 174 1 4 0 = true := by decide +kernel
theorem q173_138 : decode (mB 173) 138 = .ok (.ifCond .eq 58, 3) := by decide +kernel
theorem q173_141 : decode (mB 173) 141 = .ok (.aload_n 0, 1) := by decide +kernel
theorem q173_142 : decode (mB 173) 142 = .ok (.aload_n 0, 1) := by decide +kernel
theorem q173_143 : gfB 173 143 32 8 7 = true := by decide +kernel
theorem q173_146 : cfB 173 146 149 167 1 4 1 = true := by decide +kernel
theorem q173_149 : decode (mB 173) 149 = .ok (.ifCond .ne 47, 3) := by decide +kernel
theorem q173_152 : decode (mB 173) 152 = .ok (.aload_n 0, 1) := by decide +kernel
theorem q173_153 : cfB 173 153 152 171 1 4 0 = true := by decide +kernel
theorem q173_156 : decode (mB 173) 156 = .ok (.aload_n 0, 1) := by decide +kernel
theorem q173_157 : decode (mB 173) 157 = .ok (.aload_n 0, 1) := by decide +kernel
theorem q173_158 : gfB 173 158 32 8 7 = true := by decide +kernel
theorem q173_161 : cfB 173 161 127 170 1 4 1 = true := by decide +kernel
theorem q173_164 : decode (mB 173) 164 = .ok (.istore 5, 2) := by decide +kernel
theorem q173_166 : decode (mB 173) 166 = .ok (.aload_n 0, 1) := by decide +kernel
theorem q173_167 : decode (mB 173) 167 = .ok (.dup, 1) := by decide +kernel
theorem q173_168 : gfB 173 168 138 8 18 = true := by decide +kernel
theorem q173_171 : decode (mB 173) 171 = .ok (.iload 5, 2) := by decide +kernel
theorem q173_173 : decode (mB 173) 173 = .ok (.iload_n 1, 1) := by decide +kernel
theorem q173_174 : decode (mB 173) 174 = .ok (.if_icmp .lt 13, 3) := by decide +kernel
theorem q173_177 : decode (mB 173) 177 = .ok (.iload 5, 2) := by decide +kernel
theorem q173_179 : decode (mB 173) 179 = .ok (.iload_n 1, 1) := by decide +kernel
theorem q173_180 : decode (mB 173) 180 = .ok (.if_icmp .ne 11, 3) := by decide +kernel
theorem q173_183 : decode (mB 173) 183 = .ok (.iload_n 2, 1) := by decide +kernel
theorem q173_184 : decode (mB 173) 184 = .ok (.ifCond .eq 7, 3) := by decide +kernel
theorem q173_187 : decode (mB 173) 187 = .ok (.iconst 1, 1) := by decide +kernel
theorem q173_188 : decode (mB 173) 188 = .ok (.goto 4, 3) := by decide +kernel
theorem q173_191 : decode (mB 173) 191 = .ok (.iconst 0, 1) := by decide +kernel
theorem q173_192 : decode (mB 173) 192 = .ok (.iadd, 1) := by decide +kernel
theorem q173_193 : pfB 173 193 138 8 18 = true := by decide +kernel
theorem q173_196 : decode (mB 173) 196 = .ok (.iinc 3 1, 3) := by decide +kernel
theorem q173_199 : decode (mB 173) 199 = .ok (.goto (-154), 3) := by decide +kernel
theorem q173_202 : decode (mB 173) 202 = .ok (.return_, 1) := by decide +kernel
theorem q174_0 : decode (mB 174) 0 = .ok (.iconst 1, 1) := by decide +kernel
theorem q174_1 : decode (mB 174) 1 = .ok (.istore_n 1, 1) := by decide +kernel
theorem q174_2 : decode (mB 174) 2 = .ok (.iconst 2, 1) := by decide +kernel
theorem q174_3 : decode (mB 174) 3 = .ok (.istore_n 2, 1) := by decide +kernel
theorem q174_4 : decode (mB 174) 4 = .ok (.iload_n 2, 1) := by decide +kernel
theorem q174_5 : decode (mB 174) 5 = .ok (.bipush 6, 2) := by decide +kernel
theorem q174_7 : decode (mB 174) 7 = .ok (.if_icmp .ge 54, 3) := by decide +kernel
theorem q174_10 : decode (mB 174) 10 = .ok (.iconst 2, 1) := by decide +kernel
theorem q174_11 : decode (mB 174) 11 = .ok (.istore_n 3, 1) := by decide +kernel
theorem q174_12 : decode (mB 174) 12 = .ok (.iload_n 3, 1) := by decide +kernel
theorem q174_13 : decode (mB 174) 13 = .ok (.iload_n 2, 1) := by decide +kernel
theorem q174_14 : decode (mB 174) 14 = .ok (.if_icmp .ge 41, 3) := by decide +kernel
theorem q174_17 : decode (mB 174) 17 = .ok (.iload_n 1, 1) := by decide +kernel
theorem q174_18 : decode (mB 174) 18 = .ok (.aload_n 0, 1) := by decide +kernel
theorem q174_19 : gfB 174 19 32 8 7 = true := by decide +kernel
theorem q174_22 : decode (mB 174) 22 = .ok (.iload_n 2, 1) := by decide +kernel
theorem q174_23 : decode (mB 174) 23 = .ok (.iaload, 1) := by decide +kernel
theorem q174_24 : decode (mB 174) 24 = .ok (.ifCond .lt 18, 3) := by decide +kernel
theorem q174_27 : decode (mB 174) 27 = .ok (.aload_n 0, 1) := by decide +kernel
theorem q174_28 : gfB 174 28 32 8 7 = true := by decide +kernel
theorem q174_31 : decode (mB 174) 31 = .ok (.iload_n 2, 1) := by decide +kernel
theorem q174_32 : decode (mB 174) 32 = .ok (.iaload, 1) := by decide +kernel
theorem q174_33 : decode (mB 174) 33 = .ok (.aload_n 0, 1) := by decide +kernel
theorem q174_34 : gfB 174 34 32 8 7 = true := by decide +kernel
theorem q174_37 : decode (mB 174) 37 = .ok (.iload_n 3, 1) := by decide +kernel
theorem q174_38 : decode (mB 174) 38 = .ok (.iaload, 1) := by decide +kernel
theorem q174_39 : decode (mB 174) 39 = .ok (.if_icmp .eq 7, 3) := by decide +kernel
theorem q174_42 : decode (mB 174) 42 = .ok (.iconst 1, 1) := by decide +kernel
theorem q174_43 : decode (mB 174) 43 = .ok (.goto 4, 3) := by decide +kernel
theorem q174_46 : decode (mB 174) 46 = .ok (.iconst 0, 1) := by decide +kernel
theorem q174_47 : decode (mB 174) 47 = .ok (.iand, 1) := by decide +kernel
theorem q174_48 : decode (mB 174) 48 = .ok (.istore_n 1, 1) := by decide +kernel
theorem q174_49 : decode (mB 174) 49 = .ok (.iinc 3 1, 3) := by decide +kernel
theorem q174_52 : decode (mB 174) 52 = .ok (.goto (-40), 3) := by decide +kernel
theorem q174_55 : decode (mB 174) 55 = .ok (.iinc 2 1, 3) := by decide +kernel
theorem q174_58 : decode (mB 174) 58 = .ok (.goto (-54), 3) := by decide +kernel
theorem q174_61 : decode (mB 174) 61 = .ok (.iload_n 1, 1) := by decide +kernel
theorem q174_62 : decode (mB 174) 62 = .ok (.ireturn, 1) := by decide +kernel
theorem q175_0 : decode (mB 175) 0 = .ok (.aload_n 0, 1) := by decide +kernel
theorem q175_1 : decode (mB 175) 1 = .ok (.iconst 0, 1) := by decide +kernel
theorem q175_2 : pfB 175 2 58 8 19 = true := by decide +kernel
theorem q175_5 : decode (mB 175) 5 = .ok (.aload_n 0, 1) := by decide +kernel
theorem q175_6 : cfB 175 6 155 173 1 4 0 = true := by decide +kernel
theorem q175_9 : decode (mB 175) 9 = .ok (.aload_n 0, 1) := by decide +kernel
theorem q175_10 : gfB 175 10 130 8 17 = true := by decide +kernel
theorem q175_13 : decode (mB 175) 13 = .ok (.ireturn, 1) := by decide +kernel
theorem q176_0 : decode (mB 176) 0 = .ok (.aload_n 0, 1) := by decide +kernel
theorem q176_1 : cfB 176 1 155 173 1 4 0 = true := by decide +kernel
theorem q176_4 : decode (mB 176) 4 = .ok (.aload_n 0, 1) := by decide +kernel
theorem q176_5 : decode (mB 176) 5 = .ok (.iload_n 1, 1) := by decide +kernel
theorem q176_6 : decode (mB 176) 6 = .ok (.iconst 0, 1) := by decide +kernel
theorem q176_7 : decode (mB 176) 7 = .ok (.aload_n 0, 1) := by decide +kernel
theorem q176_8 : gfB 176 8 133 8 15 = true := by decide +kernel
theorem q176_11 : decode (mB 176) 11 = .ok (.iconst 1, 1) := by decide +kernel
theorem q176_12 : decode (mB 176) 12 = .ok (.isub, 1) := by decide +kernel
theorem q176_13 : cfB 176 13 61 136 0 4 3 = true := by decide +kernel
theorem q176_16 : decode (mB 176) 16 = .ok (.ifCond .ne 7, 3) := by decide +kernel
theorem q176_19 : decode (mB 176) 19 = .ok (.iconst 1, 1) := by decide +kernel
theorem q176_20 : decode (mB 176) 20 = .ok (.goto 4, 3) := by decide +kernel
theorem q176_23 : decode (mB 176) 23 = .ok (.iconst 0, 1) := by decide +kernel
theorem q176_24 : decode (mB 176) 24 = .ok (.iload_n 2, 1) := by decide +kernel
theorem q176_25 : cfB 176 25 65 137 1 4 2 = true := by decide +kernel
theorem q176_28 : decode (mB 176) 28 = .ok (.ireturn, 1) := by decide +kernel
theorem q177_0 : decode (mB 177) 0 = .ok (.aload_n 0, 1) := by decide +kernel
theorem q177_1 : decode (mB 177) 1 = .ok (.iload_n 1, 1) := by decide +kernel
theorem q177_2 : decode (mB 177) 2 = .ok (.iconst 1, 1) := by decide +kernel
theorem q177_3 : cfB 177 3 158 176 1 4 2 = true := by decide +kernel
theorem q177_6 : decode (mB 177) 6 = .ok (.ifCond .eq 7, 3) := by decide +kernel
theorem q177_9 : decode (mB 177) 9 = .ok (.iconst 0, 1) := by decide +kernel
theorem q177_10 : decode (mB 177) 10 = .ok (.goto 9, 3) := by decide +kernel
theorem q177_13 : decode (mB 177) 13 = .ok (.aload_n 0, 1) := by decide +kernel
theorem q177_14 : gfB 177 14 44 8 11 = true := by decide +kernel
theorem q177_17 : decode (mB 177) 17 = .ok (.iload_n 1, 1) := by decide +kernel
theorem q177_18 : decode (mB 177) 18 = .ok (.iaload, 1) := by decide +kernel
theorem q177_19 : decode (mB 177) 19 = .ok (.ireturn, 1) := by decide +kernel
theorem q178_0 : decode (mB 178) 0 = .ok (.iconst 0, 1) := by decide +kernel
theorem q178_1 : decode (mB 178) 1 = .ok (.istore_n 2, 1) := by decide +kernel
theorem q178_2 : decode (mB 178) 2 = .ok (.iconst 0, 1) := by decide +kernel
theorem q178_3 : decode (mB 178) 3 = .ok (.istore_n 3, 1) := by decide +kernel
theorem q178_4 : decode (mB 178) 4 = .ok (.iload_n 3, 1) := by decide +kernel
theorem q178_5 : decode (mB 178) 5 = .ok (.bipush 6, 2) := by decide +kernel
theorem q178_7 : decode (mB 178) 7 = .ok (.if_icmp .ge 26, 3) := by decide +kernel
theorem q178_10 : decode (mB 178) 10 = .ok (.iload_n 2, 1) := by decide +kernel
theorem q178_11 : decode (mB 178) 11 = .ok (.aload_n 0, 1) := by decide +kernel
theorem q178_12 : decode (mB 178) 12 = .ok (.iload_n 3, 1) := by decide +kernel
theorem q178_13 : cfB 178 13 101 153 1 4 1 = true := by decide +kernel
theorem q178_16 : decode (mB 178) 16 = .ok (.iconst 1, 1) := by decide +kernel
theorem q178_17 : decode (mB 178) 17 = .ok (.if_icmp .le 7, 3) := by decide +kernel
theorem q178_20 : decode (mB 178) 20 = .ok (.iconst 1, 1) := by decide +kernel
theorem q178_21 : decode (mB 178) 21 = .ok (.goto 4, 3) := by decide +kernel
theorem q178_24 : decode (mB 178) 24 = .ok (.iconst 0, 1) := by decide +kernel
theorem q178_25 : decode (mB 178) 25 = .ok (.iadd, 1) := by decide +kernel
theorem q178_26 : decode (mB 178) 26 = .ok (.istore_n 2, 1) := by decide +kernel
theorem q178_27 : decode (mB 178) 27 = .ok (.iinc 3 1, 3) := by decide +kernel
theorem q178_30 : decode (mB 178) 30 = .ok (.goto (-26), 3) := by decide +kernel
theorem q178_33 : decode (mB 178) 33 = .ok (.aload_n 0, 1) := by decide +kernel
theorem q178_34 : decode (mB 178) 34 = .ok (.iload_n 2, 1) := by decide +kernel
theorem q178_35 : decode (mB 178) 35 = .ok (.iconst 3, 1) := by decide +kernel
theorem q178_36 : decode (mB 178) 36 = .ok (.if_icmp .le 7, 3) := by decide +kernel
theorem q178_39 : decode (mB 178) 39 = .ok (.iconst 1, 1) := by decide +kernel
theorem q178_40 : decode (mB 178) 40 = .ok (.goto 4, 3) := by decide +kernel
theorem q178_43 : decode (mB 178) 43 = .ok (.iconst 0, 1) := by decide +kernel
theorem q178_44 : decode (mB 178) 44 = .ok (.iconst 1, 1) := by decide +kernel
theorem q178_45 : cfB 178 45 65 137 1 4 2 = true := by decide +kernel
theorem q178_48 : decode (mB 178) 48 = .ok (.ifCond .ne 12, 3) := by decide +kernel
theorem q178_51 : decode (mB 178) 51 = .ok (.aload_n 0, 1) := by decide +kernel
theorem q178_52 : decode (mB 178) 52 = .ok (.iload_n 1, 1) := by decide +kernel
theorem q178_53 : decode (mB 178) 53 = .ok (.iconst 2, 1) := by decide +kernel
theorem q178_54 : cfB 178 54 158 176 1 4 2 = true := by decide +kernel
theorem q178_57 : decode (mB 178) 57 = .ok (.ifCond .eq 7, 3) := by decide +kernel
theorem q178_60 : decode (mB 178) 60 = .ok (.iconst 0, 1) := by decide +kernel
theorem q178_61 : decode (mB 178) 61 = .ok (.goto 9, 3) := by decide +kernel
theorem q178_64 : decode (mB 178) 64 = .ok (.aload_n 0, 1) := by decide +kernel
theorem q178_65 : gfB 178 65 44 8 11 = true := by decide +kernel
theorem q178_68 : decode (mB 178) 68 = .ok (.iload_n 1, 1) := by decide +kernel
theorem q178_69 : decode (mB 178) 69 = .ok (.iaload, 1) := by decide +kernel
theorem q178_70 : decode (mB 178) 70 = .ok (.ireturn, 1) := by decide +kernel
theorem q179_0 : decode (mB 179) 0 = .ok (.iload_n 0, 1) := by decide +kernel
theorem q179_1 : decode (mB 179) 1 = .ok (.ifCond .ne 8, 3) := by decide +kernel
theorem q179_4 : decode (mB 179) 4 = .ok (.bipush 98, 2) := by decide +kernel
theorem q179_6 : decode (mB 179) 6 = .ok (.goto 15, 3) := by decide +kernel
theorem q179_9 : decode (mB 179) 9 = .ok (.iload_n 0, 1) := by decide +kernel
theorem q179_10 : decode (mB 179) 10 = .ok (.iconst 1, 1) := by decide +kernel
theorem q179_11 : decode (mB 179) 11 = .ok (.if_icmp .ne 8, 3) := by decide +kernel
theorem q179_14 : decode (mB 179) 14 = .ok (.bipush 108, 2) := by decide +kernel
theorem q179_16 : decode (mB 179) 16 = .ok (.goto 5, 3) := by decide +kernel
theorem q179_19 : decode (mB 179) 19 = .ok (.bipush 112, 2) := by decide +kernel
theorem q179_21 : decode (mB 179) 21 = .ok (.ireturn, 1) := by decide +kernel
theorem q180_0 : decode (mB 180) 0 = .ok (.aload_n 0, 1) := by decide +kernel
theorem q180_1 : decode (mB 180) 1 = .ok (.iload_n 1, 1) := by decide +kernel
theorem q180_2 : decode (mB 180) 2 = .ok (.iconst 1, 1) := by decide +kernel
theorem q180_3 : cfB 180 3 158 176 1 4 2 = true := by decide +kernel
theorem q180_6 : decode (mB 180) 6 = .ok (.ifCond .eq 8, 3) := by decide +kernel
theorem q180_9 : decode (mB 180) 9 = .ok (.bipush 45, 2) := by decide +kernel
theorem q180_11 : decode (mB 180) 11 = .ok (.goto 15, 3) := by decide +kernel
theorem q180_14 : decode (mB 180) 14 = .ok (.aload_n 0, 1) := by decide +kernel
theorem q180_15 : gfB 180 15 41 8 10 = true := by decide +kernel
theorem q180_18 : decode (mB 180) 18 = .ok (.bipush 6, 2) := by decide +kernel
theorem q180_20 : decode (mB 180) 20 = .ok (.iload_n 1, 1) := by decide +kernel
theorem q180_21 : decode (mB 180) 21 = .ok (.imul, 1) := by decide +kernel
theorem q180_22 : decode (mB 180) 22 = .ok (.iaload, 1) := by decide +kernel
theorem q180_23 : cfB 180 23 162 179 0 4 1 = true := by decide +kernel
theorem q180_26 : decode (mB 180) 26 = .ok (.ireturn, 1) := by decide +kernel
theorem q181_0 : decode (mB 181) 0 = .ok (.aload_n 0, 1) := by decide +kernel
theorem q181_1 : decode (mB 181) 1 = .ok (.iload_n 1, 1) := by decide +kernel
theorem q181_2 : decode (mB 181) 2 = .ok (.iconst 1, 1) := by decide +kernel
theorem q181_3 : cfB 181 3 158 176 1 4 2 = true := by decide +kernel
theorem q181_6 : decode (mB 181) 6 = .ok (.ifCond .eq 7, 3) := by decide +kernel
theorem q181_9 : decode (mB 181) 9 = .ok (.iconst 0, 1) := by decide +kernel
theorem q181_10 : decode (mB 181) 10 = .ok (.goto 14, 3) := by decide +kernel
theorem q181_13 : decode (mB 181) 13 = .ok (.aload_n 0, 1) := by decide +kernel
theorem q181_14 : gfB 181 14 41 8 10 = true := by decide +kernel
theorem q181_17 : decode (mB 181) 17 = .ok (.bipush 6, 2) := by decide +kernel
theorem q181_19 : decode (mB 181) 19 = .ok (.iload_n 1, 1) := by decide +kernel
theorem q181_20 : decode (mB 181) 20 = .ok (.imul, 1) := by decide +kernel
theorem q181_21 : decode (mB 181) 21 = .ok (.iconst 1, 1) := by decide +kernel
theorem q181_22 : decode (mB 181) 22 = .ok (.iadd, 1) := by decide +kernel
theorem q181_23 : decode (mB 181) 23 = .ok (.iaload, 1) := by decide +kernel
theorem q181_24 : decode (mB 181) 24 = .ok (.ireturn, 1) := by decide +kernel
theorem q182_0 : decode (mB 182) 0 = .ok (.aload_n 0, 1) := by decide +kernel
theorem q182_1 : decode (mB 182) 1 = .ok (.iload_n 1, 1) := by decide +kernel
theorem q182_2 : decode (mB 182) 2 = .ok (.iconst 0, 1) := by decide +kernel
theorem q182_3 : decode (mB 182) 3 = .ok (.iconst 3, 1) := by decide +kernel
theorem q182_4 : cfB 182 4 61 136 0 4 3 = true := by decide +kernel
theorem q182_7 : decode (mB 182) 7 = .ok (.ifCond .ne 7, 3) := by decide +kernel
theorem q182_10 : decode (mB 182) 10 = .ok (.iconst 1, 1) := by decide +kernel
theorem q182_11 : decode (mB 182) 11 = .ok (.goto 4, 3) := by decide +kernel
theorem q182_14 : decode (mB 182) 14 = .ok (.iconst 0, 1) := by decide +kernel
theorem q182_15 : decode (mB 182) 15 = .ok (.iload_n 2, 1) := by decide +kernel
theorem q182_16 : cfB 182 16 65 137 1 4 2 = true := by decide +kernel
theorem q182_19 : decode (mB 182) 19 = .ok (.ireturn, 1) := by decide +kernel
theorem q183_0 : decode (mB 183) 0 = .ok (.aload_n 0, 1) := by decide +kernel
theorem q183_1 : decode (mB 183) 1 = .ok (.iload_n 1, 1) := by decide +kernel
theorem q183_2 : decode (mB 183) 2 = .ok (.iconst 1, 1) := by decide +kernel
theorem q183_3 : cfB 183 3 158 176 1 4 2 = true := by decide +kernel
theorem q183_6 : decode (mB 183) 6 = .ok (.ifCond .ne 12, 3) := by decide +kernel
theorem q183_9 : decode (mB 183) 9 = .ok (.aload_n 0, 1) := by decide +kernel
theorem q183_10 : decode (mB 183) 10 = .ok (.iload_n 2, 1) := by decide +kernel
theorem q183_11 : decode (mB 183) 11 = .ok (.iconst 2, 1) := by decide +kernel
theorem q183_12 : cfB 183 12 166 182 1 4 2 = true := by decide +kernel
theorem q183_15 : decode (mB 183) 15 = .ok (.ifCond .eq 7, 3) := by decide +kernel
theorem q183_18 : decode (mB 183) 18 = .ok (.iconst 0, 1) := by decide +kernel
theorem q183_19 : decode (mB 183) 19 = .ok (.goto 16, 3) := by decide +kernel
theorem q183_22 : decode (mB 183) 22 = .ok (.aload_n 0, 1) := by decide +kernel
theorem q183_23 : gfB 183 23 41 8 10 = true := by decide +kernel
theorem q183_26 : decode (mB 183) 26 = .ok (.bipush 6, 2) := by decide +kernel
theorem q183_28 : decode (mB 183) 28 = .ok (.iload_n 1, 1) := by decide +kernel
theorem q183_29 : decode (mB 183) 29 = .ok (.imul, 1) := by decide +kernel
theorem q183_30 : decode (mB 183) 30 = .ok (.iconst 2, 1) := by decide +kernel
theorem q183_31 : decode (mB 183) 31 = .ok (.iadd, 1) := by decide +kernel
theorem q183_32 : decode (mB 183) 32 = .ok (.iload_n 2, 1) := by decide +kernel
theorem q183_33 : decode (mB 183) 33 = .ok (.iadd, 1) := by decide +kernel
theorem q183_34 : decode (mB 183) 34 = .ok (.iaload, 1) := by decide +kernel
theorem q183_35 : decode (mB 183) 35 = .ok (.ireturn, 1) := by decide +kernel
theorem q184_0 : decode (mB 184) 0 = .ok (.aload_n 0, 1) := by decide +kernel
theorem q184_1 : decode (mB 184) 1 = .ok (.iload_n 1, 1) := by decide +kernel
theorem q184_2 : decode (mB 184) 2 = .ok (.iconst 0, 1) := by decide +kernel
theorem q184_3 : decode (mB 184) 3 = .ok (.bipush 99, 2) := by decide +kernel
theorem q184_5 : cfB 184 5 61 136 0 4 3 = true := by decide +kernel
theorem q184_8 : decode (mB 184) 8 = .ok (.ifCond .ne 7, 3) := by decide +kernel
theorem q184_11 : decode (mB 184) 11 = .ok (.iconst 1, 1) := by decide +kernel
theorem q184_12 : decode (mB 184) 12 = .ok (.goto 4, 3) := by decide +kernel
theorem q184_15 : decode (mB 184) 15 = .ok (.iconst 0, 1) := by decide +kernel
theorem q184_16 : decode (mB 184) 16 = .ok (.iconst 1, 1) := by decide +kernel
theorem q184_17 : cfB 184 17 65 137 1 4 2 = true := by decide +kernel
theorem q184_20 : decode (mB 184) 20 = .ok (.ifCond .eq 5, 3) := by decide +kernel
theorem q184_23 : decode (mB 184) 23 = .ok (.iconst 0, 1) := by decide +kernel
theorem q184_24 : decode (mB 184) 24 = .ok (.ireturn, 1) := by decide +kernel
theorem q184_25 : decode (mB 184) 25 = .ok (.aload_n 0, 1) := by decide +kernel
theorem q184_26 : gfB 184 26 50 8 16 = true := by decide +kernel
theorem q184_29 : decode (mB 184) 29 = .ok (.istore_n 2, 1) := by decide +kernel
theorem q184_30 : decode (mB 184) 30 = .ok (.aload_n 0, 1) := by decide +kernel
theorem q184_31 : decode (mB 184) 31 = .ok (.iload_n 1, 1) := by decide +kernel
theorem q184_32 : pfB 184 32 50 8 16 = true := by decide +kernel
theorem q184_35 : decode (mB 184) 35 = .ok (.iload_n 2, 1) := by decide +kernel
theorem q184_36 : decode (mB 184) 36 = .ok (.ireturn, 1) := by decide +kernel
theorem q185_0 : decode (mB 185) 0 = .ok (.aload_n 0, 1) := by decide +kernel
theorem q185_1 : cfB 185 1 155 173 1 4 0 = true := by decide +kernel
theorem q185_4 : decode (mB 185) 4 = .ok (.aload_n 0, 1) := by decide +kernel
theorem q185_5 : decode (mB 185) 5 = .ok (.aload_n 0, 1) := by decide +kernel
theorem q185_6 : gfB 185 6 133 8 15 = true := by decide +kernel
theorem q185_9 : decode (mB 185) 9 = .ok (.ifCond .ne 7, 3) := by decide +kernel
theorem q185_12 : decode (mB 185) 12 = .ok (.iconst 1, 1) := by decide +kernel
theorem q185_13 : decode (mB 185) 13 = .ok (.goto 4, 3) := by decide +kernel
theorem q185_16 : decode (mB 185) 16 = .ok (.iconst 0, 1) := by decide +kernel
theorem q185_17 : decode (mB 185) 17 = .ok (.iconst 1, 1) := by decide +kernel
theorem q185_18 : cfB 185 18 65 137 1 4 2 = true := by decide +kernel
theorem q185_21 : decode (mB 185) 21 = .ok (.ifCond .ne 43, 3) := by decide +kernel
theorem q185_24 : decode (mB 185) 24 = .ok (.aload_n 0, 1) := by decide +kernel
theorem q185_25 : gfB 185 25 169 8 21 = true := by decide +kernel
theorem q185_28 : decode (mB 185) 28 = .ok (.ifCond .eq 38, 3) := by decide +kernel
theorem q185_31 : decode (mB 185) 31 = .ok (.aload_n 0, 1) := by decide +kernel
theorem q185_32 : decode (mB 185) 32 = .ok (.aload_n 0, 1) := by decide +kernel
theorem q185_33 : gfB 185 33 38 8 9 = true := by decide +kernel
theorem q185_36 : cfB 185 36 149 167 1 4 1 = true := by decide +kernel
theorem q185_39 : decode (mB 185) 39 = .ok (.ifCond .ne 27, 3) := by decide +kernel
theorem q185_42 : decode (mB 185) 42 = .ok (.aload_n 0, 1) := by decide +kernel
theorem q185_43 : decode (mB 185) 43 = .ok (.aload_n 0, 1) := by decide +kernel
theorem q185_44 : gfB 185 44 38 8 9 = true := by decide +kernel
theorem q185_47 : cfB 185 47 127 170 1 4 1 = true := by decide +kernel
theorem q185_50 : decode (mB 185) 50 = .ok (.aload_n 0, 1) := by decide +kernel
theorem q185_51 : gfB 185 51 44 8 11 = true := by decide +kernel
theorem q185_54 : decode (mB 185) 54 = .ok (.iconst 0, 1) := by decide +kernel
theorem q185_55 : decode (mB 185) 55 = .ok (.iaload, 1) := by decide +kernel
theorem q185_56 : decode (mB 185) 56 = .ok (.aload_n 0, 1) := by decide +kernel
theorem q185_57 : gfB 185 57 50 8 16 = true := by decide +kernel
theorem q185_60 : decode (mB 185) 60 = .ok (.iadd, 1) := by decide +kernel
theorem q185_61 : decode (mB 185) 61 = .ok (.if_icmp .gt 5, 3) := by decide +kernel
theorem q185_64 : decode (mB 185) 64 = .ok (.iconst 0, 1) := by decide +kernel
theorem q185_65 : decode (mB 185) 65 = .ok (.ireturn, 1) := by decide +kernel
theorem q185_66 : decode (mB 185) 66 = .ok (.aload_n 0, 1) := by decide +kernel
theorem q185_67 : gfB 185 67 169 8 21 = true := by decide +kernel
theorem q185_70 : decode (mB 185) 70 = .ok (.ifCond .eq 81, 3) := by decide +kernel
theorem q185_73 : decode (mB 185) 73 = .ok (.bipush 23, 2) := by decide +kernel
theorem q185_75 : decode (mB 185) 75 = .ok (.istore_n 1, 1) := by decide +kernel
theorem q185_76 : decode (mB 185) 76 = .ok (.iload_n 1, 1) := by decide +kernel
theorem q185_77 : decode (mB 185) 77 = .ok (.bipush 6, 2) := by decide +kernel
theorem q185_79 : decode (mB 185) 79 = .ok (.if_icmp .lt 24, 3) := by decide +kernel
theorem q185_82 : decode (mB 185) 82 = .ok (.aload_n 0, 1) := by decide +kernel
theorem q185_83 : gfB 185 83 47 8 12 = true := by decide +kernel
theorem q185_86 : decode (mB 185) 86 = .ok (.iload_n 1, 1) := by decide +kernel
theorem q185_87 : decode (mB 185) 87 = .ok (.aload_n 0, 1) := by decide +kernel
theorem q185_88 : gfB 185 88 47 8 12 = true := by decide +kernel
theorem q185_91 : decode (mB 185) 91 = .ok (.iload_n 1, 1) := by decide +kernel
theorem q185_92 : decode (mB 185) 92 = .ok (.bipush 6, 2) := by decide +kernel
theorem q185_94 : decode (mB 185) 94 = .ok (.isub, 1) := by decide +kernel
theorem q185_95 : decode (mB 185) 95 = .ok (.iaload, 1) := by decide +kernel
theorem q185_96 : decode (mB 185) 96 = .ok (.iastore, 1) := by decide +kernel
theorem q185_97 : decode (mB 185) 97 = .ok (.iinc 1 (-1), 3) := by decide +kernel
theorem q185_100 : decode (mB 185) 100 = .ok (.goto (-24), 3) := by decide +kernel
theorem q185_103 : decode (mB 185) 103 = .ok (.iconst 0, 1) := by decide +kernel
theorem q185_104 : decode (mB 185) 104 = .ok (.istore_n 1, 1) := by decide +kernel
theorem q185_105 : decode (mB 185) 105 = .ok (.iload_n 1, 1) := by decide +kernel
theorem q185_106 : decode (mB 185) 106 = .ok (.bipush 6, 2) := by decide +kernel
theorem q185_108 : decode (mB 185) 108 = .ok (.if_icmp .ge 21, 3) := by decide +kernel
theorem q185_111 : decode (mB 185) 111 = .ok (.aload_n 0, 1) := by decide +kernel
theorem q185_112 : gfB 185 112 47 8 12 = true := by decide +kernel
theorem q185_115 : decode (mB 185) 115 = .ok (.iload_n 1, 1) := by decide +kernel
theorem q185_116 : decode (mB 185) 116 = .ok (.aload_n 0, 1) := by decide +kernel
theorem q185_117 : gfB 185 117 38 8 9 = true := by decide +kernel
theorem q185_120 : decode (mB 185) 120 = .ok (.iload_n 1, 1) := by decide +kernel
theorem q185_121 : decode (mB 185) 121 = .ok (.iaload, 1) := by decide +kernel
theorem q185_122 : decode (mB 185) 122 = .ok (.iastore, 1) := by decide +kernel
theorem q185_123 : decode (mB 185) 123 = .ok (.iinc 1 1, 3) := by decide +kernel
theorem q185_126 : decode (mB 185) 126 = .ok (.goto (-21), 3) := by decide +kernel
theorem q185_129 : decode (mB 185) 129 = .ok (.aload_n 0, 1) := by decide +kernel
theorem q185_130 : decode (mB 185) 130 = .ok (.dup, 1) := by decide +kernel
theorem q185_131 : gfB 185 131 172 8 14 = true := by decide +kernel
theorem q185_134 : decode (mB 185) 134 = .ok (.aload_n 0, 1) := by decide +kernel
theorem q185_135 : gfB 185 135 172 8 14 = true := by decide +kernel
theorem q185_138 : decode (mB 185) 138 = .ok (.iconst 4, 1) := by decide +kernel
theorem q185_139 : decode (mB 185) 139 = .ok (.if_icmp .ge 7, 3) := by decide +kernel
theorem q185_142 : decode (mB 185) 142 = .ok (.iconst 1, 1) := by decide +kernel
theorem q185_143 : decode (mB 185) 143 = .ok (.goto 4, 3) := by decide +kernel
theorem q185_146 : decode (mB 185) 146 = .ok (.iconst 0, 1) := by decide +kernel
theorem q185_147 : decode (mB 185) 147 = .ok (.iadd, 1) := by decide +kernel
theorem q185_148 : pfB 185 148 172 8 14 = true := by decide +kernel
theorem q185_151 : decode (mB 185) 151 = .ok (.iconst 0, 1) := by decide +kernel
theorem q185_152 : decode (mB 185) 152 = .ok (.istore_n 1, 1) := by decide +kernel
theorem q185_153 : decode (mB 185) 153 = .ok (.iload_n 1, 1) := by decide +kernel
theorem q185_154 : decode (mB 185) 154 = .ok (.bipush 6, 2) := by decide +kernel
theorem q185_156 : decode (mB 185) 156 = .ok (.if_icmp .ge 21, 3) := by decide +kernel
theorem q185_159 : decode (mB 185) 159 = .ok (.aload_n 0, 1) := by decide +kernel
theorem q185_160 : gfB 185 160 38 8 9 = true := by decide +kernel
theorem q185_163 : decode (mB 185) 163 = .ok (.iload_n 1, 1) := by decide +kernel
theorem q185_164 : decode (mB 185) 164 = .ok (.aload_n 0, 1) := by decide +kernel
theorem q185_165 : gfB 185 165 41 8 10 = true := by decide +kernel
theorem q185_168 : decode (mB 185) 168 = .ok (.iload_n 1, 1) := by decide +kernel
theorem q185_169 : decode (mB 185) 169 = .ok (.iaload, 1) := by decide +kernel
theorem q185_170 : decode (mB 185) 170 = .ok (.iastore, 1) := by decide +kernel
theorem q185_171 : decode (mB 185) 171 = .ok (.iinc 1 1, 3) := by decide +kernel
theorem q185_174 : decode (mB 185) 174 = .ok (.goto (-21), 3) := by decide +kernel
theorem q185_177 : decode (mB 185) 177 = .ok (.aload_n 0, 1) := by decide +kernel
theorem q185_178 : decode (mB 185) 178 = .ok (.iconst 1, 1) := by decide +kernel
theorem q185_179 : pfB 185 179 169 8 21 = true := by decide +kernel
theorem q185_182 : decode (mB 185) 182 = .ok (.iconst 1, 1) := by decide +kernel
theorem q185_183 : decode (mB 185) 183 = .ok (.ireturn, 1) := by decide +kernel
theorem q186_0 : decode (mB 186) 0 = .ok (.aload_n 0, 1) := by decide +kernel
theorem q186_1 : decode (mB 186) 1 = .ok (.aload_n 0, 1) := by decide +kernel
theorem q186_2 : gfB 186 2 169 8 21 = true := by decide +kernel
theorem q186_5 : decode (mB 186) 5 = .ok (.ifCond .ne 7, 3) := by decide +kernel
theorem q186_8 : decode (mB 186) 8 = .ok (.iconst 1, 1) := by decide +kernel
theorem q186_9 : decode (mB 186) 9 = .ok (.goto 4, 3) := by decide +kernel
theorem q186_12 : decode (mB 186) 12 = .ok (.iconst 0, 1) := by decide +kernel
theorem q186_13 : decode (mB 186) 13 = .ok (.iconst 1, 1) := by decide +kernel
theorem q186_14 : cfB 186 14 65 137 1 4 2 = true := by decide +kernel
theorem q186_17 : decode (mB 186) 17 = .ok (.ifCond .eq 8, 3) := by decide +kernel
theorem q186_20 : decode (mB 186) 20 = .ok (.bipush 45, 2) := by decide +kernel
theorem q186_22 : decode (mB 186) 22 = .ok (.goto 12, 3) := by decide +kernel
theorem q186_25 : decode (mB 186) 25 = .ok (.aload_n 0, 1) := by decide +kernel
theorem q186_26 : gfB 186 26 38 8 9 = true := by decide +kernel
theorem q186_29 : decode (mB 186) 29 = .ok (.iconst 0, 1) := by decide +kernel
theorem q186_30 : decode (mB 186) 30 = .ok (.iaload, 1) := by decide +kernel
theorem q186_31 : cfB 186 31 162 179 0 4 1 = true := by decide +kernel
theorem q186_34 : decode (mB 186) 34 = .ok (.ireturn, 1) := by decide +kernel
theorem q187_0 : decode (mB 187) 0 = .ok (.aload_n 0, 1) := by decide +kernel
theorem q187_1 : decode (mB 187) 1 = .ok (.aload_n 0, 1) := by decide +kernel
theorem q187_2 : gfB 187 2 169 8 21 = true := by decide +kernel
theorem q187_5 : decode (mB 187) 5 = .ok (.ifCond .ne 7, 3) := by decide +kernel
theorem q187_8 : decode (mB 187) 8 = .ok (.iconst 1, 1) := by decide +kernel
theorem q187_9 : decode (mB 187) 9 = .ok (.goto 4, 3) := by decide +kernel
theorem q187_12 : decode (mB 187) 12 = .ok (.iconst 0, 1) := by decide +kernel
theorem q187_13 : decode (mB 187) 13 = .ok (.iconst 1, 1) := by decide +kernel
theorem q187_14 : cfB 187 14 65 137 1 4 2 = true := by decide +kernel
theorem q187_17 : decode (mB 187) 17 = .ok (.ifCond .eq 7, 3) := by decide +kernel
theorem q187_20 : decode (mB 187) 20 = .ok (.iconst 0, 1) := by decide +kernel
theorem q187_21 : decode (mB 187) 21 = .ok (.goto 9, 3) := by decide +kernel
theorem q187_24 : decode (mB 187) 24 = .ok (.aload_n 0, 1) := by decide +kernel
theorem q187_25 : gfB 187 25 38 8 9 = true := by decide +kernel
theorem q187_28 : decode (mB 187) 28 = .ok (.iconst 1, 1) := by decide +kernel
theorem q187_29 : decode (mB 187) 29 = .ok (.iaload, 1) := by decide +kernel
theorem q187_30 : decode (mB 187) 30 = .ok (.ireturn, 1) := by decide +kernel
theorem q188_0 : decode (mB 188) 0 = .ok (.aload_n 0, 1) := by decide +kernel
theorem q188_1 : decode (mB 188) 1 = .ok (.iload_n 1, 1) := by decide +kernel
theorem q188_2 : decode (mB 188) 2 = .ok (.iconst 1, 1) := by decide +kernel
theorem q188_3 : cfB 188 3 166 182 1 4 2 = true := by decide +kernel
theorem q188_6 : decode (mB 188) 6 = .ok (.ifCond .ne 23, 3) := by decide +kernel
theorem q188_9 : decode (mB 188) 9 = .ok (.aload_n 0, 1) := by decide +kernel
theorem q188_10 : decode (mB 188) 10 = .ok (.aload_n 0, 1) := by decide +kernel
theorem q188_11 : gfB 188 11 169 8 21 = true := by decide +kernel
theorem q188_14 : decode (mB 188) 14 = .ok (.ifCond .ne 7, 3) := by decide +kernel
theorem q188_17 : decode (mB 188) 17 = .ok (.iconst 1, 1) := by decide +kernel
theorem q188_18 : decode (mB 188) 18 = .ok (.goto 4, 3) := by decide +kernel
theorem q188_21 : decode (mB 188) 21 = .ok (.iconst 0, 1) := by decide +kernel
theorem q188_22 : decode (mB 188) 22 = .ok (.iconst 2, 1) := by decide +kernel
theorem q188_23 : cfB 188 23 65 137 1 4 2 = true := by decide +kernel
theorem q188_26 : decode (mB 188) 26 = .ok (.ifCond .eq 7, 3) := by decide +kernel
theorem q188_29 : decode (mB 188) 29 = .ok (.iconst 0, 1) := by decide +kernel
theorem q188_30 : decode (mB 188) 30 = .ok (.goto 11, 3) := by decide +kernel
theorem q188_33 : decode (mB 188) 33 = .ok (.aload_n 0, 1) := by decide +kernel
theorem q188_34 : gfB 188 34 38 8 9 = true := by decide +kernel
theorem q188_37 : decode (mB 188) 37 = .ok (.iconst 2, 1) := by decide +kernel
theorem q188_38 : decode (mB 188) 38 = .ok (.iload_n 1, 1) := by decide +kernel
theorem q188_39 : decode (mB 188) 39 = .ok (.iadd, 1) := by decide +kernel
theorem q188_40 : decode (mB 188) 40 = .ok (.iaload, 1) := by decide +kernel
theorem q188_41 : decode (mB 188) 41 = .ok (.ireturn, 1) := by decide +kernel
theorem q189_0 : decode (mB 189) 0 = .ok (.aload_n 0, 1) := by decide +kernel
theorem q189_1 : decode (mB 189) 1 = .ok (.iconst 0, 1) := by decide +kernel
theorem q189_2 : pfB 189 2 58 8 19 = true := by decide +kernel
theorem q189_5 : decode (mB 189) 5 = .ok (.aload_n 0, 1) := by decide +kernel
theorem q189_6 : gfB 189 6 172 8 14 = true := by decide +kernel
theorem q189_9 : decode (mB 189) 9 = .ok (.ireturn, 1) := by decide +kernel
theorem q190_0 : decode (mB 190) 0 = .ok (.aload_n 0, 1) := by decide +kernel
theorem q190_1 : decode (mB 190) 1 = .ok (.dup, 1) := by decide +kernel
theorem q190_2 : gfB 190 2 172 8 14 = true := by decide +kernel
theorem q190_5 : decode (mB 190) 5 = .ok (.iconst 1, 1) := by decide +kernel
theorem q190_6 : decode (mB 190) 6 = .ok (.isub, 1) := by decide +kernel
theorem q190_7 : pfB 190 7 172 8 14 = true := by decide +kernel
theorem q190_10 : decode (mB 190) 10 = .ok (.bipush 6, 2) := by decide +kernel
theorem q190_12 : decode (mB 190) 12 = .ok (.iload_n 1, 1) := by decide +kernel
theorem q190_13 : decode (mB 190) 13 = .ok (.imul, 1) := by decide +kernel
theorem q190_14 : decode (mB 190) 14 = .ok (.istore_n 2, 1) := by decide +kernel
theorem q190_15 : decode (mB 190) 15 = .ok (.iload_n 2, 1) := by decide +kernel
theorem q190_16 : decode (mB 190) 16 = .ok (.bipush 6, 2) := by decide +kernel
theorem q190_18 : decode (mB 190) 18 = .ok (.aload_n 0, 1) := by decide +kernel
theorem q190_19 : gfB 190 19 172 8 14 = true := by decide +kernel
theorem q190_22 : decode (mB 190) 22 = .ok (.imul, 1) := by decide +kernel
theorem q190_23 : decode (mB 190) 23 = .ok (.if_icmp .ge 24, 3) := by decide +kernel
theorem q190_26 : decode (mB 190) 26 = .ok (.aload_n 0, 1) := by decide +kernel
theorem q190_27 : gfB 190 27 47 8 12 = true := by decide +kernel
theorem q190_30 : decode (mB 190) 30 = .ok (.iload_n 2, 1) := by decide +kernel
theorem q190_31 : decode (mB 190) 31 = .ok (.aload_n 0, 1) := by decide +kernel
theorem q190_32 : gfB 190 32 47 8 12 = true := by decide +kernel
theorem q190_35 : decode (mB 190) 35 = .ok (.iload_n 2, 1) := by decide +kernel
theorem q190_36 : decode (mB 190) 36 = .ok (.bipush 6, 2) := by decide +kernel
theorem q190_38 : decode (mB 190) 38 = .ok (.iadd, 1) := by decide +kernel
theorem q190_39 : decode (mB 190) 39 = .ok (.iaload, 1) := by decide +kernel
theorem q190_40 : decode (mB 190) 40 = .ok (.iastore, 1) := by decide +kernel
theorem q190_41 : decode (mB 190) 41 = .ok (.iinc 2 1, 3) := by decide +kernel
theorem q190_44 : decode (mB 190) 44 = .ok (.goto (-29), 3) := by decide +kernel
theorem q190_47 : decode (mB 190) 47 = .ok (.return_, 1) := by decide +kernel
theorem q191_0 : decode (mB 191) 0 = .ok (.aload_n 0, 1) := by decide +kernel
theorem q191_1 : decode (mB 191) 1 = .ok (.aload_n 0, 1) := by decide +kernel
theorem q191_2 : gfB 191 2 172 8 14 = true := by decide +kernel
theorem q191_5 : decode (mB 191) 5 = .ok (.ifCond .ne 7, 3) := by decide +kernel
theorem q191_8 : decode (mB 191) 8 = .ok (.iconst 1, 1) := by decide +kernel
theorem q191_9 : decode (mB 191) 9 = .ok (.goto 4, 3) := by decide +kernel
theorem q191_12 : decode (mB 191) 12 = .ok (.iconst 0, 1) := by decide +kernel
theorem q191_13 : decode (mB 191) 13 = .ok (.iconst 1, 1) := by decide +kernel
theorem q191_14 : cfB 191 14 65 137 1 4 2 = true := by decide +kernel
theorem q191_17 : decode (mB 191) 17 = .ok (.ifCond .eq 5, 3) := by decide +kernel
theorem q191_20 : decode (mB 191) 20 = .ok (.iconst 0, 1) := by decide +kernel
theorem q191_21 : decode (mB 191) 21 = .ok (.ireturn, 1) := by decide +kernel
theorem q191_22 : decode (mB 191) 22 = .ok (.iconst 0, 1) := by decide +kernel
theorem q191_23 : decode (mB 191) 23 = .ok (.istore_n 1, 1) := by decide +kernel
theorem q191_24 : decode (mB 191) 24 = .ok (.iload_n 1, 1) := by decide +kernel
theorem q191_25 : decode (mB 191) 25 = .ok (.bipush 6, 2) := by decide +kernel
theorem q191_27 : decode (mB 191) 27 = .ok (.if_icmp .ge 21, 3) := by decide +kernel
theorem q191_30 : decode (mB 191) 30 = .ok (.aload_n 0, 1) := by decide +kernel
theorem q191_31 : gfB 191 31 38 8 9 = true := by decide +kernel
theorem q191_34 : decode (mB 191) 34 = .ok (.iload_n 1, 1) := by decide +kernel
theorem q191_35 : decode (mB 191) 35 = .ok (.aload_n 0, 1) := by decide +kernel
theorem q191_36 : gfB 191 36 47 8 12 = true := by decide +kernel
theorem q191_39 : decode (mB 191) 39 = .ok (.iload_n 1, 1) := by decide +kernel
theorem q191_40 : decode (mB 191) 40 = .ok (.iaload, 1) := by decide +kernel
theorem q191_41 : decode (mB 191) 41 = .ok (.iastore, 1) := by decide +kernel
theorem q191_42 : decode (mB 191) 42 = .ok (.iinc 1 1, 3) := by decide +kernel
theorem q191_45 : decode (mB 191) 45 = .ok (.goto (-21), 3) := by decide +kernel
theorem q191_48 : decode (mB 191) 48 = .ok (.aload_n 0, 1) := by decide +kernel
theorem q191_49 : decode (mB 191) 49 = .ok (.iconst 0, 1) := by decide +kernel
theorem q191_50 : cfB 191 50 175 190 1 4 1 = true := by decide +kernel
theorem q191_53 : decode (mB 191) 53 = .ok (.aload_n 0, 1) := by decide +kernel
theorem q191_54 : gfB 191 54 172 8 14 = true := by decide +kernel
theorem q191_57 : decode (mB 191) 57 = .ok (.ireturn, 1) := by decide +kernel
theorem q192_0 : decode (mB 192) 0 = .ok (.aload_n 0, 1) := by decide +kernel
theorem q192_1 : decode (mB 192) 1 = .ok (.iconst 0, 1) := by decide +kernel
theorem q192_2 : pfB 192 2 58 8 19 = true := by decide +kernel
theorem q192_5 : decode (mB 192) 5 = .ok (.aload_n 0, 1) := by decide +kernel
theorem q192_6 : cfB 192 6 136 164 1 4 0 = true := by decide +kernel
theorem q192_9 : decode (mB 192) 9 = .ok (.iconst 0, 1) := by decide +kernel
theorem q192_10 : decode (mB 192) 10 = .ok (.istore_n 1, 1) := by decide +kernel
theorem q192_11 : decode (mB 192) 11 = .ok (.aload_n 0, 1) := by decide +kernel
theorem q192_12 : gfB 192 12 172 8 14 = true := by decide +kernel
theorem q192_15 : decode (mB 192) 15 = .ok (.iconst 1, 1) := by decide +kernel
theorem q192_16 : decode (mB 192) 16 = .ok (.isub, 1) := by decide +kernel
theorem q192_17 : decode (mB 192) 17 = .ok (.istore_n 2, 1) := by decide +kernel
theorem q192_18 : decode (mB 192) 18 = .ok (.iload_n 2, 1) := by decide +kernel
theorem q192_19 : decode (mB 192) 19 = .ok (.ifCond .lt 59, 3) := by decide +kernel
theorem q192_22 : decode (mB 192) 22 = .ok (.iconst 0, 1) := by decide +kernel
theorem q192_23 : decode (mB 192) 23 = .ok (.istore_n 3, 1) := by decide +kernel
theorem q192_24 : decode (mB 192) 24 = .ok (.iload_n 3, 1) := by decide +kernel
theorem q192_25 : decode (mB 192) 25 = .ok (.bipush 6, 2) := by decide +kernel
theorem q192_27 : decode (mB 192) 27 = .ok (.if_icmp .ge 26, 3) := by decide +kernel
theorem q192_30 : decode (mB 192) 30 = .ok (.aload_n 0, 1) := by decide +kernel
theorem q192_31 : gfB 192 31 32 8 7 = true := by decide +kernel
theorem q192_34 : decode (mB 192) 34 = .ok (.iload_n 3, 1) := by decide +kernel
theorem q192_35 : decode (mB 192) 35 = .ok (.aload_n 0, 1) := by decide +kernel
theorem q192_36 : gfB 192 36 47 8 12 = true := by decide +kernel
theorem q192_39 : decode (mB 192) 39 = .ok (.bipush 6, 2) := by decide +kernel
theorem q192_41 : decode (mB 192) 41 = .ok (.iload_n 2, 1) := by decide +kernel
theorem q192_42 : decode (mB 192) 42 = .ok (.imul, 1) := by decide +kernel
theorem q192_43 : decode (mB 192) 43 = .ok (.iload_n 3, 1) := by decide +kernel
theorem q192_44 : decode (mB 192) 44 = .ok (.iadd, 1) := by decide +kernel
theorem q192_45 : decode (mB 192) 45 = .ok (.iaload, 1) := by decide +kernel
theorem q192_46 : decode (mB 192) 46 = .ok (.iastore, 1) := by decide +kernel
theorem q192_47 : decode (mB 192) 47 = .ok (.iinc 3 1, 3) := by decide +kernel
theorem q192_50 : decode (mB 192) 50 = .ok (.goto (-26), 3) := by decide +kernel
theorem q192_53 : decode (mB 192) 53 = .ok (.aload_n 0, 1) := by decide +kernel
theorem q192_54 : decode (mB 192) 54 = .ok (.aload_n 0, 1) := by decide +kernel
theorem q192_55 : gfB 192 55 32 8 7 = true := by decide +kernel
theorem q192_58 : cfB 192 58 149 167 1 4 1 = true := by decide +kernel
theorem q192_61 : decode (mB 192) 61 = .ok (.ifCond .eq 11, 3) := by decide +kernel
theorem q192_64 : decode (mB 192) 64 = .ok (.aload_n 0, 1) := by decide +kernel
theorem q192_65 : decode (mB 192) 65 = .ok (.iload_n 2, 1) := by decide +kernel
theorem q192_66 : cfB 192 66 175 190 1 4 1 = true := by decide +kernel
theorem q192_69 : decode (mB 192) 69 = .ok (.iinc 1 1, 3) := by decide +kernel
theorem q192_72 : decode (mB 192) 72 = .ok (.iinc 2 (-1), 3) := by decide +kernel
theorem q192_75 : decode (mB 192) 75 = .ok (.goto (-57), 3) := by decide +kernel
theorem q192_78 : decode (mB 192) 78 = .ok (.iload_n 1, 1) := by decide +kernel
theorem q192_79 : decode (mB 192) 79 = .ok (.ireturn, 1) := by decide +kernel
theorem q193_0 : decode (mB 193) 0 = .ok (.aload_n 0, 1) := by decide +kernel
theorem q193_1 : decode (mB 193) 1 = .ok (.iload_n 1, 1) := by decide +kernel
theorem q193_2 : cfB 193 2 104 158 0 4 1 = true := by decide +kernel
theorem q193_5 : decode (mB 193) 5 = .ok (.ifCond .ne 7, 3) := by decide +kernel
theorem q193_8 : decode (mB 193) 8 = .ok (.iconst 1, 1) := by decide +kernel
theorem q193_9 : decode (mB 193) 9 = .ok (.goto 4, 3) := by decide +kernel
theorem q193_12 : decode (mB 193) 12 = .ok (.iconst 0, 1) := by decide +kernel
theorem q193_13 : decode (mB 193) 13 = .ok (.iconst 1, 1) := by decide +kernel
theorem q193_14 : cfB 193 14 65 137 1 4 2 = true := by decide +kernel
theorem q193_17 : decode (mB 193) 17 = .ok (.ifCond .eq 6, 3) := by decide +kernel
theorem q193_20 : decode (mB 193) 20 = .ok (.bipush 45, 2) := by decide +kernel
theorem q193_22 : decode (mB 193) 22 = .ok (.ireturn, 1) := by decide +kernel
theorem q193_23 : decode (mB 193) 23 = .ok (.aload_n 0, 1) := by decide +kernel
theorem q193_24 : gfB 193 24 35 8 8 = true := by decide +kernel
theorem q193_27 : decode (mB 193) 27 = .ok (.iconst 0, 1) := by decide +kernel
theorem q193_28 : decode (mB 193) 28 = .ok (.iaload, 1) := by decide +kernel
theorem q193_29 : cfB 193 29 162 179 0 4 1 = true := by decide +kernel
theorem q193_32 : decode (mB 193) 32 = .ok (.istore_n 2, 1) := by decide +kernel
theorem q193_33 : decode (mB 193) 33 = .ok (.aload_n 0, 1) := by decide +kernel
theorem q193_34 : decode (mB 193) 34 = .ok (.iconst 0, 1) := by decide +kernel
theorem q193_35 : pfB 193 35 76 8 22 = true := by decide +kernel
theorem q193_38 : decode (mB 193) 38 = .ok (.aload_n 0, 1) := by decide +kernel
theorem q193_39 : gfB 193 39 35 8 8 = true := by decide +kernel
theorem q193_42 : decode (mB 193) 42 = .ok (.iconst 0, 1) := by decide +kernel
theorem q193_43 : decode (mB 193) 43 = .ok (.iload_n 1, 1) := by decide +kernel
theorem q193_44 : decode (mB 193) 44 = .ok (.bipush 98, 2) := by decide +kernel
theorem q193_46 : decode (mB 193) 46 = .ok (.if_icmp .ne 7, 3) := by decide +kernel
theorem q193_49 : decode (mB 193) 49 = .ok (.iconst 0, 1) := by decide +kernel
theorem q193_50 : decode (mB 193) 50 = .ok (.goto 14, 3) := by decide +kernel
theorem q193_53 : decode (mB 193) 53 = .ok (.iload_n 1, 1) := by decide +kernel
theorem q193_54 : decode (mB 193) 54 = .ok (.bipush 108, 2) := by decide +kernel
theorem q193_56 : decode (mB 193) 56 = .ok (.if_icmp .ne 7, 3) := by decide +kernel
theorem q193_59 : decode (mB 193) 59 = .ok (.iconst 1, 1) := by decide +kernel
theorem q193_60 : decode (mB 193) 60 = .ok (.goto 4, 3) := by decide +kernel
theorem q193_63 : decode (mB 193) 63 = .ok (.iconst 2, 1) := by decide +kernel
theorem q193_64 : decode (mB 193) 64 = .ok (.iastore, 1) := by decide +kernel
theorem q193_65 : decode (mB 193) 65 = .ok (.iload_n 2, 1) := by decide +kernel
theorem q193_66 : decode (mB 193) 66 = .ok (.ireturn, 1) := by decide +kernel
theorem q194_0 : decode (mB 194) 0 = .ok (.aload_n 0, 1) := by decide +kernel
theorem q194_1 : decode (mB 194) 1 = .ok (.iload_n 1, 1) := by decide +kernel
theorem q194_2 : decode (mB 194) 2 = .ok (.iconst 0, 1) := by decide +kernel
theorem q194_3 : decode (mB 194) 3 = .ok (.iconst 2, 1) := by decide +kernel
theorem q194_4 : cfB 194 4 61 136 0 4 3 = true := by decide +kernel
theorem q194_7 : decode (mB 194) 7 = .ok (.ifCond .ne 7, 3) := by decide +kernel
theorem q194_10 : decode (mB 194) 10 = .ok (.iconst 1, 1) := by decide +kernel
theorem q194_11 : decode (mB 194) 11 = .ok (.goto 4, 3) := by decide +kernel
theorem q194_14 : decode (mB 194) 14 = .ok (.iconst 0, 1) := by decide +kernel
theorem q194_15 : decode (mB 194) 15 = .ok (.iconst 1, 1) := by decide +kernel
theorem q194_16 : cfB 194 16 65 137 1 4 2 = true := by decide +kernel
theorem q194_19 : decode (mB 194) 19 = .ok (.ifCond .eq 5, 3) := by decide +kernel
theorem q194_22 : decode (mB 194) 22 = .ok (.iconst 0, 1) := by decide +kernel
theorem q194_23 : decode (mB 194) 23 = .ok (.ireturn, 1) := by decide +kernel
theorem q194_24 : decode (mB 194) 24 = .ok (.aload_n 0, 1) := by decide +kernel
theorem q194_25 : gfB 194 25 35 8 8 = true := by decide +kernel
theorem q194_28 : decode (mB 194) 28 = .ok (.iconst 1, 1) := by decide +kernel
theorem q194_29 : decode (mB 194) 29 = .ok (.iaload, 1) := by decide +kernel
theorem q194_30 : decode (mB 194) 30 = .ok (.istore_n 2, 1) := by decide +kernel
theorem q194_31 : decode (mB 194) 31 = .ok (.aload_n 0, 1) := by decide +kernel
theorem q194_32 : decode (mB 194) 32 = .ok (.iconst 0, 1) := by decide +kernel
theorem q194_33 : pfB 194 33 76 8 22 = true := by decide +kernel
theorem q194_36 : decode (mB 194) 36 = .ok (.aload_n 0, 1) := by decide +kernel
theorem q194_37 : gfB 194 37 35 8 8 = true := by decide +kernel
theorem q194_40 : decode (mB 194) 40 = .ok (.iconst 1, 1) := by decide +kernel
theorem q194_41 : decode (mB 194) 41 = .ok (.iload_n 1, 1) := by decide +kernel
theorem q194_42 : decode (mB 194) 42 = .ok (.iastore, 1) := by decide +kernel
theorem q194_43 : decode (mB 194) 43 = .ok (.iload_n 2, 1) := by decide +kernel
theorem q194_44 : decode (mB 194) 44 = .ok (.ireturn, 1) := by decide +kernel
theorem q195_0 : decode (mB 195) 0 = .ok (.aload_n 0, 1) := by decide +kernel
theorem q195_1 : decode (mB 195) 1 = .ok (.iload_n 1, 1) := by decide +kernel
theorem q195_2 : decode (mB 195) 2 = .ok (.iconst 0, 1) := by decide +kernel
theorem q195_3 : decode (mB 195) 3 = .ok (.iconst 3, 1) := by decide +kernel
theorem q195_4 : cfB 195 4 61 136 0 4 3 = true := by decide +kernel
theorem q195_7 : decode (mB 195) 7 = .ok (.ifCond .eq 12, 3) := by decide +kernel
theorem q195_10 : decode (mB 195) 10 = .ok (.iload_n 2, 1) := by decide +kernel
theorem q195_11 : decode (mB 195) 11 = .ok (.iconst (-1), 1) := by decide +kernel
theorem q195_12 : decode (mB 195) 12 = .ok (.iconst 5, 1) := by decide +kernel
theorem q195_13 : cfB 195 13 61 136 0 4 3 = true := by decide +kernel
theorem q195_16 : decode (mB 195) 16 = .ok (.ifCond .ne 7, 3) := by decide +kernel
theorem q195_19 : decode (mB 195) 19 = .ok (.iconst 1, 1) := by decide +kernel
theorem q195_20 : decode (mB 195) 20 = .ok (.goto 4, 3) := by decide +kernel
theorem q195_23 : decode (mB 195) 23 = .ok (.iconst 0, 1) := by decide +kernel
theorem q195_24 : decode (mB 195) 24 = .ok (.iconst 1, 1) := by decide +kernel
theorem q195_25 : cfB 195 25 65 137 1 4 2 = true := by decide +kernel
theorem q195_28 : decode (mB 195) 28 = .ok (.ifCond .eq 5, 3) := by decide +kernel
theorem q195_31 : decode (mB 195) 31 = .ok (.iconst 0, 1) := by decide +kernel
theorem q195_32 : decode (mB 195) 32 = .ok (.ireturn, 1) := by decide +kernel
theorem q195_33 : decode (mB 195) 33 = .ok (.iconst 0, 1) := by decide +kernel
theorem q195_34 : decode (mB 195) 34 = .ok (.istore_n 3, 1) := by decide +kernel
theorem q195_35 : decode (mB 195) 35 = .ok (.iconst 0, 1) := by decide +kernel
theorem q195_36 : decode (mB 195) 36 = .ok (.istore 4, 2) := by decide +kernel
theorem q195_38 : decode (mB 195) 38 = .ok (.iload 4, 2) := by decide +kernel
theorem q195_40 : decode (mB 195) 40 = .ok (.iconst 4, 1) := by decide +kernel
theorem q195_41 : decode (mB 195) 41 = .ok (.if_icmp .ge 40, 3) := by decide +kernel
theorem q195_44 : decode (mB 195) 44 = .ok (.iload_n 3, 1) := by decide +kernel
theorem q195_45 : decode (mB 195) 45 = .ok (.iload 4, 2) := by decide +kernel
theorem q195_47 : decode (mB 195) 47 = .ok (.iload_n 1, 1) := by decide +kernel
theorem q195_48 : decode (mB 195) 48 = .ok (.if_icmp .eq 24, 3) := by decide +kernel
theorem q195_51 : decode (mB 195) 51 = .ok (.iload_n 2, 1) := by decide +kernel
theorem q195_52 : decode (mB 195) 52 = .ok (.ifCond .lt 20, 3) := by decide +kernel
theorem q195_55 : decode (mB 195) 55 = .ok (.aload_n 0, 1) := by decide +kernel
theorem q195_56 : gfB 195 56 35 8 8 = true := by decide +kernel
theorem q195_59 : decode (mB 195) 59 = .ok (.iconst 2, 1) := by decide +kernel
theorem q195_60 : decode (mB 195) 60 = .ok (.iload 4, 2) := by decide +kernel
theorem q195_62 : decode (mB 195) 62 = .ok (.iadd, 1) := by decide +kernel
theorem q195_63 : decode (mB 195) 63 = .ok (.iaload, 1) := by decide +kernel
theorem q195_64 : decode (mB 195) 64 = .ok (.iload_n 2, 1) := by decide +kernel
theorem q195_65 : decode (mB 195) 65 = .ok (.if_icmp .ne 7, 3) := by decide +kernel
theorem q195_68 : decode (mB 195) 68 = .ok (.iconst 1, 1) := by decide +kernel
theorem q195_69 : decode (mB 195) 69 = .ok (.goto 4, 3) := by decide +kernel
theorem q195_72 : decode (mB 195) 72 = .ok (.iconst 0, 1) := by decide +kernel
theorem q195_73 : decode (mB 195) 73 = .ok (.ior, 1) := by decide +kernel
theorem q195_74 : decode (mB 195) 74 = .ok (.istore_n 3, 1) := by decide +kernel
theorem q195_75 : decode (mB 195) 75 = .ok (.iinc 4 1, 3) := by decide +kernel
theorem q195_78 : decode (mB 195) 78 = .ok (.goto (-40), 3) := by decide +kernel
theorem q195_81 : decode (mB 195) 81 = .ok (.aload_n 0, 1) := by decide +kernel
theorem q195_82 : decode (mB 195) 82 = .ok (.iload_n 3, 1) := by decide +kernel
theorem q195_83 : decode (mB 195) 83 = .ok (.iconst 2, 1) := by decide +kernel
theorem q195_84 : cfB 195 84 65 137 1 4 2 = true := by decide +kernel
theorem q195_87 : decode (mB 195) 87 = .ok (.ifCond .eq 5, 3) := by decide +kernel
theorem q195_90 : decode (mB 195) 90 = .ok (.iconst 0, 1) := by decide +kernel
theorem q195_91 : decode (mB 195) 91 = .ok (.ireturn, 1) := by decide +kernel
theorem q195_92 : decode (mB 195) 92 = .ok (.aload_n 0, 1) := by decide +kernel
theorem q195_93 : gfB 195 93 35 8 8 = true := by decide +kernel
theorem q195_96 : decode (mB 195) 96 = .ok (.iconst 2, 1) := by decide +kernel
theorem q195_97 : decode (mB 195) 97 = .ok (.iload_n 1, 1) := by decide +kernel
theorem q195_98 : decode (mB 195) 98 = .ok (.iadd, 1) := by decide +kernel
theorem q195_99 : decode (mB 195) 99 = .ok (.iaload, 1) := by decide +kernel
theorem q195_100 : decode (mB 195) 100 = .ok (.istore 4, 2) := by decide +kernel
theorem q195_102 : decode (mB 195) 102 = .ok (.aload_n 0, 1) := by decide +kernel
theorem q195_103 : decode (mB 195) 103 = .ok (.iconst 0, 1) := by decide +kernel
theorem q195_104 : pfB 195 104 76 8 22 = true := by decide +kernel
theorem q195_107 : decode (mB 195) 107 = .ok (.aload_n 0, 1) := by decide +kernel
theorem q195_108 : gfB 195 108 35 8 8 = true := by decide +kernel
theorem q195_111 : decode (mB 195) 111 = .ok (.iconst 2, 1) := by decide +kernel
theorem q195_112 : decode (mB 195) 112 = .ok (.iload_n 1, 1) := by decide +kernel
theorem q195_113 : decode (mB 195) 113 = .ok (.iadd, 1) := by decide +kernel
theorem q195_114 : decode (mB 195) 114 = .ok (.iload_n 2, 1) := by decide +kernel
theorem q195_115 : decode (mB 195) 115 = .ok (.iastore, 1) := by decide +kernel
theorem q195_116 : decode (mB 195) 116 = .ok (.iload 4, 2) := by decide +kernel
theorem q195_118 : decode (mB 195) 118 = .ok (.ireturn, 1) := by decide +kernel
theorem q196_0 : decode (mB 196) 0 = .ok (.aload_n 0, 1) := by decide +kernel
theorem q196_1 : decode (mB 196) 1 = .ok (.iconst 0, 1) := by decide +kernel
theorem q196_2 : pfB 196 2 58 8 19 = true := by decide +kernel
theorem q196_5 : decode (mB 196) 5 = .ok (.aload_n 0, 1) := by decide +kernel
theorem q196_6 : cfB 196 6 136 164 1 4 0 = true := by decide +kernel
theorem q196_9 : decode (mB 196) 9 = .ok (.aload_n 0, 1) := by decide +kernel
theorem q196_10 : decode (mB 196) 10 = .ok (.aload_n 0, 1) := by decide +kernel
theorem q196_11 : gfB 196 11 35 8 8 = true := by decide +kernel
theorem q196_14 : cfB 196 14 149 167 1 4 1 = true := by decide +kernel
theorem q196_17 : decode (mB 196) 17 = .ok (.ireturn, 1) := by decide +kernel
theorem q197_0 : decode (mB 197) 0 = .ok (.aload_n 0, 1) := by decide +kernel
theorem q197_1 : decode (mB 197) 1 = .ok (.iconst 0, 1) := by decide +kernel
theorem q197_2 : pfB 197 2 58 8 19 = true := by decide +kernel
theorem q197_5 : decode (mB 197) 5 = .ok (.aload_n 0, 1) := by decide +kernel
theorem q197_6 : cfB 197 6 136 164 1 4 0 = true := by decide +kernel
theorem q197_9 : decode (mB 197) 9 = .ok (.aload_n 0, 1) := by decide +kernel
theorem q197_10 : decode (mB 197) 10 = .ok (.aload_n 0, 1) := by decide +kernel
theorem q197_11 : gfB 197 11 35 8 8 = true := by decide +kernel
theorem q197_14 : cfB 197 14 124 168 1 4 1 = true := by decide +kernel
theorem q197_17 : decode (mB 197) 17 = .ok (.ireturn, 1) := by decide +kernel
theorem q198_0 : decode (mB 198) 0 = .ok (.aload_n 0, 1) := by decide +kernel
theorem q198_1 : cfB 198 1 136 164 1 4 0 = true := by decide +kernel
theorem q198_4 : decode (mB 198) 4 = .ok (.aload_n 0, 1) := by decide +kernel
theorem q198_5 : decode (mB 198) 5 = .ok (.aload_n 0, 1) := by decide +kernel
theorem q198_6 : decode (mB 198) 6 = .ok (.aload_n 0, 1) := by decide +kernel
theorem q198_7 : gfB 198 7 35 8 8 = true := by decide +kernel
theorem q198_10 : cfB 198 10 149 167 1 4 1 = true := by decide +kernel
theorem q198_13 : decode (mB 198) 13 = .ok (.ifCond .eq 7, 3) := by decide +kernel
theorem q198_16 : decode (mB 198) 16 = .ok (.iconst 1, 1) := by decide +kernel
theorem q198_17 : decode (mB 198) 17 = .ok (.goto 4, 3) := by decide +kernel
theorem q198_20 : decode (mB 198) 20 = .ok (.iconst 0, 1) := by decide +kernel
theorem q198_21 : decode (mB 198) 21 = .ok (.iconst 1, 1) := by decide +kernel
theorem q198_22 : cfB 198 22 65 137 1 4 2 = true := by decide +kernel
theorem q198_25 : decode (mB 198) 25 = .ok (.ifCond .eq 7, 3) := by decide +kernel
theorem q198_28 : decode (mB 198) 28 = .ok (.iconst 0, 1) := by decide +kernel
theorem q198_29 : decode (mB 198) 29 = .ok (.goto 11, 3) := by decide +kernel
theorem q198_32 : decode (mB 198) 32 = .ok (.aload_n 0, 1) := by decide +kernel
theorem q198_33 : decode (mB 198) 33 = .ok (.aload_n 0, 1) := by decide +kernel
theorem q198_34 : gfB 198 34 35 8 8 = true := by decide +kernel
theorem q198_37 : cfB 198 37 127 170 1 4 1 = true := by decide +kernel
theorem q198_40 : decode (mB 198) 40 = .ok (.ireturn, 1) := by decide +kernel
theorem q199_0 : decode (mB 199) 0 = .ok (.aload_n 0, 1) := by decide +kernel
theorem q199_1 : cfB 199 1 155 173 1 4 0 = true := by decide +kernel
theorem q199_4 : decode (mB 199) 4 = .ok (.aload_n 0, 1) := by decide +kernel
theorem q199_5 : decode (mB 199) 5 = .ok (.aload_n 0, 1) := by decide +kernel
theorem q199_6 : decode (mB 199) 6 = .ok (.aload_n 0, 1) := by decide +kernel
theorem q199_7 : gfB 199 7 35 8 8 = true := by decide +kernel
theorem q199_10 : cfB 199 10 149 167 1 4 1 = true := by decide +kernel
theorem q199_13 : decode (mB 199) 13 = .ok (.ifCond .eq 7, 3) := by decide +kernel
theorem q199_16 : decode (mB 199) 16 = .ok (.iconst 1, 1) := by decide +kernel
theorem q199_17 : decode (mB 199) 17 = .ok (.goto 4, 3) := by decide +kernel
theorem q199_20 : decode (mB 199) 20 = .ok (.iconst 0, 1) := by decide +kernel
theorem q199_21 : decode (mB 199) 21 = .ok (.iconst 1, 1) := by decide +kernel
theorem q199_22 : cfB 199 22 65 137 1 4 2 = true := by decide +kernel
theorem q199_25 : decode (mB 199) 25 = .ok (.ifCond .eq 7, 3) := by decide +kernel
theorem q199_28 : decode (mB 199) 28 = .ok (.iconst 0, 1) := by decide +kernel
theorem q199_29 : decode (mB 199) 29 = .ok (.goto 7, 3) := by decide +kernel
theorem q199_32 : decode (mB 199) 32 = .ok (.aload_n 0, 1) := by decide +kernel
theorem q199_33 : gfB 199 33 138 8 18 = true := by decide +kernel
theorem q199_36 : decode (mB 199) 36 = .ok (.ireturn, 1) := by decide +kernel
theorem q200_0 : decode (mB 200) 0 = .ok (.aload_n 0, 1) := by decide +kernel
theorem q200_1 : decode (mB 200) 1 = .ok (.iconst 0, 1) := by decide +kernel
theorem q200_2 : pfB 200 2 58 8 19 = true := by decide +kernel
theorem q200_5 : decode (mB 200) 5 = .ok (.iconst 1, 1) := by decide +kernel
theorem q200_6 : decode (mB 200) 6 = .ok (.ireturn, 1) := by decide +kernel
theorem q201_0 : decode (mB 201) 0 = .ok (.iload_n 0, 1) := by decide +kernel
theorem q201_1 : decode (mB 201) 1 = .ok (.iload_n 0, 1) := by decide +kernel
theorem q201_2 : decode (mB 201) 2 = .ok (.iconst 1, 1) := by decide +kernel
theorem q201_3 : decode (mB 201) 3 = .ok (.iushr, 1) := by decide +kernel
theorem q201_4 : (decide (201 < 235) && decide (decode (mB 201) 4 = .ok (.ldc_w 265, 3)) && (lks (mD 201)).contains (265, 6, 1431655765, 0)) = true := by decide +kernel
theorem q201_7 : decode (mB 201) 7 = .ok (.iand, 1) := by decide +kernel
theorem q201_8 : decode (mB 201) 8 = .ok (.isub, 1) := by decide +kernel
theorem q201_9 : decode (mB 201) 9 = .ok (.istore_n 0, 1) := by decide +kernel
theorem q201_10 : decode (mB 201) 10 = .ok (.iload_n 0, 1) := by decide +kernel
theorem q201_11 : (decide (201 < 235) && decide (decode (mB 201) 11 = .ok (.ldc_w 266, 3)) && (lks (mD 201)).contains (266, 6, 858993459, 0)) = true := by decide +kernel
theorem q201_14 : decode (mB 201) 14 = .ok (.iand, 1) := by decide +kernel
theorem q201_15 : decode (mB 201) 15 = .ok (.iload_n 0, 1) := by decide +kernel
theorem q201_16 : decode (mB 201) 16 = .ok (.iconst 2, 1) := by decide +kernel
theorem q201_17 : decode (mB 201) 17 = .ok (.iushr, 1) := by decide +kernel
theorem q201_18 : (decide (201 < 235) && decide (decode (mB 201) 18 = .ok (.ldc_w 266, 3)) && (lks (mD 201)).contains (266, 6, 858993459, 0)) = true := by decide +kernel
theorem q201_21 : decode (mB 201) 21 = .ok (.iand, 1) := by decide +kernel
theorem q201_22 : decode (mB 201) 22 = .ok (.iadd, 1) := by decide +kernel
theorem q201_23 : decode (mB 201) 23 = .ok (.istore_n 0, 1) := by decide +kernel
theorem q201_24 : decode (mB 201) 24 = .ok (.iload_n 0, 1) := by decide +kernel
theorem q201_25 : decode (mB 201) 25 = .ok (.iload_n 0, 1) := by decide +kernel
theorem q201_26 : decode (mB 201) 26 = .ok (.iconst 4, 1) := by decide +kernel
theorem q201_27 : decode (mB 201) 27 = .ok (.iushr, 1) := by decide +kernel
theorem q201_28 : decode (mB 201) 28 = .ok (.iadd, 1) := by decide +kernel
theorem q201_29 : (decide (201 < 235) && decide (decode (mB 201) 29 = .ok (.ldc_w 267, 3)) && (lks (mD 201)).contains (267, 6, 252645135, 0)) = true := by decide +kernel
theorem q201_32 : decode (mB 201) 32 = .ok (.iand, 1) := by decide +kernel
theorem q201_33 : decode (mB 201) 33 = .ok (.istore_n 0, 1) := by decide +kernel
theorem q201_34 : decode (mB 201) 34 = .ok (.iload_n 0, 1) := by decide +kernel
theorem q201_35 : decode (mB 201) 35 = .ok (.iload_n 0, 1) := by decide +kernel
theorem q201_36 : decode (mB 201) 36 = .ok (.bipush 8, 2) := by decide +kernel
theorem q201_38 : decode (mB 201) 38 = .ok (.iushr, 1) := by decide +kernel
theorem q201_39 : decode (mB 201) 39 = .ok (.iadd, 1) := by decide +kernel
theorem q201_40 : decode (mB 201) 40 = .ok (.istore_n 0, 1) := by decide +kernel
theorem q201_41 : decode (mB 201) 41 = .ok (.iload_n 0, 1) := by decide +kernel
theorem q201_42 : decode (mB 201) 42 = .ok (.iload_n 0, 1) := by decide +kernel
theorem q201_43 : decode (mB 201) 43 = .ok (.bipush 16, 2) := by decide +kernel
theorem q201_45 : decode (mB 201) 45 = .ok (.iushr, 1) := by decide +kernel
theorem q201_46 : decode (mB 201) 46 = .ok (.iadd, 1) := by decide +kernel
theorem q201_47 : decode (mB 201) 47 = .ok (.istore_n 0, 1) := by decide +kernel
theorem q201_48 : decode (mB 201) 48 = .ok (.iload_n 0, 1) := by decide +kernel
theorem q201_49 : decode (mB 201) 49 = .ok (.bipush 63, 2) := by decide +kernel
theorem q201_51 : decode (mB 201) 51 = .ok (.iand, 1) := by decide +kernel
theorem q201_52 : decode (mB 201) 52 = .ok (.ireturn, 1) := by decide +kernel
theorem q202_0 : decode (mB 202) 0 = .ok (.lload_n 0, 1) := by decide +kernel
theorem q202_1 : decode (mB 202) 1 = .ok (.lload_n 0, 1) := by decide +kernel
theorem q202_2 : decode (mB 202) 2 = .ok (.iconst 1, 1) := by decide +kernel
theorem q202_3 : decode (mB 202) 3 = .ok (.lushr, 1) := by decide +kernel
theorem q202_4 : (decide (202 < 235) && decide (decode (mB 202) 4 = .ok (.ldc2_w 314, 3)) && (lks (mD 202)).contains (314, 7, 6148914691236517205, 0)) = true := by decide +kernel
theorem q202_7 : decode (mB 202) 7 = .ok (.land, 1) := by decide +kernel
theorem q202_8 : decode (mB 202) 8 = .ok (.lsub, 1) := by decide +kernel
theorem q202_9 : decode (mB 202) 9 = .ok (.lstore_n 0, 1) := by decide +kernel
theorem q202_10 : decode (mB 202) 10 = .ok (.lload_n 0, 1) := by decide +kernel
theorem q202_11 : (decide (202 < 235) && decide (decode (mB 202) 11 = .ok (.ldc2_w 316, 3)) && (lks (mD 202)).contains (316, 7, 3689348814741910323, 0)) = true := by decide +kernel
theorem q202_14 : decode (mB 202) 14 = .ok (.land, 1) := by decide +kernel
theorem q202_15 : decode (mB 202) 15 = .ok (.lload_n 0, 1) := by decide +kernel
theorem q202_16 : decode (mB 202) 16 = .ok (.iconst 2, 1) := by decide +kernel
theorem q202_17 : decode (mB 202) 17 = .ok (.lushr, 1) := by decide +kernel
theorem q202_18 : (decide (202 < 235) && decide (decode (mB 202) 18 = .ok (.ldc2_w 316, 3)) && (lks (mD 202)).contains (316, 7, 3689348814741910323, 0)) = true := by decide +kernel
theorem q202_21 : decode (mB 202) 21 = .ok (.land, 1) := by decide +kernel
theorem q202_22 : decode (mB 202) 22 = .ok (.ladd, 1) := by decide +kernel
theorem q202_23 : decode (mB 202) 23 = .ok (.lstore_n 0, 1) := by decide +kernel
theorem q202_24 : decode (mB 202) 24 = .ok (.lload_n 0, 1) := by decide +kernel
theorem q202_25 : decode (mB 202) 25 = .ok (.lload_n 0, 1) := by decide +kernel
theorem q202_26 : decode (mB 202) 26 = .ok (.iconst 4, 1) := by decide +kernel
theorem q202_27 : decode (mB 202) 27 = .ok (.lushr, 1) := by decide +kernel
theorem q202_28 : decode (mB 202) 28 = .ok (.ladd, 1) := by decide +kernel
theorem q202_29 : (decide (202 < 235) && decide (decode (mB 202) 29 = .ok (.ldc2_w 318, 3)) && (lks (mD 202)).contains (318, 7, 1085102592571150095, 0)) = true := by decide +kernel
theorem q202_32 : decode (mB 202) 32 = .ok (.land, 1) := by decide +kernel
theorem q202_33 : decode (mB 202) 33 = .ok (.lstore_n 0, 1) := by decide +kernel
theorem q202_34 : decode (mB 202) 34 = .ok (.lload_n 0, 1) := by decide +kernel
theorem q202_35 : decode (mB 202) 35 = .ok (.lload_n 0, 1) := by decide +kernel
theorem q202_36 : decode (mB 202) 36 = .ok (.bipush 8, 2) := by decide +kernel
theorem q202_38 : decode (mB 202) 38 = .ok (.lushr, 1) := by decide +kernel
theorem q202_39 : decode (mB 202) 39 = .ok (.ladd, 1) := by decide +kernel
theorem q202_40 : decode (mB 202) 40 = .ok (.lstore_n 0, 1) := by decide +kernel
theorem q202_41 : decode (mB 202) 41 = .ok (.lload_n 0, 1) := by decide +kernel
theorem q202_42 : decode (mB 202) 42 = .ok (.lload_n 0, 1) := by decide +kernel
theorem q202_43 : decode (mB 202) 43 = .ok (.bipush 16, 2) := by decide +kernel
theorem q202_45 : decode (mB 202) 45 = .ok (.lushr, 1) := by decide +kernel
theorem q202_46 : decode (mB 202) 46 = .ok (.ladd, 1) := by decide +kernel
theorem q202_47 : decode (mB 202) 47 = .ok (.lstore_n 0, 1) := by decide +kernel
theorem q202_48 : decode (mB 202) 48 = .ok (.lload_n 0, 1) := by decide +kernel
theorem q202_49 : decode (mB 202) 49 = .ok (.lload_n 0, 1) := by decide +kernel
theorem q202_50 : decode (mB 202) 50 = .ok (.bipush 32, 2) := by decide +kernel
theorem q202_52 : decode (mB 202) 52 = .ok (.lushr, 1) := by decide +kernel
theorem q202_53 : decode (mB 202) 53 = .ok (.ladd, 1) := by decide +kernel
theorem q202_54 : decode (mB 202) 54 = .ok (.lstore_n 0, 1) := by decide +kernel
theorem q202_55 : decode (mB 202) 55 = .ok (.lload_n 0, 1) := by decide +kernel
theorem q202_56 : decode (mB 202) 56 = .ok (.l2i, 1) := by decide +kernel
theorem q202_57 : decode (mB 202) 57 = .ok (.bipush 127, 2) := by decide +kernel
theorem q202_59 : decode (mB 202) 59 = .ok (.iand, 1) := by decide +kernel
theorem q202_60 : decode (mB 202) 60 = .ok (.ireturn, 1) := by decide +kernel
theorem q203_0 : decode (mB 203) 0 = .ok (.aload 7, 2) := by decide +kernel
theorem q203_2 : decode (mB 203) 2 = .ok (.iconst 0, 1) := by decide +kernel
theorem q203_3 : decode (mB 203) 3 = .ok (.aload_n 0, 1) := by decide +kernel
theorem q203_4 : decode (mB 203) 4 = .ok (.iload_n 1, 1) := by decide +kernel
theorem q203_5 : decode (mB 203) 5 = .ok (.iload_n 2, 1) := by decide +kernel
theorem q203_6 : decode (mB 203) 6 = .ok (.iload_n 3, 1) := by decide +kernel
theorem q203_7 : decode (mB 203) 7 = .ok (.iload 4, 2) := by decide +kernel
theorem q203_9 : decode (mB 203) 9 = .ok (.iload 5, 2) := by decide +kernel
theorem q203_11 : decode (mB 203) 11 = .ok (.iload 6, 2) := by decide +kernel
theorem q203_13 : (cfB 203 13 7 82 1 4 6 && hC 203 13 [(0, 21, 8, 2), (1, 25, 8, 2)]) = true := by decide +kernel
theorem q203_16 : decode (mB 203) 16 = .ok (.i2l, 1) := by decide +kernel
theorem q203_17 : decode (mB 203) 17 = .ok (.lastore, 1) := by decide +kernel
theorem q203_18 : decode (mB 203) 18 = .ok (.goto 11, 3) := by decide +kernel
theorem q203_21 : decode (mB 203) 21 = .ok (.astore 8, 2) := by decide +kernel
theorem q203_23 : decode (mB 203) 23 = .ok (.iconst 1, 1) := by decide +kernel
theorem q203_24 : decode (mB 203) 24 = .ok (.ireturn, 1) := by decide +kernel
theorem q203_25 : decode (mB 203) 25 = .ok (.astore 8, 2) := by decide +kernel
theorem q203_27 : decode (mB 203) 27 = .ok (.iconst 2, 1) := by decide +kernel
theorem q203_28 : decode (mB 203) 28 = .ok (.ireturn, 1) := by decide +kernel
theorem q203_29 : decode (mB 203) 29 = .ok (.iconst 0, 1) := by decide +kernel
theorem q203_30 : decode (mB 203) 30 = .ok (.ireturn, 1) := by decide +kernel
theorem q204_0 : decode (mB 204) 0 = .ok (.aload_n 2, 1) := by decide +kernel
theorem q204_1 : decode (mB 204) 1 = .ok (.iconst 0, 1) := by decide +kernel
theorem q204_2 : decode (mB 204) 2 = .ok (.aload_n 0, 1) := by decide +kernel
theorem q204_3 : decode (mB 204) 3 = .ok (.iload_n 1, 1) := by decide +kernel
theorem q204_4 : (cfB 204 4 17 83 1 4 1 && hC 204 4 [(2, 12, 3, 1)]) = true := by decide +kernel
theorem q204_7 : decode (mB 204) 7 = .ok (.i2l, 1) := by decide +kernel
theorem q204_8 : decode (mB 204) 8 = .ok (.lastore, 1) := by decide +kernel
theorem q204_9 : decode (mB 204) 9 = .ok (.goto 6, 3) := by decide +kernel
theorem q204_12 : decode (mB 204) 12 = .ok (.astore_n 3, 1) := by decide +kernel
theorem q204_13 : decode (mB 204) 13 = .ok (.iconst 1, 1) := by decide +kernel
theorem q204_14 : decode (mB 204) 14 = .ok (.ireturn, 1) := by decide +kernel
theorem q204_15 : decode (mB 204) 15 = .ok (.iconst 0, 1) := by decide +kernel
theorem q204_16 : decode (mB 204) 16 = .ok (.ireturn, 1) := by decide +kernel
theorem q205_0 : decode (mB 205) 0 = .ok (.aload 4, 2) := by decide +kernel
theorem q205_2 : decode (mB 205) 2 = .ok (.iconst 0, 1) := by decide +kernel
theorem q205_3 : decode (mB 205) 3 = .ok (.aload_n 0, 1) := by decide +kernel
theorem q205_4 : decode (mB 205) 4 = .ok (.iload_n 1, 1) := by decide +kernel
theorem q205_5 : decode (mB 205) 5 = .ok (.iload_n 2, 1) := by decide +kernel
theorem q205_6 : decode (mB 205) 6 = .ok (.iload_n 3, 1) := by decide +kernel
theorem q205_7 : (cfB 205 7 23 84 1 4 3 && hC 205 7 [(2, 15, 5, 2), (0, 19, 5, 2)]) = true := by decide +kernel
theorem q205_10 : decode (mB 205) 10 = .ok (.i2l, 1) := by decide +kernel
theorem q205_11 : decode (mB 205) 11 = .ok (.lastore, 1) := by decide +kernel
theorem q205_12 : decode (mB 205) 12 = .ok (.goto 11, 3) := by decide +kernel
theorem q205_15 : decode (mB 205) 15 = .ok (.astore 5, 2) := by decide +kernel
theorem q205_17 : decode (mB 205) 17 = .ok (.iconst 1, 1) := by decide +kernel
theorem q205_18 : decode (mB 205) 18 = .ok (.ireturn, 1) := by decide +kernel
theorem q205_19 : decode (mB 205) 19 = .ok (.astore 5, 2) := by decide +kernel
theorem q205_21 : decode (mB 205) 21 = .ok (.iconst 2, 1) := by decide +kernel
theorem q205_22 : decode (mB 205) 22 = .ok (.ireturn, 1) := by decide +kernel
theorem q205_23 : decode (mB 205) 23 = .ok (.iconst 0, 1) := by decide +kernel
theorem q205_24 : decode (mB 205) 24 = .ok (.ireturn, 1) := by decide +kernel
theorem q206_0 : decode (mB 206) 0 = .ok (.aload_n 2, 1) := by decide +kernel
theorem q206_1 : decode (mB 206) 1 = .ok (.iconst 0, 1) := by decide +kernel
theorem q206_2 : decode (mB 206) 2 = .ok (.aload_n 0, 1) := by decide +kernel
theorem q206_3 : decode (mB 206) 3 = .ok (.iload_n 1, 1) := by decide +kernel
theorem q206_4 : (cfB 206 4 27 86 1 4 1 && hC 206 4 [(2, 12, 3, 1)]) = true := by decide +kernel
theorem q206_7 : decode (mB 206) 7 = .ok (.i2l, 1) := by decide +kernel
theorem q206_8 : decode (mB 206) 8 = .ok (.lastore, 1) := by decide +kernel
theorem q206_9 : decode (mB 206) 9 = .ok (.goto 6, 3) := by decide +kernel
theorem q206_12 : decode (mB 206) 12 = .ok (.astore_n 3, 1) := by decide +kernel
theorem q206_13 : decode (mB 206) 13 = .ok (.iconst 1, 1) := by decide +kernel
theorem q206_14 : decode (mB 206) 14 = .ok (.ireturn, 1) := by decide +kernel
theorem q206_15 : decode (mB 206) 15 = .ok (.iconst 0, 1) := by decide +kernel
theorem q206_16 : decode (mB 206) 16 = .ok (.ireturn, 1) := by decide +kernel
theorem q207_0 : decode (mB 207) 0 = .ok (.aload_n 2, 1) := by decide +kernel
theorem q207_1 : decode (mB 207) 1 = .ok (.iconst 0, 1) := by decide +kernel
theorem q207_2 : decode (mB 207) 2 = .ok (.aload_n 0, 1) := by decide +kernel
theorem q207_3 : decode (mB 207) 3 = .ok (.iload_n 1, 1) := by decide +kernel
theorem q207_4 : (cfB 207 4 30 87 1 4 1 && hC 207 4 [(2, 11, 3, 1)]) = true := by decide +kernel
theorem q207_7 : decode (mB 207) 7 = .ok (.lastore, 1) := by decide +kernel
theorem q207_8 : decode (mB 207) 8 = .ok (.goto 6, 3) := by decide +kernel
theorem q207_11 : decode (mB 207) 11 = .ok (.astore_n 3, 1) := by decide +kernel
theorem q207_12 : decode (mB 207) 12 = .ok (.iconst 1, 1) := by decide +kernel
theorem q207_13 : decode (mB 207) 13 = .ok (.ireturn, 1) := by decide +kernel
theorem q207_14 : decode (mB 207) 14 = .ok (.iconst 0, 1) := by decide +kernel
theorem q207_15 : decode (mB 207) 15 = .ok (.ireturn, 1) := by decide +kernel
theorem q208_0 : decode (mB 208) 0 = .ok (.aload_n 2, 1) := by decide +kernel
theorem q208_1 : decode (mB 208) 1 = .ok (.iconst 0, 1) := by decide +kernel
theorem q208_2 : decode (mB 208) 2 = .ok (.aload_n 0, 1) := by decide +kernel
theorem q208_3 : decode (mB 208) 3 = .ok (.iload_n 1, 1) := by decide +kernel
theorem q208_4 : (cfB 208 4 34 88 1 4 1 && hC 208 4 [(2, 11, 3, 1), (3, 14, 3, 1)]) = true := by decide +kernel
theorem q208_7 : decode (mB 208) 7 = .ok (.dastore, 1) := by decide +kernel
theorem q208_8 : decode (mB 208) 8 = .ok (.goto 9, 3) := by decide +kernel
theorem q208_11 : decode (mB 208) 11 = .ok (.astore_n 3, 1) := by decide +kernel
theorem q208_12 : decode (mB 208) 12 = .ok (.iconst 1, 1) := by decide +kernel
theorem q208_13 : decode (mB 208) 13 = .ok (.ireturn, 1) := by decide +kernel
theorem q208_14 : decode (mB 208) 14 = .ok (.astore_n 3, 1) := by decide +kernel
theorem q208_15 : decode (mB 208) 15 = .ok (.iconst 2, 1) := by decide +kernel
theorem q208_16 : decode (mB 208) 16 = .ok (.ireturn, 1) := by decide +kernel
theorem q208_17 : decode (mB 208) 17 = .ok (.iconst 0, 1) := by decide +kernel
theorem q208_18 : decode (mB 208) 18 = .ok (.ireturn, 1) := by decide +kernel
theorem q209_0 : decode (mB 209) 0 = .ok (.aload_n 2, 1) := by decide +kernel
theorem q209_1 : decode (mB 209) 1 = .ok (.iconst 0, 1) := by decide +kernel
theorem q209_2 : decode (mB 209) 2 = .ok (.aload_n 0, 1) := by decide +kernel
theorem q209_3 : decode (mB 209) 3 = .ok (.iload_n 1, 1) := by decide +kernel
theorem q209_4 : (cfB 209 4 40 89 1 4 1 && hC 209 4 [(2, 12, 3, 1), (3, 15, 3, 1)]) = true := by decide +kernel
theorem q209_7 : decode (mB 209) 7 = .ok (.f2d, 1) := by decide +kernel
theorem q209_8 : decode (mB 209) 8 = .ok (.dastore, 1) := by decide +kernel
theorem q209_9 : decode (mB 209) 9 = .ok (.goto 9, 3) := by decide +kernel
theorem q209_12 : decode (mB 209) 12 = .ok (.astore_n 3, 1) := by decide +kernel
theorem q209_13 : decode (mB 209) 13 = .ok (.iconst 1, 1) := by decide +kernel
theorem q209_14 : decode (mB 209) 14 = .ok (.ireturn, 1) := by decide +kernel
theorem q209_15 : decode (mB 209) 15 = .ok (.astore_n 3, 1) := by decide +kernel
theorem q209_16 : decode (mB 209) 16 = .ok (.iconst 2, 1) := by decide +kernel
theorem q209_17 : decode (mB 209) 17 = .ok (.ireturn, 1) := by decide +kernel
theorem q209_18 : decode (mB 209) 18 = .ok (.iconst 0, 1) := by decide +kernel
theorem q209_19 : decode (mB 209) 19 = .ok (.ireturn, 1) := by decide +kernel
theorem q210_0 : decode (mB 210) 0 = .ok (.aload_n 2, 1) := by decide +kernel
theorem q210_1 : decode (mB 210) 1 = .ok (.iconst 0, 1) := by decide +kernel
theorem q210_2 : decode (mB 210) 2 = .ok (.aload_n 0, 1) := by decide +kernel
theorem q210_3 : decode (mB 210) 3 = .ok (.iload_n 1, 1) := by decide +kernel
theorem q210_4 : (cfB 210 4 44 90 1 4 1 && hC 210 4 [(2, 12, 3, 1)]) = true := by decide +kernel
theorem q210_7 : decode (mB 210) 7 = .ok (.i2l, 1) := by decide +kernel
theorem q210_8 : decode (mB 210) 8 = .ok (.lastore, 1) := by decide +kernel
theorem q210_9 : decode (mB 210) 9 = .ok (.goto 6, 3) := by decide +kernel
theorem q210_12 : decode (mB 210) 12 = .ok (.astore_n 3, 1) := by decide +kernel
theorem q210_13 : decode (mB 210) 13 = .ok (.iconst 1, 1) := by decide +kernel
theorem q210_14 : decode (mB 210) 14 = .ok (.ireturn, 1) := by decide +kernel
theorem q210_15 : decode (mB 210) 15 = .ok (.iconst 0, 1) := by decide +kernel
theorem q210_16 : decode (mB 210) 16 = .ok (.ireturn, 1) := by decide +kernel
theorem q211_0 : decode (mB 211) 0 = .ok (.aload_n 3, 1) := by decide +kernel
theorem q211_1 : decode (mB 211) 1 = .ok (.iconst 0, 1) := by decide +kernel
theorem q211_2 : decode (mB 211) 2 = .ok (.aload_n 0, 1) := by decide +kernel
theorem q211_3 : decode (mB 211) 3 = .ok (.iload_n 1, 1) := by decide +kernel
theorem q211_4 : decode (mB 211) 4 = .ok (.iload_n 2, 1) := by decide +kernel
theorem q211_5 : (cfB 211 5 47 91 1 4 2 && hC 211 5 [(2, 13, 4, 2), (0, 17, 4, 2)]) = true := by decide +kernel
theorem q211_8 : decode (mB 211) 8 = .ok (.i2l, 1) := by decide +kernel
theorem q211_9 : decode (mB 211) 9 = .ok (.lastore, 1) := by decide +kernel
theorem q211_10 : decode (mB 211) 10 = .ok (.goto 11, 3) := by decide +kernel
theorem q211_13 : decode (mB 211) 13 = .ok (.astore 4, 2) := by decide +kernel
theorem q211_15 : decode (mB 211) 15 = .ok (.iconst 1, 1) := by decide +kernel
theorem q211_16 : decode (mB 211) 16 = .ok (.ireturn, 1) := by decide +kernel
theorem q211_17 : decode (mB 211) 17 = .ok (.astore 4, 2) := by decide +kernel
theorem q211_19 : decode (mB 211) 19 = .ok (.iconst 2, 1) := by decide +kernel
theorem q211_20 : decode (mB 211) 20 = .ok (.ireturn, 1) := by decide +kernel
theorem q211_21 : decode (mB 211) 21 = .ok (.iconst 0, 1) := by decide +kernel
theorem q211_22 : decode (mB 211) 22 = .ok (.ireturn, 1) := by decide +kernel
theorem q212_0 : decode (mB 212) 0 = .ok (.aload_n 2, 1) := by decide +kernel
theorem q212_1 : decode (mB 212) 1 = .ok (.iconst 0, 1) := by decide +kernel
theorem q212_2 : decode (mB 212) 2 = .ok (.aload_n 0, 1) := by decide +kernel
theorem q212_3 : decode (mB 212) 3 = .ok (.iload_n 1, 1) := by decide +kernel
theorem q212_4 : (cfB 212 4 51 92 1 4 1 && hC 212 4 [(2, 12, 3, 1), (1, 15, 3, 1)]) = true := by decide +kernel
theorem q212_7 : decode (mB 212) 7 = .ok (.i2l, 1) := by decide +kernel
theorem q212_8 : decode (mB 212) 8 = .ok (.lastore, 1) := by decide +kernel
theorem q212_9 : decode (mB 212) 9 = .ok (.goto 9, 3) := by decide +kernel
theorem q212_12 : decode (mB 212) 12 = .ok (.astore_n 3, 1) := by decide +kernel
theorem q212_13 : decode (mB 212) 13 = .ok (.iconst 1, 1) := by decide +kernel
theorem q212_14 : decode (mB 212) 14 = .ok (.ireturn, 1) := by decide +kernel
theorem q212_15 : decode (mB 212) 15 = .ok (.astore_n 3, 1) := by decide +kernel
theorem q212_16 : decode (mB 212) 16 = .ok (.iconst 2, 1) := by decide +kernel
theorem q212_17 : decode (mB 212) 17 = .ok (.ireturn, 1) := by decide +kernel
theorem q212_18 : decode (mB 212) 18 = .ok (.iconst 0, 1) := by decide +kernel
theorem q212_19 : decode (mB 212) 19 = .ok (.ireturn, 1) := by decide +kernel
theorem q213_0 : decode (mB 213) 0 = .ok (.aload_n 3, 1) := by decide +kernel
theorem q213_1 : decode (mB 213) 1 = .ok (.iconst 0, 1) := by decide +kernel
theorem q213_2 : decode (mB 213) 2 = .ok (.aload_n 0, 1) := by decide +kernel
theorem q213_3 : decode (mB 213) 3 = .ok (.iload_n 1, 1) := by decide +kernel
theorem q213_4 : decode (mB 213) 4 = .ok (.iload_n 2, 1) := by decide +kernel
theorem q213_5 : (cfB 213 5 54 93 1 4 2 && hC 213 5 [(2, 13, 4, 2)]) = true := by decide +kernel
theorem q213_8 : decode (mB 213) 8 = .ok (.i2l, 1) := by decide +kernel
theorem q213_9 : decode (mB 213) 9 = .ok (.lastore, 1) := by decide +kernel
theorem q213_10 : decode (mB 213) 10 = .ok (.goto 7, 3) := by decide +kernel
theorem q213_13 : decode (mB 213) 13 = .ok (.astore 4, 2) := by decide +kernel
theorem q213_15 : decode (mB 213) 15 = .ok (.iconst 1, 1) := by decide +kernel
theorem q213_16 : decode (mB 213) 16 = .ok (.ireturn, 1) := by decide +kernel
theorem q213_17 : decode (mB 213) 17 = .ok (.iconst 0, 1) := by decide +kernel
theorem q213_18 : decode (mB 213) 18 = .ok (.ireturn, 1) := by decide +kernel
theorem q214_0 : decode (mB 214) 0 = .ok (.aload_n 2, 1) := by decide +kernel
theorem q214_1 : decode (mB 214) 1 = .ok (.iconst 0, 1) := by decide +kernel
theorem q214_2 : decode (mB 214) 2 = .ok (.aload_n 0, 1) := by decide +kernel
theorem q214_3 : decode (mB 214) 3 = .ok (.iload_n 1, 1) := by decide +kernel
theorem q214_4 : (cfB 214 4 58 94 1 4 1 && hC 214 4 [(0, 12, 3, 1)]) = true := by decide +kernel
theorem q214_7 : decode (mB 214) 7 = .ok (.i2l, 1) := by decide +kernel
theorem q214_8 : decode (mB 214) 8 = .ok (.lastore, 1) := by decide +kernel
theorem q214_9 : decode (mB 214) 9 = .ok (.goto 6, 3) := by decide +kernel
theorem q214_12 : decode (mB 214) 12 = .ok (.astore_n 3, 1) := by decide +kernel
theorem q214_13 : decode (mB 214) 13 = .ok (.iconst 1, 1) := by decide +kernel
theorem q214_14 : decode (mB 214) 14 = .ok (.ireturn, 1) := by decide +kernel
theorem q214_15 : decode (mB 214) 15 = .ok (.iconst 0, 1) := by decide +kernel
theorem q214_16 : decode (mB 214) 16 = .ok (.ireturn, 1) := by decide +kernel
theorem q215_0 : decode (mB 215) 0 = .ok (.aload_n 3, 1) := by decide +kernel
theorem q215_1 : decode (mB 215) 1 = .ok (.iconst 0, 1) := by decide +kernel
theorem q215_2 : decode (mB 215) 2 = .ok (.aload_n 0, 1) := by decide +kernel
theorem q215_3 : decode (mB 215) 3 = .ok (.iload_n 1, 1) := by decide +kernel
theorem q215_4 : decode (mB 215) 4 = .ok (.iload_n 2, 1) := by decide +kernel
theorem q215_5 : (cfB 215 5 62 95 1 4 2 && hC 215 5 [(2, 13, 4, 2), (1, 17, 4, 2)]) = true := by decide +kernel
theorem q215_8 : decode (mB 215) 8 = .ok (.i2l, 1) := by decide +kernel
theorem q215_9 : decode (mB 215) 9 = .ok (.lastore, 1) := by decide +kernel
theorem q215_10 : decode (mB 215) 10 = .ok (.goto 11, 3) := by decide +kernel
theorem q215_13 : decode (mB 215) 13 = .ok (.astore 4, 2) := by decide +kernel
theorem q215_15 : decode (mB 215) 15 = .ok (.iconst 1, 1) := by decide +kernel
theorem q215_16 : decode (mB 215) 16 = .ok (.ireturn, 1) := by decide +kernel
theorem q215_17 : decode (mB 215) 17 = .ok (.astore 4, 2) := by decide +kernel
theorem q215_19 : decode (mB 215) 19 = .ok (.iconst 2, 1) := by decide +kernel
theorem q215_20 : decode (mB 215) 20 = .ok (.ireturn, 1) := by decide +kernel
theorem q215_21 : decode (mB 215) 21 = .ok (.iconst 0, 1) := by decide +kernel
theorem q215_22 : decode (mB 215) 22 = .ok (.ireturn, 1) := by decide +kernel
theorem q216_0 : decode (mB 216) 0 = .ok (.aload_n 3, 1) := by decide +kernel
theorem q216_1 : decode (mB 216) 1 = .ok (.iconst 0, 1) := by decide +kernel
theorem q216_2 : decode (mB 216) 2 = .ok (.aload_n 0, 1) := by decide +kernel
theorem q216_3 : decode (mB 216) 3 = .ok (.iload_n 1, 1) := by decide +kernel
theorem q216_4 : decode (mB 216) 4 = .ok (.iload_n 2, 1) := by decide +kernel
theorem q216_5 : (cfB 216 5 65 96 1 4 2 && hC 216 5 [(2, 13, 4, 2), (1, 17, 4, 2)]) = true := by decide +kernel
theorem q216_8 : decode (mB 216) 8 = .ok (.i2l, 1) := by decide +kernel
theorem q216_9 : decode (mB 216) 9 = .ok (.lastore, 1) := by decide +kernel
theorem q216_10 : decode (mB 216) 10 = .ok (.goto 11, 3) := by decide +kernel
theorem q216_13 : decode (mB 216) 13 = .ok (.astore 4, 2) := by decide +kernel
theorem q216_15 : decode (mB 216) 15 = .ok (.iconst 1, 1) := by decide +kernel
theorem q216_16 : decode (mB 216) 16 = .ok (.ireturn, 1) := by decide +kernel
theorem q216_17 : decode (mB 216) 17 = .ok (.astore 4, 2) := by decide +kernel
theorem q216_19 : decode (mB 216) 19 = .ok (.iconst 2, 1) := by decide +kernel
theorem q216_20 : decode (mB 216) 20 = .ok (.ireturn, 1) := by decide +kernel
theorem q216_21 : decode (mB 216) 21 = .ok (.iconst 0, 1) := by decide +kernel
theorem q216_22 : decode (mB 216) 22 = .ok (.ireturn, 1) := by decide +kernel
theorem q217_0 : decode (mB 217) 0 = .ok (.aload_n 3, 1) := by decide +kernel
theorem q217_1 : decode (mB 217) 1 = .ok (.iconst 0, 1) := by decide +kernel
theorem q217_2 : decode (mB 217) 2 = .ok (.aload_n 0, 1) := by decide +kernel
theorem q217_3 : decode (mB 217) 3 = .ok (.iload_n 1, 1) := by decide +kernel
theorem q217_4 : decode (mB 217) 4 = .ok (.iload_n 2, 1) := by decide +kernel
theorem q217_5 : (cfB 217 5 68 97 1 4 2 && hC 217 5 [(2, 13, 4, 2), (0, 17, 4, 2)]) = true := by decide +kernel
theorem q217_8 : decode (mB 217) 8 = .ok (.i2l, 1) := by decide +kernel
theorem q217_9 : decode (mB 217) 9 = .ok (.lastore, 1) := by decide +kernel
theorem q217_10 : decode (mB 217) 10 = .ok (.goto 11, 3) := by decide +kernel
theorem q217_13 : decode (mB 217) 13 = .ok (.astore 4, 2) := by decide +kernel
theorem q217_15 : decode (mB 217) 15 = .ok (.iconst 1, 1) := by decide +kernel
theorem q217_16 : decode (mB 217) 16 = .ok (.ireturn, 1) := by decide +kernel
theorem q217_17 : decode (mB 217) 17 = .ok (.astore 4, 2) := by decide +kernel
theorem q217_19 : decode (mB 217) 19 = .ok (.iconst 2, 1) := by decide +kernel
theorem q217_20 : decode (mB 217) 20 = .ok (.ireturn, 1) := by decide +kernel
theorem q217_21 : decode (mB 217) 21 = .ok (.iconst 0, 1) := by decide +kernel
theorem q217_22 : decode (mB 217) 22 = .ok (.ireturn, 1) := by decide +kernel
theorem q218_0 : decode (mB 218) 0 = .ok (.aload_n 2, 1) := by decide +kernel
theorem q218_1 : decode (mB 218) 1 = .ok (.iconst 0, 1) := by decide +kernel
theorem q218_2 : decode (mB 218) 2 = .ok (.aload_n 0, 1) := by decide +kernel
theorem q218_3 : decode (mB 218) 3 = .ok (.iload_n 1, 1) := by decide +kernel
theorem q218_4 : (cfB 218 4 71 99 1 4 1 && hC 218 4 [(4, 12, 3, 1)]) = true := by decide +kernel
theorem q218_7 : decode (mB 218) 7 = .ok (.i2l, 1) := by decide +kernel
theorem q218_8 : decode (mB 218) 8 = .ok (.lastore, 1) := by decide +kernel
theorem q218_9 : decode (mB 218) 9 = .ok (.goto 6, 3) := by decide +kernel
theorem q218_12 : decode (mB 218) 12 = .ok (.astore_n 3, 1) := by decide +kernel
theorem q218_13 : decode (mB 218) 13 = .ok (.iconst 1, 1) := by decide +kernel
theorem q218_14 : decode (mB 218) 14 = .ok (.ireturn, 1) := by decide +kernel
theorem q218_15 : decode (mB 218) 15 = .ok (.iconst 0, 1) := by decide +kernel
theorem q218_16 : decode (mB 218) 16 = .ok (.ireturn, 1) := by decide +kernel
theorem q219_0 : decode (mB 219) 0 = .ok (.aload_n 2, 1) := by decide +kernel
theorem q219_1 : decode (mB 219) 1 = .ok (.iconst 0, 1) := by decide +kernel
theorem q219_2 : decode (mB 219) 2 = .ok (.aload_n 0, 1) := by decide +kernel
theorem q219_3 : decode (mB 219) 3 = .ok (.iload_n 1, 1) := by decide +kernel
theorem q219_4 : (cfB 219 4 76 100 1 4 1 && hC 219 4 [(5, 12, 3, 1), (4, 15, 3, 1)]) = true := by decide +kernel
theorem q219_7 : decode (mB 219) 7 = .ok (.i2l, 1) := by decide +kernel
theorem q219_8 : decode (mB 219) 8 = .ok (.lastore, 1) := by decide +kernel
theorem q219_9 : decode (mB 219) 9 = .ok (.goto 9, 3) := by decide +kernel
theorem q219_12 : decode (mB 219) 12 = .ok (.astore_n 3, 1) := by decide +kernel
theorem q219_13 : decode (mB 219) 13 = .ok (.iconst 1, 1) := by decide +kernel
theorem q219_14 : decode (mB 219) 14 = .ok (.ireturn, 1) := by decide +kernel
theorem q219_15 : decode (mB 219) 15 = .ok (.astore_n 3, 1) := by decide +kernel
theorem q219_16 : decode (mB 219) 16 = .ok (.iconst 2, 1) := by decide +kernel
theorem q219_17 : decode (mB 219) 17 = .ok (.ireturn, 1) := by decide +kernel
theorem q219_18 : decode (mB 219) 18 = .ok (.iconst 0, 1) := by decide +kernel
theorem q219_19 : decode (mB 219) 19 = .ok (.ireturn, 1) := by decide +kernel
theorem q220_0 : decode (mB 220) 0 = .ok (.aload_n 2, 1) := by decide +kernel
theorem q220_1 : decode (mB 220) 1 = .ok (.iconst 0, 1) := by decide +kernel
theorem q220_2 : decode (mB 220) 2 = .ok (.aload_n 0, 1) := by decide +kernel
theorem q220_3 : decode (mB 220) 3 = .ok (.iload_n 1, 1) := by decide +kernel
theorem q220_4 : (cfB 220 4 81 101 1 4 1 && hC 220 4 [(4, 12, 3, 1)]) = true := by decide +kernel
theorem q220_7 : decode (mB 220) 7 = .ok (.i2l, 1) := by decide +kernel
theorem q220_8 : decode (mB 220) 8 = .ok (.lastore, 1) := by decide +kernel
theorem q220_9 : decode (mB 220) 9 = .ok (.goto 6, 3) := by decide +kernel
theorem q220_12 : decode (mB 220) 12 = .ok (.astore_n 3, 1) := by decide +kernel
theorem q220_13 : decode (mB 220) 13 = .ok (.iconst 1, 1) := by decide +kernel
theorem q220_14 : decode (mB 220) 14 = .ok (.ireturn, 1) := by decide +kernel
theorem q220_15 : decode (mB 220) 15 = .ok (.iconst 0, 1) := by decide +kernel
theorem q220_16 : decode (mB 220) 16 = .ok (.ireturn, 1) := by decide +kernel
theorem q221_0 : decode (mB 221) 0 = .ok (.aload_n 2, 1) := by decide +kernel
theorem q221_1 : decode (mB 221) 1 = .ok (.iconst 0, 1) := by decide +kernel
theorem q221_2 : decode (mB 221) 2 = .ok (.aload_n 0, 1) := by decide +kernel
theorem q221_3 : decode (mB 221) 3 = .ok (.iload_n 1, 1) := by decide +kernel
theorem q221_4 : (cfB 221 4 85 102 1 4 1 && hC 221 4 [(4, 12, 3, 1)]) = true := by decide +kernel
theorem q221_7 : decode (mB 221) 7 = .ok (.i2l, 1) := by decide +kernel
theorem q221_8 : decode (mB 221) 8 = .ok (.lastore, 1) := by decide +kernel
theorem q221_9 : decode (mB 221) 9 = .ok (.goto 6, 3) := by decide +kernel
theorem q221_12 : decode (mB 221) 12 = .ok (.astore_n 3, 1) := by decide +kernel
theorem q221_13 : decode (mB 221) 13 = .ok (.iconst 1, 1) := by decide +kernel
theorem q221_14 : decode (mB 221) 14 = .ok (.ireturn, 1) := by decide +kernel
theorem q221_15 : decode (mB 221) 15 = .ok (.iconst 0, 1) := by decide +kernel
theorem q221_16 : decode (mB 221) 16 = .ok (.ireturn, 1) := by decide +kernel
theorem q222_0 : decode (mB 222) 0 = .ok (.aload_n 3, 1) := by decide +kernel
theorem q222_1 : decode (mB 222) 1 = .ok (.iconst 0, 1) := by decide +kernel
theorem q222_2 : decode (mB 222) 2 = .ok (.aload_n 0, 1) := by decide +kernel
theorem q222_3 : decode (mB 222) 3 = .ok (.iload_n 1, 1) := by decide +kernel
theorem q222_4 : decode (mB 222) 4 = .ok (.iload_n 2, 1) := by decide +kernel
theorem q222_5 : (cfB 222 5 88 103 1 4 2 && hC 222 5 [(4, 13, 4, 2), (2, 17, 4, 2)]) = true := by decide +kernel
theorem q222_8 : decode (mB 222) 8 = .ok (.i2l, 1) := by decide +kernel
theorem q222_9 : decode (mB 222) 9 = .ok (.lastore, 1) := by decide +kernel
theorem q222_10 : decode (mB 222) 10 = .ok (.goto 11, 3) := by decide +kernel
theorem q222_13 : decode (mB 222) 13 = .ok (.astore 4, 2) := by decide +kernel
theorem q222_15 : decode (mB 222) 15 = .ok (.iconst 1, 1) := by decide +kernel
theorem q222_16 : decode (mB 222) 16 = .ok (.ireturn, 1) := by decide +kernel
theorem q222_17 : decode (mB 222) 17 = .ok (.astore 4, 2) := by decide +kernel
theorem q222_19 : decode (mB 222) 19 = .ok (.iconst 2, 1) := by decide +kernel
theorem q222_20 : decode (mB 222) 20 = .ok (.ireturn, 1) := by decide +kernel
theorem q222_21 : decode (mB 222) 21 = .ok (.iconst 0, 1) := by decide +kernel
theorem q222_22 : decode (mB 222) 22 = .ok (.ireturn, 1) := by decide +kernel
theorem q223_0 : decode (mB 223) 0 = .ok (.aload_n 2, 1) := by decide +kernel
theorem q223_1 : decode (mB 223) 1 = .ok (.iconst 0, 1) := by decide +kernel
theorem q223_2 : decode (mB 223) 2 = .ok (.aload_n 0, 1) := by decide +kernel
theorem q223_3 : decode (mB 223) 3 = .ok (.iload_n 1, 1) := by decide +kernel
theorem q223_4 : (cfB 223 4 91 104 1 4 1 && hC 223 4 [(0, 12, 3, 1)]) = true := by decide +kernel
theorem q223_7 : decode (mB 223) 7 = .ok (.i2l, 1) := by decide +kernel
theorem q223_8 : decode (mB 223) 8 = .ok (.lastore, 1) := by decide +kernel
theorem q223_9 : decode (mB 223) 9 = .ok (.goto 6, 3) := by decide +kernel
theorem q223_12 : decode (mB 223) 12 = .ok (.astore_n 3, 1) := by decide +kernel
theorem q223_13 : decode (mB 223) 13 = .ok (.iconst 1, 1) := by decide +kernel
theorem q223_14 : decode (mB 223) 14 = .ok (.ireturn, 1) := by decide +kernel
theorem q223_15 : decode (mB 223) 15 = .ok (.iconst 0, 1) := by decide +kernel
theorem q223_16 : decode (mB 223) 16 = .ok (.ireturn, 1) := by decide +kernel
theorem q224_0 : decode (mB 224) 0 = .ok (.aload_n 1, 1) := by decide +kernel
theorem q224_1 : decode (mB 224) 1 = .ok (.iconst 0, 1) := by decide +kernel
theorem q224_2 : decode (mB 224) 2 = .ok (.aload_n 0, 1) := by decide +kernel
theorem q224_3 : (cfB 224 3 94 105 1 4 0 && hC 224 3 [(4, 18, 2, 1)]) = true := by decide +kernel
theorem q224_6 : decode (mB 224) 6 = .ok (.ifCond .eq 7, 3) := by decide +kernel
theorem q224_9 : decode (mB 224) 9 = .ok (.lconst 1, 1) := by decide +kernel
theorem q224_10 : decode (mB 224) 10 = .ok (.goto 4, 3) := by decide +kernel
theorem q224_13 : decode (mB 224) 13 = .ok (.lconst 0, 1) := by decide +kernel
theorem q224_14 : decode (mB 224) 14 = .ok (.lastore, 1) := by decide +kernel
theorem q224_15 : decode (mB 224) 15 = .ok (.goto 6, 3) := by decide +kernel
theorem q224_18 : decode (mB 224) 18 = .ok (.astore_n 2, 1) := by decide +kernel
theorem q224_19 : decode (mB 224) 19 = .ok (.iconst 1, 1) := by decide +kernel
theorem q224_20 : decode (mB 224) 20 = .ok (.ireturn, 1) := by decide +kernel
theorem q224_21 : decode (mB 224) 21 = .ok (.iconst 0, 1) := by decide +kernel
theorem q224_22 : decode (mB 224) 22 = .ok (.ireturn, 1) := by decide +kernel
theorem q225_0 : decode (mB 225) 0 = .ok (.aload_n 1, 1) := by decide +kernel
theorem q225_1 : decode (mB 225) 1 = .ok (.iconst 0, 1) := by decide +kernel
theorem q225_2 : decode (mB 225) 2 = .ok (.aload_n 0, 1) := by decide +kernel
theorem q225_3 : (cfB 225 3 98 106 1 4 0 && hC 225 3 [(1, 11, 2, 1)]) = true := by decide +kernel
theorem q225_6 : decode (mB 225) 6 = .ok (.i2l, 1) := by decide +kernel
theorem q225_7 : decode (mB 225) 7 = .ok (.lastore, 1) := by decide +kernel
theorem q225_8 : decode (mB 225) 8 = .ok (.goto 6, 3) := by decide +kernel
theorem q225_11 : decode (mB 225) 11 = .ok (.astore_n 2, 1) := by decide +kernel
theorem q225_12 : decode (mB 225) 12 = .ok (.iconst 1, 1) := by decide +kernel
theorem q225_13 : decode (mB 225) 13 = .ok (.ireturn, 1) := by decide +kernel
theorem q225_14 : decode (mB 225) 14 = .ok (.iconst 0, 1) := by decide +kernel
theorem q225_15 : decode (mB 225) 15 = .ok (.ireturn, 1) := by decide +kernel
theorem q226_0 : decode (mB 226) 0 = .ok (.aload_n 1, 1) := by decide +kernel
theorem q226_1 : decode (mB 226) 1 = .ok (.iconst 0, 1) := by decide +kernel
theorem q226_2 : decode (mB 226) 2 = .ok (.aload_n 0, 1) := by decide +kernel
theorem q226_3 : (cfB 226 3 102 107 1 4 0 && hC 226 3 [(1, 11, 2, 1)]) = true := by decide +kernel
theorem q226_6 : decode (mB 226) 6 = .ok (.i2l, 1) := by decide +kernel
theorem q226_7 : decode (mB 226) 7 = .ok (.lastore, 1) := by decide +kernel
theorem q226_8 : decode (mB 226) 8 = .ok (.goto 6, 3) := by decide +kernel
theorem q226_11 : decode (mB 226) 11 = .ok (.astore_n 2, 1) := by decide +kernel
theorem q226_12 : decode (mB 226) 12 = .ok (.iconst 1, 1) := by decide +kernel
theorem q226_13 : decode (mB 226) 13 = .ok (.ireturn, 1) := by decide +kernel
theorem q226_14 : decode (mB 226) 14 = .ok (.iconst 0, 1) := by decide +kernel
theorem q226_15 : decode (mB 226) 15 = .ok (.ireturn, 1) := by decide +kernel
theorem q227_0 : decode (mB 227) 0 = .ok (.aload_n 2, 1) := by decide +kernel
theorem q227_1 : decode (mB 227) 1 = .ok (.iconst 0, 1) := by decide +kernel
theorem q227_2 : decode (mB 227) 2 = .ok (.aload_n 0, 1) := by decide +kernel
theorem q227_3 : decode (mB 227) 3 = .ok (.iload_n 1, 1) := by decide +kernel
theorem q227_4 : (cfB 227 4 106 108 1 4 1 && hC 227 4 [(2, 12, 3, 1), (1, 15, 3, 1)]) = true := by decide +kernel
theorem q227_7 : decode (mB 227) 7 = .ok (.i2l, 1) := by decide +kernel
theorem q227_8 : decode (mB 227) 8 = .ok (.lastore, 1) := by decide +kernel
theorem q227_9 : decode (mB 227) 9 = .ok (.goto 9, 3) := by decide +kernel
theorem q227_12 : decode (mB 227) 12 = .ok (.astore_n 3, 1) := by decide +kernel
theorem q227_13 : decode (mB 227) 13 = .ok (.iconst 1, 1) := by decide +kernel
theorem q227_14 : decode (mB 227) 14 = .ok (.ireturn, 1) := by decide +kernel
theorem q227_15 : decode (mB 227) 15 = .ok (.astore_n 3, 1) := by decide +kernel
theorem q227_16 : decode (mB 227) 16 = .ok (.iconst 2, 1) := by decide +kernel
theorem q227_17 : decode (mB 227) 17 = .ok (.ireturn, 1) := by decide +kernel
theorem q227_18 : decode (mB 227) 18 = .ok (.iconst 0, 1) := by decide +kernel
theorem q227_19 : decode (mB 227) 19 = .ok (.ireturn, 1) := by decide +kernel
theorem q228_0 : decode (mB 228) 0 = .ok (.aload_n 1, 1) := by decide +kernel
theorem q228_1 : decode (mB 228) 1 = .ok (.iconst 0, 1) := by decide +kernel
theorem q228_2 : decode (mB 228) 2 = .ok (.aload_n 0, 1) := by decide +kernel
theorem q228_3 : (cfB 228 3 109 110 1 4 0 && hC 228 3 [(1, 11, 2, 1)]) = true := by decide +kernel
theorem q228_6 : decode (mB 228) 6 = .ok (.i2l, 1) := by decide +kernel
theorem q228_7 : decode (mB 228) 7 = .ok (.lastore, 1) := by decide +kernel
theorem q228_8 : decode (mB 228) 8 = .ok (.goto 6, 3) := by decide +kernel
theorem q228_11 : decode (mB 228) 11 = .ok (.astore_n 2, 1) := by decide +kernel
theorem q228_12 : decode (mB 228) 12 = .ok (.iconst 1, 1) := by decide +kernel
theorem q228_13 : decode (mB 228) 13 = .ok (.ireturn, 1) := by decide +kernel
theorem q228_14 : decode (mB 228) 14 = .ok (.iconst 0, 1) := by decide +kernel
theorem q228_15 : decode (mB 228) 15 = .ok (.ireturn, 1) := by decide +kernel
theorem q229_0 : decode (mB 229) 0 = .ok (.aload_n 2, 1) := by decide +kernel
theorem q229_1 : decode (mB 229) 1 = .ok (.iconst 0, 1) := by decide +kernel
theorem q229_2 : decode (mB 229) 2 = .ok (.aload_n 0, 1) := by decide +kernel
theorem q229_3 : decode (mB 229) 3 = .ok (.iload_n 1, 1) := by decide +kernel
theorem q229_4 : (cfB 229 4 112 112 1 4 1 && hC 229 4 [(0, 12, 3, 1)]) = true := by decide +kernel
theorem q229_7 : decode (mB 229) 7 = .ok (.i2l, 1) := by decide +kernel
theorem q229_8 : decode (mB 229) 8 = .ok (.lastore, 1) := by decide +kernel
theorem q229_9 : decode (mB 229) 9 = .ok (.goto 6, 3) := by decide +kernel
theorem q229_12 : decode (mB 229) 12 = .ok (.astore_n 3, 1) := by decide +kernel
theorem q229_13 : decode (mB 229) 13 = .ok (.iconst 1, 1) := by decide +kernel
theorem q229_14 : decode (mB 229) 14 = .ok (.ireturn, 1) := by decide +kernel
theorem q229_15 : decode (mB 229) 15 = .ok (.iconst 0, 1) := by decide +kernel
theorem q229_16 : decode (mB 229) 16 = .ok (.ireturn, 1) := by decide +kernel
theorem q230_0 : decode (mB 230) 0 = .ok (.aload_n 2, 1) := by decide +kernel
theorem q230_1 : decode (mB 230) 1 = .ok (.iconst 0, 1) := by decide +kernel
theorem q230_2 : decode (mB 230) 2 = .ok (.aload_n 0, 1) := by decide +kernel
theorem q230_3 : decode (mB 230) 3 = .ok (.iload_n 1, 1) := by decide +kernel
theorem q230_4 : (cfB 230 4 115 113 1 4 1 && hC 230 4 [(0, 12, 3, 1)]) = true := by decide +kernel
theorem q230_7 : decode (mB 230) 7 = .ok (.i2l, 1) := by decide +kernel
theorem q230_8 : decode (mB 230) 8 = .ok (.lastore, 1) := by decide +kernel
theorem q230_9 : decode (mB 230) 9 = .ok (.goto 6, 3) := by decide +kernel
theorem q230_12 : decode (mB 230) 12 = .ok (.astore_n 3, 1) := by decide +kernel
theorem q230_13 : decode (mB 230) 13 = .ok (.iconst 1, 1) := by decide +kernel
theorem q230_14 : decode (mB 230) 14 = .ok (.ireturn, 1) := by decide +kernel
theorem q230_15 : decode (mB 230) 15 = .ok (.iconst 0, 1) := by decide +kernel
theorem q230_16 : decode (mB 230) 16 = .ok (.ireturn, 1) := by decide +kernel
theorem q231_0 : decode (mB 231) 0 = .ok (.aload_n 3, 1) := by decide +kernel
theorem q231_1 : decode (mB 231) 1 = .ok (.iconst 0, 1) := by decide +kernel
theorem q231_2 : decode (mB 231) 2 = .ok (.aload_n 0, 1) := by decide +kernel
theorem q231_3 : decode (mB 231) 3 = .ok (.iload_n 1, 1) := by decide +kernel
theorem q231_4 : decode (mB 231) 4 = .ok (.iload_n 2, 1) := by decide +kernel
theorem q231_5 : (cfB 231 5 118 114 1 4 2 && hC 231 5 [(2, 13, 4, 2), (1, 17, 4, 2)]) = true := by decide +kernel
theorem q231_8 : decode (mB 231) 8 = .ok (.i2l, 1) := by decide +kernel
theorem q231_9 : decode (mB 231) 9 = .ok (.lastore, 1) := by decide +kernel
theorem q231_10 : decode (mB 231) 10 = .ok (.goto 11, 3) := by decide +kernel
theorem q231_13 : decode (mB 231) 13 = .ok (.astore 4, 2) := by decide +kernel
theorem q231_15 : decode (mB 231) 15 = .ok (.iconst 1, 1) := by decide +kernel
theorem q231_16 : decode (mB 231) 16 = .ok (.ireturn, 1) := by decide +kernel
theorem q231_17 : decode (mB 231) 17 = .ok (.astore 4, 2) := by decide +kernel
theorem q231_19 : decode (mB 231) 19 = .ok (.iconst 2, 1) := by decide +kernel
theorem q231_20 : decode (mB 231) 20 = .ok (.ireturn, 1) := by decide +kernel
theorem q231_21 : decode (mB 231) 21 = .ok (.iconst 0, 1) := by decide +kernel
theorem q231_22 : decode (mB 231) 22 = .ok (.ireturn, 1) := by decide +kernel
theorem q232_0 : decode (mB 232) 0 = .ok (.aload_n 1, 1) := by decide +kernel
theorem q232_1 : decode (mB 232) 1 = .ok (.iconst 0, 1) := by decide +kernel
theorem q232_2 : decode (mB 232) 2 = .ok (.aload_n 0, 1) := by decide +kernel
theorem q232_3 : (cfB 232 3 121 117 1 4 0 && hC 232 3 [(1, 11, 2, 1)]) = true := by decide +kernel
theorem q232_6 : decode (mB 232) 6 = .ok (.i2l, 1) := by decide +kernel
theorem q232_7 : decode (mB 232) 7 = .ok (.lastore, 1) := by decide +kernel
theorem q232_8 : decode (mB 232) 8 = .ok (.goto 6, 3) := by decide +kernel
theorem q232_11 : decode (mB 232) 11 = .ok (.astore_n 2, 1) := by decide +kernel
theorem q232_12 : decode (mB 232) 12 = .ok (.iconst 1, 1) := by decide +kernel
theorem q232_13 : decode (mB 232) 13 = .ok (.ireturn, 1) := by decide +kernel
theorem q232_14 : decode (mB 232) 14 = .ok (.iconst 0, 1) := by decide +kernel
theorem q232_15 : decode (mB 232) 15 = .ok (.ireturn, 1) := by decide +kernel
theorem q233_0 : decode (mB 233) 0 = .ok (.aload_n 1, 1) := by decide +kernel
theorem q233_1 : decode (mB 233) 1 = .ok (.iconst 0, 1) := by decide +kernel
theorem q233_2 : decode (mB 233) 2 = .ok (.aload_n 0, 1) := by decide +kernel
theorem q233_3 : (cfB 233 3 124 118 1 4 0 && hC 233 3 [(1, 11, 2, 1)]) = true := by decide +kernel
theorem q233_6 : decode (mB 233) 6 = .ok (.i2l, 1) := by decide +kernel
theorem q233_7 : decode (mB 233) 7 = .ok (.lastore, 1) := by decide +kernel
theorem q233_8 : decode (mB 233) 8 = .ok (.goto 6, 3) := by decide +kernel
theorem q233_11 : decode (mB 233) 11 = .ok (.astore_n 2, 1) := by decide +kernel
theorem q233_12 : decode (mB 233) 12 = .ok (.iconst 1, 1) := by decide +kernel
theorem q233_13 : decode (mB 233) 13 = .ok (.ireturn, 1) := by decide +kernel
theorem q233_14 : decode (mB 233) 14 = .ok (.iconst 0, 1) := by decide +kernel
theorem q233_15 : decode (mB 233) 15 = .ok (.ireturn, 1) := by decide +kernel
