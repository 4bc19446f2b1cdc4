/-! what each instruction is, method by method (by program) -/

theorem q134_0 : decode (mB 134) 0 = .ok (.aload_n 0, 1) := by decide +kernel
theorem q134_1 : (decide (134 < 235) && decide (decode (mB 134) 1 = .ok (.invokespecial 1, 3)) && (lks (mD 134)).contains (1, 2, 0, 0) && decide (1 ≤ mV 134)) = true := by decide +kernel
theorem q134_4 : decode (mB 134) 4 = .ok (.aload_n 0, 1) := by decide +kernel
theorem q134_5 : decode (mB 134) 5 = .ok (.sipush 240, 3) := by decide +kernel
theorem q134_8 : naB 134 8 0 = true := by decide +kernel
theorem q134_10 : pfB 134 10 7 8 0 = true := by decide +kernel
theorem q134_13 : decode (mB 134) 13 = .ok (.aload_n 0, 1) := by decide +kernel
theorem q134_14 : decode (mB 134) 14 = .ok (.bipush 6, 2) := by decide +kernel
theorem q134_16 : naB 134 16 0 = true := by decide +kernel
theorem q134_18 : pfB 134 18 13 8 1 = true := by decide +kernel
theorem q134_21 : decode (mB 134) 21 = .ok (.aload_n 0, 1) := by decide +kernel
theorem q134_22 : decode (mB 134) 22 = .ok (.bipush 8, 2) := by decide +kernel
theorem q134_24 : naB 134 24 0 = true := by decide +kernel
theorem q134_26 : decode (mB 134) 26 = .ok (.dup, 1) := by decide +kernel
theorem q134_27 : decode (mB 134) 27 = .ok (.iconst 0, 1) := by decide +kernel
theorem q134_28 : decode (mB 134) 28 = .ok (.iconst 3, 1) := by decide +kernel
theorem q134_29 : decode (mB 134) 29 = .ok (.iastore, 1) := by decide +kernel
theorem q134_30 : decode (mB 134) 30 = .ok (.dup, 1) := by decide +kernel
theorem q134_31 : decode (mB 134) 31 = .ok (.iconst 1, 1) := by decide +kernel
theorem q134_32 : decode (mB 134) 32 = .ok (.iconst 4, 1) := by decide +kernel
theorem q134_33 : decode (mB 134) 33 = .ok (.iastore, 1) := by decide +kernel
theorem q134_34 : decode (mB 134) 34 = .ok (.dup, 1) := by decide +kernel
theorem q134_35 : decode (mB 134) 35 = .ok (.iconst 2, 1) := by decide +kernel
theorem q134_36 : decode (mB 134) 36 = .ok (.iconst 2, 1) := by decide +kernel
theorem q134_37 : decode (mB 134) 37 = .ok (.iastore, 1) := by decide +kernel
theorem q134_38 : decode (mB 134) 38 = .ok (.dup, 1) := by decide +kernel
theorem q134_39 : decode (mB 134) 39 = .ok (.iconst 3, 1) := by decide +kernel
theorem q134_40 : decode (mB 134) 40 = .ok (.iconst 5, 1) := by decide +kernel
theorem q134_41 : decode (mB 134) 41 = .ok (.iastore, 1) := by decide +kernel
theorem q134_42 : decode (mB 134) 42 = .ok (.dup, 1) := by decide +kernel
theorem q134_43 : decode (mB 134) 43 = .ok (.iconst 4, 1) := by decide +kernel
theorem q134_44 : decode (mB 134) 44 = .ok (.iconst 3, 1) := by decide +kernel
theorem q134_45 : decode (mB 134) 45 = .ok (.iastore, 1) := by decide +kernel
theorem q134_46 : decode (mB 134) 46 = .ok (.dup, 1) := by decide +kernel
theorem q134_47 : decode (mB 134) 47 = .ok (.iconst 5, 1) := by decide +kernel
theorem q134_48 : decode (mB 134) 48 = .ok (.iconst 2, 1) := by decide +kernel
theorem q134_49 : decode (mB 134) 49 = .ok (.iastore, 1) := by decide +kernel
theorem q134_50 : decode (mB 134) 50 = .ok (.dup, 1) := by decide +kernel
theorem q134_51 : decode (mB 134) 51 = .ok (.bipush 6, 2) := by decide +kernel
theorem q134_53 : decode (mB 134) 53 = .ok (.bipush 6, 2) := by decide +kernel
theorem q134_55 : decode (mB 134) 55 = .ok (.iastore, 1) := by decide +kernel
theorem q134_56 : decode (mB 134) 56 = .ok (.dup, 1) := by decide +kernel
theorem q134_57 : decode (mB 134) 57 = .ok (.bipush 7, 2) := by decide +kernel
theorem q134_59 : decode (mB 134) 59 = .ok (.iconst 1, 1) := by decide +kernel
theorem q134_60 : decode (mB 134) 60 = .ok (.iastore, 1) := by decide +kernel
theorem q134_61 : pfB 134 61 16 8 2 = true := by decide +kernel
theorem q134_64 : decode (mB 134) 64 = .ok (.aload_n 0, 1) := by decide +kernel
theorem q134_65 : decode (mB 134) 65 = .ok (.bipush 6, 2) := by decide +kernel
theorem q134_67 : naB 134 67 0 = true := by decide +kernel
theorem q134_69 : pfB 134 69 19 8 3 = true := by decide +kernel
theorem q134_72 : decode (mB 134) 72 = .ok (.aload_n 0, 1) := by decide +kernel
theorem q134_73 : decode (mB 134) 73 = .ok (.bipush 6, 2) := by decide +kernel
theorem q134_75 : naB 134 75 0 = true := by decide +kernel
theorem q134_77 : pfB 134 77 22 8 4 = true := by decide +kernel
theorem q134_80 : decode (mB 134) 80 = .ok (.aload_n 0, 1) := by decide +kernel
theorem q134_81 : decode (mB 134) 81 = .ok (.bipush 6, 2) := by decide +kernel
theorem q134_83 : naB 134 83 3 = true := by decide +kernel
theorem q134_85 : pfB 134 85 25 8 5 = true := by decide +kernel
theorem q134_88 : decode (mB 134) 88 = .ok (.aload_n 0, 1) := by decide +kernel
theorem q134_89 : decode (mB 134) 89 = .ok (.bipush 24, 2) := by decide +kernel
theorem q134_91 : naB 134 91 3 = true := by decide +kernel
theorem q134_93 : pfB 134 93 29 8 6 = true := by decide +kernel
theorem q134_96 : decode (mB 134) 96 = .ok (.aload_n 0, 1) := by decide +kernel
theorem q134_97 : decode (mB 134) 97 = .ok (.bipush 6, 2) := by decide +kernel
theorem q134_99 : naB 134 99 0 = true := by decide +kernel
theorem q134_101 : pfB 134 101 32 8 7 = true := by decide +kernel
theorem q134_104 : decode (mB 134) 104 = .ok (.aload_n 0, 1) := by decide +kernel
theorem q134_105 : decode (mB 134) 105 = .ok (.bipush 6, 2) := by decide +kernel
theorem q134_107 : naB 134 107 0 = true := by decide +kernel
theorem q134_109 : pfB 134 109 35 8 8 = true := by decide +kernel
theorem q134_112 : decode (mB 134) 112 = .ok (.aload_n 0, 1) := by decide +kernel
theorem q134_113 : decode (mB 134) 113 = .ok (.bipush 6, 2) := by decide +kernel
theorem q134_115 : naB 134 115 0 = true := by decide +kernel
theorem q134_117 : pfB 134 117 38 8 9 = true := by decide +kernel
theorem q134_120 : decode (mB 134) 120 = .ok (.aload_n 0, 1) := by decide +kernel
theorem q134_121 : decode (mB 134) 121 = .ok (.bipush 30, 2) := by decide +kernel
theorem q134_123 : naB 134 123 0 = true := by decide +kernel
theorem q134_125 : pfB 134 125 41 8 10 = true := by decide +kernel
theorem q134_128 : decode (mB 134) 128 = .ok (.aload_n 0, 1) := by decide +kernel
theorem q134_129 : decode (mB 134) 129 = .ok (.iconst 5, 1) := by decide +kernel
theorem q134_130 : naB 134 130 0 = true := by decide +kernel
theorem q134_132 : pfB 134 132 44 8 11 = true := by decide +kernel
theorem q134_135 : decode (mB 134) 135 = .ok (.aload_n 0, 1) := by decide +kernel
theorem q134_136 : decode (mB 134) 136 = .ok (.bipush 24, 2) := by decide +kernel
theorem q134_138 : naB 134 138 0 = true := by decide +kernel
theorem q134_140 : pfB 134 140 47 8 12 = true := by decide +kernel
theorem q134_143 : decode (mB 134) 143 = .ok (.aload_n 0, 1) := by decide +kernel
theorem q134_144 : decode (mB 134) 144 = .ok (.iconst 3, 1) := by decide +kernel
theorem q134_145 : pfB 134 145 50 8 16 = true := by decide +kernel
theorem q134_148 : decode (mB 134) 148 = .ok (.aload_n 0, 1) := by decide +kernel
theorem q134_149 : decode (mB 134) 149 = .ok (.bipush 45, 2) := by decide +kernel
theorem q134_151 : pfB 134 151 54 8 20 = true := by decide +kernel
theorem q134_154 : decode (mB 134) 154 = .ok (.iconst 0, 1) := by decide +kernel
theorem q134_155 : decode (mB 134) 155 = .ok (.istore_n 1, 1) := by decide +kernel
theorem q134_156 : decode (mB 134) 156 = .ok (.iload_n 1, 1) := by decide +kernel
theorem q134_157 : decode (mB 134) 157 = .ok (.iconst 4, 1) := by decide +kernel
theorem q134_158 : decode (mB 134) 158 = .ok (.if_icmp .ge 18, 3) := by decide +kernel
theorem q134_161 : decode (mB 134) 161 = .ok (.aload_n 0, 1) := by decide +kernel
theorem q134_162 : gfB 134 162 35 8 8 = true := by decide +kernel
theorem q134_165 : decode (mB 134) 165 = .ok (.iconst 2, 1) := by decide +kernel
theorem q134_166 : decode (mB 134) 166 = .ok (.iload_n 1, 1) := by decide +kernel
theorem q134_167 : decode (mB 134) 167 = .ok (.iadd, 1) := by decide +kernel
theorem q134_168 : decode (mB 134) 168 = .ok (.iconst (-1), 1) := by decide +kernel
theorem q134_169 : decode (mB 134) 169 = .ok (.iastore, 1) := by decide +kernel
theorem q134_170 : decode (mB 134) 170 = .ok (.iinc 1 1, 3) := by decide +kernel
theorem q134_173 : decode (mB 134) 173 = .ok (.goto (-17), 3) := by decide +kernel
theorem q134_176 : decode (mB 134) 176 = .ok (.return_, 1) := by decide +kernel
theorem q135_0 : decode (mB 135) 0 = .ok (.aload_n 0, 1) := by decide +kernel
theorem q135_1 : gfB 135 1 58 8 19 = true := by decide +kernel
theorem q135_4 : decode (mB 135) 4 = .ok (.ireturn, 1) := by decide +kernel
theorem q136_0 : decode (mB 136) 0 = .ok (.iload_n 0, 1) := by decide +kernel
theorem q136_1 : decode (mB 136) 1 = .ok (.iload_n 1, 1) := by decide +kernel
theorem q136_2 : decode (mB 136) 2 = .ok (.if_icmp .lt 12, 3) := by decide +kernel
theorem q136_5 : decode (mB 136) 5 = .ok (.iload_n 0, 1) := by decide +kernel
theorem q136_6 : decode (mB 136) 6 = .ok (.iload_n 2, 1) := by decide +kernel
theorem q136_7 : decode (mB 136) 7 = .ok (.if_icmp .gt 7, 3) := by decide +kernel
theorem q136_10 : decode (mB 136) 10 = .ok (.iconst 1, 1) := by decide +kernel
theorem q136_11 : decode (mB 136) 11 = .ok (.goto 4, 3) := by decide +kernel
theorem q136_14 : decode (mB 136) 14 = .ok (.iconst 0, 1) := by decide +kernel
theorem q136_15 : decode (mB 136) 15 = .ok (.ireturn, 1) := by decide +kernel
theorem q137_0 : decode (mB 137) 0 = .ok (.aload_n 0, 1) := by decide +kernel
theorem q137_1 : decode (mB 137) 1 = .ok (.iload_n 1, 1) := by decide +kernel
theorem q137_2 : decode (mB 137) 2 = .ok (.ifCond .eq 7, 3) := by decide +kernel
theorem q137_5 : decode (mB 137) 5 = .ok (.iload_n 2, 1) := by decide +kernel
theorem q137_6 : decode (mB 137) 6 = .ok (.goto 4, 3) := by decide +kernel
theorem q137_9 : decode (mB 137) 9 = .ok (.iconst 0, 1) := by decide +kernel
theorem q137_10 : pfB 137 10 58 8 19 = true := by decide +kernel
theorem q137_13 : decode (mB 137) 13 = .ok (.iload_n 1, 1) := by decide +kernel
theorem q137_14 : decode (mB 137) 14 = .ok (.ireturn, 1) := by decide +kernel
theorem q138_0 : decode (mB 138) 0 = .ok (.aload_n 0, 1) := by decide +kernel
theorem q138_1 : decode (mB 138) 1 = .ok (.iload_n 1, 1) := by decide +kernel
theorem q138_2 : decode (mB 138) 2 = .ok (.iconst 0, 1) := by decide +kernel
theorem q138_3 : decode (mB 138) 3 = .ok (.iconst 5, 1) := by decide +kernel
theorem q138_4 : cfB 138 4 61 136 0 4 3 = true := by decide +kernel
theorem q138_7 : decode (mB 138) 7 = .ok (.ifCond .ne 7, 3) := by decide +kernel
theorem q138_10 : decode (mB 138) 10 = .ok (.iconst 1, 1) := by decide +kernel
theorem q138_11 : decode (mB 138) 11 = .ok (.goto 4, 3) := by decide +kernel
theorem q138_14 : decode (mB 138) 14 = .ok (.iconst 0, 1) := by decide +kernel
theorem q138_15 : decode (mB 138) 15 = .ok (.iconst 1, 1) := by decide +kernel
theorem q138_16 : cfB 138 16 65 137 1 4 2 = true := by decide +kernel
theorem q138_19 : decode (mB 138) 19 = .ok (.ireturn, 1) := by decide +kernel
theorem q139_0 : decode (mB 139) 0 = .ok (.iload_n 0, 1) := by decide +kernel
theorem q139_1 : decode (mB 139) 1 = .ok (.sipush (-9999), 3) := by decide +kernel
theorem q139_4 : decode (mB 139) 4 = .ok (.sipush 9999, 3) := by decide +kernel
theorem q139_7 : cfB 139 7 61 136 0 4 3 = true := by decide +kernel
theorem q139_10 : decode (mB 139) 10 = .ok (.ifCond .ne 10, 3) := by decide +kernel
theorem q139_13 : decode (mB 139) 13 = .ok (.iload_n 0, 1) := by decide +kernel
theorem q139_14 : decode (mB 139) 14 = .ok (.sipush (-10000), 3) := by decide +kernel
theorem q139_17 : decode (mB 139) 17 = .ok (.if_icmp .ne 7, 3) := by decide +kernel
theorem q139_20 : decode (mB 139) 20 = .ok (.iconst 1, 1) := by decide +kernel
theorem q139_21 : decode (mB 139) 21 = .ok (.goto 4, 3) := by decide +kernel
theorem q139_24 : decode (mB 139) 24 = .ok (.iconst 0, 1) := by decide +kernel
theorem q139_25 : decode (mB 139) 25 = .ok (.ireturn, 1) := by decide +kernel
theorem q140_0 : decode (mB 140) 0 = .ok (.aload_n 0, 1) := by decide +kernel
theorem q140_1 : decode (mB 140) 1 = .ok (.iload_n 1, 1) := by decide +kernel
theorem q140_2 : cfB 140 2 69 139 0 4 1 = true := by decide +kernel
theorem q140_5 : decode (mB 140) 5 = .ok (.ifCond .eq 41, 3) := by decide +kernel
theorem q140_8 : decode (mB 140) 8 = .ok (.iload_n 2, 1) := by decide +kernel
theorem q140_9 : cfB 140 9 69 139 0 4 1 = true := by decide +kernel
theorem q140_12 : decode (mB 140) 12 = .ok (.ifCond .eq 34, 3) := by decide +kernel
theorem q140_15 : decode (mB 140) 15 = .ok (.iload_n 3, 1) := by decide +kernel
theorem q140_16 : cfB 140 16 69 139 0 4 1 = true := by decide +kernel
theorem q140_19 : decode (mB 140) 19 = .ok (.ifCond .eq 27, 3) := by decide +kernel
theorem q140_22 : decode (mB 140) 22 = .ok (.iload 4, 2) := by decide +kernel
theorem q140_24 : cfB 140 24 69 139 0 4 1 = true := by decide +kernel
theorem q140_27 : decode (mB 140) 27 = .ok (.ifCond .eq 19, 3) := by decide +kernel
theorem q140_30 : decode (mB 140) 30 = .ok (.iload 5, 2) := by decide +kernel
theorem q140_32 : cfB 140 32 69 139 0 4 1 = true := by decide +kernel
theorem q140_35 : decode (mB 140) 35 = .ok (.ifCond .eq 11, 3) := by decide +kernel
theorem q140_38 : decode (mB 140) 38 = .ok (.iload 6, 2) := by decide +kernel
theorem q140_40 : cfB 140 40 69 139 0 4 1 = true := by decide +kernel
theorem q140_43 : decode (mB 140) 43 = .ok (.ifCond .ne 7, 3) := by decide +kernel
theorem q140_46 : decode (mB 140) 46 = .ok (.iconst 1, 1) := by decide +kernel
theorem q140_47 : decode (mB 140) 47 = .ok (.goto 4, 3) := by decide +kernel
theorem q140_50 : decode (mB 140) 50 = .ok (.iconst 0, 1) := by decide +kernel
theorem q140_51 : decode (mB 140) 51 = .ok (.iconst 1, 1) := by decide +kernel
theorem q140_52 : cfB 140 52 65 137 1 4 2 = true := by decide +kernel
theorem q140_55 : decode (mB 140) 55 = .ok (.ifCond .ne 25, 3) := by decide +kernel
theorem q140_58 : decode (mB 140) 58 = .ok (.aload_n 0, 1) := by decide +kernel
theorem q140_59 : decode (mB 140) 59 = .ok (.aload_n 0, 1) := by decide +kernel
theorem q140_60 : gfB 140 60 73 8 13 = true := by decide +kernel
theorem q140_63 : decode (mB 140) 63 = .ok (.bipush 40, 2) := by decide +kernel
theorem q140_65 : decode (mB 140) 65 = .ok (.if_icmp .ne 7, 3) := by decide +kernel
theorem q140_68 : decode (mB 140) 68 = .ok (.iconst 1, 1) := by decide +kernel
theorem q140_69 : decode (mB 140) 69 = .ok (.goto 4, 3) := by decide +kernel
theorem q140_72 : decode (mB 140) 72 = .ok (.iconst 0, 1) := by decide +kernel
theorem q140_73 : decode (mB 140) 73 = .ok (.iconst 2, 1) := by decide +kernel
theorem q140_74 : cfB 140 74 65 137 1 4 2 = true := by decide +kernel
theorem q140_77 : decode (mB 140) 77 = .ok (.ifCond .eq 5, 3) := by decide +kernel
theorem q140_80 : decode (mB 140) 80 = .ok (.iconst 0, 1) := by decide +kernel
theorem q140_81 : decode (mB 140) 81 = .ok (.ireturn, 1) := by decide +kernel
theorem q140_82 : decode (mB 140) 82 = .ok (.aload_n 0, 1) := by decide +kernel
theorem q140_83 : decode (mB 140) 83 = .ok (.iconst 0, 1) := by decide +kernel
theorem q140_84 : pfB 140 84 76 8 22 = true := by decide +kernel
theorem q140_87 : decode (mB 140) 87 = .ok (.bipush 6, 2) := by decide +kernel
theorem q140_89 : decode (mB 140) 89 = .ok (.aload_n 0, 1) := by decide +kernel
theorem q140_90 : gfB 140 90 73 8 13 = true := by decide +kernel
theorem q140_93 : decode (mB 140) 93 = .ok (.imul, 1) := by decide +kernel
theorem q140_94 : decode (mB 140) 94 = .ok (.istore 7, 2) := by decide +kernel
theorem q140_96 : decode (mB 140) 96 = .ok (.aload_n 0, 1) := by decide +kernel
theorem q140_97 : gfB 140 97 7 8 0 = true := by decide +kernel
theorem q140_100 : decode (mB 140) 100 = .ok (.iload 7, 2) := by decide +kernel
theorem q140_102 : decode (mB 140) 102 = .ok (.iload_n 1, 1) := by decide +kernel
theorem q140_103 : decode (mB 140) 103 = .ok (.iastore, 1) := by decide +kernel
theorem q140_104 : decode (mB 140) 104 = .ok (.aload_n 0, 1) := by decide +kernel
theorem q140_105 : gfB 140 105 7 8 0 = true := by decide +kernel
theorem q140_108 : decode (mB 140) 108 = .ok (.iload 7, 2) := by decide +kernel
theorem q140_110 : decode (mB 140) 110 = .ok (.iconst 1, 1) := by decide +kernel
theorem q140_111 : decode (mB 140) 111 = .ok (.iadd, 1) := by decide +kernel
theorem q140_112 : decode (mB 140) 112 = .ok (.iload_n 2, 1) := by decide +kernel
theorem q140_113 : decode (mB 140) 113 = .ok (.iastore, 1) := by decide +kernel
theorem q140_114 : decode (mB 140) 114 = .ok (.aload_n 0, 1) := by decide +kernel
theorem q140_115 : gfB 140 115 7 8 0 = true := by decide +kernel
theorem q140_118 : decode (mB 140) 118 = .ok (.iload 7, 2) := by decide +kernel
theorem q140_120 : decode (mB 140) 120 = .ok (.iconst 2, 1) := by decide +kernel
theorem q140_121 : decode (mB 140) 121 = .ok (.iadd, 1) := by decide +kernel
theorem q140_122 : decode (mB 140) 122 = .ok (.iload_n 3, 1) := by decide +kernel
theorem q140_123 : decode (mB 140) 123 = .ok (.iastore, 1) := by decide +kernel
theorem q140_124 : decode (mB 140) 124 = .ok (.aload_n 0, 1) := by decide +kernel
theorem q140_125 : gfB 140 125 7 8 0 = true := by decide +kernel
theorem q140_128 : decode (mB 140) 128 = .ok (.iload 7, 2) := by decide +kernel
theorem q140_130 : decode (mB 140) 130 = .ok (.iconst 3, 1) := by decide +kernel
theorem q140_131 : decode (mB 140) 131 = .ok (.iadd, 1) := by decide +kernel
theorem q140_132 : decode (mB 140) 132 = .ok (.iload 4, 2) := by decide +kernel
theorem q140_134 : decode (mB 140) 134 = .ok (.iastore, 1) := by decide +kernel
theorem q140_135 : decode (mB 140) 135 = .ok (.aload_n 0, 1) := by decide +kernel
theorem q140_136 : gfB 140 136 7 8 0 = true := by decide +kernel
theorem q140_139 : decode (mB 140) 139 = .ok (.iload 7, 2) := by decide +kernel
theorem q140_141 : decode (mB 140) 141 = .ok (.iconst 4, 1) := by decide +kernel
theorem q140_142 : decode (mB 140) 142 = .ok (.iadd, 1) := by decide +kernel
theorem q140_143 : decode (mB 140) 143 = .ok (.iload 5, 2) := by decide +kernel
theorem q140_145 : decode (mB 140) 145 = .ok (.iastore, 1) := by decide +kernel
theorem q140_146 : decode (mB 140) 146 = .ok (.aload_n 0, 1) := by decide +kernel
theorem q140_147 : gfB 140 147 7 8 0 = true := by decide +kernel
theorem q140_150 : decode (mB 140) 150 = .ok (.iload 7, 2) := by decide +kernel
theorem q140_152 : decode (mB 140) 152 = .ok (.iconst 5, 1) := by decide +kernel
theorem q140_153 : decode (mB 140) 153 = .ok (.iadd, 1) := by decide +kernel
theorem q140_154 : decode (mB 140) 154 = .ok (.iload 6, 2) := by decide +kernel
theorem q140_156 : decode (mB 140) 156 = .ok (.iastore, 1) := by decide +kernel
theorem q140_157 : decode (mB 140) 157 = .ok (.aload_n 0, 1) := by decide +kernel
theorem q140_158 : decode (mB 140) 158 = .ok (.dup, 1) := by decide +kernel
theorem q140_159 : gfB 140 159 73 8 13 = true := by decide +kernel
theorem q140_162 : decode (mB 140) 162 = .ok (.iconst 1, 1) := by decide +kernel
theorem q140_163 : decode (mB 140) 163 = .ok (.iadd, 1) := by decide +kernel
theorem q140_164 : pfB 140 164 73 8 13 = true := by decide +kernel
theorem q140_167 : decode (mB 140) 167 = .ok (.aload_n 0, 1) := by decide +kernel
theorem q140_168 : gfB 140 168 73 8 13 = true := by decide +kernel
theorem q140_171 : decode (mB 140) 171 = .ok (.ireturn, 1) := by decide +kernel
theorem q141_0 : decode (mB 141) 0 = .ok (.aload_n 0, 1) := by decide +kernel
theorem q141_1 : decode (mB 141) 1 = .ok (.iload_n 1, 1) := by decide +kernel
theorem q141_2 : decode (mB 141) 2 = .ok (.iconst 0, 1) := by decide +kernel
theorem q141_3 : decode (mB 141) 3 = .ok (.aload_n 0, 1) := by decide +kernel
theorem q141_4 : gfB 141 4 73 8 13 = true := by decide +kernel
theorem q141_7 : decode (mB 141) 7 = .ok (.iconst 1, 1) := by decide +kernel
theorem q141_8 : decode (mB 141) 8 = .ok (.isub, 1) := by decide +kernel
theorem q141_9 : cfB 141 9 61 136 0 4 3 = true := by decide +kernel
theorem q141_12 : decode (mB 141) 12 = .ok (.ifCond .ne 7, 3) := by decide +kernel
theorem q141_15 : decode (mB 141) 15 = .ok (.iconst 1, 1) := by decide +kernel
theorem q141_16 : decode (mB 141) 16 = .ok (.goto 4, 3) := by decide +kernel
theorem q141_19 : decode (mB 141) 19 = .ok (.iconst 0, 1) := by decide +kernel
theorem q141_20 : decode (mB 141) 20 = .ok (.iconst 1, 1) := by decide +kernel
theorem q141_21 : cfB 141 21 65 137 1 4 2 = true := by decide +kernel
theorem q141_24 : decode (mB 141) 24 = .ok (.ifCond .eq 5, 3) := by decide +kernel
theorem q141_27 : decode (mB 141) 27 = .ok (.iconst 0, 1) := by decide +kernel
theorem q141_28 : decode (mB 141) 28 = .ok (.ireturn, 1) := by decide +kernel
theorem q141_29 : decode (mB 141) 29 = .ok (.aload_n 0, 1) := by decide +kernel
theorem q141_30 : decode (mB 141) 30 = .ok (.iconst 0, 1) := by decide +kernel
theorem q141_31 : pfB 141 31 76 8 22 = true := by decide +kernel
theorem q141_34 : decode (mB 141) 34 = .ok (.aload_n 0, 1) := by decide +kernel
theorem q141_35 : decode (mB 141) 35 = .ok (.dup, 1) := by decide +kernel
theorem q141_36 : gfB 141 36 73 8 13 = true := by decide +kernel
theorem q141_39 : decode (mB 141) 39 = .ok (.iconst 1, 1) := by decide +kernel
theorem q141_40 : decode (mB 141) 40 = .ok (.isub, 1) := by decide +kernel
theorem q141_41 : pfB 141 41 73 8 13 = true := by decide +kernel
theorem q141_44 : decode (mB 141) 44 = .ok (.bipush 6, 2) := by decide +kernel
theorem q141_46 : decode (mB 141) 46 = .ok (.iload_n 1, 1) := by decide +kernel
theorem q141_47 : decode (mB 141) 47 = .ok (.imul, 1) := by decide +kernel
theorem q141_48 : decode (mB 141) 48 = .ok (.istore_n 2, 1) := by decide +kernel
theorem q141_49 : decode (mB 141) 49 = .ok (.iload_n 2, 1) := by decide +kernel
theorem q141_50 : decode (mB 141) 50 = .ok (.bipush 6, 2) := by decide +kernel
theorem q141_52 : decode (mB 141) 52 = .ok (.aload_n 0, 1) := by decide +kernel
theorem q141_53 : gfB 141 53 73 8 13 = true := by decide +kernel
theorem q141_56 : decode (mB 141) 56 = .ok (.imul, 1) := by decide +kernel
theorem q141_57 : decode (mB 141) 57 = .ok (.if_icmp .ge 24, 3) := by decide +kernel
theorem q141_60 : decode (mB 141) 60 = .ok (.aload_n 0, 1) := by decide +kernel
theorem q141_61 : gfB 141 61 7 8 0 = true := by decide +kernel
theorem q141_64 : decode (mB 141) 64 = .ok (.iload_n 2, 1) := by decide +kernel
theorem q141_65 : decode (mB 141) 65 = .ok (.aload_n 0, 1) := by decide +kernel
theorem q141_66 : gfB 141 66 7 8 0 = true := by decide +kernel
theorem q141_69 : decode (mB 141) 69 = .ok (.iload_n 2, 1) := by decide +kernel
theorem q141_70 : decode (mB 141) 70 = .ok (.bipush 6, 2) := by decide +kernel
theorem q141_72 : decode (mB 141) 72 = .ok (.iadd, 1) := by decide +kernel
theorem q141_73 : decode (mB 141) 73 = .ok (.iaload, 1) := by decide +kernel
theorem q141_74 : decode (mB 141) 74 = .ok (.iastore, 1) := by decide +kernel
theorem q141_75 : decode (mB 141) 75 = .ok (.iinc 2 1, 3) := by decide +kernel
theorem q141_78 : decode (mB 141) 78 = .ok (.goto (-29), 3) := by decide +kernel
theorem q141_81 : decode (mB 141) 81 = .ok (.aload_n 0, 1) := by decide +kernel
theorem q141_82 : gfB 141 82 73 8 13 = true := by decide +kernel
theorem q141_85 : decode (mB 141) 85 = .ok (.ireturn, 1) := by decide +kernel
theorem q142_0 : decode (mB 142) 0 = .ok (.aload_n 0, 1) := by decide +kernel
theorem q142_1 : decode (mB 142) 1 = .ok (.iload_n 1, 1) := by decide +kernel
theorem q142_2 : decode (mB 142) 2 = .ok (.iconst 0, 1) := by decide +kernel
theorem q142_3 : decode (mB 142) 3 = .ok (.aload_n 0, 1) := by decide +kernel
theorem q142_4 : gfB 142 4 73 8 13 = true := by decide +kernel
theorem q142_7 : decode (mB 142) 7 = .ok (.iconst 1, 1) := by decide +kernel
theorem q142_8 : decode (mB 142) 8 = .ok (.isub, 1) := by decide +kernel
theorem q142_9 : cfB 142 9 61 136 0 4 3 = true := by decide +kernel
theorem q142_12 : decode (mB 142) 12 = .ok (.ifCond .eq 12, 3) := by decide +kernel
theorem q142_15 : decode (mB 142) 15 = .ok (.iload_n 2, 1) := by decide +kernel
theorem q142_16 : decode (mB 142) 16 = .ok (.iconst 0, 1) := by decide +kernel
theorem q142_17 : decode (mB 142) 17 = .ok (.iconst 5, 1) := by decide +kernel
theorem q142_18 : cfB 142 18 61 136 0 4 3 = true := by decide +kernel
theorem q142_21 : decode (mB 142) 21 = .ok (.ifCond .ne 7, 3) := by decide +kernel
theorem q142_24 : decode (mB 142) 24 = .ok (.iconst 1, 1) := by decide +kernel
theorem q142_25 : decode (mB 142) 25 = .ok (.goto 4, 3) := by decide +kernel
theorem q142_28 : decode (mB 142) 28 = .ok (.iconst 0, 1) := by decide +kernel
theorem q142_29 : decode (mB 142) 29 = .ok (.iconst 1, 1) := by decide +kernel
theorem q142_30 : cfB 142 30 65 137 1 4 2 = true := by decide +kernel
theorem q142_33 : decode (mB 142) 33 = .ok (.ifCond .ne 23, 3) := by decide +kernel
theorem q142_36 : decode (mB 142) 36 = .ok (.aload_n 0, 1) := by decide +kernel
theorem q142_37 : decode (mB 142) 37 = .ok (.iload_n 3, 1) := by decide +kernel
theorem q142_38 : cfB 142 38 69 139 0 4 1 = true := by decide +kernel
theorem q142_41 : decode (mB 142) 41 = .ok (.ifCond .ne 7, 3) := by decide +kernel
theorem q142_44 : decode (mB 142) 44 = .ok (.iconst 1, 1) := by decide +kernel
theorem q142_45 : decode (mB 142) 45 = .ok (.goto 4, 3) := by decide +kernel
theorem q142_48 : decode (mB 142) 48 = .ok (.iconst 0, 1) := by decide +kernel
theorem q142_49 : decode (mB 142) 49 = .ok (.iconst 2, 1) := by decide +kernel
theorem q142_50 : cfB 142 50 65 137 1 4 2 = true := by decide +kernel
theorem q142_53 : decode (mB 142) 53 = .ok (.ifCond .eq 5, 3) := by decide +kernel
theorem q142_56 : decode (mB 142) 56 = .ok (.iconst 0, 1) := by decide +kernel
theorem q142_57 : decode (mB 142) 57 = .ok (.ireturn, 1) := by decide +kernel
theorem q142_58 : decode (mB 142) 58 = .ok (.aload_n 0, 1) := by decide +kernel
theorem q142_59 : gfB 142 59 7 8 0 = true := by decide +kernel
theorem q142_62 : decode (mB 142) 62 = .ok (.bipush 6, 2) := by decide +kernel
theorem q142_64 : decode (mB 142) 64 = .ok (.iload_n 1, 1) := by decide +kernel
theorem q142_65 : decode (mB 142) 65 = .ok (.imul, 1) := by decide +kernel
theorem q142_66 : decode (mB 142) 66 = .ok (.iload_n 2, 1) := by decide +kernel
theorem q142_67 : decode (mB 142) 67 = .ok (.iadd, 1) := by decide +kernel
theorem q142_68 : decode (mB 142) 68 = .ok (.iaload, 1) := by decide +kernel
theorem q142_69 : decode (mB 142) 69 = .ok (.istore 4, 2) := by decide +kernel
theorem q142_71 : decode (mB 142) 71 = .ok (.aload_n 0, 1) := by decide +kernel
theorem q142_72 : decode (mB 142) 72 = .ok (.iconst 0, 1) := by decide +kernel
theorem q142_73 : pfB 142 73 76 8 22 = true := by decide +kernel
theorem q142_76 : decode (mB 142) 76 = .ok (.aload_n 0, 1) := by decide +kernel
theorem q142_77 : gfB 142 77 7 8 0 = true := by decide +kernel
theorem q142_80 : decode (mB 142) 80 = .ok (.bipush 6, 2) := by decide +kernel
theorem q142_82 : decode (mB 142) 82 = .ok (.iload_n 1, 1) := by decide +kernel
theorem q142_83 : decode (mB 142) 83 = .ok (.imul, 1) := by decide +kernel
theorem q142_84 : decode (mB 142) 84 = .ok (.iload_n 2, 1) := by decide +kernel
theorem q142_85 : decode (mB 142) 85 = .ok (.iadd, 1) := by decide +kernel
theorem q142_86 : decode (mB 142) 86 = .ok (.iload_n 3, 1) := by decide +kernel
theorem q142_87 : decode (mB 142) 87 = .ok (.iastore, 1) := by decide +kernel
theorem q142_88 : decode (mB 142) 88 = .ok (.iload 4, 2) := by decide +kernel
theorem q142_90 : decode (mB 142) 90 = .ok (.ireturn, 1) := by decide +kernel
theorem q143_0 : decode (mB 143) 0 = .ok (.aload_n 0, 1) := by decide +kernel
theorem q143_1 : decode (mB 143) 1 = .ok (.iconst 0, 1) := by decide +kernel
theorem q143_2 : pfB 143 2 58 8 19 = true := by decide +kernel
theorem q143_5 : decode (mB 143) 5 = .ok (.aload_n 0, 1) := by decide +kernel
theorem q143_6 : gfB 143 6 73 8 13 = true := by decide +kernel
theorem q143_9 : decode (mB 143) 9 = .ok (.ireturn, 1) := by decide +kernel
theorem q144_0 : decode (mB 144) 0 = .ok (.aload_n 0, 1) := by decide +kernel
theorem q144_1 : gfB 144 1 7 8 0 = true := by decide +kernel
theorem q144_4 : decode (mB 144) 4 = .ok (.bipush 6, 2) := by decide +kernel
theorem q144_6 : decode (mB 144) 6 = .ok (.iload_n 1, 1) := by decide +kernel
theorem q144_7 : decode (mB 144) 7 = .ok (.imul, 1) := by decide +kernel
theorem q144_8 : decode (mB 144) 8 = .ok (.iload_n 2, 1) := by decide +kernel
theorem q144_9 : decode (mB 144) 9 = .ok (.iadd, 1) := by decide +kernel
theorem q144_10 : decode (mB 144) 10 = .ok (.iaload, 1) := by decide +kernel
theorem q144_11 : decode (mB 144) 11 = .ok (.ireturn, 1) := by decide +kernel
theorem q145_0 : decode (mB 145) 0 = .ok (.iconst 0, 1) := by decide +kernel
theorem q145_1 : decode (mB 145) 1 = .ok (.istore_n 2, 1) := by decide +kernel
theorem q145_2 : decode (mB 145) 2 = .ok (.iconst 0, 1) := by decide +kernel
theorem q145_3 : decode (mB 145) 3 = .ok (.istore_n 3, 1) := by decide +kernel
theorem q145_4 : decode (mB 145) 4 = .ok (.iload_n 3, 1) := by decide +kernel
theorem q145_5 : decode (mB 145) 5 = .ok (.aload_n 0, 1) := by decide +kernel
theorem q145_6 : gfB 145 6 73 8 13 = true := by decide +kernel
theorem q145_9 : decode (mB 145) 9 = .ok (.if_icmp .ge 29, 3) := by decide +kernel
theorem q145_12 : decode (mB 145) 12 = .ok (.iload_n 2, 1) := by decide +kernel
theorem q145_13 : decode (mB 145) 13 = .ok (.aload_n 0, 1) := by decide +kernel
theorem q145_14 : decode (mB 145) 14 = .ok (.iload_n 3, 1) := by decide +kernel
theorem q145_15 : decode (mB 145) 15 = .ok (.iload_n 1, 1) := by decide +kernel
theorem q145_16 : cfB 145 16 80 144 1 4 2 = true := by decide +kernel
theorem q145_19 : decode (mB 145) 19 = .ok (.sipush (-10000), 3) := by decide +kernel
theorem q145_22 : decode (mB 145) 22 = .ok (.if_icmp .ne 7, 3) := by decide +kernel
theorem q145_25 : decode (mB 145) 25 = .ok (.iconst 0, 1) := by decide +kernel
theorem q145_26 : decode (mB 145) 26 = .ok (.goto 4, 3) := by decide +kernel
theorem q145_29 : decode (mB 145) 29 = .ok (.iconst 1, 1) := by decide +kernel
theorem q145_30 : decode (mB 145) 30 = .ok (.iadd, 1) := by decide +kernel
theorem q145_31 : decode (mB 145) 31 = .ok (.istore_n 2, 1) := by decide +kernel
theorem q145_32 : decode (mB 145) 32 = .ok (.iinc 3 1, 3) := by decide +kernel
theorem q145_35 : decode (mB 145) 35 = .ok (.goto (-31), 3) := by decide +kernel
theorem q145_38 : decode (mB 145) 38 = .ok (.iload_n 2, 1) := by decide +kernel
theorem q145_39 : decode (mB 145) 39 = .ok (.ireturn, 1) := by decide +kernel
theorem q146_0 : decode (mB 146) 0 = .ok (.iconst 0, 1) := by decide +kernel
theorem q146_1 : decode (mB 146) 1 = .ok (.istore_n 2, 1) := by decide +kernel
theorem q146_2 : decode (mB 146) 2 = .ok (.iconst 0, 1) := by decide +kernel
theorem q146_3 : decode (mB 146) 3 = .ok (.istore_n 3, 1) := by decide +kernel
theorem q146_4 : decode (mB 146) 4 = .ok (.iload_n 3, 1) := by decide +kernel
theorem q146_5 : decode (mB 146) 5 = .ok (.aload_n 0, 1) := by decide +kernel
theorem q146_6 : gfB 146 6 73 8 13 = true := by decide +kernel
theorem q146_9 : decode (mB 146) 9 = .ok (.if_icmp .ge 82, 3) := by decide +kernel
theorem q146_12 : decode (mB 146) 12 = .ok (.aload_n 0, 1) := by decide +kernel
theorem q146_13 : decode (mB 146) 13 = .ok (.iload_n 3, 1) := by decide +kernel
theorem q146_14 : decode (mB 146) 14 = .ok (.iload_n 1, 1) := by decide +kernel
theorem q146_15 : cfB 146 15 80 144 1 4 2 = true := by decide +kernel
theorem q146_18 : decode (mB 146) 18 = .ok (.sipush (-10000), 3) := by decide +kernel
theorem q146_21 : decode (mB 146) 21 = .ok (.if_icmp .eq 7, 3) := by decide +kernel
theorem q146_24 : decode (mB 146) 24 = .ok (.iconst 1, 1) := by decide +kernel
theorem q146_25 : decode (mB 146) 25 = .ok (.goto 4, 3) := by decide +kernel
theorem q146_28 : decode (mB 146) 28 = .ok (.iconst 0, 1) := by decide +kernel
theorem q146_29 : decode (mB 146) 29 = .ok (.istore 4, 2) := by decide +kernel
theorem q146_31 : decode (mB 146) 31 = .ok (.iconst 0, 1) := by decide +kernel
theorem q146_32 : decode (mB 146) 32 = .ok (.istore 5, 2) := by decide +kernel
theorem q146_34 : decode (mB 146) 34 = .ok (.iload 5, 2) := by decide +kernel
theorem q146_36 : decode (mB 146) 36 = .ok (.iload_n 3, 1) := by decide +kernel
theorem q146_37 : decode (mB 146) 37 = .ok (.if_icmp .ge 35, 3) := by decide +kernel
theorem q146_40 : decode (mB 146) 40 = .ok (.iload 4, 2) := by decide +kernel
theorem q146_42 : decode (mB 146) 42 = .ok (.aload_n 0, 1) := by decide +kernel
theorem q146_43 : decode (mB 146) 43 = .ok (.iload 5, 2) := by decide +kernel
theorem q146_45 : decode (mB 146) 45 = .ok (.iload_n 1, 1) := by decide +kernel
theorem q146_46 : cfB 146 46 80 144 1 4 2 = true := by decide +kernel
theorem q146_49 : decode (mB 146) 49 = .ok (.aload_n 0, 1) := by decide +kernel
theorem q146_50 : decode (mB 146) 50 = .ok (.iload_n 3, 1) := by decide +kernel
theorem q146_51 : decode (mB 146) 51 = .ok (.iload_n 1, 1) := by decide +kernel
theorem q146_52 : cfB 146 52 80 144 1 4 2 = true := by decide +kernel
theorem q146_55 : decode (mB 146) 55 = .ok (.if_icmp .eq 7, 3) := by decide +kernel
theorem q146_58 : decode (mB 146) 58 = .ok (.iconst 1, 1) := by decide +kernel
theorem q146_59 : decode (mB 146) 59 = .ok (.goto 4, 3) := by decide +kernel
theorem q146_62 : decode (mB 146) 62 = .ok (.iconst 0, 1) := by decide +kernel
theorem q146_63 : decode (mB 146) 63 = .ok (.iand, 1) := by decide +kernel
theorem q146_64 : decode (mB 146) 64 = .ok (.istore 4, 2) := by decide +kernel
theorem q146_66 : decode (mB 146) 66 = .ok (.iinc 5 1, 3) := by decide +kernel
theorem q146_69 : decode (mB 146) 69 = .ok (.goto (-35), 3) := by decide +kernel
theorem q146_72 : decode (mB 146) 72 = .ok (.iload_n 2, 1) := by decide +kernel
theorem q146_73 : decode (mB 146) 73 = .ok (.iload 4, 2) := by decide +kernel
theorem q146_75 : decode (mB 146) 75 = .ok (.ifCond .eq 7, 3) := by decide +kernel
theorem q146_78 : decode (mB 146) 78 = .ok (.iconst 1, 1) := by decide +kernel
theorem q146_79 : decode (mB 146) 79 = .ok (.goto 4, 3) := by decide +kernel
theorem q146_82 : decode (mB 146) 82 = .ok (.iconst 0, 1) := by decide +kernel
theorem q146_83 : decode (mB 146) 83 = .ok (.iadd, 1) := by decide +kernel
theorem q146_84 : decode (mB 146) 84 = .ok (.istore_n 2, 1) := by decide +kernel
theorem q146_85 : decode (mB 146) 85 = .ok (.iinc 3 1, 3) := by decide +kernel
theorem q146_88 : decode (mB 146) 88 = .ok (.goto (-84), 3) := by decide +kernel
theorem q146_91 : decode (mB 146) 91 = .ok (.iload_n 2, 1) := by decide +kernel
theorem q146_92 : decode (mB 146) 92 = .ok (.ireturn, 1) := by decide +kernel
theorem q147_0 : decode (mB 147) 0 = .ok (.aload_n 0, 1) := by decide +kernel
theorem q147_1 : decode (mB 147) 1 = .ok (.iload_n 1, 1) := by decide +kernel
theorem q147_2 : cfB 147 2 84 138 1 4 1 = true := by decide +kernel
theorem q147_5 : decode (mB 147) 5 = .ok (.ifCond .eq 7, 3) := by decide +kernel
theorem q147_8 : decode (mB 147) 8 = .ok (.iconst 0, 1) := by decide +kernel
theorem q147_9 : decode (mB 147) 9 = .ok (.goto 8, 3) := by decide +kernel
theorem q147_12 : decode (mB 147) 12 = .ok (.aload_n 0, 1) := by decide +kernel
theorem q147_13 : decode (mB 147) 13 = .ok (.iload_n 1, 1) := by decide +kernel
theorem q147_14 : cfB 147 14 87 146 1 4 1 = true := by decide +kernel
theorem q147_17 : decode (mB 147) 17 = .ok (.ireturn, 1) := by decide +kernel
theorem q148_0 : decode (mB 148) 0 = .ok (.lconst 0, 1) := by decide +kernel
theorem q148_1 : decode (mB 148) 1 = .ok (.lstore_n 2, 1) := by decide +kernel
theorem q148_2 : decode (mB 148) 2 = .ok (.iconst 0, 1) := by decide +kernel
theorem q148_3 : decode (mB 148) 3 = .ok (.istore 4, 2) := by decide +kernel
theorem q148_5 : decode (mB 148) 5 = .ok (.iload 4, 2) := by decide +kernel
theorem q148_7 : decode (mB 148) 7 = .ok (.aload_n 0, 1) := by decide +kernel
theorem q148_8 : gfB 148 8 73 8 13 = true := by decide +kernel
theorem q148_11 : decode (mB 148) 11 = .ok (.if_icmp .ge 37, 3) := by decide +kernel
theorem q148_14 : decode (mB 148) 14 = .ok (.lload_n 2, 1) := by decide +kernel
theorem q148_15 : decode (mB 148) 15 = .ok (.aload_n 0, 1) := by decide +kernel
theorem q148_16 : decode (mB 148) 16 = .ok (.iload 4, 2) := by decide +kernel
theorem q148_18 : decode (mB 148) 18 = .ok (.iload_n 1, 1) := by decide +kernel
theorem q148_19 : cfB 148 19 80 144 1 4 2 = true := by decide +kernel
theorem q148_22 : decode (mB 148) 22 = .ok (.sipush (-10000), 3) := by decide +kernel
theorem q148_25 : decode (mB 148) 25 = .ok (.if_icmp .ne 7, 3) := by decide +kernel
theorem q148_28 : decode (mB 148) 28 = .ok (.lconst 0, 1) := by decide +kernel
theorem q148_29 : decode (mB 148) 29 = .ok (.goto 11, 3) := by decide +kernel
theorem q148_32 : decode (mB 148) 32 = .ok (.aload_n 0, 1) := by decide +kernel
theorem q148_33 : decode (mB 148) 33 = .ok (.iload 4, 2) := by decide +kernel
theorem q148_35 : decode (mB 148) 35 = .ok (.iload_n 1, 1) := by decide +kernel
theorem q148_36 : cfB 148 36 80 144 1 4 2 = true := by decide +kernel
theorem q148_39 : decode (mB 148) 39 = .ok (.i2l, 1) := by decide +kernel
theorem q148_40 : decode (mB 148) 40 = .ok (.ladd, 1) := by decide +kernel
theorem q148_41 : decode (mB 148) 41 = .ok (.lstore_n 2, 1) := by decide +kernel
theorem q148_42 : decode (mB 148) 42 = .ok (.iinc 4 1, 3) := by decide +kernel
theorem q148_45 : decode (mB 148) 45 = .ok (.goto (-40), 3) := by decide +kernel
theorem q148_48 : decode (mB 148) 48 = .ok (.lload_n 2, 1) := by decide +kernel
theorem q148_49 : decode (mB 148) 49 = .ok (.lreturn, 1) := by decide +kernel
theorem q149_0 : decode (mB 149) 0 = .ok (.aload_n 0, 1) := by decide +kernel
theorem q149_1 : decode (mB 149) 1 = .ok (.iload_n 1, 1) := by decide +kernel
theorem q149_2 : cfB 149 2 84 138 1 4 1 = true := by decide +kernel
theorem q149_5 : decode (mB 149) 5 = .ok (.ifCond .eq 7, 3) := by decide +kernel
theorem q149_8 : decode (mB 149) 8 = .ok (.lconst 0, 1) := by decide +kernel
theorem q149_9 : decode (mB 149) 9 = .ok (.goto 8, 3) := by decide +kernel
theorem q149_12 : decode (mB 149) 12 = .ok (.aload_n 0, 1) := by decide +kernel
theorem q149_13 : decode (mB 149) 13 = .ok (.iload_n 1, 1) := by decide +kernel
theorem q149_14 : cfB 149 14 91 148 1 4 1 = true := by decide +kernel
theorem q149_17 : decode (mB 149) 17 = .ok (.lreturn, 1) := by decide +kernel
theorem q150_0 : decode (mB 150) 0 = .ok (.aload_n 0, 1) := by decide +kernel
theorem q150_1 : decode (mB 150) 1 = .ok (.iload_n 1, 1) := by decide +kernel
theorem q150_2 : cfB 150 2 84 138 1 4 1 = true := by decide +kernel
theorem q150_5 : decode (mB 150) 5 = .ok (.ifCond .ne 24, 3) := by decide +kernel
theorem q150_8 : decode (mB 150) 8 = .ok (.aload_n 0, 1) := by decide +kernel
theorem q150_9 : decode (mB 150) 9 = .ok (.aload_n 0, 1) := by decide +kernel
theorem q150_10 : decode (mB 150) 10 = .ok (.iload_n 1, 1) := by decide +kernel
theorem q150_11 : cfB 150 11 95 145 1 4 1 = true := by decide +kernel
theorem q150_14 : decode (mB 150) 14 = .ok (.ifCond .ne 7, 3) := by decide +kernel
theorem q150_17 : decode (mB 150) 17 = .ok (.iconst 1, 1) := by decide +kernel
theorem q150_18 : decode (mB 150) 18 = .ok (.goto 4, 3) := by decide +kernel
theorem q150_21 : decode (mB 150) 21 = .ok (.iconst 0, 1) := by decide +kernel
theorem q150_22 : decode (mB 150) 22 = .ok (.iconst 2, 1) := by decide +kernel
theorem q150_23 : cfB 150 23 65 137 1 4 2 = true := by decide +kernel
theorem q150_26 : decode (mB 150) 26 = .ok (.ifCond .eq 7, 3) := by decide +kernel
theorem q150_29 : decode (mB 150) 29 = .ok (.dconst 0, 1) := by decide +kernel
theorem q150_30 : decode (mB 150) 30 = .ok (.goto 16, 3) := by decide +kernel
theorem q150_33 : decode (mB 150) 33 = .ok (.aload_n 0, 1) := by decide +kernel
theorem q150_34 : decode (mB 150) 34 = .ok (.iload_n 1, 1) := by decide +kernel
theorem q150_35 : cfB 150 35 91 148 1 4 1 = true := by decide +kernel
theorem q150_38 : decode (mB 150) 38 = .ok (.l2d, 1) := by decide +kernel
theorem q150_39 : decode (mB 150) 39 = .ok (.aload_n 0, 1) := by decide +kernel
theorem q150_40 : decode (mB 150) 40 = .ok (.iload_n 1, 1) := by decide +kernel
theorem q150_41 : cfB 150 41 95 145 1 4 1 = true := by decide +kernel
theorem q150_44 : decode (mB 150) 44 = .ok (.i2d, 1) := by decide +kernel
theorem q150_45 : decode (mB 150) 45 = .ok (.ddiv, 1) := by decide +kernel
theorem q150_46 : decode (mB 150) 46 = .ok (.dreturn, 1) := by decide +kernel
theorem q151_0 : decode (mB 151) 0 = .ok (.aload_n 0, 1) := by decide +kernel
theorem q151_1 : decode (mB 151) 1 = .ok (.iload_n 1, 1) := by decide +kernel
theorem q151_2 : cfB 151 2 84 138 1 4 1 = true := by decide +kernel
theorem q151_5 : decode (mB 151) 5 = .ok (.ifCond .ne 23, 3) := by decide +kernel
theorem q151_8 : decode (mB 151) 8 = .ok (.aload_n 0, 1) := by decide +kernel
theorem q151_9 : decode (mB 151) 9 = .ok (.aload_n 0, 1) := by decide +kernel
theorem q151_10 : gfB 151 10 73 8 13 = true := by decide +kernel
theorem q151_13 : decode (mB 151) 13 = .ok (.ifCond .ne 7, 3) := by decide +kernel
theorem q151_16 : decode (mB 151) 16 = .ok (.iconst 1, 1) := by decide +kernel
theorem q151_17 : decode (mB 151) 17 = .ok (.goto 4, 3) := by decide +kernel
theorem q151_20 : decode (mB 151) 20 = .ok (.iconst 0, 1) := by decide +kernel
theorem q151_21 : decode (mB 151) 21 = .ok (.iconst 2, 1) := by decide +kernel
theorem q151_22 : cfB 151 22 65 137 1 4 2 = true := by decide +kernel
theorem q151_25 : decode (mB 151) 25 = .ok (.ifCond .eq 7, 3) := by decide +kernel
theorem q151_28 : decode (mB 151) 28 = .ok (.fconst 0, 1) := by decide +kernel
theorem q151_29 : decode (mB 151) 29 = .ok (.goto 15, 3) := by decide +kernel
theorem q151_32 : decode (mB 151) 32 = .ok (.aload_n 0, 1) := by decide +kernel
theorem q151_33 : decode (mB 151) 33 = .ok (.iload_n 1, 1) := by decide +kernel
theorem q151_34 : cfB 151 34 95 145 1 4 1 = true := by decide +kernel
theorem q151_37 : decode (mB 151) 37 = .ok (.i2f, 1) := by decide +kernel
theorem q151_38 : decode (mB 151) 38 = .ok (.aload_n 0, 1) := by decide +kernel
theorem q151_39 : gfB 151 39 73 8 13 = true := by decide +kernel
theorem q151_42 : decode (mB 151) 42 = .ok (.i2f, 1) := by decide +kernel
theorem q151_43 : decode (mB 151) 43 = .ok (.fdiv, 1) := by decide +kernel
theorem q151_44 : decode (mB 151) 44 = .ok (.freturn, 1) := by decide +kernel
theorem q152_0 : decode (mB 152) 0 = .ok (.iconst 1, 1) := by decide +kernel
theorem q152_1 : decode (mB 152) 1 = .ok (.istore_n 2, 1) := by decide +kernel
theorem q152_2 : decode (mB 152) 2 = .ok (.sipush (-10000), 3) := by decide +kernel
theorem q152_5 : decode (mB 152) 5 = .ok (.istore_n 3, 1) := by decide +kernel
theorem q152_6 : decode (mB 152) 6 = .ok (.iconst 0, 1) := by decide +kernel
theorem q152_7 : decode (mB 152) 7 = .ok (.istore 4, 2) := by decide +kernel
theorem q152_9 : decode (mB 152) 9 = .ok (.iload 4, 2) := by decide +kernel
theorem q152_11 : decode (mB 152) 11 = .ok (.aload_n 0, 1) := by decide +kernel
theorem q152_12 : gfB 152 12 73 8 13 = true := by decide +kernel
theorem q152_15 : decode (mB 152) 15 = .ok (.if_icmp .ge 55, 3) := by decide +kernel
theorem q152_18 : decode (mB 152) 18 = .ok (.aload_n 0, 1) := by decide +kernel
theorem q152_19 : decode (mB 152) 19 = .ok (.iload 4, 2) := by decide +kernel
theorem q152_21 : decode (mB 152) 21 = .ok (.iload_n 1, 1) := by decide +kernel
theorem q152_22 : cfB 152 22 80 144 1 4 2 = true := by decide +kernel
theorem q152_25 : decode (mB 152) 25 = .ok (.istore 5, 2) := by decide +kernel
theorem q152_27 : decode (mB 152) 27 = .ok (.iload_n 2, 1) := by decide +kernel
theorem q152_28 : decode (mB 152) 28 = .ok (.iload 5, 2) := by decide +kernel
theorem q152_30 : decode (mB 152) 30 = .ok (.sipush (-10000), 3) := by decide +kernel
theorem q152_33 : decode (mB 152) 33 = .ok (.if_icmp .eq 9, 3) := by decide +kernel
theorem q152_36 : decode (mB 152) 36 = .ok (.iload 5, 2) := by decide +kernel
theorem q152_38 : decode (mB 152) 38 = .ok (.iload_n 3, 1) := by decide +kernel
theorem q152_39 : decode (mB 152) 39 = .ok (.if_icmp .le 7, 3) := by decide +kernel
theorem q152_42 : decode (mB 152) 42 = .ok (.iconst 1, 1) := by decide +kernel
theorem q152_43 : decode (mB 152) 43 = .ok (.goto 4, 3) := by decide +kernel
theorem q152_46 : decode (mB 152) 46 = .ok (.iconst 0, 1) := by decide +kernel
theorem q152_47 : decode (mB 152) 47 = .ok (.iand, 1) := by decide +kernel
theorem q152_48 : decode (mB 152) 48 = .ok (.istore_n 2, 1) := by decide +kernel
theorem q152_49 : decode (mB 152) 49 = .ok (.iload 5, 2) := by decide +kernel
theorem q152_51 : decode (mB 152) 51 = .ok (.sipush (-10000), 3) := by decide +kernel
theorem q152_54 : decode (mB 152) 54 = .ok (.if_icmp .ne 7, 3) := by decide +kernel
theorem q152_57 : decode (mB 152) 57 = .ok (.iload_n 3, 1) := by decide +kernel
theorem q152_58 : decode (mB 152) 58 = .ok (.goto 5, 3) := by decide +kernel
theorem q152_61 : decode (mB 152) 61 = .ok (.iload 5, 2) := by decide +kernel
theorem q152_63 : decode (mB 152) 63 = .ok (.istore_n 3, 1) := by decide +kernel
theorem q152_64 : decode (mB 152) 64 = .ok (.iinc 4 1, 3) := by decide +kernel
theorem q152_67 : decode (mB 152) 67 = .ok (.goto (-58), 3) := by decide +kernel
theorem q152_70 : decode (mB 152) 70 = .ok (.iload_n 2, 1) := by decide +kernel
theorem q152_71 : decode (mB 152) 71 = .ok (.ireturn, 1) := by decide +kernel
theorem q153_0 : decode (mB 153) 0 = .ok (.aload_n 0, 1) := by decide +kernel
theorem q153_1 : decode (mB 153) 1 = .ok (.iload_n 1, 1) := by decide +kernel
theorem q153_2 : cfB 153 2 95 145 1 4 1 = true := by decide +kernel
theorem q153_5 : decode (mB 153) 5 = .ok (.istore_n 2, 1) := by decide +kernel
theorem q153_6 : decode (mB 153) 6 = .ok (.aload_n 0, 1) := by decide +kernel
theorem q153_7 : decode (mB 153) 7 = .ok (.iload_n 1, 1) := by decide +kernel
theorem q153_8 : cfB 153 8 87 146 1 4 1 = true := by decide +kernel
theorem q153_11 : decode (mB 153) 11 = .ok (.istore_n 3, 1) := by decide +kernel
theorem q153_12 : decode (mB 153) 12 = .ok (.iload_n 3, 1) := by decide +kernel
theorem q153_13 : decode (mB 153) 13 = .ok (.iconst 2, 1) := by decide +kernel
theorem q153_14 : decode (mB 153) 14 = .ok (.if_icmp .ge 13, 3) := by decide +kernel
theorem q153_17 : decode (mB 153) 17 = .ok (.iload_n 2, 1) := by decide +kernel
theorem q153_18 : decode (mB 153) 18 = .ok (.ifCond .ne 7, 3) := by decide +kernel
theorem q153_21 : decode (mB 153) 21 = .ok (.iconst 0, 1) := by decide +kernel
theorem q153_22 : decode (mB 153) 22 = .ok (.goto 4, 3) := by decide +kernel
theorem q153_25 : decode (mB 153) 25 = .ok (.iconst 1, 1) := by decide +kernel
theorem q153_26 : decode (mB 153) 26 = .ok (.ireturn, 1) := by decide +kernel
theorem q153_27 : decode (mB 153) 27 = .ok (.aload_n 0, 1) := by decide +kernel
theorem q153_28 : gfB 153 28 13 8 1 = true := by decide +kernel
theorem q153_31 : decode (mB 153) 31 = .ok (.iload_n 1, 1) := by decide +kernel
theorem q153_32 : decode (mB 153) 32 = .ok (.iaload, 1) := by decide +kernel
theorem q153_33 : decode (mB 153) 33 = .ok (.ifCond .le 12, 3) := by decide +kernel
theorem q153_36 : decode (mB 153) 36 = .ok (.aload_n 0, 1) := by decide +kernel
theorem q153_37 : gfB 153 37 13 8 1 = true := by decide +kernel
theorem q153_40 : decode (mB 153) 40 = .ok (.iload_n 1, 1) := by decide +kernel
theorem q153_41 : decode (mB 153) 41 = .ok (.iaload, 1) := by decide +kernel
theorem q153_42 : decode (mB 153) 42 = .ok (.goto 38, 3) := by decide +kernel
theorem q153_45 : decode (mB 153) 45 = .ok (.iload_n 2, 1) := by decide +kernel
theorem q153_46 : decode (mB 153) 46 = .ok (.iconst 4, 1) := by decide +kernel
theorem q153_47 : decode (mB 153) 47 = .ok (.if_icmp .lt 15, 3) := by decide +kernel
theorem q153_50 : decode (mB 153) 50 = .ok (.aload_n 0, 1) := by decide +kernel
theorem q153_51 : decode (mB 153) 51 = .ok (.iload_n 1, 1) := by decide +kernel
theorem q153_52 : cfB 153 52 98 152 1 4 1 = true := by decide +kernel
theorem q153_55 : decode (mB 153) 55 = .ok (.ifCond .eq 7, 3) := by decide +kernel
theorem q153_58 : decode (mB 153) 58 = .ok (.iconst 2, 1) := by decide +kernel
theorem q153_59 : decode (mB 153) 59 = .ok (.goto 21, 3) := by decide +kernel
theorem q153_62 : decode (mB 153) 62 = .ok (.iload_n 3, 1) := by decide +kernel
theorem q153_63 : decode (mB 153) 63 = .ok (.bipush 6, 2) := by decide +kernel
theorem q153_65 : decode (mB 153) 65 = .ok (.if_icmp .gt 14, 3) := by decide +kernel
theorem q153_68 : decode (mB 153) 68 = .ok (.iload_n 2, 1) := by decide +kernel
theorem q153_69 : decode (mB 153) 69 = .ok (.iconst 2, 1) := by decide +kernel
theorem q153_70 : decode (mB 153) 70 = .ok (.iload_n 3, 1) := by decide +kernel
theorem q153_71 : decode (mB 153) 71 = .ok (.imul, 1) := by decide +kernel
theorem q153_72 : decode (mB 153) 72 = .ok (.if_icmp .lt 7, 3) := by decide +kernel
theorem q153_75 : decode (mB 153) 75 = .ok (.iconst 3, 1) := by decide +kernel
theorem q153_76 : decode (mB 153) 76 = .ok (.goto 4, 3) := by decide +kernel
theorem q153_79 : decode (mB 153) 79 = .ok (.iconst 4, 1) := by decide +kernel
theorem q153_80 : decode (mB 153) 80 = .ok (.ireturn, 1) := by decide +kernel
theorem q154_0 : decode (mB 154) 0 = .ok (.aload_n 0, 1) := by decide +kernel
theorem q154_1 : decode (mB 154) 1 = .ok (.iload_n 1, 1) := by decide +kernel
theorem q154_2 : cfB 154 2 84 138 1 4 1 = true := by decide +kernel
theorem q154_5 : decode (mB 154) 5 = .ok (.ifCond .eq 7, 3) := by decide +kernel
theorem q154_8 : decode (mB 154) 8 = .ok (.iconst 0, 1) := by decide +kernel
theorem q154_9 : decode (mB 154) 9 = .ok (.goto 8, 3) := by decide +kernel
theorem q154_12 : decode (mB 154) 12 = .ok (.aload_n 0, 1) := by decide +kernel
theorem q154_13 : decode (mB 154) 13 = .ok (.iload_n 1, 1) := by decide +kernel
theorem q154_14 : cfB 154 14 101 153 1 4 1 = true := by decide +kernel
theorem q154_17 : decode (mB 154) 17 = .ok (.ireturn, 1) := by decide +kernel
theorem q155_0 : decode (mB 155) 0 = .ok (.aload_n 0, 1) := by decide +kernel
theorem q155_1 : decode (mB 155) 1 = .ok (.iload_n 1, 1) := by decide +kernel
theorem q155_2 : cfB 155 2 84 138 1 4 1 = true := by decide +kernel
theorem q155_5 : decode (mB 155) 5 = .ok (.ifCond .ne 25, 3) := by decide +kernel
theorem q155_8 : decode (mB 155) 8 = .ok (.aload_n 0, 1) := by decide +kernel
theorem q155_9 : decode (mB 155) 9 = .ok (.iload_n 2, 1) := by decide +kernel
theorem q155_10 : decode (mB 155) 10 = .ok (.iconst 2, 1) := by decide +kernel
theorem q155_11 : decode (mB 155) 11 = .ok (.iconst 4, 1) := by decide +kernel
theorem q155_12 : cfB 155 12 61 136 0 4 3 = true := by decide +kernel
theorem q155_15 : decode (mB 155) 15 = .ok (.ifCond .ne 7, 3) := by decide +kernel
theorem q155_18 : decode (mB 155) 18 = .ok (.iconst 1, 1) := by decide +kernel
theorem q155_19 : decode (mB 155) 19 = .ok (.goto 4, 3) := by decide +kernel
theorem q155_22 : decode (mB 155) 22 = .ok (.iconst 0, 1) := by decide +kernel
theorem q155_23 : decode (mB 155) 23 = .ok (.iconst 2, 1) := by decide +kernel
theorem q155_24 : cfB 155 24 65 137 1 4 2 = true := by decide +kernel
theorem q155_27 : decode (mB 155) 27 = .ok (.ifCond .eq 5, 3) := by decide +kernel
theorem q155_30 : decode (mB 155) 30 = .ok (.iconst 0, 1) := by decide +kernel
theorem q155_31 : decode (mB 155) 31 = .ok (.ireturn, 1) := by decide +kernel
theorem q155_32 : decode (mB 155) 32 = .ok (.aload_n 0, 1) := by decide +kernel
theorem q155_33 : decode (mB 155) 33 = .ok (.iconst 0, 1) := by decide +kernel
theorem q155_34 : pfB 155 34 76 8 22 = true := by decide +kernel
theorem q155_37 : decode (mB 155) 37 = .ok (.aload_n 0, 1) := by decide +kernel
theorem q155_38 : gfB 155 38 13 8 1 = true := by decide +kernel
theorem q155_41 : decode (mB 155) 41 = .ok (.iload_n 1, 1) := by decide +kernel
theorem q155_42 : decode (mB 155) 42 = .ok (.iload_n 2, 1) := by decide +kernel
theorem q155_43 : decode (mB 155) 43 = .ok (.iastore, 1) := by decide +kernel
theorem q155_44 : decode (mB 155) 44 = .ok (.aload_n 0, 1) := by decide +kernel
theorem q155_45 : decode (mB 155) 45 = .ok (.iload_n 1, 1) := by decide +kernel
theorem q155_46 : cfB 155 46 101 153 1 4 1 = true := by decide +kernel
theorem q155_49 : decode (mB 155) 49 = .ok (.ireturn, 1) := by decide +kernel
theorem q156_0 : decode (mB 156) 0 = .ok (.aload_n 0, 1) := by decide +kernel
theorem q156_1 : decode (mB 156) 1 = .ok (.iload_n 1, 1) := by decide +kernel
theorem q156_2 : cfB 156 2 84 138 1 4 1 = true := by decide +kernel
theorem q156_5 : decode (mB 156) 5 = .ok (.ifCond .ne 25, 3) := by decide +kernel
theorem q156_8 : decode (mB 156) 8 = .ok (.aload_n 0, 1) := by decide +kernel
theorem q156_9 : decode (mB 156) 9 = .ok (.aload_n 0, 1) := by decide +kernel
theorem q156_10 : gfB 156 10 13 8 1 = true := by decide +kernel
theorem q156_13 : decode (mB 156) 13 = .ok (.iload_n 1, 1) := by decide +kernel
theorem q156_14 : decode (mB 156) 14 = .ok (.iaload, 1) := by decide +kernel
theorem q156_15 : decode (mB 156) 15 = .ok (.ifCond .ne 7, 3) := by decide +kernel
theorem q156_18 : decode (mB 156) 18 = .ok (.iconst 1, 1) := by decide +kernel
theorem q156_19 : decode (mB 156) 19 = .ok (.goto 4, 3) := by decide +kernel
theorem q156_22 : decode (mB 156) 22 = .ok (.iconst 0, 1) := by decide +kernel
theorem q156_23 : decode (mB 156) 23 = .ok (.iconst 2, 1) := by decide +kernel
theorem q156_24 : cfB 156 24 65 137 1 4 2 = true := by decide +kernel
theorem q156_27 : decode (mB 156) 27 = .ok (.ifCond .eq 5, 3) := by decide +kernel
theorem q156_30 : decode (mB 156) 30 = .ok (.iconst 0, 1) := by decide +kernel
theorem q156_31 : decode (mB 156) 31 = .ok (.ireturn, 1) := by decide +kernel
theorem q156_32 : decode (mB 156) 32 = .ok (.aload_n 0, 1) := by decide +kernel
theorem q156_33 : decode (mB 156) 33 = .ok (.iconst 0, 1) := by decide +kernel
theorem q156_34 : pfB 156 34 76 8 22 = true := by decide +kernel
theorem q156_37 : decode (mB 156) 37 = .ok (.aload_n 0, 1) := by decide +kernel
theorem q156_38 : gfB 156 38 13 8 1 = true := by decide +kernel
theorem q156_41 : decode (mB 156) 41 = .ok (.iload_n 1, 1) := by decide +kernel
theorem q156_42 : decode (mB 156) 42 = .ok (.iconst 0, 1) := by decide +kernel
theorem q156_43 : decode (mB 156) 43 = .ok (.iastore, 1) := by decide +kernel
theorem q156_44 : decode (mB 156) 44 = .ok (.aload_n 0, 1) := by decide +kernel
theorem q156_45 : decode (mB 156) 45 = .ok (.iload_n 1, 1) := by decide +kernel
theorem q156_46 : cfB 156 46 101 153 1 4 1 = true := by decide +kernel
theorem q156_49 : decode (mB 156) 49 = .ok (.ireturn, 1) := by decide +kernel
theorem q157_0 : decode (mB 157) 0 = .ok (.aload_n 0, 1) := by decide +kernel
theorem q157_1 : decode (mB 157) 1 = .ok (.iload_n 1, 1) := by decide +kernel
theorem q157_2 : cfB 157 2 84 138 1 4 1 = true := by decide +kernel
theorem q157_5 : decode (mB 157) 5 = .ok (.ifCond .eq 5, 3) := by decide +kernel
theorem q157_8 : decode (mB 157) 8 = .ok (.iconst 0, 1) := by decide +kernel
theorem q157_9 : decode (mB 157) 9 = .ok (.ireturn, 1) := by decide +kernel
theorem q157_10 : decode (mB 157) 10 = .ok (.aload_n 0, 1) := by decide +kernel
theorem q157_11 : decode (mB 157) 11 = .ok (.iconst 0, 1) := by decide +kernel
theorem q157_12 : pfB 157 12 76 8 22 = true := by decide +kernel
theorem q157_15 : decode (mB 157) 15 = .ok (.aload_n 0, 1) := by decide +kernel
theorem q157_16 : gfB 157 16 25 8 5 = true := by decide +kernel
theorem q157_19 : decode (mB 157) 19 = .ok (.iload_n 1, 1) := by decide +kernel
theorem q157_20 : decode (mB 157) 20 = .ok (.iload_n 2, 1) := by decide +kernel
theorem q157_21 : decode (mB 157) 21 = .ok (.bastore, 1) := by decide +kernel
theorem q157_22 : decode (mB 157) 22 = .ok (.iconst 0, 1) := by decide +kernel
theorem q157_23 : decode (mB 157) 23 = .ok (.istore_n 3, 1) := by decide +kernel
theorem q157_24 : decode (mB 157) 24 = .ok (.iconst 0, 1) := by decide +kernel
theorem q157_25 : decode (mB 157) 25 = .ok (.istore 4, 2) := by decide +kernel
theorem q157_27 : decode (mB 157) 27 = .ok (.iload 4, 2) := by decide +kernel
theorem q157_29 : decode (mB 157) 29 = .ok (.bipush 6, 2) := by decide +kernel
theorem q157_31 : decode (mB 157) 31 = .ok (.if_icmp .ge 27, 3) := by decide +kernel
theorem q157_34 : decode (mB 157) 34 = .ok (.iload_n 3, 1) := by decide +kernel
theorem q157_35 : decode (mB 157) 35 = .ok (.aload_n 0, 1) := by decide +kernel
theorem q157_36 : gfB 157 36 25 8 5 = true := by decide +kernel
theorem q157_39 : decode (mB 157) 39 = .ok (.iload 4, 2) := by decide +kernel
theorem q157_41 : decode (mB 157) 41 = .ok (.baload, 1) := by decide +kernel
theorem q157_42 : decode (mB 157) 42 = .ok (.ifCond .eq 7, 3) := by decide +kernel
theorem q157_45 : decode (mB 157) 45 = .ok (.iconst 1, 1) := by decide +kernel
theorem q157_46 : decode (mB 157) 46 = .ok (.goto 4, 3) := by decide +kernel
theorem q157_49 : decode (mB 157) 49 = .ok (.iconst 0, 1) := by decide +kernel
theorem q157_50 : decode (mB 157) 50 = .ok (.iadd, 1) := by decide +kernel
theorem q157_51 : decode (mB 157) 51 = .ok (.istore_n 3, 1) := by decide +kernel
theorem q157_52 : decode (mB 157) 52 = .ok (.iinc 4 1, 3) := by decide +kernel
theorem q157_55 : decode (mB 157) 55 = .ok (.goto (-28), 3) := by decide +kernel
theorem q157_58 : decode (mB 157) 58 = .ok (.iload_n 3, 1) := by decide +kernel
theorem q157_59 : decode (mB 157) 59 = .ok (.ireturn, 1) := by decide +kernel
theorem q158_0 : decode (mB 158) 0 = .ok (.iload_n 0, 1) := by decide +kernel
theorem q158_1 : decode (mB 158) 1 = .ok (.bipush 98, 2) := by decide +kernel
theorem q158_3 : decode (mB 158) 3 = .ok (.if_icmp .eq 15, 3) := by decide +kernel
theorem q158_6 : decode (mB 158) 6 = .ok (.iload_n 0, 1) := by decide +kernel
theorem q158_7 : decode (mB 158) 7 = .ok (.bipush 108, 2) := by decide +kernel
theorem q158_9 : decode (mB 158) 9 = .ok (.if_icmp .eq 9, 3) := by decide +kernel
theorem q158_12 : decode (mB 158) 12 = .ok (.iload_n 0, 1) := by decide +kernel
theorem q158_13 : decode (mB 158) 13 = .ok (.bipush 112, 2) := by decide +kernel
theorem q158_15 : decode (mB 158) 15 = .ok (.if_icmp .ne 7, 3) := by decide +kernel
theorem q158_18 : decode (mB 158) 18 = .ok (.iconst 1, 1) := by decide +kernel
theorem q158_19 : decode (mB 158) 19 = .ok (.goto 4, 3) := by decide +kernel
theorem q158_22 : decode (mB 158) 22 = .ok (.iconst 0, 1) := by decide +kernel
theorem q158_23 : decode (mB 158) 23 = .ok (.ireturn, 1) := by decide +kernel
theorem q159_0 : decode (mB 159) 0 = .ok (.aload_n 0, 1) := by decide +kernel
theorem q159_1 : decode (mB 159) 1 = .ok (.iload_n 1, 1) := by decide +kernel
theorem q159_2 : cfB 159 2 104 158 0 4 1 = true := by decide +kernel
theorem q159_5 : decode (mB 159) 5 = .ok (.ifCond .ne 13, 3) := by decide +kernel
theorem q159_8 : decode (mB 159) 8 = .ok (.iload_n 1, 1) := by decide +kernel
theorem q159_9 : decode (mB 159) 9 = .ok (.bipush 45, 2) := by decide +kernel
theorem q159_11 : decode (mB 159) 11 = .ok (.if_icmp .eq 7, 3) := by decide +kernel
theorem q159_14 : decode (mB 159) 14 = .ok (.iconst 1, 1) := by decide +kernel
theorem q159_15 : decode (mB 159) 15 = .ok (.goto 4, 3) := by decide +kernel
theorem q159_18 : decode (mB 159) 18 = .ok (.iconst 0, 1) := by decide +kernel
theorem q159_19 : decode (mB 159) 19 = .ok (.iconst 1, 1) := by decide +kernel
theorem q159_20 : cfB 159 20 65 137 1 4 2 = true := by decide +kernel
theorem q159_23 : decode (mB 159) 23 = .ok (.ifCond .eq 6, 3) := by decide +kernel
theorem q159_26 : decode (mB 159) 26 = .ok (.bipush 45, 2) := by decide +kernel
theorem q159_28 : decode (mB 159) 28 = .ok (.ireturn, 1) := by decide +kernel
theorem q159_29 : decode (mB 159) 29 = .ok (.aload_n 0, 1) := by decide +kernel
theorem q159_30 : gfB 159 30 54 8 20 = true := by decide +kernel
theorem q159_33 : decode (mB 159) 33 = .ok (.istore_n 2, 1) := by decide +kernel
theorem q159_34 : decode (mB 159) 34 = .ok (.aload_n 0, 1) := by decide +kernel
theorem q159_35 : decode (mB 159) 35 = .ok (.iconst 0, 1) := by decide +kernel
theorem q159_36 : pfB 159 36 76 8 22 = true := by decide +kernel
theorem q159_39 : decode (mB 159) 39 = .ok (.aload_n 0, 1) := by decide +kernel
theorem q159_40 : decode (mB 159) 40 = .ok (.iload_n 1, 1) := by decide +kernel
theorem q159_41 : pfB 159 41 54 8 20 = true := by decide +kernel
theorem q159_44 : decode (mB 159) 44 = .ok (.iload_n 2, 1) := by decide +kernel
theorem q159_45 : decode (mB 159) 45 = .ok (.ireturn, 1) := by decide +kernel
theorem q160_0 : decode (mB 160) 0 = .ok (.aload_n 0, 1) := by decide +kernel
theorem q160_1 : decode (mB 160) 1 = .ok (.iload_n 1, 1) := by decide +kernel
theorem q160_2 : decode (mB 160) 2 = .ok (.iconst 0, 1) := by decide +kernel
theorem q160_3 : decode (mB 160) 3 = .ok (.iconst 5, 1) := by decide +kernel
theorem q160_4 : cfB 160 4 61 136 0 4 3 = true := by decide +kernel
theorem q160_7 : decode (mB 160) 7 = .ok (.ifCond .eq 12, 3) := by decide +kernel
theorem q160_10 : decode (mB 160) 10 = .ok (.iload_n 2, 1) := by decide +kernel
theorem q160_11 : decode (mB 160) 11 = .ok (.iconst 0, 1) := by decide +kernel
theorem q160_12 : decode (mB 160) 12 = .ok (.iconst 3, 1) := by decide +kernel
theorem q160_13 : cfB 160 13 61 136 0 4 3 = true := by decide +kernel
theorem q160_16 : decode (mB 160) 16 = .ok (.ifCond .ne 7, 3) := by decide +kernel
theorem q160_19 : decode (mB 160) 19 = .ok (.iconst 1, 1) := by decide +kernel
theorem q160_20 : decode (mB 160) 20 = .ok (.goto 4, 3) := by decide +kernel
theorem q160_23 : decode (mB 160) 23 = .ok (.iconst 0, 1) := by decide +kernel
theorem q160_24 : decode (mB 160) 24 = .ok (.iconst 1, 1) := by decide +kernel
theorem q160_25 : cfB 160 25 65 137 1 4 2 = true := by decide +kernel
theorem q160_28 : decode (mB 160) 28 = .ok (.ifCond .ne 30, 3) := by decide +kernel
theorem q160_31 : decode (mB 160) 31 = .ok (.aload_n 0, 1) := by decide +kernel
theorem q160_32 : decode (mB 160) 32 = .ok (.aload_n 0, 1) := by decide +kernel
theorem q160_33 : gfB 160 33 29 8 6 = true := by decide +kernel
theorem q160_36 : decode (mB 160) 36 = .ok (.iconst 4, 1) := by decide +kernel
theorem q160_37 : decode (mB 160) 37 = .ok (.iload_n 1, 1) := by decide +kernel
theorem q160_38 : decode (mB 160) 38 = .ok (.imul, 1) := by decide +kernel
theorem q160_39 : decode (mB 160) 39 = .ok (.iload_n 2, 1) := by decide +kernel
theorem q160_40 : decode (mB 160) 40 = .ok (.iadd, 1) := by decide +kernel
theorem q160_41 : decode (mB 160) 41 = .ok (.baload, 1) := by decide +kernel
theorem q160_42 : decode (mB 160) 42 = .ok (.iload_n 3, 1) := by decide +kernel
theorem q160_43 : decode (mB 160) 43 = .ok (.if_icmp .ne 7, 3) := by decide +kernel
theorem q160_46 : decode (mB 160) 46 = .ok (.iconst 1, 1) := by decide +kernel
theorem q160_47 : decode (mB 160) 47 = .ok (.goto 4, 3) := by decide +kernel
theorem q160_50 : decode (mB 160) 50 = .ok (.iconst 0, 1) := by decide +kernel
theorem q160_51 : decode (mB 160) 51 = .ok (.iconst 2, 1) := by decide +kernel
theorem q160_52 : cfB 160 52 65 137 1 4 2 = true := by decide +kernel
theorem q160_55 : decode (mB 160) 55 = .ok (.ifCond .eq 5, 3) := by decide +kernel
theorem q160_58 : decode (mB 160) 58 = .ok (.iconst 0, 1) := by decide +kernel
theorem q160_59 : decode (mB 160) 59 = .ok (.ireturn, 1) := by decide +kernel
theorem q160_60 : decode (mB 160) 60 = .ok (.aload_n 0, 1) := by decide +kernel
theorem q160_61 : decode (mB 160) 61 = .ok (.iconst 0, 1) := by decide +kernel
theorem q160_62 : pfB 160 62 76 8 22 = true := by decide +kernel
theorem q160_65 : decode (mB 160) 65 = .ok (.aload_n 0, 1) := by decide +kernel
theorem q160_66 : gfB 160 66 29 8 6 = true := by decide +kernel
theorem q160_69 : decode (mB 160) 69 = .ok (.iconst 4, 1) := by decide +kernel
theorem q160_70 : decode (mB 160) 70 = .ok (.iload_n 1, 1) := by decide +kernel
theorem q160_71 : decode (mB 160) 71 = .ok (.imul, 1) := by decide +kernel
theorem q160_72 : decode (mB 160) 72 = .ok (.iload_n 2, 1) := by decide +kernel
theorem q160_73 : decode (mB 160) 73 = .ok (.iadd, 1) := by decide +kernel
theorem q160_74 : decode (mB 160) 74 = .ok (.iload_n 3, 1) := by decide +kernel
theorem q160_75 : decode (mB 160) 75 = .ok (.bastore, 1) := by decide +kernel
theorem q160_76 : decode (mB 160) 76 = .ok (.iconst 0, 1) := by decide +kernel
theorem q160_77 : decode (mB 160) 77 = .ok (.istore 4, 2) := by decide +kernel
theorem q160_79 : decode (mB 160) 79 = .ok (.iconst 0, 1) := by decide +kernel
theorem q160_80 : decode (mB 160) 80 = .ok (.istore 5, 2) := by decide +kernel
theorem q160_82 : decode (mB 160) 82 = .ok (.iload 5, 2) := by decide +kernel
theorem q160_84 : decode (mB 160) 84 = .ok (.bipush 24, 2) := by decide +kernel
theorem q160_86 : decode (mB 160) 86 = .ok (.if_icmp .ge 29, 3) := by decide +kernel
theorem q160_89 : decode (mB 160) 89 = .ok (.iload 4, 2) := by decide +kernel
theorem q160_91 : decode (mB 160) 91 = .ok (.aload_n 0, 1) := by decide +kernel
theorem q160_92 : gfB 160 92 29 8 6 = true := by decide +kernel
theorem q160_95 : decode (mB 160) 95 = .ok (.iload 5, 2) := by decide +kernel
theorem q160_97 : decode (mB 160) 97 = .ok (.baload, 1) := by decide +kernel
theorem q160_98 : decode (mB 160) 98 = .ok (.ifCond .eq 7, 3) := by decide +kernel
theorem q160_101 : decode (mB 160) 101 = .ok (.iconst 1, 1) := by decide +kernel
theorem q160_102 : decode (mB 160) 102 = .ok (.goto 4, 3) := by decide +kernel
theorem q160_105 : decode (mB 160) 105 = .ok (.iconst 0, 1) := by decide +kernel
theorem q160_106 : decode (mB 160) 106 = .ok (.iadd, 1) := by decide +kernel
theorem q160_107 : decode (mB 160) 107 = .ok (.istore 4, 2) := by decide +kernel
theorem q160_109 : decode (mB 160) 109 = .ok (.iinc 5 1, 3) := by decide +kernel
theorem q160_112 : decode (mB 160) 112 = .ok (.goto (-30), 3) := by decide +kernel
theorem q160_115 : decode (mB 160) 115 = .ok (.iload 4, 2) := by decide +kernel
theorem q160_117 : decode (mB 160) 117 = .ok (.ireturn, 1) := by decide +kernel
theorem q161_0 : decode (mB 161) 0 = .ok (.aload_n 0, 1) := by decide +kernel
theorem q161_1 : decode (mB 161) 1 = .ok (.iload_n 1, 1) := by decide +kernel
theorem q161_2 : decode (mB 161) 2 = .ok (.iload_n 2, 1) := by decide +kernel
theorem q161_3 : decode (mB 161) 3 = .ok (.iconst 1, 1) := by decide +kernel
theorem q161_4 : cfB 161 4 108 160 1 4 3 = true := by decide +kernel
theorem q161_7 : decode (mB 161) 7 = .ok (.ireturn, 1) := by decide +kernel
theorem q162_0 : decode (mB 162) 0 = .ok (.aload_n 0, 1) := by decide +kernel
theorem q162_1 : decode (mB 162) 1 = .ok (.iload_n 1, 1) := by decide +kernel
theorem q162_2 : decode (mB 162) 2 = .ok (.iload_n 2, 1) := by decide +kernel
theorem q162_3 : decode (mB 162) 3 = .ok (.iconst 0, 1) := by decide +kernel
theorem q162_4 : cfB 162 4 108 160 1 4 3 = true := by decide +kernel
theorem q162_7 : decode (mB 162) 7 = .ok (.ireturn, 1) := by decide +kernel
theorem q163_0 : decode (mB 163) 0 = .ok (.aload_n 0, 1) := by decide +kernel
theorem q163_1 : decode (mB 163) 1 = .ok (.iload_n 1, 1) := by decide +kernel
theorem q163_2 : decode (mB 163) 2 = .ok (.iconst 0, 1) := by decide +kernel
theorem q163_3 : decode (mB 163) 3 = .ok (.bipush 7, 2) := by decide +kernel
theorem q163_5 : cfB 163 5 61 136 0 4 3 = true := by decide +kernel
theorem q163_8 : decode (mB 163) 8 = .ok (.ifCond .ne 7, 3) := by decide +kernel
theorem q163_11 : decode (mB 163) 11 = .ok (.iconst 1, 1) := by decide +kernel
theorem q163_12 : decode (mB 163) 12 = .ok (.goto 4, 3) := by decide +kernel
theorem q163_15 : decode (mB 163) 15 = .ok (.iconst 0, 1) := by decide +kernel
theorem q163_16 : decode (mB 163) 16 = .ok (.iconst 1, 1) := by decide +kernel
theorem q163_17 : cfB 163 17 65 137 1 4 2 = true := by decide +kernel
theorem q163_20 : decode (mB 163) 20 = .ok (.ifCond .ne 26, 3) := by decide +kernel
theorem q163_23 : decode (mB 163) 23 = .ok (.aload_n 0, 1) := by decide +kernel
theorem q163_24 : decode (mB 163) 24 = .ok (.iload_n 2, 1) := by decide +kernel
theorem q163_25 : decode (mB 163) 25 = .ok (.iconst 0, 1) := by decide +kernel
theorem q163_26 : decode (mB 163) 26 = .ok (.bipush 99, 2) := by decide +kernel
theorem q163_28 : cfB 163 28 61 136 0 4 3 = true := by decide +kernel
theorem q163_31 : decode (mB 163) 31 = .ok (.ifCond .ne 7, 3) := by decide +kernel
theorem q163_34 : decode (mB 163) 34 = .ok (.iconst 1, 1) := by decide +kernel
theorem q163_35 : decode (mB 163) 35 = .ok (.goto 4, 3) := by decide +kernel
theorem q163_38 : decode (mB 163) 38 = .ok (.iconst 0, 1) := by decide +kernel
theorem q163_39 : decode (mB 163) 39 = .ok (.iconst 2, 1) := by decide +kernel
theorem q163_40 : cfB 163 40 65 137 1 4 2 = true := by decide +kernel
theorem q163_43 : decode (mB 163) 43 = .ok (.ifCond .eq 5, 3) := by decide +kernel
theorem q163_46 : decode (mB 163) 46 = .ok (.iconst 0, 1) := by decide +kernel
theorem q163_47 : decode (mB 163) 47 = .ok (.ireturn, 1) := by decide +kernel
theorem q163_48 : decode (mB 163) 48 = .ok (.aload_n 0, 1) := by decide +kernel
theorem q163_49 : gfB 163 49 16 8 2 = true := by decide +kernel
theorem q163_52 : decode (mB 163) 52 = .ok (.iload_n 1, 1) := by decide +kernel
theorem q163_53 : decode (mB 163) 53 = .ok (.iaload, 1) := by decide +kernel
theorem q163_54 : decode (mB 163) 54 = .ok (.istore_n 3, 1) := by decide +kernel
theorem q163_55 : decode (mB 163) 55 = .ok (.aload_n 0, 1) := by decide +kernel
theorem q163_56 : decode (mB 163) 56 = .ok (.iconst 0, 1) := by decide +kernel
theorem q163_57 : pfB 163 57 76 8 22 = true := by decide +kernel
theorem q163_60 : decode (mB 163) 60 = .ok (.aload_n 0, 1) := by decide +kernel
theorem q163_61 : gfB 163 61 16 8 2 = true := by decide +kernel
theorem q163_64 : decode (mB 163) 64 = .ok (.iload_n 1, 1) := by decide +kernel
theorem q163_65 : decode (mB 163) 65 = .ok (.iload_n 2, 1) := by decide +kernel
theorem q163_66 : decode (mB 163) 66 = .ok (.iastore, 1) := by decide +kernel
theorem q163_67 : decode (mB 163) 67 = .ok (.iload_n 3, 1) := by decide +kernel
theorem q163_68 : decode (mB 163) 68 = .ok (.ireturn, 1) := by decide +kernel
theorem q164_0 : decode (mB 164) 0 = .ok (.iconst 0, 1) := by decide +kernel
theorem q164_1 : decode (mB 164) 1 = .ok (.istore_n 1, 1) := by decide +kernel
theorem q164_2 : decode (mB 164) 2 = .ok (.iload_n 1, 1) := by decide +kernel
theorem q164_3 : decode (mB 164) 3 = .ok (.bipush 6, 2) := by decide +kernel
theorem q164_5 : decode (mB 164) 5 = .ok (.if_icmp .ge 31, 3) := by decide +kernel
theorem q164_8 : decode (mB 164) 8 = .ok (.aload_n 0, 1) := by decide +kernel
theorem q164_9 : gfB 164 9 19 8 3 = true := by decide +kernel
theorem q164_12 : decode (mB 164) 12 = .ok (.iload_n 1, 1) := by decide +kernel
theorem q164_13 : decode (mB 164) 13 = .ok (.aload_n 0, 1) := by decide +kernel
theorem q164_14 : decode (mB 164) 14 = .ok (.iload_n 1, 1) := by decide +kernel
theorem q164_15 : cfB 164 15 101 153 1 4 1 = true := by decide +kernel
theorem q164_18 : decode (mB 164) 18 = .ok (.iastore, 1) := by decide +kernel
theorem q164_19 : decode (mB 164) 19 = .ok (.aload_n 0, 1) := by decide +kernel
theorem q164_20 : gfB 164 20 22 8 4 = true := by decide +kernel
theorem q164_23 : decode (mB 164) 23 = .ok (.iload_n 1, 1) := by decide +kernel
theorem q164_24 : decode (mB 164) 24 = .ok (.aload_n 0, 1) := by decide +kernel
theorem q164_25 : decode (mB 164) 25 = .ok (.iload_n 1, 1) := by decide +kernel
theorem q164_26 : cfB 164 26 87 146 1 4 1 = true := by decide +kernel
theorem q164_29 : decode (mB 164) 29 = .ok (.iastore, 1) := by decide +kernel
theorem q164_30 : decode (mB 164) 30 = .ok (.iinc 1 1, 3) := by decide +kernel
theorem q164_33 : decode (mB 164) 33 = .ok (.goto (-31), 3) := by decide +kernel
theorem q164_36 : decode (mB 164) 36 = .ok (.return_, 1) := by decide +kernel
theorem q165_0 : decode (mB 165) 0 = .ok (.aload_n 1, 1) := by decide +kernel
theorem q165_1 : decode (mB 165) 1 = .ok (.iconst 2, 1) := by decide +kernel
theorem q165_2 : decode (mB 165) 2 = .ok (.iload_n 2, 1) := by decide +kernel
theorem q165_3 : decode (mB 165) 3 = .ok (.iadd, 1) := by decide +kernel
theorem q165_4 : decode (mB 165) 4 = .ok (.iaload, 1) := by decide +kernel
theorem q165_5 : decode (mB 165) 5 = .ok (.ifCond .ge 7, 3) := by decide +kernel
theorem q165_8 : decode (mB 165) 8 = .ok (.iconst (-1), 1) := by decide +kernel
theorem q165_9 : decode (mB 165) 9 = .ok (.goto 13, 3) := by decide +kernel
theorem q165_12 : decode (mB 165) 12 = .ok (.aload_n 0, 1) := by decide +kernel
theorem q165_13 : gfB 165 13 19 8 3 = true := by decide +kernel
theorem q165_16 : decode (mB 165) 16 = .ok (.aload_n 1, 1) := by decide +kernel
theorem q165_17 : decode (mB 165) 17 = .ok (.iconst 2, 1) := by decide +kernel
theorem q165_18 : decode (mB 165) 18 = .ok (.iload_n 2, 1) := by decide +kernel
theorem q165_19 : decode (mB 165) 19 = .ok (.iadd, 1) := by decide +kernel
theorem q165_20 : decode (mB 165) 20 = .ok (.iaload, 1) := by decide +kernel
theorem q165_21 : decode (mB 165) 21 = .ok (.iaload, 1) := by decide +kernel
theorem q165_22 : decode (mB 165) 22 = .ok (.ireturn, 1) := by decide +kernel
theorem q166_0 : decode (mB 166) 0 = .ok (.aload_n 0, 1) := by decide +kernel
theorem q166_1 : gfB 166 1 54 8 20 = true := by decide +kernel
theorem q166_4 : decode (mB 166) 4 = .ok (.bipush 45, 2) := by decide +kernel
theorem q166_6 : decode (mB 166) 6 = .ok (.if_icmp .eq 35, 3) := by decide +kernel
theorem q166_9 : decode (mB 166) 9 = .ok (.aload_n 0, 1) := by decide +kernel
theorem q166_10 : gfB 166 10 54 8 20 = true := by decide +kernel
theorem q166_13 : decode (mB 166) 13 = .ok (.aload_n 1, 1) := by decide +kernel
theorem q166_14 : decode (mB 166) 14 = .ok (.iconst 0, 1) := by decide +kernel
theorem q166_15 : decode (mB 166) 15 = .ok (.iaload, 1) := by decide +kernel
theorem q166_16 : decode (mB 166) 16 = .ok (.ifCond .ne 8, 3) := by decide +kernel
theorem q166_19 : decode (mB 166) 19 = .ok (.bipush 98, 2) := by decide +kernel
theorem q166_21 : decode (mB 166) 21 = .ok (.goto 17, 3) := by decide +kernel
theorem q166_24 : decode (mB 166) 24 = .ok (.aload_n 1, 1) := by decide +kernel
theorem q166_25 : decode (mB 166) 25 = .ok (.iconst 0, 1) := by decide +kernel
theorem q166_26 : decode (mB 166) 26 = .ok (.iaload, 1) := by decide +kernel
theorem q166_27 : decode (mB 166) 27 = .ok (.iconst 1, 1) := by decide +kernel
theorem q166_28 : decode (mB 166) 28 = .ok (.if_icmp .ne 8, 3) := by decide +kernel
theorem q166_31 : decode (mB 166) 31 = .ok (.bipush 108, 2) := by decide +kernel
theorem q166_33 : decode (mB 166) 33 = .ok (.goto 5, 3) := by decide +kernel
theorem q166_36 : decode (mB 166) 36 = .ok (.bipush 112, 2) := by decide +kernel
theorem q166_38 : decode (mB 166) 38 = .ok (.if_icmp .ne 7, 3) := by decide +kernel
theorem q166_41 : decode (mB 166) 41 = .ok (.iconst 1, 1) := by decide +kernel
theorem q166_42 : decode (mB 166) 42 = .ok (.goto 4, 3) := by decide +kernel
theorem q166_45 : decode (mB 166) 45 = .ok (.iconst 0, 1) := by decide +kernel
theorem q166_46 : decode (mB 166) 46 = .ok (.istore_n 2, 1) := by decide +kernel
theorem q166_47 : decode (mB 166) 47 = .ok (.iconst 0, 1) := by decide +kernel
theorem q166_48 : decode (mB 166) 48 = .ok (.istore_n 3, 1) := by decide +kernel
theorem q166_49 : decode (mB 166) 49 = .ok (.iload_n 3, 1) := by decide +kernel
theorem q166_50 : decode (mB 166) 50 = .ok (.bipush 6, 2) := by decide +kernel
theorem q166_52 : decode (mB 166) 52 = .ok (.if_icmp .ge 54, 3) := by decide +kernel
theorem q166_55 : decode (mB 166) 55 = .ok (.iload_n 2, 1) := by decide +kernel
theorem q166_56 : decode (mB 166) 56 = .ok (.aload_n 0, 1) := by decide +kernel
theorem q166_57 : gfB 166 57 25 8 5 = true := by decide +kernel
theorem q166_60 : decode (mB 166) 60 = .ok (.iload_n 3, 1) := by decide +kernel
theorem q166_61 : decode (mB 166) 61 = .ok (.baload, 1) := by decide +kernel
theorem q166_62 : decode (mB 166) 62 = .ok (.ifCond .eq 31, 3) := by decide +kernel
theorem q166_65 : decode (mB 166) 65 = .ok (.aload_n 1, 1) := by decide +kernel
theorem q166_66 : decode (mB 166) 66 = .ok (.iconst 2, 1) := by decide +kernel
theorem q166_67 : decode (mB 166) 67 = .ok (.iaload, 1) := by decide +kernel
theorem q166_68 : decode (mB 166) 68 = .ok (.iload_n 3, 1) := by decide +kernel
theorem q166_69 : decode (mB 166) 69 = .ok (.if_icmp .eq 24, 3) := by decide +kernel
theorem q166_72 : decode (mB 166) 72 = .ok (.aload_n 1, 1) := by decide +kernel
theorem q166_73 : decode (mB 166) 73 = .ok (.iconst 3, 1) := by decide +kernel
theorem q166_74 : decode (mB 166) 74 = .ok (.iaload, 1) := by decide +kernel
theorem q166_75 : decode (mB 166) 75 = .ok (.iload_n 3, 1) := by decide +kernel
theorem q166_76 : decode (mB 166) 76 = .ok (.if_icmp .eq 17, 3) := by decide +kernel
theorem q166_79 : decode (mB 166) 79 = .ok (.aload_n 1, 1) := by decide +kernel
theorem q166_80 : decode (mB 166) 80 = .ok (.iconst 4, 1) := by decide +kernel
theorem q166_81 : decode (mB 166) 81 = .ok (.iaload, 1) := by decide +kernel
theorem q166_82 : decode (mB 166) 82 = .ok (.iload_n 3, 1) := by decide +kernel
theorem q166_83 : decode (mB 166) 83 = .ok (.if_icmp .eq 10, 3) := by decide +kernel
theorem q166_86 : decode (mB 166) 86 = .ok (.aload_n 1, 1) := by decide +kernel
theorem q166_87 : decode (mB 166) 87 = .ok (.iconst 5, 1) := by decide +kernel
theorem q166_88 : decode (mB 166) 88 = .ok (.iaload, 1) := by decide +kernel
theorem q166_89 : decode (mB 166) 89 = .ok (.iload_n 3, 1) := by decide +kernel
theorem q166_90 : decode (mB 166) 90 = .ok (.if_icmp .ne 7, 3) := by decide +kernel
theorem q166_93 : decode (mB 166) 93 = .ok (.iconst 1, 1) := by decide +kernel
theorem q166_94 : decode (mB 166) 94 = .ok (.goto 4, 3) := by decide +kernel
theorem q166_97 : decode (mB 166) 97 = .ok (.iconst 0, 1) := by decide +kernel
theorem q166_98 : decode (mB 166) 98 = .ok (.iand, 1) := by decide +kernel
theorem q166_99 : decode (mB 166) 99 = .ok (.istore_n 2, 1) := by decide +kernel
theorem q166_100 : decode (mB 166) 100 = .ok (.iinc 3 1, 3) := by decide +kernel
theorem q166_103 : decode (mB 166) 103 = .ok (.goto (-54), 3) := by decide +kernel
theorem q166_106 : decode (mB 166) 106 = .ok (.iload_n 2, 1) := by decide +kernel
theorem q166_107 : decode (mB 166) 107 = .ok (.ireturn, 1) := by decide +kernel
theorem q167_0 : decode (mB 167) 0 = .ok (.iconst 0, 1) := by decide +kernel
theorem q167_1 : decode (mB 167) 1 = .ok (.istore_n 2, 1) := by decide +kernel
theorem q167_2 : decode (mB 167) 2 = .ok (.iconst 0, 1) := by decide +kernel
theorem q167_3 : decode (mB 167) 3 = .ok (.istore_n 3, 1) := by decide +kernel
theorem q167_4 : decode (mB 167) 4 = .ok (.iconst 0, 1) := by decide +kernel
theorem q167_5 : decode (mB 167) 5 = .ok (.istore 4, 2) := by decide +kernel
theorem q167_7 : decode (mB 167) 7 = .ok (.iload 4, 2) := by decide +kernel
theorem q167_9 : decode (mB 167) 9 = .ok (.iconst 4, 1) := by decide +kernel
theorem q167_10 : decode (mB 167) 10 = .ok (.if_icmp .ge 60, 3) := by decide +kernel
theorem q167_13 : decode (mB 167) 13 = .ok (.iload_n 2, 1) := by decide +kernel
theorem q167_14 : decode (mB 167) 14 = .ok (.aload_n 0, 1) := by decide +kernel
theorem q167_15 : decode (mB 167) 15 = .ok (.aload_n 1, 1) := by decide +kernel
theorem q167_16 : decode (mB 167) 16 = .ok (.iload 4, 2) := by decide +kernel
theorem q167_18 : cfB 167 18 112 165 1 4 2 = true := by decide +kernel
theorem q167_21 : decode (mB 167) 21 = .ok (.iconst 0, 1) := by decide +kernel
theorem q167_22 : decode (mB 167) 22 = .ok (.iconst 1, 1) := by decide +kernel
theorem q167_23 : cfB 167 23 61 136 0 4 3 = true := by decide +kernel
theorem q167_26 : decode (mB 167) 26 = .ok (.ior, 1) := by decide +kernel
theorem q167_27 : decode (mB 167) 27 = .ok (.istore_n 2, 1) := by decide +kernel
theorem q167_28 : decode (mB 167) 28 = .ok (.iload_n 3, 1) := by decide +kernel
theorem q167_29 : decode (mB 167) 29 = .ok (.aload_n 1, 1) := by decide +kernel
theorem q167_30 : decode (mB 167) 30 = .ok (.iconst 2, 1) := by decide +kernel
theorem q167_31 : decode (mB 167) 31 = .ok (.iload 4, 2) := by decide +kernel
theorem q167_33 : decode (mB 167) 33 = .ok (.iadd, 1) := by decide +kernel
theorem q167_34 : decode (mB 167) 34 = .ok (.iaload, 1) := by decide +kernel
theorem q167_35 : decode (mB 167) 35 = .ok (.ifCond .lt 26, 3) := by decide +kernel
theorem q167_38 : decode (mB 167) 38 = .ok (.aload_n 0, 1) := by decide +kernel
theorem q167_39 : gfB 167 39 29 8 6 = true := by decide +kernel
theorem q167_42 : decode (mB 167) 42 = .ok (.iconst 4, 1) := by decide +kernel
theorem q167_43 : decode (mB 167) 43 = .ok (.aload_n 1, 1) := by decide +kernel
theorem q167_44 : decode (mB 167) 44 = .ok (.iconst 2, 1) := by decide +kernel
theorem q167_45 : decode (mB 167) 45 = .ok (.iload 4, 2) := by decide +kernel
theorem q167_47 : decode (mB 167) 47 = .ok (.iadd, 1) := by decide +kernel
theorem q167_48 : decode (mB 167) 48 = .ok (.iaload, 1) := by decide +kernel
theorem q167_49 : decode (mB 167) 49 = .ok (.imul, 1) := by decide +kernel
theorem q167_50 : decode (mB 167) 50 = .ok (.iload 4, 2) := by decide +kernel
theorem q167_52 : decode (mB 167) 52 = .ok (.iadd, 1) := by decide +kernel
theorem q167_53 : decode (mB 167) 53 = .ok (.baload, 1) := by decide +kernel
theorem q167_54 : decode (mB 167) 54 = .ok (.ifCond .eq 7, 3) := by decide +kernel
theorem q167_57 : decode (mB 167) 57 = .ok (.iconst 1, 1) := by decide +kernel
theorem q167_58 : decode (mB 167) 58 = .ok (.goto 4, 3) := by decide +kernel
theorem q167_61 : decode (mB 167) 61 = .ok (.iconst 0, 1) := by decide +kernel
theorem q167_62 : decode (mB 167) 62 = .ok (.ior, 1) := by decide +kernel
theorem q167_63 : decode (mB 167) 63 = .ok (.istore_n 3, 1) := by decide +kernel
theorem q167_64 : decode (mB 167) 64 = .ok (.iinc 4 1, 3) := by decide +kernel
theorem q167_67 : decode (mB 167) 67 = .ok (.goto (-60), 3) := by decide +kernel
theorem q167_70 : decode (mB 167) 70 = .ok (.aload_n 1, 1) := by decide +kernel
theorem q167_71 : decode (mB 167) 71 = .ok (.iconst 1, 1) := by decide +kernel
theorem q167_72 : decode (mB 167) 72 = .ok (.iaload, 1) := by decide +kernel
theorem q167_73 : decode (mB 167) 73 = .ok (.iconst 1, 1) := by decide +kernel
theorem q167_74 : decode (mB 167) 74 = .ok (.if_icmp .ne 7, 3) := by decide +kernel
theorem q167_77 : decode (mB 167) 77 = .ok (.iconst 1, 1) := by decide +kernel
theorem q167_78 : decode (mB 167) 78 = .ok (.goto 4, 3) := by decide +kernel
theorem q167_81 : decode (mB 167) 81 = .ok (.iconst 0, 1) := by decide +kernel
theorem q167_82 : decode (mB 167) 82 = .ok (.istore 4, 2) := by decide +kernel
theorem q167_84 : decode (mB 167) 84 = .ok (.aload_n 0, 1) := by decide +kernel
theorem q167_85 : decode (mB 167) 85 = .ok (.aload_n 1, 1) := by decide +kernel
theorem q167_86 : decode (mB 167) 86 = .ok (.iconst 0, 1) := by decide +kernel
theorem q167_87 : cfB 167 87 112 165 1 4 2 = true := by decide +kernel
theorem q167_90 : decode (mB 167) 90 = .ok (.iconst 3, 1) := by decide +kernel
theorem q167_91 : decode (mB 167) 91 = .ok (.if_icmp .eq 13, 3) := by decide +kernel
theorem q167_94 : decode (mB 167) 94 = .ok (.aload_n 0, 1) := by decide +kernel
theorem q167_95 : decode (mB 167) 95 = .ok (.aload_n 1, 1) := by decide +kernel
theorem q167_96 : decode (mB 167) 96 = .ok (.iconst 0, 1) := by decide +kernel
theorem q167_97 : cfB 167 97 112 165 1 4 2 = true := by decide +kernel
theorem q167_100 : decode (mB 167) 100 = .ok (.iconst 2, 1) := by decide +kernel
theorem q167_101 : decode (mB 167) 101 = .ok (.if_icmp .ne 7, 3) := by decide +kernel
theorem q167_104 : decode (mB 167) 104 = .ok (.iconst 1, 1) := by decide +kernel
theorem q167_105 : decode (mB 167) 105 = .ok (.goto 4, 3) := by decide +kernel
theorem q167_108 : decode (mB 167) 108 = .ok (.iconst 0, 1) := by decide +kernel
theorem q167_109 : decode (mB 167) 109 = .ok (.istore 5, 2) := by decide +kernel
theorem q167_111 : decode (mB 167) 111 = .ok (.aload_n 0, 1) := by decide +kernel
theorem q167_112 : decode (mB 167) 112 = .ok (.aload_n 1, 1) := by decide +kernel
theorem q167_113 : decode (mB 167) 113 = .ok (.iconst 1, 1) := by decide +kernel
theorem q167_114 : cfB 167 114 112 165 1 4 2 = true := by decide +kernel
theorem q167_117 : decode (mB 167) 117 = .ok (.iconst 4, 1) := by decide +kernel
theorem q167_118 : decode (mB 167) 118 = .ok (.if_icmp .ne 7, 3) := by decide +kernel
theorem q167_121 : decode (mB 167) 121 = .ok (.iconst 1, 1) := by decide +kernel
theorem q167_122 : decode (mB 167) 122 = .ok (.goto 4, 3) := by decide +kernel
theorem q167_125 : decode (mB 167) 125 = .ok (.iconst 0, 1) := by decide +kernel
theorem q167_126 : decode (mB 167) 126 = .ok (.istore 6, 2) := by decide +kernel
theorem q167_128 : decode (mB 167) 128 = .ok (.aload_n 1, 1) := by decide +kernel
theorem q167_129 : decode (mB 167) 129 = .ok (.iconst 0, 1) := by decide +kernel
theorem q167_130 : decode (mB 167) 130 = .ok (.iaload, 1) := by decide +kernel
theorem q167_131 : decode (mB 167) 131 = .ok (.ifCond .ne 22, 3) := by decide +kernel
theorem q167_134 : decode (mB 167) 134 = .ok (.iload 5, 2) := by decide +kernel
theorem q167_136 : decode (mB 167) 136 = .ok (.ifCond .eq 13, 3) := by decide +kernel
theorem q167_139 : decode (mB 167) 139 = .ok (.iload 6, 2) := by decide +kernel
theorem q167_141 : decode (mB 167) 141 = .ok (.ifCond .ne 12, 3) := by decide +kernel
theorem q167_144 : decode (mB 167) 144 = .ok (.iload 4, 2) := by decide +kernel
theorem q167_146 : decode (mB 167) 146 = .ok (.ifCond .ne 7, 3) := by decide +kernel
theorem q167_149 : decode (mB 167) 149 = .ok (.iconst 1, 1) := by decide +kernel
theorem q167_150 : decode (mB 167) 150 = .ok (.goto 4, 3) := by decide +kernel
theorem q167_153 : decode (mB 167) 153 = .ok (.iconst 0, 1) := by decide +kernel
theorem q167_154 : decode (mB 167) 154 = .ok (.istore 7, 2) := by decide +kernel
theorem q167_156 : decode (mB 167) 156 = .ok (.aload_n 1, 1) := by decide +kernel
theorem q167_157 : decode (mB 167) 157 = .ok (.iconst 0, 1) := by decide +kernel
theorem q167_158 : decode (mB 167) 158 = .ok (.iaload, 1) := by decide +kernel
theorem q167_159 : decode (mB 167) 159 = .ok (.iconst 1, 1) := by decide +kernel
theorem q167_160 : decode (mB 167) 160 = .ok (.if_icmp .ne 37, 3) := by decide +kernel
theorem q167_163 : decode (mB 167) 163 = .ok (.aload_n 0, 1) := by decide +kernel
theorem q167_164 : decode (mB 167) 164 = .ok (.aload_n 1, 1) := by decide +kernel
theorem q167_165 : decode (mB 167) 165 = .ok (.iconst 0, 1) := by decide +kernel
theorem q167_166 : cfB 167 166 112 165 1 4 2 = true := by decide +kernel
theorem q167_169 : decode (mB 167) 169 = .ok (.iconst 2, 1) := by decide +kernel
theorem q167_170 : decode (mB 167) 170 = .ok (.if_icmp .eq 13, 3) := by decide +kernel
theorem q167_173 : decode (mB 167) 173 = .ok (.aload_n 0, 1) := by decide +kernel
theorem q167_174 : decode (mB 167) 174 = .ok (.aload_n 1, 1) := by decide +kernel
theorem q167_175 : decode (mB 167) 175 = .ok (.iconst 0, 1) := by decide +kernel
theorem q167_176 : cfB 167 176 112 165 1 4 2 = true := by decide +kernel
theorem q167_179 : decode (mB 167) 179 = .ok (.iconst 4, 1) := by decide +kernel
theorem q167_180 : decode (mB 167) 180 = .ok (.if_icmp .ne 13, 3) := by decide +kernel
theorem q167_183 : decode (mB 167) 183 = .ok (.iload 6, 2) := by decide +kernel
theorem q167_185 : decode (mB 167) 185 = .ok (.ifCond .ne 12, 3) := by decide +kernel
theorem q167_188 : decode (mB 167) 188 = .ok (.iload 4, 2) := by decide +kernel
theorem q167_190 : decode (mB 167) 190 = .ok (.ifCond .ne 7, 3) := by decide +kernel
theorem q167_193 : decode (mB 167) 193 = .ok (.iconst 1, 1) := by decide +kernel
theorem q167_194 : decode (mB 167) 194 = .ok (.goto 4, 3) := by decide +kernel
theorem q167_197 : decode (mB 167) 197 = .ok (.iconst 0, 1) := by decide +kernel
theorem q167_198 : decode (mB 167) 198 = .ok (.istore 8, 2) := by decide +kernel
theorem q167_200 : decode (mB 167) 200 = .ok (.aload_n 1, 1) := by decide +kernel
theorem q167_201 : decode (mB 167) 201 = .ok (.iconst 2, 1) := by decide +kernel
theorem q167_202 : decode (mB 167) 202 = .ok (.iaload, 1) := by decide +kernel
theorem q167_203 : decode (mB 167) 203 = .ok (.ifCond .ge 9, 3) := by decide +kernel
theorem q167_206 : decode (mB 167) 206 = .ok (.aload_n 1, 1) := by decide +kernel
theorem q167_207 : decode (mB 167) 207 = .ok (.iconst 3, 1) := by decide +kernel
theorem q167_208 : decode (mB 167) 208 = .ok (.iaload, 1) := by decide +kernel
theorem q167_209 : decode (mB 167) 209 = .ok (.ifCond .lt 7, 3) := by decide +kernel
theorem q167_212 : decode (mB 167) 212 = .ok (.iload_n 2, 1) := by decide +kernel
theorem q167_213 : decode (mB 167) 213 = .ok (.ifCond .eq 25, 3) := by decide +kernel
theorem q167_216 : decode (mB 167) 216 = .ok (.iload_n 2, 1) := by decide +kernel
theorem q167_217 : decode (mB 167) 217 = .ok (.ifCond .eq 19, 3) := by decide +kernel
theorem q167_220 : decode (mB 167) 220 = .ok (.aload_n 1, 1) := by decide +kernel
theorem q167_221 : decode (mB 167) 221 = .ok (.iconst 2, 1) := by decide +kernel
theorem q167_222 : decode (mB 167) 222 = .ok (.iaload, 1) := by decide +kernel
theorem q167_223 : decode (mB 167) 223 = .ok (.ifCond .ge 9, 3) := by decide +kernel
theorem q167_226 : decode (mB 167) 226 = .ok (.aload_n 1, 1) := by decide +kernel
theorem q167_227 : decode (mB 167) 227 = .ok (.iconst 3, 1) := by decide +kernel
theorem q167_228 : decode (mB 167) 228 = .ok (.iaload, 1) := by decide +kernel
theorem q167_229 : decode (mB 167) 229 = .ok (.ifCond .lt 7, 3) := by decide +kernel
theorem q167_232 : decode (mB 167) 232 = .ok (.iconst 2, 1) := by decide +kernel
theorem q167_233 : decode (mB 167) 233 = .ok (.goto 4, 3) := by decide +kernel
theorem q167_236 : decode (mB 167) 236 = .ok (.iconst 1, 1) := by decide +kernel
theorem q167_237 : decode (mB 167) 237 = .ok (.ireturn, 1) := by decide +kernel
theorem q167_238 : decode (mB 167) 238 = .ok (.aload_n 1, 1) := by decide +kernel
theorem q167_239 : decode (mB 167) 239 = .ok (.iconst 5, 1) := by decide +kernel
theorem q167_240 : decode (mB 167) 240 = .ok (.iaload, 1) := by decide +kernel
theorem q167_241 : decode (mB 167) 241 = .ok (.ifCond .lt 22, 3) := by decide +kernel
theorem q167_244 : decode (mB 167) 244 = .ok (.aload_n 0, 1) := by decide +kernel
theorem q167_245 : decode (mB 167) 245 = .ok (.aload_n 1, 1) := by decide +kernel
theorem q167_246 : decode (mB 167) 246 = .ok (.iconst 3, 1) := by decide +kernel
theorem q167_247 : cfB 167 247 112 165 1 4 2 = true := by decide +kernel
theorem q167_250 : decode (mB 167) 250 = .ok (.iconst 4, 1) := by decide +kernel
theorem q167_251 : decode (mB 167) 251 = .ok (.if_icmp .ne 10, 3) := by decide +kernel
theorem q167_254 : decode (mB 167) 254 = .ok (.aload_n 1, 1) := by decide +kernel
theorem q167_255 : decode (mB 167) 255 = .ok (.iconst 0, 1) := by decide +kernel
theorem q167_256 : decode (mB 167) 256 = .ok (.iaload, 1) := by decide +kernel
theorem q167_257 : decode (mB 167) 257 = .ok (.iconst 2, 1) := by decide +kernel
theorem q167_258 : decode (mB 167) 258 = .ok (.if_icmp .eq 5, 3) := by decide +kernel
theorem q167_261 : decode (mB 167) 261 = .ok (.iconst 3, 1) := by decide +kernel
theorem q167_262 : decode (mB 167) 262 = .ok (.ireturn, 1) := by decide +kernel
theorem q167_263 : decode (mB 167) 263 = .ok (.iload 7, 2) := by decide +kernel
theorem q167_265 : decode (mB 167) 265 = .ok (.ifCond .ne 8, 3) := by decide +kernel
theorem q167_268 : decode (mB 167) 268 = .ok (.iload 8, 2) := by decide +kernel
theorem q167_270 : decode (mB 167) 270 = .ok (.ifCond .eq 14, 3) := by decide +kernel
theorem q167_273 : decode (mB 167) 273 = .ok (.iload 7, 2) := by decide +kernel
theorem q167_275 : decode (mB 167) 275 = .ok (.ifCond .eq 7, 3) := by decide +kernel
theorem q167_278 : decode (mB 167) 278 = .ok (.iconst 4, 1) := by decide +kernel
theorem q167_279 : decode (mB 167) 279 = .ok (.goto 4, 3) := by decide +kernel
theorem q167_282 : decode (mB 167) 282 = .ok (.iconst 5, 1) := by decide +kernel
theorem q167_283 : decode (mB 167) 283 = .ok (.ireturn, 1) := by decide +kernel
theorem q167_284 : decode (mB 167) 284 = .ok (.iload 4, 2) := by decide +kernel
theorem q167_286 : decode (mB 167) 286 = .ok (.ifCond .eq 12, 3) := by decide +kernel
theorem q167_289 : decode (mB 167) 289 = .ok (.aload_n 1, 1) := by decide +kernel
theorem q167_290 : decode (mB 167) 290 = .ok (.iconst 3, 1) := by decide +kernel
theorem q167_291 : decode (mB 167) 291 = .ok (.iaload, 1) := by decide +kernel
theorem q167_292 : decode (mB 167) 292 = .ok (.ifCond .lt 6, 3) := by decide +kernel
theorem q167_295 : decode (mB 167) 295 = .ok (.bipush 6, 2) := by decide +kernel
theorem q167_297 : decode (mB 167) 297 = .ok (.ireturn, 1) := by decide +kernel
theorem q167_298 : decode (mB 167) 298 = .ok (.aload_n 1, 1) := by decide +kernel
theorem q167_299 : decode (mB 167) 299 = .ok (.iconst 1, 1) := by decide +kernel
theorem q167_300 : decode (mB 167) 300 = .ok (.iaload, 1) := by decide +kernel
theorem q167_301 : decode (mB 167) 301 = .ok (.iconst 2, 1) := by decide +kernel
theorem q167_302 : decode (mB 167) 302 = .ok (.if_icmp .ne 18, 3) := by decide +kernel
theorem q167_305 : decode (mB 167) 305 = .ok (.iload 6, 2) := by decide +kernel
theorem q167_307 : decode (mB 167) 307 = .ok (.ifCond .eq 8, 3) := by decide +kernel
theorem q167_310 : decode (mB 167) 310 = .ok (.iload 5, 2) := by decide +kernel
theorem q167_312 : decode (mB 167) 312 = .ok (.ifCond .ne 8, 3) := by decide +kernel
theorem q167_315 : decode (mB 167) 315 = .ok (.bipush 7, 2) := by decide +kernel
theorem q167_317 : decode (mB 167) 317 = .ok (.goto 26, 3) := by decide +kernel
theorem q167_320 : decode (mB 167) 320 = .ok (.iload_n 3, 1) := by decide +kernel
theorem q167_321 : decode (mB 167) 321 = .ok (.ifCond .eq 8, 3) := by decide +kernel
theorem q167_324 : decode (mB 167) 324 = .ok (.bipush 8, 2) := by decide +kernel
theorem q167_326 : decode (mB 167) 326 = .ok (.goto 17, 3) := by decide +kernel
theorem q167_329 : decode (mB 167) 329 = .ok (.aload_n 0, 1) := by decide +kernel
theorem q167_330 : decode (mB 167) 330 = .ok (.aload_n 1, 1) := by decide +kernel
theorem q167_331 : cfB 167 331 116 166 1 4 1 = true := by decide +kernel
theorem q167_334 : decode (mB 167) 334 = .ok (.ifCond .eq 7, 3) := by decide +kernel
theorem q167_337 : decode (mB 167) 337 = .ok (.iconst 0, 1) := by decide +kernel
theorem q167_338 : decode (mB 167) 338 = .ok (.goto 5, 3) := by decide +kernel
theorem q167_341 : decode (mB 167) 341 = .ok (.bipush 9, 2) := by decide +kernel
theorem q167_343 : decode (mB 167) 343 = .ok (.ireturn, 1) := by decide +kernel
theorem q168_0 : decode (mB 168) 0 = .ok (.iconst 0, 1) := by decide +kernel
theorem q168_1 : decode (mB 168) 1 = .ok (.istore_n 2, 1) := by decide +kernel
theorem q168_2 : decode (mB 168) 2 = .ok (.iconst 0, 1) := by decide +kernel
theorem q168_3 : decode (mB 168) 3 = .ok (.istore_n 3, 1) := by decide +kernel
theorem q168_4 : decode (mB 168) 4 = .ok (.iload_n 3, 1) := by decide +kernel
theorem q168_5 : decode (mB 168) 5 = .ok (.iconst 4, 1) := by decide +kernel
theorem q168_6 : decode (mB 168) 6 = .ok (.if_icmp .ge 25, 3) := by decide +kernel
theorem q168_9 : decode (mB 168) 9 = .ok (.iload_n 2, 1) := by decide +kernel
theorem q168_10 : decode (mB 168) 10 = .ok (.aload_n 1, 1) := by decide +kernel
theorem q168_11 : decode (mB 168) 11 = .ok (.iconst 2, 1) := by decide +kernel
theorem q168_12 : decode (mB 168) 12 = .ok (.iload_n 3, 1) := by decide +kernel
theorem q168_13 : decode (mB 168) 13 = .ok (.iadd, 1) := by decide +kernel
theorem q168_14 : decode (mB 168) 14 = .ok (.iaload, 1) := by decide +kernel
theorem q168_15 : decode (mB 168) 15 = .ok (.ifCond .lt 7, 3) := by decide +kernel
theorem q168_18 : decode (mB 168) 18 = .ok (.iconst 1, 1) := by decide +kernel
theorem q168_19 : decode (mB 168) 19 = .ok (.goto 4, 3) := by decide +kernel
theorem q168_22 : decode (mB 168) 22 = .ok (.iconst 0, 1) := by decide +kernel
theorem q168_23 : decode (mB 168) 23 = .ok (.iadd, 1) := by decide +kernel
theorem q168_24 : decode (mB 168) 24 = .ok (.istore_n 2, 1) := by decide +kernel
theorem q168_25 : decode (mB 168) 25 = .ok (.iinc 3 1, 3) := by decide +kernel
theorem q168_28 : decode (mB 168) 28 = .ok (.goto (-24), 3) := by decide +kernel
theorem q168_31 : decode (mB 168) 31 = .ok (.aload_n 1, 1) := by decide +kernel
theorem q168_32 : decode (mB 168) 32 = .ok (.iconst 0, 1) := by decide +kernel
theorem q168_33 : decode (mB 168) 33 = .ok (.iaload, 1) := by decide +kernel
theorem q168_34 : decode (mB 168) 34 = .ok (.ifCond .ne 13, 3) := by decide +kernel
theorem q168_37 : decode (mB 168) 37 = .ok (.aload_n 1, 1) := by decide +kernel
theorem q168_38 : decode (mB 168) 38 = .ok (.iconst 1, 1) := by decide +kernel
theorem q168_39 : decode (mB 168) 39 = .ok (.iaload, 1) := by decide +kernel
theorem q168_40 : decode (mB 168) 40 = .ok (.ifCond .ne 7, 3) := by decide +kernel
theorem q168_43 : decode (mB 168) 43 = .ok (.iconst 1, 1) := by decide +kernel
theorem q168_44 : decode (mB 168) 44 = .ok (.goto 4, 3) := by decide +kernel
theorem q168_47 : decode (mB 168) 47 = .ok (.iconst 0, 1) := by decide +kernel
theorem q168_48 : decode (mB 168) 48 = .ok (.istore_n 3, 1) := by decide +kernel
theorem q168_49 : decode (mB 168) 49 = .ok (.iload_n 3, 1) := by decide +kernel
theorem q168_50 : decode (mB 168) 50 = .ok (.aload_n 0, 1) := by decide +kernel
theorem q168_51 : decode (mB 168) 51 = .ok (.aload_n 1, 1) := by decide +kernel
theorem q168_52 : decode (mB 168) 52 = .ok (.iconst 0, 1) := by decide +kernel
theorem q168_53 : cfB 168 53 112 165 1 4 2 = true := by decide +kernel
theorem q168_56 : decode (mB 168) 56 = .ok (.iconst 3, 1) := by decide +kernel
theorem q168_57 : decode (mB 168) 57 = .ok (.if_icmp .ne 17, 3) := by decide +kernel
theorem q168_60 : decode (mB 168) 60 = .ok (.aload_n 0, 1) := by decide +kernel
theorem q168_61 : decode (mB 168) 61 = .ok (.aload_n 1, 1) := by decide +kernel
theorem q168_62 : decode (mB 168) 62 = .ok (.iconst 1, 1) := by decide +kernel
theorem q168_63 : cfB 168 63 112 165 1 4 2 = true := by decide +kernel
theorem q168_66 : decode (mB 168) 66 = .ok (.iconst 3, 1) := by decide +kernel
theorem q168_67 : decode (mB 168) 67 = .ok (.if_icmp .ne 7, 3) := by decide +kernel
theorem q168_70 : decode (mB 168) 70 = .ok (.iconst 2, 1) := by decide +kernel
theorem q168_71 : decode (mB 168) 71 = .ok (.goto 4, 3) := by decide +kernel
theorem q168_74 : decode (mB 168) 74 = .ok (.iconst 0, 1) := by decide +kernel
theorem q168_75 : decode (mB 168) 75 = .ok (.ior, 1) := by decide +kernel
theorem q168_76 : decode (mB 168) 76 = .ok (.istore_n 3, 1) := by decide +kernel
theorem q168_77 : decode (mB 168) 77 = .ok (.iload_n 3, 1) := by decide +kernel
theorem q168_78 : decode (mB 168) 78 = .ok (.aload_n 0, 1) := by decide +kernel
theorem q168_79 : decode (mB 168) 79 = .ok (.aload_n 1, 1) := by decide +kernel
theorem q168_80 : decode (mB 168) 80 = .ok (.iconst 2, 1) := by decide +kernel
theorem q168_81 : cfB 168 81 112 165 1 4 2 = true := by decide +kernel
theorem q168_84 : decode (mB 168) 84 = .ok (.iconst 4, 1) := by decide +kernel
theorem q168_85 : decode (mB 168) 85 = .ok (.if_icmp .ne 7, 3) := by decide +kernel
theorem q168_88 : decode (mB 168) 88 = .ok (.iconst 4, 1) := by decide +kernel
theorem q168_89 : decode (mB 168) 89 = .ok (.goto 4, 3) := by decide +kernel
theorem q168_92 : decode (mB 168) 92 = .ok (.iconst 0, 1) := by decide +kernel
theorem q168_93 : decode (mB 168) 93 = .ok (.ior, 1) := by decide +kernel
theorem q168_94 : decode (mB 168) 94 = .ok (.istore_n 3, 1) := by decide +kernel
theorem q168_95 : decode (mB 168) 95 = .ok (.iload_n 3, 1) := by decide +kernel
theorem q168_96 : decode (mB 168) 96 = .ok (.aload_n 1, 1) := by decide +kernel
theorem q168_97 : decode (mB 168) 97 = .ok (.iconst 0, 1) := by decide +kernel
theorem q168_98 : decode (mB 168) 98 = .ok (.iaload, 1) := by decide +kernel
theorem q168_99 : decode (mB 168) 99 = .ok (.iconst 2, 1) := by decide +kernel
theorem q168_100 : decode (mB 168) 100 = .ok (.if_icmp .ne 23, 3) := by decide +kernel
theorem q168_103 : decode (mB 168) 103 = .ok (.aload_n 1, 1) := by decide +kernel
theorem q168_104 : decode (mB 168) 104 = .ok (.iconst 1, 1) := by decide +kernel
theorem q168_105 : decode (mB 168) 105 = .ok (.iaload, 1) := by decide +kernel
theorem q168_106 : decode (mB 168) 106 = .ok (.ifCond .ne 17, 3) := by decide +kernel
theorem q168_109 : decode (mB 168) 109 = .ok (.aload_n 0, 1) := by decide +kernel
theorem q168_110 : gfB 168 110 73 8 13 = true := by decide +kernel
theorem q168_113 : decode (mB 168) 113 = .ok (.bipush 20, 2) := by decide +kernel
theorem q168_115 : decode (mB 168) 115 = .ok (.if_icmp .le 8, 3) := by decide +kernel
theorem q168_118 : decode (mB 168) 118 = .ok (.bipush 8, 2) := by decide +kernel
theorem q168_120 : decode (mB 168) 120 = .ok (.goto 4, 3) := by decide +kernel
theorem q168_123 : decode (mB 168) 123 = .ok (.iconst 0, 1) := by decide +kernel
theorem q168_124 : decode (mB 168) 124 = .ok (.ior, 1) := by decide +kernel
theorem q168_125 : decode (mB 168) 125 = .ok (.istore_n 3, 1) := by decide +kernel
theorem q168_126 : decode (mB 168) 126 = .ok (.iload_n 3, 1) := by decide +kernel
theorem q168_127 : decode (mB 168) 127 = .ok (.aload_n 1, 1) := by decide +kernel
theorem q168_128 : decode (mB 168) 128 = .ok (.iconst 0, 1) := by decide +kernel
theorem q168_129 : decode (mB 168) 129 = .ok (.iaload, 1) := by decide +kernel
theorem q168_130 : decode (mB 168) 130 = .ok (.iconst 2, 1) := by decide +kernel
theorem q168_131 : decode (mB 168) 131 = .ok (.if_icmp .ne 14, 3) := by decide +kernel
theorem q168_134 : decode (mB 168) 134 = .ok (.aload_n 1, 1) := by decide +kernel
theorem q168_135 : decode (mB 168) 135 = .ok (.iconst 1, 1) := by decide +kernel
theorem q168_136 : decode (mB 168) 136 = .ok (.iaload, 1) := by decide +kernel
theorem q168_137 : decode (mB 168) 137 = .ok (.ifCond .eq 8, 3) := by decide +kernel
theorem q168_140 : decode (mB 168) 140 = .ok (.bipush 16, 2) := by decide +kernel
theorem q168_142 : decode (mB 168) 142 = .ok (.goto 4, 3) := by decide +kernel
theorem q168_145 : decode (mB 168) 145 = .ok (.iconst 0, 1) := by decide +kernel
theorem q168_146 : decode (mB 168) 146 = .ok (.ior, 1) := by decide +kernel
theorem q168_147 : decode (mB 168) 147 = .ok (.istore_n 3, 1) := by decide +kernel
theorem q168_148 : decode (mB 168) 148 = .ok (.iload_n 3, 1) := by decide +kernel
theorem q168_149 : decode (mB 168) 149 = .ok (.iload_n 2, 1) := by decide +kernel
theorem q168_150 : decode (mB 168) 150 = .ok (.iconst 3, 1) := by decide +kernel
theorem q168_151 : decode (mB 168) 151 = .ok (.if_icmp .lt 8, 3) := by decide +kernel
theorem q168_154 : decode (mB 168) 154 = .ok (.bipush 32, 2) := by decide +kernel
theorem q168_156 : decode (mB 168) 156 = .ok (.goto 4, 3) := by decide +kernel
theorem q168_159 : decode (mB 168) 159 = .ok (.iconst 0, 1) := by decide +kernel
theorem q168_160 : decode (mB 168) 160 = .ok (.ior, 1) := by decide +kernel
theorem q168_161 : decode (mB 168) 161 = .ok (.istore_n 3, 1) := by decide +kernel
theorem q168_162 : decode (mB 168) 162 = .ok (.iload_n 3, 1) := by decide +kernel
theorem q168_163 : decode (mB 168) 163 = .ok (.aload_n 0, 1) := by decide +kernel
theorem q168_164 : decode (mB 168) 164 = .ok (.aload_n 1, 1) := by decide +kernel
theorem q168_165 : decode (mB 168) 165 = .ok (.iconst 2, 1) := by decide +kernel
theorem q168_166 : cfB 168 166 112 165 1 4 2 = true := by decide +kernel
theorem q168_169 : decode (mB 168) 169 = .ok (.iconst 3, 1) := by decide +kernel
theorem q168_170 : decode (mB 168) 170 = .ok (.if_icmp .ne 20, 3) := by decide +kernel
theorem q168_173 : decode (mB 168) 173 = .ok (.aload_n 0, 1) := by decide +kernel
theorem q168_174 : gfB 168 174 22 8 4 = true := by decide +kernel
theorem q168_177 : decode (mB 168) 177 = .ok (.aload_n 1, 1) := by decide +kernel
theorem q168_178 : decode (mB 168) 178 = .ok (.iconst 4, 1) := by decide +kernel
theorem q168_179 : decode (mB 168) 179 = .ok (.iaload, 1) := by decide +kernel
theorem q168_180 : decode (mB 168) 180 = .ok (.iaload, 1) := by decide +kernel
theorem q168_181 : decode (mB 168) 181 = .ok (.iconst 4, 1) := by decide +kernel
theorem q168_182 : decode (mB 168) 182 = .ok (.if_icmp .le 8, 3) := by decide +kernel
theorem q168_185 : decode (mB 168) 185 = .ok (.bipush 64, 2) := by decide +kernel
theorem q168_187 : decode (mB 168) 187 = .ok (.goto 4, 3) := by decide +kernel
theorem q168_190 : decode (mB 168) 190 = .ok (.iconst 0, 1) := by decide +kernel
theorem q168_191 : decode (mB 168) 191 = .ok (.ior, 1) := by decide +kernel
theorem q168_192 : decode (mB 168) 192 = .ok (.istore_n 3, 1) := by decide +kernel
theorem q168_193 : decode (mB 168) 193 = .ok (.iload_n 3, 1) := by decide +kernel
theorem q168_194 : decode (mB 168) 194 = .ok (.aload_n 1, 1) := by decide +kernel
theorem q168_195 : decode (mB 168) 195 = .ok (.iconst 2, 1) := by decide +kernel
theorem q168_196 : decode (mB 168) 196 = .ok (.iaload, 1) := by decide +kernel
theorem q168_197 : decode (mB 168) 197 = .ok (.ifCond .lt 9, 3) := by decide +kernel
theorem q168_200 : decode (mB 168) 200 = .ok (.aload_n 1, 1) := by decide +kernel
theorem q168_201 : decode (mB 168) 201 = .ok (.iconst 3, 1) := by decide +kernel
theorem q168_202 : decode (mB 168) 202 = .ok (.iaload, 1) := by decide +kernel
theorem q168_203 : decode (mB 168) 203 = .ok (.ifCond .ge 9, 3) := by decide +kernel
theorem q168_206 : decode (mB 168) 206 = .ok (.sipush 128, 3) := by decide +kernel
theorem q168_209 : decode (mB 168) 209 = .ok (.goto 4, 3) := by decide +kernel
theorem q168_212 : decode (mB 168) 212 = .ok (.iconst 0, 1) := by decide +kernel
theorem q168_213 : decode (mB 168) 213 = .ok (.ior, 1) := by decide +kernel
theorem q168_214 : decode (mB 168) 214 = .ok (.ireturn, 1) := by decide +kernel
theorem q169_0 : decode (mB 169) 0 = .ok (.iconst 0, 1) := by decide +kernel
theorem q169_1 : decode (mB 169) 1 = .ok (.istore_n 2, 1) := by decide +kernel
theorem q169_2 : decode (mB 169) 2 = .ok (.iconst 0, 1) := by decide +kernel
theorem q169_3 : decode (mB 169) 3 = .ok (.istore_n 3, 1) := by decide +kernel
theorem q169_4 : decode (mB 169) 4 = .ok (.iload_n 3, 1) := by decide +kernel
theorem q169_5 : decode (mB 169) 5 = .ok (.aload_n 0, 1) := by decide +kernel
theorem q169_6 : gfB 169 6 73 8 13 = true := by decide +kernel
theorem q169_9 : decode (mB 169) 9 = .ok (.if_icmp .ge 73, 3) := by decide +kernel
theorem q169_12 : decode (mB 169) 12 = .ok (.iconst 0, 1) := by decide +kernel
theorem q169_13 : decode (mB 169) 13 = .ok (.istore 4, 2) := by decide +kernel
theorem q169_15 : decode (mB 169) 15 = .ok (.iconst 2, 1) := by decide +kernel
theorem q169_16 : decode (mB 169) 16 = .ok (.istore 5, 2) := by decide +kernel
theorem q169_18 : decode (mB 169) 18 = .ok (.iload 5, 2) := by decide +kernel
theorem q169_20 : decode (mB 169) 20 = .ok (.bipush 6, 2) := by decide +kernel
theorem q169_22 : decode (mB 169) 22 = .ok (.if_icmp .ge 41, 3) := by decide +kernel
theorem q169_25 : decode (mB 169) 25 = .ok (.iload 4, 2) := by decide +kernel
theorem q169_27 : decode (mB 169) 27 = .ok (.aload_n 1, 1) := by decide +kernel
theorem q169_28 : decode (mB 169) 28 = .ok (.iload 5, 2) := by decide +kernel
theorem q169_30 : decode (mB 169) 30 = .ok (.iaload, 1) := by decide +kernel
theorem q169_31 : decode (mB 169) 31 = .ok (.ifCond .lt 22, 3) := by decide +kernel
theorem q169_34 : decode (mB 169) 34 = .ok (.aload_n 0, 1) := by decide +kernel
theorem q169_35 : decode (mB 169) 35 = .ok (.iload_n 3, 1) := by decide +kernel
theorem q169_36 : decode (mB 169) 36 = .ok (.aload_n 1, 1) := by decide +kernel
theorem q169_37 : decode (mB 169) 37 = .ok (.iload 5, 2) := by decide +kernel
theorem q169_39 : decode (mB 169) 39 = .ok (.iaload, 1) := by decide +kernel
theorem q169_40 : cfB 169 40 80 144 1 4 2 = true := by decide +kernel
theorem q169_43 : decode (mB 169) 43 = .ok (.sipush (-10000), 3) := by decide +kernel
theorem q169_46 : decode (mB 169) 46 = .ok (.if_icmp .ne 7, 3) := by decide +kernel
theorem q169_49 : decode (mB 169) 49 = .ok (.iconst 1, 1) := by decide +kernel
theorem q169_50 : decode (mB 169) 50 = .ok (.goto 4, 3) := by decide +kernel
theorem q169_53 : decode (mB 169) 53 = .ok (.iconst 0, 1) := by decide +kernel
theorem q169_54 : decode (mB 169) 54 = .ok (.ior, 1) := by decide +kernel
theorem q169_55 : decode (mB 169) 55 = .ok (.istore 4, 2) := by decide +kernel
theorem q169_57 : decode (mB 169) 57 = .ok (.iinc 5 1, 3) := by decide +kernel
theorem q169_60 : decode (mB 169) 60 = .ok (.goto (-42), 3) := by decide +kernel
theorem q169_63 : decode (mB 169) 63 = .ok (.iload_n 2, 1) := by decide +kernel
theorem q169_64 : decode (mB 169) 64 = .ok (.iload 4, 2) := by decide +kernel
theorem q169_66 : decode (mB 169) 66 = .ok (.ifCond .eq 7, 3) := by decide +kernel
theorem q169_69 : decode (mB 169) 69 = .ok (.iconst 1, 1) := by decide +kernel
theorem q169_70 : decode (mB 169) 70 = .ok (.goto 4, 3) := by decide +kernel
theorem q169_73 : decode (mB 169) 73 = .ok (.iconst 0, 1) := by decide +kernel
theorem q169_74 : decode (mB 169) 74 = .ok (.iadd, 1) := by decide +kernel
theorem q169_75 : decode (mB 169) 75 = .ok (.istore_n 2, 1) := by decide +kernel
theorem q169_76 : decode (mB 169) 76 = .ok (.iinc 3 1, 3) := by decide +kernel
theorem q169_79 : decode (mB 169) 79 = .ok (.goto (-75), 3) := by decide +kernel
theorem q169_82 : decode (mB 169) 82 = .ok (.iload_n 2, 1) := by decide +kernel
theorem q169_83 : decode (mB 169) 83 = .ok (.ireturn, 1) := by decide +kernel
