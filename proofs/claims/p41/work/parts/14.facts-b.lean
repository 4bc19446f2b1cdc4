/-! what each instruction is, method by method (by program) -/

theorem q60_0 : decode (mB 60) 0 = .ok (.iconst 0, 1) := by decide +kernel
theorem q60_1 : decode (mB 60) 1 = .ok (.istore_n 1, 1) := by decide +kernel
theorem q60_2 : decode (mB 60) 2 = .ok (.iload_n 1, 1) := by decide +kernel
theorem q60_3 : decode (mB 60) 3 = .ok (.bipush 6, 2) := by decide +kernel
theorem q60_5 : decode (mB 60) 5 = .ok (.if_icmp .ge 14, 3) := by decide +kernel
theorem q60_8 : decode (mB 60) 8 = .ok (.aload_n 0, 1) := by decide +kernel
theorem q60_9 : decode (mB 60) 9 = .ok (.iload_n 1, 1) := by decide +kernel
theorem q60_10 : cfB 60 10 59 61 1 4 1 = true := by decide +kernel
theorem q60_13 : decode (mB 60) 13 = .ok (.iinc 1 1, 3) := by decide +kernel
theorem q60_16 : decode (mB 60) 16 = .ok (.goto (-14), 3) := by decide +kernel
theorem q60_19 : decode (mB 60) 19 = .ok (.return_, 1) := by decide +kernel
theorem q61_0 : decode (mB 61) 0 = .ok (.iload_n 1, 1) := by decide +kernel
theorem q61_1 : cfB 61 1 42 96 0 9 1 = true := by decide +kernel
theorem q61_4 : decode (mB 61) 4 = .ok (.ifCond .ne 4, 3) := by decide +kernel
theorem q61_7 : decode (mB 61) 7 = .ok (.return_, 1) := by decide +kernel
theorem q61_8 : decode (mB 61) 8 = .ok (.iconst 0, 1) := by decide +kernel
theorem q61_9 : decode (mB 61) 9 = .ok (.istore_n 2, 1) := by decide +kernel
theorem q61_10 : decode (mB 61) 10 = .ok (.iconst 0, 1) := by decide +kernel
theorem q61_11 : decode (mB 61) 11 = .ok (.istore_n 3, 1) := by decide +kernel
theorem q61_12 : decode (mB 61) 12 = .ok (.lconst 0, 1) := by decide +kernel
theorem q61_13 : decode (mB 61) 13 = .ok (.lstore 4, 2) := by decide +kernel
theorem q61_15 : decode (mB 61) 15 = .ok (.lconst 0, 1) := by decide +kernel
theorem q61_16 : decode (mB 61) 16 = .ok (.lstore 6, 2) := by decide +kernel
theorem q61_18 : decode (mB 61) 18 = .ok (.iconst 1, 1) := by decide +kernel
theorem q61_19 : decode (mB 61) 19 = .ok (.istore 8, 2) := by decide +kernel
theorem q61_21 : decode (mB 61) 21 = .ok (.sipush (-10000), 3) := by decide +kernel
theorem q61_24 : decode (mB 61) 24 = .ok (.istore 9, 2) := by decide +kernel
theorem q61_26 : decode (mB 61) 26 = .ok (.iconst 0, 1) := by decide +kernel
theorem q61_27 : decode (mB 61) 27 = .ok (.istore 10, 2) := by decide +kernel
theorem q61_29 : decode (mB 61) 29 = .ok (.iload 10, 2) := by decide +kernel
theorem q61_31 : decode (mB 61) 31 = .ok (.aload_n 0, 1) := by decide +kernel
theorem q61_32 : gfB 61 32 34 5 7 = true := by decide +kernel
theorem q61_35 : decode (mB 61) 35 = .ok (.if_icmp .ge 90, 3) := by decide +kernel
theorem q61_38 : decode (mB 61) 38 = .ok (.aload_n 0, 1) := by decide +kernel
theorem q61_39 : decode (mB 61) 39 = .ok (.iload 10, 2) := by decide +kernel
theorem q61_41 : decode (mB 61) 41 = .ok (.iload_n 1, 1) := by decide +kernel
theorem q61_42 : cfB 61 42 55 46 1 4 2 = true := by decide +kernel
theorem q61_45 : decode (mB 61) 45 = .ok (.istore 11, 2) := by decide +kernel
theorem q61_47 : decode (mB 61) 47 = .ok (.iload 11, 2) := by decide +kernel
theorem q61_49 : decode (mB 61) 49 = .ok (.sipush (-10000), 3) := by decide +kernel
theorem q61_52 : decode (mB 61) 52 = .ok (.if_icmp .ne 15, 3) := by decide +kernel
theorem q61_55 : decode (mB 61) 55 = .ok (.lload 6, 2) := by decide +kernel
theorem q61_57 : decode (mB 61) 57 = .ok (.lconst 1, 1) := by decide +kernel
theorem q61_58 : decode (mB 61) 58 = .ok (.iload 10, 2) := by decide +kernel
theorem q61_60 : decode (mB 61) 60 = .ok (.lshl, 1) := by decide +kernel
theorem q61_61 : decode (mB 61) 61 = .ok (.lor, 1) := by decide +kernel
theorem q61_62 : decode (mB 61) 62 = .ok (.lstore 6, 2) := by decide +kernel
theorem q61_64 : decode (mB 61) 64 = .ok (.goto 55, 3) := by decide +kernel
theorem q61_67 : decode (mB 61) 67 = .ok (.iinc 2 1, 3) := by decide +kernel
theorem q61_70 : decode (mB 61) 70 = .ok (.lload 4, 2) := by decide +kernel
theorem q61_72 : decode (mB 61) 72 = .ok (.iload 11, 2) := by decide +kernel
theorem q61_74 : decode (mB 61) 74 = .ok (.i2l, 1) := by decide +kernel
theorem q61_75 : decode (mB 61) 75 = .ok (.ladd, 1) := by decide +kernel
theorem q61_76 : decode (mB 61) 76 = .ok (.lstore 4, 2) := by decide +kernel
theorem q61_78 : decode (mB 61) 78 = .ok (.iload_n 3, 1) := by decide +kernel
theorem q61_79 : decode (mB 61) 79 = .ok (.aload_n 0, 1) := by decide +kernel
theorem q61_80 : decode (mB 61) 80 = .ok (.iload 10, 2) := by decide +kernel
theorem q61_82 : decode (mB 61) 82 = .ok (.iload_n 1, 1) := by decide +kernel
theorem q61_83 : cfB 61 83 63 62 1 4 2 = true := by decide +kernel
theorem q61_86 : decode (mB 61) 86 = .ok (.ifCond .eq 7, 3) := by decide +kernel
theorem q61_89 : decode (mB 61) 89 = .ok (.iconst 1, 1) := by decide +kernel
theorem q61_90 : decode (mB 61) 90 = .ok (.goto 4, 3) := by decide +kernel
theorem q61_93 : decode (mB 61) 93 = .ok (.iconst 0, 1) := by decide +kernel
theorem q61_94 : decode (mB 61) 94 = .ok (.iadd, 1) := by decide +kernel
theorem q61_95 : decode (mB 61) 95 = .ok (.istore_n 3, 1) := by decide +kernel
theorem q61_96 : decode (mB 61) 96 = .ok (.iload 8, 2) := by decide +kernel
theorem q61_98 : decode (mB 61) 98 = .ok (.ifCond .eq 14, 3) := by decide +kernel
theorem q61_101 : decode (mB 61) 101 = .ok (.iload 11, 2) := by decide +kernel
theorem q61_103 : decode (mB 61) 103 = .ok (.iload 9, 2) := by decide +kernel
theorem q61_105 : decode (mB 61) 105 = .ok (.if_icmp .le 7, 3) := by decide +kernel
theorem q61_108 : decode (mB 61) 108 = .ok (.iconst 1, 1) := by decide +kernel
theorem q61_109 : decode (mB 61) 109 = .ok (.goto 4, 3) := by decide +kernel
theorem q61_112 : decode (mB 61) 112 = .ok (.iconst 0, 1) := by decide +kernel
theorem q61_113 : decode (mB 61) 113 = .ok (.istore 8, 2) := by decide +kernel
theorem q61_115 : decode (mB 61) 115 = .ok (.iload 11, 2) := by decide +kernel
theorem q61_117 : decode (mB 61) 117 = .ok (.istore 9, 2) := by decide +kernel
theorem q61_119 : decode (mB 61) 119 = .ok (.iinc 10 1, 3) := by decide +kernel
theorem q61_122 : decode (mB 61) 122 = .ok (.goto (-93), 3) := by decide +kernel
theorem q61_125 : decode (mB 61) 125 = .ok (.aload_n 0, 1) := by decide +kernel
theorem q61_126 : gfB 61 126 21 5 3 = true := by decide +kernel
theorem q61_129 : decode (mB 61) 129 = .ok (.iload_n 1, 1) := by decide +kernel
theorem q61_130 : decode (mB 61) 130 = .ok (.iload_n 2, 1) := by decide +kernel
theorem q61_131 : decode (mB 61) 131 = .ok (.iastore, 1) := by decide +kernel
theorem q61_132 : decode (mB 61) 132 = .ok (.aload_n 0, 1) := by decide +kernel
theorem q61_133 : gfB 61 133 24 5 4 = true := by decide +kernel
theorem q61_136 : decode (mB 61) 136 = .ok (.iload_n 1, 1) := by decide +kernel
theorem q61_137 : decode (mB 61) 137 = .ok (.iload_n 3, 1) := by decide +kernel
theorem q61_138 : decode (mB 61) 138 = .ok (.iastore, 1) := by decide +kernel
theorem q61_139 : decode (mB 61) 139 = .ok (.aload_n 0, 1) := by decide +kernel
theorem q61_140 : gfB 61 140 27 5 5 = true := by decide +kernel
theorem q61_143 : decode (mB 61) 143 = .ok (.iload_n 1, 1) := by decide +kernel
theorem q61_144 : decode (mB 61) 144 = .ok (.lload 4, 2) := by decide +kernel
theorem q61_146 : decode (mB 61) 146 = .ok (.lastore, 1) := by decide +kernel
theorem q61_147 : decode (mB 61) 147 = .ok (.aload_n 0, 1) := by decide +kernel
theorem q61_148 : gfB 61 148 31 5 6 = true := by decide +kernel
theorem q61_151 : decode (mB 61) 151 = .ok (.iload_n 1, 1) := by decide +kernel
theorem q61_152 : decode (mB 61) 152 = .ok (.lload 6, 2) := by decide +kernel
theorem q61_154 : decode (mB 61) 154 = .ok (.lastore, 1) := by decide +kernel
theorem q61_155 : decode (mB 61) 155 = .ok (.aload_n 0, 1) := by decide +kernel
theorem q61_156 : gfB 61 156 18 5 2 = true := by decide +kernel
theorem q61_159 : decode (mB 61) 159 = .ok (.iload_n 1, 1) := by decide +kernel
theorem q61_160 : decode (mB 61) 160 = .ok (.iload_n 2, 1) := by decide +kernel
theorem q61_161 : decode (mB 61) 161 = .ok (.iload_n 3, 1) := by decide +kernel
theorem q61_162 : decode (mB 61) 162 = .ok (.aload_n 0, 1) := by decide +kernel
theorem q61_163 : gfB 61 163 15 5 1 = true := by decide +kernel
theorem q61_166 : decode (mB 61) 166 = .ok (.iload_n 1, 1) := by decide +kernel
theorem q61_167 : decode (mB 61) 167 = .ok (.iaload, 1) := by decide +kernel
theorem q61_168 : decode (mB 61) 168 = .ok (.iload 8, 2) := by decide +kernel
theorem q61_170 : cfB 61 170 67 63 0 4 4 = true := by decide +kernel
theorem q61_173 : decode (mB 61) 173 = .ok (.iastore, 1) := by decide +kernel
theorem q61_174 : decode (mB 61) 174 = .ok (.return_, 1) := by decide +kernel
theorem q62_0 : decode (mB 62) 0 = .ok (.aload_n 0, 1) := by decide +kernel
theorem q62_1 : decode (mB 62) 1 = .ok (.iload_n 1, 1) := by decide +kernel
theorem q62_2 : decode (mB 62) 2 = .ok (.iload_n 2, 1) := by decide +kernel
theorem q62_3 : cfB 62 3 55 46 1 4 2 = true := by decide +kernel
theorem q62_6 : decode (mB 62) 6 = .ok (.istore_n 3, 1) := by decide +kernel
theorem q62_7 : decode (mB 62) 7 = .ok (.iconst 0, 1) := by decide +kernel
theorem q62_8 : decode (mB 62) 8 = .ok (.istore 4, 2) := by decide +kernel
theorem q62_10 : decode (mB 62) 10 = .ok (.iload 4, 2) := by decide +kernel
theorem q62_12 : decode (mB 62) 12 = .ok (.iload_n 1, 1) := by decide +kernel
theorem q62_13 : decode (mB 62) 13 = .ok (.if_icmp .ge 22, 3) := by decide +kernel
theorem q62_16 : decode (mB 62) 16 = .ok (.aload_n 0, 1) := by decide +kernel
theorem q62_17 : decode (mB 62) 17 = .ok (.iload 4, 2) := by decide +kernel
theorem q62_19 : decode (mB 62) 19 = .ok (.iload_n 2, 1) := by decide +kernel
theorem q62_20 : cfB 62 20 55 46 1 4 2 = true := by decide +kernel
theorem q62_23 : decode (mB 62) 23 = .ok (.iload_n 3, 1) := by decide +kernel
theorem q62_24 : decode (mB 62) 24 = .ok (.if_icmp .ne 5, 3) := by decide +kernel
theorem q62_27 : decode (mB 62) 27 = .ok (.iconst 0, 1) := by decide +kernel
theorem q62_28 : decode (mB 62) 28 = .ok (.ireturn, 1) := by decide +kernel
theorem q62_29 : decode (mB 62) 29 = .ok (.iinc 4 1, 3) := by decide +kernel
theorem q62_32 : decode (mB 62) 32 = .ok (.goto (-22), 3) := by decide +kernel
theorem q62_35 : decode (mB 62) 35 = .ok (.iconst 1, 1) := by decide +kernel
theorem q62_36 : decode (mB 62) 36 = .ok (.ireturn, 1) := by decide +kernel
theorem q63_0 : decode (mB 63) 0 = .ok (.iload_n 0, 1) := by decide +kernel
theorem q63_1 : decode (mB 63) 1 = .ok (.ifCond .ne 5, 3) := by decide +kernel
theorem q63_4 : decode (mB 63) 4 = .ok (.iconst 0, 1) := by decide +kernel
theorem q63_5 : decode (mB 63) 5 = .ok (.ireturn, 1) := by decide +kernel
theorem q63_6 : decode (mB 63) 6 = .ok (.iload_n 1, 1) := by decide +kernel
theorem q63_7 : decode (mB 63) 7 = .ok (.iconst 1, 1) := by decide +kernel
theorem q63_8 : decode (mB 63) 8 = .ok (.if_icmp .ne 5, 3) := by decide +kernel
theorem q63_11 : decode (mB 63) 11 = .ok (.iconst 1, 1) := by decide +kernel
theorem q63_12 : decode (mB 63) 12 = .ok (.ireturn, 1) := by decide +kernel
theorem q63_13 : decode (mB 63) 13 = .ok (.iload_n 2, 1) := by decide +kernel
theorem q63_14 : decode (mB 63) 14 = .ok (.iconst (-1), 1) := by decide +kernel
theorem q63_15 : decode (mB 63) 15 = .ok (.if_icmp .eq 5, 3) := by decide +kernel
theorem q63_18 : decode (mB 63) 18 = .ok (.iload_n 2, 1) := by decide +kernel
theorem q63_19 : decode (mB 63) 19 = .ok (.ireturn, 1) := by decide +kernel
theorem q63_20 : decode (mB 63) 20 = .ok (.iload_n 0, 1) := by decide +kernel
theorem q63_21 : decode (mB 63) 21 = .ok (.iconst 4, 1) := by decide +kernel
theorem q63_22 : decode (mB 63) 22 = .ok (.if_icmp .lt 9, 3) := by decide +kernel
theorem q63_25 : decode (mB 63) 25 = .ok (.iload_n 3, 1) := by decide +kernel
theorem q63_26 : decode (mB 63) 26 = .ok (.ifCond .eq 5, 3) := by decide +kernel
theorem q63_29 : decode (mB 63) 29 = .ok (.iconst 2, 1) := by decide +kernel
theorem q63_30 : decode (mB 63) 30 = .ok (.ireturn, 1) := by decide +kernel
theorem q63_31 : decode (mB 63) 31 = .ok (.iload_n 1, 1) := by decide +kernel
theorem q63_32 : decode (mB 63) 32 = .ok (.bipush 6, 2) := by decide +kernel
theorem q63_34 : decode (mB 63) 34 = .ok (.if_icmp .gt 12, 3) := by decide +kernel
theorem q63_37 : decode (mB 63) 37 = .ok (.iload_n 0, 1) := by decide +kernel
theorem q63_38 : decode (mB 63) 38 = .ok (.iconst 2, 1) := by decide +kernel
theorem q63_39 : decode (mB 63) 39 = .ok (.iload_n 1, 1) := by decide +kernel
theorem q63_40 : decode (mB 63) 40 = .ok (.imul, 1) := by decide +kernel
theorem q63_41 : decode (mB 63) 41 = .ok (.if_icmp .lt 5, 3) := by decide +kernel
theorem q63_44 : decode (mB 63) 44 = .ok (.iconst 3, 1) := by decide +kernel
theorem q63_45 : decode (mB 63) 45 = .ok (.ireturn, 1) := by decide +kernel
theorem q63_46 : decode (mB 63) 46 = .ok (.iconst 4, 1) := by decide +kernel
theorem q63_47 : decode (mB 63) 47 = .ok (.ireturn, 1) := by decide +kernel
theorem q64_0 : decode (mB 64) 0 = .ok (.aload_n 0, 1) := by decide +kernel
theorem q64_1 : (decide (64 < 152) && decide (decode (mB 64) 1 = .ok (.invokespecial 3, 3)) && (lks (mD 64)).contains (3, 2, 0, 0) && decide (1 ≤ mV 64)) = true := by decide +kernel
theorem q64_4 : decode (mB 64) 4 = .ok (.aload_n 0, 1) := by decide +kernel
theorem q64_5 : nwB 64 5 9 0 = true := by decide +kernel
theorem q64_8 : decode (mB 64) 8 = .ok (.dup, 1) := by decide +kernel
theorem q64_9 : cfB 64 9 11 0 2 4 0 = true := by decide +kernel
theorem q64_12 : pfB 64 12 12 6 2 = true := by decide +kernel
theorem q64_15 : decode (mB 64) 15 = .ok (.aload_n 0, 1) := by decide +kernel
theorem q64_16 : decode (mB 64) 16 = .ok (.aload_n 1, 1) := by decide +kernel
theorem q64_17 : pfB 64 17 18 6 0 = true := by decide +kernel
theorem q64_20 : decode (mB 64) 20 = .ok (.aload_n 0, 1) := by decide +kernel
theorem q64_21 : decode (mB 64) 21 = .ok (.aload_n 2, 1) := by decide +kernel
theorem q64_22 : pfB 64 22 22 6 1 = true := by decide +kernel
theorem q64_25 : decode (mB 64) 25 = .ok (.aload_n 0, 1) := by decide +kernel
theorem q64_26 : cfB 64 26 26 70 0 4 0 = true := by decide +kernel
theorem q64_29 : pfB 64 29 30 6 3 = true := by decide +kernel
theorem q64_32 : decode (mB 64) 32 = .ok (.return_, 1) := by decide +kernel
theorem q65_0 : decode (mB 65) 0 = .ok (.aload_n 0, 1) := by decide +kernel
theorem q65_1 : gfB 65 1 12 6 2 = true := by decide +kernel
theorem q65_4 : decode (mB 65) 4 = .ok (.areturn, 1) := by decide +kernel
theorem q66_0 : decode (mB 66) 0 = .ok (.aload_n 0, 1) := by decide +kernel
theorem q66_1 : gfB 66 1 34 6 4 = true := by decide +kernel
theorem q66_4 : decode (mB 66) 4 = .ok (.ireturn, 1) := by decide +kernel
theorem q67_0 : decode (mB 67) 0 = .ok (.aload_n 0, 1) := by decide +kernel
theorem q67_1 : decode (mB 67) 1 = .ok (.lconst 0, 1) := by decide +kernel
theorem q67_2 : cfB 67 2 50 68 1 4 1 = true := by decide +kernel
theorem q67_5 : decode (mB 67) 5 = .ok (.return_, 1) := by decide +kernel
theorem q68_0 : decode (mB 68) 0 = .ok (.aload_n 0, 1) := by decide +kernel
theorem q68_1 : gfB 68 1 12 6 2 = true := by decide +kernel
theorem q68_4 : cfB 68 4 57 5 1 4 0 = true := by decide +kernel
theorem q68_7 : decode (mB 68) 7 = .ok (.aload_n 0, 1) := by decide +kernel
theorem q68_8 : decode (mB 68) 8 = .ok (.iconst 0, 1) := by decide +kernel
theorem q68_9 : pfB 68 9 34 6 4 = true := by decide +kernel
theorem q68_12 : decode (mB 68) 12 = .ok (.aload_n 0, 1) := by decide +kernel
theorem q68_13 : decode (mB 68) 13 = .ok (.iconst 0, 1) := by decide +kernel
theorem q68_14 : pfB 68 14 54 6 5 = true := by decide +kernel
theorem q68_17 : decode (mB 68) 17 = .ok (.aload_n 0, 1) := by decide +kernel
theorem q68_18 : gfB 68 18 30 6 3 = true := by decide +kernel
theorem q68_21 : decode (mB 68) 21 = .ok (.astore_n 3, 1) := by decide +kernel
theorem q68_22 : decode (mB 68) 22 = .ok (.aload_n 3, 1) := by decide +kernel
theorem q68_23 : decode (mB 68) 23 = .ok (.arraylength, 1) := by decide +kernel
theorem q68_24 : decode (mB 68) 24 = .ok (.istore 4, 2) := by decide +kernel
theorem q68_26 : decode (mB 68) 26 = .ok (.iconst 0, 1) := by decide +kernel
theorem q68_27 : decode (mB 68) 27 = .ok (.istore 5, 2) := by decide +kernel
theorem q68_29 : decode (mB 68) 29 = .ok (.iload 5, 2) := by decide +kernel
theorem q68_31 : decode (mB 68) 31 = .ok (.iload 4, 2) := by decide +kernel
theorem q68_33 : decode (mB 68) 33 = .ok (.if_icmp .ge 34, 3) := by decide +kernel
theorem q68_36 : decode (mB 68) 36 = .ok (.aload_n 3, 1) := by decide +kernel
theorem q68_37 : decode (mB 68) 37 = .ok (.iload 5, 2) := by decide +kernel
theorem q68_39 : decode (mB 68) 39 = .ok (.iaload, 1) := by decide +kernel
theorem q68_40 : decode (mB 68) 40 = .ok (.istore 6, 2) := by decide +kernel
theorem q68_42 : decode (mB 68) 42 = .ok (.aload_n 0, 1) := by decide +kernel
theorem q68_43 : gfB 68 43 18 6 0 = true := by decide +kernel
theorem q68_46 : decode (mB 68) 46 = .ok (.iload 6, 2) := by decide +kernel
theorem q68_48 : cfB 68 48 60 30 1 4 1 = true := by decide +kernel
theorem q68_51 : decode (mB 68) 51 = .ok (.ifCond .ne 10, 3) := by decide +kernel
theorem q68_54 : decode (mB 68) 54 = .ok (.aload_n 0, 1) := by decide +kernel
theorem q68_55 : decode (mB 68) 55 = .ok (.iload 6, 2) := by decide +kernel
theorem q68_57 : decode (mB 68) 57 = .ok (.lload_n 1, 1) := by decide +kernel
theorem q68_58 : cfB 68 58 66 69 1 4 2 = true := by decide +kernel
theorem q68_61 : decode (mB 68) 61 = .ok (.iinc 5 1, 3) := by decide +kernel
theorem q68_64 : decode (mB 68) 64 = .ok (.goto (-35), 3) := by decide +kernel
theorem q68_67 : decode (mB 68) 67 = .ok (.return_, 1) := by decide +kernel
theorem q69_0 : gsB 69 0 70 0 8 = true := by decide +kernel
theorem q69_3 : decode (mB 69) 3 = .ok (.astore 4, 2) := by decide +kernel
theorem q69_5 : decode (mB 69) 5 = .ok (.aload 4, 2) := by decide +kernel
theorem q69_7 : decode (mB 69) 7 = .ok (.arraylength, 1) := by decide +kernel
theorem q69_8 : decode (mB 69) 8 = .ok (.istore 5, 2) := by decide +kernel
theorem q69_10 : decode (mB 69) 10 = .ok (.iconst 0, 1) := by decide +kernel
theorem q69_11 : decode (mB 69) 11 = .ok (.istore 6, 2) := by decide +kernel
theorem q69_13 : decode (mB 69) 13 = .ok (.iload 6, 2) := by decide +kernel
theorem q69_15 : decode (mB 69) 15 = .ok (.iload 5, 2) := by decide +kernel
theorem q69_17 : decode (mB 69) 17 = .ok (.if_icmp .ge 110, 3) := by decide +kernel
theorem q69_20 : decode (mB 69) 20 = .ok (.aload 4, 2) := by decide +kernel
theorem q69_22 : decode (mB 69) 22 = .ok (.iload 6, 2) := by decide +kernel
theorem q69_24 : decode (mB 69) 24 = .ok (.caload, 1) := by decide +kernel
theorem q69_25 : decode (mB 69) 25 = .ok (.istore 7, 2) := by decide +kernel
theorem q69_27 : decode (mB 69) 27 = .ok (.iconst 0, 1) := by decide +kernel
theorem q69_28 : decode (mB 69) 28 = .ok (.istore 8, 2) := by decide +kernel
theorem q69_30 : decode (mB 69) 30 = .ok (.iload 8, 2) := by decide +kernel
theorem q69_32 : decode (mB 69) 32 = .ok (.iconst 2, 1) := by decide +kernel
theorem q69_33 : decode (mB 69) 33 = .ok (.if_icmp .gt 88, 3) := by decide +kernel
theorem q69_36 : decode (mB 69) 36 = .ok (.iload 7, 2) := by decide +kernel
theorem q69_38 : decode (mB 69) 38 = .ok (.iload 8, 2) := by decide +kernel
theorem q69_40 : cfB 69 40 74 8 0 4 2 = true := by decide +kernel
theorem q69_43 : decode (mB 69) 43 = .ok (.iload_n 1, 1) := by decide +kernel
theorem q69_44 : decode (mB 69) 44 = .ok (.ior, 1) := by decide +kernel
theorem q69_45 : decode (mB 69) 45 = .ok (.istore 9, 2) := by decide +kernel
theorem q69_47 : decode (mB 69) 47 = .ok (.aload_n 0, 1) := by decide +kernel
theorem q69_48 : gfB 69 48 18 6 0 = true := by decide +kernel
theorem q69_51 : decode (mB 69) 51 = .ok (.iload 9, 2) := by decide +kernel
theorem q69_53 : cfB 69 53 80 29 1 4 1 = true := by decide +kernel
theorem q69_56 : decode (mB 69) 56 = .ok (.ifCond .ne 59, 3) := by decide +kernel
theorem q69_59 : decode (mB 69) 59 = .ok (.aload_n 0, 1) := by decide +kernel
theorem q69_60 : gfB 69 60 22 6 1 = true := by decide +kernel
theorem q69_63 : decode (mB 69) 63 = .ok (.iload 9, 2) := by decide +kernel
theorem q69_65 : cfB 69 65 38 19 1 4 1 = true := by decide +kernel
theorem q69_68 : decode (mB 69) 68 = .ok (.iload 9, 2) := by decide +kernel
theorem q69_70 : cfB 69 70 44 34 0 4 2 = true := by decide +kernel
theorem q69_73 : decode (mB 69) 73 = .ok (.lstore 10, 2) := by decide +kernel
theorem q69_75 : decode (mB 69) 75 = .ok (.aload_n 0, 1) := by decide +kernel
theorem q69_76 : decode (mB 69) 76 = .ok (.dup, 1) := by decide +kernel
theorem q69_77 : gfB 69 77 34 6 4 = true := by decide +kernel
theorem q69_80 : decode (mB 69) 80 = .ok (.iconst 1, 1) := by decide +kernel
theorem q69_81 : decode (mB 69) 81 = .ok (.iadd, 1) := by decide +kernel
theorem q69_82 : pfB 69 82 34 6 4 = true := by decide +kernel
theorem q69_85 : decode (mB 69) 85 = .ok (.aload_n 0, 1) := by decide +kernel
theorem q69_86 : decode (mB 69) 86 = .ok (.dup, 1) := by decide +kernel
theorem q69_87 : gfB 69 87 54 6 5 = true := by decide +kernel
theorem q69_90 : decode (mB 69) 90 = .ok (.lload 10, 2) := by decide +kernel
theorem q69_92 : decode (mB 69) 92 = .ok (.lload_n 2, 1) := by decide +kernel
theorem q69_93 : decode (mB 69) 93 = .ok (.lcmp, 1) := by decide +kernel
theorem q69_94 : decode (mB 69) 94 = .ok (.ifCond .ge 7, 3) := by decide +kernel
theorem q69_97 : decode (mB 69) 97 = .ok (.iconst 1, 1) := by decide +kernel
theorem q69_98 : decode (mB 69) 98 = .ok (.goto 4, 3) := by decide +kernel
theorem q69_101 : decode (mB 69) 101 = .ok (.iconst 0, 1) := by decide +kernel
theorem q69_102 : decode (mB 69) 102 = .ok (.iadd, 1) := by decide +kernel
theorem q69_103 : pfB 69 103 54 6 5 = true := by decide +kernel
theorem q69_106 : decode (mB 69) 106 = .ok (.aload_n 0, 1) := by decide +kernel
theorem q69_107 : gfB 69 107 12 6 2 = true := by decide +kernel
theorem q69_110 : decode (mB 69) 110 = .ok (.lload 10, 2) := by decide +kernel
theorem q69_112 : cfB 69 112 83 7 1 4 1 = true := by decide +kernel
theorem q69_115 : decode (mB 69) 115 = .ok (.iinc 8 1, 3) := by decide +kernel
theorem q69_118 : decode (mB 69) 118 = .ok (.goto (-88), 3) := by decide +kernel
theorem q69_121 : decode (mB 69) 121 = .ok (.iinc 6 1, 3) := by decide +kernel
theorem q69_124 : decode (mB 69) 124 = .ok (.goto (-111), 3) := by decide +kernel
theorem q69_127 : decode (mB 69) 127 = .ok (.return_, 1) := by decide +kernel
theorem q70_0 : decode (mB 70) 0 = .ok (.sipush 1045, 3) := by decide +kernel
theorem q70_3 : naB 70 3 0 = true := by decide +kernel
theorem q70_5 : decode (mB 70) 5 = .ok (.astore_n 0, 1) := by decide +kernel
theorem q70_6 : decode (mB 70) 6 = .ok (.iconst 0, 1) := by decide +kernel
theorem q70_7 : decode (mB 70) 7 = .ok (.istore_n 1, 1) := by decide +kernel
theorem q70_8 : decode (mB 70) 8 = .ok (.iconst 0, 1) := by decide +kernel
theorem q70_9 : decode (mB 70) 9 = .ok (.istore_n 2, 1) := by decide +kernel
theorem q70_10 : decode (mB 70) 10 = .ok (.iload_n 2, 1) := by decide +kernel
theorem q70_11 : decode (mB 70) 11 = .ok (.sipush 4096, 3) := by decide +kernel
theorem q70_14 : decode (mB 70) 14 = .ok (.if_icmp .ge 29, 3) := by decide +kernel
theorem q70_17 : decode (mB 70) 17 = .ok (.iload_n 1, 1) := by decide +kernel
theorem q70_18 : decode (mB 70) 18 = .ok (.aload_n 0, 1) := by decide +kernel
theorem q70_19 : decode (mB 70) 19 = .ok (.arraylength, 1) := by decide +kernel
theorem q70_20 : decode (mB 70) 20 = .ok (.if_icmp .ge 17, 3) := by decide +kernel
theorem q70_23 : decode (mB 70) 23 = .ok (.iload_n 2, 1) := by decide +kernel
theorem q70_24 : cfB 70 24 86 15 0 4 1 = true := by decide +kernel
theorem q70_27 : decode (mB 70) 27 = .ok (.ifCond .eq 10, 3) := by decide +kernel
theorem q70_30 : decode (mB 70) 30 = .ok (.aload_n 0, 1) := by decide +kernel
theorem q70_31 : decode (mB 70) 31 = .ok (.iload_n 1, 1) := by decide +kernel
theorem q70_32 : decode (mB 70) 32 = .ok (.iload_n 2, 1) := by decide +kernel
theorem q70_33 : decode (mB 70) 33 = .ok (.iastore, 1) := by decide +kernel
theorem q70_34 : decode (mB 70) 34 = .ok (.iinc 1 1, 3) := by decide +kernel
theorem q70_37 : decode (mB 70) 37 = .ok (.iinc 2 1, 3) := by decide +kernel
theorem q70_40 : decode (mB 70) 40 = .ok (.goto (-30), 3) := by decide +kernel
theorem q70_43 : decode (mB 70) 43 = .ok (.aload_n 0, 1) := by decide +kernel
theorem q70_44 : decode (mB 70) 44 = .ok (.areturn, 1) := by decide +kernel
theorem q71_0 : decode (mB 71) 0 = .ok (.aload_n 0, 1) := by decide +kernel
theorem q71_1 : (decide (71 < 152) && decide (decode (mB 71) 1 = .ok (.invokespecial 1, 3)) && (lks (mD 71)).contains (1, 2, 0, 0) && decide (1 ≤ mV 71)) = true := by decide +kernel
theorem q71_4 : decode (mB 71) 4 = .ok (.aload_n 0, 1) := by decide +kernel
theorem q71_5 : nwB 71 5 7 5 = true := by decide +kernel
theorem q71_8 : decode (mB 71) 8 = .ok (.dup, 1) := by decide +kernel
theorem q71_9 : cfB 71 9 9 43 2 4 0 = true := by decide +kernel
theorem q71_12 : pfB 71 12 10 7 0 = true := by decide +kernel
theorem q71_15 : decode (mB 71) 15 = .ok (.aload_n 0, 1) := by decide +kernel
theorem q71_16 : nwB 71 16 16 2 = true := by decide +kernel
theorem q71_19 : decode (mB 71) 19 = .ok (.dup, 1) := by decide +kernel
theorem q71_20 : decode (mB 71) 20 = .ok (.aload_n 0, 1) := by decide +kernel
theorem q71_21 : gfB 71 21 10 7 0 = true := by decide +kernel
theorem q71_24 : cfB 71 24 18 23 2 4 1 = true := by decide +kernel
theorem q71_27 : pfB 71 27 21 7 1 = true := by decide +kernel
theorem q71_30 : decode (mB 71) 30 = .ok (.aload_n 0, 1) := by decide +kernel
theorem q71_31 : nwB 71 31 25 1 = true := by decide +kernel
theorem q71_34 : decode (mB 71) 34 = .ok (.dup, 1) := by decide +kernel
theorem q71_35 : decode (mB 71) 35 = .ok (.aload_n 0, 1) := by decide +kernel
theorem q71_36 : gfB 71 36 10 7 0 = true := by decide +kernel
theorem q71_39 : cfB 71 39 27 16 2 4 1 = true := by decide +kernel
theorem q71_42 : pfB 71 42 28 7 2 = true := by decide +kernel
theorem q71_45 : decode (mB 71) 45 = .ok (.aload_n 0, 1) := by decide +kernel
theorem q71_46 : nwB 71 46 32 4 = true := by decide +kernel
theorem q71_49 : decode (mB 71) 49 = .ok (.dup, 1) := by decide +kernel
theorem q71_50 : decode (mB 71) 50 = .ok (.aload_n 0, 1) := by decide +kernel
theorem q71_51 : gfB 71 51 21 7 1 = true := by decide +kernel
theorem q71_54 : decode (mB 71) 54 = .ok (.aload_n 0, 1) := by decide +kernel
theorem q71_55 : gfB 71 55 28 7 2 = true := by decide +kernel
theorem q71_58 : cfB 71 58 34 37 2 4 2 = true := by decide +kernel
theorem q71_61 : pfB 71 61 37 7 3 = true := by decide +kernel
theorem q71_64 : decode (mB 71) 64 = .ok (.aload_n 0, 1) := by decide +kernel
theorem q71_65 : nwB 71 65 41 6 = true := by decide +kernel
theorem q71_68 : decode (mB 71) 68 = .ok (.dup, 1) := by decide +kernel
theorem q71_69 : decode (mB 71) 69 = .ok (.aload_n 0, 1) := by decide +kernel
theorem q71_70 : gfB 71 70 21 7 1 = true := by decide +kernel
theorem q71_73 : decode (mB 71) 73 = .ok (.aload_n 0, 1) := by decide +kernel
theorem q71_74 : gfB 71 74 28 7 2 = true := by decide +kernel
theorem q71_77 : cfB 71 77 43 64 2 4 2 = true := by decide +kernel
theorem q71_80 : pfB 71 80 44 7 4 = true := by decide +kernel
theorem q71_83 : decode (mB 71) 83 = .ok (.aload_n 0, 1) := by decide +kernel
theorem q71_84 : nwB 71 84 48 3 = true := by decide +kernel
theorem q71_87 : decode (mB 71) 87 = .ok (.dup, 1) := by decide +kernel
theorem q71_88 : cfB 71 88 50 33 2 4 0 = true := by decide +kernel
theorem q71_91 : pfB 71 91 51 7 5 = true := by decide +kernel
theorem q71_94 : decode (mB 71) 94 = .ok (.aload_n 0, 1) := by decide +kernel
theorem q71_95 : decode (mB 71) 95 = .ok (.iconst 3, 1) := by decide +kernel
theorem q71_96 : pfB 71 96 55 7 6 = true := by decide +kernel
theorem q71_99 : decode (mB 71) 99 = .ok (.aload_n 0, 1) := by decide +kernel
theorem q71_100 : decode (mB 71) 100 = .ok (.bipush 98, 2) := by decide +kernel
theorem q71_102 : decode (mB 71) 102 = .ok (.iconst 0, 1) := by decide +kernel
theorem q71_103 : cfB 71 103 59 8 0 4 2 = true := by decide +kernel
theorem q71_106 : pfB 71 106 65 7 7 = true := by decide +kernel
theorem q71_109 : decode (mB 71) 109 = .ok (.return_, 1) := by decide +kernel
theorem q72_0 : decode (mB 72) 0 = .ok (.iload_n 1, 1) := by decide +kernel
theorem q72_1 : cfB 72 1 68 95 0 4 1 = true := by decide +kernel
theorem q72_4 : decode (mB 72) 4 = .ok (.ifCond .eq 45, 3) := by decide +kernel
theorem q72_7 : decode (mB 72) 7 = .ok (.iload_n 2, 1) := by decide +kernel
theorem q72_8 : cfB 72 8 68 95 0 4 1 = true := by decide +kernel
theorem q72_11 : decode (mB 72) 11 = .ok (.ifCond .eq 38, 3) := by decide +kernel
theorem q72_14 : decode (mB 72) 14 = .ok (.iload_n 3, 1) := by decide +kernel
theorem q72_15 : cfB 72 15 68 95 0 4 1 = true := by decide +kernel
theorem q72_18 : decode (mB 72) 18 = .ok (.ifCond .eq 31, 3) := by decide +kernel
theorem q72_21 : decode (mB 72) 21 = .ok (.iload 4, 2) := by decide +kernel
theorem q72_23 : cfB 72 23 68 95 0 4 1 = true := by decide +kernel
theorem q72_26 : decode (mB 72) 26 = .ok (.ifCond .eq 23, 3) := by decide +kernel
theorem q72_29 : decode (mB 72) 29 = .ok (.iload 5, 2) := by decide +kernel
theorem q72_31 : cfB 72 31 68 95 0 4 1 = true := by decide +kernel
theorem q72_34 : decode (mB 72) 34 = .ok (.ifCond .eq 15, 3) := by decide +kernel
theorem q72_37 : decode (mB 72) 37 = .ok (.iload 6, 2) := by decide +kernel
theorem q72_39 : cfB 72 39 68 95 0 4 1 = true := by decide +kernel
theorem q72_42 : decode (mB 72) 42 = .ok (.ifCond .eq 7, 3) := by decide +kernel
theorem q72_45 : decode (mB 72) 45 = .ok (.iconst 1, 1) := by decide +kernel
theorem q72_46 : decode (mB 72) 46 = .ok (.goto 4, 3) := by decide +kernel
theorem q72_49 : decode (mB 72) 49 = .ok (.iconst 0, 1) := by decide +kernel
theorem q72_50 : decode (mB 72) 50 = .ok (.istore 7, 2) := by decide +kernel
theorem q72_52 : decode (mB 72) 52 = .ok (.iload 7, 2) := by decide +kernel
theorem q72_54 : decode (mB 72) 54 = .ok (.ifCond .ne 13, 3) := by decide +kernel
theorem q72_57 : thI 72 57 0 0 := th_of (ik := 72) (is := 74) (w := false) (by decide +kernel)
theorem q72_67 : decode (mB 72) 67 = .ok (.aload_n 0, 1) := by decide +kernel
theorem q72_68 : gfB 72 68 10 7 0 = true := by decide +kernel
theorem q72_71 : cfB 72 71 79 44 1 4 0 = true := by decide +kernel
theorem q72_74 : decode (mB 72) 74 = .ok (.bipush 40, 2) := by decide +kernel
theorem q72_76 : decode (mB 72) 76 = .ok (.if_icmp .lt 13, 3) := by decide +kernel
theorem q72_79 : thI 72 79 1 1 := th_of (ik := 83) (is := 85) (w := false) (by decide +kernel)
theorem q72_89 : decode (mB 72) 89 = .ok (.aload_n 0, 1) := by decide +kernel
theorem q72_90 : gfB 72 90 10 7 0 = true := by decide +kernel
theorem q72_93 : decode (mB 72) 93 = .ok (.iload_n 1, 1) := by decide +kernel
theorem q72_94 : decode (mB 72) 94 = .ok (.iload_n 2, 1) := by decide +kernel
theorem q72_95 : decode (mB 72) 95 = .ok (.iload_n 3, 1) := by decide +kernel
theorem q72_96 : decode (mB 72) 96 = .ok (.iload 4, 2) := by decide +kernel
theorem q72_98 : decode (mB 72) 98 = .ok (.iload 5, 2) := by decide +kernel
theorem q72_100 : decode (mB 72) 100 = .ok (.iload 6, 2) := by decide +kernel
theorem q72_102 : cfB 72 102 88 55 1 4 6 = true := by decide +kernel
theorem q72_105 : decode (mB 72) 105 = .ok (.aload_n 0, 1) := by decide +kernel
theorem q72_106 : gfB 72 106 37 7 3 = true := by decide +kernel
theorem q72_109 : cfB 72 109 92 38 1 4 0 = true := by decide +kernel
theorem q72_112 : decode (mB 72) 112 = .ok (.aload_n 0, 1) := by decide +kernel
theorem q72_113 : gfB 72 113 10 7 0 = true := by decide +kernel
theorem q72_116 : cfB 72 116 79 44 1 4 0 = true := by decide +kernel
theorem q72_119 : decode (mB 72) 119 = .ok (.ireturn, 1) := by decide +kernel
theorem q73_0 : decode (mB 73) 0 = .ok (.aload_n 0, 1) := by decide +kernel
theorem q73_1 : gfB 73 1 10 7 0 = true := by decide +kernel
theorem q73_4 : decode (mB 73) 4 = .ok (.iload_n 1, 1) := by decide +kernel
theorem q73_5 : cfB 73 5 95 45 1 4 1 = true := by decide +kernel
theorem q73_8 : decode (mB 73) 8 = .ok (.ifCond .ne 13, 3) := by decide +kernel
theorem q73_11 : thI 73 11 2 2 := th_of (ik := 98) (is := 100) (w := false) (by decide +kernel)
theorem q73_21 : decode (mB 73) 21 = .ok (.aload_n 0, 1) := by decide +kernel
theorem q73_22 : gfB 73 22 10 7 0 = true := by decide +kernel
theorem q73_25 : decode (mB 73) 25 = .ok (.iload_n 1, 1) := by decide +kernel
theorem q73_26 : cfB 73 26 103 56 1 4 1 = true := by decide +kernel
theorem q73_29 : decode (mB 73) 29 = .ok (.aload_n 0, 1) := by decide +kernel
theorem q73_30 : gfB 73 30 37 7 3 = true := by decide +kernel
theorem q73_33 : cfB 73 33 92 38 1 4 0 = true := by decide +kernel
theorem q73_36 : decode (mB 73) 36 = .ok (.aload_n 0, 1) := by decide +kernel
theorem q73_37 : gfB 73 37 10 7 0 = true := by decide +kernel
theorem q73_40 : cfB 73 40 79 44 1 4 0 = true := by decide +kernel
theorem q73_43 : decode (mB 73) 43 = .ok (.ireturn, 1) := by decide +kernel
theorem q74_0 : decode (mB 74) 0 = .ok (.aload_n 0, 1) := by decide +kernel
theorem q74_1 : gfB 74 1 10 7 0 = true := by decide +kernel
theorem q74_4 : decode (mB 74) 4 = .ok (.iload_n 1, 1) := by decide +kernel
theorem q74_5 : cfB 74 5 95 45 1 4 1 = true := by decide +kernel
theorem q74_8 : decode (mB 74) 8 = .ok (.ifCond .eq 10, 3) := by decide +kernel
theorem q74_11 : decode (mB 74) 11 = .ok (.iload_n 2, 1) := by decide +kernel
theorem q74_12 : cfB 74 12 107 96 0 4 1 = true := by decide +kernel
theorem q74_15 : decode (mB 74) 15 = .ok (.ifCond .ne 13, 3) := by decide +kernel
theorem q74_18 : thI 74 18 2 3 := th_of (ik := 98) (is := 110) (w := false) (by decide +kernel)
theorem q74_28 : decode (mB 74) 28 = .ok (.iload_n 3, 1) := by decide +kernel
theorem q74_29 : cfB 74 29 68 95 0 4 1 = true := by decide +kernel
theorem q74_32 : decode (mB 74) 32 = .ok (.ifCond .ne 13, 3) := by decide +kernel
theorem q74_35 : thI 74 35 0 4 := th_of (ik := 72) (is := 112) (w := false) (by decide +kernel)
theorem q74_45 : decode (mB 74) 45 = .ok (.aload_n 0, 1) := by decide +kernel
theorem q74_46 : gfB 74 46 10 7 0 = true := by decide +kernel
theorem q74_49 : decode (mB 74) 49 = .ok (.iload_n 1, 1) := by decide +kernel
theorem q74_50 : decode (mB 74) 50 = .ok (.iload_n 2, 1) := by decide +kernel
theorem q74_51 : cfB 74 51 114 46 1 4 2 = true := by decide +kernel
theorem q74_54 : decode (mB 74) 54 = .ok (.istore 4, 2) := by decide +kernel
theorem q74_56 : decode (mB 74) 56 = .ok (.aload_n 0, 1) := by decide +kernel
theorem q74_57 : gfB 74 57 10 7 0 = true := by decide +kernel
theorem q74_60 : decode (mB 74) 60 = .ok (.iload_n 1, 1) := by decide +kernel
theorem q74_61 : decode (mB 74) 61 = .ok (.iload_n 2, 1) := by decide +kernel
theorem q74_62 : decode (mB 74) 62 = .ok (.iload_n 3, 1) := by decide +kernel
theorem q74_63 : cfB 74 63 118 57 1 4 3 = true := by decide +kernel
theorem q74_66 : decode (mB 74) 66 = .ok (.aload_n 0, 1) := by decide +kernel
theorem q74_67 : gfB 74 67 37 7 3 = true := by decide +kernel
theorem q74_70 : cfB 74 70 92 38 1 4 0 = true := by decide +kernel
theorem q74_73 : decode (mB 74) 73 = .ok (.iload 4, 2) := by decide +kernel
theorem q74_75 : decode (mB 74) 75 = .ok (.ireturn, 1) := by decide +kernel
theorem q75_0 : decode (mB 75) 0 = .ok (.aload_n 0, 1) := by decide +kernel
theorem q75_1 : gfB 75 1 10 7 0 = true := by decide +kernel
theorem q75_4 : cfB 75 4 79 44 1 4 0 = true := by decide +kernel
theorem q75_7 : decode (mB 75) 7 = .ok (.ireturn, 1) := by decide +kernel
theorem q76_0 : decode (mB 76) 0 = .ok (.iload_n 1, 1) := by decide +kernel
theorem q76_1 : cfB 76 1 122 99 0 4 1 = true := by decide +kernel
theorem q76_4 : decode (mB 76) 4 = .ok (.aload_n 0, 1) := by decide +kernel
theorem q76_5 : gfB 76 5 10 7 0 = true := by decide +kernel
theorem q76_8 : decode (mB 76) 8 = .ok (.iload_n 1, 1) := by decide +kernel
theorem q76_9 : cfB 76 9 125 50 1 4 1 = true := by decide +kernel
theorem q76_12 : decode (mB 76) 12 = .ok (.ireturn, 1) := by decide +kernel
theorem q77_0 : decode (mB 77) 0 = .ok (.iload_n 1, 1) := by decide +kernel
theorem q77_1 : cfB 77 1 122 99 0 4 1 = true := by decide +kernel
theorem q77_4 : decode (mB 77) 4 = .ok (.aload_n 0, 1) := by decide +kernel
theorem q77_5 : gfB 77 5 10 7 0 = true := by decide +kernel
theorem q77_8 : decode (mB 77) 8 = .ok (.iload_n 1, 1) := by decide +kernel
theorem q77_9 : cfB 77 9 129 51 1 4 1 = true := by decide +kernel
theorem q77_12 : decode (mB 77) 12 = .ok (.lreturn, 1) := by decide +kernel
theorem q78_0 : decode (mB 78) 0 = .ok (.iload_n 1, 1) := by decide +kernel
theorem q78_1 : cfB 78 1 122 99 0 4 1 = true := by decide +kernel
theorem q78_4 : decode (mB 78) 4 = .ok (.aload_n 0, 1) := by decide +kernel
theorem q78_5 : gfB 78 5 10 7 0 = true := by decide +kernel
theorem q78_8 : decode (mB 78) 8 = .ok (.iload_n 1, 1) := by decide +kernel
theorem q78_9 : cfB 78 9 133 49 1 4 1 = true := by decide +kernel
theorem q78_12 : decode (mB 78) 12 = .ok (.istore_n 2, 1) := by decide +kernel
theorem q78_13 : decode (mB 78) 13 = .ok (.iload_n 2, 1) := by decide +kernel
theorem q78_14 : decode (mB 78) 14 = .ok (.ifCond .ne 13, 3) := by decide +kernel
theorem q78_17 : thI 78 17 3 6 := th_of (ik := 136) (is := 138) (w := false) (by decide +kernel)
theorem q78_27 : decode (mB 78) 27 = .ok (.aload_n 0, 1) := by decide +kernel
theorem q78_28 : gfB 78 28 10 7 0 = true := by decide +kernel
theorem q78_31 : decode (mB 78) 31 = .ok (.iload_n 1, 1) := by decide +kernel
theorem q78_32 : cfB 78 32 129 51 1 4 1 = true := by decide +kernel
theorem q78_35 : decode (mB 78) 35 = .ok (.l2d, 1) := by decide +kernel
theorem q78_36 : decode (mB 78) 36 = .ok (.iload_n 2, 1) := by decide +kernel
theorem q78_37 : decode (mB 78) 37 = .ok (.i2d, 1) := by decide +kernel
theorem q78_38 : decode (mB 78) 38 = .ok (.ddiv, 1) := by decide +kernel
theorem q78_39 : decode (mB 78) 39 = .ok (.dreturn, 1) := by decide +kernel
theorem q79_0 : decode (mB 79) 0 = .ok (.iload_n 1, 1) := by decide +kernel
theorem q79_1 : cfB 79 1 122 99 0 4 1 = true := by decide +kernel
theorem q79_4 : decode (mB 79) 4 = .ok (.aload_n 0, 1) := by decide +kernel
theorem q79_5 : gfB 79 5 10 7 0 = true := by decide +kernel
theorem q79_8 : cfB 79 8 79 44 1 4 0 = true := by decide +kernel
theorem q79_11 : decode (mB 79) 11 = .ok (.istore_n 2, 1) := by decide +kernel
theorem q79_12 : decode (mB 79) 12 = .ok (.iload_n 2, 1) := by decide +kernel
theorem q79_13 : decode (mB 79) 13 = .ok (.ifCond .ne 13, 3) := by decide +kernel
theorem q79_16 : thI 79 16 3 7 := th_of (ik := 136) (is := 141) (w := false) (by decide +kernel)
theorem q79_26 : decode (mB 79) 26 = .ok (.aload_n 0, 1) := by decide +kernel
theorem q79_27 : gfB 79 27 10 7 0 = true := by decide +kernel
theorem q79_30 : decode (mB 79) 30 = .ok (.iload_n 1, 1) := by decide +kernel
theorem q79_31 : cfB 79 31 133 49 1 4 1 = true := by decide +kernel
theorem q79_34 : decode (mB 79) 34 = .ok (.i2f, 1) := by decide +kernel
theorem q79_35 : decode (mB 79) 35 = .ok (.iload_n 2, 1) := by decide +kernel
theorem q79_36 : decode (mB 79) 36 = .ok (.i2f, 1) := by decide +kernel
theorem q79_37 : decode (mB 79) 37 = .ok (.fdiv, 1) := by decide +kernel
theorem q79_38 : decode (mB 79) 38 = .ok (.freturn, 1) := by decide +kernel
theorem q80_0 : decode (mB 80) 0 = .ok (.iload_n 1, 1) := by decide +kernel
theorem q80_1 : cfB 80 1 122 99 0 4 1 = true := by decide +kernel
theorem q80_4 : decode (mB 80) 4 = .ok (.aload_n 0, 1) := by decide +kernel
theorem q80_5 : gfB 80 5 10 7 0 = true := by decide +kernel
theorem q80_8 : decode (mB 80) 8 = .ok (.iload_n 1, 1) := by decide +kernel
theorem q80_9 : cfB 80 9 143 47 1 4 1 = true := by decide +kernel
theorem q80_12 : decode (mB 80) 12 = .ok (.ireturn, 1) := by decide +kernel
theorem q81_0 : decode (mB 81) 0 = .ok (.iload_n 1, 1) := by decide +kernel
theorem q81_1 : cfB 81 1 122 99 0 4 1 = true := by decide +kernel
theorem q81_4 : decode (mB 81) 4 = .ok (.iload_n 2, 1) := by decide +kernel
theorem q81_5 : decode (mB 81) 5 = .ok (.iconst 2, 1) := by decide +kernel
theorem q81_6 : decode (mB 81) 6 = .ok (.if_icmp .eq 23, 3) := by decide +kernel
theorem q81_9 : decode (mB 81) 9 = .ok (.iload_n 2, 1) := by decide +kernel
theorem q81_10 : decode (mB 81) 10 = .ok (.iconst 3, 1) := by decide +kernel
theorem q81_11 : decode (mB 81) 11 = .ok (.if_icmp .eq 18, 3) := by decide +kernel
theorem q81_14 : decode (mB 81) 14 = .ok (.iload_n 2, 1) := by decide +kernel
theorem q81_15 : decode (mB 81) 15 = .ok (.iconst 4, 1) := by decide +kernel
theorem q81_16 : decode (mB 81) 16 = .ok (.if_icmp .eq 13, 3) := by decide +kernel
theorem q81_19 : thI 81 19 0 8 := th_of (ik := 72) (is := 146) (w := false) (by decide +kernel)
theorem q81_29 : decode (mB 81) 29 = .ok (.aload_n 0, 1) := by decide +kernel
theorem q81_30 : gfB 81 30 10 7 0 = true := by decide +kernel
theorem q81_33 : decode (mB 81) 33 = .ok (.iload_n 1, 1) := by decide +kernel
theorem q81_34 : decode (mB 81) 34 = .ok (.iload_n 2, 1) := by decide +kernel
theorem q81_35 : cfB 81 35 148 58 1 4 2 = true := by decide +kernel
theorem q81_38 : decode (mB 81) 38 = .ok (.aload_n 0, 1) := by decide +kernel
theorem q81_39 : gfB 81 39 37 7 3 = true := by decide +kernel
theorem q81_42 : cfB 81 42 92 38 1 4 0 = true := by decide +kernel
theorem q81_45 : decode (mB 81) 45 = .ok (.aload_n 0, 1) := by decide +kernel
theorem q81_46 : gfB 81 46 10 7 0 = true := by decide +kernel
theorem q81_49 : decode (mB 81) 49 = .ok (.iload_n 1, 1) := by decide +kernel
theorem q81_50 : cfB 81 50 143 47 1 4 1 = true := by decide +kernel
theorem q81_53 : decode (mB 81) 53 = .ok (.ireturn, 1) := by decide +kernel
theorem q82_0 : decode (mB 82) 0 = .ok (.iload_n 1, 1) := by decide +kernel
theorem q82_1 : cfB 82 1 122 99 0 4 1 = true := by decide +kernel
theorem q82_4 : decode (mB 82) 4 = .ok (.aload_n 0, 1) := by decide +kernel
theorem q82_5 : gfB 82 5 10 7 0 = true := by decide +kernel
theorem q82_8 : decode (mB 82) 8 = .ok (.iload_n 1, 1) := by decide +kernel
theorem q82_9 : cfB 82 9 152 48 1 4 1 = true := by decide +kernel
theorem q82_12 : decode (mB 82) 12 = .ok (.iconst (-1), 1) := by decide +kernel
theorem q82_13 : decode (mB 82) 13 = .ok (.if_icmp .ne 13, 3) := by decide +kernel
theorem q82_16 : thI 82 16 1 9 := th_of (ik := 83) (is := 155) (w := false) (by decide +kernel)
theorem q82_26 : decode (mB 82) 26 = .ok (.aload_n 0, 1) := by decide +kernel
theorem q82_27 : gfB 82 27 10 7 0 = true := by decide +kernel
theorem q82_30 : decode (mB 82) 30 = .ok (.iload_n 1, 1) := by decide +kernel
theorem q82_31 : decode (mB 82) 31 = .ok (.iconst (-1), 1) := by decide +kernel
theorem q82_32 : cfB 82 32 148 58 1 4 2 = true := by decide +kernel
theorem q82_35 : decode (mB 82) 35 = .ok (.aload_n 0, 1) := by decide +kernel
theorem q82_36 : gfB 82 36 37 7 3 = true := by decide +kernel
theorem q82_39 : cfB 82 39 92 38 1 4 0 = true := by decide +kernel
theorem q82_42 : decode (mB 82) 42 = .ok (.aload_n 0, 1) := by decide +kernel
theorem q82_43 : gfB 82 43 10 7 0 = true := by decide +kernel
theorem q82_46 : decode (mB 82) 46 = .ok (.iload_n 1, 1) := by decide +kernel
theorem q82_47 : cfB 82 47 143 47 1 4 1 = true := by decide +kernel
theorem q82_50 : decode (mB 82) 50 = .ok (.ireturn, 1) := by decide +kernel
theorem q83_0 : decode (mB 83) 0 = .ok (.iload_n 1, 1) := by decide +kernel
theorem q83_1 : cfB 83 1 122 99 0 4 1 = true := by decide +kernel
theorem q83_4 : decode (mB 83) 4 = .ok (.aload_n 0, 1) := by decide +kernel
theorem q83_5 : gfB 83 5 37 7 3 = true := by decide +kernel
theorem q83_8 : cfB 83 8 92 38 1 4 0 = true := by decide +kernel
theorem q83_11 : decode (mB 83) 11 = .ok (.aload_n 0, 1) := by decide +kernel
theorem q83_12 : gfB 83 12 21 7 1 = true := by decide +kernel
theorem q83_15 : decode (mB 83) 15 = .ok (.iload_n 1, 1) := by decide +kernel
theorem q83_16 : decode (mB 83) 16 = .ok (.iload_n 2, 1) := by decide +kernel
theorem q83_17 : cfB 83 17 157 24 1 4 2 = true := by decide +kernel
theorem q83_20 : decode (mB 83) 20 = .ok (.ireturn, 1) := by decide +kernel
theorem q84_0 : decode (mB 84) 0 = .ok (.iload_n 1, 1) := by decide +kernel
theorem q84_1 : cfB 84 1 161 98 0 4 1 = true := by decide +kernel
theorem q84_4 : decode (mB 84) 4 = .ok (.ifCond .ne 19, 3) := by decide +kernel
theorem q84_7 : decode (mB 84) 7 = .ok (.iload_n 1, 1) := by decide +kernel
theorem q84_8 : decode (mB 84) 8 = .ok (.bipush 45, 2) := by decide +kernel
theorem q84_10 : decode (mB 84) 10 = .ok (.if_icmp .eq 13, 3) := by decide +kernel
theorem q84_13 : thI 84 13 0 10 := th_of (ik := 72) (is := 165) (w := false) (by decide +kernel)
theorem q84_23 : decode (mB 84) 23 = .ok (.aload_n 0, 1) := by decide +kernel
theorem q84_24 : gfB 84 24 37 7 3 = true := by decide +kernel
theorem q84_27 : cfB 84 27 92 38 1 4 0 = true := by decide +kernel
theorem q84_30 : decode (mB 84) 30 = .ok (.aload_n 0, 1) := by decide +kernel
theorem q84_31 : gfB 84 31 21 7 1 = true := by decide +kernel
theorem q84_34 : decode (mB 84) 34 = .ok (.iload_n 1, 1) := by decide +kernel
theorem q84_35 : cfB 84 35 167 25 1 4 1 = true := by decide +kernel
theorem q84_38 : decode (mB 84) 38 = .ok (.ireturn, 1) := by decide +kernel
theorem q85_0 : decode (mB 85) 0 = .ok (.iload_n 1, 1) := by decide +kernel
theorem q85_1 : decode (mB 85) 1 = .ok (.iload_n 2, 1) := by decide +kernel
theorem q85_2 : cfB 85 2 171 101 0 4 2 = true := by decide +kernel
theorem q85_5 : decode (mB 85) 5 = .ok (.aload_n 0, 1) := by decide +kernel
theorem q85_6 : gfB 85 6 21 7 1 = true := by decide +kernel
theorem q85_9 : decode (mB 85) 9 = .ok (.iload_n 1, 1) := by decide +kernel
theorem q85_10 : decode (mB 85) 10 = .ok (.iload_n 2, 1) := by decide +kernel
theorem q85_11 : cfB 85 11 174 26 1 4 2 = true := by decide +kernel
theorem q85_14 : decode (mB 85) 14 = .ok (.ifCond .eq 13, 3) := by decide +kernel
theorem q85_17 : thI 85 17 1 12 := th_of (ik := 83) (is := 178) (w := false) (by decide +kernel)
theorem q85_27 : decode (mB 85) 27 = .ok (.aload_n 0, 1) := by decide +kernel
theorem q85_28 : gfB 85 28 37 7 3 = true := by decide +kernel
theorem q85_31 : cfB 85 31 92 38 1 4 0 = true := by decide +kernel
theorem q85_34 : decode (mB 85) 34 = .ok (.aload_n 0, 1) := by decide +kernel
theorem q85_35 : gfB 85 35 21 7 1 = true := by decide +kernel
theorem q85_38 : decode (mB 85) 38 = .ok (.iload_n 1, 1) := by decide +kernel
theorem q85_39 : decode (mB 85) 39 = .ok (.iload_n 2, 1) := by decide +kernel
theorem q85_40 : cfB 85 40 180 27 1 4 2 = true := by decide +kernel
theorem q85_43 : decode (mB 85) 43 = .ok (.ireturn, 1) := by decide +kernel
theorem q86_0 : decode (mB 86) 0 = .ok (.iload_n 1, 1) := by decide +kernel
theorem q86_1 : decode (mB 86) 1 = .ok (.iload_n 2, 1) := by decide +kernel
theorem q86_2 : cfB 86 2 171 101 0 4 2 = true := by decide +kernel
theorem q86_5 : decode (mB 86) 5 = .ok (.aload_n 0, 1) := by decide +kernel
theorem q86_6 : gfB 86 6 21 7 1 = true := by decide +kernel
theorem q86_9 : decode (mB 86) 9 = .ok (.iload_n 1, 1) := by decide +kernel
theorem q86_10 : decode (mB 86) 10 = .ok (.iload_n 2, 1) := by decide +kernel
theorem q86_11 : cfB 86 11 174 26 1 4 2 = true := by decide +kernel
theorem q86_14 : decode (mB 86) 14 = .ok (.ifCond .ne 13, 3) := by decide +kernel
theorem q86_17 : thI 86 17 1 13 := th_of (ik := 83) (is := 183) (w := false) (by decide +kernel)
theorem q86_27 : decode (mB 86) 27 = .ok (.aload_n 0, 1) := by decide +kernel
theorem q86_28 : gfB 86 28 37 7 3 = true := by decide +kernel
theorem q86_31 : cfB 86 31 92 38 1 4 0 = true := by decide +kernel
theorem q86_34 : decode (mB 86) 34 = .ok (.aload_n 0, 1) := by decide +kernel
theorem q86_35 : gfB 86 35 21 7 1 = true := by decide +kernel
theorem q86_38 : decode (mB 86) 38 = .ok (.iload_n 1, 1) := by decide +kernel
theorem q86_39 : decode (mB 86) 39 = .ok (.iload_n 2, 1) := by decide +kernel
theorem q86_40 : cfB 86 40 180 27 1 4 2 = true := by decide +kernel
theorem q86_43 : decode (mB 86) 43 = .ok (.ireturn, 1) := by decide +kernel
theorem q87_0 : decode (mB 87) 0 = .ok (.aload_n 0, 1) := by decide +kernel
theorem q87_1 : gfB 87 1 28 7 2 = true := by decide +kernel
theorem q87_4 : decode (mB 87) 4 = .ok (.iload_n 1, 1) := by decide +kernel
theorem q87_5 : cfB 87 5 185 17 1 4 1 = true := by decide +kernel
theorem q87_8 : decode (mB 87) 8 = .ok (.ifCond .ne 13, 3) := by decide +kernel
theorem q87_11 : thI 87 11 2 14 := th_of (ik := 98) (is := 188) (w := false) (by decide +kernel)
theorem q87_21 : decode (mB 87) 21 = .ok (.iload_n 2, 1) := by decide +kernel
theorem q87_22 : decode (mB 87) 22 = .ok (.ifCond .lt 9, 3) := by decide +kernel
theorem q87_25 : decode (mB 87) 25 = .ok (.iload_n 2, 1) := by decide +kernel
theorem q87_26 : decode (mB 87) 26 = .ok (.bipush 99, 2) := by decide +kernel
theorem q87_28 : decode (mB 87) 28 = .ok (.if_icmp .le 13, 3) := by decide +kernel
theorem q87_31 : thI 87 31 0 15 := th_of (ik := 72) (is := 190) (w := false) (by decide +kernel)
theorem q87_41 : decode (mB 87) 41 = .ok (.aload_n 0, 1) := by decide +kernel
theorem q87_42 : gfB 87 42 37 7 3 = true := by decide +kernel
theorem q87_45 : cfB 87 45 92 38 1 4 0 = true := by decide +kernel
theorem q87_48 : decode (mB 87) 48 = .ok (.aload_n 0, 1) := by decide +kernel
theorem q87_49 : gfB 87 49 28 7 2 = true := by decide +kernel
theorem q87_52 : decode (mB 87) 52 = .ok (.iload_n 1, 1) := by decide +kernel
theorem q87_53 : decode (mB 87) 53 = .ok (.iload_n 2, 1) := by decide +kernel
theorem q87_54 : cfB 87 54 192 18 1 4 2 = true := by decide +kernel
theorem q87_57 : decode (mB 87) 57 = .ok (.ireturn, 1) := by decide +kernel
theorem q88_0 : decode (mB 88) 0 = .ok (.aload_n 0, 1) := by decide +kernel
theorem q88_1 : gfB 88 1 44 7 4 = true := by decide +kernel
theorem q88_4 : cfB 88 4 195 67 1 4 0 = true := by decide +kernel
theorem q88_7 : decode (mB 88) 7 = .ok (.aload_n 0, 1) := by decide +kernel
theorem q88_8 : gfB 88 8 44 7 4 = true := by decide +kernel
theorem q88_11 : cfB 88 11 198 66 1 4 0 = true := by decide +kernel
theorem q88_14 : decode (mB 88) 14 = .ok (.ireturn, 1) := by decide +kernel
theorem q89_0 : decode (mB 89) 0 = .ok (.aload_n 0, 1) := by decide +kernel
theorem q89_1 : gfB 89 1 37 7 3 = true := by decide +kernel
theorem q89_4 : cfB 89 4 201 39 1 4 0 = true := by decide +kernel
theorem q89_7 : decode (mB 89) 7 = .ok (.astore_n 2, 1) := by decide +kernel
theorem q89_8 : decode (mB 89) 8 = .ok (.aload_n 2, 1) := by decide +kernel
theorem q89_9 : decode (mB 89) 9 = .ok (.iload_n 1, 1) := by decide +kernel
theorem q89_10 : cfB 89 10 205 102 0 4 2 = true := by decide +kernel
theorem q89_13 : decode (mB 89) 13 = .ok (.aload_n 2, 1) := by decide +kernel
theorem q89_14 : decode (mB 89) 14 = .ok (.iload_n 1, 1) := by decide +kernel
theorem q89_15 : cfB 89 15 209 3 1 4 1 = true := by decide +kernel
theorem q89_18 : cfB 89 18 214 35 0 4 1 = true := by decide +kernel
theorem q89_21 : decode (mB 89) 21 = .ok (.ireturn, 1) := by decide +kernel
theorem q90_0 : decode (mB 90) 0 = .ok (.aload_n 0, 1) := by decide +kernel
theorem q90_1 : gfB 90 1 10 7 0 = true := by decide +kernel
theorem q90_4 : cfB 90 4 220 54 1 4 0 = true := by decide +kernel
theorem q90_7 : decode (mB 90) 7 = .ok (.iconst 3, 1) := by decide +kernel
theorem q90_8 : decode (mB 90) 8 = .ok (.if_icmp .le 13, 3) := by decide +kernel
theorem q90_11 : thI 90 11 5 17 := th_of (ik := 223) (is := 225) (w := false) (by decide +kernel)
theorem q90_21 : decode (mB 90) 21 = .ok (.aload_n 0, 1) := by decide +kernel
theorem q90_22 : gfB 90 22 44 7 4 = true := by decide +kernel
theorem q90_25 : cfB 90 25 195 67 1 4 0 = true := by decide +kernel
theorem q90_28 : decode (mB 90) 28 = .ok (.aload_n 0, 1) := by decide +kernel
theorem q90_29 : gfB 90 29 44 7 4 = true := by decide +kernel
theorem q90_32 : cfB 90 32 228 65 1 4 0 = true := by decide +kernel
theorem q90_35 : decode (mB 90) 35 = .ok (.astore_n 2, 1) := by decide +kernel
theorem q90_36 : decode (mB 90) 36 = .ok (.aload_n 2, 1) := by decide +kernel
theorem q90_37 : decode (mB 90) 37 = .ok (.iload_n 1, 1) := by decide +kernel
theorem q90_38 : cfB 90 38 205 102 0 4 2 = true := by decide +kernel
theorem q90_41 : decode (mB 90) 41 = .ok (.aload_n 2, 1) := by decide +kernel
theorem q90_42 : decode (mB 90) 42 = .ok (.iload_n 1, 1) := by decide +kernel
theorem q90_43 : cfB 90 43 209 3 1 4 1 = true := by decide +kernel
theorem q90_46 : cfB 90 46 214 35 0 4 1 = true := by decide +kernel
theorem q90_49 : decode (mB 90) 49 = .ok (.ireturn, 1) := by decide +kernel
theorem q91_0 : decode (mB 91) 0 = .ok (.aload_n 0, 1) := by decide +kernel
theorem q91_1 : gfB 91 1 37 7 3 = true := by decide +kernel
theorem q91_4 : cfB 91 4 201 39 1 4 0 = true := by decide +kernel
theorem q91_7 : decode (mB 91) 7 = .ok (.astore_n 2, 1) := by decide +kernel
theorem q91_8 : decode (mB 91) 8 = .ok (.aload_n 2, 1) := by decide +kernel
theorem q91_9 : decode (mB 91) 9 = .ok (.iload_n 1, 1) := by decide +kernel
theorem q91_10 : cfB 91 10 205 102 0 4 2 = true := by decide +kernel
theorem q91_13 : decode (mB 91) 13 = .ok (.aload_n 2, 1) := by decide +kernel
theorem q91_14 : decode (mB 91) 14 = .ok (.iload_n 1, 1) := by decide +kernel
theorem q91_15 : cfB 91 15 229 4 1 4 1 = true := by decide +kernel
theorem q91_18 : cfB 91 18 232 9 0 4 1 = true := by decide +kernel
theorem q91_21 : decode (mB 91) 21 = .ok (.ireturn, 1) := by decide +kernel
theorem q92_0 : decode (mB 92) 0 = .ok (.aload_n 0, 1) := by decide +kernel
theorem q92_1 : gfB 92 1 37 7 3 = true := by decide +kernel
theorem q92_4 : cfB 92 4 201 39 1 4 0 = true := by decide +kernel
theorem q92_7 : decode (mB 92) 7 = .ok (.astore_n 2, 1) := by decide +kernel
theorem q92_8 : decode (mB 92) 8 = .ok (.aload_n 2, 1) := by decide +kernel
theorem q92_9 : decode (mB 92) 9 = .ok (.iload_n 1, 1) := by decide +kernel
theorem q92_10 : cfB 92 10 205 102 0 4 2 = true := by decide +kernel
theorem q92_13 : decode (mB 92) 13 = .ok (.aload_n 2, 1) := by decide +kernel
theorem q92_14 : decode (mB 92) 14 = .ok (.iload_n 1, 1) := by decide +kernel
theorem q92_15 : cfB 92 15 229 4 1 4 1 = true := by decide +kernel
theorem q92_18 : cfB 92 18 236 10 0 4 1 = true := by decide +kernel
theorem q92_21 : decode (mB 92) 21 = .ok (.ireturn, 1) := by decide +kernel
theorem q93_0 : decode (mB 93) 0 = .ok (.aload_n 0, 1) := by decide +kernel
theorem q93_1 : gfB 93 1 37 7 3 = true := by decide +kernel
theorem q93_4 : cfB 93 4 201 39 1 4 0 = true := by decide +kernel
theorem q93_7 : decode (mB 93) 7 = .ok (.astore_n 3, 1) := by decide +kernel
theorem q93_8 : decode (mB 93) 8 = .ok (.aload_n 3, 1) := by decide +kernel
theorem q93_9 : decode (mB 93) 9 = .ok (.iload_n 1, 1) := by decide +kernel
theorem q93_10 : cfB 93 10 205 102 0 4 2 = true := by decide +kernel
theorem q93_13 : decode (mB 93) 13 = .ok (.iload_n 2, 1) := by decide +kernel
theorem q93_14 : cfB 93 14 239 100 0 4 1 = true := by decide +kernel
theorem q93_17 : decode (mB 93) 17 = .ok (.aload_n 3, 1) := by decide +kernel
theorem q93_18 : decode (mB 93) 18 = .ok (.iload_n 1, 1) := by decide +kernel
theorem q93_19 : cfB 93 19 229 4 1 4 1 = true := by decide +kernel
theorem q93_22 : decode (mB 93) 22 = .ok (.iload_n 2, 1) := by decide +kernel
theorem q93_23 : cfB 93 23 242 11 0 4 2 = true := by decide +kernel
theorem q93_26 : decode (mB 93) 26 = .ok (.ireturn, 1) := by decide +kernel
theorem q94_0 : decode (mB 94) 0 = .ok (.aload_n 0, 1) := by decide +kernel
theorem q94_1 : gfB 94 1 37 7 3 = true := by decide +kernel
theorem q94_4 : cfB 94 4 201 39 1 4 0 = true := by decide +kernel
theorem q94_7 : decode (mB 94) 7 = .ok (.astore_n 1, 1) := by decide +kernel
theorem q94_8 : decode (mB 94) 8 = .ok (.aload_n 0, 1) := by decide +kernel
theorem q94_9 : gfB 94 9 44 7 4 = true := by decide +kernel
theorem q94_12 : cfB 94 12 195 67 1 4 0 = true := by decide +kernel
theorem q94_15 : decode (mB 94) 15 = .ok (.aload_n 0, 1) := by decide +kernel
theorem q94_16 : decode (mB 94) 16 = .ok (.aload_n 1, 1) := by decide +kernel
theorem q94_17 : cfB 94 17 316 103 1 4 1 = true := by decide +kernel
theorem q94_20 : decode (mB 94) 20 = .ok (.ifCond .eq 30, 3) := by decide +kernel
theorem q94_23 : decode (mB 94) 23 = .ok (.aload_n 0, 1) := by decide +kernel
theorem q94_24 : decode (mB 94) 24 = .ok (.aload_n 1, 1) := by decide +kernel
theorem q94_25 : cfB 94 25 320 104 1 4 1 = true := by decide +kernel
theorem q94_28 : decode (mB 94) 28 = .ok (.ifCond .eq 22, 3) := by decide +kernel
theorem q94_31 : decode (mB 94) 31 = .ok (.aload_n 0, 1) := by decide +kernel
theorem q94_32 : decode (mB 94) 32 = .ok (.aload_n 1, 1) := by decide +kernel
theorem q94_33 : decode (mB 94) 33 = .ok (.aload_n 0, 1) := by decide +kernel
theorem q94_34 : gfB 94 34 44 7 4 = true := by decide +kernel
theorem q94_37 : cfB 94 37 228 65 1 4 0 = true := by decide +kernel
theorem q94_40 : cfB 94 40 323 105 1 4 2 = true := by decide +kernel
theorem q94_43 : decode (mB 94) 43 = .ok (.ifCond .eq 7, 3) := by decide +kernel
theorem q94_46 : decode (mB 94) 46 = .ok (.iconst 1, 1) := by decide +kernel
theorem q94_47 : decode (mB 94) 47 = .ok (.goto 4, 3) := by decide +kernel
theorem q94_50 : decode (mB 94) 50 = .ok (.iconst 0, 1) := by decide +kernel
theorem q94_51 : decode (mB 94) 51 = .ok (.ireturn, 1) := by decide +kernel
theorem q95_0 : decode (mB 95) 0 = .ok (.iload_n 0, 1) := by decide +kernel
theorem q95_1 : decode (mB 95) 1 = .ok (.sipush (-10000), 3) := by decide +kernel
theorem q95_4 : decode (mB 95) 4 = .ok (.if_icmp .eq 17, 3) := by decide +kernel
theorem q95_7 : decode (mB 95) 7 = .ok (.iload_n 0, 1) := by decide +kernel
theorem q95_8 : decode (mB 95) 8 = .ok (.sipush (-9999), 3) := by decide +kernel
theorem q95_11 : decode (mB 95) 11 = .ok (.if_icmp .lt 14, 3) := by decide +kernel
theorem q95_14 : decode (mB 95) 14 = .ok (.iload_n 0, 1) := by decide +kernel
theorem q95_15 : decode (mB 95) 15 = .ok (.sipush 9999, 3) := by decide +kernel
theorem q95_18 : decode (mB 95) 18 = .ok (.if_icmp .gt 7, 3) := by decide +kernel
theorem q95_21 : decode (mB 95) 21 = .ok (.iconst 1, 1) := by decide +kernel
theorem q95_22 : decode (mB 95) 22 = .ok (.goto 4, 3) := by decide +kernel
theorem q95_25 : decode (mB 95) 25 = .ok (.iconst 0, 1) := by decide +kernel
theorem q95_26 : decode (mB 95) 26 = .ok (.ireturn, 1) := by decide +kernel
theorem q96_0 : decode (mB 96) 0 = .ok (.iload_n 0, 1) := by decide +kernel
theorem q96_1 : decode (mB 96) 1 = .ok (.ifCond .lt 13, 3) := by decide +kernel
theorem q96_4 : decode (mB 96) 4 = .ok (.iload_n 0, 1) := by decide +kernel
theorem q96_5 : decode (mB 96) 5 = .ok (.bipush 6, 2) := by decide +kernel
theorem q96_7 : decode (mB 96) 7 = .ok (.if_icmp .ge 7, 3) := by decide +kernel
theorem q96_10 : decode (mB 96) 10 = .ok (.iconst 1, 1) := by decide +kernel
theorem q96_11 : decode (mB 96) 11 = .ok (.goto 4, 3) := by decide +kernel
theorem q96_14 : decode (mB 96) 14 = .ok (.iconst 0, 1) := by decide +kernel
theorem q96_15 : decode (mB 96) 15 = .ok (.ireturn, 1) := by decide +kernel
theorem q97_0 : decode (mB 97) 0 = .ok (.iload_n 0, 1) := by decide +kernel
theorem q97_1 : decode (mB 97) 1 = .ok (.ifCond .lt 12, 3) := by decide +kernel
theorem q97_4 : decode (mB 97) 4 = .ok (.iload_n 0, 1) := by decide +kernel
theorem q97_5 : decode (mB 97) 5 = .ok (.iconst 4, 1) := by decide +kernel
theorem q97_6 : decode (mB 97) 6 = .ok (.if_icmp .ge 7, 3) := by decide +kernel
theorem q97_9 : decode (mB 97) 9 = .ok (.iconst 1, 1) := by decide +kernel
theorem q97_10 : decode (mB 97) 10 = .ok (.goto 4, 3) := by decide +kernel
theorem q97_13 : decode (mB 97) 13 = .ok (.iconst 0, 1) := by decide +kernel
theorem q97_14 : decode (mB 97) 14 = .ok (.ireturn, 1) := by decide +kernel
theorem q98_0 : decode (mB 98) 0 = .ok (.iload_n 0, 1) := by decide +kernel
theorem q98_1 : decode (mB 98) 1 = .ok (.bipush 98, 2) := by decide +kernel
theorem q98_3 : decode (mB 98) 3 = .ok (.if_icmp .eq 15, 3) := by decide +kernel
theorem q98_6 : decode (mB 98) 6 = .ok (.iload_n 0, 1) := by decide +kernel
theorem q98_7 : decode (mB 98) 7 = .ok (.bipush 108, 2) := by decide +kernel
theorem q98_9 : decode (mB 98) 9 = .ok (.if_icmp .eq 9, 3) := by decide +kernel
theorem q98_12 : decode (mB 98) 12 = .ok (.iload_n 0, 1) := by decide +kernel
theorem q98_13 : decode (mB 98) 13 = .ok (.bipush 112, 2) := by decide +kernel
theorem q98_15 : decode (mB 98) 15 = .ok (.if_icmp .ne 7, 3) := by decide +kernel
theorem q98_18 : decode (mB 98) 18 = .ok (.iconst 1, 1) := by decide +kernel
theorem q98_19 : decode (mB 98) 19 = .ok (.goto 4, 3) := by decide +kernel
theorem q98_22 : decode (mB 98) 22 = .ok (.iconst 0, 1) := by decide +kernel
theorem q98_23 : decode (mB 98) 23 = .ok (.ireturn, 1) := by decide +kernel
theorem q99_0 : decode (mB 99) 0 = .ok (.iload_n 0, 1) := by decide +kernel
theorem q99_1 : cfB 99 1 107 96 0 4 1 = true := by decide +kernel
theorem q99_4 : decode (mB 99) 4 = .ok (.ifCond .ne 14, 3) := by decide +kernel
theorem q99_7 : thI 99 7 2 5 := th_of (ik := 98) (is := 327) (w := true) (by decide +kernel)
theorem q99_18 : decode (mB 99) 18 = .ok (.return_, 1) := by decide +kernel
theorem q100_0 : decode (mB 100) 0 = .ok (.iload_n 0, 1) := by decide +kernel
theorem q100_1 : cfB 100 1 329 97 0 4 1 = true := by decide +kernel
theorem q100_4 : decode (mB 100) 4 = .ok (.ifCond .ne 14, 3) := by decide +kernel
theorem q100_7 : thI 100 7 2 11 := th_of (ik := 98) (is := 332) (w := true) (by decide +kernel)
theorem q100_18 : decode (mB 100) 18 = .ok (.return_, 1) := by decide +kernel
theorem q101_0 : decode (mB 101) 0 = .ok (.iload_n 0, 1) := by decide +kernel
theorem q101_1 : cfB 101 1 122 99 0 4 1 = true := by decide +kernel
theorem q101_4 : decode (mB 101) 4 = .ok (.iload_n 1, 1) := by decide +kernel
theorem q101_5 : cfB 101 5 239 100 0 4 1 = true := by decide +kernel
theorem q101_8 : decode (mB 101) 8 = .ok (.return_, 1) := by decide +kernel
theorem q102_0 : decode (mB 102) 0 = .ok (.aload_n 0, 1) := by decide +kernel
theorem q102_1 : decode (mB 102) 1 = .ok (.iload_n 1, 1) := by decide +kernel
theorem q102_2 : cfB 102 2 247 2 1 4 1 = true := by decide +kernel
theorem q102_5 : decode (mB 102) 5 = .ok (.ifCond .ne 14, 3) := by decide +kernel
theorem q102_8 : thI 102 8 4 16 := th_of (ik := 250) (is := 334) (w := true) (by decide +kernel)
theorem q102_19 : decode (mB 102) 19 = .ok (.return_, 1) := by decide +kernel
theorem q103_0 : decode (mB 103) 0 = .ok (.iconst 0, 1) := by decide +kernel
theorem q103_1 : decode (mB 103) 1 = .ok (.istore_n 2, 1) := by decide +kernel
theorem q103_2 : decode (mB 103) 2 = .ok (.iload_n 2, 1) := by decide +kernel
theorem q103_3 : decode (mB 103) 3 = .ok (.aload_n 1, 1) := by decide +kernel
theorem q103_4 : cfB 103 4 343 1 1 4 0 = true := by decide +kernel
theorem q103_7 : decode (mB 103) 7 = .ok (.if_icmp .ge 26, 3) := by decide +kernel
theorem q103_10 : decode (mB 103) 10 = .ok (.aload_n 0, 1) := by decide +kernel
theorem q103_11 : gfB 103 11 21 7 1 = true := by decide +kernel
theorem q103_14 : decode (mB 103) 14 = .ok (.aload_n 1, 1) := by decide +kernel
theorem q103_15 : decode (mB 103) 15 = .ok (.iload_n 2, 1) := by decide +kernel
theorem q103_16 : cfB 103 16 229 4 1 4 1 = true := by decide +kernel
theorem q103_19 : cfB 103 19 338 28 1 4 1 = true := by decide +kernel
theorem q103_22 : decode (mB 103) 22 = .ok (.ifCond .ne 5, 3) := by decide +kernel
theorem q103_25 : decode (mB 103) 25 = .ok (.iconst 0, 1) := by decide +kernel
theorem q103_26 : decode (mB 103) 26 = .ok (.ireturn, 1) := by decide +kernel
theorem q103_27 : decode (mB 103) 27 = .ok (.iinc 2 1, 3) := by decide +kernel
theorem q103_30 : decode (mB 103) 30 = .ok (.goto (-28), 3) := by decide +kernel
theorem q103_33 : decode (mB 103) 33 = .ok (.iconst 1, 1) := by decide +kernel
theorem q103_34 : decode (mB 103) 34 = .ok (.ireturn, 1) := by decide +kernel
theorem q104_0 : decode (mB 104) 0 = .ok (.iconst 1, 1) := by decide +kernel
theorem q104_1 : decode (mB 104) 1 = .ok (.istore_n 2, 1) := by decide +kernel
theorem q104_2 : decode (mB 104) 2 = .ok (.iload_n 2, 1) := by decide +kernel
theorem q104_3 : decode (mB 104) 3 = .ok (.aload_n 1, 1) := by decide +kernel
theorem q104_4 : cfB 104 4 343 1 1 4 0 = true := by decide +kernel
theorem q104_7 : decode (mB 104) 7 = .ok (.if_icmp .ge 56, 3) := by decide +kernel
theorem q104_10 : decode (mB 104) 10 = .ok (.aload_n 1, 1) := by decide +kernel
theorem q104_11 : decode (mB 104) 11 = .ok (.iload_n 2, 1) := by decide +kernel
theorem q104_12 : cfB 104 12 229 4 1 4 1 = true := by decide +kernel
theorem q104_15 : decode (mB 104) 15 = .ok (.istore_n 3, 1) := by decide +kernel
theorem q104_16 : decode (mB 104) 16 = .ok (.aload_n 1, 1) := by decide +kernel
theorem q104_17 : decode (mB 104) 17 = .ok (.iload_n 2, 1) := by decide +kernel
theorem q104_18 : decode (mB 104) 18 = .ok (.iconst 1, 1) := by decide +kernel
theorem q104_19 : decode (mB 104) 19 = .ok (.isub, 1) := by decide +kernel
theorem q104_20 : cfB 104 20 229 4 1 4 1 = true := by decide +kernel
theorem q104_23 : decode (mB 104) 23 = .ok (.istore 4, 2) := by decide +kernel
theorem q104_25 : decode (mB 104) 25 = .ok (.aload_n 0, 1) := by decide +kernel
theorem q104_26 : gfB 104 26 28 7 2 = true := by decide +kernel
theorem q104_29 : decode (mB 104) 29 = .ok (.iload_n 3, 1) := by decide +kernel
theorem q104_30 : cfB 104 30 311 19 1 4 1 = true := by decide +kernel
theorem q104_33 : decode (mB 104) 33 = .ok (.iload_n 3, 1) := by decide +kernel
theorem q104_34 : cfB 104 34 346 34 0 4 2 = true := by decide +kernel
theorem q104_37 : decode (mB 104) 37 = .ok (.aload_n 0, 1) := by decide +kernel
theorem q104_38 : gfB 104 38 28 7 2 = true := by decide +kernel
theorem q104_41 : decode (mB 104) 41 = .ok (.iload 4, 2) := by decide +kernel
theorem q104_43 : cfB 104 43 311 19 1 4 1 = true := by decide +kernel
theorem q104_46 : decode (mB 104) 46 = .ok (.iload 4, 2) := by decide +kernel
theorem q104_48 : cfB 104 48 346 34 0 4 2 = true := by decide +kernel
theorem q104_51 : decode (mB 104) 51 = .ok (.lcmp, 1) := by decide +kernel
theorem q104_52 : decode (mB 104) 52 = .ok (.ifCond .ge 5, 3) := by decide +kernel
theorem q104_55 : decode (mB 104) 55 = .ok (.iconst 0, 1) := by decide +kernel
theorem q104_56 : decode (mB 104) 56 = .ok (.ireturn, 1) := by decide +kernel
theorem q104_57 : decode (mB 104) 57 = .ok (.iinc 2 1, 3) := by decide +kernel
theorem q104_60 : decode (mB 104) 60 = .ok (.goto (-58), 3) := by decide +kernel
theorem q104_63 : decode (mB 104) 63 = .ok (.iconst 1, 1) := by decide +kernel
theorem q104_64 : decode (mB 104) 64 = .ok (.ireturn, 1) := by decide +kernel
theorem q105_0 : decode (mB 105) 0 = .ok (.aload_n 1, 1) := by decide +kernel
theorem q105_1 : decode (mB 105) 1 = .ok (.iconst 0, 1) := by decide +kernel
theorem q105_2 : cfB 105 2 247 2 1 4 1 = true := by decide +kernel
theorem q105_5 : decode (mB 105) 5 = .ok (.ifCond .ne 17, 3) := by decide +kernel
theorem q105_8 : decode (mB 105) 8 = .ok (.aload_n 2, 1) := by decide +kernel
theorem q105_9 : decode (mB 105) 9 = .ok (.iconst 0, 1) := by decide +kernel
theorem q105_10 : cfB 105 10 247 2 1 4 1 = true := by decide +kernel
theorem q105_13 : decode (mB 105) 13 = .ok (.ifCond .ne 7, 3) := by decide +kernel
theorem q105_16 : decode (mB 105) 16 = .ok (.iconst 1, 1) := by decide +kernel
theorem q105_17 : decode (mB 105) 17 = .ok (.goto 4, 3) := by decide +kernel
theorem q105_20 : decode (mB 105) 20 = .ok (.iconst 0, 1) := by decide +kernel
theorem q105_21 : decode (mB 105) 21 = .ok (.ireturn, 1) := by decide +kernel
theorem q105_22 : decode (mB 105) 22 = .ok (.aload_n 2, 1) := by decide +kernel
theorem q105_23 : decode (mB 105) 23 = .ok (.iconst 0, 1) := by decide +kernel
theorem q105_24 : cfB 105 24 247 2 1 4 1 = true := by decide +kernel
theorem q105_27 : decode (mB 105) 27 = .ok (.ifCond .eq 30, 3) := by decide +kernel
theorem q105_30 : decode (mB 105) 30 = .ok (.aload_n 0, 1) := by decide +kernel
theorem q105_31 : gfB 105 31 28 7 2 = true := by decide +kernel
theorem q105_34 : decode (mB 105) 34 = .ok (.aload_n 1, 1) := by decide +kernel
theorem q105_35 : decode (mB 105) 35 = .ok (.iconst 0, 1) := by decide +kernel
theorem q105_36 : cfB 105 36 229 4 1 4 1 = true := by decide +kernel
theorem q105_39 : cfB 105 39 311 19 1 4 1 = true := by decide +kernel
theorem q105_42 : decode (mB 105) 42 = .ok (.aload_n 2, 1) := by decide +kernel
theorem q105_43 : decode (mB 105) 43 = .ok (.iconst 0, 1) := by decide +kernel
theorem q105_44 : cfB 105 44 209 3 1 4 1 = true := by decide +kernel
theorem q105_47 : cfB 105 47 214 35 0 4 1 = true := by decide +kernel
theorem q105_50 : decode (mB 105) 50 = .ok (.if_icmp .ne 7, 3) := by decide +kernel
theorem q105_53 : decode (mB 105) 53 = .ok (.iconst 1, 1) := by decide +kernel
theorem q105_54 : decode (mB 105) 54 = .ok (.goto 4, 3) := by decide +kernel
theorem q105_57 : decode (mB 105) 57 = .ok (.iconst 0, 1) := by decide +kernel
theorem q105_58 : decode (mB 105) 58 = .ok (.ireturn, 1) := by decide +kernel
theorem q106_0 : decode (mB 106) 0 = .ok (.iload_n 0, 1) := by decide +kernel
theorem q106_1 : decode (mB 106) 1 = .ok (.iload_n 0, 1) := by decide +kernel
theorem q106_2 : decode (mB 106) 2 = .ok (.iconst 1, 1) := by decide +kernel
theorem q106_3 : decode (mB 106) 3 = .ok (.iushr, 1) := by decide +kernel
theorem q106_4 : (decide (106 < 152) && decide (decode (mB 106) 4 = .ok (.ldc_w 265, 3)) && (lks (mD 106)).contains (265, 6, 1431655765, 0)) = true := by decide +kernel
theorem q106_7 : decode (mB 106) 7 = .ok (.iand, 1) := by decide +kernel
theorem q106_8 : decode (mB 106) 8 = .ok (.isub, 1) := by decide +kernel
theorem q106_9 : decode (mB 106) 9 = .ok (.istore_n 0, 1) := by decide +kernel
theorem q106_10 : decode (mB 106) 10 = .ok (.iload_n 0, 1) := by decide +kernel
theorem q106_11 : (decide (106 < 152) && decide (decode (mB 106) 11 = .ok (.ldc_w 266, 3)) && (lks (mD 106)).contains (266, 6, 858993459, 0)) = true := by decide +kernel
theorem q106_14 : decode (mB 106) 14 = .ok (.iand, 1) := by decide +kernel
theorem q106_15 : decode (mB 106) 15 = .ok (.iload_n 0, 1) := by decide +kernel
theorem q106_16 : decode (mB 106) 16 = .ok (.iconst 2, 1) := by decide +kernel
theorem q106_17 : decode (mB 106) 17 = .ok (.iushr, 1) := by decide +kernel
theorem q106_18 : (decide (106 < 152) && decide (decode (mB 106) 18 = .ok (.ldc_w 266, 3)) && (lks (mD 106)).contains (266, 6, 858993459, 0)) = true := by decide +kernel
theorem q106_21 : decode (mB 106) 21 = .ok (.iand, 1) := by decide +kernel
theorem q106_22 : decode (mB 106) 22 = .ok (.iadd, 1) := by decide +kernel
theorem q106_23 : decode (mB 106) 23 = .ok (.istore_n 0, 1) := by decide +kernel
theorem q106_24 : decode (mB 106) 24 = .ok (.iload_n 0, 1) := by decide +kernel
theorem q106_25 : decode (mB 106) 25 = .ok (.iload_n 0, 1) := by decide +kernel
theorem q106_26 : decode (mB 106) 26 = .ok (.iconst 4, 1) := by decide +kernel
theorem q106_27 : decode (mB 106) 27 = .ok (.iushr, 1) := by decide +kernel
theorem q106_28 : decode (mB 106) 28 = .ok (.iadd, 1) := by decide +kernel
theorem q106_29 : (decide (106 < 152) && decide (decode (mB 106) 29 = .ok (.ldc_w 267, 3)) && (lks (mD 106)).contains (267, 6, 252645135, 0)) = true := by decide +kernel
theorem q106_32 : decode (mB 106) 32 = .ok (.iand, 1) := by decide +kernel
theorem q106_33 : decode (mB 106) 33 = .ok (.istore_n 0, 1) := by decide +kernel
theorem q106_34 : decode (mB 106) 34 = .ok (.iload_n 0, 1) := by decide +kernel
theorem q106_35 : decode (mB 106) 35 = .ok (.iload_n 0, 1) := by decide +kernel
theorem q106_36 : decode (mB 106) 36 = .ok (.bipush 8, 2) := by decide +kernel
theorem q106_38 : decode (mB 106) 38 = .ok (.iushr, 1) := by decide +kernel
theorem q106_39 : decode (mB 106) 39 = .ok (.iadd, 1) := by decide +kernel
theorem q106_40 : decode (mB 106) 40 = .ok (.istore_n 0, 1) := by decide +kernel
theorem q106_41 : decode (mB 106) 41 = .ok (.iload_n 0, 1) := by decide +kernel
theorem q106_42 : decode (mB 106) 42 = .ok (.iload_n 0, 1) := by decide +kernel
theorem q106_43 : decode (mB 106) 43 = .ok (.bipush 16, 2) := by decide +kernel
theorem q106_45 : decode (mB 106) 45 = .ok (.iushr, 1) := by decide +kernel
theorem q106_46 : decode (mB 106) 46 = .ok (.iadd, 1) := by decide +kernel
theorem q106_47 : decode (mB 106) 47 = .ok (.istore_n 0, 1) := by decide +kernel
theorem q106_48 : decode (mB 106) 48 = .ok (.iload_n 0, 1) := by decide +kernel
theorem q106_49 : decode (mB 106) 49 = .ok (.bipush 63, 2) := by decide +kernel
theorem q106_51 : decode (mB 106) 51 = .ok (.iand, 1) := by decide +kernel
theorem q106_52 : decode (mB 106) 52 = .ok (.ireturn, 1) := by decide +kernel
theorem q107_0 : decode (mB 107) 0 = .ok (.lload_n 0, 1) := by decide +kernel
theorem q107_1 : decode (mB 107) 1 = .ok (.lload_n 0, 1) := by decide +kernel
theorem q107_2 : decode (mB 107) 2 = .ok (.iconst 1, 1) := by decide +kernel
theorem q107_3 : decode (mB 107) 3 = .ok (.lushr, 1) := by decide +kernel
theorem q107_4 : (decide (107 < 152) && decide (decode (mB 107) 4 = .ok (.ldc2_w 314, 3)) && (lks (mD 107)).contains (314, 7, 6148914691236517205, 0)) = true := by decide +kernel
theorem q107_7 : decode (mB 107) 7 = .ok (.land, 1) := by decide +kernel
theorem q107_8 : decode (mB 107) 8 = .ok (.lsub, 1) := by decide +kernel
theorem q107_9 : decode (mB 107) 9 = .ok (.lstore_n 0, 1) := by decide +kernel
theorem q107_10 : decode (mB 107) 10 = .ok (.lload_n 0, 1) := by decide +kernel
theorem q107_11 : (decide (107 < 152) && decide (decode (mB 107) 11 = .ok (.ldc2_w 316, 3)) && (lks (mD 107)).contains (316, 7, 3689348814741910323, 0)) = true := by decide +kernel
theorem q107_14 : decode (mB 107) 14 = .ok (.land, 1) := by decide +kernel
theorem q107_15 : decode (mB 107) 15 = .ok (.lload_n 0, 1) := by decide +kernel
theorem q107_16 : decode (mB 107) 16 = .ok (.iconst 2, 1) := by decide +kernel
theorem q107_17 : decode (mB 107) 17 = .ok (.lushr, 1) := by decide +kernel
theorem q107_18 : (decide (107 < 152) && decide (decode (mB 107) 18 = .ok (.ldc2_w 316, 3)) && (lks (mD 107)).contains (316, 7, 3689348814741910323, 0)) = true := by decide +kernel
theorem q107_21 : decode (mB 107) 21 = .ok (.land, 1) := by decide +kernel
theorem q107_22 : decode (mB 107) 22 = .ok (.ladd, 1) := by decide +kernel
theorem q107_23 : decode (mB 107) 23 = .ok (.lstore_n 0, 1) := by decide +kernel
theorem q107_24 : decode (mB 107) 24 = .ok (.lload_n 0, 1) := by decide +kernel
theorem q107_25 : decode (mB 107) 25 = .ok (.lload_n 0, 1) := by decide +kernel
theorem q107_26 : decode (mB 107) 26 = .ok (.iconst 4, 1) := by decide +kernel
theorem q107_27 : decode (mB 107) 27 = .ok (.lushr, 1) := by decide +kernel
theorem q107_28 : decode (mB 107) 28 = .ok (.ladd, 1) := by decide +kernel
theorem q107_29 : (decide (107 < 152) && decide (decode (mB 107) 29 = .ok (.ldc2_w 318, 3)) && (lks (mD 107)).contains (318, 7, 1085102592571150095, 0)) = true := by decide +kernel
theorem q107_32 : decode (mB 107) 32 = .ok (.land, 1) := by decide +kernel
theorem q107_33 : decode (mB 107) 33 = .ok (.lstore_n 0, 1) := by decide +kernel
theorem q107_34 : decode (mB 107) 34 = .ok (.lload_n 0, 1) := by decide +kernel
theorem q107_35 : decode (mB 107) 35 = .ok (.lload_n 0, 1) := by decide +kernel
theorem q107_36 : decode (mB 107) 36 = .ok (.bipush 8, 2) := by decide +kernel
theorem q107_38 : decode (mB 107) 38 = .ok (.lushr, 1) := by decide +kernel
theorem q107_39 : decode (mB 107) 39 = .ok (.ladd, 1) := by decide +kernel
theorem q107_40 : decode (mB 107) 40 = .ok (.lstore_n 0, 1) := by decide +kernel
theorem q107_41 : decode (mB 107) 41 = .ok (.lload_n 0, 1) := by decide +kernel
theorem q107_42 : decode (mB 107) 42 = .ok (.lload_n 0, 1) := by decide +kernel
theorem q107_43 : decode (mB 107) 43 = .ok (.bipush 16, 2) := by decide +kernel
theorem q107_45 : decode (mB 107) 45 = .ok (.lushr, 1) := by decide +kernel
theorem q107_46 : decode (mB 107) 46 = .ok (.ladd, 1) := by decide +kernel
theorem q107_47 : decode (mB 107) 47 = .ok (.lstore_n 0, 1) := by decide +kernel
theorem q107_48 : decode (mB 107) 48 = .ok (.lload_n 0, 1) := by decide +kernel
theorem q107_49 : decode (mB 107) 49 = .ok (.lload_n 0, 1) := by decide +kernel
theorem q107_50 : decode (mB 107) 50 = .ok (.bipush 32, 2) := by decide +kernel
theorem q107_52 : decode (mB 107) 52 = .ok (.lushr, 1) := by decide +kernel
theorem q107_53 : decode (mB 107) 53 = .ok (.ladd, 1) := by decide +kernel
theorem q107_54 : decode (mB 107) 54 = .ok (.lstore_n 0, 1) := by decide +kernel
theorem q107_55 : decode (mB 107) 55 = .ok (.lload_n 0, 1) := by decide +kernel
theorem q107_56 : decode (mB 107) 56 = .ok (.l2i, 1) := by decide +kernel
theorem q107_57 : decode (mB 107) 57 = .ok (.bipush 127, 2) := by decide +kernel
theorem q107_59 : decode (mB 107) 59 = .ok (.iand, 1) := by decide +kernel
theorem q107_60 : decode (mB 107) 60 = .ok (.ireturn, 1) := by decide +kernel
