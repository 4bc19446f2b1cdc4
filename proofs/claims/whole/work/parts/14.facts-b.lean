/-! what each instruction is, method by method (by program) -/

theorem q81_0 : decode (mB 81) 0 = .ok (.aload_n 0, 1) := by decide +kernel
theorem q81_1 : (decide (81 < 235) && decide (decode (mB 81) 1 = .ok (.invokespecial 1, 3)) && (lks (mD 81)).contains (1, 2, 0, 0) && decide (1 ≤ mV 81)) = true := by decide +kernel
theorem q81_4 : decode (mB 81) 4 = .ok (.aload_n 0, 1) := by decide +kernel
theorem q81_5 : nwB 81 5 7 5 = true := by decide +kernel
theorem q81_8 : decode (mB 81) 8 = .ok (.dup, 1) := by decide +kernel
theorem q81_9 : cfB 81 9 9 52 2 4 0 = true := by decide +kernel
theorem q81_12 : pfB 81 12 10 7 0 = true := by decide +kernel
theorem q81_15 : decode (mB 81) 15 = .ok (.aload_n 0, 1) := by decide +kernel
theorem q81_16 : nwB 81 16 16 2 = true := by decide +kernel
theorem q81_19 : decode (mB 81) 19 = .ok (.dup, 1) := by decide +kernel
theorem q81_20 : decode (mB 81) 20 = .ok (.aload_n 0, 1) := by decide +kernel
theorem q81_21 : gfB 81 21 10 7 0 = true := by decide +kernel
theorem q81_24 : cfB 81 24 18 25 2 4 1 = true := by decide +kernel
theorem q81_27 : pfB 81 27 21 7 1 = true := by decide +kernel
theorem q81_30 : decode (mB 81) 30 = .ok (.aload_n 0, 1) := by decide +kernel
theorem q81_31 : nwB 81 31 25 1 = true := by decide +kernel
theorem q81_34 : decode (mB 81) 34 = .ok (.dup, 1) := by decide +kernel
theorem q81_35 : decode (mB 81) 35 = .ok (.aload_n 0, 1) := by decide +kernel
theorem q81_36 : gfB 81 36 10 7 0 = true := by decide +kernel
theorem q81_39 : cfB 81 39 27 18 2 4 1 = true := by decide +kernel
theorem q81_42 : pfB 81 42 28 7 2 = true := by decide +kernel
theorem q81_45 : decode (mB 81) 45 = .ok (.aload_n 0, 1) := by decide +kernel
theorem q81_46 : nwB 81 46 32 4 = true := by decide +kernel
theorem q81_49 : decode (mB 81) 49 = .ok (.dup, 1) := by decide +kernel
theorem q81_50 : decode (mB 81) 50 = .ok (.aload_n 0, 1) := by decide +kernel
theorem q81_51 : gfB 81 51 21 7 1 = true := by decide +kernel
theorem q81_54 : decode (mB 81) 54 = .ok (.aload_n 0, 1) := by decide +kernel
theorem q81_55 : gfB 81 55 28 7 2 = true := by decide +kernel
theorem q81_58 : cfB 81 58 34 46 2 4 2 = true := by decide +kernel
theorem q81_61 : pfB 81 61 37 7 3 = true := by decide +kernel
theorem q81_64 : decode (mB 81) 64 = .ok (.aload_n 0, 1) := by decide +kernel
theorem q81_65 : nwB 81 65 41 6 = true := by decide +kernel
theorem q81_68 : decode (mB 81) 68 = .ok (.dup, 1) := by decide +kernel
theorem q81_69 : decode (mB 81) 69 = .ok (.aload_n 0, 1) := by decide +kernel
theorem q81_70 : gfB 81 70 21 7 1 = true := by decide +kernel
theorem q81_73 : decode (mB 81) 73 = .ok (.aload_n 0, 1) := by decide +kernel
theorem q81_74 : gfB 81 74 28 7 2 = true := by decide +kernel
theorem q81_77 : cfB 81 77 43 73 2 4 2 = true := by decide +kernel
theorem q81_80 : pfB 81 80 44 7 4 = true := by decide +kernel
theorem q81_83 : decode (mB 81) 83 = .ok (.aload_n 0, 1) := by decide +kernel
theorem q81_84 : nwB 81 84 48 3 = true := by decide +kernel
theorem q81_87 : decode (mB 81) 87 = .ok (.dup, 1) := by decide +kernel
theorem q81_88 : cfB 81 88 50 35 2 4 0 = true := by decide +kernel
theorem q81_91 : pfB 81 91 51 7 5 = true := by decide +kernel
theorem q81_94 : decode (mB 81) 94 = .ok (.aload_n 0, 1) := by decide +kernel
theorem q81_95 : decode (mB 81) 95 = .ok (.iconst 3, 1) := by decide +kernel
theorem q81_96 : pfB 81 96 55 7 6 = true := by decide +kernel
theorem q81_99 : decode (mB 81) 99 = .ok (.aload_n 0, 1) := by decide +kernel
theorem q81_100 : decode (mB 81) 100 = .ok (.bipush 98, 2) := by decide +kernel
theorem q81_102 : decode (mB 81) 102 = .ok (.iconst 0, 1) := by decide +kernel
theorem q81_103 : cfB 81 103 59 8 0 4 2 = true := by decide +kernel
theorem q81_106 : pfB 81 106 65 7 7 = true := by decide +kernel
theorem q81_109 : decode (mB 81) 109 = .ok (.return_, 1) := by decide +kernel
theorem q82_0 : decode (mB 82) 0 = .ok (.iload_n 1, 1) := by decide +kernel
theorem q82_1 : cfB 82 1 68 120 0 4 1 = true := by decide +kernel
theorem q82_4 : decode (mB 82) 4 = .ok (.ifCond .eq 45, 3) := by decide +kernel
theorem q82_7 : decode (mB 82) 7 = .ok (.iload_n 2, 1) := by decide +kernel
theorem q82_8 : cfB 82 8 68 120 0 4 1 = true := by decide +kernel
theorem q82_11 : decode (mB 82) 11 = .ok (.ifCond .eq 38, 3) := by decide +kernel
theorem q82_14 : decode (mB 82) 14 = .ok (.iload_n 3, 1) := by decide +kernel
theorem q82_15 : cfB 82 15 68 120 0 4 1 = true := by decide +kernel
theorem q82_18 : decode (mB 82) 18 = .ok (.ifCond .eq 31, 3) := by decide +kernel
theorem q82_21 : decode (mB 82) 21 = .ok (.iload 4, 2) := by decide +kernel
theorem q82_23 : cfB 82 23 68 120 0 4 1 = true := by decide +kernel
theorem q82_26 : decode (mB 82) 26 = .ok (.ifCond .eq 23, 3) := by decide +kernel
theorem q82_29 : decode (mB 82) 29 = .ok (.iload 5, 2) := by decide +kernel
theorem q82_31 : cfB 82 31 68 120 0 4 1 = true := by decide +kernel
theorem q82_34 : decode (mB 82) 34 = .ok (.ifCond .eq 15, 3) := by decide +kernel
theorem q82_37 : decode (mB 82) 37 = .ok (.iload 6, 2) := by decide +kernel
theorem q82_39 : cfB 82 39 68 120 0 4 1 = true := by decide +kernel
theorem q82_42 : decode (mB 82) 42 = .ok (.ifCond .eq 7, 3) := by decide +kernel
theorem q82_45 : decode (mB 82) 45 = .ok (.iconst 1, 1) := by decide +kernel
theorem q82_46 : decode (mB 82) 46 = .ok (.goto 4, 3) := by decide +kernel
theorem q82_49 : decode (mB 82) 49 = .ok (.iconst 0, 1) := by decide +kernel
theorem q82_50 : decode (mB 82) 50 = .ok (.istore 7, 2) := by decide +kernel
theorem q82_52 : decode (mB 82) 52 = .ok (.iload 7, 2) := by decide +kernel
theorem q82_54 : decode (mB 82) 54 = .ok (.ifCond .ne 13, 3) := by decide +kernel
theorem q82_57 : thI 82 57 0 0 := th_of (ik := 72) (is := 74) (w := false) (by decide +kernel)
theorem q82_67 : decode (mB 82) 67 = .ok (.aload_n 0, 1) := by decide +kernel
theorem q82_68 : gfB 82 68 10 7 0 = true := by decide +kernel
theorem q82_71 : cfB 82 71 79 53 1 4 0 = true := by decide +kernel
theorem q82_74 : decode (mB 82) 74 = .ok (.bipush 40, 2) := by decide +kernel
theorem q82_76 : decode (mB 82) 76 = .ok (.if_icmp .lt 13, 3) := by decide +kernel
theorem q82_79 : thI 82 79 1 1 := th_of (ik := 83) (is := 85) (w := false) (by decide +kernel)
theorem q82_89 : decode (mB 82) 89 = .ok (.aload_n 0, 1) := by decide +kernel
theorem q82_90 : gfB 82 90 10 7 0 = true := by decide +kernel
theorem q82_93 : decode (mB 82) 93 = .ok (.iload_n 1, 1) := by decide +kernel
theorem q82_94 : decode (mB 82) 94 = .ok (.iload_n 2, 1) := by decide +kernel
theorem q82_95 : decode (mB 82) 95 = .ok (.iload_n 3, 1) := by decide +kernel
theorem q82_96 : decode (mB 82) 96 = .ok (.iload 4, 2) := by decide +kernel
theorem q82_98 : decode (mB 82) 98 = .ok (.iload 5, 2) := by decide +kernel
theorem q82_100 : decode (mB 82) 100 = .ok (.iload 6, 2) := by decide +kernel
theorem q82_102 : cfB 82 102 88 64 1 4 6 = true := by decide +kernel
theorem q82_105 : decode (mB 82) 105 = .ok (.aload_n 0, 1) := by decide +kernel
theorem q82_106 : gfB 82 106 37 7 3 = true := by decide +kernel
theorem q82_109 : cfB 82 109 92 47 1 4 0 = true := by decide +kernel
theorem q82_112 : decode (mB 82) 112 = .ok (.aload_n 0, 1) := by decide +kernel
theorem q82_113 : gfB 82 113 10 7 0 = true := by decide +kernel
theorem q82_116 : cfB 82 116 79 53 1 4 0 = true := by decide +kernel
theorem q82_119 : decode (mB 82) 119 = .ok (.ireturn, 1) := by decide +kernel
theorem q83_0 : decode (mB 83) 0 = .ok (.aload_n 0, 1) := by decide +kernel
theorem q83_1 : gfB 83 1 10 7 0 = true := by decide +kernel
theorem q83_4 : decode (mB 83) 4 = .ok (.iload_n 1, 1) := by decide +kernel
theorem q83_5 : cfB 83 5 95 54 1 4 1 = true := by decide +kernel
theorem q83_8 : decode (mB 83) 8 = .ok (.ifCond .ne 13, 3) := by decide +kernel
theorem q83_11 : thI 83 11 2 2 := th_of (ik := 98) (is := 100) (w := false) (by decide +kernel)
theorem q83_21 : decode (mB 83) 21 = .ok (.aload_n 0, 1) := by decide +kernel
theorem q83_22 : gfB 83 22 10 7 0 = true := by decide +kernel
theorem q83_25 : decode (mB 83) 25 = .ok (.iload_n 1, 1) := by decide +kernel
theorem q83_26 : cfB 83 26 103 65 1 4 1 = true := by decide +kernel
theorem q83_29 : decode (mB 83) 29 = .ok (.aload_n 0, 1) := by decide +kernel
theorem q83_30 : gfB 83 30 37 7 3 = true := by decide +kernel
theorem q83_33 : cfB 83 33 92 47 1 4 0 = true := by decide +kernel
theorem q83_36 : decode (mB 83) 36 = .ok (.aload_n 0, 1) := by decide +kernel
theorem q83_37 : gfB 83 37 10 7 0 = true := by decide +kernel
theorem q83_40 : cfB 83 40 79 53 1 4 0 = true := by decide +kernel
theorem q83_43 : decode (mB 83) 43 = .ok (.ireturn, 1) := by decide +kernel
theorem q84_0 : decode (mB 84) 0 = .ok (.aload_n 0, 1) := by decide +kernel
theorem q84_1 : gfB 84 1 10 7 0 = true := by decide +kernel
theorem q84_4 : decode (mB 84) 4 = .ok (.iload_n 1, 1) := by decide +kernel
theorem q84_5 : cfB 84 5 95 54 1 4 1 = true := by decide +kernel
theorem q84_8 : decode (mB 84) 8 = .ok (.ifCond .eq 10, 3) := by decide +kernel
theorem q84_11 : decode (mB 84) 11 = .ok (.iload_n 2, 1) := by decide +kernel
theorem q84_12 : cfB 84 12 107 121 0 4 1 = true := by decide +kernel
theorem q84_15 : decode (mB 84) 15 = .ok (.ifCond .ne 13, 3) := by decide +kernel
theorem q84_18 : thI 84 18 2 3 := th_of (ik := 98) (is := 110) (w := false) (by decide +kernel)
theorem q84_28 : decode (mB 84) 28 = .ok (.iload_n 3, 1) := by decide +kernel
theorem q84_29 : cfB 84 29 68 120 0 4 1 = true := by decide +kernel
theorem q84_32 : decode (mB 84) 32 = .ok (.ifCond .ne 13, 3) := by decide +kernel
theorem q84_35 : thI 84 35 0 4 := th_of (ik := 72) (is := 112) (w := false) (by decide +kernel)
theorem q84_45 : decode (mB 84) 45 = .ok (.aload_n 0, 1) := by decide +kernel
theorem q84_46 : gfB 84 46 10 7 0 = true := by decide +kernel
theorem q84_49 : decode (mB 84) 49 = .ok (.iload_n 1, 1) := by decide +kernel
theorem q84_50 : decode (mB 84) 50 = .ok (.iload_n 2, 1) := by decide +kernel
theorem q84_51 : cfB 84 51 114 55 1 4 2 = true := by decide +kernel
theorem q84_54 : decode (mB 84) 54 = .ok (.istore 4, 2) := by decide +kernel
theorem q84_56 : decode (mB 84) 56 = .ok (.aload_n 0, 1) := by decide +kernel
theorem q84_57 : gfB 84 57 10 7 0 = true := by decide +kernel
theorem q84_60 : decode (mB 84) 60 = .ok (.iload_n 1, 1) := by decide +kernel
theorem q84_61 : decode (mB 84) 61 = .ok (.iload_n 2, 1) := by decide +kernel
theorem q84_62 : decode (mB 84) 62 = .ok (.iload_n 3, 1) := by decide +kernel
theorem q84_63 : cfB 84 63 118 66 1 4 3 = true := by decide +kernel
theorem q84_66 : decode (mB 84) 66 = .ok (.aload_n 0, 1) := by decide +kernel
theorem q84_67 : gfB 84 67 37 7 3 = true := by decide +kernel
theorem q84_70 : cfB 84 70 92 47 1 4 0 = true := by decide +kernel
theorem q84_73 : decode (mB 84) 73 = .ok (.iload 4, 2) := by decide +kernel
theorem q84_75 : decode (mB 84) 75 = .ok (.ireturn, 1) := by decide +kernel
theorem q85_0 : decode (mB 85) 0 = .ok (.aload_n 0, 1) := by decide +kernel
theorem q85_1 : gfB 85 1 10 7 0 = true := by decide +kernel
theorem q85_4 : cfB 85 4 79 53 1 4 0 = true := by decide +kernel
theorem q85_7 : decode (mB 85) 7 = .ok (.ireturn, 1) := by decide +kernel
theorem q86_0 : decode (mB 86) 0 = .ok (.iload_n 1, 1) := by decide +kernel
theorem q86_1 : cfB 86 1 122 124 0 4 1 = true := by decide +kernel
theorem q86_4 : decode (mB 86) 4 = .ok (.aload_n 0, 1) := by decide +kernel
theorem q86_5 : gfB 86 5 10 7 0 = true := by decide +kernel
theorem q86_8 : decode (mB 86) 8 = .ok (.iload_n 1, 1) := by decide +kernel
theorem q86_9 : cfB 86 9 125 59 1 4 1 = true := by decide +kernel
theorem q86_12 : decode (mB 86) 12 = .ok (.ireturn, 1) := by decide +kernel
theorem q87_0 : decode (mB 87) 0 = .ok (.iload_n 1, 1) := by decide +kernel
theorem q87_1 : cfB 87 1 122 124 0 4 1 = true := by decide +kernel
theorem q87_4 : decode (mB 87) 4 = .ok (.aload_n 0, 1) := by decide +kernel
theorem q87_5 : gfB 87 5 10 7 0 = true := by decide +kernel
theorem q87_8 : decode (mB 87) 8 = .ok (.iload_n 1, 1) := by decide +kernel
theorem q87_9 : cfB 87 9 129 60 1 4 1 = true := by decide +kernel
theorem q87_12 : decode (mB 87) 12 = .ok (.lreturn, 1) := by decide +kernel
theorem q88_0 : decode (mB 88) 0 = .ok (.iload_n 1, 1) := by decide +kernel
theorem q88_1 : cfB 88 1 122 124 0 4 1 = true := by decide +kernel
theorem q88_4 : decode (mB 88) 4 = .ok (.aload_n 0, 1) := by decide +kernel
theorem q88_5 : gfB 88 5 10 7 0 = true := by decide +kernel
theorem q88_8 : decode (mB 88) 8 = .ok (.iload_n 1, 1) := by decide +kernel
theorem q88_9 : cfB 88 9 133 58 1 4 1 = true := by decide +kernel
theorem q88_12 : decode (mB 88) 12 = .ok (.istore_n 2, 1) := by decide +kernel
theorem q88_13 : decode (mB 88) 13 = .ok (.iload_n 2, 1) := by decide +kernel
theorem q88_14 : decode (mB 88) 14 = .ok (.ifCond .ne 13, 3) := by decide +kernel
theorem q88_17 : thI 88 17 3 6 := th_of (ik := 136) (is := 138) (w := false) (by decide +kernel)
theorem q88_27 : decode (mB 88) 27 = .ok (.aload_n 0, 1) := by decide +kernel
theorem q88_28 : gfB 88 28 10 7 0 = true := by decide +kernel
theorem q88_31 : decode (mB 88) 31 = .ok (.iload_n 1, 1) := by decide +kernel
theorem q88_32 : cfB 88 32 129 60 1 4 1 = true := by decide +kernel
theorem q88_35 : decode (mB 88) 35 = .ok (.l2d, 1) := by decide +kernel
theorem q88_36 : decode (mB 88) 36 = .ok (.iload_n 2, 1) := by decide +kernel
theorem q88_37 : decode (mB 88) 37 = .ok (.i2d, 1) := by decide +kernel
theorem q88_38 : decode (mB 88) 38 = .ok (.ddiv, 1) := by decide +kernel
theorem q88_39 : decode (mB 88) 39 = .ok (.dreturn, 1) := by decide +kernel
theorem q89_0 : decode (mB 89) 0 = .ok (.iload_n 1, 1) := by decide +kernel
theorem q89_1 : cfB 89 1 122 124 0 4 1 = true := by decide +kernel
theorem q89_4 : decode (mB 89) 4 = .ok (.aload_n 0, 1) := by decide +kernel
theorem q89_5 : gfB 89 5 10 7 0 = true := by decide +kernel
theorem q89_8 : cfB 89 8 79 53 1 4 0 = true := by decide +kernel
theorem q89_11 : decode (mB 89) 11 = .ok (.istore_n 2, 1) := by decide +kernel
theorem q89_12 : decode (mB 89) 12 = .ok (.iload_n 2, 1) := by decide +kernel
theorem q89_13 : decode (mB 89) 13 = .ok (.ifCond .ne 13, 3) := by decide +kernel
theorem q89_16 : thI 89 16 3 7 := th_of (ik := 136) (is := 141) (w := false) (by decide +kernel)
theorem q89_26 : decode (mB 89) 26 = .ok (.aload_n 0, 1) := by decide +kernel
theorem q89_27 : gfB 89 27 10 7 0 = true := by decide +kernel
theorem q89_30 : decode (mB 89) 30 = .ok (.iload_n 1, 1) := by decide +kernel
theorem q89_31 : cfB 89 31 133 58 1 4 1 = true := by decide +kernel
theorem q89_34 : decode (mB 89) 34 = .ok (.i2f, 1) := by decide +kernel
theorem q89_35 : decode (mB 89) 35 = .ok (.iload_n 2, 1) := by decide +kernel
theorem q89_36 : decode (mB 89) 36 = .ok (.i2f, 1) := by decide +kernel
theorem q89_37 : decode (mB 89) 37 = .ok (.fdiv, 1) := by decide +kernel
theorem q89_38 : decode (mB 89) 38 = .ok (.freturn, 1) := by decide +kernel
theorem q90_0 : decode (mB 90) 0 = .ok (.iload_n 1, 1) := by decide +kernel
theorem q90_1 : cfB 90 1 122 124 0 4 1 = true := by decide +kernel
theorem q90_4 : decode (mB 90) 4 = .ok (.aload_n 0, 1) := by decide +kernel
theorem q90_5 : gfB 90 5 10 7 0 = true := by decide +kernel
theorem q90_8 : decode (mB 90) 8 = .ok (.iload_n 1, 1) := by decide +kernel
theorem q90_9 : cfB 90 9 143 56 1 4 1 = true := by decide +kernel
theorem q90_12 : decode (mB 90) 12 = .ok (.ireturn, 1) := by decide +kernel
theorem q91_0 : decode (mB 91) 0 = .ok (.iload_n 1, 1) := by decide +kernel
theorem q91_1 : cfB 91 1 122 124 0 4 1 = true := by decide +kernel
theorem q91_4 : decode (mB 91) 4 = .ok (.iload_n 2, 1) := by decide +kernel
theorem q91_5 : decode (mB 91) 5 = .ok (.iconst 2, 1) := by decide +kernel
theorem q91_6 : decode (mB 91) 6 = .ok (.if_icmp .eq 23, 3) := by decide +kernel
theorem q91_9 : decode (mB 91) 9 = .ok (.iload_n 2, 1) := by decide +kernel
theorem q91_10 : decode (mB 91) 10 = .ok (.iconst 3, 1) := by decide +kernel
theorem q91_11 : decode (mB 91) 11 = .ok (.if_icmp .eq 18, 3) := by decide +kernel
theorem q91_14 : decode (mB 91) 14 = .ok (.iload_n 2, 1) := by decide +kernel
theorem q91_15 : decode (mB 91) 15 = .ok (.iconst 4, 1) := by decide +kernel
theorem q91_16 : decode (mB 91) 16 = .ok (.if_icmp .eq 13, 3) := by decide +kernel
theorem q91_19 : thI 91 19 0 8 := th_of (ik := 72) (is := 146) (w := false) (by decide +kernel)
theorem q91_29 : decode (mB 91) 29 = .ok (.aload_n 0, 1) := by decide +kernel
theorem q91_30 : gfB 91 30 10 7 0 = true := by decide +kernel
theorem q91_33 : decode (mB 91) 33 = .ok (.iload_n 1, 1) := by decide +kernel
theorem q91_34 : decode (mB 91) 34 = .ok (.iload_n 2, 1) := by decide +kernel
theorem q91_35 : cfB 91 35 148 67 1 4 2 = true := by decide +kernel
theorem q91_38 : decode (mB 91) 38 = .ok (.aload_n 0, 1) := by decide +kernel
theorem q91_39 : gfB 91 39 37 7 3 = true := by decide +kernel
theorem q91_42 : cfB 91 42 92 47 1 4 0 = true := by decide +kernel
theorem q91_45 : decode (mB 91) 45 = .ok (.aload_n 0, 1) := by decide +kernel
theorem q91_46 : gfB 91 46 10 7 0 = true := by decide +kernel
theorem q91_49 : decode (mB 91) 49 = .ok (.iload_n 1, 1) := by decide +kernel
theorem q91_50 : cfB 91 50 143 56 1 4 1 = true := by decide +kernel
theorem q91_53 : decode (mB 91) 53 = .ok (.ireturn, 1) := by decide +kernel
theorem q92_0 : decode (mB 92) 0 = .ok (.iload_n 1, 1) := by decide +kernel
theorem q92_1 : cfB 92 1 122 124 0 4 1 = true := by decide +kernel
theorem q92_4 : decode (mB 92) 4 = .ok (.aload_n 0, 1) := by decide +kernel
theorem q92_5 : gfB 92 5 10 7 0 = true := by decide +kernel
theorem q92_8 : decode (mB 92) 8 = .ok (.iload_n 1, 1) := by decide +kernel
theorem q92_9 : cfB 92 9 152 57 1 4 1 = true := by decide +kernel
theorem q92_12 : decode (mB 92) 12 = .ok (.iconst (-1), 1) := by decide +kernel
theorem q92_13 : decode (mB 92) 13 = .ok (.if_icmp .ne 13, 3) := by decide +kernel
theorem q92_16 : thI 92 16 1 9 := th_of (ik := 83) (is := 155) (w := false) (by decide +kernel)
theorem q92_26 : decode (mB 92) 26 = .ok (.aload_n 0, 1) := by decide +kernel
theorem q92_27 : gfB 92 27 10 7 0 = true := by decide +kernel
theorem q92_30 : decode (mB 92) 30 = .ok (.iload_n 1, 1) := by decide +kernel
theorem q92_31 : decode (mB 92) 31 = .ok (.iconst (-1), 1) := by decide +kernel
theorem q92_32 : cfB 92 32 148 67 1 4 2 = true := by decide +kernel
theorem q92_35 : decode (mB 92) 35 = .ok (.aload_n 0, 1) := by decide +kernel
theorem q92_36 : gfB 92 36 37 7 3 = true := by decide +kernel
theorem q92_39 : cfB 92 39 92 47 1 4 0 = true := by decide +kernel
theorem q92_42 : decode (mB 92) 42 = .ok (.aload_n 0, 1) := by decide +kernel
theorem q92_43 : gfB 92 43 10 7 0 = true := by decide +kernel
theorem q92_46 : decode (mB 92) 46 = .ok (.iload_n 1, 1) := by decide +kernel
theorem q92_47 : cfB 92 47 143 56 1 4 1 = true := by decide +kernel
theorem q92_50 : decode (mB 92) 50 = .ok (.ireturn, 1) := by decide +kernel
theorem q93_0 : decode (mB 93) 0 = .ok (.iload_n 1, 1) := by decide +kernel
theorem q93_1 : cfB 93 1 122 124 0 4 1 = true := by decide +kernel
theorem q93_4 : decode (mB 93) 4 = .ok (.aload_n 0, 1) := by decide +kernel
theorem q93_5 : gfB 93 5 37 7 3 = true := by decide +kernel
theorem q93_8 : cfB 93 8 92 47 1 4 0 = true := by decide +kernel
theorem q93_11 : decode (mB 93) 11 = .ok (.aload_n 0, 1) := by decide +kernel
theorem q93_12 : gfB 93 12 21 7 1 = true := by decide +kernel
theorem q93_15 : decode (mB 93) 15 = .ok (.iload_n 1, 1) := by decide +kernel
theorem q93_16 : decode (mB 93) 16 = .ok (.iload_n 2, 1) := by decide +kernel
theorem q93_17 : cfB 93 17 157 26 1 4 2 = true := by decide +kernel
theorem q93_20 : decode (mB 93) 20 = .ok (.ireturn, 1) := by decide +kernel
theorem q94_0 : decode (mB 94) 0 = .ok (.iload_n 1, 1) := by decide +kernel
theorem q94_1 : cfB 94 1 161 123 0 4 1 = true := by decide +kernel
theorem q94_4 : decode (mB 94) 4 = .ok (.ifCond .ne 19, 3) := by decide +kernel
theorem q94_7 : decode (mB 94) 7 = .ok (.iload_n 1, 1) := by decide +kernel
theorem q94_8 : decode (mB 94) 8 = .ok (.bipush 45, 2) := by decide +kernel
theorem q94_10 : decode (mB 94) 10 = .ok (.if_icmp .eq 13, 3) := by decide +kernel
theorem q94_13 : thI 94 13 0 10 := th_of (ik := 72) (is := 165) (w := false) (by decide +kernel)
theorem q94_23 : decode (mB 94) 23 = .ok (.aload_n 0, 1) := by decide +kernel
theorem q94_24 : gfB 94 24 37 7 3 = true := by decide +kernel
theorem q94_27 : cfB 94 27 92 47 1 4 0 = true := by decide +kernel
theorem q94_30 : decode (mB 94) 30 = .ok (.aload_n 0, 1) := by decide +kernel
theorem q94_31 : gfB 94 31 21 7 1 = true := by decide +kernel
theorem q94_34 : decode (mB 94) 34 = .ok (.iload_n 1, 1) := by decide +kernel
theorem q94_35 : cfB 94 35 167 27 1 4 1 = true := by decide +kernel
theorem q94_38 : decode (mB 94) 38 = .ok (.ireturn, 1) := by decide +kernel
theorem q95_0 : decode (mB 95) 0 = .ok (.iload_n 1, 1) := by decide +kernel
theorem q95_1 : decode (mB 95) 1 = .ok (.iload_n 2, 1) := by decide +kernel
theorem q95_2 : cfB 95 2 171 126 0 4 2 = true := by decide +kernel
theorem q95_5 : decode (mB 95) 5 = .ok (.aload_n 0, 1) := by decide +kernel
theorem q95_6 : gfB 95 6 21 7 1 = true := by decide +kernel
theorem q95_9 : decode (mB 95) 9 = .ok (.iload_n 1, 1) := by decide +kernel
theorem q95_10 : decode (mB 95) 10 = .ok (.iload_n 2, 1) := by decide +kernel
theorem q95_11 : cfB 95 11 174 28 1 4 2 = true := by decide +kernel
theorem q95_14 : decode (mB 95) 14 = .ok (.ifCond .eq 13, 3) := by decide +kernel
theorem q95_17 : thI 95 17 1 12 := th_of (ik := 83) (is := 178) (w := false) (by decide +kernel)
theorem q95_27 : decode (mB 95) 27 = .ok (.aload_n 0, 1) := by decide +kernel
theorem q95_28 : gfB 95 28 37 7 3 = true := by decide +kernel
theorem q95_31 : cfB 95 31 92 47 1 4 0 = true := by decide +kernel
theorem q95_34 : decode (mB 95) 34 = .ok (.aload_n 0, 1) := by decide +kernel
theorem q95_35 : gfB 95 35 21 7 1 = true := by decide +kernel
theorem q95_38 : decode (mB 95) 38 = .ok (.iload_n 1, 1) := by decide +kernel
theorem q95_39 : decode (mB 95) 39 = .ok (.iload_n 2, 1) := by decide +kernel
theorem q95_40 : cfB 95 40 180 29 1 4 2 = true := by decide +kernel
theorem q95_43 : decode (mB 95) 43 = .ok (.ireturn, 1) := by decide +kernel
theorem q96_0 : decode (mB 96) 0 = .ok (.iload_n 1, 1) := by decide +kernel
theorem q96_1 : decode (mB 96) 1 = .ok (.iload_n 2, 1) := by decide +kernel
theorem q96_2 : cfB 96 2 171 126 0 4 2 = true := by decide +kernel
theorem q96_5 : decode (mB 96) 5 = .ok (.aload_n 0, 1) := by decide +kernel
theorem q96_6 : gfB 96 6 21 7 1 = true := by decide +kernel
theorem q96_9 : decode (mB 96) 9 = .ok (.iload_n 1, 1) := by decide +kernel
theorem q96_10 : decode (mB 96) 10 = .ok (.iload_n 2, 1) := by decide +kernel
theorem q96_11 : cfB 96 11 174 28 1 4 2 = true := by decide +kernel
theorem q96_14 : decode (mB 96) 14 = .ok (.ifCond .ne 13, 3) := by decide +kernel
theorem q96_17 : thI 96 17 1 13 := th_of (ik := 83) (is := 183) (w := false) (by decide +kernel)
theorem q96_27 : decode (mB 96) 27 = .ok (.aload_n 0, 1) := by decide +kernel
theorem q96_28 : gfB 96 28 37 7 3 = true := by decide +kernel
theorem q96_31 : cfB 96 31 92 47 1 4 0 = true := by decide +kernel
theorem q96_34 : decode (mB 96) 34 = .ok (.aload_n 0, 1) := by decide +kernel
theorem q96_35 : gfB 96 35 21 7 1 = true := by decide +kernel
theorem q96_38 : decode (mB 96) 38 = .ok (.iload_n 1, 1) := by decide +kernel
theorem q96_39 : decode (mB 96) 39 = .ok (.iload_n 2, 1) := by decide +kernel
theorem q96_40 : cfB 96 40 180 29 1 4 2 = true := by decide +kernel
theorem q96_43 : decode (mB 96) 43 = .ok (.ireturn, 1) := by decide +kernel
theorem q97_0 : decode (mB 97) 0 = .ok (.aload_n 0, 1) := by decide +kernel
theorem q97_1 : gfB 97 1 28 7 2 = true := by decide +kernel
theorem q97_4 : decode (mB 97) 4 = .ok (.iload_n 1, 1) := by decide +kernel
theorem q97_5 : cfB 97 5 185 19 1 4 1 = true := by decide +kernel
theorem q97_8 : decode (mB 97) 8 = .ok (.ifCond .ne 13, 3) := by decide +kernel
theorem q97_11 : thI 97 11 2 14 := th_of (ik := 98) (is := 188) (w := false) (by decide +kernel)
theorem q97_21 : decode (mB 97) 21 = .ok (.iload_n 2, 1) := by decide +kernel
theorem q97_22 : decode (mB 97) 22 = .ok (.ifCond .lt 9, 3) := by decide +kernel
theorem q97_25 : decode (mB 97) 25 = .ok (.iload_n 2, 1) := by decide +kernel
theorem q97_26 : decode (mB 97) 26 = .ok (.bipush 99, 2) := by decide +kernel
theorem q97_28 : decode (mB 97) 28 = .ok (.if_icmp .le 13, 3) := by decide +kernel
theorem q97_31 : thI 97 31 0 15 := th_of (ik := 72) (is := 190) (w := false) (by decide +kernel)
theorem q97_41 : decode (mB 97) 41 = .ok (.aload_n 0, 1) := by decide +kernel
theorem q97_42 : gfB 97 42 37 7 3 = true := by decide +kernel
theorem q97_45 : cfB 97 45 92 47 1 4 0 = true := by decide +kernel
theorem q97_48 : decode (mB 97) 48 = .ok (.aload_n 0, 1) := by decide +kernel
theorem q97_49 : gfB 97 49 28 7 2 = true := by decide +kernel
theorem q97_52 : decode (mB 97) 52 = .ok (.iload_n 1, 1) := by decide +kernel
theorem q97_53 : decode (mB 97) 53 = .ok (.iload_n 2, 1) := by decide +kernel
theorem q97_54 : cfB 97 54 192 20 1 4 2 = true := by decide +kernel
theorem q97_57 : decode (mB 97) 57 = .ok (.ireturn, 1) := by decide +kernel
theorem q98_0 : decode (mB 98) 0 = .ok (.aload_n 0, 1) := by decide +kernel
theorem q98_1 : gfB 98 1 44 7 4 = true := by decide +kernel
theorem q98_4 : cfB 98 4 195 77 1 4 0 = true := by decide +kernel
theorem q98_7 : decode (mB 98) 7 = .ok (.aload_n 0, 1) := by decide +kernel
theorem q98_8 : gfB 98 8 44 7 4 = true := by decide +kernel
theorem q98_11 : cfB 98 11 198 75 1 4 0 = true := by decide +kernel
theorem q98_14 : decode (mB 98) 14 = .ok (.ireturn, 1) := by decide +kernel
theorem q99_0 : decode (mB 99) 0 = .ok (.aload_n 0, 1) := by decide +kernel
theorem q99_1 : gfB 99 1 37 7 3 = true := by decide +kernel
theorem q99_4 : cfB 99 4 201 48 1 4 0 = true := by decide +kernel
theorem q99_7 : decode (mB 99) 7 = .ok (.astore_n 2, 1) := by decide +kernel
theorem q99_8 : decode (mB 99) 8 = .ok (.aload_n 2, 1) := by decide +kernel
theorem q99_9 : decode (mB 99) 9 = .ok (.iload_n 1, 1) := by decide +kernel
theorem q99_10 : cfB 99 10 205 127 0 4 2 = true := by decide +kernel
theorem q99_13 : decode (mB 99) 13 = .ok (.aload_n 2, 1) := by decide +kernel
theorem q99_14 : decode (mB 99) 14 = .ok (.iload_n 1, 1) := by decide +kernel
theorem q99_15 : cfB 99 15 209 3 1 4 1 = true := by decide +kernel
theorem q99_18 : cfB 99 18 214 44 0 4 1 = true := by decide +kernel
theorem q99_21 : decode (mB 99) 21 = .ok (.ireturn, 1) := by decide +kernel
theorem q100_0 : decode (mB 100) 0 = .ok (.aload_n 0, 1) := by decide +kernel
theorem q100_1 : gfB 100 1 10 7 0 = true := by decide +kernel
theorem q100_4 : cfB 100 4 220 63 1 4 0 = true := by decide +kernel
theorem q100_7 : decode (mB 100) 7 = .ok (.iconst 3, 1) := by decide +kernel
theorem q100_8 : decode (mB 100) 8 = .ok (.if_icmp .le 13, 3) := by decide +kernel
theorem q100_11 : thI 100 11 5 17 := th_of (ik := 223) (is := 225) (w := false) (by decide +kernel)
theorem q100_21 : decode (mB 100) 21 = .ok (.aload_n 0, 1) := by decide +kernel
theorem q100_22 : gfB 100 22 44 7 4 = true := by decide +kernel
theorem q100_25 : cfB 100 25 195 77 1 4 0 = true := by decide +kernel
theorem q100_28 : decode (mB 100) 28 = .ok (.aload_n 0, 1) := by decide +kernel
theorem q100_29 : gfB 100 29 44 7 4 = true := by decide +kernel
theorem q100_32 : cfB 100 32 228 74 1 4 0 = true := by decide +kernel
theorem q100_35 : decode (mB 100) 35 = .ok (.astore_n 2, 1) := by decide +kernel
theorem q100_36 : decode (mB 100) 36 = .ok (.aload_n 2, 1) := by decide +kernel
theorem q100_37 : decode (mB 100) 37 = .ok (.iload_n 1, 1) := by decide +kernel
theorem q100_38 : cfB 100 38 205 127 0 4 2 = true := by decide +kernel
theorem q100_41 : decode (mB 100) 41 = .ok (.aload_n 2, 1) := by decide +kernel
theorem q100_42 : decode (mB 100) 42 = .ok (.iload_n 1, 1) := by decide +kernel
theorem q100_43 : cfB 100 43 209 3 1 4 1 = true := by decide +kernel
theorem q100_46 : cfB 100 46 214 44 0 4 1 = true := by decide +kernel
theorem q100_49 : decode (mB 100) 49 = .ok (.ireturn, 1) := by decide +kernel
theorem q101_0 : decode (mB 101) 0 = .ok (.aload_n 0, 1) := by decide +kernel
theorem q101_1 : gfB 101 1 37 7 3 = true := by decide +kernel
theorem q101_4 : cfB 101 4 201 48 1 4 0 = true := by decide +kernel
theorem q101_7 : decode (mB 101) 7 = .ok (.astore_n 2, 1) := by decide +kernel
theorem q101_8 : decode (mB 101) 8 = .ok (.aload_n 2, 1) := by decide +kernel
theorem q101_9 : decode (mB 101) 9 = .ok (.iload_n 1, 1) := by decide +kernel
theorem q101_10 : cfB 101 10 205 127 0 4 2 = true := by decide +kernel
theorem q101_13 : decode (mB 101) 13 = .ok (.aload_n 2, 1) := by decide +kernel
theorem q101_14 : decode (mB 101) 14 = .ok (.iload_n 1, 1) := by decide +kernel
theorem q101_15 : cfB 101 15 229 4 1 4 1 = true := by decide +kernel
theorem q101_18 : cfB 101 18 232 9 0 4 1 = true := by decide +kernel
theorem q101_21 : decode (mB 101) 21 = .ok (.ireturn, 1) := by decide +kernel
theorem q102_0 : decode (mB 102) 0 = .ok (.aload_n 0, 1) := by decide +kernel
theorem q102_1 : gfB 102 1 37 7 3 = true := by decide +kernel
theorem q102_4 : cfB 102 4 201 48 1 4 0 = true := by decide +kernel
theorem q102_7 : decode (mB 102) 7 = .ok (.astore_n 2, 1) := by decide +kernel
theorem q102_8 : decode (mB 102) 8 = .ok (.aload_n 2, 1) := by decide +kernel
theorem q102_9 : decode (mB 102) 9 = .ok (.iload_n 1, 1) := by decide +kernel
theorem q102_10 : cfB 102 10 205 127 0 4 2 = true := by decide +kernel
theorem q102_13 : decode (mB 102) 13 = .ok (.aload_n 2, 1) := by decide +kernel
theorem q102_14 : decode (mB 102) 14 = .ok (.iload_n 1, 1) := by decide +kernel
theorem q102_15 : cfB 102 15 229 4 1 4 1 = true := by decide +kernel
theorem q102_18 : cfB 102 18 236 10 0 4 1 = true := by decide +kernel
theorem q102_21 : decode (mB 102) 21 = .ok (.ireturn, 1) := by decide +kernel
theorem q103_0 : decode (mB 103) 0 = .ok (.aload_n 0, 1) := by decide +kernel
theorem q103_1 : gfB 103 1 37 7 3 = true := by decide +kernel
theorem q103_4 : cfB 103 4 201 48 1 4 0 = true := by decide +kernel
theorem q103_7 : decode (mB 103) 7 = .ok (.astore_n 3, 1) := by decide +kernel
theorem q103_8 : decode (mB 103) 8 = .ok (.aload_n 3, 1) := by decide +kernel
theorem q103_9 : decode (mB 103) 9 = .ok (.iload_n 1, 1) := by decide +kernel
theorem q103_10 : cfB 103 10 205 127 0 4 2 = true := by decide +kernel
theorem q103_13 : decode (mB 103) 13 = .ok (.iload_n 2, 1) := by decide +kernel
theorem q103_14 : cfB 103 14 239 125 0 4 1 = true := by decide +kernel
theorem q103_17 : decode (mB 103) 17 = .ok (.aload_n 3, 1) := by decide +kernel
theorem q103_18 : decode (mB 103) 18 = .ok (.iload_n 1, 1) := by decide +kernel
theorem q103_19 : cfB 103 19 229 4 1 4 1 = true := by decide +kernel
theorem q103_22 : decode (mB 103) 22 = .ok (.iload_n 2, 1) := by decide +kernel
theorem q103_23 : cfB 103 23 242 11 0 4 2 = true := by decide +kernel
theorem q103_26 : decode (mB 103) 26 = .ok (.ireturn, 1) := by decide +kernel
theorem q104_0 : decode (mB 104) 0 = .ok (.iload_n 1, 1) := by decide +kernel
theorem q104_1 : decode (mB 104) 1 = .ok (.ifCond .lt 9, 3) := by decide +kernel
theorem q104_4 : decode (mB 104) 4 = .ok (.iload_n 1, 1) := by decide +kernel
theorem q104_5 : decode (mB 104) 5 = .ok (.bipush 99, 2) := by decide +kernel
theorem q104_7 : decode (mB 104) 7 = .ok (.if_icmp .le 13, 3) := by decide +kernel
theorem q104_10 : thI 104 10 0 18 := th_of (ik := 72) (is := 245) (w := false) (by decide +kernel)
theorem q104_20 : decode (mB 104) 20 = .ok (.aload_n 0, 1) := by decide +kernel
theorem q104_21 : gfB 104 21 55 7 6 = true := by decide +kernel
theorem q104_24 : decode (mB 104) 24 = .ok (.istore_n 2, 1) := by decide +kernel
theorem q104_25 : decode (mB 104) 25 = .ok (.aload_n 0, 1) := by decide +kernel
theorem q104_26 : decode (mB 104) 26 = .ok (.iload_n 1, 1) := by decide +kernel
theorem q104_27 : pfB 104 27 55 7 6 = true := by decide +kernel
theorem q104_30 : decode (mB 104) 30 = .ok (.iload_n 2, 1) := by decide +kernel
theorem q104_31 : decode (mB 104) 31 = .ok (.ireturn, 1) := by decide +kernel
theorem q105_0 : decode (mB 105) 0 = .ok (.aload_n 0, 1) := by decide +kernel
theorem q105_1 : gfB 105 1 37 7 3 = true := by decide +kernel
theorem q105_4 : cfB 105 4 201 48 1 4 0 = true := by decide +kernel
theorem q105_7 : decode (mB 105) 7 = .ok (.astore_n 1, 1) := by decide +kernel
theorem q105_8 : decode (mB 105) 8 = .ok (.aload_n 1, 1) := by decide +kernel
theorem q105_9 : decode (mB 105) 9 = .ok (.iconst 0, 1) := by decide +kernel
theorem q105_10 : cfB 105 10 247 2 1 4 1 = true := by decide +kernel
theorem q105_13 : decode (mB 105) 13 = .ok (.ifCond .ne 13, 3) := by decide +kernel
theorem q105_16 : thI 105 16 4 19 := th_of (ik := 250) (is := 252) (w := false) (by decide +kernel)
theorem q105_26 : decode (mB 105) 26 = .ok (.aload_n 0, 1) := by decide +kernel
theorem q105_27 : gfB 105 27 51 7 5 = true := by decide +kernel
theorem q105_30 : cfB 105 30 255 36 1 4 0 = true := by decide +kernel
theorem q105_33 : decode (mB 105) 33 = .ok (.ifCond .eq 20, 3) := by decide +kernel
theorem q105_36 : decode (mB 105) 36 = .ok (.aload_n 0, 1) := by decide +kernel
theorem q105_37 : decode (mB 105) 37 = .ok (.aload_n 0, 1) := by decide +kernel
theorem q105_38 : gfB 105 38 51 7 5 = true := by decide +kernel
theorem q105_41 : cfB 105 41 259 37 1 4 0 = true := by decide +kernel
theorem q105_44 : decode (mB 105) 44 = .ok (.aload_n 1, 1) := by decide +kernel
theorem q105_45 : cfB 105 45 262 130 1 4 2 = true := by decide +kernel
theorem q105_48 : decode (mB 105) 48 = .ok (.ifCond .eq 5, 3) := by decide +kernel
theorem q105_51 : decode (mB 105) 51 = .ok (.iconst 0, 1) := by decide +kernel
theorem q105_52 : decode (mB 105) 52 = .ok (.ireturn, 1) := by decide +kernel
theorem q105_53 : decode (mB 105) 53 = .ok (.aload_n 0, 1) := by decide +kernel
theorem q105_54 : gfB 105 54 51 7 5 = true := by decide +kernel
theorem q105_57 : decode (mB 105) 57 = .ok (.aload_n 1, 1) := by decide +kernel
theorem q105_58 : decode (mB 105) 58 = .ok (.iconst 0, 1) := by decide +kernel
theorem q105_59 : cfB 105 59 229 4 1 4 1 = true := by decide +kernel
theorem q105_62 : cfB 105 62 266 39 1 4 1 = true := by decide +kernel
theorem q105_65 : decode (mB 105) 65 = .ok (.iconst 1, 1) := by decide +kernel
theorem q105_66 : decode (mB 105) 66 = .ok (.ireturn, 1) := by decide +kernel
theorem q106_0 : decode (mB 106) 0 = .ok (.aload_n 0, 1) := by decide +kernel
theorem q106_1 : cfB 106 1 269 128 1 4 0 = true := by decide +kernel
theorem q106_4 : decode (mB 106) 4 = .ok (.aload_n 0, 1) := by decide +kernel
theorem q106_5 : gfB 106 5 51 7 5 = true := by decide +kernel
theorem q106_8 : cfB 106 8 259 37 1 4 0 = true := by decide +kernel
theorem q106_11 : cfB 106 11 232 9 0 4 1 = true := by decide +kernel
theorem q106_14 : decode (mB 106) 14 = .ok (.ireturn, 1) := by decide +kernel
theorem q107_0 : decode (mB 107) 0 = .ok (.aload_n 0, 1) := by decide +kernel
theorem q107_1 : cfB 107 1 269 128 1 4 0 = true := by decide +kernel
theorem q107_4 : decode (mB 107) 4 = .ok (.aload_n 0, 1) := by decide +kernel
theorem q107_5 : gfB 107 5 51 7 5 = true := by decide +kernel
theorem q107_8 : cfB 107 8 259 37 1 4 0 = true := by decide +kernel
theorem q107_11 : cfB 107 11 236 10 0 4 1 = true := by decide +kernel
theorem q107_14 : decode (mB 107) 14 = .ok (.ireturn, 1) := by decide +kernel
theorem q108_0 : decode (mB 108) 0 = .ok (.iload_n 1, 1) := by decide +kernel
theorem q108_1 : cfB 108 1 239 125 0 4 1 = true := by decide +kernel
theorem q108_4 : decode (mB 108) 4 = .ok (.aload_n 0, 1) := by decide +kernel
theorem q108_5 : cfB 108 5 269 128 1 4 0 = true := by decide +kernel
theorem q108_8 : decode (mB 108) 8 = .ok (.aload_n 0, 1) := by decide +kernel
theorem q108_9 : gfB 108 9 51 7 5 = true := by decide +kernel
theorem q108_12 : cfB 108 12 259 37 1 4 0 = true := by decide +kernel
theorem q108_15 : decode (mB 108) 15 = .ok (.iload_n 1, 1) := by decide +kernel
theorem q108_16 : cfB 108 16 242 11 0 4 2 = true := by decide +kernel
theorem q108_19 : decode (mB 108) 19 = .ok (.ireturn, 1) := by decide +kernel
theorem q109_0 : decode (mB 109) 0 = .ok (.aload_n 0, 1) := by decide +kernel
theorem q109_1 : gfB 109 1 51 7 5 = true := by decide +kernel
theorem q109_4 : cfB 109 4 272 38 1 4 0 = true := by decide +kernel
theorem q109_7 : decode (mB 109) 7 = .ok (.ireturn, 1) := by decide +kernel
theorem q110_0 : decode (mB 110) 0 = .ok (.aload_n 0, 1) := by decide +kernel
theorem q110_1 : gfB 110 1 51 7 5 = true := by decide +kernel
theorem q110_4 : cfB 110 4 272 38 1 4 0 = true := by decide +kernel
theorem q110_7 : decode (mB 110) 7 = .ok (.ifCond .ne 14, 3) := by decide +kernel
theorem q110_10 : thI 110 10 1 21 := th_of (ik := 83) (is := 275) (w := true) (by decide +kernel)
theorem q110_21 : decode (mB 110) 21 = .ok (.aload_n 0, 1) := by decide +kernel
theorem q110_22 : gfB 110 22 51 7 5 = true := by decide +kernel
theorem q110_25 : cfB 110 25 277 40 1 4 0 = true := by decide +kernel
theorem q110_28 : decode (mB 110) 28 = .ok (.aload_n 0, 1) := by decide +kernel
theorem q110_29 : gfB 110 29 51 7 5 = true := by decide +kernel
theorem q110_32 : cfB 110 32 272 38 1 4 0 = true := by decide +kernel
theorem q110_35 : decode (mB 110) 35 = .ok (.ireturn, 1) := by decide +kernel
theorem q111_0 : decode (mB 111) 0 = .ok (.aload_n 0, 1) := by decide +kernel
theorem q111_1 : gfB 111 1 51 7 5 = true := by decide +kernel
theorem q111_4 : decode (mB 111) 4 = .ok (.aload_n 0, 1) := by decide +kernel
theorem q111_5 : gfB 111 5 21 7 1 = true := by decide +kernel
theorem q111_8 : cfB 111 8 280 41 1 4 1 = true := by decide +kernel
theorem q111_11 : decode (mB 111) 11 = .ok (.ireturn, 1) := by decide +kernel
theorem q112_0 : decode (mB 112) 0 = .ok (.iload_n 1, 1) := by decide +kernel
theorem q112_1 : cfB 112 1 161 123 0 4 1 = true := by decide +kernel
theorem q112_4 : decode (mB 112) 4 = .ok (.ifCond .ne 13, 3) := by decide +kernel
theorem q112_7 : thI 112 7 0 10 := th_of (ik := 72) (is := 165) (w := false) (by decide +kernel)
theorem q112_17 : decode (mB 112) 17 = .ok (.aload_n 0, 1) := by decide +kernel
theorem q112_18 : gfB 112 18 65 7 7 = true := by decide +kernel
theorem q112_21 : cfB 112 21 232 9 0 4 1 = true := by decide +kernel
theorem q112_24 : decode (mB 112) 24 = .ok (.istore_n 2, 1) := by decide +kernel
theorem q112_25 : decode (mB 112) 25 = .ok (.aload_n 0, 1) := by decide +kernel
theorem q112_26 : decode (mB 112) 26 = .ok (.aload_n 0, 1) := by decide +kernel
theorem q112_27 : gfB 112 27 65 7 7 = true := by decide +kernel
theorem q112_30 : decode (mB 112) 30 = .ok (.iload_n 1, 1) := by decide +kernel
theorem q112_31 : cfB 112 31 284 12 0 4 2 = true := by decide +kernel
theorem q112_34 : pfB 112 34 65 7 7 = true := by decide +kernel
theorem q112_37 : decode (mB 112) 37 = .ok (.iload_n 2, 1) := by decide +kernel
theorem q112_38 : decode (mB 112) 38 = .ok (.ireturn, 1) := by decide +kernel
theorem q113_0 : decode (mB 113) 0 = .ok (.iload_n 1, 1) := by decide +kernel
theorem q113_1 : decode (mB 113) 1 = .ok (.ifCond .eq 24, 3) := by decide +kernel
theorem q113_4 : decode (mB 113) 4 = .ok (.iload_n 1, 1) := by decide +kernel
theorem q113_5 : decode (mB 113) 5 = .ok (.iconst 1, 1) := by decide +kernel
theorem q113_6 : decode (mB 113) 6 = .ok (.if_icmp .eq 19, 3) := by decide +kernel
theorem q113_9 : decode (mB 113) 9 = .ok (.iload_n 1, 1) := by decide +kernel
theorem q113_10 : decode (mB 113) 10 = .ok (.iconst 2, 1) := by decide +kernel
theorem q113_11 : decode (mB 113) 11 = .ok (.if_icmp .eq 14, 3) := by decide +kernel
theorem q113_14 : thI 113 14 0 22 := th_of (ik := 72) (is := 288) (w := true) (by decide +kernel)
theorem q113_25 : decode (mB 113) 25 = .ok (.aload_n 0, 1) := by decide +kernel
theorem q113_26 : gfB 113 26 65 7 7 = true := by decide +kernel
theorem q113_29 : cfB 113 29 236 10 0 4 1 = true := by decide +kernel
theorem q113_32 : decode (mB 113) 32 = .ok (.istore_n 2, 1) := by decide +kernel
theorem q113_33 : decode (mB 113) 33 = .ok (.aload_n 0, 1) := by decide +kernel
theorem q113_34 : decode (mB 113) 34 = .ok (.aload_n 0, 1) := by decide +kernel
theorem q113_35 : gfB 113 35 65 7 7 = true := by decide +kernel
theorem q113_38 : decode (mB 113) 38 = .ok (.iload_n 1, 1) := by decide +kernel
theorem q113_39 : cfB 113 39 290 13 0 4 2 = true := by decide +kernel
theorem q113_42 : pfB 113 42 65 7 7 = true := by decide +kernel
theorem q113_45 : decode (mB 113) 45 = .ok (.iload_n 2, 1) := by decide +kernel
theorem q113_46 : decode (mB 113) 46 = .ok (.ireturn, 1) := by decide +kernel
theorem q114_0 : decode (mB 114) 0 = .ok (.iload_n 1, 1) := by decide +kernel
theorem q114_1 : cfB 114 1 239 125 0 4 1 = true := by decide +kernel
theorem q114_4 : decode (mB 114) 4 = .ok (.iload_n 2, 1) := by decide +kernel
theorem q114_5 : decode (mB 114) 5 = .ok (.iconst (-1), 1) := by decide +kernel
theorem q114_6 : decode (mB 114) 6 = .ok (.if_icmp .eq 7, 3) := by decide +kernel
theorem q114_9 : decode (mB 114) 9 = .ok (.iload_n 2, 1) := by decide +kernel
theorem q114_10 : cfB 114 10 122 124 0 4 1 = true := by decide +kernel
theorem q114_13 : decode (mB 114) 13 = .ok (.aload_n 0, 1) := by decide +kernel
theorem q114_14 : gfB 114 14 65 7 7 = true := by decide +kernel
theorem q114_17 : decode (mB 114) 17 = .ok (.iload_n 1, 1) := by decide +kernel
theorem q114_18 : cfB 114 18 242 11 0 4 2 = true := by decide +kernel
theorem q114_21 : decode (mB 114) 21 = .ok (.istore_n 3, 1) := by decide +kernel
theorem q114_22 : decode (mB 114) 22 = .ok (.iload_n 2, 1) := by decide +kernel
theorem q114_23 : decode (mB 114) 23 = .ok (.iload_n 3, 1) := by decide +kernel
theorem q114_24 : decode (mB 114) 24 = .ok (.if_icmp .eq 25, 3) := by decide +kernel
theorem q114_27 : decode (mB 114) 27 = .ok (.aload_n 0, 1) := by decide +kernel
theorem q114_28 : gfB 114 28 65 7 7 = true := by decide +kernel
theorem q114_31 : decode (mB 114) 31 = .ok (.iload_n 2, 1) := by decide +kernel
theorem q114_32 : cfB 114 32 293 16 0 4 2 = true := by decide +kernel
theorem q114_35 : decode (mB 114) 35 = .ok (.ifCond .eq 14, 3) := by decide +kernel
theorem q114_38 : thI 114 38 1 23 := th_of (ik := 83) (is := 296) (w := true) (by decide +kernel)
theorem q114_49 : decode (mB 114) 49 = .ok (.aload_n 0, 1) := by decide +kernel
theorem q114_50 : decode (mB 114) 50 = .ok (.aload_n 0, 1) := by decide +kernel
theorem q114_51 : gfB 114 51 65 7 7 = true := by decide +kernel
theorem q114_54 : decode (mB 114) 54 = .ok (.iload_n 1, 1) := by decide +kernel
theorem q114_55 : decode (mB 114) 55 = .ok (.iload_n 2, 1) := by decide +kernel
theorem q114_56 : cfB 114 56 298 14 0 4 3 = true := by decide +kernel
theorem q114_59 : pfB 114 59 65 7 7 = true := by decide +kernel
theorem q114_62 : decode (mB 114) 62 = .ok (.iload_n 3, 1) := by decide +kernel
theorem q114_63 : decode (mB 114) 63 = .ok (.ireturn, 1) := by decide +kernel
theorem q115_0 : decode (mB 115) 0 = .ok (.aload_n 0, 1) := by decide +kernel
theorem q115_1 : gfB 115 1 21 7 1 = true := by decide +kernel
theorem q115_4 : decode (mB 115) 4 = .ok (.aload_n 0, 1) := by decide +kernel
theorem q115_5 : gfB 115 5 65 7 7 = true := by decide +kernel
theorem q115_8 : cfB 115 8 302 31 1 4 1 = true := by decide +kernel
theorem q115_11 : decode (mB 115) 11 = .ok (.ireturn, 1) := by decide +kernel
theorem q116_0 : decode (mB 116) 0 = .ok (.aload_n 0, 1) := by decide +kernel
theorem q116_1 : gfB 116 1 28 7 2 = true := by decide +kernel
theorem q116_4 : decode (mB 116) 4 = .ok (.aload_n 0, 1) := by decide +kernel
theorem q116_5 : gfB 116 5 65 7 7 = true := by decide +kernel
theorem q116_8 : cfB 116 8 305 22 1 4 1 = true := by decide +kernel
theorem q116_11 : decode (mB 116) 11 = .ok (.ireturn, 1) := by decide +kernel
theorem q117_0 : decode (mB 117) 0 = .ok (.aload_n 0, 1) := by decide +kernel
theorem q117_1 : cfB 117 1 308 129 1 4 0 = true := by decide +kernel
theorem q117_4 : decode (mB 117) 4 = .ok (.aload_n 0, 1) := by decide +kernel
theorem q117_5 : gfB 117 5 28 7 2 = true := by decide +kernel
theorem q117_8 : decode (mB 117) 8 = .ok (.aload_n 0, 1) := by decide +kernel
theorem q117_9 : gfB 117 9 65 7 7 = true := by decide +kernel
theorem q117_12 : cfB 117 12 311 21 1 4 1 = true := by decide +kernel
theorem q117_15 : decode (mB 117) 15 = .ok (.ireturn, 1) := by decide +kernel
theorem q118_0 : decode (mB 118) 0 = .ok (.aload_n 0, 1) := by decide +kernel
theorem q118_1 : cfB 118 1 308 129 1 4 0 = true := by decide +kernel
theorem q118_4 : decode (mB 118) 4 = .ok (.aload_n 0, 1) := by decide +kernel
theorem q118_5 : gfB 118 5 44 7 4 = true := by decide +kernel
theorem q118_8 : decode (mB 118) 8 = .ok (.aload_n 0, 1) := by decide +kernel
theorem q118_9 : gfB 118 9 65 7 7 = true := by decide +kernel
theorem q118_12 : cfB 118 12 313 76 1 4 1 = true := by decide +kernel
theorem q118_15 : decode (mB 118) 15 = .ok (.ireturn, 1) := by decide +kernel
theorem q119_0 : decode (mB 119) 0 = .ok (.aload_n 0, 1) := by decide +kernel
theorem q119_1 : gfB 119 1 37 7 3 = true := by decide +kernel
theorem q119_4 : cfB 119 4 201 48 1 4 0 = true := by decide +kernel
theorem q119_7 : decode (mB 119) 7 = .ok (.astore_n 1, 1) := by decide +kernel
theorem q119_8 : decode (mB 119) 8 = .ok (.aload_n 0, 1) := by decide +kernel
theorem q119_9 : gfB 119 9 44 7 4 = true := by decide +kernel
theorem q119_12 : cfB 119 12 195 77 1 4 0 = true := by decide +kernel
theorem q119_15 : decode (mB 119) 15 = .ok (.aload_n 0, 1) := by decide +kernel
theorem q119_16 : decode (mB 119) 16 = .ok (.aload_n 1, 1) := by decide +kernel
theorem q119_17 : cfB 119 17 316 131 1 4 1 = true := by decide +kernel
theorem q119_20 : decode (mB 119) 20 = .ok (.ifCond .eq 30, 3) := by decide +kernel
theorem q119_23 : decode (mB 119) 23 = .ok (.aload_n 0, 1) := by decide +kernel
theorem q119_24 : decode (mB 119) 24 = .ok (.aload_n 1, 1) := by decide +kernel
theorem q119_25 : cfB 119 25 320 132 1 4 1 = true := by decide +kernel
theorem q119_28 : decode (mB 119) 28 = .ok (.ifCond .eq 22, 3) := by decide +kernel
theorem q119_31 : decode (mB 119) 31 = .ok (.aload_n 0, 1) := by decide +kernel
theorem q119_32 : decode (mB 119) 32 = .ok (.aload_n 1, 1) := by decide +kernel
theorem q119_33 : decode (mB 119) 33 = .ok (.aload_n 0, 1) := by decide +kernel
theorem q119_34 : gfB 119 34 44 7 4 = true := by decide +kernel
theorem q119_37 : cfB 119 37 228 74 1 4 0 = true := by decide +kernel
theorem q119_40 : cfB 119 40 323 133 1 4 2 = true := by decide +kernel
theorem q119_43 : decode (mB 119) 43 = .ok (.ifCond .eq 7, 3) := by decide +kernel
theorem q119_46 : decode (mB 119) 46 = .ok (.iconst 1, 1) := by decide +kernel
theorem q119_47 : decode (mB 119) 47 = .ok (.goto 4, 3) := by decide +kernel
theorem q119_50 : decode (mB 119) 50 = .ok (.iconst 0, 1) := by decide +kernel
theorem q119_51 : decode (mB 119) 51 = .ok (.ireturn, 1) := by decide +kernel
theorem q120_0 : decode (mB 120) 0 = .ok (.iload_n 0, 1) := by decide +kernel
theorem q120_1 : decode (mB 120) 1 = .ok (.sipush (-10000), 3) := by decide +kernel
theorem q120_4 : decode (mB 120) 4 = .ok (.if_icmp .eq 17, 3) := by decide +kernel
theorem q120_7 : decode (mB 120) 7 = .ok (.iload_n 0, 1) := by decide +kernel
theorem q120_8 : decode (mB 120) 8 = .ok (.sipush (-9999), 3) := by decide +kernel
theorem q120_11 : decode (mB 120) 11 = .ok (.if_icmp .lt 14, 3) := by decide +kernel
theorem q120_14 : decode (mB 120) 14 = .ok (.iload_n 0, 1) := by decide +kernel
theorem q120_15 : decode (mB 120) 15 = .ok (.sipush 9999, 3) := by decide +kernel
theorem q120_18 : decode (mB 120) 18 = .ok (.if_icmp .gt 7, 3) := by decide +kernel
theorem q120_21 : decode (mB 120) 21 = .ok (.iconst 1, 1) := by decide +kernel
theorem q120_22 : decode (mB 120) 22 = .ok (.goto 4, 3) := by decide +kernel
theorem q120_25 : decode (mB 120) 25 = .ok (.iconst 0, 1) := by decide +kernel
theorem q120_26 : decode (mB 120) 26 = .ok (.ireturn, 1) := by decide +kernel
theorem q121_0 : decode (mB 121) 0 = .ok (.iload_n 0, 1) := by decide +kernel
theorem q121_1 : decode (mB 121) 1 = .ok (.ifCond .lt 13, 3) := by decide +kernel
theorem q121_4 : decode (mB 121) 4 = .ok (.iload_n 0, 1) := by decide +kernel
theorem q121_5 : decode (mB 121) 5 = .ok (.bipush 6, 2) := by decide +kernel
theorem q121_7 : decode (mB 121) 7 = .ok (.if_icmp .ge 7, 3) := by decide +kernel
theorem q121_10 : decode (mB 121) 10 = .ok (.iconst 1, 1) := by decide +kernel
theorem q121_11 : decode (mB 121) 11 = .ok (.goto 4, 3) := by decide +kernel
theorem q121_14 : decode (mB 121) 14 = .ok (.iconst 0, 1) := by decide +kernel
theorem q121_15 : decode (mB 121) 15 = .ok (.ireturn, 1) := by decide +kernel
theorem q122_0 : decode (mB 122) 0 = .ok (.iload_n 0, 1) := by decide +kernel
theorem q122_1 : decode (mB 122) 1 = .ok (.ifCond .lt 12, 3) := by decide +kernel
theorem q122_4 : decode (mB 122) 4 = .ok (.iload_n 0, 1) := by decide +kernel
theorem q122_5 : decode (mB 122) 5 = .ok (.iconst 4, 1) := by decide +kernel
theorem q122_6 : decode (mB 122) 6 = .ok (.if_icmp .ge 7, 3) := by decide +kernel
theorem q122_9 : decode (mB 122) 9 = .ok (.iconst 1, 1) := by decide +kernel
theorem q122_10 : decode (mB 122) 10 = .ok (.goto 4, 3) := by decide +kernel
theorem q122_13 : decode (mB 122) 13 = .ok (.iconst 0, 1) := by decide +kernel
theorem q122_14 : decode (mB 122) 14 = .ok (.ireturn, 1) := by decide +kernel
theorem q123_0 : decode (mB 123) 0 = .ok (.iload_n 0, 1) := by decide +kernel
theorem q123_1 : decode (mB 123) 1 = .ok (.bipush 98, 2) := by decide +kernel
theorem q123_3 : decode (mB 123) 3 = .ok (.if_icmp .eq 15, 3) := by decide +kernel
theorem q123_6 : decode (mB 123) 6 = .ok (.iload_n 0, 1) := by decide +kernel
theorem q123_7 : decode (mB 123) 7 = .ok (.bipush 108, 2) := by decide +kernel
theorem q123_9 : decode (mB 123) 9 = .ok (.if_icmp .eq 9, 3) := by decide +kernel
theorem q123_12 : decode (mB 123) 12 = .ok (.iload_n 0, 1) := by decide +kernel
theorem q123_13 : decode (mB 123) 13 = .ok (.bipush 112, 2) := by decide +kernel
theorem q123_15 : decode (mB 123) 15 = .ok (.if_icmp .ne 7, 3) := by decide +kernel
theorem q123_18 : decode (mB 123) 18 = .ok (.iconst 1, 1) := by decide +kernel
theorem q123_19 : decode (mB 123) 19 = .ok (.goto 4, 3) := by decide +kernel
theorem q123_22 : decode (mB 123) 22 = .ok (.iconst 0, 1) := by decide +kernel
theorem q123_23 : decode (mB 123) 23 = .ok (.ireturn, 1) := by decide +kernel
theorem q124_0 : decode (mB 124) 0 = .ok (.iload_n 0, 1) := by decide +kernel
theorem q124_1 : cfB 124 1 107 121 0 4 1 = true := by decide +kernel
theorem q124_4 : decode (mB 124) 4 = .ok (.ifCond .ne 14, 3) := by decide +kernel
theorem q124_7 : thI 124 7 2 5 := th_of (ik := 98) (is := 327) (w := true) (by decide +kernel)
theorem q124_18 : decode (mB 124) 18 = .ok (.return_, 1) := by decide +kernel
theorem q125_0 : decode (mB 125) 0 = .ok (.iload_n 0, 1) := by decide +kernel
theorem q125_1 : cfB 125 1 329 122 0 4 1 = true := by decide +kernel
theorem q125_4 : decode (mB 125) 4 = .ok (.ifCond .ne 14, 3) := by decide +kernel
theorem q125_7 : thI 125 7 2 11 := th_of (ik := 98) (is := 332) (w := true) (by decide +kernel)
theorem q125_18 : decode (mB 125) 18 = .ok (.return_, 1) := by decide +kernel
theorem q126_0 : decode (mB 126) 0 = .ok (.iload_n 0, 1) := by decide +kernel
theorem q126_1 : cfB 126 1 122 124 0 4 1 = true := by decide +kernel
theorem q126_4 : decode (mB 126) 4 = .ok (.iload_n 1, 1) := by decide +kernel
theorem q126_5 : cfB 126 5 239 125 0 4 1 = true := by decide +kernel
theorem q126_8 : decode (mB 126) 8 = .ok (.return_, 1) := by decide +kernel
theorem q127_0 : decode (mB 127) 0 = .ok (.aload_n 0, 1) := by decide +kernel
theorem q127_1 : decode (mB 127) 1 = .ok (.iload_n 1, 1) := by decide +kernel
theorem q127_2 : cfB 127 2 247 2 1 4 1 = true := by decide +kernel
theorem q127_5 : decode (mB 127) 5 = .ok (.ifCond .ne 14, 3) := by decide +kernel
theorem q127_8 : thI 127 8 4 16 := th_of (ik := 250) (is := 334) (w := true) (by decide +kernel)
theorem q127_19 : decode (mB 127) 19 = .ok (.return_, 1) := by decide +kernel
theorem q128_0 : decode (mB 128) 0 = .ok (.aload_n 0, 1) := by decide +kernel
theorem q128_1 : gfB 128 1 51 7 5 = true := by decide +kernel
theorem q128_4 : cfB 128 4 255 36 1 4 0 = true := by decide +kernel
theorem q128_7 : decode (mB 128) 7 = .ok (.ifCond .ne 14, 3) := by decide +kernel
theorem q128_10 : thI 128 10 1 20 := th_of (ik := 83) (is := 336) (w := true) (by decide +kernel)
theorem q128_21 : decode (mB 128) 21 = .ok (.return_, 1) := by decide +kernel
theorem q129_0 : decode (mB 129) 0 = .ok (.aload_n 0, 1) := by decide +kernel
theorem q129_1 : gfB 129 1 21 7 1 = true := by decide +kernel
theorem q129_4 : decode (mB 129) 4 = .ok (.aload_n 0, 1) := by decide +kernel
theorem q129_5 : gfB 129 5 65 7 7 = true := by decide +kernel
theorem q129_8 : cfB 129 8 338 30 1 4 1 = true := by decide +kernel
theorem q129_11 : decode (mB 129) 11 = .ok (.ifCond .ne 14, 3) := by decide +kernel
theorem q129_14 : thI 129 14 1 24 := th_of (ik := 83) (is := 341) (w := true) (by decide +kernel)
theorem q129_25 : decode (mB 129) 25 = .ok (.return_, 1) := by decide +kernel
theorem q130_0 : decode (mB 130) 0 = .ok (.aload_n 0, 1) := by decide +kernel
theorem q130_1 : gfB 130 1 21 7 1 = true := by decide +kernel
theorem q130_4 : decode (mB 130) 4 = .ok (.iload_n 1, 1) := by decide +kernel
theorem q130_5 : cfB 130 5 338 30 1 4 1 = true := by decide +kernel
theorem q130_8 : decode (mB 130) 8 = .ok (.ifCond .eq 31, 3) := by decide +kernel
theorem q130_11 : decode (mB 130) 11 = .ok (.aload_n 0, 1) := by decide +kernel
theorem q130_12 : gfB 130 12 28 7 2 = true := by decide +kernel
theorem q130_15 : decode (mB 130) 15 = .ok (.iload_n 1, 1) := by decide +kernel
theorem q130_16 : cfB 130 16 311 21 1 4 1 = true := by decide +kernel
theorem q130_19 : decode (mB 130) 19 = .ok (.aload_n 2, 1) := by decide +kernel
theorem q130_20 : decode (mB 130) 20 = .ok (.iconst 0, 1) := by decide +kernel
theorem q130_21 : cfB 130 21 209 3 1 4 1 = true := by decide +kernel
theorem q130_24 : cfB 130 24 214 44 0 4 1 = true := by decide +kernel
theorem q130_27 : decode (mB 130) 27 = .ok (.aload_n 0, 1) := by decide +kernel
theorem q130_28 : gfB 130 28 55 7 6 = true := by decide +kernel
theorem q130_31 : decode (mB 130) 31 = .ok (.iadd, 1) := by decide +kernel
theorem q130_32 : decode (mB 130) 32 = .ok (.if_icmp .gt 7, 3) := by decide +kernel
theorem q130_35 : decode (mB 130) 35 = .ok (.iconst 1, 1) := by decide +kernel
theorem q130_36 : decode (mB 130) 36 = .ok (.goto 4, 3) := by decide +kernel
theorem q130_39 : decode (mB 130) 39 = .ok (.iconst 0, 1) := by decide +kernel
theorem q130_40 : decode (mB 130) 40 = .ok (.ireturn, 1) := by decide +kernel
theorem q131_0 : decode (mB 131) 0 = .ok (.iconst 0, 1) := by decide +kernel
theorem q131_1 : decode (mB 131) 1 = .ok (.istore_n 2, 1) := by decide +kernel
theorem q131_2 : decode (mB 131) 2 = .ok (.iload_n 2, 1) := by decide +kernel
theorem q131_3 : decode (mB 131) 3 = .ok (.aload_n 1, 1) := by decide +kernel
theorem q131_4 : cfB 131 4 343 1 1 4 0 = true := by decide +kernel
theorem q131_7 : decode (mB 131) 7 = .ok (.if_icmp .ge 26, 3) := by decide +kernel
theorem q131_10 : decode (mB 131) 10 = .ok (.aload_n 0, 1) := by decide +kernel
theorem q131_11 : gfB 131 11 21 7 1 = true := by decide +kernel
theorem q131_14 : decode (mB 131) 14 = .ok (.aload_n 1, 1) := by decide +kernel
theorem q131_15 : decode (mB 131) 15 = .ok (.iload_n 2, 1) := by decide +kernel
theorem q131_16 : cfB 131 16 229 4 1 4 1 = true := by decide +kernel
theorem q131_19 : cfB 131 19 338 30 1 4 1 = true := by decide +kernel
theorem q131_22 : decode (mB 131) 22 = .ok (.ifCond .ne 5, 3) := by decide +kernel
theorem q131_25 : decode (mB 131) 25 = .ok (.iconst 0, 1) := by decide +kernel
theorem q131_26 : decode (mB 131) 26 = .ok (.ireturn, 1) := by decide +kernel
theorem q131_27 : decode (mB 131) 27 = .ok (.iinc 2 1, 3) := by decide +kernel
theorem q131_30 : decode (mB 131) 30 = .ok (.goto (-28), 3) := by decide +kernel
theorem q131_33 : decode (mB 131) 33 = .ok (.iconst 1, 1) := by decide +kernel
theorem q131_34 : decode (mB 131) 34 = .ok (.ireturn, 1) := by decide +kernel
theorem q132_0 : decode (mB 132) 0 = .ok (.iconst 1, 1) := by decide +kernel
theorem q132_1 : decode (mB 132) 1 = .ok (.istore_n 2, 1) := by decide +kernel
theorem q132_2 : decode (mB 132) 2 = .ok (.iload_n 2, 1) := by decide +kernel
theorem q132_3 : decode (mB 132) 3 = .ok (.aload_n 1, 1) := by decide +kernel
theorem q132_4 : cfB 132 4 343 1 1 4 0 = true := by decide +kernel
theorem q132_7 : decode (mB 132) 7 = .ok (.if_icmp .ge 56, 3) := by decide +kernel
theorem q132_10 : decode (mB 132) 10 = .ok (.aload_n 1, 1) := by decide +kernel
theorem q132_11 : decode (mB 132) 11 = .ok (.iload_n 2, 1) := by decide +kernel
theorem q132_12 : cfB 132 12 229 4 1 4 1 = true := by decide +kernel
theorem q132_15 : decode (mB 132) 15 = .ok (.istore_n 3, 1) := by decide +kernel
theorem q132_16 : decode (mB 132) 16 = .ok (.aload_n 1, 1) := by decide +kernel
theorem q132_17 : decode (mB 132) 17 = .ok (.iload_n 2, 1) := by decide +kernel
theorem q132_18 : decode (mB 132) 18 = .ok (.iconst 1, 1) := by decide +kernel
theorem q132_19 : decode (mB 132) 19 = .ok (.isub, 1) := by decide +kernel
theorem q132_20 : cfB 132 20 229 4 1 4 1 = true := by decide +kernel
theorem q132_23 : decode (mB 132) 23 = .ok (.istore 4, 2) := by decide +kernel
theorem q132_25 : decode (mB 132) 25 = .ok (.aload_n 0, 1) := by decide +kernel
theorem q132_26 : gfB 132 26 28 7 2 = true := by decide +kernel
theorem q132_29 : decode (mB 132) 29 = .ok (.iload_n 3, 1) := by decide +kernel
theorem q132_30 : cfB 132 30 311 21 1 4 1 = true := by decide +kernel
theorem q132_33 : decode (mB 132) 33 = .ok (.iload_n 3, 1) := by decide +kernel
theorem q132_34 : cfB 132 34 346 43 0 4 2 = true := by decide +kernel
theorem q132_37 : decode (mB 132) 37 = .ok (.aload_n 0, 1) := by decide +kernel
theorem q132_38 : gfB 132 38 28 7 2 = true := by decide +kernel
theorem q132_41 : decode (mB 132) 41 = .ok (.iload 4, 2) := by decide +kernel
theorem q132_43 : cfB 132 43 311 21 1 4 1 = true := by decide +kernel
theorem q132_46 : decode (mB 132) 46 = .ok (.iload 4, 2) := by decide +kernel
theorem q132_48 : cfB 132 48 346 43 0 4 2 = true := by decide +kernel
theorem q132_51 : decode (mB 132) 51 = .ok (.lcmp, 1) := by decide +kernel
theorem q132_52 : decode (mB 132) 52 = .ok (.ifCond .ge 5, 3) := by decide +kernel
theorem q132_55 : decode (mB 132) 55 = .ok (.iconst 0, 1) := by decide +kernel
theorem q132_56 : decode (mB 132) 56 = .ok (.ireturn, 1) := by decide +kernel
theorem q132_57 : decode (mB 132) 57 = .ok (.iinc 2 1, 3) := by decide +kernel
theorem q132_60 : decode (mB 132) 60 = .ok (.goto (-58), 3) := by decide +kernel
theorem q132_63 : decode (mB 132) 63 = .ok (.iconst 1, 1) := by decide +kernel
theorem q132_64 : decode (mB 132) 64 = .ok (.ireturn, 1) := by decide +kernel
theorem q133_0 : decode (mB 133) 0 = .ok (.aload_n 1, 1) := by decide +kernel
theorem q133_1 : decode (mB 133) 1 = .ok (.iconst 0, 1) := by decide +kernel
theorem q133_2 : cfB 133 2 247 2 1 4 1 = true := by decide +kernel
theorem q133_5 : decode (mB 133) 5 = .ok (.ifCond .ne 17, 3) := by decide +kernel
theorem q133_8 : decode (mB 133) 8 = .ok (.aload_n 2, 1) := by decide +kernel
theorem q133_9 : decode (mB 133) 9 = .ok (.iconst 0, 1) := by decide +kernel
theorem q133_10 : cfB 133 10 247 2 1 4 1 = true := by decide +kernel
theorem q133_13 : decode (mB 133) 13 = .ok (.ifCond .ne 7, 3) := by decide +kernel
theorem q133_16 : decode (mB 133) 16 = .ok (.iconst 1, 1) := by decide +kernel
theorem q133_17 : decode (mB 133) 17 = .ok (.goto 4, 3) := by decide +kernel
theorem q133_20 : decode (mB 133) 20 = .ok (.iconst 0, 1) := by decide +kernel
theorem q133_21 : decode (mB 133) 21 = .ok (.ireturn, 1) := by decide +kernel
theorem q133_22 : decode (mB 133) 22 = .ok (.aload_n 2, 1) := by decide +kernel
theorem q133_23 : decode (mB 133) 23 = .ok (.iconst 0, 1) := by decide +kernel
theorem q133_24 : cfB 133 24 247 2 1 4 1 = true := by decide +kernel
theorem q133_27 : decode (mB 133) 27 = .ok (.ifCond .eq 30, 3) := by decide +kernel
theorem q133_30 : decode (mB 133) 30 = .ok (.aload_n 0, 1) := by decide +kernel
theorem q133_31 : gfB 133 31 28 7 2 = true := by decide +kernel
theorem q133_34 : decode (mB 133) 34 = .ok (.aload_n 1, 1) := by decide +kernel
theorem q133_35 : decode (mB 133) 35 = .ok (.iconst 0, 1) := by decide +kernel
theorem q133_36 : cfB 133 36 229 4 1 4 1 = true := by decide +kernel
theorem q133_39 : cfB 133 39 311 21 1 4 1 = true := by decide +kernel
theorem q133_42 : decode (mB 133) 42 = .ok (.aload_n 2, 1) := by decide +kernel
theorem q133_43 : decode (mB 133) 43 = .ok (.iconst 0, 1) := by decide +kernel
theorem q133_44 : cfB 133 44 209 3 1 4 1 = true := by decide +kernel
theorem q133_47 : cfB 133 47 214 44 0 4 1 = true := by decide +kernel
theorem q133_50 : decode (mB 133) 50 = .ok (.if_icmp .ne 7, 3) := by decide +kernel
theorem q133_53 : decode (mB 133) 53 = .ok (.iconst 1, 1) := by decide +kernel
theorem q133_54 : decode (mB 133) 54 = .ok (.goto 4, 3) := by decide +kernel
theorem q133_57 : decode (mB 133) 57 = .ok (.iconst 0, 1) := by decide +kernel
theorem q133_58 : decode (mB 133) 58 = .ok (.ireturn, 1) := by decide +kernel
