/-! what each instruction is, method by method (by program) -/

theorem q108_0 : (decide (108 < 152) && decide (decode (mB 108) 0 = .ok (.ldc 7, 2)) && (lks (mD 108)).contains (7, 6, 69069, 0)) = true := by decide +kernel
theorem q108_2 : decode (mB 108) 2 = .ok (.iload_n 1, 1) := by decide +kernel
theorem q108_3 : decode (mB 108) 3 = .ok (.aload_n 0, 1) := by decide +kernel
theorem q108_4 : decode (mB 108) 4 = .ok (.arraylength, 1) := by decide +kernel
theorem q108_5 : decode (mB 108) 5 = .ok (.if_icmp .ge 9, 3) := by decide +kernel
theorem q108_8 : decode (mB 108) 8 = .ok (.aload_n 0, 1) := by decide +kernel
theorem q108_9 : decode (mB 108) 9 = .ok (.iload_n 1, 1) := by decide +kernel
theorem q108_10 : decode (mB 108) 10 = .ok (.iaload, 1) := by decide +kernel
theorem q108_11 : decode (mB 108) 11 = .ok (.goto 4, 3) := by decide +kernel
theorem q108_14 : decode (mB 108) 14 = .ok (.iconst 0, 1) := by decide +kernel
theorem q108_15 : decode (mB 108) 15 = .ok (.sipush 1009, 3) := by decide +kernel
theorem q108_18 : decode (mB 108) 18 = .ok (.iload_n 1, 1) := by decide +kernel
theorem q108_19 : decode (mB 108) 19 = .ok (.imul, 1) := by decide +kernel
theorem q108_20 : decode (mB 108) 20 = .ok (.iadd, 1) := by decide +kernel
theorem q108_21 : decode (mB 108) 21 = .ok (.imul, 1) := by decide +kernel
theorem q108_22 : decode (mB 108) 22 = .ok (.sipush 12345, 3) := by decide +kernel
theorem q108_25 : decode (mB 108) 25 = .ok (.iadd, 1) := by decide +kernel
theorem q108_26 : decode (mB 108) 26 = .ok (.istore_n 2, 1) := by decide +kernel
theorem q108_27 : decode (mB 108) 27 = .ok (.iload_n 2, 1) := by decide +kernel
theorem q108_28 : decode (mB 108) 28 = .ok (.iload_n 2, 1) := by decide +kernel
theorem q108_29 : decode (mB 108) 29 = .ok (.bipush 13, 2) := by decide +kernel
theorem q108_31 : decode (mB 108) 31 = .ok (.iushr, 1) := by decide +kernel
theorem q108_32 : decode (mB 108) 32 = .ok (.ixor, 1) := by decide +kernel
theorem q108_33 : (decide (108 < 152) && decide (decode (mB 108) 33 = .ok (.ldc 8, 2)) && (lks (mD 108)).contains (8, 6, 1103515245, 0)) = true := by decide +kernel
theorem q108_35 : decode (mB 108) 35 = .ok (.imul, 1) := by decide +kernel
theorem q108_36 : decode (mB 108) 36 = .ok (.istore_n 2, 1) := by decide +kernel
theorem q108_37 : decode (mB 108) 37 = .ok (.iload_n 2, 1) := by decide +kernel
theorem q108_38 : decode (mB 108) 38 = .ok (.iload_n 2, 1) := by decide +kernel
theorem q108_39 : decode (mB 108) 39 = .ok (.bipush 16, 2) := by decide +kernel
theorem q108_41 : decode (mB 108) 41 = .ok (.iushr, 1) := by decide +kernel
theorem q108_42 : decode (mB 108) 42 = .ok (.ixor, 1) := by decide +kernel
theorem q108_43 : decode (mB 108) 43 = .ok (.ireturn, 1) := by decide +kernel
theorem q109_0 : decode (mB 109) 0 = .ok (.aload_n 0, 1) := by decide +kernel
theorem q109_1 : decode (mB 109) 1 = .ok (.iload_n 1, 1) := by decide +kernel
theorem q109_2 : decode (mB 109) 2 = .ok (.iload_n 2, 1) := by decide +kernel
theorem q109_3 : decode (mB 109) 3 = .ok (.iload_n 3, 1) := by decide +kernel
theorem q109_4 : decode (mB 109) 4 = .ok (.iload 4, 2) := by decide +kernel
theorem q109_6 : decode (mB 109) 6 = .ok (.iload 5, 2) := by decide +kernel
theorem q109_8 : decode (mB 109) 8 = .ok (.iload 6, 2) := by decide +kernel
theorem q109_10 : (cfB 109 10 9 72 1 4 6 && hC 109 10 [(0, 14, 7, 2), (1, 19, 7, 2)]) = true := by decide +kernel
theorem q109_13 : decode (mB 109) 13 = .ok (.ireturn, 1) := by decide +kernel
theorem q109_14 : decode (mB 109) 14 = .ok (.astore 7, 2) := by decide +kernel
theorem q109_16 : (decide (109 < 152) && decide (decode (mB 109) 16 = .ok (.ldc 17, 2)) && (lks (mD 109)).contains (17, 6, 4294067295, 0)) = true := by decide +kernel
theorem q109_18 : decode (mB 109) 18 = .ok (.ireturn, 1) := by decide +kernel
theorem q109_19 : decode (mB 109) 19 = .ok (.astore 7, 2) := by decide +kernel
theorem q109_21 : (decide (109 < 152) && decide (decode (mB 109) 21 = .ok (.ldc 20, 2)) && (lks (mD 109)).contains (20, 6, 4294067294, 0)) = true := by decide +kernel
theorem q109_23 : decode (mB 109) 23 = .ok (.ireturn, 1) := by decide +kernel
theorem q110_0 : decode (mB 110) 0 = .ok (.aload_n 0, 1) := by decide +kernel
theorem q110_1 : decode (mB 110) 1 = .ok (.iload_n 1, 1) := by decide +kernel
theorem q110_2 : (cfB 110 2 21 73 1 4 1 && hC 110 2 [(2, 6, 2, 1)]) = true := by decide +kernel
theorem q110_5 : decode (mB 110) 5 = .ok (.ireturn, 1) := by decide +kernel
theorem q110_6 : decode (mB 110) 6 = .ok (.astore_n 2, 1) := by decide +kernel
theorem q110_7 : (decide (110 < 152) && decide (decode (mB 110) 7 = .ok (.ldc 17, 2)) && (lks (mD 110)).contains (17, 6, 4294067295, 0)) = true := by decide +kernel
theorem q110_9 : decode (mB 110) 9 = .ok (.ireturn, 1) := by decide +kernel
theorem q111_0 : decode (mB 111) 0 = .ok (.aload_n 0, 1) := by decide +kernel
theorem q111_1 : decode (mB 111) 1 = .ok (.iload_n 1, 1) := by decide +kernel
theorem q111_2 : decode (mB 111) 2 = .ok (.iload_n 2, 1) := by decide +kernel
theorem q111_3 : decode (mB 111) 3 = .ok (.iload_n 3, 1) := by decide +kernel
theorem q111_4 : (cfB 111 4 27 74 1 4 3 && hC 111 4 [(2, 8, 4, 2), (0, 13, 4, 2)]) = true := by decide +kernel
theorem q111_7 : decode (mB 111) 7 = .ok (.ireturn, 1) := by decide +kernel
theorem q111_8 : decode (mB 111) 8 = .ok (.astore 4, 2) := by decide +kernel
theorem q111_10 : (decide (111 < 152) && decide (decode (mB 111) 10 = .ok (.ldc 17, 2)) && (lks (mD 111)).contains (17, 6, 4294067295, 0)) = true := by decide +kernel
theorem q111_12 : decode (mB 111) 12 = .ok (.ireturn, 1) := by decide +kernel
theorem q111_13 : decode (mB 111) 13 = .ok (.astore 4, 2) := by decide +kernel
theorem q111_15 : (decide (111 < 152) && decide (decode (mB 111) 15 = .ok (.ldc 20, 2)) && (lks (mD 111)).contains (20, 6, 4294067294, 0)) = true := by decide +kernel
theorem q111_17 : decode (mB 111) 17 = .ok (.ireturn, 1) := by decide +kernel
theorem q112_0 : decode (mB 112) 0 = .ok (.aload_n 0, 1) := by decide +kernel
theorem q112_1 : decode (mB 112) 1 = .ok (.iload_n 1, 1) := by decide +kernel
theorem q112_2 : (cfB 112 2 31 76 1 4 1 && hC 112 2 [(2, 6, 2, 1)]) = true := by decide +kernel
theorem q112_5 : decode (mB 112) 5 = .ok (.ireturn, 1) := by decide +kernel
theorem q112_6 : decode (mB 112) 6 = .ok (.astore_n 2, 1) := by decide +kernel
theorem q112_7 : (decide (112 < 152) && decide (decode (mB 112) 7 = .ok (.ldc 17, 2)) && (lks (mD 112)).contains (17, 6, 4294067295, 0)) = true := by decide +kernel
theorem q112_9 : decode (mB 112) 9 = .ok (.ireturn, 1) := by decide +kernel
theorem q113_0 : decode (mB 113) 0 = .ok (.aload_n 0, 1) := by decide +kernel
theorem q113_1 : decode (mB 113) 1 = .ok (.iload_n 1, 1) := by decide +kernel
theorem q113_2 : (cfB 113 2 34 77 1 4 1 && hC 113 2 [(2, 6, 2, 1)]) = true := by decide +kernel
theorem q113_5 : decode (mB 113) 5 = .ok (.lreturn, 1) := by decide +kernel
theorem q113_6 : decode (mB 113) 6 = .ok (.astore_n 2, 1) := by decide +kernel
theorem q113_7 : (decide (113 < 152) && decide (decode (mB 113) 7 = .ok (.ldc2_w 38, 3)) && (lks (mD 113)).contains (38, 7, 18446744073708651615, 0)) = true := by decide +kernel
theorem q113_10 : decode (mB 113) 10 = .ok (.lreturn, 1) := by decide +kernel
theorem q114_0 : decode (mB 114) 0 = .ok (.aload_n 0, 1) := by decide +kernel
theorem q114_1 : decode (mB 114) 1 = .ok (.iload_n 1, 1) := by decide +kernel
theorem q114_2 : (cfB 114 2 40 78 1 4 1 && hC 114 2 [(2, 6, 2, 1), (3, 11, 2, 1)]) = true := by decide +kernel
theorem q114_5 : decode (mB 114) 5 = .ok (.dreturn, 1) := by decide +kernel
theorem q114_6 : decode (mB 114) 6 = .ok (.astore_n 2, 1) := by decide +kernel
theorem q114_7 : (decide (114 < 152) && decide (decode (mB 114) 7 = .ok (.ldc2_w 44, 3)) && (lks (mD 114)).contains (44, 7, 13919350198670196736, 1)) = true := by decide +kernel
theorem q114_10 : decode (mB 114) 10 = .ok (.dreturn, 1) := by decide +kernel
theorem q114_11 : decode (mB 114) 11 = .ok (.astore_n 2, 1) := by decide +kernel
theorem q114_12 : (decide (114 < 152) && decide (decode (mB 114) 12 = .ok (.ldc2_w 48, 3)) && (lks (mD 114)).contains (48, 7, 13919350207260131328, 1)) = true := by decide +kernel
theorem q114_15 : decode (mB 114) 15 = .ok (.dreturn, 1) := by decide +kernel
theorem q115_0 : decode (mB 115) 0 = .ok (.aload_n 0, 1) := by decide +kernel
theorem q115_1 : decode (mB 115) 1 = .ok (.iload_n 1, 1) := by decide +kernel
theorem q115_2 : (cfB 115 2 50 79 1 4 1 && hC 115 2 [(2, 6, 2, 1), (3, 10, 2, 1)]) = true := by decide +kernel
theorem q115_5 : decode (mB 115) 5 = .ok (.freturn, 1) := by decide +kernel
theorem q115_6 : decode (mB 115) 6 = .ok (.astore_n 2, 1) := by decide +kernel
theorem q115_7 : (decide (115 < 152) && decide (decode (mB 115) 7 = .ok (.ldc 54, 2)) && (lks (mD 115)).contains (54, 6, 3378231824, 1)) = true := by decide +kernel
theorem q115_9 : decode (mB 115) 9 = .ok (.freturn, 1) := by decide +kernel
theorem q115_10 : decode (mB 115) 10 = .ok (.astore_n 2, 1) := by decide +kernel
theorem q115_11 : (decide (115 < 152) && decide (decode (mB 115) 11 = .ok (.ldc 55, 2)) && (lks (mD 115)).contains (55, 6, 3378231840, 1)) = true := by decide +kernel
theorem q115_13 : decode (mB 115) 13 = .ok (.freturn, 1) := by decide +kernel
theorem q116_0 : decode (mB 116) 0 = .ok (.aload_n 0, 1) := by decide +kernel
theorem q116_1 : decode (mB 116) 1 = .ok (.iload_n 1, 1) := by decide +kernel
theorem q116_2 : (cfB 116 2 56 80 1 4 1 && hC 116 2 [(2, 6, 2, 1)]) = true := by decide +kernel
theorem q116_5 : decode (mB 116) 5 = .ok (.ireturn, 1) := by decide +kernel
theorem q116_6 : decode (mB 116) 6 = .ok (.astore_n 2, 1) := by decide +kernel
theorem q116_7 : (decide (116 < 152) && decide (decode (mB 116) 7 = .ok (.ldc 17, 2)) && (lks (mD 116)).contains (17, 6, 4294067295, 0)) = true := by decide +kernel
theorem q116_9 : decode (mB 116) 9 = .ok (.ireturn, 1) := by decide +kernel
theorem q117_0 : decode (mB 117) 0 = .ok (.aload_n 0, 1) := by decide +kernel
theorem q117_1 : decode (mB 117) 1 = .ok (.iload_n 1, 1) := by decide +kernel
theorem q117_2 : decode (mB 117) 2 = .ok (.iload_n 2, 1) := by decide +kernel
theorem q117_3 : (cfB 117 3 59 81 1 4 2 && hC 117 3 [(2, 7, 3, 1), (0, 11, 3, 1)]) = true := by decide +kernel
theorem q117_6 : decode (mB 117) 6 = .ok (.ireturn, 1) := by decide +kernel
theorem q117_7 : decode (mB 117) 7 = .ok (.astore_n 3, 1) := by decide +kernel
theorem q117_8 : (decide (117 < 152) && decide (decode (mB 117) 8 = .ok (.ldc 17, 2)) && (lks (mD 117)).contains (17, 6, 4294067295, 0)) = true := by decide +kernel
theorem q117_10 : decode (mB 117) 10 = .ok (.ireturn, 1) := by decide +kernel
theorem q117_11 : decode (mB 117) 11 = .ok (.astore_n 3, 1) := by decide +kernel
theorem q117_12 : (decide (117 < 152) && decide (decode (mB 117) 12 = .ok (.ldc 20, 2)) && (lks (mD 117)).contains (20, 6, 4294067294, 0)) = true := by decide +kernel
theorem q117_14 : decode (mB 117) 14 = .ok (.ireturn, 1) := by decide +kernel
theorem q118_0 : decode (mB 118) 0 = .ok (.aload_n 0, 1) := by decide +kernel
theorem q118_1 : decode (mB 118) 1 = .ok (.iload_n 1, 1) := by decide +kernel
theorem q118_2 : (cfB 118 2 63 82 1 4 1 && hC 118 2 [(2, 6, 2, 1), (1, 10, 2, 1)]) = true := by decide +kernel
theorem q118_5 : decode (mB 118) 5 = .ok (.ireturn, 1) := by decide +kernel
theorem q118_6 : decode (mB 118) 6 = .ok (.astore_n 2, 1) := by decide +kernel
theorem q118_7 : (decide (118 < 152) && decide (decode (mB 118) 7 = .ok (.ldc 17, 2)) && (lks (mD 118)).contains (17, 6, 4294067295, 0)) = true := by decide +kernel
theorem q118_9 : decode (mB 118) 9 = .ok (.ireturn, 1) := by decide +kernel
theorem q118_10 : decode (mB 118) 10 = .ok (.astore_n 2, 1) := by decide +kernel
theorem q118_11 : (decide (118 < 152) && decide (decode (mB 118) 11 = .ok (.ldc 20, 2)) && (lks (mD 118)).contains (20, 6, 4294067294, 0)) = true := by decide +kernel
theorem q118_13 : decode (mB 118) 13 = .ok (.ireturn, 1) := by decide +kernel
theorem q119_0 : decode (mB 119) 0 = .ok (.aload_n 0, 1) := by decide +kernel
theorem q119_1 : decode (mB 119) 1 = .ok (.iload_n 1, 1) := by decide +kernel
theorem q119_2 : decode (mB 119) 2 = .ok (.iload_n 2, 1) := by decide +kernel
theorem q119_3 : (cfB 119 3 66 83 1 4 2 && hC 119 3 [(2, 7, 3, 1)]) = true := by decide +kernel
theorem q119_6 : decode (mB 119) 6 = .ok (.ireturn, 1) := by decide +kernel
theorem q119_7 : decode (mB 119) 7 = .ok (.astore_n 3, 1) := by decide +kernel
theorem q119_8 : (decide (119 < 152) && decide (decode (mB 119) 8 = .ok (.ldc 17, 2)) && (lks (mD 119)).contains (17, 6, 4294067295, 0)) = true := by decide +kernel
theorem q119_10 : decode (mB 119) 10 = .ok (.ireturn, 1) := by decide +kernel
theorem q120_0 : decode (mB 120) 0 = .ok (.aload_n 0, 1) := by decide +kernel
theorem q120_1 : decode (mB 120) 1 = .ok (.iload_n 1, 1) := by decide +kernel
theorem q120_2 : (cfB 120 2 70 84 1 4 1 && hC 120 2 [(0, 6, 2, 1)]) = true := by decide +kernel
theorem q120_5 : decode (mB 120) 5 = .ok (.ireturn, 1) := by decide +kernel
theorem q120_6 : decode (mB 120) 6 = .ok (.astore_n 2, 1) := by decide +kernel
theorem q120_7 : (decide (120 < 152) && decide (decode (mB 120) 7 = .ok (.ldc 17, 2)) && (lks (mD 120)).contains (17, 6, 4294067295, 0)) = true := by decide +kernel
theorem q120_9 : decode (mB 120) 9 = .ok (.ireturn, 1) := by decide +kernel
theorem q121_0 : decode (mB 121) 0 = .ok (.aload_n 0, 1) := by decide +kernel
theorem q121_1 : decode (mB 121) 1 = .ok (.iload_n 1, 1) := by decide +kernel
theorem q121_2 : decode (mB 121) 2 = .ok (.iload_n 2, 1) := by decide +kernel
theorem q121_3 : (cfB 121 3 74 85 1 4 2 && hC 121 3 [(2, 7, 3, 1), (1, 11, 3, 1)]) = true := by decide +kernel
theorem q121_6 : decode (mB 121) 6 = .ok (.ireturn, 1) := by decide +kernel
theorem q121_7 : decode (mB 121) 7 = .ok (.astore_n 3, 1) := by decide +kernel
theorem q121_8 : (decide (121 < 152) && decide (decode (mB 121) 8 = .ok (.ldc 17, 2)) && (lks (mD 121)).contains (17, 6, 4294067295, 0)) = true := by decide +kernel
theorem q121_10 : decode (mB 121) 10 = .ok (.ireturn, 1) := by decide +kernel
theorem q121_11 : decode (mB 121) 11 = .ok (.astore_n 3, 1) := by decide +kernel
theorem q121_12 : (decide (121 < 152) && decide (decode (mB 121) 12 = .ok (.ldc 20, 2)) && (lks (mD 121)).contains (20, 6, 4294067294, 0)) = true := by decide +kernel
theorem q121_14 : decode (mB 121) 14 = .ok (.ireturn, 1) := by decide +kernel
theorem q122_0 : decode (mB 122) 0 = .ok (.aload_n 0, 1) := by decide +kernel
theorem q122_1 : decode (mB 122) 1 = .ok (.iload_n 1, 1) := by decide +kernel
theorem q122_2 : decode (mB 122) 2 = .ok (.iload_n 2, 1) := by decide +kernel
theorem q122_3 : (cfB 122 3 77 86 1 4 2 && hC 122 3 [(2, 7, 3, 1), (1, 11, 3, 1)]) = true := by decide +kernel
theorem q122_6 : decode (mB 122) 6 = .ok (.ireturn, 1) := by decide +kernel
theorem q122_7 : decode (mB 122) 7 = .ok (.astore_n 3, 1) := by decide +kernel
theorem q122_8 : (decide (122 < 152) && decide (decode (mB 122) 8 = .ok (.ldc 17, 2)) && (lks (mD 122)).contains (17, 6, 4294067295, 0)) = true := by decide +kernel
theorem q122_10 : decode (mB 122) 10 = .ok (.ireturn, 1) := by decide +kernel
theorem q122_11 : decode (mB 122) 11 = .ok (.astore_n 3, 1) := by decide +kernel
theorem q122_12 : (decide (122 < 152) && decide (decode (mB 122) 12 = .ok (.ldc 20, 2)) && (lks (mD 122)).contains (20, 6, 4294067294, 0)) = true := by decide +kernel
theorem q122_14 : decode (mB 122) 14 = .ok (.ireturn, 1) := by decide +kernel
theorem q123_0 : decode (mB 123) 0 = .ok (.aload_n 0, 1) := by decide +kernel
theorem q123_1 : decode (mB 123) 1 = .ok (.iload_n 1, 1) := by decide +kernel
theorem q123_2 : decode (mB 123) 2 = .ok (.iload_n 2, 1) := by decide +kernel
theorem q123_3 : (cfB 123 3 80 87 1 4 2 && hC 123 3 [(2, 7, 3, 1), (0, 11, 3, 1)]) = true := by decide +kernel
theorem q123_6 : decode (mB 123) 6 = .ok (.ireturn, 1) := by decide +kernel
theorem q123_7 : decode (mB 123) 7 = .ok (.astore_n 3, 1) := by decide +kernel
theorem q123_8 : (decide (123 < 152) && decide (decode (mB 123) 8 = .ok (.ldc 17, 2)) && (lks (mD 123)).contains (17, 6, 4294067295, 0)) = true := by decide +kernel
theorem q123_10 : decode (mB 123) 10 = .ok (.ireturn, 1) := by decide +kernel
theorem q123_11 : decode (mB 123) 11 = .ok (.astore_n 3, 1) := by decide +kernel
theorem q123_12 : (decide (123 < 152) && decide (decode (mB 123) 12 = .ok (.ldc 20, 2)) && (lks (mD 123)).contains (20, 6, 4294067294, 0)) = true := by decide +kernel
theorem q123_14 : decode (mB 123) 14 = .ok (.ireturn, 1) := by decide +kernel
theorem q124_0 : decode (mB 124) 0 = .ok (.aload_n 0, 1) := by decide +kernel
theorem q124_1 : decode (mB 124) 1 = .ok (.iload_n 1, 1) := by decide +kernel
theorem q124_2 : (cfB 124 2 83 89 1 4 1 && hC 124 2 [(4, 6, 2, 1)]) = true := by decide +kernel
theorem q124_5 : decode (mB 124) 5 = .ok (.ireturn, 1) := by decide +kernel
theorem q124_6 : decode (mB 124) 6 = .ok (.astore_n 2, 1) := by decide +kernel
theorem q124_7 : (decide (124 < 152) && decide (decode (mB 124) 7 = .ok (.ldc 17, 2)) && (lks (mD 124)).contains (17, 6, 4294067295, 0)) = true := by decide +kernel
theorem q124_9 : decode (mB 124) 9 = .ok (.ireturn, 1) := by decide +kernel
theorem q125_0 : decode (mB 125) 0 = .ok (.aload_n 0, 1) := by decide +kernel
theorem q125_1 : decode (mB 125) 1 = .ok (.iload_n 1, 1) := by decide +kernel
theorem q125_2 : (cfB 125 2 88 90 1 4 1 && hC 125 2 [(5, 6, 2, 1), (4, 10, 2, 1)]) = true := by decide +kernel
theorem q125_5 : decode (mB 125) 5 = .ok (.ireturn, 1) := by decide +kernel
theorem q125_6 : decode (mB 125) 6 = .ok (.astore_n 2, 1) := by decide +kernel
theorem q125_7 : (decide (125 < 152) && decide (decode (mB 125) 7 = .ok (.ldc 17, 2)) && (lks (mD 125)).contains (17, 6, 4294067295, 0)) = true := by decide +kernel
theorem q125_9 : decode (mB 125) 9 = .ok (.ireturn, 1) := by decide +kernel
theorem q125_10 : decode (mB 125) 10 = .ok (.astore_n 2, 1) := by decide +kernel
theorem q125_11 : (decide (125 < 152) && decide (decode (mB 125) 11 = .ok (.ldc 20, 2)) && (lks (mD 125)).contains (20, 6, 4294067294, 0)) = true := by decide +kernel
theorem q125_13 : decode (mB 125) 13 = .ok (.ireturn, 1) := by decide +kernel
theorem q126_0 : decode (mB 126) 0 = .ok (.aload_n 0, 1) := by decide +kernel
theorem q126_1 : decode (mB 126) 1 = .ok (.iload_n 1, 1) := by decide +kernel
theorem q126_2 : (cfB 126 2 93 91 1 4 1 && hC 126 2 [(4, 6, 2, 1)]) = true := by decide +kernel
theorem q126_5 : decode (mB 126) 5 = .ok (.ireturn, 1) := by decide +kernel
theorem q126_6 : decode (mB 126) 6 = .ok (.astore_n 2, 1) := by decide +kernel
theorem q126_7 : (decide (126 < 152) && decide (decode (mB 126) 7 = .ok (.ldc 17, 2)) && (lks (mD 126)).contains (17, 6, 4294067295, 0)) = true := by decide +kernel
theorem q126_9 : decode (mB 126) 9 = .ok (.ireturn, 1) := by decide +kernel
theorem q127_0 : decode (mB 127) 0 = .ok (.aload_n 0, 1) := by decide +kernel
theorem q127_1 : decode (mB 127) 1 = .ok (.iload_n 1, 1) := by decide +kernel
theorem q127_2 : (cfB 127 2 97 92 1 4 1 && hC 127 2 [(4, 6, 2, 1)]) = true := by decide +kernel
theorem q127_5 : decode (mB 127) 5 = .ok (.ireturn, 1) := by decide +kernel
theorem q127_6 : decode (mB 127) 6 = .ok (.astore_n 2, 1) := by decide +kernel
theorem q127_7 : (decide (127 < 152) && decide (decode (mB 127) 7 = .ok (.ldc 17, 2)) && (lks (mD 127)).contains (17, 6, 4294067295, 0)) = true := by decide +kernel
theorem q127_9 : decode (mB 127) 9 = .ok (.ireturn, 1) := by decide +kernel
theorem q128_0 : decode (mB 128) 0 = .ok (.aload_n 0, 1) := by decide +kernel
theorem q128_1 : decode (mB 128) 1 = .ok (.iload_n 1, 1) := by decide +kernel
theorem q128_2 : decode (mB 128) 2 = .ok (.iload_n 2, 1) := by decide +kernel
theorem q128_3 : (cfB 128 3 100 93 1 4 2 && hC 128 3 [(4, 7, 3, 1), (2, 11, 3, 1)]) = true := by decide +kernel
theorem q128_6 : decode (mB 128) 6 = .ok (.ireturn, 1) := by decide +kernel
theorem q128_7 : decode (mB 128) 7 = .ok (.astore_n 3, 1) := by decide +kernel
theorem q128_8 : (decide (128 < 152) && decide (decode (mB 128) 8 = .ok (.ldc 17, 2)) && (lks (mD 128)).contains (17, 6, 4294067295, 0)) = true := by decide +kernel
theorem q128_10 : decode (mB 128) 10 = .ok (.ireturn, 1) := by decide +kernel
theorem q128_11 : decode (mB 128) 11 = .ok (.astore_n 3, 1) := by decide +kernel
theorem q128_12 : (decide (128 < 152) && decide (decode (mB 128) 12 = .ok (.ldc 20, 2)) && (lks (mD 128)).contains (20, 6, 4294067294, 0)) = true := by decide +kernel
theorem q128_14 : decode (mB 128) 14 = .ok (.ireturn, 1) := by decide +kernel
theorem q129_0 : decode (mB 129) 0 = .ok (.aload_n 0, 1) := by decide +kernel
theorem q129_1 : decode (mB 129) 1 = .ok (.iload_n 1, 1) := by decide +kernel
theorem q129_2 : cfB 129 2 103 108 0 4 2 = true := by decide +kernel
theorem q129_5 : (decide (129 < 152) && decide (decode (mB 129) 5 = .ok (.ldc 109, 2)) && (lks (mD 129)).contains (109, 6, 2147483647, 0)) = true := by decide +kernel
theorem q129_7 : decode (mB 129) 7 = .ok (.iand, 1) := by decide +kernel
theorem q129_8 : decode (mB 129) 8 = .ok (.iload_n 2, 1) := by decide +kernel
theorem q129_9 : decode (mB 129) 9 = .ok (.irem, 1) := by decide +kernel
theorem q129_10 : decode (mB 129) 10 = .ok (.ireturn, 1) := by decide +kernel
theorem q130_0 : decode (mB 130) 0 = .ok (.sipush 400, 3) := by decide +kernel
theorem q130_3 : naB 130 3 0 = true := by decide +kernel
theorem q130_5 : decode (mB 130) 5 = .ok (.astore_n 0, 1) := by decide +kernel
theorem q130_6 : decode (mB 130) 6 = .ok (.bipush 8, 2) := by decide +kernel
theorem q130_8 : naB 130 8 0 = true := by decide +kernel
theorem q130_10 : decode (mB 130) 10 = .ok (.dup, 1) := by decide +kernel
theorem q130_11 : decode (mB 130) 11 = .ok (.iconst 0, 1) := by decide +kernel
theorem q130_12 : decode (mB 130) 12 = .ok (.iconst 3, 1) := by decide +kernel
theorem q130_13 : decode (mB 130) 13 = .ok (.iastore, 1) := by decide +kernel
theorem q130_14 : decode (mB 130) 14 = .ok (.dup, 1) := by decide +kernel
theorem q130_15 : decode (mB 130) 15 = .ok (.iconst 1, 1) := by decide +kernel
theorem q130_16 : decode (mB 130) 16 = .ok (.iconst 4, 1) := by decide +kernel
theorem q130_17 : decode (mB 130) 17 = .ok (.iastore, 1) := by decide +kernel
theorem q130_18 : decode (mB 130) 18 = .ok (.dup, 1) := by decide +kernel
theorem q130_19 : decode (mB 130) 19 = .ok (.iconst 2, 1) := by decide +kernel
theorem q130_20 : decode (mB 130) 20 = .ok (.iconst 2, 1) := by decide +kernel
theorem q130_21 : decode (mB 130) 21 = .ok (.iastore, 1) := by decide +kernel
theorem q130_22 : decode (mB 130) 22 = .ok (.dup, 1) := by decide +kernel
theorem q130_23 : decode (mB 130) 23 = .ok (.iconst 3, 1) := by decide +kernel
theorem q130_24 : decode (mB 130) 24 = .ok (.iconst 5, 1) := by decide +kernel
theorem q130_25 : decode (mB 130) 25 = .ok (.iastore, 1) := by decide +kernel
theorem q130_26 : decode (mB 130) 26 = .ok (.dup, 1) := by decide +kernel
theorem q130_27 : decode (mB 130) 27 = .ok (.iconst 4, 1) := by decide +kernel
theorem q130_28 : decode (mB 130) 28 = .ok (.iconst 3, 1) := by decide +kernel
theorem q130_29 : decode (mB 130) 29 = .ok (.iastore, 1) := by decide +kernel
theorem q130_30 : decode (mB 130) 30 = .ok (.dup, 1) := by decide +kernel
theorem q130_31 : decode (mB 130) 31 = .ok (.iconst 5, 1) := by decide +kernel
theorem q130_32 : decode (mB 130) 32 = .ok (.iconst 2, 1) := by decide +kernel
theorem q130_33 : decode (mB 130) 33 = .ok (.iastore, 1) := by decide +kernel
theorem q130_34 : decode (mB 130) 34 = .ok (.dup, 1) := by decide +kernel
theorem q130_35 : decode (mB 130) 35 = .ok (.bipush 6, 2) := by decide +kernel
theorem q130_37 : decode (mB 130) 37 = .ok (.bipush 6, 2) := by decide +kernel
theorem q130_39 : decode (mB 130) 39 = .ok (.iastore, 1) := by decide +kernel
theorem q130_40 : decode (mB 130) 40 = .ok (.dup, 1) := by decide +kernel
theorem q130_41 : decode (mB 130) 41 = .ok (.bipush 7, 2) := by decide +kernel
theorem q130_43 : decode (mB 130) 43 = .ok (.iconst 1, 1) := by decide +kernel
theorem q130_44 : decode (mB 130) 44 = .ok (.iastore, 1) := by decide +kernel
theorem q130_45 : decode (mB 130) 45 = .ok (.astore_n 1, 1) := by decide +kernel
theorem q130_46 : decode (mB 130) 46 = .ok (.iconst 0, 1) := by decide +kernel
theorem q130_47 : decode (mB 130) 47 = .ok (.istore_n 2, 1) := by decide +kernel
theorem q130_48 : decode (mB 130) 48 = .ok (.iload_n 2, 1) := by decide +kernel
theorem q130_49 : decode (mB 130) 49 = .ok (.bipush 8, 2) := by decide +kernel
theorem q130_51 : decode (mB 130) 51 = .ok (.if_icmp .ge 18, 3) := by decide +kernel
theorem q130_54 : decode (mB 130) 54 = .ok (.aload_n 0, 1) := by decide +kernel
theorem q130_55 : decode (mB 130) 55 = .ok (.bipush 20, 2) := by decide +kernel
theorem q130_57 : decode (mB 130) 57 = .ok (.iload_n 2, 1) := by decide +kernel
theorem q130_58 : decode (mB 130) 58 = .ok (.iadd, 1) := by decide +kernel
theorem q130_59 : decode (mB 130) 59 = .ok (.aload_n 1, 1) := by decide +kernel
theorem q130_60 : decode (mB 130) 60 = .ok (.iload_n 2, 1) := by decide +kernel
theorem q130_61 : decode (mB 130) 61 = .ok (.iaload, 1) := by decide +kernel
theorem q130_62 : decode (mB 130) 62 = .ok (.iastore, 1) := by decide +kernel
theorem q130_63 : decode (mB 130) 63 = .ok (.iinc 2 1, 3) := by decide +kernel
theorem q130_66 : decode (mB 130) 66 = .ok (.goto (-18), 3) := by decide +kernel
theorem q130_69 : decode (mB 130) 69 = .ok (.aload_n 0, 1) := by decide +kernel
theorem q130_70 : decode (mB 130) 70 = .ok (.iconst 1, 1) := by decide +kernel
theorem q130_71 : decode (mB 130) 71 = .ok (.bipush 45, 2) := by decide +kernel
theorem q130_73 : decode (mB 130) 73 = .ok (.iastore, 1) := by decide +kernel
theorem q130_74 : decode (mB 130) 74 = .ok (.aload_n 0, 1) := by decide +kernel
theorem q130_75 : decode (mB 130) 75 = .ok (.iconst 2, 1) := by decide +kernel
theorem q130_76 : decode (mB 130) 76 = .ok (.iconst 3, 1) := by decide +kernel
theorem q130_77 : decode (mB 130) 77 = .ok (.iastore, 1) := by decide +kernel
theorem q130_78 : decode (mB 130) 78 = .ok (.iconst 0, 1) := by decide +kernel
theorem q130_79 : decode (mB 130) 79 = .ok (.istore_n 2, 1) := by decide +kernel
theorem q130_80 : decode (mB 130) 80 = .ok (.iload_n 2, 1) := by decide +kernel
theorem q130_81 : decode (mB 130) 81 = .ok (.iconst 4, 1) := by decide +kernel
theorem q130_82 : decode (mB 130) 82 = .ok (.if_icmp .ge 16, 3) := by decide +kernel
theorem q130_85 : decode (mB 130) 85 = .ok (.aload_n 0, 1) := by decide +kernel
theorem q130_86 : decode (mB 130) 86 = .ok (.bipush 62, 2) := by decide +kernel
theorem q130_88 : decode (mB 130) 88 = .ok (.iload_n 2, 1) := by decide +kernel
theorem q130_89 : decode (mB 130) 89 = .ok (.iadd, 1) := by decide +kernel
theorem q130_90 : decode (mB 130) 90 = .ok (.iconst (-1), 1) := by decide +kernel
theorem q130_91 : decode (mB 130) 91 = .ok (.iastore, 1) := by decide +kernel
theorem q130_92 : decode (mB 130) 92 = .ok (.iinc 2 1, 3) := by decide +kernel
theorem q130_95 : decode (mB 130) 95 = .ok (.goto (-15), 3) := by decide +kernel
theorem q130_98 : decode (mB 130) 98 = .ok (.aload_n 0, 1) := by decide +kernel
theorem q130_99 : decode (mB 130) 99 = .ok (.areturn, 1) := by decide +kernel
theorem q131_0 : decode (mB 131) 0 = .ok (.aload_n 0, 1) := by decide +kernel
theorem q131_1 : decode (mB 131) 1 = .ok (.bipush 100, 2) := by decide +kernel
theorem q131_3 : decode (mB 131) 3 = .ok (.bipush 6, 2) := by decide +kernel
theorem q131_5 : decode (mB 131) 5 = .ok (.iload_n 1, 1) := by decide +kernel
theorem q131_6 : decode (mB 131) 6 = .ok (.imul, 1) := by decide +kernel
theorem q131_7 : decode (mB 131) 7 = .ok (.iadd, 1) := by decide +kernel
theorem q131_8 : decode (mB 131) 8 = .ok (.iload_n 2, 1) := by decide +kernel
theorem q131_9 : decode (mB 131) 9 = .ok (.iadd, 1) := by decide +kernel
theorem q131_10 : decode (mB 131) 10 = .ok (.iaload, 1) := by decide +kernel
theorem q131_11 : decode (mB 131) 11 = .ok (.ireturn, 1) := by decide +kernel
theorem q132_0 : decode (mB 132) 0 = .ok (.aload_n 1, 1) := by decide +kernel
theorem q132_1 : decode (mB 132) 1 = .ok (.iconst 1, 1) := by decide +kernel
theorem q132_2 : decode (mB 132) 2 = .ok (.iload_n 3, 1) := by decide +kernel
theorem q132_3 : decode (mB 132) 3 = .ok (.iadd, 1) := by decide +kernel
theorem q132_4 : decode (mB 132) 4 = .ok (.iconst 5, 1) := by decide +kernel
theorem q132_5 : cfB 132 5 110 129 0 4 3 = true := by decide +kernel
theorem q132_8 : decode (mB 132) 8 = .ok (.istore 4, 2) := by decide +kernel
theorem q132_10 : decode (mB 132) 10 = .ok (.aload_n 1, 1) := by decide +kernel
theorem q132_11 : decode (mB 132) 11 = .ok (.iload_n 2, 1) := by decide +kernel
theorem q132_12 : decode (mB 132) 12 = .ok (.bipush 7, 2) := by decide +kernel
theorem q132_14 : cfB 132 14 110 129 0 4 3 = true := by decide +kernel
theorem q132_17 : decode (mB 132) 17 = .ok (.ifCond .ne 7, 3) := by decide +kernel
theorem q132_20 : decode (mB 132) 20 = .ok (.sipush (-10000), 3) := by decide +kernel
theorem q132_23 : decode (mB 132) 23 = .ok (.ireturn, 1) := by decide +kernel
theorem q132_24 : decode (mB 132) 24 = .ok (.iload 4, 2) := by decide +kernel
theorem q132_26 : decode (mB 132) 26 = .ok (.ifCond .ne 22, 3) := by decide +kernel
theorem q132_29 : decode (mB 132) 29 = .ok (.bipush 10, 2) := by decide +kernel
theorem q132_31 : decode (mB 132) 31 = .ok (.aload_n 0, 1) := by decide +kernel
theorem q132_32 : decode (mB 132) 32 = .ok (.iconst 0, 1) := by decide +kernel
theorem q132_33 : decode (mB 132) 33 = .ok (.iaload, 1) := by decide +kernel
theorem q132_34 : decode (mB 132) 34 = .ok (.imul, 1) := by decide +kernel
theorem q132_35 : decode (mB 132) 35 = .ok (.aload_n 1, 1) := by decide +kernel
theorem q132_36 : decode (mB 132) 36 = .ok (.iload_n 2, 1) := by decide +kernel
theorem q132_37 : decode (mB 132) 37 = .ok (.iconst 1, 1) := by decide +kernel
theorem q132_38 : decode (mB 132) 38 = .ok (.iadd, 1) := by decide +kernel
theorem q132_39 : decode (mB 132) 39 = .ok (.bipush 9, 2) := by decide +kernel
theorem q132_41 : cfB 132 41 110 129 0 4 3 = true := by decide +kernel
theorem q132_44 : decode (mB 132) 44 = .ok (.iadd, 1) := by decide +kernel
theorem q132_45 : decode (mB 132) 45 = .ok (.goto 49, 3) := by decide +kernel
theorem q132_48 : decode (mB 132) 48 = .ok (.iload 4, 2) := by decide +kernel
theorem q132_50 : decode (mB 132) 50 = .ok (.iconst 3, 1) := by decide +kernel
theorem q132_51 : decode (mB 132) 51 = .ok (.if_icmp .ge 19, 3) := by decide +kernel
theorem q132_54 : decode (mB 132) 54 = .ok (.aload_n 1, 1) := by decide +kernel
theorem q132_55 : decode (mB 132) 55 = .ok (.iload_n 2, 1) := by decide +kernel
theorem q132_56 : decode (mB 132) 56 = .ok (.iconst 1, 1) := by decide +kernel
theorem q132_57 : decode (mB 132) 57 = .ok (.iadd, 1) := by decide +kernel
theorem q132_58 : decode (mB 132) 58 = .ok (.iconst 2, 1) := by decide +kernel
theorem q132_59 : decode (mB 132) 59 = .ok (.iconst 2, 1) := by decide +kernel
theorem q132_60 : decode (mB 132) 60 = .ok (.iload 4, 2) := by decide +kernel
theorem q132_62 : decode (mB 132) 62 = .ok (.imul, 1) := by decide +kernel
theorem q132_63 : decode (mB 132) 63 = .ok (.iadd, 1) := by decide +kernel
theorem q132_64 : cfB 132 64 110 129 0 4 3 = true := by decide +kernel
theorem q132_67 : decode (mB 132) 67 = .ok (.goto 27, 3) := by decide +kernel
theorem q132_70 : decode (mB 132) 70 = .ok (.iload 4, 2) := by decide +kernel
theorem q132_72 : decode (mB 132) 72 = .ok (.iconst 3, 1) := by decide +kernel
theorem q132_73 : decode (mB 132) 73 = .ok (.if_icmp .ne 20, 3) := by decide +kernel
theorem q132_76 : decode (mB 132) 76 = .ok (.aload_n 1, 1) := by decide +kernel
theorem q132_77 : decode (mB 132) 77 = .ok (.iload_n 2, 1) := by decide +kernel
theorem q132_78 : decode (mB 132) 78 = .ok (.iconst 1, 1) := by decide +kernel
theorem q132_79 : decode (mB 132) 79 = .ok (.iadd, 1) := by decide +kernel
theorem q132_80 : decode (mB 132) 80 = .ok (.sipush 19999, 3) := by decide +kernel
theorem q132_83 : cfB 132 83 110 129 0 4 3 = true := by decide +kernel
theorem q132_86 : decode (mB 132) 86 = .ok (.sipush 9999, 3) := by decide +kernel
theorem q132_89 : decode (mB 132) 89 = .ok (.isub, 1) := by decide +kernel
theorem q132_90 : decode (mB 132) 90 = .ok (.goto 4, 3) := by decide +kernel
theorem q132_93 : decode (mB 132) 93 = .ok (.iconst 4, 1) := by decide +kernel
theorem q132_94 : decode (mB 132) 94 = .ok (.ireturn, 1) := by decide +kernel
theorem q133_0 : decode (mB 133) 0 = .ok (.bipush 6, 2) := by decide +kernel
theorem q133_2 : naB 133 2 0 = true := by decide +kernel
theorem q133_4 : decode (mB 133) 4 = .ok (.astore 4, 2) := by decide +kernel
theorem q133_6 : decode (mB 133) 6 = .ok (.iconst 0, 1) := by decide +kernel
theorem q133_7 : decode (mB 133) 7 = .ok (.istore 5, 2) := by decide +kernel
theorem q133_9 : decode (mB 133) 9 = .ok (.iload 5, 2) := by decide +kernel
theorem q133_11 : decode (mB 133) 11 = .ok (.bipush 6, 2) := by decide +kernel
theorem q133_13 : decode (mB 133) 13 = .ok (.if_icmp .ge 27, 3) := by decide +kernel
theorem q133_16 : decode (mB 133) 16 = .ok (.aload 4, 2) := by decide +kernel
theorem q133_18 : decode (mB 133) 18 = .ok (.iload 5, 2) := by decide +kernel
theorem q133_20 : decode (mB 133) 20 = .ok (.aload_n 1, 1) := by decide +kernel
theorem q133_21 : decode (mB 133) 21 = .ok (.aload_n 2, 1) := by decide +kernel
theorem q133_22 : decode (mB 133) 22 = .ok (.iload_n 3, 1) := by decide +kernel
theorem q133_23 : decode (mB 133) 23 = .ok (.iconst 2, 1) := by decide +kernel
theorem q133_24 : decode (mB 133) 24 = .ok (.iload 5, 2) := by decide +kernel
theorem q133_26 : decode (mB 133) 26 = .ok (.imul, 1) := by decide +kernel
theorem q133_27 : decode (mB 133) 27 = .ok (.iadd, 1) := by decide +kernel
theorem q133_28 : decode (mB 133) 28 = .ok (.iload 5, 2) := by decide +kernel
theorem q133_30 : cfB 133 30 114 132 0 4 4 = true := by decide +kernel
theorem q133_33 : decode (mB 133) 33 = .ok (.iastore, 1) := by decide +kernel
theorem q133_34 : decode (mB 133) 34 = .ok (.iinc 5 1, 3) := by decide +kernel
theorem q133_37 : decode (mB 133) 37 = .ok (.goto (-28), 3) := by decide +kernel
theorem q133_40 : decode (mB 133) 40 = .ok (.aload_n 1, 1) := by decide +kernel
theorem q133_41 : decode (mB 133) 41 = .ok (.iconst 0, 1) := by decide +kernel
theorem q133_42 : decode (mB 133) 42 = .ok (.iaload, 1) := by decide +kernel
theorem q133_43 : decode (mB 133) 43 = .ok (.bipush 40, 2) := by decide +kernel
theorem q133_45 : decode (mB 133) 45 = .ok (.if_icmp .ne 42, 3) := by decide +kernel
theorem q133_48 : decode (mB 133) 48 = .ok (.aload_n 0, 1) := by decide +kernel
theorem q133_49 : decode (mB 133) 49 = .ok (.aload 4, 2) := by decide +kernel
theorem q133_51 : decode (mB 133) 51 = .ok (.iconst 0, 1) := by decide +kernel
theorem q133_52 : decode (mB 133) 52 = .ok (.iaload, 1) := by decide +kernel
theorem q133_53 : decode (mB 133) 53 = .ok (.aload 4, 2) := by decide +kernel
theorem q133_55 : decode (mB 133) 55 = .ok (.iconst 1, 1) := by decide +kernel
theorem q133_56 : decode (mB 133) 56 = .ok (.iaload, 1) := by decide +kernel
theorem q133_57 : decode (mB 133) 57 = .ok (.aload 4, 2) := by decide +kernel
theorem q133_59 : decode (mB 133) 59 = .ok (.iconst 2, 1) := by decide +kernel
theorem q133_60 : decode (mB 133) 60 = .ok (.iaload, 1) := by decide +kernel
theorem q133_61 : decode (mB 133) 61 = .ok (.aload 4, 2) := by decide +kernel
theorem q133_63 : decode (mB 133) 63 = .ok (.iconst 3, 1) := by decide +kernel
theorem q133_64 : decode (mB 133) 64 = .ok (.iaload, 1) := by decide +kernel
theorem q133_65 : decode (mB 133) 65 = .ok (.aload 4, 2) := by decide +kernel
theorem q133_67 : decode (mB 133) 67 = .ok (.iconst 4, 1) := by decide +kernel
theorem q133_68 : decode (mB 133) 68 = .ok (.iaload, 1) := by decide +kernel
theorem q133_69 : decode (mB 133) 69 = .ok (.aload 4, 2) := by decide +kernel
theorem q133_71 : decode (mB 133) 71 = .ok (.iconst 5, 1) := by decide +kernel
theorem q133_72 : decode (mB 133) 72 = .ok (.iaload, 1) := by decide +kernel
theorem q133_73 : cfW 133 73 118 109 7 = true := by decide +kernel
theorem q133_76 : (decide (133 < 152) && decide (decode (mB 133) 76 = .ok (.ldc 20, 2)) && (lks (mD 133)).contains (20, 6, 4294067294, 0)) = true := by decide +kernel
theorem q133_78 : decode (mB 133) 78 = .ok (.if_icmp .ne 7, 3) := by decide +kernel
theorem q133_81 : decode (mB 133) 81 = .ok (.iconst 1, 1) := by decide +kernel
theorem q133_82 : decode (mB 133) 82 = .ok (.goto 4, 3) := by decide +kernel
theorem q133_85 : decode (mB 133) 85 = .ok (.iconst 0, 1) := by decide +kernel
theorem q133_86 : decode (mB 133) 86 = .ok (.ireturn, 1) := by decide +kernel
theorem q133_87 : decode (mB 133) 87 = .ok (.iconst 0, 1) := by decide +kernel
theorem q133_88 : decode (mB 133) 88 = .ok (.istore 5, 2) := by decide +kernel
theorem q133_90 : decode (mB 133) 90 = .ok (.iload 5, 2) := by decide +kernel
theorem q133_92 : decode (mB 133) 92 = .ok (.bipush 6, 2) := by decide +kernel
theorem q133_94 : decode (mB 133) 94 = .ok (.if_icmp .ge 28, 3) := by decide +kernel
theorem q133_97 : decode (mB 133) 97 = .ok (.aload_n 1, 1) := by decide +kernel
theorem q133_98 : decode (mB 133) 98 = .ok (.bipush 100, 2) := by decide +kernel
theorem q133_100 : decode (mB 133) 100 = .ok (.bipush 6, 2) := by decide +kernel
theorem q133_102 : decode (mB 133) 102 = .ok (.aload_n 1, 1) := by decide +kernel
theorem q133_103 : decode (mB 133) 103 = .ok (.iconst 0, 1) := by decide +kernel
theorem q133_104 : decode (mB 133) 104 = .ok (.iaload, 1) := by decide +kernel
theorem q133_105 : decode (mB 133) 105 = .ok (.imul, 1) := by decide +kernel
theorem q133_106 : decode (mB 133) 106 = .ok (.iadd, 1) := by decide +kernel
theorem q133_107 : decode (mB 133) 107 = .ok (.iload 5, 2) := by decide +kernel
theorem q133_109 : decode (mB 133) 109 = .ok (.iadd, 1) := by decide +kernel
theorem q133_110 : decode (mB 133) 110 = .ok (.aload 4, 2) := by decide +kernel
theorem q133_112 : decode (mB 133) 112 = .ok (.iload 5, 2) := by decide +kernel
theorem q133_114 : decode (mB 133) 114 = .ok (.iaload, 1) := by decide +kernel
theorem q133_115 : decode (mB 133) 115 = .ok (.iastore, 1) := by decide +kernel
theorem q133_116 : decode (mB 133) 116 = .ok (.iinc 5 1, 3) := by decide +kernel
theorem q133_119 : decode (mB 133) 119 = .ok (.goto (-29), 3) := by decide +kernel
theorem q133_122 : decode (mB 133) 122 = .ok (.aload_n 1, 1) := by decide +kernel
theorem q133_123 : decode (mB 133) 123 = .ok (.iconst 0, 1) := by decide +kernel
theorem q133_124 : decode (mB 133) 124 = .ok (.dup2, 1) := by decide +kernel
theorem q133_125 : decode (mB 133) 125 = .ok (.iaload, 1) := by decide +kernel
theorem q133_126 : decode (mB 133) 126 = .ok (.iconst 1, 1) := by decide +kernel
theorem q133_127 : decode (mB 133) 127 = .ok (.iadd, 1) := by decide +kernel
theorem q133_128 : decode (mB 133) 128 = .ok (.iastore, 1) := by decide +kernel
theorem q133_129 : decode (mB 133) 129 = .ok (.aload_n 0, 1) := by decide +kernel
theorem q133_130 : decode (mB 133) 130 = .ok (.aload 4, 2) := by decide +kernel
theorem q133_132 : decode (mB 133) 132 = .ok (.iconst 0, 1) := by decide +kernel
theorem q133_133 : decode (mB 133) 133 = .ok (.iaload, 1) := by decide +kernel
theorem q133_134 : decode (mB 133) 134 = .ok (.aload 4, 2) := by decide +kernel
theorem q133_136 : decode (mB 133) 136 = .ok (.iconst 1, 1) := by decide +kernel
theorem q133_137 : decode (mB 133) 137 = .ok (.iaload, 1) := by decide +kernel
theorem q133_138 : decode (mB 133) 138 = .ok (.aload 4, 2) := by decide +kernel
theorem q133_140 : decode (mB 133) 140 = .ok (.iconst 2, 1) := by decide +kernel
theorem q133_141 : decode (mB 133) 141 = .ok (.iaload, 1) := by decide +kernel
theorem q133_142 : decode (mB 133) 142 = .ok (.aload 4, 2) := by decide +kernel
theorem q133_144 : decode (mB 133) 144 = .ok (.iconst 3, 1) := by decide +kernel
theorem q133_145 : decode (mB 133) 145 = .ok (.iaload, 1) := by decide +kernel
theorem q133_146 : decode (mB 133) 146 = .ok (.aload 4, 2) := by decide +kernel
theorem q133_148 : decode (mB 133) 148 = .ok (.iconst 4, 1) := by decide +kernel
theorem q133_149 : decode (mB 133) 149 = .ok (.iaload, 1) := by decide +kernel
theorem q133_150 : decode (mB 133) 150 = .ok (.aload 4, 2) := by decide +kernel
theorem q133_152 : decode (mB 133) 152 = .ok (.iconst 5, 1) := by decide +kernel
theorem q133_153 : decode (mB 133) 153 = .ok (.iaload, 1) := by decide +kernel
theorem q133_154 : cfW 133 154 118 109 7 = true := by decide +kernel
theorem q133_157 : decode (mB 133) 157 = .ok (.aload_n 1, 1) := by decide +kernel
theorem q133_158 : decode (mB 133) 158 = .ok (.iconst 0, 1) := by decide +kernel
theorem q133_159 : decode (mB 133) 159 = .ok (.iaload, 1) := by decide +kernel
theorem q133_160 : decode (mB 133) 160 = .ok (.if_icmp .ne 7, 3) := by decide +kernel
theorem q133_163 : decode (mB 133) 163 = .ok (.iconst 1, 1) := by decide +kernel
theorem q133_164 : decode (mB 133) 164 = .ok (.goto 4, 3) := by decide +kernel
theorem q133_167 : decode (mB 133) 167 = .ok (.iconst 0, 1) := by decide +kernel
theorem q133_168 : decode (mB 133) 168 = .ok (.ireturn, 1) := by decide +kernel
theorem q134_0 : decode (mB 134) 0 = .ok (.iconst 0, 1) := by decide +kernel
theorem q134_1 : decode (mB 134) 1 = .ok (.istore_n 2, 1) := by decide +kernel
theorem q134_2 : decode (mB 134) 2 = .ok (.iconst 0, 1) := by decide +kernel
theorem q134_3 : decode (mB 134) 3 = .ok (.istore_n 3, 1) := by decide +kernel
theorem q134_4 : decode (mB 134) 4 = .ok (.iload_n 3, 1) := by decide +kernel
theorem q134_5 : decode (mB 134) 5 = .ok (.aload_n 0, 1) := by decide +kernel
theorem q134_6 : decode (mB 134) 6 = .ok (.iconst 0, 1) := by decide +kernel
theorem q134_7 : decode (mB 134) 7 = .ok (.iaload, 1) := by decide +kernel
theorem q134_8 : decode (mB 134) 8 = .ok (.if_icmp .ge 29, 3) := by decide +kernel
theorem q134_11 : decode (mB 134) 11 = .ok (.iload_n 2, 1) := by decide +kernel
theorem q134_12 : decode (mB 134) 12 = .ok (.aload_n 0, 1) := by decide +kernel
theorem q134_13 : decode (mB 134) 13 = .ok (.iload_n 3, 1) := by decide +kernel
theorem q134_14 : decode (mB 134) 14 = .ok (.iload_n 1, 1) := by decide +kernel
theorem q134_15 : cfB 134 15 121 131 0 4 3 = true := by decide +kernel
theorem q134_18 : decode (mB 134) 18 = .ok (.sipush (-10000), 3) := by decide +kernel
theorem q134_21 : decode (mB 134) 21 = .ok (.if_icmp .le 7, 3) := by decide +kernel
theorem q134_24 : decode (mB 134) 24 = .ok (.iconst 1, 1) := by decide +kernel
theorem q134_25 : decode (mB 134) 25 = .ok (.goto 4, 3) := by decide +kernel
theorem q134_28 : decode (mB 134) 28 = .ok (.iconst 0, 1) := by decide +kernel
theorem q134_29 : decode (mB 134) 29 = .ok (.iadd, 1) := by decide +kernel
theorem q134_30 : decode (mB 134) 30 = .ok (.istore_n 2, 1) := by decide +kernel
theorem q134_31 : decode (mB 134) 31 = .ok (.iinc 3 1, 3) := by decide +kernel
theorem q134_34 : decode (mB 134) 34 = .ok (.goto (-30), 3) := by decide +kernel
theorem q134_37 : decode (mB 134) 37 = .ok (.iload_n 2, 1) := by decide +kernel
theorem q134_38 : decode (mB 134) 38 = .ok (.ireturn, 1) := by decide +kernel
theorem q135_0 : decode (mB 135) 0 = .ok (.iconst 0, 1) := by decide +kernel
theorem q135_1 : decode (mB 135) 1 = .ok (.istore_n 2, 1) := by decide +kernel
theorem q135_2 : decode (mB 135) 2 = .ok (.iconst 0, 1) := by decide +kernel
theorem q135_3 : decode (mB 135) 3 = .ok (.istore_n 3, 1) := by decide +kernel
theorem q135_4 : decode (mB 135) 4 = .ok (.iload_n 3, 1) := by decide +kernel
theorem q135_5 : decode (mB 135) 5 = .ok (.aload_n 0, 1) := by decide +kernel
theorem q135_6 : decode (mB 135) 6 = .ok (.iconst 0, 1) := by decide +kernel
theorem q135_7 : decode (mB 135) 7 = .ok (.iaload, 1) := by decide +kernel
theorem q135_8 : decode (mB 135) 8 = .ok (.if_icmp .ge 60, 3) := by decide +kernel
theorem q135_11 : decode (mB 135) 11 = .ok (.iconst 0, 1) := by decide +kernel
theorem q135_12 : decode (mB 135) 12 = .ok (.istore 4, 2) := by decide +kernel
theorem q135_14 : decode (mB 135) 14 = .ok (.aload_n 0, 1) := by decide +kernel
theorem q135_15 : decode (mB 135) 15 = .ok (.iload 4, 2) := by decide +kernel
theorem q135_17 : decode (mB 135) 17 = .ok (.iload_n 1, 1) := by decide +kernel
theorem q135_18 : cfB 135 18 121 131 0 4 3 = true := by decide +kernel
theorem q135_21 : decode (mB 135) 21 = .ok (.aload_n 0, 1) := by decide +kernel
theorem q135_22 : decode (mB 135) 22 = .ok (.iload_n 3, 1) := by decide +kernel
theorem q135_23 : decode (mB 135) 23 = .ok (.iload_n 1, 1) := by decide +kernel
theorem q135_24 : cfB 135 24 121 131 0 4 3 = true := by decide +kernel
theorem q135_27 : decode (mB 135) 27 = .ok (.if_icmp .eq 9, 3) := by decide +kernel
theorem q135_30 : decode (mB 135) 30 = .ok (.iinc 4 1, 3) := by decide +kernel
theorem q135_33 : decode (mB 135) 33 = .ok (.goto (-19), 3) := by decide +kernel
theorem q135_36 : decode (mB 135) 36 = .ok (.iload_n 2, 1) := by decide +kernel
theorem q135_37 : decode (mB 135) 37 = .ok (.iload 4, 2) := by decide +kernel
theorem q135_39 : decode (mB 135) 39 = .ok (.iload_n 3, 1) := by decide +kernel
theorem q135_40 : decode (mB 135) 40 = .ok (.if_icmp .ne 19, 3) := by decide +kernel
theorem q135_43 : decode (mB 135) 43 = .ok (.aload_n 0, 1) := by decide +kernel
theorem q135_44 : decode (mB 135) 44 = .ok (.iload_n 3, 1) := by decide +kernel
theorem q135_45 : decode (mB 135) 45 = .ok (.iload_n 1, 1) := by decide +kernel
theorem q135_46 : cfB 135 46 121 131 0 4 3 = true := by decide +kernel
theorem q135_49 : decode (mB 135) 49 = .ok (.sipush (-10000), 3) := by decide +kernel
theorem q135_52 : decode (mB 135) 52 = .ok (.if_icmp .le 7, 3) := by decide +kernel
theorem q135_55 : decode (mB 135) 55 = .ok (.iconst 1, 1) := by decide +kernel
theorem q135_56 : decode (mB 135) 56 = .ok (.goto 4, 3) := by decide +kernel
theorem q135_59 : decode (mB 135) 59 = .ok (.iconst 0, 1) := by decide +kernel
theorem q135_60 : decode (mB 135) 60 = .ok (.iadd, 1) := by decide +kernel
theorem q135_61 : decode (mB 135) 61 = .ok (.istore_n 2, 1) := by decide +kernel
theorem q135_62 : decode (mB 135) 62 = .ok (.iinc 3 1, 3) := by decide +kernel
theorem q135_65 : decode (mB 135) 65 = .ok (.goto (-61), 3) := by decide +kernel
theorem q135_68 : decode (mB 135) 68 = .ok (.iload_n 2, 1) := by decide +kernel
theorem q135_69 : decode (mB 135) 69 = .ok (.ireturn, 1) := by decide +kernel
theorem q136_0 : decode (mB 136) 0 = .ok (.aload_n 0, 1) := by decide +kernel
theorem q136_1 : decode (mB 136) 1 = .ok (.iload_n 1, 1) := by decide +kernel
theorem q136_2 : cfB 136 2 124 134 0 4 2 = true := by decide +kernel
theorem q136_5 : decode (mB 136) 5 = .ok (.istore_n 2, 1) := by decide +kernel
theorem q136_6 : decode (mB 136) 6 = .ok (.aload_n 0, 1) := by decide +kernel
theorem q136_7 : decode (mB 136) 7 = .ok (.iload_n 1, 1) := by decide +kernel
theorem q136_8 : cfB 136 8 127 135 0 4 2 = true := by decide +kernel
theorem q136_11 : decode (mB 136) 11 = .ok (.istore_n 3, 1) := by decide +kernel
theorem q136_12 : decode (mB 136) 12 = .ok (.sipush (-10000), 3) := by decide +kernel
theorem q136_15 : decode (mB 136) 15 = .ok (.istore 4, 2) := by decide +kernel
theorem q136_17 : decode (mB 136) 17 = .ok (.iload_n 2, 1) := by decide +kernel
theorem q136_18 : decode (mB 136) 18 = .ok (.iconst 3, 1) := by decide +kernel
theorem q136_19 : decode (mB 136) 19 = .ok (.if_icmp .le 7, 3) := by decide +kernel
theorem q136_22 : decode (mB 136) 22 = .ok (.iconst 1, 1) := by decide +kernel
theorem q136_23 : decode (mB 136) 23 = .ok (.goto 4, 3) := by decide +kernel
theorem q136_26 : decode (mB 136) 26 = .ok (.iconst 0, 1) := by decide +kernel
theorem q136_27 : decode (mB 136) 27 = .ok (.istore 5, 2) := by decide +kernel
theorem q136_29 : decode (mB 136) 29 = .ok (.iconst 0, 1) := by decide +kernel
theorem q136_30 : decode (mB 136) 30 = .ok (.istore 6, 2) := by decide +kernel
theorem q136_32 : decode (mB 136) 32 = .ok (.iload 6, 2) := by decide +kernel
theorem q136_34 : decode (mB 136) 34 = .ok (.aload_n 0, 1) := by decide +kernel
theorem q136_35 : decode (mB 136) 35 = .ok (.iconst 0, 1) := by decide +kernel
theorem q136_36 : decode (mB 136) 36 = .ok (.iaload, 1) := by decide +kernel
theorem q136_37 : decode (mB 136) 37 = .ok (.if_icmp .ge 52, 3) := by decide +kernel
theorem q136_40 : decode (mB 136) 40 = .ok (.aload_n 0, 1) := by decide +kernel
theorem q136_41 : decode (mB 136) 41 = .ok (.iload 6, 2) := by decide +kernel
theorem q136_43 : decode (mB 136) 43 = .ok (.iload_n 1, 1) := by decide +kernel
theorem q136_44 : cfB 136 44 121 131 0 4 3 = true := by decide +kernel
theorem q136_47 : decode (mB 136) 47 = .ok (.istore 7, 2) := by decide +kernel
theorem q136_49 : decode (mB 136) 49 = .ok (.iload 5, 2) := by decide +kernel
theorem q136_51 : decode (mB 136) 51 = .ok (.iload 7, 2) := by decide +kernel
theorem q136_53 : decode (mB 136) 53 = .ok (.sipush (-10000), 3) := by decide +kernel
theorem q136_56 : decode (mB 136) 56 = .ok (.if_icmp .eq 10, 3) := by decide +kernel
theorem q136_59 : decode (mB 136) 59 = .ok (.iload 7, 2) := by decide +kernel
theorem q136_61 : decode (mB 136) 61 = .ok (.iload 4, 2) := by decide +kernel
theorem q136_63 : decode (mB 136) 63 = .ok (.if_icmp .le 7, 3) := by decide +kernel
theorem q136_66 : decode (mB 136) 66 = .ok (.iconst 1, 1) := by decide +kernel
theorem q136_67 : decode (mB 136) 67 = .ok (.goto 4, 3) := by decide +kernel
theorem q136_70 : decode (mB 136) 70 = .ok (.iconst 0, 1) := by decide +kernel
theorem q136_71 : decode (mB 136) 71 = .ok (.iand, 1) := by decide +kernel
theorem q136_72 : decode (mB 136) 72 = .ok (.istore 5, 2) := by decide +kernel
theorem q136_74 : decode (mB 136) 74 = .ok (.iload 4, 2) := by decide +kernel
theorem q136_76 : decode (mB 136) 76 = .ok (.iload 7, 2) := by decide +kernel
theorem q136_78 : (decide (136 < 152) && decide (decode (mB 136) 78 = .ok (.invokestatic 129, 3)) && (lks (mD 136)).contains (129, 3, 1, 0) && decide (1 ≤ mV 136)) = true := by decide +kernel
theorem q136_81 : decode (mB 136) 81 = .ok (.istore 4, 2) := by decide +kernel
theorem q136_83 : decode (mB 136) 83 = .ok (.iinc 6 1, 3) := by decide +kernel
theorem q136_86 : decode (mB 136) 86 = .ok (.goto (-54), 3) := by decide +kernel
theorem q136_89 : decode (mB 136) 89 = .ok (.iload_n 3, 1) := by decide +kernel
theorem q136_90 : decode (mB 136) 90 = .ok (.iconst 2, 1) := by decide +kernel
theorem q136_91 : decode (mB 136) 91 = .ok (.if_icmp .ge 13, 3) := by decide +kernel
theorem q136_94 : decode (mB 136) 94 = .ok (.iload_n 3, 1) := by decide +kernel
theorem q136_95 : decode (mB 136) 95 = .ok (.ifCond .ne 7, 3) := by decide +kernel
theorem q136_98 : decode (mB 136) 98 = .ok (.iconst 0, 1) := by decide +kernel
theorem q136_99 : decode (mB 136) 99 = .ok (.goto 4, 3) := by decide +kernel
theorem q136_102 : decode (mB 136) 102 = .ok (.iconst 1, 1) := by decide +kernel
theorem q136_103 : decode (mB 136) 103 = .ok (.ireturn, 1) := by decide +kernel
theorem q136_104 : decode (mB 136) 104 = .ok (.iload_n 3, 1) := by decide +kernel
theorem q136_105 : decode (mB 136) 105 = .ok (.bipush 7, 2) := by decide +kernel
theorem q136_107 : decode (mB 136) 107 = .ok (.if_icmp .ge 14, 3) := by decide +kernel
theorem q136_110 : decode (mB 136) 110 = .ok (.iload_n 2, 1) := by decide +kernel
theorem q136_111 : decode (mB 136) 111 = .ok (.iload_n 3, 1) := by decide +kernel
theorem q136_112 : decode (mB 136) 112 = .ok (.iload_n 3, 1) := by decide +kernel
theorem q136_113 : decode (mB 136) 113 = .ok (.iadd, 1) := by decide +kernel
theorem q136_114 : decode (mB 136) 114 = .ok (.if_icmp .lt 7, 3) := by decide +kernel
theorem q136_117 : decode (mB 136) 117 = .ok (.iconst 1, 1) := by decide +kernel
theorem q136_118 : decode (mB 136) 118 = .ok (.goto 4, 3) := by decide +kernel
theorem q136_121 : decode (mB 136) 121 = .ok (.iconst 0, 1) := by decide +kernel
theorem q136_122 : decode (mB 136) 122 = .ok (.istore 6, 2) := by decide +kernel
theorem q136_124 : decode (mB 136) 124 = .ok (.aload_n 0, 1) := by decide +kernel
theorem q136_125 : decode (mB 136) 125 = .ok (.bipush 10, 2) := by decide +kernel
theorem q136_127 : decode (mB 136) 127 = .ok (.iload_n 1, 1) := by decide +kernel
theorem q136_128 : decode (mB 136) 128 = .ok (.iadd, 1) := by decide +kernel
theorem q136_129 : decode (mB 136) 129 = .ok (.iaload, 1) := by decide +kernel
theorem q136_130 : decode (mB 136) 130 = .ok (.ifCond .le 12, 3) := by decide +kernel
theorem q136_133 : decode (mB 136) 133 = .ok (.aload_n 0, 1) := by decide +kernel
theorem q136_134 : decode (mB 136) 134 = .ok (.bipush 10, 2) := by decide +kernel
theorem q136_136 : decode (mB 136) 136 = .ok (.iload_n 1, 1) := by decide +kernel
theorem q136_137 : decode (mB 136) 137 = .ok (.iadd, 1) := by decide +kernel
theorem q136_138 : decode (mB 136) 138 = .ok (.iaload, 1) := by decide +kernel
theorem q136_139 : decode (mB 136) 139 = .ok (.goto 22, 3) := by decide +kernel
theorem q136_142 : decode (mB 136) 142 = .ok (.iload 5, 2) := by decide +kernel
theorem q136_144 : decode (mB 136) 144 = .ok (.ifCond .eq 7, 3) := by decide +kernel
theorem q136_147 : decode (mB 136) 147 = .ok (.iconst 2, 1) := by decide +kernel
theorem q136_148 : decode (mB 136) 148 = .ok (.goto 13, 3) := by decide +kernel
theorem q136_151 : decode (mB 136) 151 = .ok (.iload 6, 2) := by decide +kernel
theorem q136_153 : decode (mB 136) 153 = .ok (.ifCond .eq 7, 3) := by decide +kernel
theorem q136_156 : decode (mB 136) 156 = .ok (.iconst 3, 1) := by decide +kernel
theorem q136_157 : decode (mB 136) 157 = .ok (.goto 4, 3) := by decide +kernel
theorem q136_160 : decode (mB 136) 160 = .ok (.iconst 4, 1) := by decide +kernel
theorem q136_161 : decode (mB 136) 161 = .ok (.ireturn, 1) := by decide +kernel
theorem q137_0 : decode (mB 137) 0 = .ok (.bipush 12, 2) := by decide +kernel
theorem q137_2 : naB 137 2 0 = true := by decide +kernel
theorem q137_4 : decode (mB 137) 4 = .ok (.astore_n 1, 1) := by decide +kernel
theorem q137_5 : decode (mB 137) 5 = .ok (.iconst 0, 1) := by decide +kernel
theorem q137_6 : decode (mB 137) 6 = .ok (.istore_n 2, 1) := by decide +kernel
theorem q137_7 : decode (mB 137) 7 = .ok (.iload_n 2, 1) := by decide +kernel
theorem q137_8 : decode (mB 137) 8 = .ok (.bipush 6, 2) := by decide +kernel
theorem q137_10 : decode (mB 137) 10 = .ok (.if_icmp .ge 28, 3) := by decide +kernel
theorem q137_13 : decode (mB 137) 13 = .ok (.aload_n 1, 1) := by decide +kernel
theorem q137_14 : decode (mB 137) 14 = .ok (.iload_n 2, 1) := by decide +kernel
theorem q137_15 : decode (mB 137) 15 = .ok (.aload_n 0, 1) := by decide +kernel
theorem q137_16 : decode (mB 137) 16 = .ok (.iload_n 2, 1) := by decide +kernel
theorem q137_17 : cfB 137 17 134 136 0 4 2 = true := by decide +kernel
theorem q137_20 : decode (mB 137) 20 = .ok (.iastore, 1) := by decide +kernel
theorem q137_21 : decode (mB 137) 21 = .ok (.aload_n 1, 1) := by decide +kernel
theorem q137_22 : decode (mB 137) 22 = .ok (.bipush 6, 2) := by decide +kernel
theorem q137_24 : decode (mB 137) 24 = .ok (.iload_n 2, 1) := by decide +kernel
theorem q137_25 : decode (mB 137) 25 = .ok (.iadd, 1) := by decide +kernel
theorem q137_26 : decode (mB 137) 26 = .ok (.aload_n 0, 1) := by decide +kernel
theorem q137_27 : decode (mB 137) 27 = .ok (.iload_n 2, 1) := by decide +kernel
theorem q137_28 : cfB 137 28 127 135 0 4 2 = true := by decide +kernel
theorem q137_31 : decode (mB 137) 31 = .ok (.iastore, 1) := by decide +kernel
theorem q137_32 : decode (mB 137) 32 = .ok (.iinc 2 1, 3) := by decide +kernel
theorem q137_35 : decode (mB 137) 35 = .ok (.goto (-28), 3) := by decide +kernel
theorem q137_38 : decode (mB 137) 38 = .ok (.aload_n 1, 1) := by decide +kernel
theorem q137_39 : decode (mB 137) 39 = .ok (.areturn, 1) := by decide +kernel
theorem q138_0 : decode (mB 138) 0 = .ok (.iload_n 1, 1) := by decide +kernel
theorem q138_1 : decode (mB 138) 1 = .ok (.ifCond .lt 21, 3) := by decide +kernel
theorem q138_4 : decode (mB 138) 4 = .ok (.aload_n 0, 1) := by decide +kernel
theorem q138_5 : decode (mB 138) 5 = .ok (.iload_n 1, 1) := by decide +kernel
theorem q138_6 : decode (mB 138) 6 = .ok (.iaload, 1) := by decide +kernel
theorem q138_7 : decode (mB 138) 7 = .ok (.iload_n 2, 1) := by decide +kernel
theorem q138_8 : decode (mB 138) 8 = .ok (.if_icmp .eq 10, 3) := by decide +kernel
theorem q138_11 : decode (mB 138) 11 = .ok (.aload_n 0, 1) := by decide +kernel
theorem q138_12 : decode (mB 138) 12 = .ok (.iload_n 1, 1) := by decide +kernel
theorem q138_13 : decode (mB 138) 13 = .ok (.iaload, 1) := by decide +kernel
theorem q138_14 : decode (mB 138) 14 = .ok (.iload_n 3, 1) := by decide +kernel
theorem q138_15 : decode (mB 138) 15 = .ok (.if_icmp .ne 7, 3) := by decide +kernel
theorem q138_18 : decode (mB 138) 18 = .ok (.iconst 1, 1) := by decide +kernel
theorem q138_19 : decode (mB 138) 19 = .ok (.goto 4, 3) := by decide +kernel
theorem q138_22 : decode (mB 138) 22 = .ok (.iconst 0, 1) := by decide +kernel
theorem q138_23 : decode (mB 138) 23 = .ok (.ireturn, 1) := by decide +kernel
theorem q139_0 : decode (mB 139) 0 = .ok (.aload_n 3, 1) := by decide +kernel
theorem q139_1 : decode (mB 139) 1 = .ok (.iconst 2, 1) := by decide +kernel
theorem q139_2 : decode (mB 139) 2 = .ok (.iaload, 1) := by decide +kernel
theorem q139_3 : decode (mB 139) 3 = .ok (.istore 4, 2) := by decide +kernel
theorem q139_5 : decode (mB 139) 5 = .ok (.aload_n 3, 1) := by decide +kernel
theorem q139_6 : decode (mB 139) 6 = .ok (.iconst 3, 1) := by decide +kernel
theorem q139_7 : decode (mB 139) 7 = .ok (.iaload, 1) := by decide +kernel
theorem q139_8 : decode (mB 139) 8 = .ok (.istore 5, 2) := by decide +kernel
theorem q139_10 : decode (mB 139) 10 = .ok (.aload_n 1, 1) := by decide +kernel
theorem q139_11 : decode (mB 139) 11 = .ok (.iload 5, 2) := by decide +kernel
theorem q139_13 : decode (mB 139) 13 = .ok (.iconst 4, 1) := by decide +kernel
theorem q139_14 : decode (mB 139) 14 = .ok (.iconst 4, 1) := by decide +kernel
theorem q139_15 : cfB 139 15 137 138 0 4 4 = true := by decide +kernel
theorem q139_18 : decode (mB 139) 18 = .ok (.ifCond .ne 10, 3) := by decide +kernel
theorem q139_21 : decode (mB 139) 21 = .ok (.aload_n 3, 1) := by decide +kernel
theorem q139_22 : decode (mB 139) 22 = .ok (.iconst 1, 1) := by decide +kernel
theorem q139_23 : decode (mB 139) 23 = .ok (.iaload, 1) := by decide +kernel
theorem q139_24 : decode (mB 139) 24 = .ok (.iconst 1, 1) := by decide +kernel
theorem q139_25 : decode (mB 139) 25 = .ok (.if_icmp .ne 7, 3) := by decide +kernel
theorem q139_28 : decode (mB 139) 28 = .ok (.iconst 1, 1) := by decide +kernel
theorem q139_29 : decode (mB 139) 29 = .ok (.goto 4, 3) := by decide +kernel
theorem q139_32 : decode (mB 139) 32 = .ok (.iconst 0, 1) := by decide +kernel
theorem q139_33 : decode (mB 139) 33 = .ok (.istore 6, 2) := by decide +kernel
theorem q139_35 : decode (mB 139) 35 = .ok (.iconst 1, 1) := by decide +kernel
theorem q139_36 : decode (mB 139) 36 = .ok (.istore 7, 2) := by decide +kernel
theorem q139_38 : decode (mB 139) 38 = .ok (.iconst 2, 1) := by decide +kernel
theorem q139_39 : decode (mB 139) 39 = .ok (.istore 8, 2) := by decide +kernel
theorem q139_41 : decode (mB 139) 41 = .ok (.iload 8, 2) := by decide +kernel
theorem q139_43 : decode (mB 139) 43 = .ok (.bipush 6, 2) := by decide +kernel
theorem q139_45 : decode (mB 139) 45 = .ok (.if_icmp .ge 94, 3) := by decide +kernel
theorem q139_48 : decode (mB 139) 48 = .ok (.aload_n 1, 1) := by decide +kernel
theorem q139_49 : decode (mB 139) 49 = .ok (.aload_n 3, 1) := by decide +kernel
theorem q139_50 : decode (mB 139) 50 = .ok (.iload 8, 2) := by decide +kernel
theorem q139_52 : decode (mB 139) 52 = .ok (.iaload, 1) := by decide +kernel
theorem q139_53 : decode (mB 139) 53 = .ok (.iconst 0, 1) := by decide +kernel
theorem q139_54 : decode (mB 139) 54 = .ok (.iconst 1, 1) := by decide +kernel
theorem q139_55 : cfB 139 55 137 138 0 4 4 = true := by decide +kernel
theorem q139_58 : decode (mB 139) 58 = .ok (.istore 9, 2) := by decide +kernel
theorem q139_60 : decode (mB 139) 60 = .ok (.aload_n 3, 1) := by decide +kernel
theorem q139_61 : decode (mB 139) 61 = .ok (.iload 8, 2) := by decide +kernel
theorem q139_63 : decode (mB 139) 63 = .ok (.iaload, 1) := by decide +kernel
theorem q139_64 : decode (mB 139) 64 = .ok (.ifCond .lt 27, 3) := by decide +kernel
theorem q139_67 : decode (mB 139) 67 = .ok (.aload_n 0, 1) := by decide +kernel
theorem q139_68 : decode (mB 139) 68 = .ok (.bipush 40, 2) := by decide +kernel
theorem q139_70 : decode (mB 139) 70 = .ok (.aload_n 3, 1) := by decide +kernel
theorem q139_71 : decode (mB 139) 71 = .ok (.iload 8, 2) := by decide +kernel
theorem q139_73 : decode (mB 139) 73 = .ok (.iaload, 1) := by decide +kernel
theorem q139_74 : decode (mB 139) 74 = .ok (.iadd, 1) := by decide +kernel
theorem q139_75 : decode (mB 139) 75 = .ok (.iaload, 1) := by decide +kernel
theorem q139_76 : decode (mB 139) 76 = .ok (.iload 8, 2) := by decide +kernel
theorem q139_78 : decode (mB 139) 78 = .ok (.iconst 2, 1) := by decide +kernel
theorem q139_79 : decode (mB 139) 79 = .ok (.isub, 1) := by decide +kernel
theorem q139_80 : decode (mB 139) 80 = .ok (.ishr, 1) := by decide +kernel
theorem q139_81 : decode (mB 139) 81 = .ok (.iconst 1, 1) := by decide +kernel
theorem q139_82 : decode (mB 139) 82 = .ok (.iand, 1) := by decide +kernel
theorem q139_83 : decode (mB 139) 83 = .ok (.iconst 1, 1) := by decide +kernel
theorem q139_84 : decode (mB 139) 84 = .ok (.if_icmp .ne 7, 3) := by decide +kernel
theorem q139_87 : decode (mB 139) 87 = .ok (.iconst 1, 1) := by decide +kernel
theorem q139_88 : decode (mB 139) 88 = .ok (.goto 4, 3) := by decide +kernel
theorem q139_91 : decode (mB 139) 91 = .ok (.iconst 0, 1) := by decide +kernel
theorem q139_92 : decode (mB 139) 92 = .ok (.istore 10, 2) := by decide +kernel
theorem q139_94 : decode (mB 139) 94 = .ok (.iload 7, 2) := by decide +kernel
theorem q139_96 : decode (mB 139) 96 = .ok (.iload_n 2, 1) := by decide +kernel
theorem q139_97 : decode (mB 139) 97 = .ok (.iconst 2, 1) := by decide +kernel
theorem q139_98 : decode (mB 139) 98 = .ok (.if_icmp .ne 16, 3) := by decide +kernel
theorem q139_101 : decode (mB 139) 101 = .ok (.iload 9, 2) := by decide +kernel
theorem q139_103 : decode (mB 139) 103 = .ok (.ifCond .ne 7, 3) := by decide +kernel
theorem q139_106 : decode (mB 139) 106 = .ok (.iconst 1, 1) := by decide +kernel
theorem q139_107 : decode (mB 139) 107 = .ok (.goto 23, 3) := by decide +kernel
theorem q139_110 : decode (mB 139) 110 = .ok (.iconst 0, 1) := by decide +kernel
theorem q139_111 : decode (mB 139) 111 = .ok (.goto 19, 3) := by decide +kernel
theorem q139_114 : decode (mB 139) 114 = .ok (.iload_n 2, 1) := by decide +kernel
theorem q139_115 : decode (mB 139) 115 = .ok (.bipush 8, 2) := by decide +kernel
theorem q139_117 : decode (mB 139) 117 = .ok (.if_icmp .ne 8, 3) := by decide +kernel
theorem q139_120 : decode (mB 139) 120 = .ok (.iload 10, 2) := by decide +kernel
theorem q139_122 : decode (mB 139) 122 = .ok (.ifCond .ne 7, 3) := by decide +kernel
theorem q139_125 : decode (mB 139) 125 = .ok (.iconst 1, 1) := by decide +kernel
theorem q139_126 : decode (mB 139) 126 = .ok (.goto 4, 3) := by decide +kernel
theorem q139_129 : decode (mB 139) 129 = .ok (.iconst 0, 1) := by decide +kernel
theorem q139_130 : decode (mB 139) 130 = .ok (.iand, 1) := by decide +kernel
theorem q139_131 : decode (mB 139) 131 = .ok (.istore 7, 2) := by decide +kernel
theorem q139_133 : decode (mB 139) 133 = .ok (.iinc 8 1, 3) := by decide +kernel
theorem q139_136 : decode (mB 139) 136 = .ok (.goto (-95), 3) := by decide +kernel
theorem q139_139 : decode (mB 139) 139 = .ok (.iconst 0, 1) := by decide +kernel
theorem q139_140 : decode (mB 139) 140 = .ok (.istore 8, 2) := by decide +kernel
theorem q139_142 : decode (mB 139) 142 = .ok (.iload 8, 2) := by decide +kernel
theorem q139_144 : decode (mB 139) 144 = .ok (.bipush 6, 2) := by decide +kernel
theorem q139_146 : decode (mB 139) 146 = .ok (.if_icmp .ge 65, 3) := by decide +kernel
theorem q139_149 : decode (mB 139) 149 = .ok (.iload_n 2, 1) := by decide +kernel
theorem q139_150 : decode (mB 139) 150 = .ok (.bipush 9, 2) := by decide +kernel
theorem q139_152 : decode (mB 139) 152 = .ok (.if_icmp .ne 59, 3) := by decide +kernel
theorem q139_155 : decode (mB 139) 155 = .ok (.iload 7, 2) := by decide +kernel
theorem q139_157 : decode (mB 139) 157 = .ok (.aload_n 0, 1) := by decide +kernel
theorem q139_158 : decode (mB 139) 158 = .ok (.bipush 30, 2) := by decide +kernel
theorem q139_160 : decode (mB 139) 160 = .ok (.iload 8, 2) := by decide +kernel
theorem q139_162 : decode (mB 139) 162 = .ok (.iadd, 1) := by decide +kernel
theorem q139_163 : decode (mB 139) 163 = .ok (.iaload, 1) := by decide +kernel
theorem q139_164 : decode (mB 139) 164 = .ok (.ifCond .eq 33, 3) := by decide +kernel
theorem q139_167 : decode (mB 139) 167 = .ok (.iload 4, 2) := by decide +kernel
theorem q139_169 : decode (mB 139) 169 = .ok (.iload 8, 2) := by decide +kernel
theorem q139_171 : decode (mB 139) 171 = .ok (.if_icmp .eq 26, 3) := by decide +kernel
theorem q139_174 : decode (mB 139) 174 = .ok (.iload 5, 2) := by decide +kernel
theorem q139_176 : decode (mB 139) 176 = .ok (.iload 8, 2) := by decide +kernel
theorem q139_178 : decode (mB 139) 178 = .ok (.if_icmp .eq 19, 3) := by decide +kernel
theorem q139_181 : decode (mB 139) 181 = .ok (.aload_n 3, 1) := by decide +kernel
theorem q139_182 : decode (mB 139) 182 = .ok (.iconst 4, 1) := by decide +kernel
theorem q139_183 : decode (mB 139) 183 = .ok (.iaload, 1) := by decide +kernel
theorem q139_184 : decode (mB 139) 184 = .ok (.iload 8, 2) := by decide +kernel
theorem q139_186 : decode (mB 139) 186 = .ok (.if_icmp .eq 11, 3) := by decide +kernel
theorem q139_189 : decode (mB 139) 189 = .ok (.aload_n 3, 1) := by decide +kernel
theorem q139_190 : decode (mB 139) 190 = .ok (.iconst 5, 1) := by decide +kernel
theorem q139_191 : decode (mB 139) 191 = .ok (.iaload, 1) := by decide +kernel
theorem q139_192 : decode (mB 139) 192 = .ok (.iload 8, 2) := by decide +kernel
theorem q139_194 : decode (mB 139) 194 = .ok (.if_icmp .ne 7, 3) := by decide +kernel
theorem q139_197 : decode (mB 139) 197 = .ok (.iconst 1, 1) := by decide +kernel
theorem q139_198 : decode (mB 139) 198 = .ok (.goto 4, 3) := by decide +kernel
theorem q139_201 : decode (mB 139) 201 = .ok (.iconst 0, 1) := by decide +kernel
theorem q139_202 : decode (mB 139) 202 = .ok (.iand, 1) := by decide +kernel
theorem q139_203 : decode (mB 139) 203 = .ok (.istore 7, 2) := by decide +kernel
theorem q139_205 : decode (mB 139) 205 = .ok (.iinc 8 1, 3) := by decide +kernel
theorem q139_208 : decode (mB 139) 208 = .ok (.goto (-66), 3) := by decide +kernel
theorem q139_211 : decode (mB 139) 211 = .ok (.iload_n 2, 1) := by decide +kernel
theorem q139_212 : decode (mB 139) 212 = .ok (.iconst 2, 1) := by decide +kernel
theorem q139_213 : decode (mB 139) 213 = .ok (.if_icmp .eq 9, 3) := by decide +kernel
theorem q139_216 : decode (mB 139) 216 = .ok (.iload_n 2, 1) := by decide +kernel
theorem q139_217 : decode (mB 139) 217 = .ok (.bipush 8, 2) := by decide +kernel
theorem q139_219 : decode (mB 139) 219 = .ok (.if_icmp .ne 6, 3) := by decide +kernel
theorem q139_222 : decode (mB 139) 222 = .ok (.iload 7, 2) := by decide +kernel
theorem q139_224 : decode (mB 139) 224 = .ok (.ireturn, 1) := by decide +kernel
theorem q139_225 : decode (mB 139) 225 = .ok (.iload_n 2, 1) := by decide +kernel
theorem q139_226 : decode (mB 139) 226 = .ok (.bipush 9, 2) := by decide +kernel
theorem q139_228 : decode (mB 139) 228 = .ok (.if_icmp .ne 53, 3) := by decide +kernel
theorem q139_231 : decode (mB 139) 231 = .ok (.iload 7, 2) := by decide +kernel
theorem q139_233 : decode (mB 139) 233 = .ok (.ifCond .eq 46, 3) := by decide +kernel
theorem q139_236 : decode (mB 139) 236 = .ok (.aload_n 0, 1) := by decide +kernel
theorem q139_237 : decode (mB 139) 237 = .ok (.iconst 1, 1) := by decide +kernel
theorem q139_238 : decode (mB 139) 238 = .ok (.iaload, 1) := by decide +kernel
theorem q139_239 : decode (mB 139) 239 = .ok (.bipush 45, 2) := by decide +kernel
theorem q139_241 : decode (mB 139) 241 = .ok (.if_icmp .eq 34, 3) := by decide +kernel
theorem q139_244 : decode (mB 139) 244 = .ok (.aload_n 0, 1) := by decide +kernel
theorem q139_245 : decode (mB 139) 245 = .ok (.iconst 1, 1) := by decide +kernel
theorem q139_246 : decode (mB 139) 246 = .ok (.iaload, 1) := by decide +kernel
theorem q139_247 : decode (mB 139) 247 = .ok (.aload_n 3, 1) := by decide +kernel
theorem q139_248 : decode (mB 139) 248 = .ok (.iconst 0, 1) := by decide +kernel
theorem q139_249 : decode (mB 139) 249 = .ok (.iaload, 1) := by decide +kernel
theorem q139_250 : decode (mB 139) 250 = .ok (.ifCond .ne 8, 3) := by decide +kernel
theorem q139_253 : decode (mB 139) 253 = .ok (.bipush 98, 2) := by decide +kernel
theorem q139_255 : decode (mB 139) 255 = .ok (.goto 17, 3) := by decide +kernel
theorem q139_258 : decode (mB 139) 258 = .ok (.aload_n 3, 1) := by decide +kernel
theorem q139_259 : decode (mB 139) 259 = .ok (.iconst 0, 1) := by decide +kernel
theorem q139_260 : decode (mB 139) 260 = .ok (.iaload, 1) := by decide +kernel
theorem q139_261 : decode (mB 139) 261 = .ok (.iconst 1, 1) := by decide +kernel
theorem q139_262 : decode (mB 139) 262 = .ok (.if_icmp .ne 8, 3) := by decide +kernel
theorem q139_265 : decode (mB 139) 265 = .ok (.bipush 108, 2) := by decide +kernel
theorem q139_267 : decode (mB 139) 267 = .ok (.goto 5, 3) := by decide +kernel
theorem q139_270 : decode (mB 139) 270 = .ok (.bipush 112, 2) := by decide +kernel
theorem q139_272 : decode (mB 139) 272 = .ok (.if_icmp .ne 7, 3) := by decide +kernel
theorem q139_275 : decode (mB 139) 275 = .ok (.iconst 1, 1) := by decide +kernel
theorem q139_276 : decode (mB 139) 276 = .ok (.goto 4, 3) := by decide +kernel
theorem q139_279 : decode (mB 139) 279 = .ok (.iconst 0, 1) := by decide +kernel
theorem q139_280 : decode (mB 139) 280 = .ok (.ireturn, 1) := by decide +kernel
theorem q139_281 : decode (mB 139) 281 = .ok (.iload_n 2, 1) := by decide +kernel
theorem q139_282 : decode (mB 139) 282 = .ok (.iconst 5, 1) := by decide +kernel
theorem q139_283 : decode (mB 139) 283 = .ok (.if_icmp .ge 104, 3) := by decide +kernel
theorem q139_286 : decode (mB 139) 286 = .ok (.aload_n 1, 1) := by decide +kernel
theorem q139_287 : decode (mB 139) 287 = .ok (.iload 4, 2) := by decide +kernel
theorem q139_289 : decode (mB 139) 289 = .ok (.iconst 3, 1) := by decide +kernel
theorem q139_290 : decode (mB 139) 290 = .ok (.iconst 2, 1) := by decide +kernel
theorem q139_291 : cfB 139 291 137 138 0 4 4 = true := by decide +kernel
theorem q139_294 : decode (mB 139) 294 = .ok (.ifCond .eq 12, 3) := by decide +kernel
theorem q139_297 : decode (mB 139) 297 = .ok (.iload 6, 2) := by decide +kernel
theorem q139_299 : decode (mB 139) 299 = .ok (.ifCond .eq 7, 3) := by decide +kernel
theorem q139_302 : decode (mB 139) 302 = .ok (.iconst 1, 1) := by decide +kernel
theorem q139_303 : decode (mB 139) 303 = .ok (.goto 4, 3) := by decide +kernel
theorem q139_306 : decode (mB 139) 306 = .ok (.iconst 0, 1) := by decide +kernel
theorem q139_307 : decode (mB 139) 307 = .ok (.istore 8, 2) := by decide +kernel
theorem q139_309 : decode (mB 139) 309 = .ok (.iload_n 2, 1) := by decide +kernel
theorem q139_310 : decode (mB 139) 310 = .ok (.iconst 1, 1) := by decide +kernel
theorem q139_311 : decode (mB 139) 311 = .ok (.if_icmp .ne 21, 3) := by decide +kernel
theorem q139_314 : decode (mB 139) 314 = .ok (.iload 4, 2) := by decide +kernel
theorem q139_316 : decode (mB 139) 316 = .ok (.ifCond .ge 8, 3) := by decide +kernel
theorem q139_319 : decode (mB 139) 319 = .ok (.iload 5, 2) := by decide +kernel
theorem q139_321 : decode (mB 139) 321 = .ok (.ifCond .lt 7, 3) := by decide +kernel
theorem q139_324 : decode (mB 139) 324 = .ok (.iconst 1, 1) := by decide +kernel
theorem q139_325 : decode (mB 139) 325 = .ok (.goto 61, 3) := by decide +kernel
theorem q139_328 : decode (mB 139) 328 = .ok (.iconst 0, 1) := by decide +kernel
theorem q139_329 : decode (mB 139) 329 = .ok (.goto 57, 3) := by decide +kernel
theorem q139_332 : decode (mB 139) 332 = .ok (.iload_n 2, 1) := by decide +kernel
theorem q139_333 : decode (mB 139) 333 = .ok (.iconst 3, 1) := by decide +kernel
theorem q139_334 : decode (mB 139) 334 = .ok (.if_icmp .ne 36, 3) := by decide +kernel
theorem q139_337 : decode (mB 139) 337 = .ok (.aload_n 3, 1) := by decide +kernel
theorem q139_338 : decode (mB 139) 338 = .ok (.iconst 5, 1) := by decide +kernel
theorem q139_339 : decode (mB 139) 339 = .ok (.iaload, 1) := by decide +kernel
theorem q139_340 : decode (mB 139) 340 = .ok (.ifCond .lt 22, 3) := by decide +kernel
theorem q139_343 : decode (mB 139) 343 = .ok (.aload_n 1, 1) := by decide +kernel
theorem q139_344 : decode (mB 139) 344 = .ok (.aload_n 3, 1) := by decide +kernel
theorem q139_345 : decode (mB 139) 345 = .ok (.iconst 5, 1) := by decide +kernel
theorem q139_346 : decode (mB 139) 346 = .ok (.iaload, 1) := by decide +kernel
theorem q139_347 : decode (mB 139) 347 = .ok (.iconst 4, 1) := by decide +kernel
theorem q139_348 : decode (mB 139) 348 = .ok (.iconst 4, 1) := by decide +kernel
theorem q139_349 : cfB 139 349 137 138 0 4 4 = true := by decide +kernel
theorem q139_352 : decode (mB 139) 352 = .ok (.ifCond .eq 14, 3) := by decide +kernel
theorem q139_355 : decode (mB 139) 355 = .ok (.aload_n 3, 1) := by decide +kernel
theorem q139_356 : decode (mB 139) 356 = .ok (.iconst 0, 1) := by decide +kernel
theorem q139_357 : decode (mB 139) 357 = .ok (.iaload, 1) := by decide +kernel
theorem q139_358 : decode (mB 139) 358 = .ok (.iconst 2, 1) := by decide +kernel
theorem q139_359 : decode (mB 139) 359 = .ok (.if_icmp .ne 7, 3) := by decide +kernel
theorem q139_362 : decode (mB 139) 362 = .ok (.iconst 1, 1) := by decide +kernel
theorem q139_363 : decode (mB 139) 363 = .ok (.goto 23, 3) := by decide +kernel
theorem q139_366 : decode (mB 139) 366 = .ok (.iconst 0, 1) := by decide +kernel
theorem q139_367 : decode (mB 139) 367 = .ok (.goto 19, 3) := by decide +kernel
theorem q139_370 : decode (mB 139) 370 = .ok (.aload_n 3, 1) := by decide +kernel
theorem q139_371 : decode (mB 139) 371 = .ok (.iconst 0, 1) := by decide +kernel
theorem q139_372 : decode (mB 139) 372 = .ok (.iaload, 1) := by decide +kernel
theorem q139_373 : decode (mB 139) 373 = .ok (.ifCond .ne 8, 3) := by decide +kernel
theorem q139_376 : decode (mB 139) 376 = .ok (.iload 8, 2) := by decide +kernel
theorem q139_378 : decode (mB 139) 378 = .ok (.ifCond .eq 7, 3) := by decide +kernel
theorem q139_381 : decode (mB 139) 381 = .ok (.iconst 1, 1) := by decide +kernel
theorem q139_382 : decode (mB 139) 382 = .ok (.goto 4, 3) := by decide +kernel
theorem q139_385 : decode (mB 139) 385 = .ok (.iconst 0, 1) := by decide +kernel
theorem q139_386 : decode (mB 139) 386 = .ok (.ireturn, 1) := by decide +kernel
theorem q139_387 : decode (mB 139) 387 = .ok (.aload_n 1, 1) := by decide +kernel
theorem q139_388 : decode (mB 139) 388 = .ok (.iload 5, 2) := by decide +kernel
theorem q139_390 : decode (mB 139) 390 = .ok (.iconst 4, 1) := by decide +kernel
theorem q139_391 : decode (mB 139) 391 = .ok (.iconst 4, 1) := by decide +kernel
theorem q139_392 : cfB 139 392 137 138 0 4 4 = true := by decide +kernel
theorem q139_395 : decode (mB 139) 395 = .ok (.ifCond .eq 18, 3) := by decide +kernel
theorem q139_398 : decode (mB 139) 398 = .ok (.aload_n 1, 1) := by decide +kernel
theorem q139_399 : decode (mB 139) 399 = .ok (.iload 4, 2) := by decide +kernel
theorem q139_401 : decode (mB 139) 401 = .ok (.iconst 3, 1) := by decide +kernel
theorem q139_402 : decode (mB 139) 402 = .ok (.iconst 2, 1) := by decide +kernel
theorem q139_403 : cfB 139 403 137 138 0 4 4 = true := by decide +kernel
theorem q139_406 : decode (mB 139) 406 = .ok (.ifCond .eq 7, 3) := by decide +kernel
theorem q139_409 : decode (mB 139) 409 = .ok (.iconst 1, 1) := by decide +kernel
theorem q139_410 : decode (mB 139) 410 = .ok (.goto 4, 3) := by decide +kernel
theorem q139_413 : decode (mB 139) 413 = .ok (.iconst 0, 1) := by decide +kernel
theorem q139_414 : decode (mB 139) 414 = .ok (.istore 8, 2) := by decide +kernel
theorem q139_416 : decode (mB 139) 416 = .ok (.iload_n 2, 1) := by decide +kernel
theorem q139_417 : decode (mB 139) 417 = .ok (.iconst 5, 1) := by decide +kernel
theorem q139_418 : decode (mB 139) 418 = .ok (.if_icmp .ne 34, 3) := by decide +kernel
theorem q139_421 : decode (mB 139) 421 = .ok (.aload_n 3, 1) := by decide +kernel
theorem q139_422 : decode (mB 139) 422 = .ok (.iconst 0, 1) := by decide +kernel
theorem q139_423 : decode (mB 139) 423 = .ok (.iaload, 1) := by decide +kernel
theorem q139_424 : decode (mB 139) 424 = .ok (.iconst 1, 1) := by decide +kernel
theorem q139_425 : decode (mB 139) 425 = .ok (.if_icmp .ne 19, 3) := by decide +kernel
theorem q139_428 : decode (mB 139) 428 = .ok (.aload_n 1, 1) := by decide +kernel
theorem q139_429 : decode (mB 139) 429 = .ok (.iload 4, 2) := by decide +kernel
theorem q139_431 : decode (mB 139) 431 = .ok (.iconst 2, 1) := by decide +kernel
theorem q139_432 : decode (mB 139) 432 = .ok (.iconst 4, 1) := by decide +kernel
theorem q139_433 : cfB 139 433 137 138 0 4 4 = true := by decide +kernel
theorem q139_436 : decode (mB 139) 436 = .ok (.ifCond .eq 12, 3) := by decide +kernel
theorem q139_439 : decode (mB 139) 439 = .ok (.iload 6, 2) := by decide +kernel
theorem q139_441 : decode (mB 139) 441 = .ok (.ifCond .eq 7, 3) := by decide +kernel
theorem q139_444 : decode (mB 139) 444 = .ok (.iconst 1, 1) := by decide +kernel
theorem q139_445 : decode (mB 139) 445 = .ok (.goto 50, 3) := by decide +kernel
theorem q139_448 : decode (mB 139) 448 = .ok (.iconst 0, 1) := by decide +kernel
theorem q139_449 : decode (mB 139) 449 = .ok (.goto 46, 3) := by decide +kernel
theorem q139_452 : decode (mB 139) 452 = .ok (.iload_n 2, 1) := by decide +kernel
theorem q139_453 : decode (mB 139) 453 = .ok (.bipush 6, 2) := by decide +kernel
theorem q139_455 : decode (mB 139) 455 = .ok (.if_icmp .ne 23, 3) := by decide +kernel
theorem q139_458 : decode (mB 139) 458 = .ok (.aload_n 3, 1) := by decide +kernel
theorem q139_459 : decode (mB 139) 459 = .ok (.iconst 1, 1) := by decide +kernel
theorem q139_460 : decode (mB 139) 460 = .ok (.iaload, 1) := by decide +kernel
theorem q139_461 : decode (mB 139) 461 = .ok (.iconst 1, 1) := by decide +kernel
theorem q139_462 : decode (mB 139) 462 = .ok (.if_icmp .ne 8, 3) := by decide +kernel
theorem q139_465 : decode (mB 139) 465 = .ok (.iload 5, 2) := by decide +kernel
theorem q139_467 : decode (mB 139) 467 = .ok (.ifCond .ge 7, 3) := by decide +kernel
theorem q139_470 : decode (mB 139) 470 = .ok (.iconst 1, 1) := by decide +kernel
theorem q139_471 : decode (mB 139) 471 = .ok (.goto 24, 3) := by decide +kernel
theorem q139_474 : decode (mB 139) 474 = .ok (.iconst 0, 1) := by decide +kernel
theorem q139_475 : decode (mB 139) 475 = .ok (.goto 20, 3) := by decide +kernel
theorem q139_478 : decode (mB 139) 478 = .ok (.aload_n 3, 1) := by decide +kernel
theorem q139_479 : decode (mB 139) 479 = .ok (.iconst 1, 1) := by decide +kernel
theorem q139_480 : decode (mB 139) 480 = .ok (.iaload, 1) := by decide +kernel
theorem q139_481 : decode (mB 139) 481 = .ok (.iconst 2, 1) := by decide +kernel
theorem q139_482 : decode (mB 139) 482 = .ok (.if_icmp .ne 8, 3) := by decide +kernel
theorem q139_485 : decode (mB 139) 485 = .ok (.iload 8, 2) := by decide +kernel
theorem q139_487 : decode (mB 139) 487 = .ok (.ifCond .eq 7, 3) := by decide +kernel
theorem q139_490 : decode (mB 139) 490 = .ok (.iconst 1, 1) := by decide +kernel
theorem q139_491 : decode (mB 139) 491 = .ok (.goto 4, 3) := by decide +kernel
theorem q139_494 : decode (mB 139) 494 = .ok (.iconst 0, 1) := by decide +kernel
theorem q139_495 : decode (mB 139) 495 = .ok (.ireturn, 1) := by decide +kernel
