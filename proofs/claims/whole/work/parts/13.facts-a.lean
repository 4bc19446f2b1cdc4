/-! what each instruction is, method by method (by program) -/
def thB (mi pc en si ik is : Nat) (w : Bool) : Bool := decide (en < 6) && (match stN[si]? with | some z => decide (z.1 = (mY mi).cls) && decide (z.2.1 = is) | none => false) && decide ((mY mi).cls = "Plotwise") && decide (mH mi = []) && decide (6 ≤ mV mi) && decide ((ik, 5, 100 + en, 0) ∈ lks (mD mi)) && decide (dN (mD mi) = (mY mi).cls) &&
  decide (decode (mB mi) pc = .ok (.new ik, 3)) && decide (decode (mB mi) (pc + 3) = .ok (.dup, 1)) &&
  (if w then decide (decode (mB mi) (pc + 4) = .ok (.ldc_w is, 3)) && decide (decode (mB mi) (pc + 7) = .ok (.invokespecial (exI.getD en 0), 3)) && decide (decode (mB mi) (pc + 10) = .ok (.athrow, 1))
   else decide (decode (mB mi) (pc + 4) = .ok (.ldc is, 2)) && decide (decode (mB mi) (pc + 6) = .ok (.invokespecial (exI.getD en 0), 3)) && decide (decode (mB mi) (pc + 9) = .ok (.athrow, 1)))
theorem th_of {mi pc en si ik is : Nat} {w : Bool} (h : thB mi pc en si ik is w = true) : thI mi pc en si := by
  simp only [thB, Bool.and_eq_true, decide_eq_true_eq] at h
  obtain ⟨⟨⟨⟨⟨⟨⟨⟨⟨h1, h2⟩, h3⟩, h4⟩, h5⟩, h6⟩, h7⟩, h8⟩, h9⟩, h10⟩ := h
  cases hz : stN[si]? with
  | none => rw [hz] at h2; cases h2
  | some z =>
    obtain ⟨z1, z2, z3⟩ := z
    rw [hz] at h2
    simp only [Bool.and_eq_true, decide_eq_true_eq] at h2
    obtain ⟨rfl, rfl⟩ := h2
    refine ⟨ik, z2, z3, h1, hz, h3, h4, h5, h6, h7, h8, h9, ?_⟩
    cases w with
    | true => simp only [if_true, Bool.and_eq_true, decide_eq_true_eq] at h10; exact Or.inr ⟨h10.1.1, h10.1.2, h10.2⟩
    | false => simp only [Bool.false_eq_true, if_false, Bool.and_eq_true, decide_eq_true_eq] at h10; exact Or.inl ⟨h10.1.1, h10.1.2, h10.2⟩

theorem q0_0 : decode (mB 0) 0 = .ok (.aload_n 0, 1) := by decide +kernel
theorem q0_1 : (decide (0 < 235) && decide (decode (mB 0) 1 = .ok (.invokespecial 1, 3)) && (lks (mD 0)).contains (1, 2, 0, 0) && decide (1 ≤ mV 0)) = true := by decide +kernel
theorem q0_4 : decode (mB 0) 4 = .ok (.aload_n 0, 1) := by decide +kernel
theorem q0_5 : decode (mB 0) 5 = .ok (.iconst 5, 1) := by decide +kernel
theorem q0_6 : naB 0 6 1 = true := by decide +kernel
theorem q0_8 : pfB 0 8 9 0 0 = true := by decide +kernel
theorem q0_11 : decode (mB 0) 11 = .ok (.return_, 1) := by decide +kernel
theorem q1_0 : decode (mB 1) 0 = .ok (.aload_n 0, 1) := by decide +kernel
theorem q1_1 : gfB 1 1 13 0 1 = true := by decide +kernel
theorem q1_4 : decode (mB 1) 4 = .ok (.ireturn, 1) := by decide +kernel
theorem q2_0 : decode (mB 2) 0 = .ok (.iload_n 1, 1) := by decide +kernel
theorem q2_1 : decode (mB 2) 1 = .ok (.ifCond .lt 24, 3) := by decide +kernel
theorem q2_4 : decode (mB 2) 4 = .ok (.iload_n 1, 1) := by decide +kernel
theorem q2_5 : decode (mB 2) 5 = .ok (.aload_n 0, 1) := by decide +kernel
theorem q2_6 : gfB 2 6 13 0 1 = true := by decide +kernel
theorem q2_9 : decode (mB 2) 9 = .ok (.if_icmp .ge 16, 3) := by decide +kernel
theorem q2_12 : decode (mB 2) 12 = .ok (.iload_n 1, 1) := by decide +kernel
theorem q2_13 : decode (mB 2) 13 = .ok (.aload_n 0, 1) := by decide +kernel
theorem q2_14 : gfB 2 14 9 0 0 = true := by decide +kernel
theorem q2_17 : decode (mB 2) 17 = .ok (.arraylength, 1) := by decide +kernel
theorem q2_18 : decode (mB 2) 18 = .ok (.if_icmp .ge 7, 3) := by decide +kernel
theorem q2_21 : decode (mB 2) 21 = .ok (.iconst 1, 1) := by decide +kernel
theorem q2_22 : decode (mB 2) 22 = .ok (.goto 4, 3) := by decide +kernel
theorem q2_25 : decode (mB 2) 25 = .ok (.iconst 0, 1) := by decide +kernel
theorem q2_26 : decode (mB 2) 26 = .ok (.ireturn, 1) := by decide +kernel
theorem q3_0 : decode (mB 3) 0 = .ok (.aload_n 0, 1) := by decide +kernel
theorem q3_1 : decode (mB 3) 1 = .ok (.iload_n 1, 1) := by decide +kernel
theorem q3_2 : cfB 3 2 17 2 1 4 1 = true := by decide +kernel
theorem q3_5 : decode (mB 3) 5 = .ok (.ifCond .eq 12, 3) := by decide +kernel
theorem q3_8 : decode (mB 3) 8 = .ok (.aload_n 0, 1) := by decide +kernel
theorem q3_9 : gfB 3 9 9 0 0 = true := by decide +kernel
theorem q3_12 : decode (mB 3) 12 = .ok (.iload_n 1, 1) := by decide +kernel
theorem q3_13 : decode (mB 3) 13 = .ok (.laload, 1) := by decide +kernel
theorem q3_14 : decode (mB 3) 14 = .ok (.goto 4, 3) := by decide +kernel
theorem q3_17 : decode (mB 3) 17 = .ok (.lconst 0, 1) := by decide +kernel
theorem q3_18 : decode (mB 3) 18 = .ok (.lreturn, 1) := by decide +kernel
theorem q4_0 : decode (mB 4) 0 = .ok (.aload_n 0, 1) := by decide +kernel
theorem q4_1 : decode (mB 4) 1 = .ok (.iload_n 1, 1) := by decide +kernel
theorem q4_2 : cfB 4 2 21 3 1 4 1 = true := by decide +kernel
theorem q4_5 : cfB 4 5 25 45 0 4 1 = true := by decide +kernel
theorem q4_8 : decode (mB 4) 8 = .ok (.ireturn, 1) := by decide +kernel
theorem q5_0 : decode (mB 5) 0 = .ok (.aload_n 0, 1) := by decide +kernel
theorem q5_1 : decode (mB 5) 1 = .ok (.iconst 0, 1) := by decide +kernel
theorem q5_2 : pfB 5 2 13 0 1 = true := by decide +kernel
theorem q5_5 : decode (mB 5) 5 = .ok (.return_, 1) := by decide +kernel
theorem q6_0 : decode (mB 6) 0 = .ok (.aload_n 0, 1) := by decide +kernel
theorem q6_1 : gfB 6 1 13 0 1 = true := by decide +kernel
theorem q6_4 : decode (mB 6) 4 = .ok (.iconst 5, 1) := by decide +kernel
theorem q6_5 : decode (mB 6) 5 = .ok (.if_icmp .lt 18, 3) := by decide +kernel
theorem q6_8 : decode (mB 6) 8 = .ok (.lload_n 1, 1) := by decide +kernel
theorem q6_9 : decode (mB 6) 9 = .ok (.aload_n 0, 1) := by decide +kernel
theorem q6_10 : gfB 6 10 9 0 0 = true := by decide +kernel
theorem q6_13 : decode (mB 6) 13 = .ok (.iconst 4, 1) := by decide +kernel
theorem q6_14 : decode (mB 6) 14 = .ok (.laload, 1) := by decide +kernel
theorem q6_15 : decode (mB 6) 15 = .ok (.lcmp, 1) := by decide +kernel
theorem q6_16 : decode (mB 6) 16 = .ok (.ifCond .lt 7, 3) := by decide +kernel
theorem q6_19 : decode (mB 6) 19 = .ok (.iconst 1, 1) := by decide +kernel
theorem q6_20 : decode (mB 6) 20 = .ok (.goto 4, 3) := by decide +kernel
theorem q6_23 : decode (mB 6) 23 = .ok (.iconst 0, 1) := by decide +kernel
theorem q6_24 : decode (mB 6) 24 = .ok (.ireturn, 1) := by decide +kernel
theorem q7_0 : decode (mB 7) 0 = .ok (.aload_n 0, 1) := by decide +kernel
theorem q7_1 : decode (mB 7) 1 = .ok (.lload_n 1, 1) := by decide +kernel
theorem q7_2 : cfB 7 2 31 6 1 4 1 = true := by decide +kernel
theorem q7_5 : decode (mB 7) 5 = .ok (.ifCond .eq 4, 3) := by decide +kernel
theorem q7_8 : decode (mB 7) 8 = .ok (.return_, 1) := by decide +kernel
theorem q7_9 : decode (mB 7) 9 = .ok (.aload_n 0, 1) := by decide +kernel
theorem q7_10 : gfB 7 10 13 0 1 = true := by decide +kernel
theorem q7_13 : decode (mB 7) 13 = .ok (.iconst 5, 1) := by decide +kernel
theorem q7_14 : decode (mB 7) 14 = .ok (.if_icmp .ge 13, 3) := by decide +kernel
theorem q7_17 : decode (mB 7) 17 = .ok (.aload_n 0, 1) := by decide +kernel
theorem q7_18 : decode (mB 7) 18 = .ok (.dup, 1) := by decide +kernel
theorem q7_19 : gfB 7 19 13 0 1 = true := by decide +kernel
theorem q7_22 : decode (mB 7) 22 = .ok (.iconst 1, 1) := by decide +kernel
theorem q7_23 : decode (mB 7) 23 = .ok (.iadd, 1) := by decide +kernel
theorem q7_24 : pfB 7 24 13 0 1 = true := by decide +kernel
theorem q7_27 : decode (mB 7) 27 = .ok (.aload_n 0, 1) := by decide +kernel
theorem q7_28 : gfB 7 28 13 0 1 = true := by decide +kernel
theorem q7_31 : decode (mB 7) 31 = .ok (.iconst 1, 1) := by decide +kernel
theorem q7_32 : decode (mB 7) 32 = .ok (.isub, 1) := by decide +kernel
theorem q7_33 : decode (mB 7) 33 = .ok (.istore_n 3, 1) := by decide +kernel
theorem q7_34 : decode (mB 7) 34 = .ok (.iload_n 3, 1) := by decide +kernel
theorem q7_35 : decode (mB 7) 35 = .ok (.ifCond .le 45, 3) := by decide +kernel
theorem q7_38 : decode (mB 7) 38 = .ok (.iload_n 3, 1) := by decide +kernel
theorem q7_39 : decode (mB 7) 39 = .ok (.aload_n 0, 1) := by decide +kernel
theorem q7_40 : gfB 7 40 9 0 0 = true := by decide +kernel
theorem q7_43 : decode (mB 7) 43 = .ok (.arraylength, 1) := by decide +kernel
theorem q7_44 : decode (mB 7) 44 = .ok (.if_icmp .ge 36, 3) := by decide +kernel
theorem q7_47 : decode (mB 7) 47 = .ok (.aload_n 0, 1) := by decide +kernel
theorem q7_48 : gfB 7 48 9 0 0 = true := by decide +kernel
theorem q7_51 : decode (mB 7) 51 = .ok (.iload_n 3, 1) := by decide +kernel
theorem q7_52 : decode (mB 7) 52 = .ok (.iconst 1, 1) := by decide +kernel
theorem q7_53 : decode (mB 7) 53 = .ok (.isub, 1) := by decide +kernel
theorem q7_54 : decode (mB 7) 54 = .ok (.laload, 1) := by decide +kernel
theorem q7_55 : decode (mB 7) 55 = .ok (.lload_n 1, 1) := by decide +kernel
theorem q7_56 : decode (mB 7) 56 = .ok (.lcmp, 1) := by decide +kernel
theorem q7_57 : decode (mB 7) 57 = .ok (.ifCond .le 23, 3) := by decide +kernel
theorem q7_60 : decode (mB 7) 60 = .ok (.aload_n 0, 1) := by decide +kernel
theorem q7_61 : gfB 7 61 9 0 0 = true := by decide +kernel
theorem q7_64 : decode (mB 7) 64 = .ok (.iload_n 3, 1) := by decide +kernel
theorem q7_65 : decode (mB 7) 65 = .ok (.aload_n 0, 1) := by decide +kernel
theorem q7_66 : gfB 7 66 9 0 0 = true := by decide +kernel
theorem q7_69 : decode (mB 7) 69 = .ok (.iload_n 3, 1) := by decide +kernel
theorem q7_70 : decode (mB 7) 70 = .ok (.iconst 1, 1) := by decide +kernel
theorem q7_71 : decode (mB 7) 71 = .ok (.isub, 1) := by decide +kernel
theorem q7_72 : decode (mB 7) 72 = .ok (.laload, 1) := by decide +kernel
theorem q7_73 : decode (mB 7) 73 = .ok (.lastore, 1) := by decide +kernel
theorem q7_74 : decode (mB 7) 74 = .ok (.iinc 3 (-1), 3) := by decide +kernel
theorem q7_77 : decode (mB 7) 77 = .ok (.goto (-43), 3) := by decide +kernel
theorem q7_80 : decode (mB 7) 80 = .ok (.aload_n 0, 1) := by decide +kernel
theorem q7_81 : decode (mB 7) 81 = .ok (.iload_n 3, 1) := by decide +kernel
theorem q7_82 : cfB 7 82 17 2 1 4 1 = true := by decide +kernel
theorem q7_85 : decode (mB 7) 85 = .ok (.ifCond .eq 10, 3) := by decide +kernel
theorem q7_88 : decode (mB 7) 88 = .ok (.aload_n 0, 1) := by decide +kernel
theorem q7_89 : gfB 7 89 9 0 0 = true := by decide +kernel
theorem q7_92 : decode (mB 7) 92 = .ok (.iload_n 3, 1) := by decide +kernel
theorem q7_93 : decode (mB 7) 93 = .ok (.lload_n 1, 1) := by decide +kernel
theorem q7_94 : decode (mB 7) 94 = .ok (.lastore, 1) := by decide +kernel
theorem q7_95 : decode (mB 7) 95 = .ok (.return_, 1) := by decide +kernel
theorem q8_0 : decode (mB 8) 0 = .ok (.iload_n 0, 1) := by decide +kernel
theorem q8_1 : decode (mB 8) 1 = .ok (.bipush 14, 2) := by decide +kernel
theorem q8_3 : decode (mB 8) 3 = .ok (.ishl, 1) := by decide +kernel
theorem q8_4 : decode (mB 8) 4 = .ok (.iload_n 1, 1) := by decide +kernel
theorem q8_5 : decode (mB 8) 5 = .ok (.bipush 12, 2) := by decide +kernel
theorem q8_7 : decode (mB 8) 7 = .ok (.ishl, 1) := by decide +kernel
theorem q8_8 : decode (mB 8) 8 = .ok (.ior, 1) := by decide +kernel
theorem q8_9 : decode (mB 8) 9 = .ok (.ireturn, 1) := by decide +kernel
theorem q9_0 : decode (mB 9) 0 = .ok (.iload_n 0, 1) := by decide +kernel
theorem q9_1 : decode (mB 9) 1 = .ok (.bipush 14, 2) := by decide +kernel
theorem q9_3 : decode (mB 9) 3 = .ok (.ishr, 1) := by decide +kernel
theorem q9_4 : decode (mB 9) 4 = .ok (.bipush 127, 2) := by decide +kernel
theorem q9_6 : decode (mB 9) 6 = .ok (.iand, 1) := by decide +kernel
theorem q9_7 : decode (mB 9) 7 = .ok (.i2c, 1) := by decide +kernel
theorem q9_8 : decode (mB 9) 8 = .ok (.ireturn, 1) := by decide +kernel
theorem q10_0 : decode (mB 10) 0 = .ok (.iload_n 0, 1) := by decide +kernel
theorem q10_1 : decode (mB 10) 1 = .ok (.bipush 12, 2) := by decide +kernel
theorem q10_3 : decode (mB 10) 3 = .ok (.ishr, 1) := by decide +kernel
theorem q10_4 : decode (mB 10) 4 = .ok (.iconst 3, 1) := by decide +kernel
theorem q10_5 : decode (mB 10) 5 = .ok (.iand, 1) := by decide +kernel
theorem q10_6 : decode (mB 10) 6 = .ok (.ireturn, 1) := by decide +kernel
theorem q11_0 : decode (mB 11) 0 = .ok (.iload_n 0, 1) := by decide +kernel
theorem q11_1 : decode (mB 11) 1 = .ok (.iconst 3, 1) := by decide +kernel
theorem q11_2 : decode (mB 11) 2 = .ok (.iload_n 1, 1) := by decide +kernel
theorem q11_3 : decode (mB 11) 3 = .ok (.isub, 1) := by decide +kernel
theorem q11_4 : decode (mB 11) 4 = .ok (.iconst 3, 1) := by decide +kernel
theorem q11_5 : decode (mB 11) 5 = .ok (.imul, 1) := by decide +kernel
theorem q11_6 : decode (mB 11) 6 = .ok (.ishr, 1) := by decide +kernel
theorem q11_7 : decode (mB 11) 7 = .ok (.bipush 7, 2) := by decide +kernel
theorem q11_9 : decode (mB 11) 9 = .ok (.iand, 1) := by decide +kernel
theorem q11_10 : decode (mB 11) 10 = .ok (.iconst 1, 1) := by decide +kernel
theorem q11_11 : decode (mB 11) 11 = .ok (.isub, 1) := by decide +kernel
theorem q11_12 : decode (mB 11) 12 = .ok (.ireturn, 1) := by decide +kernel
theorem q12_0 : decode (mB 12) 0 = .ok (.iload_n 0, 1) := by decide +kernel
theorem q12_1 : decode (mB 12) 1 = .ok (.ldc 11, 2) := by decide +kernel
theorem q12_3 : decode (mB 12) 3 = .ok (.iand, 1) := by decide +kernel
theorem q12_4 : decode (mB 12) 4 = .ok (.iload_n 1, 1) := by decide +kernel
theorem q12_5 : decode (mB 12) 5 = .ok (.bipush 14, 2) := by decide +kernel
theorem q12_7 : decode (mB 12) 7 = .ok (.ishl, 1) := by decide +kernel
theorem q12_8 : decode (mB 12) 8 = .ok (.ior, 1) := by decide +kernel
theorem q12_9 : decode (mB 12) 9 = .ok (.ireturn, 1) := by decide +kernel
theorem q13_0 : decode (mB 13) 0 = .ok (.iload_n 0, 1) := by decide +kernel
theorem q13_1 : decode (mB 13) 1 = .ok (.sipush (-12289), 3) := by decide +kernel
theorem q13_4 : decode (mB 13) 4 = .ok (.iand, 1) := by decide +kernel
theorem q13_5 : decode (mB 13) 5 = .ok (.iload_n 1, 1) := by decide +kernel
theorem q13_6 : decode (mB 13) 6 = .ok (.bipush 12, 2) := by decide +kernel
theorem q13_8 : decode (mB 13) 8 = .ok (.ishl, 1) := by decide +kernel
theorem q13_9 : decode (mB 13) 9 = .ok (.ior, 1) := by decide +kernel
theorem q13_10 : decode (mB 13) 10 = .ok (.ireturn, 1) := by decide +kernel
theorem q14_0 : decode (mB 14) 0 = .ok (.iconst 3, 1) := by decide +kernel
theorem q14_1 : decode (mB 14) 1 = .ok (.iload_n 1, 1) := by decide +kernel
theorem q14_2 : decode (mB 14) 2 = .ok (.isub, 1) := by decide +kernel
theorem q14_3 : decode (mB 14) 3 = .ok (.iconst 3, 1) := by decide +kernel
theorem q14_4 : decode (mB 14) 4 = .ok (.imul, 1) := by decide +kernel
theorem q14_5 : decode (mB 14) 5 = .ok (.istore_n 3, 1) := by decide +kernel
theorem q14_6 : decode (mB 14) 6 = .ok (.iload_n 0, 1) := by decide +kernel
theorem q14_7 : decode (mB 14) 7 = .ok (.bipush 7, 2) := by decide +kernel
theorem q14_9 : decode (mB 14) 9 = .ok (.iload_n 3, 1) := by decide +kernel
theorem q14_10 : decode (mB 14) 10 = .ok (.ishl, 1) := by decide +kernel
theorem q14_11 : decode (mB 14) 11 = .ok (.iconst (-1), 1) := by decide +kernel
theorem q14_12 : decode (mB 14) 12 = .ok (.ixor, 1) := by decide +kernel
theorem q14_13 : decode (mB 14) 13 = .ok (.iand, 1) := by decide +kernel
theorem q14_14 : decode (mB 14) 14 = .ok (.iload_n 2, 1) := by decide +kernel
theorem q14_15 : decode (mB 14) 15 = .ok (.iconst 1, 1) := by decide +kernel
theorem q14_16 : decode (mB 14) 16 = .ok (.iadd, 1) := by decide +kernel
theorem q14_17 : decode (mB 14) 17 = .ok (.iload_n 3, 1) := by decide +kernel
theorem q14_18 : decode (mB 14) 18 = .ok (.ishl, 1) := by decide +kernel
theorem q14_19 : decode (mB 14) 19 = .ok (.ior, 1) := by decide +kernel
theorem q14_20 : decode (mB 14) 20 = .ok (.ireturn, 1) := by decide +kernel
theorem q15_0 : decode (mB 15) 0 = .ok (.iconst 0, 1) := by decide +kernel
theorem q15_1 : decode (mB 15) 1 = .ok (.istore_n 1, 1) := by decide +kernel
theorem q15_2 : decode (mB 15) 2 = .ok (.iconst 0, 1) := by decide +kernel
theorem q15_3 : decode (mB 15) 3 = .ok (.istore_n 2, 1) := by decide +kernel
theorem q15_4 : decode (mB 15) 4 = .ok (.iload_n 2, 1) := by decide +kernel
theorem q15_5 : decode (mB 15) 5 = .ok (.bipush 12, 2) := by decide +kernel
theorem q15_7 : decode (mB 15) 7 = .ok (.if_icmp .ge 20, 3) := by decide +kernel
theorem q15_10 : decode (mB 15) 10 = .ok (.iload_n 1, 1) := by decide +kernel
theorem q15_11 : decode (mB 15) 11 = .ok (.iconst 1, 1) := by decide +kernel
theorem q15_12 : decode (mB 15) 12 = .ok (.iload_n 0, 1) := by decide +kernel
theorem q15_13 : decode (mB 15) 13 = .ok (.iload_n 2, 1) := by decide +kernel
theorem q15_14 : decode (mB 15) 14 = .ok (.ishr, 1) := by decide +kernel
theorem q15_15 : decode (mB 15) 15 = .ok (.bipush 7, 2) := by decide +kernel
theorem q15_17 : decode (mB 15) 17 = .ok (.iand, 1) := by decide +kernel
theorem q15_18 : decode (mB 15) 18 = .ok (.ishl, 1) := by decide +kernel
theorem q15_19 : decode (mB 15) 19 = .ok (.ior, 1) := by decide +kernel
theorem q15_20 : decode (mB 15) 20 = .ok (.istore_n 1, 1) := by decide +kernel
theorem q15_21 : decode (mB 15) 21 = .ok (.iinc 2 3, 3) := by decide +kernel
theorem q15_24 : decode (mB 15) 24 = .ok (.goto (-20), 3) := by decide +kernel
theorem q15_27 : decode (mB 15) 27 = .ok (.iload_n 1, 1) := by decide +kernel
theorem q15_28 : decode (mB 15) 28 = .ok (.iconst 1, 1) := by decide +kernel
theorem q15_29 : decode (mB 15) 29 = .ok (.ishr, 1) := by decide +kernel
theorem q15_30 : decode (mB 15) 30 = .ok (.ireturn, 1) := by decide +kernel
theorem q16_0 : decode (mB 16) 0 = .ok (.iload_n 1, 1) := by decide +kernel
theorem q16_1 : decode (mB 16) 1 = .ok (.iconst (-1), 1) := by decide +kernel
theorem q16_2 : decode (mB 16) 2 = .ok (.if_icmp .eq 18, 3) := by decide +kernel
theorem q16_5 : decode (mB 16) 5 = .ok (.iload_n 0, 1) := by decide +kernel
theorem q16_6 : cfB 16 6 12 15 0 4 1 = true := by decide +kernel
theorem q16_9 : decode (mB 16) 9 = .ok (.iload_n 1, 1) := by decide +kernel
theorem q16_10 : decode (mB 16) 10 = .ok (.ishr, 1) := by decide +kernel
theorem q16_11 : decode (mB 16) 11 = .ok (.iconst 1, 1) := by decide +kernel
theorem q16_12 : decode (mB 16) 12 = .ok (.iand, 1) := by decide +kernel
theorem q16_13 : decode (mB 16) 13 = .ok (.ifCond .eq 7, 3) := by decide +kernel
theorem q16_16 : decode (mB 16) 16 = .ok (.iconst 1, 1) := by decide +kernel
theorem q16_17 : decode (mB 16) 17 = .ok (.goto 4, 3) := by decide +kernel
theorem q16_20 : decode (mB 16) 20 = .ok (.iconst 0, 1) := by decide +kernel
theorem q16_21 : decode (mB 16) 21 = .ok (.ireturn, 1) := by decide +kernel
theorem q17_0 : decode (mB 17) 0 = .ok (.iconst 0, 1) := by decide +kernel
theorem q17_1 : decode (mB 17) 1 = .ok (.istore_n 1, 1) := by decide +kernel
theorem q17_2 : decode (mB 17) 2 = .ok (.iconst 0, 1) := by decide +kernel
theorem q17_3 : decode (mB 17) 3 = .ok (.istore_n 2, 1) := by decide +kernel
theorem q17_4 : decode (mB 17) 4 = .ok (.iload_n 2, 1) := by decide +kernel
theorem q17_5 : decode (mB 17) 5 = .ok (.iconst 4, 1) := by decide +kernel
theorem q17_6 : decode (mB 17) 6 = .ok (.if_icmp .ge 42, 3) := by decide +kernel
theorem q17_9 : decode (mB 17) 9 = .ok (.iload_n 0, 1) := by decide +kernel
theorem q17_10 : decode (mB 17) 10 = .ok (.iload_n 2, 1) := by decide +kernel
theorem q17_11 : cfB 17 11 16 11 0 4 2 = true := by decide +kernel
theorem q17_14 : decode (mB 17) 14 = .ok (.istore_n 3, 1) := by decide +kernel
theorem q17_15 : decode (mB 17) 15 = .ok (.iload_n 3, 1) := by decide +kernel
theorem q17_16 : decode (mB 17) 16 = .ok (.iconst (-1), 1) := by decide +kernel
theorem q17_17 : decode (mB 17) 17 = .ok (.if_icmp .eq 25, 3) := by decide +kernel
theorem q17_20 : decode (mB 17) 20 = .ok (.iload_n 3, 1) := by decide +kernel
theorem q17_21 : decode (mB 17) 21 = .ok (.bipush 6, 2) := by decide +kernel
theorem q17_23 : decode (mB 17) 23 = .ok (.if_icmp .ge 11, 3) := by decide +kernel
theorem q17_26 : decode (mB 17) 26 = .ok (.iload_n 1, 1) := by decide +kernel
theorem q17_27 : decode (mB 17) 27 = .ok (.iload_n 3, 1) := by decide +kernel
theorem q17_28 : decode (mB 17) 28 = .ok (.ishr, 1) := by decide +kernel
theorem q17_29 : decode (mB 17) 29 = .ok (.iconst 1, 1) := by decide +kernel
theorem q17_30 : decode (mB 17) 30 = .ok (.iand, 1) := by decide +kernel
theorem q17_31 : decode (mB 17) 31 = .ok (.ifCond .eq 5, 3) := by decide +kernel
theorem q17_34 : decode (mB 17) 34 = .ok (.iconst 0, 1) := by decide +kernel
theorem q17_35 : decode (mB 17) 35 = .ok (.ireturn, 1) := by decide +kernel
theorem q17_36 : decode (mB 17) 36 = .ok (.iload_n 1, 1) := by decide +kernel
theorem q17_37 : decode (mB 17) 37 = .ok (.iconst 1, 1) := by decide +kernel
theorem q17_38 : decode (mB 17) 38 = .ok (.iload_n 3, 1) := by decide +kernel
theorem q17_39 : decode (mB 17) 39 = .ok (.ishl, 1) := by decide +kernel
theorem q17_40 : decode (mB 17) 40 = .ok (.ior, 1) := by decide +kernel
theorem q17_41 : decode (mB 17) 41 = .ok (.istore_n 1, 1) := by decide +kernel
theorem q17_42 : decode (mB 17) 42 = .ok (.iinc 2 1, 3) := by decide +kernel
theorem q17_45 : decode (mB 17) 45 = .ok (.goto (-41), 3) := by decide +kernel
theorem q17_48 : decode (mB 17) 48 = .ok (.iconst 1, 1) := by decide +kernel
theorem q17_49 : decode (mB 17) 49 = .ok (.ireturn, 1) := by decide +kernel
theorem q18_0 : decode (mB 18) 0 = .ok (.aload_n 0, 1) := by decide +kernel
theorem q18_1 : (decide (18 < 235) && decide (decode (mB 18) 1 = .ok (.invokespecial 3, 3)) && (lks (mD 18)).contains (3, 2, 0, 0) && decide (1 ≤ mV 18)) = true := by decide +kernel
theorem q18_4 : decode (mB 18) 4 = .ok (.aload_n 0, 1) := by decide +kernel
theorem q18_5 : decode (mB 18) 5 = .ok (.aload_n 1, 1) := by decide +kernel
theorem q18_6 : pfB 18 6 9 1 0 = true := by decide +kernel
theorem q18_9 : decode (mB 18) 9 = .ok (.aload_n 0, 1) := by decide +kernel
theorem q18_10 : gsB 18 10 15 1 1 = true := by decide +kernel
theorem q18_13 : (decide (18 < 235) && decide (decode (mB 18) 13 = .ok (.invokevirtual 19, 3)) && (lks (mD 18)).contains (19, 3, 0, 0) && decide (1 ≤ mV 18) && decide (mA 18 = 1)) = true := by decide +kernel
theorem q18_16 : (decide (18 < 235) && decide (decode (mB 18) 16 = .ok (.checkcast 20, 3)) && decide (Cond.classLink (mY 18).cls 20 "[I" ∈ tables_1)) = true := by decide +kernel
theorem q18_19 : pfB 18 19 24 1 1 = true := by decide +kernel
theorem q18_22 : decode (mB 18) 22 = .ok (.return_, 1) := by decide +kernel
theorem q19_0 : decode (mB 19) 0 = .ok (.iload_n 1, 1) := by decide +kernel
theorem q19_1 : decode (mB 19) 1 = .ok (.ifCond .lt 16, 3) := by decide +kernel
theorem q19_4 : decode (mB 19) 4 = .ok (.iload_n 1, 1) := by decide +kernel
theorem q19_5 : decode (mB 19) 5 = .ok (.aload_n 0, 1) := by decide +kernel
theorem q19_6 : gfB 19 6 24 1 1 = true := by decide +kernel
theorem q19_9 : decode (mB 19) 9 = .ok (.arraylength, 1) := by decide +kernel
theorem q19_10 : decode (mB 19) 10 = .ok (.if_icmp .ge 7, 3) := by decide +kernel
theorem q19_13 : decode (mB 19) 13 = .ok (.iconst 1, 1) := by decide +kernel
theorem q19_14 : decode (mB 19) 14 = .ok (.goto 4, 3) := by decide +kernel
theorem q19_17 : decode (mB 19) 17 = .ok (.iconst 0, 1) := by decide +kernel
theorem q19_18 : decode (mB 19) 18 = .ok (.ireturn, 1) := by decide +kernel
theorem q20_0 : decode (mB 20) 0 = .ok (.aload_n 0, 1) := by decide +kernel
theorem q20_1 : decode (mB 20) 1 = .ok (.iload_n 1, 1) := by decide +kernel
theorem q20_2 : cfB 20 2 27 19 1 4 1 = true := by decide +kernel
theorem q20_5 : decode (mB 20) 5 = .ok (.ifCond .ne 5, 3) := by decide +kernel
theorem q20_8 : decode (mB 20) 8 = .ok (.iconst 0, 1) := by decide +kernel
theorem q20_9 : decode (mB 20) 9 = .ok (.ireturn, 1) := by decide +kernel
theorem q20_10 : decode (mB 20) 10 = .ok (.aload_n 0, 1) := by decide +kernel
theorem q20_11 : gfB 20 11 24 1 1 = true := by decide +kernel
theorem q20_14 : decode (mB 20) 14 = .ok (.iload_n 1, 1) := by decide +kernel
theorem q20_15 : decode (mB 20) 15 = .ok (.iaload, 1) := by decide +kernel
theorem q20_16 : decode (mB 20) 16 = .ok (.istore_n 3, 1) := by decide +kernel
theorem q20_17 : decode (mB 20) 17 = .ok (.aload_n 0, 1) := by decide +kernel
theorem q20_18 : gfB 20 18 24 1 1 = true := by decide +kernel
theorem q20_21 : decode (mB 20) 21 = .ok (.iload_n 1, 1) := by decide +kernel
theorem q20_22 : decode (mB 20) 22 = .ok (.iload_n 2, 1) := by decide +kernel
theorem q20_23 : decode (mB 20) 23 = .ok (.iastore, 1) := by decide +kernel
theorem q20_24 : decode (mB 20) 24 = .ok (.iload_n 3, 1) := by decide +kernel
theorem q20_25 : decode (mB 20) 25 = .ok (.ireturn, 1) := by decide +kernel
theorem q21_0 : decode (mB 21) 0 = .ok (.iconst 0, 1) := by decide +kernel
theorem q21_1 : decode (mB 21) 1 = .ok (.istore_n 2, 1) := by decide +kernel
theorem q21_2 : decode (mB 21) 2 = .ok (.lconst 0, 1) := by decide +kernel
theorem q21_3 : decode (mB 21) 3 = .ok (.lstore_n 3, 1) := by decide +kernel
theorem q21_4 : decode (mB 21) 4 = .ok (.iconst 0, 1) := by decide +kernel
theorem q21_5 : decode (mB 21) 5 = .ok (.istore 5, 2) := by decide +kernel
theorem q21_7 : decode (mB 21) 7 = .ok (.iload 5, 2) := by decide +kernel
theorem q21_9 : decode (mB 21) 9 = .ok (.iconst 4, 1) := by decide +kernel
theorem q21_10 : decode (mB 21) 10 = .ok (.if_icmp .ge 46, 3) := by decide +kernel
theorem q21_13 : decode (mB 21) 13 = .ok (.iload_n 1, 1) := by decide +kernel
theorem q21_14 : decode (mB 21) 14 = .ok (.iload 5, 2) := by decide +kernel
theorem q21_16 : cfB 21 16 31 11 0 4 2 = true := by decide +kernel
theorem q21_19 : decode (mB 21) 19 = .ok (.istore 6, 2) := by decide +kernel
theorem q21_21 : decode (mB 21) 21 = .ok (.iload_n 2, 1) := by decide +kernel
theorem q21_22 : decode (mB 21) 22 = .ok (.aload_n 0, 1) := by decide +kernel
theorem q21_23 : gfB 21 23 9 1 0 = true := by decide +kernel
theorem q21_26 : decode (mB 21) 26 = .ok (.iload 6, 2) := by decide +kernel
theorem q21_28 : cfB 21 28 37 56 1 4 1 = true := by decide +kernel
theorem q21_31 : decode (mB 21) 31 = .ok (.iload 5, 2) := by decide +kernel
theorem q21_33 : cfB 21 33 43 24 0 4 2 = true := by decide +kernel
theorem q21_36 : decode (mB 21) 36 = .ok (.iadd, 1) := by decide +kernel
theorem q21_37 : decode (mB 21) 37 = .ok (.istore_n 2, 1) := by decide +kernel
theorem q21_38 : decode (mB 21) 38 = .ok (.lload_n 3, 1) := by decide +kernel
theorem q21_39 : decode (mB 21) 39 = .ok (.aload_n 0, 1) := by decide +kernel
theorem q21_40 : gfB 21 40 9 1 0 = true := by decide +kernel
theorem q21_43 : decode (mB 21) 43 = .ok (.iload 6, 2) := by decide +kernel
theorem q21_45 : cfB 21 45 46 61 1 4 1 = true := by decide +kernel
theorem q21_48 : decode (mB 21) 48 = .ok (.lor, 1) := by decide +kernel
theorem q21_49 : decode (mB 21) 49 = .ok (.lstore_n 3, 1) := by decide +kernel
theorem q21_50 : decode (mB 21) 50 = .ok (.iinc 5 1, 3) := by decide +kernel
theorem q21_53 : decode (mB 21) 53 = .ok (.goto (-46), 3) := by decide +kernel
theorem q21_56 : decode (mB 21) 56 = .ok (.iload_n 2, 1) := by decide +kernel
theorem q21_57 : decode (mB 21) 57 = .ok (.lload_n 3, 1) := by decide +kernel
theorem q21_58 : cfB 21 58 50 202 0 4 1 = true := by decide +kernel
theorem q21_61 : decode (mB 21) 61 = .ok (.iconst 5, 1) := by decide +kernel
theorem q21_62 : decode (mB 21) 62 = .ok (.idiv, 1) := by decide +kernel
theorem q21_63 : decode (mB 21) 63 = .ok (.iadd, 1) := by decide +kernel
theorem q21_64 : decode (mB 21) 64 = .ok (.istore_n 2, 1) := by decide +kernel
theorem q21_65 : decode (mB 21) 65 = .ok (.aload_n 0, 1) := by decide +kernel
theorem q21_66 : decode (mB 21) 66 = .ok (.iload_n 1, 1) := by decide +kernel
theorem q21_67 : cfB 21 67 56 22 1 4 1 = true := by decide +kernel
theorem q21_70 : decode (mB 21) 70 = .ok (.istore 5, 2) := by decide +kernel
theorem q21_72 : decode (mB 21) 72 = .ok (.iconst 0, 1) := by decide +kernel
theorem q21_73 : decode (mB 21) 73 = .ok (.istore 6, 2) := by decide +kernel
theorem q21_75 : decode (mB 21) 75 = .ok (.iload 6, 2) := by decide +kernel
theorem q21_77 : decode (mB 21) 77 = .ok (.aload_n 0, 1) := by decide +kernel
theorem q21_78 : gfB 21 78 24 1 1 = true := by decide +kernel
theorem q21_81 : decode (mB 21) 81 = .ok (.arraylength, 1) := by decide +kernel
theorem q21_82 : decode (mB 21) 82 = .ok (.if_icmp .ge 29, 3) := by decide +kernel
theorem q21_85 : decode (mB 21) 85 = .ok (.iload 5, 2) := by decide +kernel
theorem q21_87 : decode (mB 21) 87 = .ok (.iload 6, 2) := by decide +kernel
theorem q21_89 : decode (mB 21) 89 = .ok (.ishr, 1) := by decide +kernel
theorem q21_90 : decode (mB 21) 90 = .ok (.iconst 1, 1) := by decide +kernel
theorem q21_91 : decode (mB 21) 91 = .ok (.iand, 1) := by decide +kernel
theorem q21_92 : decode (mB 21) 92 = .ok (.ifCond .eq 13, 3) := by decide +kernel
theorem q21_95 : decode (mB 21) 95 = .ok (.iload_n 2, 1) := by decide +kernel
theorem q21_96 : decode (mB 21) 96 = .ok (.aload_n 0, 1) := by decide +kernel
theorem q21_97 : gfB 21 97 24 1 1 = true := by decide +kernel
theorem q21_100 : decode (mB 21) 100 = .ok (.iload 6, 2) := by decide +kernel
theorem q21_102 : decode (mB 21) 102 = .ok (.iaload, 1) := by decide +kernel
theorem q21_103 : decode (mB 21) 103 = .ok (.iadd, 1) := by decide +kernel
theorem q21_104 : decode (mB 21) 104 = .ok (.istore_n 2, 1) := by decide +kernel
theorem q21_105 : decode (mB 21) 105 = .ok (.iinc 6 1, 3) := by decide +kernel
theorem q21_108 : decode (mB 21) 108 = .ok (.goto (-33), 3) := by decide +kernel
theorem q21_111 : decode (mB 21) 111 = .ok (.iload_n 2, 1) := by decide +kernel
theorem q21_112 : decode (mB 21) 112 = .ok (.ireturn, 1) := by decide +kernel
theorem q22_0 : decode (mB 22) 0 = .ok (.iload_n 1, 1) := by decide +kernel
theorem q22_1 : cfB 22 1 59 9 0 4 1 = true := by decide +kernel
theorem q22_4 : decode (mB 22) 4 = .ok (.istore_n 2, 1) := by decide +kernel
theorem q22_5 : decode (mB 22) 5 = .ok (.iload_n 1, 1) := by decide +kernel
theorem q22_6 : cfB 22 6 63 10 0 4 1 = true := by decide +kernel
theorem q22_9 : decode (mB 22) 9 = .ok (.ifCond .ne 7, 3) := by decide +kernel
theorem q22_12 : decode (mB 22) 12 = .ok (.iconst 1, 1) := by decide +kernel
theorem q22_13 : decode (mB 22) 13 = .ok (.goto 4, 3) := by decide +kernel
theorem q22_16 : decode (mB 22) 16 = .ok (.iconst 0, 1) := by decide +kernel
theorem q22_17 : decode (mB 22) 17 = .ok (.istore_n 3, 1) := by decide +kernel
theorem q22_18 : decode (mB 22) 18 = .ok (.aload_n 0, 1) := by decide +kernel
theorem q22_19 : gfB 22 19 9 1 0 = true := by decide +kernel
theorem q22_22 : decode (mB 22) 22 = .ok (.iload_n 1, 1) := by decide +kernel
theorem q22_23 : decode (mB 22) 23 = .ok (.iconst 0, 1) := by decide +kernel
theorem q22_24 : cfB 22 24 31 11 0 4 2 = true := by decide +kernel
theorem q22_27 : cfB 22 27 37 56 1 4 1 = true := by decide +kernel
theorem q22_30 : decode (mB 22) 30 = .ok (.istore 4, 2) := by decide +kernel
theorem q22_32 : decode (mB 22) 32 = .ok (.aload_n 0, 1) := by decide +kernel
theorem q22_33 : gfB 22 33 9 1 0 = true := by decide +kernel
theorem q22_36 : decode (mB 22) 36 = .ok (.iload_n 1, 1) := by decide +kernel
theorem q22_37 : decode (mB 22) 37 = .ok (.iconst 1, 1) := by decide +kernel
theorem q22_38 : cfB 22 38 31 11 0 4 2 = true := by decide +kernel
theorem q22_41 : cfB 22 41 37 56 1 4 1 = true := by decide +kernel
theorem q22_44 : decode (mB 22) 44 = .ok (.istore 5, 2) := by decide +kernel
theorem q22_46 : decode (mB 22) 46 = .ok (.iload_n 1, 1) := by decide +kernel
theorem q22_47 : decode (mB 22) 47 = .ok (.iconst 2, 1) := by decide +kernel
theorem q22_48 : cfB 22 48 31 11 0 4 2 = true := by decide +kernel
theorem q22_51 : decode (mB 22) 51 = .ok (.istore 6, 2) := by decide +kernel
theorem q22_53 : decode (mB 22) 53 = .ok (.aload_n 0, 1) := by decide +kernel
theorem q22_54 : gfB 22 54 9 1 0 = true := by decide +kernel
theorem q22_57 : decode (mB 22) 57 = .ok (.iload 6, 2) := by decide +kernel
theorem q22_59 : cfB 22 59 37 56 1 4 1 = true := by decide +kernel
theorem q22_62 : decode (mB 22) 62 = .ok (.istore 7, 2) := by decide +kernel
theorem q22_64 : decode (mB 22) 64 = .ok (.iload_n 1, 1) := by decide +kernel
theorem q22_65 : cfB 22 65 66 15 0 4 1 = true := by decide +kernel
theorem q22_68 : cfB 22 68 69 201 0 4 1 = true := by decide +kernel
theorem q22_71 : decode (mB 22) 71 = .ok (.istore 8, 2) := by decide +kernel
theorem q22_73 : decode (mB 22) 73 = .ok (.iconst 0, 1) := by decide +kernel
theorem q22_74 : decode (mB 22) 74 = .ok (.istore 9, 2) := by decide +kernel
theorem q22_76 : decode (mB 22) 76 = .ok (.iload 9, 2) := by decide +kernel
theorem q22_78 : decode (mB 22) 78 = .ok (.iconst 0, 1) := by decide +kernel
theorem q22_79 : decode (mB 22) 79 = .ok (.iload_n 2, 1) := by decide +kernel
theorem q22_80 : decode (mB 22) 80 = .ok (.bipush 98, 2) := by decide +kernel
theorem q22_82 : decode (mB 22) 82 = .ok (.if_icmp .ne 11, 3) := by decide +kernel
theorem q22_85 : decode (mB 22) 85 = .ok (.iload_n 3, 1) := by decide +kernel
theorem q22_86 : decode (mB 22) 86 = .ok (.ifCond .eq 7, 3) := by decide +kernel
theorem q22_89 : decode (mB 22) 89 = .ok (.iconst 1, 1) := by decide +kernel
theorem q22_90 : decode (mB 22) 90 = .ok (.goto 4, 3) := by decide +kernel
theorem q22_93 : decode (mB 22) 93 = .ok (.iconst 0, 1) := by decide +kernel
theorem q22_94 : cfB 22 94 73 23 0 4 2 = true := by decide +kernel
theorem q22_97 : decode (mB 22) 97 = .ok (.ior, 1) := by decide +kernel
theorem q22_98 : decode (mB 22) 98 = .ok (.istore 9, 2) := by decide +kernel
theorem q22_100 : decode (mB 22) 100 = .ok (.iload 9, 2) := by decide +kernel
theorem q22_102 : decode (mB 22) 102 = .ok (.iconst 1, 1) := by decide +kernel
theorem q22_103 : decode (mB 22) 103 = .ok (.iload 4, 2) := by decide +kernel
theorem q22_105 : decode (mB 22) 105 = .ok (.iconst 3, 1) := by decide +kernel
theorem q22_106 : decode (mB 22) 106 = .ok (.if_icmp .ne 13, 3) := by decide +kernel
theorem q22_109 : decode (mB 22) 109 = .ok (.iload 5, 2) := by decide +kernel
theorem q22_111 : decode (mB 22) 111 = .ok (.iconst 3, 1) := by decide +kernel
theorem q22_112 : decode (mB 22) 112 = .ok (.if_icmp .ne 7, 3) := by decide +kernel
theorem q22_115 : decode (mB 22) 115 = .ok (.iconst 1, 1) := by decide +kernel
theorem q22_116 : decode (mB 22) 116 = .ok (.goto 4, 3) := by decide +kernel
theorem q22_119 : decode (mB 22) 119 = .ok (.iconst 0, 1) := by decide +kernel
theorem q22_120 : cfB 22 120 73 23 0 4 2 = true := by decide +kernel
theorem q22_123 : decode (mB 22) 123 = .ok (.ior, 1) := by decide +kernel
theorem q22_124 : decode (mB 22) 124 = .ok (.istore 9, 2) := by decide +kernel
theorem q22_126 : decode (mB 22) 126 = .ok (.iload 9, 2) := by decide +kernel
theorem q22_128 : decode (mB 22) 128 = .ok (.iconst 2, 1) := by decide +kernel
theorem q22_129 : decode (mB 22) 129 = .ok (.iload 7, 2) := by decide +kernel
theorem q22_131 : decode (mB 22) 131 = .ok (.iconst 4, 1) := by decide +kernel
theorem q22_132 : decode (mB 22) 132 = .ok (.if_icmp .ne 7, 3) := by decide +kernel
theorem q22_135 : decode (mB 22) 135 = .ok (.iconst 1, 1) := by decide +kernel
theorem q22_136 : decode (mB 22) 136 = .ok (.goto 4, 3) := by decide +kernel
theorem q22_139 : decode (mB 22) 139 = .ok (.iconst 0, 1) := by decide +kernel
theorem q22_140 : cfB 22 140 73 23 0 4 2 = true := by decide +kernel
theorem q22_143 : decode (mB 22) 143 = .ok (.ior, 1) := by decide +kernel
theorem q22_144 : decode (mB 22) 144 = .ok (.istore 9, 2) := by decide +kernel
theorem q22_146 : decode (mB 22) 146 = .ok (.iload 9, 2) := by decide +kernel
theorem q22_148 : decode (mB 22) 148 = .ok (.iconst 3, 1) := by decide +kernel
theorem q22_149 : decode (mB 22) 149 = .ok (.iload_n 2, 1) := by decide +kernel
theorem q22_150 : decode (mB 22) 150 = .ok (.bipush 112, 2) := by decide +kernel
theorem q22_152 : decode (mB 22) 152 = .ok (.if_icmp .ne 23, 3) := by decide +kernel
theorem q22_155 : decode (mB 22) 155 = .ok (.iload_n 3, 1) := by decide +kernel
theorem q22_156 : decode (mB 22) 156 = .ok (.ifCond .eq 19, 3) := by decide +kernel
theorem q22_159 : decode (mB 22) 159 = .ok (.aload_n 0, 1) := by decide +kernel
theorem q22_160 : gfB 22 160 9 1 0 = true := by decide +kernel
theorem q22_163 : cfB 22 163 77 53 1 4 0 = true := by decide +kernel
theorem q22_166 : decode (mB 22) 166 = .ok (.bipush 20, 2) := by decide +kernel
theorem q22_168 : decode (mB 22) 168 = .ok (.if_icmp .le 7, 3) := by decide +kernel
theorem q22_171 : decode (mB 22) 171 = .ok (.iconst 1, 1) := by decide +kernel
theorem q22_172 : decode (mB 22) 172 = .ok (.goto 4, 3) := by decide +kernel
theorem q22_175 : decode (mB 22) 175 = .ok (.iconst 0, 1) := by decide +kernel
theorem q22_176 : cfB 22 176 73 23 0 4 2 = true := by decide +kernel
theorem q22_179 : decode (mB 22) 179 = .ok (.ior, 1) := by decide +kernel
theorem q22_180 : decode (mB 22) 180 = .ok (.istore 9, 2) := by decide +kernel
theorem q22_182 : decode (mB 22) 182 = .ok (.iload 9, 2) := by decide +kernel
theorem q22_184 : decode (mB 22) 184 = .ok (.iconst 4, 1) := by decide +kernel
theorem q22_185 : decode (mB 22) 185 = .ok (.iload_n 2, 1) := by decide +kernel
theorem q22_186 : decode (mB 22) 186 = .ok (.bipush 112, 2) := by decide +kernel
theorem q22_188 : decode (mB 22) 188 = .ok (.if_icmp .ne 11, 3) := by decide +kernel
theorem q22_191 : decode (mB 22) 191 = .ok (.iload_n 3, 1) := by decide +kernel
theorem q22_192 : decode (mB 22) 192 = .ok (.ifCond .ne 7, 3) := by decide +kernel
theorem q22_195 : decode (mB 22) 195 = .ok (.iconst 1, 1) := by decide +kernel
theorem q22_196 : decode (mB 22) 196 = .ok (.goto 4, 3) := by decide +kernel
theorem q22_199 : decode (mB 22) 199 = .ok (.iconst 0, 1) := by decide +kernel
theorem q22_200 : cfB 22 200 73 23 0 4 2 = true := by decide +kernel
theorem q22_203 : decode (mB 22) 203 = .ok (.ior, 1) := by decide +kernel
theorem q22_204 : decode (mB 22) 204 = .ok (.istore 9, 2) := by decide +kernel
theorem q22_206 : decode (mB 22) 206 = .ok (.iload 9, 2) := by decide +kernel
theorem q22_208 : decode (mB 22) 208 = .ok (.iconst 5, 1) := by decide +kernel
theorem q22_209 : decode (mB 22) 209 = .ok (.iload 8, 2) := by decide +kernel
theorem q22_211 : decode (mB 22) 211 = .ok (.iconst 3, 1) := by decide +kernel
theorem q22_212 : decode (mB 22) 212 = .ok (.if_icmp .lt 7, 3) := by decide +kernel
theorem q22_215 : decode (mB 22) 215 = .ok (.iconst 1, 1) := by decide +kernel
theorem q22_216 : decode (mB 22) 216 = .ok (.goto 4, 3) := by decide +kernel
theorem q22_219 : decode (mB 22) 219 = .ok (.iconst 0, 1) := by decide +kernel
theorem q22_220 : cfB 22 220 73 23 0 4 2 = true := by decide +kernel
theorem q22_223 : decode (mB 22) 223 = .ok (.ior, 1) := by decide +kernel
theorem q22_224 : decode (mB 22) 224 = .ok (.istore 9, 2) := by decide +kernel
theorem q22_226 : decode (mB 22) 226 = .ok (.iload 9, 2) := by decide +kernel
theorem q22_228 : decode (mB 22) 228 = .ok (.bipush 6, 2) := by decide +kernel
theorem q22_230 : decode (mB 22) 230 = .ok (.iload 7, 2) := by decide +kernel
theorem q22_232 : decode (mB 22) 232 = .ok (.iconst 3, 1) := by decide +kernel
theorem q22_233 : decode (mB 22) 233 = .ok (.if_icmp .ne 20, 3) := by decide +kernel
theorem q22_236 : decode (mB 22) 236 = .ok (.aload_n 0, 1) := by decide +kernel
theorem q22_237 : gfB 22 237 9 1 0 = true := by decide +kernel
theorem q22_240 : decode (mB 22) 240 = .ok (.iload 6, 2) := by decide +kernel
theorem q22_242 : cfB 22 242 81 59 1 4 1 = true := by decide +kernel
theorem q22_245 : decode (mB 22) 245 = .ok (.iconst 4, 1) := by decide +kernel
theorem q22_246 : decode (mB 22) 246 = .ok (.if_icmp .le 7, 3) := by decide +kernel
theorem q22_249 : decode (mB 22) 249 = .ok (.iconst 1, 1) := by decide +kernel
theorem q22_250 : decode (mB 22) 250 = .ok (.goto 4, 3) := by decide +kernel
theorem q22_253 : decode (mB 22) 253 = .ok (.iconst 0, 1) := by decide +kernel
theorem q22_254 : cfB 22 254 73 23 0 4 2 = true := by decide +kernel
theorem q22_257 : decode (mB 22) 257 = .ok (.ior, 1) := by decide +kernel
theorem q22_258 : decode (mB 22) 258 = .ok (.istore 9, 2) := by decide +kernel
theorem q22_260 : decode (mB 22) 260 = .ok (.iload 9, 2) := by decide +kernel
theorem q22_262 : decode (mB 22) 262 = .ok (.bipush 7, 2) := by decide +kernel
theorem q22_264 : decode (mB 22) 264 = .ok (.iload 4, 2) := by decide +kernel
theorem q22_266 : decode (mB 22) 266 = .ok (.iconst (-1), 1) := by decide +kernel
theorem q22_267 : decode (mB 22) 267 = .ok (.if_icmp .eq 9, 3) := by decide +kernel
theorem q22_270 : decode (mB 22) 270 = .ok (.iload 5, 2) := by decide +kernel
theorem q22_272 : decode (mB 22) 272 = .ok (.iconst (-1), 1) := by decide +kernel
theorem q22_273 : decode (mB 22) 273 = .ok (.if_icmp .ne 7, 3) := by decide +kernel
theorem q22_276 : decode (mB 22) 276 = .ok (.iconst 1, 1) := by decide +kernel
theorem q22_277 : decode (mB 22) 277 = .ok (.goto 4, 3) := by decide +kernel
theorem q22_280 : decode (mB 22) 280 = .ok (.iconst 0, 1) := by decide +kernel
theorem q22_281 : cfB 22 281 73 23 0 4 2 = true := by decide +kernel
theorem q22_284 : decode (mB 22) 284 = .ok (.ior, 1) := by decide +kernel
theorem q22_285 : decode (mB 22) 285 = .ok (.istore 9, 2) := by decide +kernel
theorem q22_287 : decode (mB 22) 287 = .ok (.iload 9, 2) := by decide +kernel
theorem q22_289 : decode (mB 22) 289 = .ok (.ireturn, 1) := by decide +kernel
theorem q23_0 : decode (mB 23) 0 = .ok (.iload_n 1, 1) := by decide +kernel
theorem q23_1 : decode (mB 23) 1 = .ok (.ifCond .eq 9, 3) := by decide +kernel
theorem q23_4 : decode (mB 23) 4 = .ok (.iconst 1, 1) := by decide +kernel
theorem q23_5 : decode (mB 23) 5 = .ok (.iload_n 0, 1) := by decide +kernel
theorem q23_6 : decode (mB 23) 6 = .ok (.ishl, 1) := by decide +kernel
theorem q23_7 : decode (mB 23) 7 = .ok (.goto 4, 3) := by decide +kernel
theorem q23_10 : decode (mB 23) 10 = .ok (.iconst 0, 1) := by decide +kernel
theorem q23_11 : decode (mB 23) 11 = .ok (.ireturn, 1) := by decide +kernel
theorem q24_0 : decode (mB 24) 0 = .ok (.iload_n 0, 1) := by decide +kernel
theorem q24_1 : decode (mB 24) 1 = .ok (.iconst 2, 1) := by decide +kernel
theorem q24_2 : decode (mB 24) 2 = .ok (.isub, 1) := by decide +kernel
theorem q24_3 : decode (mB 24) 3 = .ok (.iconst 4, 1) := by decide +kernel
theorem q24_4 : decode (mB 24) 4 = .ok (.imul, 1) := by decide +kernel
theorem q24_5 : decode (mB 24) 5 = .ok (.iload_n 1, 1) := by decide +kernel
theorem q24_6 : decode (mB 24) 6 = .ok (.iadd, 1) := by decide +kernel
theorem q24_7 : decode (mB 24) 7 = .ok (.istore_n 2, 1) := by decide +kernel
theorem q24_8 : decode (mB 24) 8 = .ok (.iload_n 2, 1) := by decide +kernel
theorem q24_9 : decode (mB 24) 9 = .ok (.ifCond .lt 19, 3) := by decide +kernel
theorem q24_12 : decode (mB 24) 12 = .ok (.iload_n 2, 1) := by decide +kernel
theorem q24_13 : gsB 24 13 84 2 1 = true := by decide +kernel
theorem q24_16 : decode (mB 24) 16 = .ok (.arraylength, 1) := by decide +kernel
theorem q24_17 : decode (mB 24) 17 = .ok (.if_icmp .ge 11, 3) := by decide +kernel
theorem q24_20 : gsB 24 20 84 2 1 = true := by decide +kernel
theorem q24_23 : decode (mB 24) 23 = .ok (.iload_n 2, 1) := by decide +kernel
theorem q24_24 : decode (mB 24) 24 = .ok (.iaload, 1) := by decide +kernel
theorem q24_25 : decode (mB 24) 25 = .ok (.goto 4, 3) := by decide +kernel
theorem q24_28 : decode (mB 24) 28 = .ok (.iconst 0, 1) := by decide +kernel
theorem q24_29 : decode (mB 24) 29 = .ok (.ireturn, 1) := by decide +kernel
theorem q25_0 : decode (mB 25) 0 = .ok (.aload_n 0, 1) := by decide +kernel
theorem q25_1 : (decide (25 < 235) && decide (decode (mB 25) 1 = .ok (.invokespecial 3, 3)) && (lks (mD 25)).contains (3, 2, 0, 0) && decide (1 ≤ mV 25)) = true := by decide +kernel
theorem q25_4 : decode (mB 25) 4 = .ok (.aload_n 0, 1) := by decide +kernel
theorem q25_5 : decode (mB 25) 5 = .ok (.aload_n 1, 1) := by decide +kernel
theorem q25_6 : pfB 25 6 9 2 0 = true := by decide +kernel
theorem q25_9 : decode (mB 25) 9 = .ok (.aload_n 0, 1) := by decide +kernel
theorem q25_10 : decode (mB 25) 10 = .ok (.bipush 45, 2) := by decide +kernel
theorem q25_12 : pfB 25 12 15 2 2 = true := by decide +kernel
theorem q25_15 : decode (mB 25) 15 = .ok (.return_, 1) := by decide +kernel
theorem q26_0 : decode (mB 26) 0 = .ok (.iconst 1, 1) := by decide +kernel
theorem q26_1 : decode (mB 26) 1 = .ok (.iload_n 1, 1) := by decide +kernel
theorem q26_2 : decode (mB 26) 2 = .ok (.ishl, 1) := by decide +kernel
theorem q26_3 : decode (mB 26) 3 = .ok (.istore_n 3, 1) := by decide +kernel
theorem q26_4 : decode (mB 26) 4 = .ok (.aload_n 0, 1) := by decide +kernel
theorem q26_5 : decode (mB 26) 5 = .ok (.iload_n 2, 1) := by decide +kernel
theorem q26_6 : decode (mB 26) 6 = .ok (.ifCond .eq 12, 3) := by decide +kernel
theorem q26_9 : decode (mB 26) 9 = .ok (.aload_n 0, 1) := by decide +kernel
theorem q26_10 : gfB 26 10 19 2 1 = true := by decide +kernel
theorem q26_13 : decode (mB 26) 13 = .ok (.iload_n 3, 1) := by decide +kernel
theorem q26_14 : decode (mB 26) 14 = .ok (.ior, 1) := by decide +kernel
theorem q26_15 : decode (mB 26) 15 = .ok (.goto 11, 3) := by decide +kernel
theorem q26_18 : decode (mB 26) 18 = .ok (.aload_n 0, 1) := by decide +kernel
theorem q26_19 : gfB 26 19 19 2 1 = true := by decide +kernel
theorem q26_22 : decode (mB 26) 22 = .ok (.iload_n 3, 1) := by decide +kernel
theorem q26_23 : decode (mB 26) 23 = .ok (.iconst (-1), 1) := by decide +kernel
theorem q26_24 : decode (mB 26) 24 = .ok (.ixor, 1) := by decide +kernel
theorem q26_25 : decode (mB 26) 25 = .ok (.iand, 1) := by decide +kernel
theorem q26_26 : pfB 26 26 19 2 1 = true := by decide +kernel
theorem q26_29 : decode (mB 26) 29 = .ok (.aload_n 0, 1) := by decide +kernel
theorem q26_30 : gfB 26 30 19 2 1 = true := by decide +kernel
theorem q26_33 : cfB 26 33 23 201 0 4 1 = true := by decide +kernel
theorem q26_36 : decode (mB 26) 36 = .ok (.ireturn, 1) := by decide +kernel
theorem q27_0 : decode (mB 27) 0 = .ok (.aload_n 0, 1) := by decide +kernel
theorem q27_1 : gfB 27 1 15 2 2 = true := by decide +kernel
theorem q27_4 : decode (mB 27) 4 = .ok (.istore_n 2, 1) := by decide +kernel
theorem q27_5 : decode (mB 27) 5 = .ok (.aload_n 0, 1) := by decide +kernel
theorem q27_6 : decode (mB 27) 6 = .ok (.iload_n 1, 1) := by decide +kernel
theorem q27_7 : pfB 27 7 15 2 2 = true := by decide +kernel
theorem q27_10 : decode (mB 27) 10 = .ok (.iload_n 2, 1) := by decide +kernel
theorem q27_11 : decode (mB 27) 11 = .ok (.ireturn, 1) := by decide +kernel
theorem q28_0 : decode (mB 28) 0 = .ok (.iload_n 1, 1) := by decide +kernel
theorem q28_1 : decode (mB 28) 1 = .ok (.iconst (-1), 1) := by decide +kernel
theorem q28_2 : decode (mB 28) 2 = .ok (.if_icmp .eq 22, 3) := by decide +kernel
theorem q28_5 : decode (mB 28) 5 = .ok (.aload_n 0, 1) := by decide +kernel
theorem q28_6 : gfB 28 6 29 2 3 = true := by decide +kernel
theorem q28_9 : decode (mB 28) 9 = .ok (.iload_n 1, 1) := by decide +kernel
theorem q28_10 : decode (mB 28) 10 = .ok (.iconst 4, 1) := by decide +kernel
theorem q28_11 : decode (mB 28) 11 = .ok (.imul, 1) := by decide +kernel
theorem q28_12 : decode (mB 28) 12 = .ok (.iload_n 2, 1) := by decide +kernel
theorem q28_13 : decode (mB 28) 13 = .ok (.iadd, 1) := by decide +kernel
theorem q28_14 : decode (mB 28) 14 = .ok (.ishr, 1) := by decide +kernel
theorem q28_15 : decode (mB 28) 15 = .ok (.iconst 1, 1) := by decide +kernel
theorem q28_16 : decode (mB 28) 16 = .ok (.iand, 1) := by decide +kernel
theorem q28_17 : decode (mB 28) 17 = .ok (.ifCond .eq 7, 3) := by decide +kernel
theorem q28_20 : decode (mB 28) 20 = .ok (.iconst 1, 1) := by decide +kernel
theorem q28_21 : decode (mB 28) 21 = .ok (.goto 4, 3) := by decide +kernel
theorem q28_24 : decode (mB 28) 24 = .ok (.iconst 0, 1) := by decide +kernel
theorem q28_25 : decode (mB 28) 25 = .ok (.ireturn, 1) := by decide +kernel
theorem q29_0 : decode (mB 29) 0 = .ok (.aload_n 0, 1) := by decide +kernel
theorem q29_1 : decode (mB 29) 1 = .ok (.dup, 1) := by decide +kernel
theorem q29_2 : gfB 29 2 29 2 3 = true := by decide +kernel
theorem q29_5 : decode (mB 29) 5 = .ok (.iconst 1, 1) := by decide +kernel
theorem q29_6 : decode (mB 29) 6 = .ok (.iload_n 1, 1) := by decide +kernel
theorem q29_7 : decode (mB 29) 7 = .ok (.iconst 4, 1) := by decide +kernel
theorem q29_8 : decode (mB 29) 8 = .ok (.imul, 1) := by decide +kernel
theorem q29_9 : decode (mB 29) 9 = .ok (.iload_n 2, 1) := by decide +kernel
theorem q29_10 : decode (mB 29) 10 = .ok (.iadd, 1) := by decide +kernel
theorem q29_11 : decode (mB 29) 11 = .ok (.ishl, 1) := by decide +kernel
theorem q29_12 : decode (mB 29) 12 = .ok (.ixor, 1) := by decide +kernel
theorem q29_13 : pfB 29 13 29 2 3 = true := by decide +kernel
theorem q29_16 : decode (mB 29) 16 = .ok (.aload_n 0, 1) := by decide +kernel
theorem q29_17 : gfB 29 17 29 2 3 = true := by decide +kernel
theorem q29_20 : cfB 29 20 23 201 0 4 1 = true := by decide +kernel
theorem q29_23 : decode (mB 29) 23 = .ok (.ireturn, 1) := by decide +kernel
theorem q30_0 : decode (mB 30) 0 = .ok (.aload_n 0, 1) := by decide +kernel
theorem q30_1 : decode (mB 30) 1 = .ok (.iload_n 1, 1) := by decide +kernel
theorem q30_2 : cfB 30 2 32 31 1 4 1 = true := by decide +kernel
theorem q30_5 : decode (mB 30) 5 = .ok (.ifCond .ne 7, 3) := by decide +kernel
theorem q30_8 : decode (mB 30) 8 = .ok (.iconst 1, 1) := by decide +kernel
theorem q30_9 : decode (mB 30) 9 = .ok (.goto 4, 3) := by decide +kernel
theorem q30_12 : decode (mB 30) 12 = .ok (.iconst 0, 1) := by decide +kernel
theorem q30_13 : decode (mB 30) 13 = .ok (.ireturn, 1) := by decide +kernel
theorem q31_0 : decode (mB 31) 0 = .ok (.iload_n 1, 1) := by decide +kernel
theorem q31_1 : cfB 31 1 35 9 0 4 1 = true := by decide +kernel
theorem q31_4 : decode (mB 31) 4 = .ok (.istore_n 2, 1) := by decide +kernel
theorem q31_5 : decode (mB 31) 5 = .ok (.iload_n 1, 1) := by decide +kernel
theorem q31_6 : cfB 31 6 41 10 0 4 1 = true := by decide +kernel
theorem q31_9 : decode (mB 31) 9 = .ok (.istore_n 3, 1) := by decide +kernel
theorem q31_10 : decode (mB 31) 10 = .ok (.aload_n 0, 1) := by decide +kernel
theorem q31_11 : gfB 31 11 9 2 0 = true := by decide +kernel
theorem q31_14 : decode (mB 31) 14 = .ok (.iload_n 1, 1) := by decide +kernel
theorem q31_15 : decode (mB 31) 15 = .ok (.iconst 0, 1) := by decide +kernel
theorem q31_16 : cfB 31 16 44 11 0 4 2 = true := by decide +kernel
theorem q31_19 : cfB 31 19 48 56 1 4 1 = true := by decide +kernel
theorem q31_22 : decode (mB 31) 22 = .ok (.istore 4, 2) := by decide +kernel
theorem q31_24 : decode (mB 31) 24 = .ok (.aload_n 0, 1) := by decide +kernel
theorem q31_25 : gfB 31 25 9 2 0 = true := by decide +kernel
theorem q31_28 : decode (mB 31) 28 = .ok (.iload_n 1, 1) := by decide +kernel
theorem q31_29 : decode (mB 31) 29 = .ok (.iconst 1, 1) := by decide +kernel
theorem q31_30 : cfB 31 30 44 11 0 4 2 = true := by decide +kernel
theorem q31_33 : cfB 31 33 48 56 1 4 1 = true := by decide +kernel
theorem q31_36 : decode (mB 31) 36 = .ok (.istore 5, 2) := by decide +kernel
theorem q31_38 : decode (mB 31) 38 = .ok (.aload_n 0, 1) := by decide +kernel
theorem q31_39 : gfB 31 39 9 2 0 = true := by decide +kernel
theorem q31_42 : decode (mB 31) 42 = .ok (.iload_n 1, 1) := by decide +kernel
theorem q31_43 : decode (mB 31) 43 = .ok (.iconst 3, 1) := by decide +kernel
theorem q31_44 : cfB 31 44 44 11 0 4 2 = true := by decide +kernel
theorem q31_47 : cfB 31 47 48 56 1 4 1 = true := by decide +kernel
theorem q31_50 : decode (mB 31) 50 = .ok (.istore 6, 2) := by decide +kernel
theorem q31_52 : decode (mB 31) 52 = .ok (.iload 5, 2) := by decide +kernel
theorem q31_54 : decode (mB 31) 54 = .ok (.iconst 4, 1) := by decide +kernel
theorem q31_55 : decode (mB 31) 55 = .ok (.if_icmp .eq 8, 3) := by decide +kernel
theorem q31_58 : decode (mB 31) 58 = .ok (.iload_n 3, 1) := by decide +kernel
theorem q31_59 : decode (mB 31) 59 = .ok (.iconst 1, 1) := by decide +kernel
theorem q31_60 : decode (mB 31) 60 = .ok (.if_icmp .ne 7, 3) := by decide +kernel
theorem q31_63 : decode (mB 31) 63 = .ok (.iconst 1, 1) := by decide +kernel
theorem q31_64 : decode (mB 31) 64 = .ok (.goto 4, 3) := by decide +kernel
theorem q31_67 : decode (mB 31) 67 = .ok (.iconst 0, 1) := by decide +kernel
theorem q31_68 : decode (mB 31) 68 = .ok (.istore 7, 2) := by decide +kernel
theorem q31_70 : decode (mB 31) 70 = .ok (.iload 4, 2) := by decide +kernel
theorem q31_72 : decode (mB 31) 72 = .ok (.iconst (-1), 1) := by decide +kernel
theorem q31_73 : decode (mB 31) 73 = .ok (.if_icmp .ne 11, 3) := by decide +kernel
theorem q31_76 : decode (mB 31) 76 = .ok (.iload 5, 2) := by decide +kernel
theorem q31_78 : decode (mB 31) 78 = .ok (.iconst (-1), 1) := by decide +kernel
theorem q31_79 : decode (mB 31) 79 = .ok (.if_icmp .ne 5, 3) := by decide +kernel
theorem q31_82 : decode (mB 31) 82 = .ok (.iconst 1, 1) := by decide +kernel
theorem q31_83 : decode (mB 31) 83 = .ok (.ireturn, 1) := by decide +kernel
theorem q31_84 : decode (mB 31) 84 = .ok (.aload_n 0, 1) := by decide +kernel
theorem q31_85 : decode (mB 31) 85 = .ok (.iload_n 1, 1) := by decide +kernel
theorem q31_86 : cfB 31 86 53 32 1 4 1 = true := by decide +kernel
theorem q31_89 : decode (mB 31) 89 = .ok (.ifCond .eq 5, 3) := by decide +kernel
theorem q31_92 : decode (mB 31) 92 = .ok (.iconst 2, 1) := by decide +kernel
theorem q31_93 : decode (mB 31) 93 = .ok (.ireturn, 1) := by decide +kernel
theorem q31_94 : decode (mB 31) 94 = .ok (.iload 6, 2) := by decide +kernel
theorem q31_96 : decode (mB 31) 96 = .ok (.iconst (-1), 1) := by decide +kernel
theorem q31_97 : decode (mB 31) 97 = .ok (.if_icmp .eq 17, 3) := by decide +kernel
theorem q31_100 : decode (mB 31) 100 = .ok (.iload 6, 2) := by decide +kernel
theorem q31_102 : decode (mB 31) 102 = .ok (.iconst 4, 1) := by decide +kernel
theorem q31_103 : decode (mB 31) 103 = .ok (.if_icmp .ne 9, 3) := by decide +kernel
theorem q31_106 : decode (mB 31) 106 = .ok (.iload_n 2, 1) := by decide +kernel
theorem q31_107 : decode (mB 31) 107 = .ok (.bipush 112, 2) := by decide +kernel
theorem q31_109 : decode (mB 31) 109 = .ok (.if_icmp .eq 5, 3) := by decide +kernel
theorem q31_112 : decode (mB 31) 112 = .ok (.iconst 3, 1) := by decide +kernel
theorem q31_113 : decode (mB 31) 113 = .ok (.ireturn, 1) := by decide +kernel
theorem q31_114 : decode (mB 31) 114 = .ok (.iload_n 2, 1) := by decide +kernel
theorem q31_115 : decode (mB 31) 115 = .ok (.bipush 98, 2) := by decide +kernel
theorem q31_117 : decode (mB 31) 117 = .ok (.if_icmp .ne 22, 3) := by decide +kernel
theorem q31_120 : decode (mB 31) 120 = .ok (.iload 4, 2) := by decide +kernel
theorem q31_122 : decode (mB 31) 122 = .ok (.iconst 3, 1) := by decide +kernel
theorem q31_123 : decode (mB 31) 123 = .ok (.if_icmp .eq 9, 3) := by decide +kernel
theorem q31_126 : decode (mB 31) 126 = .ok (.iload 4, 2) := by decide +kernel
theorem q31_128 : decode (mB 31) 128 = .ok (.iconst 2, 1) := by decide +kernel
theorem q31_129 : decode (mB 31) 129 = .ok (.if_icmp .ne 8, 3) := by decide +kernel
theorem q31_132 : decode (mB 31) 132 = .ok (.iload 7, 2) := by decide +kernel
theorem q31_134 : decode (mB 31) 134 = .ok (.ifCond .ne 5, 3) := by decide +kernel
theorem q31_137 : decode (mB 31) 137 = .ok (.iconst 4, 1) := by decide +kernel
theorem q31_138 : decode (mB 31) 138 = .ok (.ireturn, 1) := by decide +kernel
theorem q31_139 : decode (mB 31) 139 = .ok (.iload_n 2, 1) := by decide +kernel
theorem q31_140 : decode (mB 31) 140 = .ok (.bipush 108, 2) := by decide +kernel
theorem q31_142 : decode (mB 31) 142 = .ok (.if_icmp .ne 22, 3) := by decide +kernel
theorem q31_145 : decode (mB 31) 145 = .ok (.iload 4, 2) := by decide +kernel
theorem q31_147 : decode (mB 31) 147 = .ok (.iconst 2, 1) := by decide +kernel
theorem q31_148 : decode (mB 31) 148 = .ok (.if_icmp .eq 9, 3) := by decide +kernel
theorem q31_151 : decode (mB 31) 151 = .ok (.iload 4, 2) := by decide +kernel
theorem q31_153 : decode (mB 31) 153 = .ok (.iconst 4, 1) := by decide +kernel
theorem q31_154 : decode (mB 31) 154 = .ok (.if_icmp .ne 8, 3) := by decide +kernel
theorem q31_157 : decode (mB 31) 157 = .ok (.iload 7, 2) := by decide +kernel
theorem q31_159 : decode (mB 31) 159 = .ok (.ifCond .ne 5, 3) := by decide +kernel
theorem q31_162 : decode (mB 31) 162 = .ok (.iconst 5, 1) := by decide +kernel
theorem q31_163 : decode (mB 31) 163 = .ok (.ireturn, 1) := by decide +kernel
theorem q31_164 : decode (mB 31) 164 = .ok (.iload_n 3, 1) := by decide +kernel
theorem q31_165 : decode (mB 31) 165 = .ok (.iconst 1, 1) := by decide +kernel
theorem q31_166 : decode (mB 31) 166 = .ok (.if_icmp .ne 12, 3) := by decide +kernel
theorem q31_169 : decode (mB 31) 169 = .ok (.iload 5, 2) := by decide +kernel
theorem q31_171 : decode (mB 31) 171 = .ok (.iconst (-1), 1) := by decide +kernel
theorem q31_172 : decode (mB 31) 172 = .ok (.if_icmp .eq 6, 3) := by decide +kernel
theorem q31_175 : decode (mB 31) 175 = .ok (.bipush 6, 2) := by decide +kernel
theorem q31_177 : decode (mB 31) 177 = .ok (.ireturn, 1) := by decide +kernel
theorem q31_178 : decode (mB 31) 178 = .ok (.iload_n 3, 1) := by decide +kernel
theorem q31_179 : decode (mB 31) 179 = .ok (.iconst 2, 1) := by decide +kernel
theorem q31_180 : decode (mB 31) 180 = .ok (.if_icmp .ne 24, 3) := by decide +kernel
theorem q31_183 : decode (mB 31) 183 = .ok (.iload 5, 2) := by decide +kernel
theorem q31_185 : decode (mB 31) 185 = .ok (.iconst 4, 1) := by decide +kernel
theorem q31_186 : decode (mB 31) 186 = .ok (.if_icmp .ne 15, 3) := by decide +kernel
theorem q31_189 : decode (mB 31) 189 = .ok (.iload 4, 2) := by decide +kernel
theorem q31_191 : decode (mB 31) 191 = .ok (.iconst 3, 1) := by decide +kernel
theorem q31_192 : decode (mB 31) 192 = .ok (.if_icmp .eq 12, 3) := by decide +kernel
theorem q31_195 : decode (mB 31) 195 = .ok (.iload 4, 2) := by decide +kernel
theorem q31_197 : decode (mB 31) 197 = .ok (.iconst 2, 1) := by decide +kernel
theorem q31_198 : decode (mB 31) 198 = .ok (.if_icmp .eq 6, 3) := by decide +kernel
theorem q31_201 : decode (mB 31) 201 = .ok (.bipush 7, 2) := by decide +kernel
theorem q31_203 : decode (mB 31) 203 = .ok (.ireturn, 1) := by decide +kernel
theorem q31_204 : decode (mB 31) 204 = .ok (.aload_n 0, 1) := by decide +kernel
theorem q31_205 : decode (mB 31) 205 = .ok (.iload_n 1, 1) := by decide +kernel
theorem q31_206 : cfB 31 206 57 33 1 4 1 = true := by decide +kernel
theorem q31_209 : decode (mB 31) 209 = .ok (.ifCond .eq 6, 3) := by decide +kernel
theorem q31_212 : decode (mB 31) 212 = .ok (.bipush 8, 2) := by decide +kernel
theorem q31_214 : decode (mB 31) 214 = .ok (.ireturn, 1) := by decide +kernel
theorem q31_215 : decode (mB 31) 215 = .ok (.aload_n 0, 1) := by decide +kernel
theorem q31_216 : decode (mB 31) 216 = .ok (.iload_n 1, 1) := by decide +kernel
theorem q31_217 : cfB 31 217 60 34 1 4 1 = true := by decide +kernel
theorem q31_220 : decode (mB 31) 220 = .ok (.ifCond .eq 7, 3) := by decide +kernel
theorem q31_223 : decode (mB 31) 223 = .ok (.iconst 0, 1) := by decide +kernel
theorem q31_224 : decode (mB 31) 224 = .ok (.goto 5, 3) := by decide +kernel
theorem q31_227 : decode (mB 31) 227 = .ok (.bipush 9, 2) := by decide +kernel
theorem q31_229 : decode (mB 31) 229 = .ok (.ireturn, 1) := by decide +kernel
theorem q32_0 : decode (mB 32) 0 = .ok (.iconst 0, 1) := by decide +kernel
theorem q32_1 : decode (mB 32) 1 = .ok (.istore_n 2, 1) := by decide +kernel
theorem q32_2 : decode (mB 32) 2 = .ok (.iload_n 2, 1) := by decide +kernel
theorem q32_3 : decode (mB 32) 3 = .ok (.iconst 4, 1) := by decide +kernel
theorem q32_4 : decode (mB 32) 4 = .ok (.if_icmp .ge 29, 3) := by decide +kernel
theorem q32_7 : decode (mB 32) 7 = .ok (.aload_n 0, 1) := by decide +kernel
theorem q32_8 : gfB 32 8 9 2 0 = true := by decide +kernel
theorem q32_11 : decode (mB 32) 11 = .ok (.iload_n 1, 1) := by decide +kernel
theorem q32_12 : decode (mB 32) 12 = .ok (.iload_n 2, 1) := by decide +kernel
theorem q32_13 : cfB 32 13 44 11 0 4 2 = true := by decide +kernel
theorem q32_16 : cfB 32 16 48 56 1 4 1 = true := by decide +kernel
theorem q32_19 : cfB 32 19 63 62 0 4 1 = true := by decide +kernel
theorem q32_22 : decode (mB 32) 22 = .ok (.ifCond .eq 5, 3) := by decide +kernel
theorem q32_25 : decode (mB 32) 25 = .ok (.iconst 1, 1) := by decide +kernel
theorem q32_26 : decode (mB 32) 26 = .ok (.ireturn, 1) := by decide +kernel
theorem q32_27 : decode (mB 32) 27 = .ok (.iinc 2 1, 3) := by decide +kernel
theorem q32_30 : decode (mB 32) 30 = .ok (.goto (-28), 3) := by decide +kernel
theorem q32_33 : decode (mB 32) 33 = .ok (.iconst 0, 1) := by decide +kernel
theorem q32_34 : decode (mB 32) 34 = .ok (.ireturn, 1) := by decide +kernel
theorem q33_0 : decode (mB 33) 0 = .ok (.iconst 0, 1) := by decide +kernel
theorem q33_1 : decode (mB 33) 1 = .ok (.istore_n 2, 1) := by decide +kernel
theorem q33_2 : decode (mB 33) 2 = .ok (.iload_n 2, 1) := by decide +kernel
theorem q33_3 : decode (mB 33) 3 = .ok (.iconst 4, 1) := by decide +kernel
theorem q33_4 : decode (mB 33) 4 = .ok (.if_icmp .ge 24, 3) := by decide +kernel
theorem q33_7 : decode (mB 33) 7 = .ok (.aload_n 0, 1) := by decide +kernel
theorem q33_8 : decode (mB 33) 8 = .ok (.iload_n 1, 1) := by decide +kernel
theorem q33_9 : decode (mB 33) 9 = .ok (.iload_n 2, 1) := by decide +kernel
theorem q33_10 : cfB 33 10 44 11 0 4 2 = true := by decide +kernel
theorem q33_13 : decode (mB 33) 13 = .ok (.iload_n 2, 1) := by decide +kernel
theorem q33_14 : cfB 33 14 66 28 1 4 2 = true := by decide +kernel
theorem q33_17 : decode (mB 33) 17 = .ok (.ifCond .eq 5, 3) := by decide +kernel
theorem q33_20 : decode (mB 33) 20 = .ok (.iconst 1, 1) := by decide +kernel
theorem q33_21 : decode (mB 33) 21 = .ok (.ireturn, 1) := by decide +kernel
theorem q33_22 : decode (mB 33) 22 = .ok (.iinc 2 1, 3) := by decide +kernel
theorem q33_25 : decode (mB 33) 25 = .ok (.goto (-23), 3) := by decide +kernel
theorem q33_28 : decode (mB 33) 28 = .ok (.iconst 0, 1) := by decide +kernel
theorem q33_29 : decode (mB 33) 29 = .ok (.ireturn, 1) := by decide +kernel
theorem q34_0 : decode (mB 34) 0 = .ok (.aload_n 0, 1) := by decide +kernel
theorem q34_1 : gfB 34 1 15 2 2 = true := by decide +kernel
theorem q34_4 : decode (mB 34) 4 = .ok (.bipush 45, 2) := by decide +kernel
theorem q34_6 : decode (mB 34) 6 = .ok (.if_icmp .eq 14, 3) := by decide +kernel
theorem q34_9 : decode (mB 34) 9 = .ok (.aload_n 0, 1) := by decide +kernel
theorem q34_10 : gfB 34 10 15 2 2 = true := by decide +kernel
theorem q34_13 : decode (mB 34) 13 = .ok (.iload_n 1, 1) := by decide +kernel
theorem q34_14 : cfB 34 14 35 9 0 4 1 = true := by decide +kernel
theorem q34_17 : decode (mB 34) 17 = .ok (.if_icmp .ne 7, 3) := by decide +kernel
theorem q34_20 : decode (mB 34) 20 = .ok (.iconst 1, 1) := by decide +kernel
theorem q34_21 : decode (mB 34) 21 = .ok (.goto 4, 3) := by decide +kernel
theorem q34_24 : decode (mB 34) 24 = .ok (.iconst 0, 1) := by decide +kernel
theorem q34_25 : decode (mB 34) 25 = .ok (.istore_n 2, 1) := by decide +kernel
theorem q34_26 : decode (mB 34) 26 = .ok (.iload_n 2, 1) := by decide +kernel
theorem q34_27 : decode (mB 34) 27 = .ok (.ifCond .eq 21, 3) := by decide +kernel
theorem q34_30 : decode (mB 34) 30 = .ok (.aload_n 0, 1) := by decide +kernel
theorem q34_31 : gfB 34 31 19 2 1 = true := by decide +kernel
theorem q34_34 : decode (mB 34) 34 = .ok (.iload_n 1, 1) := by decide +kernel
theorem q34_35 : cfB 34 35 70 15 0 4 1 = true := by decide +kernel
theorem q34_38 : decode (mB 34) 38 = .ok (.iconst (-1), 1) := by decide +kernel
theorem q34_39 : decode (mB 34) 39 = .ok (.ixor, 1) := by decide +kernel
theorem q34_40 : decode (mB 34) 40 = .ok (.iand, 1) := by decide +kernel
theorem q34_41 : decode (mB 34) 41 = .ok (.ifCond .ne 7, 3) := by decide +kernel
theorem q34_44 : decode (mB 34) 44 = .ok (.iconst 1, 1) := by decide +kernel
theorem q34_45 : decode (mB 34) 45 = .ok (.goto 4, 3) := by decide +kernel
theorem q34_48 : decode (mB 34) 48 = .ok (.iconst 0, 1) := by decide +kernel
theorem q34_49 : decode (mB 34) 49 = .ok (.ireturn, 1) := by decide +kernel
theorem q35_0 : decode (mB 35) 0 = .ok (.aload_n 0, 1) := by decide +kernel
theorem q35_1 : (decide (35 < 235) && decide (decode (mB 35) 1 = .ok (.invokespecial 3, 3)) && (lks (mD 35)).contains (3, 2, 0, 0) && decide (1 ≤ mV 35)) = true := by decide +kernel
theorem q35_4 : decode (mB 35) 4 = .ok (.aload_n 0, 1) := by decide +kernel
theorem q35_5 : decode (mB 35) 5 = .ok (.iconst 4, 1) := by decide +kernel
theorem q35_6 : naB 35 6 0 = true := by decide +kernel
theorem q35_8 : pfB 35 8 11 3 0 = true := by decide +kernel
theorem q35_11 : decode (mB 35) 11 = .ok (.aload_n 0, 1) := by decide +kernel
theorem q35_12 : decode (mB 35) 12 = .ok (.iconst (-1), 1) := by decide +kernel
theorem q35_13 : pfB 35 13 15 3 2 = true := by decide +kernel
theorem q35_16 : decode (mB 35) 16 = .ok (.return_, 1) := by decide +kernel
theorem q36_0 : decode (mB 36) 0 = .ok (.aload_n 0, 1) := by decide +kernel
theorem q36_1 : gfB 36 1 15 3 2 = true := by decide +kernel
theorem q36_4 : decode (mB 36) 4 = .ok (.iconst (-1), 1) := by decide +kernel
theorem q36_5 : decode (mB 36) 5 = .ok (.if_icmp .eq 7, 3) := by decide +kernel
theorem q36_8 : decode (mB 36) 8 = .ok (.iconst 1, 1) := by decide +kernel
theorem q36_9 : decode (mB 36) 9 = .ok (.goto 4, 3) := by decide +kernel
theorem q36_12 : decode (mB 36) 12 = .ok (.iconst 0, 1) := by decide +kernel
theorem q36_13 : decode (mB 36) 13 = .ok (.ireturn, 1) := by decide +kernel
theorem q37_0 : decode (mB 37) 0 = .ok (.aload_n 0, 1) := by decide +kernel
theorem q37_1 : gfB 37 1 15 3 2 = true := by decide +kernel
theorem q37_4 : decode (mB 37) 4 = .ok (.ireturn, 1) := by decide +kernel
theorem q38_0 : decode (mB 38) 0 = .ok (.aload_n 0, 1) := by decide +kernel
theorem q38_1 : gfB 38 1 19 3 1 = true := by decide +kernel
theorem q38_4 : decode (mB 38) 4 = .ok (.ireturn, 1) := by decide +kernel
theorem q39_0 : decode (mB 39) 0 = .ok (.aload_n 0, 1) := by decide +kernel
theorem q39_1 : cfB 39 1 22 36 1 4 0 = true := by decide +kernel
theorem q39_4 : decode (mB 39) 4 = .ok (.ifCond .eq 7, 3) := by decide +kernel
theorem q39_7 : decode (mB 39) 7 = .ok (.aload_n 0, 1) := by decide +kernel
theorem q39_8 : cfB 39 8 26 42 1 4 0 = true := by decide +kernel
theorem q39_11 : decode (mB 39) 11 = .ok (.aload_n 0, 1) := by decide +kernel
theorem q39_12 : decode (mB 39) 12 = .ok (.iload_n 1, 1) := by decide +kernel
theorem q39_13 : pfB 39 13 15 3 2 = true := by decide +kernel
theorem q39_16 : decode (mB 39) 16 = .ok (.return_, 1) := by decide +kernel
theorem q40_0 : decode (mB 40) 0 = .ok (.aload_n 0, 1) := by decide +kernel
theorem q40_1 : gfB 40 1 19 3 1 = true := by decide +kernel
theorem q40_4 : decode (mB 40) 4 = .ok (.ifCond .ne 4, 3) := by decide +kernel
theorem q40_7 : decode (mB 40) 7 = .ok (.return_, 1) := by decide +kernel
theorem q40_8 : decode (mB 40) 8 = .ok (.aload_n 0, 1) := by decide +kernel
theorem q40_9 : decode (mB 40) 9 = .ok (.aload_n 0, 1) := by decide +kernel
theorem q40_10 : gfB 40 10 11 3 0 = true := by decide +kernel
theorem q40_13 : decode (mB 40) 13 = .ok (.iconst 0, 1) := by decide +kernel
theorem q40_14 : decode (mB 40) 14 = .ok (.iaload, 1) := by decide +kernel
theorem q40_15 : pfB 40 15 15 3 2 = true := by decide +kernel
theorem q40_18 : decode (mB 40) 18 = .ok (.aload_n 0, 1) := by decide +kernel
theorem q40_19 : decode (mB 40) 19 = .ok (.dup, 1) := by decide +kernel
theorem q40_20 : gfB 40 20 19 3 1 = true := by decide +kernel
theorem q40_23 : decode (mB 40) 23 = .ok (.iconst 1, 1) := by decide +kernel
theorem q40_24 : decode (mB 40) 24 = .ok (.isub, 1) := by decide +kernel
theorem q40_25 : pfB 40 25 19 3 1 = true := by decide +kernel
theorem q40_28 : decode (mB 40) 28 = .ok (.iconst 0, 1) := by decide +kernel
theorem q40_29 : decode (mB 40) 29 = .ok (.istore_n 1, 1) := by decide +kernel
theorem q40_30 : decode (mB 40) 30 = .ok (.iload_n 1, 1) := by decide +kernel
theorem q40_31 : decode (mB 40) 31 = .ok (.aload_n 0, 1) := by decide +kernel
theorem q40_32 : gfB 40 32 19 3 1 = true := by decide +kernel
theorem q40_35 : decode (mB 40) 35 = .ok (.if_icmp .ge 34, 3) := by decide +kernel
theorem q40_38 : decode (mB 40) 38 = .ok (.iload_n 1, 1) := by decide +kernel
theorem q40_39 : decode (mB 40) 39 = .ok (.iconst 1, 1) := by decide +kernel
theorem q40_40 : decode (mB 40) 40 = .ok (.iadd, 1) := by decide +kernel
theorem q40_41 : decode (mB 40) 41 = .ok (.aload_n 0, 1) := by decide +kernel
theorem q40_42 : gfB 40 42 11 3 0 = true := by decide +kernel
theorem q40_45 : decode (mB 40) 45 = .ok (.arraylength, 1) := by decide +kernel
theorem q40_46 : decode (mB 40) 46 = .ok (.if_icmp .ge 23, 3) := by decide +kernel
theorem q40_49 : decode (mB 40) 49 = .ok (.aload_n 0, 1) := by decide +kernel
theorem q40_50 : gfB 40 50 11 3 0 = true := by decide +kernel
theorem q40_53 : decode (mB 40) 53 = .ok (.iload_n 1, 1) := by decide +kernel
theorem q40_54 : decode (mB 40) 54 = .ok (.aload_n 0, 1) := by decide +kernel
theorem q40_55 : gfB 40 55 11 3 0 = true := by decide +kernel
theorem q40_58 : decode (mB 40) 58 = .ok (.iload_n 1, 1) := by decide +kernel
theorem q40_59 : decode (mB 40) 59 = .ok (.iconst 1, 1) := by decide +kernel
theorem q40_60 : decode (mB 40) 60 = .ok (.iadd, 1) := by decide +kernel
theorem q40_61 : decode (mB 40) 61 = .ok (.iaload, 1) := by decide +kernel
theorem q40_62 : decode (mB 40) 62 = .ok (.iastore, 1) := by decide +kernel
theorem q40_63 : decode (mB 40) 63 = .ok (.iinc 1 1, 3) := by decide +kernel
theorem q40_66 : decode (mB 40) 66 = .ok (.goto (-36), 3) := by decide +kernel
theorem q40_69 : decode (mB 40) 69 = .ok (.return_, 1) := by decide +kernel
theorem q41_0 : decode (mB 41) 0 = .ok (.iconst 0, 1) := by decide +kernel
theorem q41_1 : decode (mB 41) 1 = .ok (.istore_n 2, 1) := by decide +kernel
theorem q41_2 : decode (mB 41) 2 = .ok (.iconst 0, 1) := by decide +kernel
theorem q41_3 : decode (mB 41) 3 = .ok (.istore_n 3, 1) := by decide +kernel
theorem q41_4 : decode (mB 41) 4 = .ok (.iload_n 3, 1) := by decide +kernel
theorem q41_5 : decode (mB 41) 5 = .ok (.aload_n 0, 1) := by decide +kernel
theorem q41_6 : gfB 41 6 19 3 1 = true := by decide +kernel
theorem q41_9 : decode (mB 41) 9 = .ok (.if_icmp .ge 46, 3) := by decide +kernel
theorem q41_12 : decode (mB 41) 12 = .ok (.iload_n 3, 1) := by decide +kernel
theorem q41_13 : decode (mB 41) 13 = .ok (.aload_n 0, 1) := by decide +kernel
theorem q41_14 : gfB 41 14 11 3 0 = true := by decide +kernel
theorem q41_17 : decode (mB 41) 17 = .ok (.arraylength, 1) := by decide +kernel
theorem q41_18 : decode (mB 41) 18 = .ok (.if_icmp .ge 37, 3) := by decide +kernel
theorem q41_21 : decode (mB 41) 21 = .ok (.aload_n 1, 1) := by decide +kernel
theorem q41_22 : decode (mB 41) 22 = .ok (.aload_n 0, 1) := by decide +kernel
theorem q41_23 : gfB 41 23 11 3 0 = true := by decide +kernel
theorem q41_26 : decode (mB 41) 26 = .ok (.iload_n 3, 1) := by decide +kernel
theorem q41_27 : decode (mB 41) 27 = .ok (.iaload, 1) := by decide +kernel
theorem q41_28 : cfB 41 28 29 30 1 4 1 = true := by decide +kernel
theorem q41_31 : decode (mB 41) 31 = .ok (.ifCond .eq 18, 3) := by decide +kernel
theorem q41_34 : decode (mB 41) 34 = .ok (.aload_n 0, 1) := by decide +kernel
theorem q41_35 : gfB 41 35 11 3 0 = true := by decide +kernel
theorem q41_38 : decode (mB 41) 38 = .ok (.iload_n 2, 1) := by decide +kernel
theorem q41_39 : decode (mB 41) 39 = .ok (.aload_n 0, 1) := by decide +kernel
theorem q41_40 : gfB 41 40 11 3 0 = true := by decide +kernel
theorem q41_43 : decode (mB 41) 43 = .ok (.iload_n 3, 1) := by decide +kernel
theorem q41_44 : decode (mB 41) 44 = .ok (.iaload, 1) := by decide +kernel
theorem q41_45 : decode (mB 41) 45 = .ok (.iastore, 1) := by decide +kernel
theorem q41_46 : decode (mB 41) 46 = .ok (.iinc 2 1, 3) := by decide +kernel
theorem q41_49 : decode (mB 41) 49 = .ok (.iinc 3 1, 3) := by decide +kernel
theorem q41_52 : decode (mB 41) 52 = .ok (.goto (-48), 3) := by decide +kernel
theorem q41_55 : decode (mB 41) 55 = .ok (.aload_n 0, 1) := by decide +kernel
theorem q41_56 : gfB 41 56 19 3 1 = true := by decide +kernel
theorem q41_59 : decode (mB 41) 59 = .ok (.iload_n 2, 1) := by decide +kernel
theorem q41_60 : decode (mB 41) 60 = .ok (.isub, 1) := by decide +kernel
theorem q41_61 : decode (mB 41) 61 = .ok (.istore_n 3, 1) := by decide +kernel
theorem q41_62 : decode (mB 41) 62 = .ok (.aload_n 0, 1) := by decide +kernel
theorem q41_63 : decode (mB 41) 63 = .ok (.iload_n 2, 1) := by decide +kernel
theorem q41_64 : pfB 41 64 19 3 1 = true := by decide +kernel
theorem q41_67 : decode (mB 41) 67 = .ok (.iload_n 3, 1) := by decide +kernel
theorem q41_68 : decode (mB 41) 68 = .ok (.ireturn, 1) := by decide +kernel
theorem q42_0 : decode (mB 42) 0 = .ok (.aload_n 0, 1) := by decide +kernel
theorem q42_1 : gfB 42 1 19 3 1 = true := by decide +kernel
theorem q42_4 : decode (mB 42) 4 = .ok (.iconst 4, 1) := by decide +kernel
theorem q42_5 : decode (mB 42) 5 = .ok (.if_icmp .ge 13, 3) := by decide +kernel
theorem q42_8 : decode (mB 42) 8 = .ok (.aload_n 0, 1) := by decide +kernel
theorem q42_9 : decode (mB 42) 9 = .ok (.dup, 1) := by decide +kernel
theorem q42_10 : gfB 42 10 19 3 1 = true := by decide +kernel
theorem q42_13 : decode (mB 42) 13 = .ok (.iconst 1, 1) := by decide +kernel
theorem q42_14 : decode (mB 42) 14 = .ok (.iadd, 1) := by decide +kernel
theorem q42_15 : pfB 42 15 19 3 1 = true := by decide +kernel
theorem q42_18 : decode (mB 42) 18 = .ok (.aload_n 0, 1) := by decide +kernel
theorem q42_19 : gfB 42 19 19 3 1 = true := by decide +kernel
theorem q42_22 : decode (mB 42) 22 = .ok (.iconst 1, 1) := by decide +kernel
theorem q42_23 : decode (mB 42) 23 = .ok (.isub, 1) := by decide +kernel
theorem q42_24 : decode (mB 42) 24 = .ok (.istore_n 1, 1) := by decide +kernel
theorem q42_25 : decode (mB 42) 25 = .ok (.iload_n 1, 1) := by decide +kernel
theorem q42_26 : decode (mB 42) 26 = .ok (.ifCond .le 32, 3) := by decide +kernel
theorem q42_29 : decode (mB 42) 29 = .ok (.iload_n 1, 1) := by decide +kernel
theorem q42_30 : decode (mB 42) 30 = .ok (.aload_n 0, 1) := by decide +kernel
theorem q42_31 : gfB 42 31 11 3 0 = true := by decide +kernel
theorem q42_34 : decode (mB 42) 34 = .ok (.arraylength, 1) := by decide +kernel
theorem q42_35 : decode (mB 42) 35 = .ok (.if_icmp .ge 23, 3) := by decide +kernel
theorem q42_38 : decode (mB 42) 38 = .ok (.aload_n 0, 1) := by decide +kernel
theorem q42_39 : gfB 42 39 11 3 0 = true := by decide +kernel
theorem q42_42 : decode (mB 42) 42 = .ok (.iload_n 1, 1) := by decide +kernel
theorem q42_43 : decode (mB 42) 43 = .ok (.aload_n 0, 1) := by decide +kernel
theorem q42_44 : gfB 42 44 11 3 0 = true := by decide +kernel
theorem q42_47 : decode (mB 42) 47 = .ok (.iload_n 1, 1) := by decide +kernel
theorem q42_48 : decode (mB 42) 48 = .ok (.iconst 1, 1) := by decide +kernel
theorem q42_49 : decode (mB 42) 49 = .ok (.isub, 1) := by decide +kernel
theorem q42_50 : decode (mB 42) 50 = .ok (.iaload, 1) := by decide +kernel
theorem q42_51 : decode (mB 42) 51 = .ok (.iastore, 1) := by decide +kernel
theorem q42_52 : decode (mB 42) 52 = .ok (.iinc 1 (-1), 3) := by decide +kernel
theorem q42_55 : decode (mB 42) 55 = .ok (.goto (-30), 3) := by decide +kernel
theorem q42_58 : decode (mB 42) 58 = .ok (.aload_n 0, 1) := by decide +kernel
theorem q42_59 : gfB 42 59 11 3 0 = true := by decide +kernel
theorem q42_62 : decode (mB 42) 62 = .ok (.iconst 0, 1) := by decide +kernel
theorem q42_63 : decode (mB 42) 63 = .ok (.aload_n 0, 1) := by decide +kernel
theorem q42_64 : gfB 42 64 15 3 2 = true := by decide +kernel
theorem q42_67 : decode (mB 42) 67 = .ok (.iastore, 1) := by decide +kernel
theorem q42_68 : decode (mB 42) 68 = .ok (.return_, 1) := by decide +kernel
theorem q43_0 : decode (mB 43) 0 = .ok (.iload_n 0, 1) := by decide +kernel
theorem q43_1 : decode (mB 43) 1 = .ok (.i2l, 1) := by decide +kernel
theorem q43_2 : decode (mB 43) 2 = .ok (.bipush 24, 2) := by decide +kernel
theorem q43_4 : decode (mB 43) 4 = .ok (.lshl, 1) := by decide +kernel
theorem q43_5 : decode (mB 43) 5 = .ok (.iload_n 1, 1) := by decide +kernel
theorem q43_6 : decode (mB 43) 6 = .ok (.i2l, 1) := by decide +kernel
theorem q43_7 : decode (mB 43) 7 = .ok (.lor, 1) := by decide +kernel
theorem q43_8 : decode (mB 43) 8 = .ok (.lreturn, 1) := by decide +kernel
theorem q44_0 : decode (mB 44) 0 = .ok (.lload_n 0, 1) := by decide +kernel
theorem q44_1 : decode (mB 44) 1 = .ok (.bipush 24, 2) := by decide +kernel
theorem q44_3 : decode (mB 44) 3 = .ok (.lshr, 1) := by decide +kernel
theorem q44_4 : decode (mB 44) 4 = .ok (.l2i, 1) := by decide +kernel
theorem q44_5 : decode (mB 44) 5 = .ok (.ireturn, 1) := by decide +kernel
theorem q45_0 : decode (mB 45) 0 = .ok (.lload_n 0, 1) := by decide +kernel
theorem q45_1 : (decide (45 < 235) && decide (decode (mB 45) 1 = .ok (.ldc2_w 9, 3)) && (lks (mD 45)).contains (9, 7, 16777215, 0)) = true := by decide +kernel
theorem q45_4 : decode (mB 45) 4 = .ok (.land, 1) := by decide +kernel
theorem q45_5 : decode (mB 45) 5 = .ok (.l2i, 1) := by decide +kernel
theorem q45_6 : decode (mB 45) 6 = .ok (.ireturn, 1) := by decide +kernel
theorem q46_0 : decode (mB 46) 0 = .ok (.aload_n 0, 1) := by decide +kernel
theorem q46_1 : (decide (46 < 235) && decide (decode (mB 46) 1 = .ok (.invokespecial 3, 3)) && (lks (mD 46)).contains (3, 2, 0, 0) && decide (1 ≤ mV 46)) = true := by decide +kernel
theorem q46_4 : decode (mB 46) 4 = .ok (.aload_n 0, 1) := by decide +kernel
theorem q46_5 : nwB 46 5 9 0 = true := by decide +kernel
theorem q46_8 : decode (mB 46) 8 = .ok (.dup, 1) := by decide +kernel
theorem q46_9 : cfB 46 9 11 0 2 4 0 = true := by decide +kernel
theorem q46_12 : pfB 46 12 12 4 2 = true := by decide +kernel
theorem q46_15 : decode (mB 46) 15 = .ok (.aload_n 0, 1) := by decide +kernel
theorem q46_16 : decode (mB 46) 16 = .ok (.iconst 1, 1) := by decide +kernel
theorem q46_17 : pfB 46 17 18 4 3 = true := by decide +kernel
theorem q46_20 : decode (mB 46) 20 = .ok (.aload_n 0, 1) := by decide +kernel
theorem q46_21 : decode (mB 46) 21 = .ok (.aload_n 1, 1) := by decide +kernel
theorem q46_22 : pfB 46 22 22 4 0 = true := by decide +kernel
theorem q46_25 : decode (mB 46) 25 = .ok (.aload_n 0, 1) := by decide +kernel
theorem q46_26 : decode (mB 46) 26 = .ok (.aload_n 2, 1) := by decide +kernel
theorem q46_27 : pfB 46 27 26 4 1 = true := by decide +kernel
theorem q46_30 : decode (mB 46) 30 = .ok (.return_, 1) := by decide +kernel
theorem q47_0 : decode (mB 47) 0 = .ok (.aload_n 0, 1) := by decide +kernel
theorem q47_1 : decode (mB 47) 1 = .ok (.iconst 1, 1) := by decide +kernel
theorem q47_2 : pfB 47 2 18 4 3 = true := by decide +kernel
theorem q47_5 : decode (mB 47) 5 = .ok (.return_, 1) := by decide +kernel
theorem q48_0 : decode (mB 48) 0 = .ok (.aload_n 0, 1) := by decide +kernel
theorem q48_1 : gfB 48 1 18 4 3 = true := by decide +kernel
theorem q48_4 : decode (mB 48) 4 = .ok (.ifCond .eq 66, 3) := by decide +kernel
theorem q48_7 : decode (mB 48) 7 = .ok (.aload_n 0, 1) := by decide +kernel
theorem q48_8 : gfB 48 8 12 4 2 = true := by decide +kernel
theorem q48_11 : cfB 48 11 30 5 1 4 0 = true := by decide +kernel
theorem q48_14 : gsB 48 14 33 0 8 = true := by decide +kernel
theorem q48_17 : decode (mB 48) 17 = .ok (.astore_n 1, 1) := by decide +kernel
theorem q48_18 : decode (mB 48) 18 = .ok (.aload_n 1, 1) := by decide +kernel
theorem q48_19 : decode (mB 48) 19 = .ok (.arraylength, 1) := by decide +kernel
theorem q48_20 : decode (mB 48) 20 = .ok (.istore_n 2, 1) := by decide +kernel
theorem q48_21 : decode (mB 48) 21 = .ok (.iconst 0, 1) := by decide +kernel
theorem q48_22 : decode (mB 48) 22 = .ok (.istore_n 3, 1) := by decide +kernel
theorem q48_23 : decode (mB 48) 23 = .ok (.iload_n 3, 1) := by decide +kernel
theorem q48_24 : decode (mB 48) 24 = .ok (.iload_n 2, 1) := by decide +kernel
theorem q48_25 : decode (mB 48) 25 = .ok (.if_icmp .ge 40, 3) := by decide +kernel
theorem q48_28 : decode (mB 48) 28 = .ok (.aload_n 1, 1) := by decide +kernel
theorem q48_29 : decode (mB 48) 29 = .ok (.iload_n 3, 1) := by decide +kernel
theorem q48_30 : decode (mB 48) 30 = .ok (.caload, 1) := by decide +kernel
theorem q48_31 : decode (mB 48) 31 = .ok (.istore 4, 2) := by decide +kernel
theorem q48_33 : decode (mB 48) 33 = .ok (.iconst 0, 1) := by decide +kernel
theorem q48_34 : decode (mB 48) 34 = .ok (.istore 5, 2) := by decide +kernel
theorem q48_36 : decode (mB 48) 36 = .ok (.iload 5, 2) := by decide +kernel
theorem q48_38 : decode (mB 48) 38 = .ok (.iconst 2, 1) := by decide +kernel
theorem q48_39 : decode (mB 48) 39 = .ok (.if_icmp .gt 20, 3) := by decide +kernel
theorem q48_42 : decode (mB 48) 42 = .ok (.aload_n 0, 1) := by decide +kernel
theorem q48_43 : decode (mB 48) 43 = .ok (.iload 4, 2) := by decide +kernel
theorem q48_45 : decode (mB 48) 45 = .ok (.iload 5, 2) := by decide +kernel
theorem q48_47 : cfB 48 47 37 8 0 4 2 = true := by decide +kernel
theorem q48_50 : cfB 48 50 43 49 1 4 1 = true := by decide +kernel
theorem q48_53 : decode (mB 48) 53 = .ok (.iinc 5 1, 3) := by decide +kernel
theorem q48_56 : decode (mB 48) 56 = .ok (.goto (-20), 3) := by decide +kernel
theorem q48_59 : decode (mB 48) 59 = .ok (.iinc 3 1, 3) := by decide +kernel
theorem q48_62 : decode (mB 48) 62 = .ok (.goto (-39), 3) := by decide +kernel
theorem q48_65 : decode (mB 48) 65 = .ok (.aload_n 0, 1) := by decide +kernel
theorem q48_66 : decode (mB 48) 66 = .ok (.iconst 0, 1) := by decide +kernel
theorem q48_67 : pfB 48 67 18 4 3 = true := by decide +kernel
theorem q48_70 : decode (mB 48) 70 = .ok (.aload_n 0, 1) := by decide +kernel
theorem q48_71 : gfB 48 71 12 4 2 = true := by decide +kernel
theorem q48_74 : decode (mB 48) 74 = .ok (.areturn, 1) := by decide +kernel
theorem q49_0 : decode (mB 49) 0 = .ok (.iconst (-1), 1) := by decide +kernel
theorem q49_1 : decode (mB 49) 1 = .ok (.istore_n 2, 1) := by decide +kernel
theorem q49_2 : decode (mB 49) 2 = .ok (.iload_n 2, 1) := by decide +kernel
theorem q49_3 : decode (mB 49) 3 = .ok (.bipush 6, 2) := by decide +kernel
theorem q49_5 : decode (mB 49) 5 = .ok (.if_icmp .ge 110, 3) := by decide +kernel
theorem q49_8 : decode (mB 49) 8 = .ok (.iload_n 1, 1) := by decide +kernel
theorem q49_9 : decode (mB 49) 9 = .ok (.iconst 0, 1) := by decide +kernel
theorem q49_10 : decode (mB 49) 10 = .ok (.iload_n 2, 1) := by decide +kernel
theorem q49_11 : cfB 49 11 47 14 0 4 3 = true := by decide +kernel
theorem q49_14 : decode (mB 49) 14 = .ok (.istore_n 3, 1) := by decide +kernel
theorem q49_15 : decode (mB 49) 15 = .ok (.iconst (-1), 1) := by decide +kernel
theorem q49_16 : decode (mB 49) 16 = .ok (.istore 4, 2) := by decide +kernel
theorem q49_18 : decode (mB 49) 18 = .ok (.iload 4, 2) := by decide +kernel
theorem q49_20 : decode (mB 49) 20 = .ok (.bipush 6, 2) := by decide +kernel
theorem q49_22 : decode (mB 49) 22 = .ok (.if_icmp .ge 87, 3) := by decide +kernel
theorem q49_25 : decode (mB 49) 25 = .ok (.iload_n 3, 1) := by decide +kernel
theorem q49_26 : decode (mB 49) 26 = .ok (.iconst 1, 1) := by decide +kernel
theorem q49_27 : decode (mB 49) 27 = .ok (.iload 4, 2) := by decide +kernel
theorem q49_29 : cfB 49 29 47 14 0 4 3 = true := by decide +kernel
theorem q49_32 : decode (mB 49) 32 = .ok (.istore 5, 2) := by decide +kernel
theorem q49_34 : decode (mB 49) 34 = .ok (.iload_n 2, 1) := by decide +kernel
theorem q49_35 : decode (mB 49) 35 = .ok (.iload 4, 2) := by decide +kernel
theorem q49_37 : decode (mB 49) 37 = .ok (.if_icmp .eq 66, 3) := by decide +kernel
theorem q49_40 : decode (mB 49) 40 = .ok (.aload_n 0, 1) := by decide +kernel
theorem q49_41 : decode (mB 49) 41 = .ok (.iload 5, 2) := by decide +kernel
theorem q49_43 : cfB 49 43 51 51 1 4 1 = true := by decide +kernel
theorem q49_46 : decode (mB 49) 46 = .ok (.ifCond .eq 6, 3) := by decide +kernel
theorem q49_49 : decode (mB 49) 49 = .ok (.goto 54, 3) := by decide +kernel
theorem q49_52 : decode (mB 49) 52 = .ok (.iconst (-1), 1) := by decide +kernel
theorem q49_53 : decode (mB 49) 53 = .ok (.istore 6, 2) := by decide +kernel
theorem q49_55 : decode (mB 49) 55 = .ok (.iload 6, 2) := by decide +kernel
theorem q49_57 : decode (mB 49) 57 = .ok (.bipush 6, 2) := by decide +kernel
theorem q49_59 : decode (mB 49) 59 = .ok (.if_icmp .ge 44, 3) := by decide +kernel
theorem q49_62 : decode (mB 49) 62 = .ok (.iload 5, 2) := by decide +kernel
theorem q49_64 : decode (mB 49) 64 = .ok (.iconst 2, 1) := by decide +kernel
theorem q49_65 : decode (mB 49) 65 = .ok (.iload 6, 2) := by decide +kernel
theorem q49_67 : cfB 49 67 47 14 0 4 3 = true := by decide +kernel
theorem q49_70 : decode (mB 49) 70 = .ok (.istore 7, 2) := by decide +kernel
theorem q49_72 : decode (mB 49) 72 = .ok (.iload 5, 2) := by decide +kernel
theorem q49_74 : decode (mB 49) 74 = .ok (.iload 6, 2) := by decide +kernel
theorem q49_76 : cfB 49 76 55 16 0 4 2 = true := by decide +kernel
theorem q49_79 : decode (mB 49) 79 = .ok (.ifCond .ne 18, 3) := by decide +kernel
theorem q49_82 : decode (mB 49) 82 = .ok (.aload_n 0, 1) := by decide +kernel
theorem q49_83 : decode (mB 49) 83 = .ok (.iload 7, 2) := by decide +kernel
theorem q49_85 : cfB 49 85 51 51 1 4 1 = true := by decide +kernel
theorem q49_88 : decode (mB 49) 88 = .ok (.ifCond .ne 9, 3) := by decide +kernel
theorem q49_91 : decode (mB 49) 91 = .ok (.aload_n 0, 1) := by decide +kernel
theorem q49_92 : decode (mB 49) 92 = .ok (.iload 7, 2) := by decide +kernel
theorem q49_94 : cfB 49 94 59 50 1 4 1 = true := by decide +kernel
theorem q49_97 : decode (mB 49) 97 = .ok (.iinc 6 1, 3) := by decide +kernel
theorem q49_100 : decode (mB 49) 100 = .ok (.goto (-45), 3) := by decide +kernel
theorem q49_103 : decode (mB 49) 103 = .ok (.iinc 4 1, 3) := by decide +kernel
theorem q49_106 : decode (mB 49) 106 = .ok (.goto (-88), 3) := by decide +kernel
theorem q49_109 : decode (mB 49) 109 = .ok (.iinc 2 1, 3) := by decide +kernel
theorem q49_112 : decode (mB 49) 112 = .ok (.goto (-110), 3) := by decide +kernel
theorem q49_115 : decode (mB 49) 115 = .ok (.return_, 1) := by decide +kernel
theorem q50_0 : decode (mB 50) 0 = .ok (.iconst (-1), 1) := by decide +kernel
theorem q50_1 : decode (mB 50) 1 = .ok (.istore_n 2, 1) := by decide +kernel
theorem q50_2 : decode (mB 50) 2 = .ok (.iload_n 2, 1) := by decide +kernel
theorem q50_3 : decode (mB 50) 3 = .ok (.bipush 6, 2) := by decide +kernel
theorem q50_5 : decode (mB 50) 5 = .ok (.if_icmp .ge 54, 3) := by decide +kernel
theorem q50_8 : decode (mB 50) 8 = .ok (.iload_n 1, 1) := by decide +kernel
theorem q50_9 : decode (mB 50) 9 = .ok (.iconst 3, 1) := by decide +kernel
theorem q50_10 : decode (mB 50) 10 = .ok (.iload_n 2, 1) := by decide +kernel
theorem q50_11 : cfB 50 11 47 14 0 4 3 = true := by decide +kernel
theorem q50_14 : decode (mB 50) 14 = .ok (.istore_n 3, 1) := by decide +kernel
theorem q50_15 : decode (mB 50) 15 = .ok (.iload_n 1, 1) := by decide +kernel
theorem q50_16 : decode (mB 50) 16 = .ok (.iload_n 2, 1) := by decide +kernel
theorem q50_17 : cfB 50 17 55 16 0 4 2 = true := by decide +kernel
theorem q50_20 : decode (mB 50) 20 = .ok (.ifCond .ne 33, 3) := by decide +kernel
theorem q50_23 : decode (mB 50) 23 = .ok (.aload_n 0, 1) := by decide +kernel
theorem q50_24 : gfB 50 24 22 4 0 = true := by decide +kernel
theorem q50_27 : decode (mB 50) 27 = .ok (.iload_n 3, 1) := by decide +kernel
theorem q50_28 : cfB 50 28 62 31 1 4 1 = true := by decide +kernel
theorem q50_31 : decode (mB 50) 31 = .ok (.ifCond .ne 22, 3) := by decide +kernel
theorem q50_34 : decode (mB 50) 34 = .ok (.aload_n 0, 1) := by decide +kernel
theorem q50_35 : gfB 50 35 12 4 2 = true := by decide +kernel
theorem q50_38 : decode (mB 50) 38 = .ok (.aload_n 0, 1) := by decide +kernel
theorem q50_39 : gfB 50 39 26 4 1 = true := by decide +kernel
theorem q50_42 : decode (mB 50) 42 = .ok (.iload_n 3, 1) := by decide +kernel
theorem q50_43 : cfB 50 43 68 21 1 4 1 = true := by decide +kernel
theorem q50_46 : decode (mB 50) 46 = .ok (.iload_n 3, 1) := by decide +kernel
theorem q50_47 : cfB 50 47 73 43 0 4 2 = true := by decide +kernel
theorem q50_50 : cfB 50 50 79 7 1 4 1 = true := by decide +kernel
theorem q50_53 : decode (mB 50) 53 = .ok (.iinc 2 1, 3) := by decide +kernel
theorem q50_56 : decode (mB 50) 56 = .ok (.goto (-54), 3) := by decide +kernel
theorem q50_59 : decode (mB 50) 59 = .ok (.return_, 1) := by decide +kernel
theorem q51_0 : decode (mB 51) 0 = .ok (.aload_n 0, 1) := by decide +kernel
theorem q51_1 : gfB 51 1 22 4 0 = true := by decide +kernel
theorem q51_4 : decode (mB 51) 4 = .ok (.iload_n 1, 1) := by decide +kernel
theorem q51_5 : cfB 51 5 62 31 1 4 1 = true := by decide +kernel
theorem q51_8 : decode (mB 51) 8 = .ok (.istore_n 2, 1) := by decide +kernel
theorem q51_9 : decode (mB 51) 9 = .ok (.iload_n 2, 1) := by decide +kernel
theorem q51_10 : decode (mB 51) 10 = .ok (.ifCond .eq 11, 3) := by decide +kernel
theorem q51_13 : decode (mB 51) 13 = .ok (.iload_n 2, 1) := by decide +kernel
theorem q51_14 : decode (mB 51) 14 = .ok (.bipush 9, 2) := by decide +kernel
theorem q51_16 : decode (mB 51) 16 = .ok (.if_icmp .eq 5, 3) := by decide +kernel
theorem q51_19 : decode (mB 51) 19 = .ok (.iconst 1, 1) := by decide +kernel
theorem q51_20 : decode (mB 51) 20 = .ok (.ireturn, 1) := by decide +kernel
theorem q51_21 : decode (mB 51) 21 = .ok (.aload_n 0, 1) := by decide +kernel
theorem q51_22 : gfB 51 22 12 4 2 = true := by decide +kernel
theorem q51_25 : decode (mB 51) 25 = .ok (.aload_n 0, 1) := by decide +kernel
theorem q51_26 : gfB 51 26 26 4 1 = true := by decide +kernel
theorem q51_29 : decode (mB 51) 29 = .ok (.iload_n 1, 1) := by decide +kernel
theorem q51_30 : cfB 51 30 68 21 1 4 1 = true := by decide +kernel
theorem q51_33 : decode (mB 51) 33 = .ok (.iload_n 1, 1) := by decide +kernel
theorem q51_34 : cfB 51 34 73 43 0 4 2 = true := by decide +kernel
theorem q51_37 : cfB 51 37 83 6 1 4 1 = true := by decide +kernel
theorem q51_40 : decode (mB 51) 40 = .ok (.ireturn, 1) := by decide +kernel
theorem q52_0 : decode (mB 52) 0 = .ok (.aload_n 0, 1) := by decide +kernel
theorem q52_1 : (decide (52 < 235) && decide (decode (mB 52) 1 = .ok (.invokespecial 3, 3)) && (lks (mD 52)).contains (3, 2, 0, 0) && decide (1 ≤ mV 52)) = true := by decide +kernel
theorem q52_4 : decode (mB 52) 4 = .ok (.aload_n 0, 1) := by decide +kernel
theorem q52_5 : decode (mB 52) 5 = .ok (.sipush 240, 3) := by decide +kernel
theorem q52_8 : naB 52 8 0 = true := by decide +kernel
theorem q52_10 : pfB 52 10 9 5 0 = true := by decide +kernel
theorem q52_13 : decode (mB 52) 13 = .ok (.aload_n 0, 1) := by decide +kernel
theorem q52_14 : decode (mB 52) 14 = .ok (.bipush 6, 2) := by decide +kernel
theorem q52_16 : naB 52 16 0 = true := by decide +kernel
theorem q52_18 : pfB 52 18 15 5 1 = true := by decide +kernel
theorem q52_21 : decode (mB 52) 21 = .ok (.aload_n 0, 1) := by decide +kernel
theorem q52_22 : decode (mB 52) 22 = .ok (.bipush 6, 2) := by decide +kernel
theorem q52_24 : naB 52 24 0 = true := by decide +kernel
theorem q52_26 : pfB 52 26 18 5 2 = true := by decide +kernel
theorem q52_29 : decode (mB 52) 29 = .ok (.aload_n 0, 1) := by decide +kernel
theorem q52_30 : decode (mB 52) 30 = .ok (.bipush 6, 2) := by decide +kernel
theorem q52_32 : naB 52 32 0 = true := by decide +kernel
theorem q52_34 : pfB 52 34 21 5 3 = true := by decide +kernel
theorem q52_37 : decode (mB 52) 37 = .ok (.aload_n 0, 1) := by decide +kernel
theorem q52_38 : decode (mB 52) 38 = .ok (.bipush 6, 2) := by decide +kernel
theorem q52_40 : naB 52 40 0 = true := by decide +kernel
theorem q52_42 : pfB 52 42 24 5 4 = true := by decide +kernel
theorem q52_45 : decode (mB 52) 45 = .ok (.aload_n 0, 1) := by decide +kernel
theorem q52_46 : decode (mB 52) 46 = .ok (.bipush 6, 2) := by decide +kernel
theorem q52_48 : naB 52 48 1 = true := by decide +kernel
theorem q52_50 : pfB 52 50 27 5 5 = true := by decide +kernel
theorem q52_53 : decode (mB 52) 53 = .ok (.aload_n 0, 1) := by decide +kernel
theorem q52_54 : decode (mB 52) 54 = .ok (.bipush 6, 2) := by decide +kernel
theorem q52_56 : naB 52 56 1 = true := by decide +kernel
theorem q52_58 : pfB 52 58 31 5 6 = true := by decide +kernel
theorem q52_61 : decode (mB 52) 61 = .ok (.iconst 0, 1) := by decide +kernel
theorem q52_62 : decode (mB 52) 62 = .ok (.istore_n 1, 1) := by decide +kernel
theorem q52_63 : decode (mB 52) 63 = .ok (.iload_n 1, 1) := by decide +kernel
theorem q52_64 : decode (mB 52) 64 = .ok (.bipush 6, 2) := by decide +kernel
theorem q52_66 : decode (mB 52) 66 = .ok (.if_icmp .ge 23, 3) := by decide +kernel
theorem q52_69 : decode (mB 52) 69 = .ok (.aload_n 0, 1) := by decide +kernel
theorem q52_70 : gfB 52 70 15 5 1 = true := by decide +kernel
theorem q52_73 : decode (mB 52) 73 = .ok (.iload_n 1, 1) := by decide +kernel
theorem q52_74 : decode (mB 52) 74 = .ok (.iconst (-1), 1) := by decide +kernel
theorem q52_75 : decode (mB 52) 75 = .ok (.iastore, 1) := by decide +kernel
theorem q52_76 : decode (mB 52) 76 = .ok (.aload_n 0, 1) := by decide +kernel
theorem q52_77 : gfB 52 77 18 5 2 = true := by decide +kernel
theorem q52_80 : decode (mB 52) 80 = .ok (.iload_n 1, 1) := by decide +kernel
theorem q52_81 : decode (mB 52) 81 = .ok (.iconst 0, 1) := by decide +kernel
theorem q52_82 : decode (mB 52) 82 = .ok (.iastore, 1) := by decide +kernel
theorem q52_83 : decode (mB 52) 83 = .ok (.iinc 1 1, 3) := by decide +kernel
theorem q52_86 : decode (mB 52) 86 = .ok (.goto (-23), 3) := by decide +kernel
theorem q52_89 : decode (mB 52) 89 = .ok (.return_, 1) := by decide +kernel
theorem q53_0 : decode (mB 53) 0 = .ok (.aload_n 0, 1) := by decide +kernel
theorem q53_1 : gfB 53 1 34 5 7 = true := by decide +kernel
theorem q53_4 : decode (mB 53) 4 = .ok (.ireturn, 1) := by decide +kernel
theorem q54_0 : decode (mB 54) 0 = .ok (.iload_n 1, 1) := by decide +kernel
theorem q54_1 : decode (mB 54) 1 = .ok (.ifCond .lt 21, 3) := by decide +kernel
theorem q54_4 : decode (mB 54) 4 = .ok (.iload_n 1, 1) := by decide +kernel
theorem q54_5 : decode (mB 54) 5 = .ok (.aload_n 0, 1) := by decide +kernel
theorem q54_6 : gfB 54 6 34 5 7 = true := by decide +kernel
theorem q54_9 : decode (mB 54) 9 = .ok (.if_icmp .ge 13, 3) := by decide +kernel
theorem q54_12 : decode (mB 54) 12 = .ok (.iload_n 1, 1) := by decide +kernel
theorem q54_13 : decode (mB 54) 13 = .ok (.bipush 40, 2) := by decide +kernel
theorem q54_15 : decode (mB 54) 15 = .ok (.if_icmp .ge 7, 3) := by decide +kernel
theorem q54_18 : decode (mB 54) 18 = .ok (.iconst 1, 1) := by decide +kernel
theorem q54_19 : decode (mB 54) 19 = .ok (.goto 4, 3) := by decide +kernel
theorem q54_22 : decode (mB 54) 22 = .ok (.iconst 0, 1) := by decide +kernel
theorem q54_23 : decode (mB 54) 23 = .ok (.ireturn, 1) := by decide +kernel
theorem q55_0 : decode (mB 55) 0 = .ok (.aload_n 0, 1) := by decide +kernel
theorem q55_1 : decode (mB 55) 1 = .ok (.iload_n 1, 1) := by decide +kernel
theorem q55_2 : cfB 55 2 38 54 1 4 1 = true := by decide +kernel
theorem q55_5 : decode (mB 55) 5 = .ok (.ifCond .eq 24, 3) := by decide +kernel
theorem q55_8 : decode (mB 55) 8 = .ok (.iload_n 2, 1) := by decide +kernel
theorem q55_9 : cfB 55 9 42 121 0 9 1 = true := by decide +kernel
theorem q55_12 : decode (mB 55) 12 = .ok (.ifCond .eq 17, 3) := by decide +kernel
theorem q55_15 : decode (mB 55) 15 = .ok (.aload_n 0, 1) := by decide +kernel
theorem q55_16 : gfB 55 16 9 5 0 = true := by decide +kernel
theorem q55_19 : decode (mB 55) 19 = .ok (.iload_n 2, 1) := by decide +kernel
theorem q55_20 : decode (mB 55) 20 = .ok (.bipush 40, 2) := by decide +kernel
theorem q55_22 : decode (mB 55) 22 = .ok (.imul, 1) := by decide +kernel
theorem q55_23 : decode (mB 55) 23 = .ok (.iload_n 1, 1) := by decide +kernel
theorem q55_24 : decode (mB 55) 24 = .ok (.iadd, 1) := by decide +kernel
theorem q55_25 : decode (mB 55) 25 = .ok (.iaload, 1) := by decide +kernel
theorem q55_26 : decode (mB 55) 26 = .ok (.goto 6, 3) := by decide +kernel
theorem q55_29 : decode (mB 55) 29 = .ok (.sipush (-10000), 3) := by decide +kernel
theorem q55_32 : decode (mB 55) 32 = .ok (.ireturn, 1) := by decide +kernel
theorem q56_0 : decode (mB 56) 0 = .ok (.iload_n 1, 1) := by decide +kernel
theorem q56_1 : decode (mB 56) 1 = .ok (.ifCond .lt 18, 3) := by decide +kernel
theorem q56_4 : decode (mB 56) 4 = .ok (.iload_n 1, 1) := by decide +kernel
theorem q56_5 : decode (mB 56) 5 = .ok (.bipush 6, 2) := by decide +kernel
theorem q56_7 : decode (mB 56) 7 = .ok (.if_icmp .ge 12, 3) := by decide +kernel
theorem q56_10 : decode (mB 56) 10 = .ok (.aload_n 0, 1) := by decide +kernel
theorem q56_11 : gfB 56 11 18 5 2 = true := by decide +kernel
theorem q56_14 : decode (mB 56) 14 = .ok (.iload_n 1, 1) := by decide +kernel
theorem q56_15 : decode (mB 56) 15 = .ok (.iaload, 1) := by decide +kernel
theorem q56_16 : decode (mB 56) 16 = .ok (.goto 4, 3) := by decide +kernel
theorem q56_19 : decode (mB 56) 19 = .ok (.iconst (-1), 1) := by decide +kernel
theorem q56_20 : decode (mB 56) 20 = .ok (.ireturn, 1) := by decide +kernel
theorem q57_0 : decode (mB 57) 0 = .ok (.iload_n 1, 1) := by decide +kernel
theorem q57_1 : cfB 57 1 42 121 0 9 1 = true := by decide +kernel
theorem q57_4 : decode (mB 57) 4 = .ok (.ifCond .eq 12, 3) := by decide +kernel
theorem q57_7 : decode (mB 57) 7 = .ok (.aload_n 0, 1) := by decide +kernel
theorem q57_8 : gfB 57 8 15 5 1 = true := by decide +kernel
theorem q57_11 : decode (mB 57) 11 = .ok (.iload_n 1, 1) := by decide +kernel
theorem q57_12 : decode (mB 57) 12 = .ok (.iaload, 1) := by decide +kernel
theorem q57_13 : decode (mB 57) 13 = .ok (.goto 4, 3) := by decide +kernel
theorem q57_16 : decode (mB 57) 16 = .ok (.iconst (-1), 1) := by decide +kernel
theorem q57_17 : decode (mB 57) 17 = .ok (.ireturn, 1) := by decide +kernel
theorem q58_0 : decode (mB 58) 0 = .ok (.iload_n 1, 1) := by decide +kernel
theorem q58_1 : cfB 58 1 42 121 0 9 1 = true := by decide +kernel
theorem q58_4 : decode (mB 58) 4 = .ok (.ifCond .eq 12, 3) := by decide +kernel
theorem q58_7 : decode (mB 58) 7 = .ok (.aload_n 0, 1) := by decide +kernel
theorem q58_8 : gfB 58 8 21 5 3 = true := by decide +kernel
theorem q58_11 : decode (mB 58) 11 = .ok (.iload_n 1, 1) := by decide +kernel
theorem q58_12 : decode (mB 58) 12 = .ok (.iaload, 1) := by decide +kernel
theorem q58_13 : decode (mB 58) 13 = .ok (.goto 4, 3) := by decide +kernel
theorem q58_16 : decode (mB 58) 16 = .ok (.iconst 0, 1) := by decide +kernel
theorem q58_17 : decode (mB 58) 17 = .ok (.ireturn, 1) := by decide +kernel
theorem q59_0 : decode (mB 59) 0 = .ok (.iload_n 1, 1) := by decide +kernel
theorem q59_1 : cfB 59 1 42 121 0 9 1 = true := by decide +kernel
theorem q59_4 : decode (mB 59) 4 = .ok (.ifCond .eq 12, 3) := by decide +kernel
theorem q59_7 : decode (mB 59) 7 = .ok (.aload_n 0, 1) := by decide +kernel
theorem q59_8 : gfB 59 8 24 5 4 = true := by decide +kernel
theorem q59_11 : decode (mB 59) 11 = .ok (.iload_n 1, 1) := by decide +kernel
theorem q59_12 : decode (mB 59) 12 = .ok (.iaload, 1) := by decide +kernel
theorem q59_13 : decode (mB 59) 13 = .ok (.goto 4, 3) := by decide +kernel
theorem q59_16 : decode (mB 59) 16 = .ok (.iconst 0, 1) := by decide +kernel
theorem q59_17 : decode (mB 59) 17 = .ok (.ireturn, 1) := by decide +kernel
theorem q60_0 : decode (mB 60) 0 = .ok (.iload_n 1, 1) := by decide +kernel
theorem q60_1 : cfB 60 1 42 121 0 9 1 = true := by decide +kernel
theorem q60_4 : decode (mB 60) 4 = .ok (.ifCond .eq 12, 3) := by decide +kernel
theorem q60_7 : decode (mB 60) 7 = .ok (.aload_n 0, 1) := by decide +kernel
theorem q60_8 : gfB 60 8 27 5 5 = true := by decide +kernel
theorem q60_11 : decode (mB 60) 11 = .ok (.iload_n 1, 1) := by decide +kernel
theorem q60_12 : decode (mB 60) 12 = .ok (.laload, 1) := by decide +kernel
theorem q60_13 : decode (mB 60) 13 = .ok (.goto 4, 3) := by decide +kernel
theorem q60_16 : decode (mB 60) 16 = .ok (.lconst 0, 1) := by decide +kernel
theorem q60_17 : decode (mB 60) 17 = .ok (.lreturn, 1) := by decide +kernel
theorem q61_0 : decode (mB 61) 0 = .ok (.iload_n 1, 1) := by decide +kernel
theorem q61_1 : cfB 61 1 42 121 0 9 1 = true := by decide +kernel
theorem q61_4 : decode (mB 61) 4 = .ok (.ifCond .eq 12, 3) := by decide +kernel
theorem q61_7 : decode (mB 61) 7 = .ok (.aload_n 0, 1) := by decide +kernel
theorem q61_8 : gfB 61 8 31 5 6 = true := by decide +kernel
theorem q61_11 : decode (mB 61) 11 = .ok (.iload_n 1, 1) := by decide +kernel
theorem q61_12 : decode (mB 61) 12 = .ok (.laload, 1) := by decide +kernel
theorem q61_13 : decode (mB 61) 13 = .ok (.goto 4, 3) := by decide +kernel
theorem q61_16 : decode (mB 61) 16 = .ok (.lconst 0, 1) := by decide +kernel
theorem q61_17 : decode (mB 61) 17 = .ok (.lreturn, 1) := by decide +kernel
theorem q62_0 : decode (mB 62) 0 = .ok (.iload_n 0, 1) := by decide +kernel
theorem q62_1 : decode (mB 62) 1 = .ok (.ifCond .eq 8, 3) := by decide +kernel
theorem q62_4 : decode (mB 62) 4 = .ok (.iload_n 0, 1) := by decide +kernel
theorem q62_5 : decode (mB 62) 5 = .ok (.iconst 1, 1) := by decide +kernel
theorem q62_6 : decode (mB 62) 6 = .ok (.if_icmp .ne 7, 3) := by decide +kernel
theorem q62_9 : decode (mB 62) 9 = .ok (.iconst 1, 1) := by decide +kernel
theorem q62_10 : decode (mB 62) 10 = .ok (.goto 4, 3) := by decide +kernel
theorem q62_13 : decode (mB 62) 13 = .ok (.iconst 0, 1) := by decide +kernel
theorem q62_14 : decode (mB 62) 14 = .ok (.ireturn, 1) := by decide +kernel
theorem q63_0 : decode (mB 63) 0 = .ok (.iconst 0, 1) := by decide +kernel
theorem q63_1 : decode (mB 63) 1 = .ok (.istore_n 1, 1) := by decide +kernel
theorem q63_2 : decode (mB 63) 2 = .ok (.iconst 0, 1) := by decide +kernel
theorem q63_3 : decode (mB 63) 3 = .ok (.istore_n 2, 1) := by decide +kernel
theorem q63_4 : decode (mB 63) 4 = .ok (.iload_n 2, 1) := by decide +kernel
theorem q63_5 : decode (mB 63) 5 = .ok (.bipush 6, 2) := by decide +kernel
theorem q63_7 : decode (mB 63) 7 = .ok (.if_icmp .ge 24, 3) := by decide +kernel
theorem q63_10 : decode (mB 63) 10 = .ok (.aload_n 0, 1) := by decide +kernel
theorem q63_11 : gfB 63 11 18 5 2 = true := by decide +kernel
theorem q63_14 : decode (mB 63) 14 = .ok (.iload_n 2, 1) := by decide +kernel
theorem q63_15 : decode (mB 63) 15 = .ok (.iaload, 1) := by decide +kernel
theorem q63_16 : cfB 63 16 45 62 0 4 1 = true := by decide +kernel
theorem q63_19 : decode (mB 63) 19 = .ok (.ifCond .ne 6, 3) := by decide +kernel
theorem q63_22 : decode (mB 63) 22 = .ok (.iinc 1 1, 3) := by decide +kernel
theorem q63_25 : decode (mB 63) 25 = .ok (.iinc 2 1, 3) := by decide +kernel
theorem q63_28 : decode (mB 63) 28 = .ok (.goto (-24), 3) := by decide +kernel
theorem q63_31 : decode (mB 63) 31 = .ok (.iload_n 1, 1) := by decide +kernel
theorem q63_32 : decode (mB 63) 32 = .ok (.ireturn, 1) := by decide +kernel
theorem q64_0 : decode (mB 64) 0 = .ok (.aload_n 0, 1) := by decide +kernel
theorem q64_1 : gfB 64 1 34 5 7 = true := by decide +kernel
theorem q64_4 : decode (mB 64) 4 = .ok (.bipush 40, 2) := by decide +kernel
theorem q64_6 : decode (mB 64) 6 = .ok (.if_icmp .lt 4, 3) := by decide +kernel
theorem q64_9 : decode (mB 64) 9 = .ok (.return_, 1) := by decide +kernel
theorem q64_10 : decode (mB 64) 10 = .ok (.aload_n 0, 1) := by decide +kernel
theorem q64_11 : gfB 64 11 34 5 7 = true := by decide +kernel
theorem q64_14 : decode (mB 64) 14 = .ok (.istore 7, 2) := by decide +kernel
theorem q64_16 : decode (mB 64) 16 = .ok (.aload_n 0, 1) := by decide +kernel
theorem q64_17 : decode (mB 64) 17 = .ok (.dup, 1) := by decide +kernel
theorem q64_18 : gfB 64 18 34 5 7 = true := by decide +kernel
theorem q64_21 : decode (mB 64) 21 = .ok (.iconst 1, 1) := by decide +kernel
theorem q64_22 : decode (mB 64) 22 = .ok (.iadd, 1) := by decide +kernel
theorem q64_23 : pfB 64 23 34 5 7 = true := by decide +kernel
theorem q64_26 : decode (mB 64) 26 = .ok (.aload_n 0, 1) := by decide +kernel
theorem q64_27 : decode (mB 64) 27 = .ok (.iload 7, 2) := by decide +kernel
theorem q64_29 : decode (mB 64) 29 = .ok (.iconst 0, 1) := by decide +kernel
theorem q64_30 : decode (mB 64) 30 = .ok (.iload_n 1, 1) := by decide +kernel
theorem q64_31 : cfB 64 31 48 68 1 4 3 = true := by decide +kernel
theorem q64_34 : decode (mB 64) 34 = .ok (.aload_n 0, 1) := by decide +kernel
theorem q64_35 : decode (mB 64) 35 = .ok (.iload 7, 2) := by decide +kernel
theorem q64_37 : decode (mB 64) 37 = .ok (.iconst 1, 1) := by decide +kernel
theorem q64_38 : decode (mB 64) 38 = .ok (.iload_n 2, 1) := by decide +kernel
theorem q64_39 : cfB 64 39 48 68 1 4 3 = true := by decide +kernel
theorem q64_42 : decode (mB 64) 42 = .ok (.aload_n 0, 1) := by decide +kernel
theorem q64_43 : decode (mB 64) 43 = .ok (.iload 7, 2) := by decide +kernel
theorem q64_45 : decode (mB 64) 45 = .ok (.iconst 2, 1) := by decide +kernel
theorem q64_46 : decode (mB 64) 46 = .ok (.iload_n 3, 1) := by decide +kernel
theorem q64_47 : cfB 64 47 48 68 1 4 3 = true := by decide +kernel
theorem q64_50 : decode (mB 64) 50 = .ok (.aload_n 0, 1) := by decide +kernel
theorem q64_51 : decode (mB 64) 51 = .ok (.iload 7, 2) := by decide +kernel
theorem q64_53 : decode (mB 64) 53 = .ok (.iconst 3, 1) := by decide +kernel
theorem q64_54 : decode (mB 64) 54 = .ok (.iload 4, 2) := by decide +kernel
theorem q64_56 : cfB 64 56 48 68 1 4 3 = true := by decide +kernel
theorem q64_59 : decode (mB 64) 59 = .ok (.aload_n 0, 1) := by decide +kernel
theorem q64_60 : decode (mB 64) 60 = .ok (.iload 7, 2) := by decide +kernel
theorem q64_62 : decode (mB 64) 62 = .ok (.iconst 4, 1) := by decide +kernel
theorem q64_63 : decode (mB 64) 63 = .ok (.iload 5, 2) := by decide +kernel
theorem q64_65 : cfB 64 65 48 68 1 4 3 = true := by decide +kernel
theorem q64_68 : decode (mB 64) 68 = .ok (.aload_n 0, 1) := by decide +kernel
theorem q64_69 : decode (mB 64) 69 = .ok (.iload 7, 2) := by decide +kernel
theorem q64_71 : decode (mB 64) 71 = .ok (.iconst 5, 1) := by decide +kernel
theorem q64_72 : decode (mB 64) 72 = .ok (.iload 6, 2) := by decide +kernel
theorem q64_74 : cfB 64 74 48 68 1 4 3 = true := by decide +kernel
theorem q64_77 : decode (mB 64) 77 = .ok (.aload_n 0, 1) := by decide +kernel
theorem q64_78 : cfB 64 78 52 69 1 4 0 = true := by decide +kernel
theorem q64_81 : decode (mB 64) 81 = .ok (.return_, 1) := by decide +kernel
theorem q65_0 : decode (mB 65) 0 = .ok (.aload_n 0, 1) := by decide +kernel
theorem q65_1 : decode (mB 65) 1 = .ok (.iload_n 1, 1) := by decide +kernel
theorem q65_2 : cfB 65 2 38 54 1 4 1 = true := by decide +kernel
theorem q65_5 : decode (mB 65) 5 = .ok (.ifCond .ne 4, 3) := by decide +kernel
theorem q65_8 : decode (mB 65) 8 = .ok (.return_, 1) := by decide +kernel
theorem q65_9 : decode (mB 65) 9 = .ok (.iconst 0, 1) := by decide +kernel
theorem q65_10 : decode (mB 65) 10 = .ok (.istore_n 2, 1) := by decide +kernel
theorem q65_11 : decode (mB 65) 11 = .ok (.iload_n 2, 1) := by decide +kernel
theorem q65_12 : decode (mB 65) 12 = .ok (.bipush 6, 2) := by decide +kernel
theorem q65_14 : decode (mB 65) 14 = .ok (.if_icmp .ge 41, 3) := by decide +kernel
theorem q65_17 : decode (mB 65) 17 = .ok (.iload_n 1, 1) := by decide +kernel
theorem q65_18 : decode (mB 65) 18 = .ok (.istore_n 3, 1) := by decide +kernel
theorem q65_19 : decode (mB 65) 19 = .ok (.iload_n 3, 1) := by decide +kernel
theorem q65_20 : decode (mB 65) 20 = .ok (.aload_n 0, 1) := by decide +kernel
theorem q65_21 : gfB 65 21 34 5 7 = true := by decide +kernel
theorem q65_24 : decode (mB 65) 24 = .ok (.iconst 1, 1) := by decide +kernel
theorem q65_25 : decode (mB 65) 25 = .ok (.isub, 1) := by decide +kernel
theorem q65_26 : decode (mB 65) 26 = .ok (.if_icmp .ge 23, 3) := by decide +kernel
theorem q65_29 : decode (mB 65) 29 = .ok (.aload_n 0, 1) := by decide +kernel
theorem q65_30 : decode (mB 65) 30 = .ok (.iload_n 3, 1) := by decide +kernel
theorem q65_31 : decode (mB 65) 31 = .ok (.iload_n 2, 1) := by decide +kernel
theorem q65_32 : decode (mB 65) 32 = .ok (.aload_n 0, 1) := by decide +kernel
theorem q65_33 : decode (mB 65) 33 = .ok (.iload_n 3, 1) := by decide +kernel
theorem q65_34 : decode (mB 65) 34 = .ok (.iconst 1, 1) := by decide +kernel
theorem q65_35 : decode (mB 65) 35 = .ok (.iadd, 1) := by decide +kernel
theorem q65_36 : decode (mB 65) 36 = .ok (.iload_n 2, 1) := by decide +kernel
theorem q65_37 : cfB 65 37 55 55 1 4 2 = true := by decide +kernel
theorem q65_40 : cfB 65 40 48 68 1 4 3 = true := by decide +kernel
theorem q65_43 : decode (mB 65) 43 = .ok (.iinc 3 1, 3) := by decide +kernel
theorem q65_46 : decode (mB 65) 46 = .ok (.goto (-27), 3) := by decide +kernel
theorem q65_49 : decode (mB 65) 49 = .ok (.iinc 2 1, 3) := by decide +kernel
theorem q65_52 : decode (mB 65) 52 = .ok (.goto (-41), 3) := by decide +kernel
theorem q65_55 : decode (mB 65) 55 = .ok (.aload_n 0, 1) := by decide +kernel
theorem q65_56 : decode (mB 65) 56 = .ok (.dup, 1) := by decide +kernel
theorem q65_57 : gfB 65 57 34 5 7 = true := by decide +kernel
theorem q65_60 : decode (mB 65) 60 = .ok (.iconst 1, 1) := by decide +kernel
theorem q65_61 : decode (mB 65) 61 = .ok (.isub, 1) := by decide +kernel
theorem q65_62 : pfB 65 62 34 5 7 = true := by decide +kernel
theorem q65_65 : decode (mB 65) 65 = .ok (.aload_n 0, 1) := by decide +kernel
theorem q65_66 : cfB 65 66 52 69 1 4 0 = true := by decide +kernel
theorem q65_69 : decode (mB 65) 69 = .ok (.return_, 1) := by decide +kernel
theorem q66_0 : decode (mB 66) 0 = .ok (.aload_n 0, 1) := by decide +kernel
theorem q66_1 : decode (mB 66) 1 = .ok (.iload_n 1, 1) := by decide +kernel
theorem q66_2 : decode (mB 66) 2 = .ok (.iload_n 2, 1) := by decide +kernel
theorem q66_3 : decode (mB 66) 3 = .ok (.iload_n 3, 1) := by decide +kernel
theorem q66_4 : cfB 66 4 48 68 1 4 3 = true := by decide +kernel
theorem q66_7 : decode (mB 66) 7 = .ok (.aload_n 0, 1) := by decide +kernel
theorem q66_8 : decode (mB 66) 8 = .ok (.iload_n 2, 1) := by decide +kernel
theorem q66_9 : cfB 66 9 59 70 1 4 1 = true := by decide +kernel
theorem q66_12 : decode (mB 66) 12 = .ok (.return_, 1) := by decide +kernel
theorem q67_0 : decode (mB 67) 0 = .ok (.iload_n 1, 1) := by decide +kernel
theorem q67_1 : cfB 67 1 42 121 0 9 1 = true := by decide +kernel
theorem q67_4 : decode (mB 67) 4 = .ok (.ifCond .eq 15, 3) := by decide +kernel
theorem q67_7 : decode (mB 67) 7 = .ok (.aload_n 0, 1) := by decide +kernel
theorem q67_8 : gfB 67 8 15 5 1 = true := by decide +kernel
theorem q67_11 : decode (mB 67) 11 = .ok (.iload_n 1, 1) := by decide +kernel
theorem q67_12 : decode (mB 67) 12 = .ok (.iload_n 2, 1) := by decide +kernel
theorem q67_13 : decode (mB 67) 13 = .ok (.iastore, 1) := by decide +kernel
theorem q67_14 : decode (mB 67) 14 = .ok (.aload_n 0, 1) := by decide +kernel
theorem q67_15 : decode (mB 67) 15 = .ok (.iload_n 1, 1) := by decide +kernel
theorem q67_16 : cfB 67 16 59 70 1 4 1 = true := by decide +kernel
theorem q67_19 : decode (mB 67) 19 = .ok (.return_, 1) := by decide +kernel
theorem q68_0 : decode (mB 68) 0 = .ok (.aload_n 0, 1) := by decide +kernel
theorem q68_1 : decode (mB 68) 1 = .ok (.iload_n 1, 1) := by decide +kernel
theorem q68_2 : cfB 68 2 38 54 1 4 1 = true := by decide +kernel
theorem q68_5 : decode (mB 68) 5 = .ok (.ifCond .eq 22, 3) := by decide +kernel
theorem q68_8 : decode (mB 68) 8 = .ok (.iload_n 2, 1) := by decide +kernel
theorem q68_9 : cfB 68 9 42 121 0 9 1 = true := by decide +kernel
theorem q68_12 : decode (mB 68) 12 = .ok (.ifCond .eq 15, 3) := by decide +kernel
theorem q68_15 : decode (mB 68) 15 = .ok (.aload_n 0, 1) := by decide +kernel
theorem q68_16 : gfB 68 16 9 5 0 = true := by decide +kernel
theorem q68_19 : decode (mB 68) 19 = .ok (.iload_n 2, 1) := by decide +kernel
theorem q68_20 : decode (mB 68) 20 = .ok (.bipush 40, 2) := by decide +kernel
theorem q68_22 : decode (mB 68) 22 = .ok (.imul, 1) := by decide +kernel
theorem q68_23 : decode (mB 68) 23 = .ok (.iload_n 1, 1) := by decide +kernel
theorem q68_24 : decode (mB 68) 24 = .ok (.iadd, 1) := by decide +kernel
theorem q68_25 : decode (mB 68) 25 = .ok (.iload_n 3, 1) := by decide +kernel
theorem q68_26 : decode (mB 68) 26 = .ok (.iastore, 1) := by decide +kernel
theorem q68_27 : decode (mB 68) 27 = .ok (.return_, 1) := by decide +kernel
theorem q69_0 : decode (mB 69) 0 = .ok (.iconst 0, 1) := by decide +kernel
theorem q69_1 : decode (mB 69) 1 = .ok (.istore_n 1, 1) := by decide +kernel
theorem q69_2 : decode (mB 69) 2 = .ok (.iload_n 1, 1) := by decide +kernel
theorem q69_3 : decode (mB 69) 3 = .ok (.bipush 6, 2) := by decide +kernel
theorem q69_5 : decode (mB 69) 5 = .ok (.if_icmp .ge 14, 3) := by decide +kernel
theorem q69_8 : decode (mB 69) 8 = .ok (.aload_n 0, 1) := by decide +kernel
theorem q69_9 : decode (mB 69) 9 = .ok (.iload_n 1, 1) := by decide +kernel
theorem q69_10 : cfB 69 10 59 70 1 4 1 = true := by decide +kernel
theorem q69_13 : decode (mB 69) 13 = .ok (.iinc 1 1, 3) := by decide +kernel
theorem q69_16 : decode (mB 69) 16 = .ok (.goto (-14), 3) := by decide +kernel
theorem q69_19 : decode (mB 69) 19 = .ok (.return_, 1) := by decide +kernel
theorem q70_0 : decode (mB 70) 0 = .ok (.iload_n 1, 1) := by decide +kernel
theorem q70_1 : cfB 70 1 42 121 0 9 1 = true := by decide +kernel
theorem q70_4 : decode (mB 70) 4 = .ok (.ifCond .ne 4, 3) := by decide +kernel
theorem q70_7 : decode (mB 70) 7 = .ok (.return_, 1) := by decide +kernel
theorem q70_8 : decode (mB 70) 8 = .ok (.iconst 0, 1) := by decide +kernel
theorem q70_9 : decode (mB 70) 9 = .ok (.istore_n 2, 1) := by decide +kernel
theorem q70_10 : decode (mB 70) 10 = .ok (.iconst 0, 1) := by decide +kernel
theorem q70_11 : decode (mB 70) 11 = .ok (.istore_n 3, 1) := by decide +kernel
theorem q70_12 : decode (mB 70) 12 = .ok (.lconst 0, 1) := by decide +kernel
theorem q70_13 : decode (mB 70) 13 = .ok (.lstore 4, 2) := by decide +kernel
theorem q70_15 : decode (mB 70) 15 = .ok (.lconst 0, 1) := by decide +kernel
theorem q70_16 : decode (mB 70) 16 = .ok (.lstore 6, 2) := by decide +kernel
theorem q70_18 : decode (mB 70) 18 = .ok (.iconst 1, 1) := by decide +kernel
theorem q70_19 : decode (mB 70) 19 = .ok (.istore 8, 2) := by decide +kernel
theorem q70_21 : decode (mB 70) 21 = .ok (.sipush (-10000), 3) := by decide +kernel
theorem q70_24 : decode (mB 70) 24 = .ok (.istore 9, 2) := by decide +kernel
theorem q70_26 : decode (mB 70) 26 = .ok (.iconst 0, 1) := by decide +kernel
theorem q70_27 : decode (mB 70) 27 = .ok (.istore 10, 2) := by decide +kernel
theorem q70_29 : decode (mB 70) 29 = .ok (.iload 10, 2) := by decide +kernel
theorem q70_31 : decode (mB 70) 31 = .ok (.aload_n 0, 1) := by decide +kernel
theorem q70_32 : gfB 70 32 34 5 7 = true := by decide +kernel
theorem q70_35 : decode (mB 70) 35 = .ok (.if_icmp .ge 90, 3) := by decide +kernel
theorem q70_38 : decode (mB 70) 38 = .ok (.aload_n 0, 1) := by decide +kernel
theorem q70_39 : decode (mB 70) 39 = .ok (.iload 10, 2) := by decide +kernel
theorem q70_41 : decode (mB 70) 41 = .ok (.iload_n 1, 1) := by decide +kernel
theorem q70_42 : cfB 70 42 55 55 1 4 2 = true := by decide +kernel
theorem q70_45 : decode (mB 70) 45 = .ok (.istore 11, 2) := by decide +kernel
theorem q70_47 : decode (mB 70) 47 = .ok (.iload 11, 2) := by decide +kernel
theorem q70_49 : decode (mB 70) 49 = .ok (.sipush (-10000), 3) := by decide +kernel
theorem q70_52 : decode (mB 70) 52 = .ok (.if_icmp .ne 15, 3) := by decide +kernel
theorem q70_55 : decode (mB 70) 55 = .ok (.lload 6, 2) := by decide +kernel
theorem q70_57 : decode (mB 70) 57 = .ok (.lconst 1, 1) := by decide +kernel
theorem q70_58 : decode (mB 70) 58 = .ok (.iload 10, 2) := by decide +kernel
theorem q70_60 : decode (mB 70) 60 = .ok (.lshl, 1) := by decide +kernel
theorem q70_61 : decode (mB 70) 61 = .ok (.lor, 1) := by decide +kernel
theorem q70_62 : decode (mB 70) 62 = .ok (.lstore 6, 2) := by decide +kernel
theorem q70_64 : decode (mB 70) 64 = .ok (.goto 55, 3) := by decide +kernel
theorem q70_67 : decode (mB 70) 67 = .ok (.iinc 2 1, 3) := by decide +kernel
theorem q70_70 : decode (mB 70) 70 = .ok (.lload 4, 2) := by decide +kernel
theorem q70_72 : decode (mB 70) 72 = .ok (.iload 11, 2) := by decide +kernel
theorem q70_74 : decode (mB 70) 74 = .ok (.i2l, 1) := by decide +kernel
theorem q70_75 : decode (mB 70) 75 = .ok (.ladd, 1) := by decide +kernel
theorem q70_76 : decode (mB 70) 76 = .ok (.lstore 4, 2) := by decide +kernel
theorem q70_78 : decode (mB 70) 78 = .ok (.iload_n 3, 1) := by decide +kernel
theorem q70_79 : decode (mB 70) 79 = .ok (.aload_n 0, 1) := by decide +kernel
theorem q70_80 : decode (mB 70) 80 = .ok (.iload 10, 2) := by decide +kernel
theorem q70_82 : decode (mB 70) 82 = .ok (.iload_n 1, 1) := by decide +kernel
theorem q70_83 : cfB 70 83 63 71 1 4 2 = true := by decide +kernel
theorem q70_86 : decode (mB 70) 86 = .ok (.ifCond .eq 7, 3) := by decide +kernel
theorem q70_89 : decode (mB 70) 89 = .ok (.iconst 1, 1) := by decide +kernel
theorem q70_90 : decode (mB 70) 90 = .ok (.goto 4, 3) := by decide +kernel
theorem q70_93 : decode (mB 70) 93 = .ok (.iconst 0, 1) := by decide +kernel
theorem q70_94 : decode (mB 70) 94 = .ok (.iadd, 1) := by decide +kernel
theorem q70_95 : decode (mB 70) 95 = .ok (.istore_n 3, 1) := by decide +kernel
theorem q70_96 : decode (mB 70) 96 = .ok (.iload 8, 2) := by decide +kernel
theorem q70_98 : decode (mB 70) 98 = .ok (.ifCond .eq 14, 3) := by decide +kernel
theorem q70_101 : decode (mB 70) 101 = .ok (.iload 11, 2) := by decide +kernel
theorem q70_103 : decode (mB 70) 103 = .ok (.iload 9, 2) := by decide +kernel
theorem q70_105 : decode (mB 70) 105 = .ok (.if_icmp .le 7, 3) := by decide +kernel
theorem q70_108 : decode (mB 70) 108 = .ok (.iconst 1, 1) := by decide +kernel
theorem q70_109 : decode (mB 70) 109 = .ok (.goto 4, 3) := by decide +kernel
theorem q70_112 : decode (mB 70) 112 = .ok (.iconst 0, 1) := by decide +kernel
theorem q70_113 : decode (mB 70) 113 = .ok (.istore 8, 2) := by decide +kernel
theorem q70_115 : decode (mB 70) 115 = .ok (.iload 11, 2) := by decide +kernel
theorem q70_117 : decode (mB 70) 117 = .ok (.istore 9, 2) := by decide +kernel
theorem q70_119 : decode (mB 70) 119 = .ok (.iinc 10 1, 3) := by decide +kernel
theorem q70_122 : decode (mB 70) 122 = .ok (.goto (-93), 3) := by decide +kernel
theorem q70_125 : decode (mB 70) 125 = .ok (.aload_n 0, 1) := by decide +kernel
theorem q70_126 : gfB 70 126 21 5 3 = true := by decide +kernel
theorem q70_129 : decode (mB 70) 129 = .ok (.iload_n 1, 1) := by decide +kernel
theorem q70_130 : decode (mB 70) 130 = .ok (.iload_n 2, 1) := by decide +kernel
theorem q70_131 : decode (mB 70) 131 = .ok (.iastore, 1) := by decide +kernel
theorem q70_132 : decode (mB 70) 132 = .ok (.aload_n 0, 1) := by decide +kernel
theorem q70_133 : gfB 70 133 24 5 4 = true := by decide +kernel
theorem q70_136 : decode (mB 70) 136 = .ok (.iload_n 1, 1) := by decide +kernel
theorem q70_137 : decode (mB 70) 137 = .ok (.iload_n 3, 1) := by decide +kernel
theorem q70_138 : decode (mB 70) 138 = .ok (.iastore, 1) := by decide +kernel
theorem q70_139 : decode (mB 70) 139 = .ok (.aload_n 0, 1) := by decide +kernel
theorem q70_140 : gfB 70 140 27 5 5 = true := by decide +kernel
theorem q70_143 : decode (mB 70) 143 = .ok (.iload_n 1, 1) := by decide +kernel
theorem q70_144 : decode (mB 70) 144 = .ok (.lload 4, 2) := by decide +kernel
theorem q70_146 : decode (mB 70) 146 = .ok (.lastore, 1) := by decide +kernel
theorem q70_147 : decode (mB 70) 147 = .ok (.aload_n 0, 1) := by decide +kernel
theorem q70_148 : gfB 70 148 31 5 6 = true := by decide +kernel
theorem q70_151 : decode (mB 70) 151 = .ok (.iload_n 1, 1) := by decide +kernel
theorem q70_152 : decode (mB 70) 152 = .ok (.lload 6, 2) := by decide +kernel
theorem q70_154 : decode (mB 70) 154 = .ok (.lastore, 1) := by decide +kernel
theorem q70_155 : decode (mB 70) 155 = .ok (.aload_n 0, 1) := by decide +kernel
theorem q70_156 : gfB 70 156 18 5 2 = true := by decide +kernel
theorem q70_159 : decode (mB 70) 159 = .ok (.iload_n 1, 1) := by decide +kernel
theorem q70_160 : decode (mB 70) 160 = .ok (.iload_n 2, 1) := by decide +kernel
theorem q70_161 : decode (mB 70) 161 = .ok (.iload_n 3, 1) := by decide +kernel
theorem q70_162 : decode (mB 70) 162 = .ok (.aload_n 0, 1) := by decide +kernel
theorem q70_163 : gfB 70 163 15 5 1 = true := by decide +kernel
theorem q70_166 : decode (mB 70) 166 = .ok (.iload_n 1, 1) := by decide +kernel
theorem q70_167 : decode (mB 70) 167 = .ok (.iaload, 1) := by decide +kernel
theorem q70_168 : decode (mB 70) 168 = .ok (.iload 8, 2) := by decide +kernel
theorem q70_170 : cfB 70 170 67 72 0 4 4 = true := by decide +kernel
theorem q70_173 : decode (mB 70) 173 = .ok (.iastore, 1) := by decide +kernel
theorem q70_174 : decode (mB 70) 174 = .ok (.return_, 1) := by decide +kernel
theorem q71_0 : decode (mB 71) 0 = .ok (.aload_n 0, 1) := by decide +kernel
theorem q71_1 : decode (mB 71) 1 = .ok (.iload_n 1, 1) := by decide +kernel
theorem q71_2 : decode (mB 71) 2 = .ok (.iload_n 2, 1) := by decide +kernel
theorem q71_3 : cfB 71 3 55 55 1 4 2 = true := by decide +kernel
theorem q71_6 : decode (mB 71) 6 = .ok (.istore_n 3, 1) := by decide +kernel
theorem q71_7 : decode (mB 71) 7 = .ok (.iconst 0, 1) := by decide +kernel
theorem q71_8 : decode (mB 71) 8 = .ok (.istore 4, 2) := by decide +kernel
theorem q71_10 : decode (mB 71) 10 = .ok (.iload 4, 2) := by decide +kernel
theorem q71_12 : decode (mB 71) 12 = .ok (.iload_n 1, 1) := by decide +kernel
theorem q71_13 : decode (mB 71) 13 = .ok (.if_icmp .ge 22, 3) := by decide +kernel
theorem q71_16 : decode (mB 71) 16 = .ok (.aload_n 0, 1) := by decide +kernel
theorem q71_17 : decode (mB 71) 17 = .ok (.iload 4, 2) := by decide +kernel
theorem q71_19 : decode (mB 71) 19 = .ok (.iload_n 2, 1) := by decide +kernel
theorem q71_20 : cfB 71 20 55 55 1 4 2 = true := by decide +kernel
theorem q71_23 : decode (mB 71) 23 = .ok (.iload_n 3, 1) := by decide +kernel
theorem q71_24 : decode (mB 71) 24 = .ok (.if_icmp .ne 5, 3) := by decide +kernel
theorem q71_27 : decode (mB 71) 27 = .ok (.iconst 0, 1) := by decide +kernel
theorem q71_28 : decode (mB 71) 28 = .ok (.ireturn, 1) := by decide +kernel
theorem q71_29 : decode (mB 71) 29 = .ok (.iinc 4 1, 3) := by decide +kernel
theorem q71_32 : decode (mB 71) 32 = .ok (.goto (-22), 3) := by decide +kernel
theorem q71_35 : decode (mB 71) 35 = .ok (.iconst 1, 1) := by decide +kernel
theorem q71_36 : decode (mB 71) 36 = .ok (.ireturn, 1) := by decide +kernel
theorem q72_0 : decode (mB 72) 0 = .ok (.iload_n 0, 1) := by decide +kernel
theorem q72_1 : decode (mB 72) 1 = .ok (.ifCond .ne 5, 3) := by decide +kernel
theorem q72_4 : decode (mB 72) 4 = .ok (.iconst 0, 1) := by decide +kernel
theorem q72_5 : decode (mB 72) 5 = .ok (.ireturn, 1) := by decide +kernel
theorem q72_6 : decode (mB 72) 6 = .ok (.iload_n 1, 1) := by decide +kernel
theorem q72_7 : decode (mB 72) 7 = .ok (.iconst 1, 1) := by decide +kernel
theorem q72_8 : decode (mB 72) 8 = .ok (.if_icmp .ne 5, 3) := by decide +kernel
theorem q72_11 : decode (mB 72) 11 = .ok (.iconst 1, 1) := by decide +kernel
theorem q72_12 : decode (mB 72) 12 = .ok (.ireturn, 1) := by decide +kernel
theorem q72_13 : decode (mB 72) 13 = .ok (.iload_n 2, 1) := by decide +kernel
theorem q72_14 : decode (mB 72) 14 = .ok (.iconst (-1), 1) := by decide +kernel
theorem q72_15 : decode (mB 72) 15 = .ok (.if_icmp .eq 5, 3) := by decide +kernel
theorem q72_18 : decode (mB 72) 18 = .ok (.iload_n 2, 1) := by decide +kernel
theorem q72_19 : decode (mB 72) 19 = .ok (.ireturn, 1) := by decide +kernel
theorem q72_20 : decode (mB 72) 20 = .ok (.iload_n 0, 1) := by decide +kernel
theorem q72_21 : decode (mB 72) 21 = .ok (.iconst 4, 1) := by decide +kernel
theorem q72_22 : decode (mB 72) 22 = .ok (.if_icmp .lt 9, 3) := by decide +kernel
theorem q72_25 : decode (mB 72) 25 = .ok (.iload_n 3, 1) := by decide +kernel
theorem q72_26 : decode (mB 72) 26 = .ok (.ifCond .eq 5, 3) := by decide +kernel
theorem q72_29 : decode (mB 72) 29 = .ok (.iconst 2, 1) := by decide +kernel
theorem q72_30 : decode (mB 72) 30 = .ok (.ireturn, 1) := by decide +kernel
theorem q72_31 : decode (mB 72) 31 = .ok (.iload_n 1, 1) := by decide +kernel
theorem q72_32 : decode (mB 72) 32 = .ok (.bipush 6, 2) := by decide +kernel
theorem q72_34 : decode (mB 72) 34 = .ok (.if_icmp .gt 12, 3) := by decide +kernel
theorem q72_37 : decode (mB 72) 37 = .ok (.iload_n 0, 1) := by decide +kernel
theorem q72_38 : decode (mB 72) 38 = .ok (.iconst 2, 1) := by decide +kernel
theorem q72_39 : decode (mB 72) 39 = .ok (.iload_n 1, 1) := by decide +kernel
theorem q72_40 : decode (mB 72) 40 = .ok (.imul, 1) := by decide +kernel
theorem q72_41 : decode (mB 72) 41 = .ok (.if_icmp .lt 5, 3) := by decide +kernel
theorem q72_44 : decode (mB 72) 44 = .ok (.iconst 3, 1) := by decide +kernel
theorem q72_45 : decode (mB 72) 45 = .ok (.ireturn, 1) := by decide +kernel
theorem q72_46 : decode (mB 72) 46 = .ok (.iconst 4, 1) := by decide +kernel
theorem q72_47 : decode (mB 72) 47 = .ok (.ireturn, 1) := by decide +kernel
theorem q73_0 : decode (mB 73) 0 = .ok (.aload_n 0, 1) := by decide +kernel
theorem q73_1 : (decide (73 < 235) && decide (decode (mB 73) 1 = .ok (.invokespecial 3, 3)) && (lks (mD 73)).contains (3, 2, 0, 0) && decide (1 ≤ mV 73)) = true := by decide +kernel
theorem q73_4 : decode (mB 73) 4 = .ok (.aload_n 0, 1) := by decide +kernel
theorem q73_5 : nwB 73 5 9 0 = true := by decide +kernel
theorem q73_8 : decode (mB 73) 8 = .ok (.dup, 1) := by decide +kernel
theorem q73_9 : cfB 73 9 11 0 2 4 0 = true := by decide +kernel
theorem q73_12 : pfB 73 12 12 6 2 = true := by decide +kernel
theorem q73_15 : decode (mB 73) 15 = .ok (.aload_n 0, 1) := by decide +kernel
theorem q73_16 : decode (mB 73) 16 = .ok (.aload_n 1, 1) := by decide +kernel
theorem q73_17 : pfB 73 17 18 6 0 = true := by decide +kernel
theorem q73_20 : decode (mB 73) 20 = .ok (.aload_n 0, 1) := by decide +kernel
theorem q73_21 : decode (mB 73) 21 = .ok (.aload_n 2, 1) := by decide +kernel
theorem q73_22 : pfB 73 22 22 6 1 = true := by decide +kernel
theorem q73_25 : decode (mB 73) 25 = .ok (.aload_n 0, 1) := by decide +kernel
theorem q73_26 : cfB 73 26 26 80 0 4 0 = true := by decide +kernel
theorem q73_29 : pfB 73 29 30 6 3 = true := by decide +kernel
theorem q73_32 : decode (mB 73) 32 = .ok (.return_, 1) := by decide +kernel
theorem q74_0 : decode (mB 74) 0 = .ok (.aload_n 0, 1) := by decide +kernel
theorem q74_1 : gfB 74 1 12 6 2 = true := by decide +kernel
theorem q74_4 : decode (mB 74) 4 = .ok (.areturn, 1) := by decide +kernel
theorem q75_0 : decode (mB 75) 0 = .ok (.aload_n 0, 1) := by decide +kernel
theorem q75_1 : gfB 75 1 34 6 4 = true := by decide +kernel
theorem q75_4 : decode (mB 75) 4 = .ok (.ireturn, 1) := by decide +kernel
theorem q76_0 : decode (mB 76) 0 = .ok (.aload_n 0, 1) := by decide +kernel
theorem q76_1 : decode (mB 76) 1 = .ok (.aload_n 0, 1) := by decide +kernel
theorem q76_2 : gfB 76 2 22 6 1 = true := by decide +kernel
theorem q76_5 : decode (mB 76) 5 = .ok (.iload_n 1, 1) := by decide +kernel
theorem q76_6 : cfB 76 6 38 21 1 4 1 = true := by decide +kernel
theorem q76_9 : decode (mB 76) 9 = .ok (.iload_n 1, 1) := by decide +kernel
theorem q76_10 : cfB 76 10 44 43 0 4 2 = true := by decide +kernel
theorem q76_13 : cfB 76 13 50 78 1 4 1 = true := by decide +kernel
theorem q76_16 : decode (mB 76) 16 = .ok (.aload_n 0, 1) := by decide +kernel
theorem q76_17 : gfB 76 17 54 6 5 = true := by decide +kernel
theorem q76_20 : decode (mB 76) 20 = .ok (.ireturn, 1) := by decide +kernel
theorem q77_0 : decode (mB 77) 0 = .ok (.aload_n 0, 1) := by decide +kernel
theorem q77_1 : decode (mB 77) 1 = .ok (.lconst 0, 1) := by decide +kernel
theorem q77_2 : cfB 77 2 50 78 1 4 1 = true := by decide +kernel
theorem q77_5 : decode (mB 77) 5 = .ok (.return_, 1) := by decide +kernel
theorem q78_0 : decode (mB 78) 0 = .ok (.aload_n 0, 1) := by decide +kernel
theorem q78_1 : gfB 78 1 12 6 2 = true := by decide +kernel
theorem q78_4 : cfB 78 4 57 5 1 4 0 = true := by decide +kernel
theorem q78_7 : decode (mB 78) 7 = .ok (.aload_n 0, 1) := by decide +kernel
theorem q78_8 : decode (mB 78) 8 = .ok (.iconst 0, 1) := by decide +kernel
theorem q78_9 : pfB 78 9 34 6 4 = true := by decide +kernel
theorem q78_12 : decode (mB 78) 12 = .ok (.aload_n 0, 1) := by decide +kernel
theorem q78_13 : decode (mB 78) 13 = .ok (.iconst 0, 1) := by decide +kernel
theorem q78_14 : pfB 78 14 54 6 5 = true := by decide +kernel
theorem q78_17 : decode (mB 78) 17 = .ok (.aload_n 0, 1) := by decide +kernel
theorem q78_18 : gfB 78 18 30 6 3 = true := by decide +kernel
theorem q78_21 : decode (mB 78) 21 = .ok (.astore_n 3, 1) := by decide +kernel
theorem q78_22 : decode (mB 78) 22 = .ok (.aload_n 3, 1) := by decide +kernel
theorem q78_23 : decode (mB 78) 23 = .ok (.arraylength, 1) := by decide +kernel
theorem q78_24 : decode (mB 78) 24 = .ok (.istore 4, 2) := by decide +kernel
theorem q78_26 : decode (mB 78) 26 = .ok (.iconst 0, 1) := by decide +kernel
theorem q78_27 : decode (mB 78) 27 = .ok (.istore 5, 2) := by decide +kernel
theorem q78_29 : decode (mB 78) 29 = .ok (.iload 5, 2) := by decide +kernel
theorem q78_31 : decode (mB 78) 31 = .ok (.iload 4, 2) := by decide +kernel
theorem q78_33 : decode (mB 78) 33 = .ok (.if_icmp .ge 34, 3) := by decide +kernel
theorem q78_36 : decode (mB 78) 36 = .ok (.aload_n 3, 1) := by decide +kernel
theorem q78_37 : decode (mB 78) 37 = .ok (.iload 5, 2) := by decide +kernel
theorem q78_39 : decode (mB 78) 39 = .ok (.iaload, 1) := by decide +kernel
theorem q78_40 : decode (mB 78) 40 = .ok (.istore 6, 2) := by decide +kernel
theorem q78_42 : decode (mB 78) 42 = .ok (.aload_n 0, 1) := by decide +kernel
theorem q78_43 : gfB 78 43 18 6 0 = true := by decide +kernel
theorem q78_46 : decode (mB 78) 46 = .ok (.iload 6, 2) := by decide +kernel
theorem q78_48 : cfB 78 48 60 32 1 4 1 = true := by decide +kernel
theorem q78_51 : decode (mB 78) 51 = .ok (.ifCond .ne 10, 3) := by decide +kernel
theorem q78_54 : decode (mB 78) 54 = .ok (.aload_n 0, 1) := by decide +kernel
theorem q78_55 : decode (mB 78) 55 = .ok (.iload 6, 2) := by decide +kernel
theorem q78_57 : decode (mB 78) 57 = .ok (.lload_n 1, 1) := by decide +kernel
theorem q78_58 : cfB 78 58 66 79 1 4 2 = true := by decide +kernel
theorem q78_61 : decode (mB 78) 61 = .ok (.iinc 5 1, 3) := by decide +kernel
theorem q78_64 : decode (mB 78) 64 = .ok (.goto (-35), 3) := by decide +kernel
theorem q78_67 : decode (mB 78) 67 = .ok (.return_, 1) := by decide +kernel
theorem q79_0 : gsB 79 0 70 0 8 = true := by decide +kernel
theorem q79_3 : decode (mB 79) 3 = .ok (.astore 4, 2) := by decide +kernel
theorem q79_5 : decode (mB 79) 5 = .ok (.aload 4, 2) := by decide +kernel
theorem q79_7 : decode (mB 79) 7 = .ok (.arraylength, 1) := by decide +kernel
theorem q79_8 : decode (mB 79) 8 = .ok (.istore 5, 2) := by decide +kernel
theorem q79_10 : decode (mB 79) 10 = .ok (.iconst 0, 1) := by decide +kernel
theorem q79_11 : decode (mB 79) 11 = .ok (.istore 6, 2) := by decide +kernel
theorem q79_13 : decode (mB 79) 13 = .ok (.iload 6, 2) := by decide +kernel
theorem q79_15 : decode (mB 79) 15 = .ok (.iload 5, 2) := by decide +kernel
theorem q79_17 : decode (mB 79) 17 = .ok (.if_icmp .ge 110, 3) := by decide +kernel
theorem q79_20 : decode (mB 79) 20 = .ok (.aload 4, 2) := by decide +kernel
theorem q79_22 : decode (mB 79) 22 = .ok (.iload 6, 2) := by decide +kernel
theorem q79_24 : decode (mB 79) 24 = .ok (.caload, 1) := by decide +kernel
theorem q79_25 : decode (mB 79) 25 = .ok (.istore 7, 2) := by decide +kernel
theorem q79_27 : decode (mB 79) 27 = .ok (.iconst 0, 1) := by decide +kernel
theorem q79_28 : decode (mB 79) 28 = .ok (.istore 8, 2) := by decide +kernel
theorem q79_30 : decode (mB 79) 30 = .ok (.iload 8, 2) := by decide +kernel
theorem q79_32 : decode (mB 79) 32 = .ok (.iconst 2, 1) := by decide +kernel
theorem q79_33 : decode (mB 79) 33 = .ok (.if_icmp .gt 88, 3) := by decide +kernel
theorem q79_36 : decode (mB 79) 36 = .ok (.iload 7, 2) := by decide +kernel
theorem q79_38 : decode (mB 79) 38 = .ok (.iload 8, 2) := by decide +kernel
theorem q79_40 : cfB 79 40 74 8 0 4 2 = true := by decide +kernel
theorem q79_43 : decode (mB 79) 43 = .ok (.iload_n 1, 1) := by decide +kernel
theorem q79_44 : decode (mB 79) 44 = .ok (.ior, 1) := by decide +kernel
theorem q79_45 : decode (mB 79) 45 = .ok (.istore 9, 2) := by decide +kernel
theorem q79_47 : decode (mB 79) 47 = .ok (.aload_n 0, 1) := by decide +kernel
theorem q79_48 : gfB 79 48 18 6 0 = true := by decide +kernel
theorem q79_51 : decode (mB 79) 51 = .ok (.iload 9, 2) := by decide +kernel
theorem q79_53 : cfB 79 53 80 31 1 4 1 = true := by decide +kernel
theorem q79_56 : decode (mB 79) 56 = .ok (.ifCond .ne 59, 3) := by decide +kernel
theorem q79_59 : decode (mB 79) 59 = .ok (.aload_n 0, 1) := by decide +kernel
theorem q79_60 : gfB 79 60 22 6 1 = true := by decide +kernel
theorem q79_63 : decode (mB 79) 63 = .ok (.iload 9, 2) := by decide +kernel
theorem q79_65 : cfB 79 65 38 21 1 4 1 = true := by decide +kernel
theorem q79_68 : decode (mB 79) 68 = .ok (.iload 9, 2) := by decide +kernel
theorem q79_70 : cfB 79 70 44 43 0 4 2 = true := by decide +kernel
theorem q79_73 : decode (mB 79) 73 = .ok (.lstore 10, 2) := by decide +kernel
theorem q79_75 : decode (mB 79) 75 = .ok (.aload_n 0, 1) := by decide +kernel
theorem q79_76 : decode (mB 79) 76 = .ok (.dup, 1) := by decide +kernel
theorem q79_77 : gfB 79 77 34 6 4 = true := by decide +kernel
theorem q79_80 : decode (mB 79) 80 = .ok (.iconst 1, 1) := by decide +kernel
theorem q79_81 : decode (mB 79) 81 = .ok (.iadd, 1) := by decide +kernel
theorem q79_82 : pfB 79 82 34 6 4 = true := by decide +kernel
theorem q79_85 : decode (mB 79) 85 = .ok (.aload_n 0, 1) := by decide +kernel
theorem q79_86 : decode (mB 79) 86 = .ok (.dup, 1) := by decide +kernel
theorem q79_87 : gfB 79 87 54 6 5 = true := by decide +kernel
theorem q79_90 : decode (mB 79) 90 = .ok (.lload 10, 2) := by decide +kernel
theorem q79_92 : decode (mB 79) 92 = .ok (.lload_n 2, 1) := by decide +kernel
theorem q79_93 : decode (mB 79) 93 = .ok (.lcmp, 1) := by decide +kernel
theorem q79_94 : decode (mB 79) 94 = .ok (.ifCond .ge 7, 3) := by decide +kernel
theorem q79_97 : decode (mB 79) 97 = .ok (.iconst 1, 1) := by decide +kernel
theorem q79_98 : decode (mB 79) 98 = .ok (.goto 4, 3) := by decide +kernel
theorem q79_101 : decode (mB 79) 101 = .ok (.iconst 0, 1) := by decide +kernel
theorem q79_102 : decode (mB 79) 102 = .ok (.iadd, 1) := by decide +kernel
theorem q79_103 : pfB 79 103 54 6 5 = true := by decide +kernel
theorem q79_106 : decode (mB 79) 106 = .ok (.aload_n 0, 1) := by decide +kernel
theorem q79_107 : gfB 79 107 12 6 2 = true := by decide +kernel
theorem q79_110 : decode (mB 79) 110 = .ok (.lload 10, 2) := by decide +kernel
theorem q79_112 : cfB 79 112 83 7 1 4 1 = true := by decide +kernel
theorem q79_115 : decode (mB 79) 115 = .ok (.iinc 8 1, 3) := by decide +kernel
theorem q79_118 : decode (mB 79) 118 = .ok (.goto (-88), 3) := by decide +kernel
theorem q79_121 : decode (mB 79) 121 = .ok (.iinc 6 1, 3) := by decide +kernel
theorem q79_124 : decode (mB 79) 124 = .ok (.goto (-111), 3) := by decide +kernel
theorem q79_127 : decode (mB 79) 127 = .ok (.return_, 1) := by decide +kernel
theorem q80_0 : decode (mB 80) 0 = .ok (.sipush 1045, 3) := by decide +kernel
theorem q80_3 : naB 80 3 0 = true := by decide +kernel
theorem q80_5 : decode (mB 80) 5 = .ok (.astore_n 0, 1) := by decide +kernel
theorem q80_6 : decode (mB 80) 6 = .ok (.iconst 0, 1) := by decide +kernel
theorem q80_7 : decode (mB 80) 7 = .ok (.istore_n 1, 1) := by decide +kernel
theorem q80_8 : decode (mB 80) 8 = .ok (.iconst 0, 1) := by decide +kernel
theorem q80_9 : decode (mB 80) 9 = .ok (.istore_n 2, 1) := by decide +kernel
theorem q80_10 : decode (mB 80) 10 = .ok (.iload_n 2, 1) := by decide +kernel
theorem q80_11 : decode (mB 80) 11 = .ok (.sipush 4096, 3) := by decide +kernel
theorem q80_14 : decode (mB 80) 14 = .ok (.if_icmp .ge 29, 3) := by decide +kernel
theorem q80_17 : decode (mB 80) 17 = .ok (.iload_n 1, 1) := by decide +kernel
theorem q80_18 : decode (mB 80) 18 = .ok (.aload_n 0, 1) := by decide +kernel
theorem q80_19 : decode (mB 80) 19 = .ok (.arraylength, 1) := by decide +kernel
theorem q80_20 : decode (mB 80) 20 = .ok (.if_icmp .ge 17, 3) := by decide +kernel
theorem q80_23 : decode (mB 80) 23 = .ok (.iload_n 2, 1) := by decide +kernel
theorem q80_24 : cfB 80 24 86 17 0 4 1 = true := by decide +kernel
theorem q80_27 : decode (mB 80) 27 = .ok (.ifCond .eq 10, 3) := by decide +kernel
theorem q80_30 : decode (mB 80) 30 = .ok (.aload_n 0, 1) := by decide +kernel
theorem q80_31 : decode (mB 80) 31 = .ok (.iload_n 1, 1) := by decide +kernel
theorem q80_32 : decode (mB 80) 32 = .ok (.iload_n 2, 1) := by decide +kernel
theorem q80_33 : decode (mB 80) 33 = .ok (.iastore, 1) := by decide +kernel
theorem q80_34 : decode (mB 80) 34 = .ok (.iinc 1 1, 3) := by decide +kernel
theorem q80_37 : decode (mB 80) 37 = .ok (.iinc 2 1, 3) := by decide +kernel
theorem q80_40 : decode (mB 80) 40 = .ok (.goto (-30), 3) := by decide +kernel
theorem q80_43 : decode (mB 80) 43 = .ok (.aload_n 0, 1) := by decide +kernel
theorem q80_44 : decode (mB 80) 44 = .ok (.areturn, 1) := by decide +kernel
