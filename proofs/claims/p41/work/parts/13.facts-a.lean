/-! what each instruction is, method by method (by program) -/
def thB (mi pc en si ik is : Nat) (w : Bool) : Bool := decide (en < 6) && (match stN[si]? with | some z => decide (z.1 = (mY mi).cls) && decide (z.2.1 = is) | none => false) && decide ((mY mi).cls = "Plotwise") && decide (mH mi = []) && decide (6 ≤ mV mi) && decide ((ik, 5, 100 + en, 0) ∈ lks (mD mi)) && decide (dN (mD mi) = (mY mi).cls) &&
  decide (decode (mB mi) pc = .ok (.new ik, 3)) && decide (decode (mB mi) (pc + 3) = .ok (.dup, 1)) &&
  (if w then decide (decode (mB mi) (pc + 4) = .ok (.ldc_w is, 3)) && decide (decode (mB mi) (pc + 7) = .ok (.invokespecial (exI.getD en 0), 3)) && decide (decode (mB mi) (pc + 10) = .ok (.athrow, 1))
   else decide (decode (mB mi) (pc + 4) = .ok (.ldc is, 2)) && decide (decode (mB mi) (pc + 6) = .ok (.invokespecial (exI.getD en 0), 3)) && decide (decode (mB mi) (pc + 9) = .ok (.athrow, 1)))
theorem th_of {mi pc en si ik is : Nat} {w : Bool} (h : thB mi pc en si ik is w = true) : thI mi pc en si := by
  simp only [thB, Bool.and_eq_true, decide_eq_true_eq] at h
  obtain ⟨⟨⟨⟨⟨⟨⟨⟨⟨h1, h2⟩, h3⟩, h4⟩, h5⟩, h6⟩, h7⟩, h8⟩, h9⟩, h10⟩ := h
  cases hz : stN[si]? with
  | none => rw [hz] at h2; cases h2
  | some z =>
    obtain ⟨z1, z2, z3⟩ := z
    rw [hz] at h2
    simp only [Bool.and_eq_true, decide_eq_true_eq] at h2
    obtain ⟨rfl, rfl⟩ := h2
    refine ⟨ik, z2, z3, h1, hz, h3, h4, h5, h6, h7, h8, h9, ?_⟩
    cases w with
    | true => simp only [if_true, Bool.and_eq_true, decide_eq_true_eq] at h10; exact Or.inr ⟨h10.1.1, h10.1.2, h10.2⟩
    | false => simp only [Bool.false_eq_true, if_false, Bool.and_eq_true, decide_eq_true_eq] at h10; exact Or.inl ⟨h10.1.1, h10.1.2, h10.2⟩

theorem q0_0 : decode (mB 0) 0 = .ok (.aload_n 0, 1) := by decide +kernel
theorem q0_1 : (decide (0 < 152) && decide (decode (mB 0) 1 = .ok (.invokespecial 1, 3)) && (lks (mD 0)).contains (1, 2, 0, 0) && decide (1 ≤ mV 0)) = true := by decide +kernel
theorem q0_4 : decode (mB 0) 4 = .ok (.aload_n 0, 1) := by decide +kernel
theorem q0_5 : decode (mB 0) 5 = .ok (.iconst 5, 1) := by decide +kernel
theorem q0_6 : naB 0 6 1 = true := by decide +kernel
theorem q0_8 : pfB 0 8 9 0 0 = true := by decide +kernel
theorem q0_11 : decode (mB 0) 11 = .ok (.return_, 1) := by decide +kernel
theorem q1_0 : decode (mB 1) 0 = .ok (.aload_n 0, 1) := by decide +kernel
theorem q1_1 : gfB 1 1 13 0 1 = true := by decide +kernel
theorem q1_4 : decode (mB 1) 4 = .ok (.ireturn, 1) := by decide +kernel
theorem q2_0 : decode (mB 2) 0 = .ok (.iload_n 1, 1) := by decide +kernel
theorem q2_1 : decode (mB 2) 1 = .ok (.ifCond .lt 24, 3) := by decide +kernel
theorem q2_4 : decode (mB 2) 4 = .ok (.iload_n 1, 1) := by decide +kernel
theorem q2_5 : decode (mB 2) 5 = .ok (.aload_n 0, 1) := by decide +kernel
theorem q2_6 : gfB 2 6 13 0 1 = true := by decide +kernel
theorem q2_9 : decode (mB 2) 9 = .ok (.if_icmp .ge 16, 3) := by decide +kernel
theorem q2_12 : decode (mB 2) 12 = .ok (.iload_n 1, 1) := by decide +kernel
theorem q2_13 : decode (mB 2) 13 = .ok (.aload_n 0, 1) := by decide +kernel
theorem q2_14 : gfB 2 14 9 0 0 = true := by decide +kernel
theorem q2_17 : decode (mB 2) 17 = .ok (.arraylength, 1) := by decide +kernel
theorem q2_18 : decode (mB 2) 18 = .ok (.if_icmp .ge 7, 3) := by decide +kernel
theorem q2_21 : decode (mB 2) 21 = .ok (.iconst 1, 1) := by decide +kernel
theorem q2_22 : decode (mB 2) 22 = .ok (.goto 4, 3) := by decide +kernel
theorem q2_25 : decode (mB 2) 25 = .ok (.iconst 0, 1) := by decide +kernel
theorem q2_26 : decode (mB 2) 26 = .ok (.ireturn, 1) := by decide +kernel
theorem q3_0 : decode (mB 3) 0 = .ok (.aload_n 0, 1) := by decide +kernel
theorem q3_1 : decode (mB 3) 1 = .ok (.iload_n 1, 1) := by decide +kernel
theorem q3_2 : cfB 3 2 17 2 1 4 1 = true := by decide +kernel
theorem q3_5 : decode (mB 3) 5 = .ok (.ifCond .eq 12, 3) := by decide +kernel
theorem q3_8 : decode (mB 3) 8 = .ok (.aload_n 0, 1) := by decide +kernel
theorem q3_9 : gfB 3 9 9 0 0 = true := by decide +kernel
theorem q3_12 : decode (mB 3) 12 = .ok (.iload_n 1, 1) := by decide +kernel
theorem q3_13 : decode (mB 3) 13 = .ok (.laload, 1) := by decide +kernel
theorem q3_14 : decode (mB 3) 14 = .ok (.goto 4, 3) := by decide +kernel
theorem q3_17 : decode (mB 3) 17 = .ok (.lconst 0, 1) := by decide +kernel
theorem q3_18 : decode (mB 3) 18 = .ok (.lreturn, 1) := by decide +kernel
theorem q4_0 : decode (mB 4) 0 = .ok (.aload_n 0, 1) := by decide +kernel
theorem q4_1 : decode (mB 4) 1 = .ok (.iload_n 1, 1) := by decide +kernel
theorem q4_2 : cfB 4 2 21 3 1 4 1 = true := by decide +kernel
theorem q4_5 : cfB 4 5 25 36 0 4 1 = true := by decide +kernel
theorem q4_8 : decode (mB 4) 8 = .ok (.ireturn, 1) := by decide +kernel
theorem q5_0 : decode (mB 5) 0 = .ok (.aload_n 0, 1) := by decide +kernel
theorem q5_1 : decode (mB 5) 1 = .ok (.iconst 0, 1) := by decide +kernel
theorem q5_2 : pfB 5 2 13 0 1 = true := by decide +kernel
theorem q5_5 : decode (mB 5) 5 = .ok (.return_, 1) := by decide +kernel
theorem q6_0 : decode (mB 6) 0 = .ok (.aload_n 0, 1) := by decide +kernel
theorem q6_1 : gfB 6 1 13 0 1 = true := by decide +kernel
theorem q6_4 : decode (mB 6) 4 = .ok (.iconst 5, 1) := by decide +kernel
theorem q6_5 : decode (mB 6) 5 = .ok (.if_icmp .lt 18, 3) := by decide +kernel
theorem q6_8 : decode (mB 6) 8 = .ok (.lload_n 1, 1) := by decide +kernel
theorem q6_9 : decode (mB 6) 9 = .ok (.aload_n 0, 1) := by decide +kernel
theorem q6_10 : gfB 6 10 9 0 0 = true := by decide +kernel
theorem q6_13 : decode (mB 6) 13 = .ok (.iconst 4, 1) := by decide +kernel
theorem q6_14 : decode (mB 6) 14 = .ok (.laload, 1) := by decide +kernel
theorem q6_15 : decode (mB 6) 15 = .ok (.lcmp, 1) := by decide +kernel
theorem q6_16 : decode (mB 6) 16 = .ok (.ifCond .lt 7, 3) := by decide +kernel
theorem q6_19 : decode (mB 6) 19 = .ok (.iconst 1, 1) := by decide +kernel
theorem q6_20 : decode (mB 6) 20 = .ok (.goto 4, 3) := by decide +kernel
theorem q6_23 : decode (mB 6) 23 = .ok (.iconst 0, 1) := by decide +kernel
theorem q6_24 : decode (mB 6) 24 = .ok (.ireturn, 1) := by decide +kernel
theorem q7_0 : decode (mB 7) 0 = .ok (.aload_n 0, 1) := by decide +kernel
theorem q7_1 : decode (mB 7) 1 = .ok (.lload_n 1, 1) := by decide +kernel
theorem q7_2 : cfB 7 2 31 6 1 4 1 = true := by decide +kernel
theorem q7_5 : decode (mB 7) 5 = .ok (.ifCond .eq 4, 3) := by decide +kernel
theorem q7_8 : decode (mB 7) 8 = .ok (.return_, 1) := by decide +kernel
theorem q7_9 : decode (mB 7) 9 = .ok (.aload_n 0, 1) := by decide +kernel
theorem q7_10 : gfB 7 10 13 0 1 = true := by decide +kernel
theorem q7_13 : decode (mB 7) 13 = .ok (.iconst 5, 1) := by decide +kernel
theorem q7_14 : decode (mB 7) 14 = .ok (.if_icmp .ge 13, 3) := by decide +kernel
theorem q7_17 : decode (mB 7) 17 = .ok (.aload_n 0, 1) := by decide +kernel
theorem q7_18 : decode (mB 7) 18 = .ok (.dup, 1) := by decide +kernel
theorem q7_19 : gfB 7 19 13 0 1 = true := by decide +kernel
theorem q7_22 : decode (mB 7) 22 = .ok (.iconst 1, 1) := by decide +kernel
theorem q7_23 : decode (mB 7) 23 = .ok (.iadd, 1) := by decide +kernel
theorem q7_24 : pfB 7 24 13 0 1 = true := by decide +kernel
theorem q7_27 : decode (mB 7) 27 = .ok (.aload_n 0, 1) := by decide +kernel
theorem q7_28 : gfB 7 28 13 0 1 = true := by decide +kernel
theorem q7_31 : decode (mB 7) 31 = .ok (.iconst 1, 1) := by decide +kernel
theorem q7_32 : decode (mB 7) 32 = .ok (.isub, 1) := by decide +kernel
theorem q7_33 : decode (mB 7) 33 = .ok (.istore_n 3, 1) := by decide +kernel
theorem q7_34 : decode (mB 7) 34 = .ok (.iload_n 3, 1) := by decide +kernel
theorem q7_35 : decode (mB 7) 35 = .ok (.ifCond .le 45, 3) := by decide +kernel
theorem q7_38 : decode (mB 7) 38 = .ok (.iload_n 3, 1) := by decide +kernel
theorem q7_39 : decode (mB 7) 39 = .ok (.aload_n 0, 1) := by decide +kernel
theorem q7_40 : gfB 7 40 9 0 0 = true := by decide +kernel
theorem q7_43 : decode (mB 7) 43 = .ok (.arraylength, 1) := by decide +kernel
theorem q7_44 : decode (mB 7) 44 = .ok (.if_icmp .ge 36, 3) := by decide +kernel
theorem q7_47 : decode (mB 7) 47 = .ok (.aload_n 0, 1) := by decide +kernel
theorem q7_48 : gfB 7 48 9 0 0 = true := by decide +kernel
theorem q7_51 : decode (mB 7) 51 = .ok (.iload_n 3, 1) := by decide +kernel
theorem q7_52 : decode (mB 7) 52 = .ok (.iconst 1, 1) := by decide +kernel
theorem q7_53 : decode (mB 7) 53 = .ok (.isub, 1) := by decide +kernel
theorem q7_54 : decode (mB 7) 54 = .ok (.laload, 1) := by decide +kernel
theorem q7_55 : decode (mB 7) 55 = .ok (.lload_n 1, 1) := by decide +kernel
theorem q7_56 : decode (mB 7) 56 = .ok (.lcmp, 1) := by decide +kernel
theorem q7_57 : decode (mB 7) 57 = .ok (.ifCond .le 23, 3) := by decide +kernel
theorem q7_60 : decode (mB 7) 60 = .ok (.aload_n 0, 1) := by decide +kernel
theorem q7_61 : gfB 7 61 9 0 0 = true := by decide +kernel
theorem q7_64 : decode (mB 7) 64 = .ok (.iload_n 3, 1) := by decide +kernel
theorem q7_65 : decode (mB 7) 65 = .ok (.aload_n 0, 1) := by decide +kernel
theorem q7_66 : gfB 7 66 9 0 0 = true := by decide +kernel
theorem q7_69 : decode (mB 7) 69 = .ok (.iload_n 3, 1) := by decide +kernel
theorem q7_70 : decode (mB 7) 70 = .ok (.iconst 1, 1) := by decide +kernel
theorem q7_71 : decode (mB 7) 71 = .ok (.isub, 1) := by decide +kernel
theorem q7_72 : decode (mB 7) 72 = .ok (.laload, 1) := by decide +kernel
theorem q7_73 : decode (mB 7) 73 = .ok (.lastore, 1) := by decide +kernel
theorem q7_74 : decode (mB 7) 74 = .ok (.iinc 3 (-1), 3) := by decide +kernel
theorem q7_77 : decode (mB 7) 77 = .ok (.goto (-43), 3) := by decide +kernel
theorem q7_80 : decode (mB 7) 80 = .ok (.aload_n 0, 1) := by decide +kernel
theorem q7_81 : decode (mB 7) 81 = .ok (.iload_n 3, 1) := by decide +kernel
theorem q7_82 : cfB 7 82 17 2 1 4 1 = true := by decide +kernel
theorem q7_85 : decode (mB 7) 85 = .ok (.ifCond .eq 10, 3) := by decide +kernel
theorem q7_88 : decode (mB 7) 88 = .ok (.aload_n 0, 1) := by decide +kernel
theorem q7_89 : gfB 7 89 9 0 0 = true := by decide +kernel
theorem q7_92 : decode (mB 7) 92 = .ok (.iload_n 3, 1) := by decide +kernel
theorem q7_93 : decode (mB 7) 93 = .ok (.lload_n 1, 1) := by decide +kernel
theorem q7_94 : decode (mB 7) 94 = .ok (.lastore, 1) := by decide +kernel
theorem q7_95 : decode (mB 7) 95 = .ok (.return_, 1) := by decide +kernel
theorem q8_0 : decode (mB 8) 0 = .ok (.iload_n 0, 1) := by decide +kernel
theorem q8_1 : decode (mB 8) 1 = .ok (.bipush 14, 2) := by decide +kernel
theorem q8_3 : decode (mB 8) 3 = .ok (.ishl, 1) := by decide +kernel
theorem q8_4 : decode (mB 8) 4 = .ok (.iload_n 1, 1) := by decide +kernel
theorem q8_5 : decode (mB 8) 5 = .ok (.bipush 12, 2) := by decide +kernel
theorem q8_7 : decode (mB 8) 7 = .ok (.ishl, 1) := by decide +kernel
theorem q8_8 : decode (mB 8) 8 = .ok (.ior, 1) := by decide +kernel
theorem q8_9 : decode (mB 8) 9 = .ok (.ireturn, 1) := by decide +kernel
theorem q9_0 : decode (mB 9) 0 = .ok (.iload_n 0, 1) := by decide +kernel
theorem q9_1 : decode (mB 9) 1 = .ok (.bipush 14, 2) := by decide +kernel
theorem q9_3 : decode (mB 9) 3 = .ok (.ishr, 1) := by decide +kernel
theorem q9_4 : decode (mB 9) 4 = .ok (.bipush 127, 2) := by decide +kernel
theorem q9_6 : decode (mB 9) 6 = .ok (.iand, 1) := by decide +kernel
theorem q9_7 : decode (mB 9) 7 = .ok (.i2c, 1) := by decide +kernel
theorem q9_8 : decode (mB 9) 8 = .ok (.ireturn, 1) := by decide +kernel
theorem q10_0 : decode (mB 10) 0 = .ok (.iload_n 0, 1) := by decide +kernel
theorem q10_1 : decode (mB 10) 1 = .ok (.bipush 12, 2) := by decide +kernel
theorem q10_3 : decode (mB 10) 3 = .ok (.ishr, 1) := by decide +kernel
theorem q10_4 : decode (mB 10) 4 = .ok (.iconst 3, 1) := by decide +kernel
theorem q10_5 : decode (mB 10) 5 = .ok (.iand, 1) := by decide +kernel
theorem q10_6 : decode (mB 10) 6 = .ok (.ireturn, 1) := by decide +kernel
theorem q11_0 : decode (mB 11) 0 = .ok (.iload_n 0, 1) := by decide +kernel
theorem q11_1 : decode (mB 11) 1 = .ok (.iconst 3, 1) := by decide +kernel
theorem q11_2 : decode (mB 11) 2 = .ok (.iload_n 1, 1) := by decide +kernel
theorem q11_3 : decode (mB 11) 3 = .ok (.isub, 1) := by decide +kernel
theorem q11_4 : decode (mB 11) 4 = .ok (.iconst 3, 1) := by decide +kernel
theorem q11_5 : decode (mB 11) 5 = .ok (.imul, 1) := by decide +kernel
theorem q11_6 : decode (mB 11) 6 = .ok (.ishr, 1) := by decide +kernel
theorem q11_7 : decode (mB 11) 7 = .ok (.bipush 7, 2) := by decide +kernel
theorem q11_9 : decode (mB 11) 9 = .ok (.iand, 1) := by decide +kernel
theorem q11_10 : decode (mB 11) 10 = .ok (.iconst 1, 1) := by decide +kernel
theorem q11_11 : decode (mB 11) 11 = .ok (.isub, 1) := by decide +kernel
theorem q11_12 : decode (mB 11) 12 = .ok (.ireturn, 1) := by decide +kernel
theorem q12_0 : decode (mB 12) 0 = .ok (.iconst 3, 1) := by decide +kernel
theorem q12_1 : decode (mB 12) 1 = .ok (.iload_n 1, 1) := by decide +kernel
theorem q12_2 : decode (mB 12) 2 = .ok (.isub, 1) := by decide +kernel
theorem q12_3 : decode (mB 12) 3 = .ok (.iconst 3, 1) := by decide +kernel
theorem q12_4 : decode (mB 12) 4 = .ok (.imul, 1) := by decide +kernel
theorem q12_5 : decode (mB 12) 5 = .ok (.istore_n 3, 1) := by decide +kernel
theorem q12_6 : decode (mB 12) 6 = .ok (.iload_n 0, 1) := by decide +kernel
theorem q12_7 : decode (mB 12) 7 = .ok (.bipush 7, 2) := by decide +kernel
theorem q12_9 : decode (mB 12) 9 = .ok (.iload_n 3, 1) := by decide +kernel
theorem q12_10 : decode (mB 12) 10 = .ok (.ishl, 1) := by decide +kernel
theorem q12_11 : decode (mB 12) 11 = .ok (.iconst (-1), 1) := by decide +kernel
theorem q12_12 : decode (mB 12) 12 = .ok (.ixor, 1) := by decide +kernel
theorem q12_13 : decode (mB 12) 13 = .ok (.iand, 1) := by decide +kernel
theorem q12_14 : decode (mB 12) 14 = .ok (.iload_n 2, 1) := by decide +kernel
theorem q12_15 : decode (mB 12) 15 = .ok (.iconst 1, 1) := by decide +kernel
theorem q12_16 : decode (mB 12) 16 = .ok (.iadd, 1) := by decide +kernel
theorem q12_17 : decode (mB 12) 17 = .ok (.iload_n 3, 1) := by decide +kernel
theorem q12_18 : decode (mB 12) 18 = .ok (.ishl, 1) := by decide +kernel
theorem q12_19 : decode (mB 12) 19 = .ok (.ior, 1) := by decide +kernel
theorem q12_20 : decode (mB 12) 20 = .ok (.ireturn, 1) := by decide +kernel
theorem q13_0 : decode (mB 13) 0 = .ok (.iconst 0, 1) := by decide +kernel
theorem q13_1 : decode (mB 13) 1 = .ok (.istore_n 1, 1) := by decide +kernel
theorem q13_2 : decode (mB 13) 2 = .ok (.iconst 0, 1) := by decide +kernel
theorem q13_3 : decode (mB 13) 3 = .ok (.istore_n 2, 1) := by decide +kernel
theorem q13_4 : decode (mB 13) 4 = .ok (.iload_n 2, 1) := by decide +kernel
theorem q13_5 : decode (mB 13) 5 = .ok (.bipush 12, 2) := by decide +kernel
theorem q13_7 : decode (mB 13) 7 = .ok (.if_icmp .ge 20, 3) := by decide +kernel
theorem q13_10 : decode (mB 13) 10 = .ok (.iload_n 1, 1) := by decide +kernel
theorem q13_11 : decode (mB 13) 11 = .ok (.iconst 1, 1) := by decide +kernel
theorem q13_12 : decode (mB 13) 12 = .ok (.iload_n 0, 1) := by decide +kernel
theorem q13_13 : decode (mB 13) 13 = .ok (.iload_n 2, 1) := by decide +kernel
theorem q13_14 : decode (mB 13) 14 = .ok (.ishr, 1) := by decide +kernel
theorem q13_15 : decode (mB 13) 15 = .ok (.bipush 7, 2) := by decide +kernel
theorem q13_17 : decode (mB 13) 17 = .ok (.iand, 1) := by decide +kernel
theorem q13_18 : decode (mB 13) 18 = .ok (.ishl, 1) := by decide +kernel
theorem q13_19 : decode (mB 13) 19 = .ok (.ior, 1) := by decide +kernel
theorem q13_20 : decode (mB 13) 20 = .ok (.istore_n 1, 1) := by decide +kernel
theorem q13_21 : decode (mB 13) 21 = .ok (.iinc 2 3, 3) := by decide +kernel
theorem q13_24 : decode (mB 13) 24 = .ok (.goto (-20), 3) := by decide +kernel
theorem q13_27 : decode (mB 13) 27 = .ok (.iload_n 1, 1) := by decide +kernel
theorem q13_28 : decode (mB 13) 28 = .ok (.iconst 1, 1) := by decide +kernel
theorem q13_29 : decode (mB 13) 29 = .ok (.ishr, 1) := by decide +kernel
theorem q13_30 : decode (mB 13) 30 = .ok (.ireturn, 1) := by decide +kernel
theorem q14_0 : decode (mB 14) 0 = .ok (.iload_n 1, 1) := by decide +kernel
theorem q14_1 : decode (mB 14) 1 = .ok (.iconst (-1), 1) := by decide +kernel
theorem q14_2 : decode (mB 14) 2 = .ok (.if_icmp .eq 18, 3) := by decide +kernel
theorem q14_5 : decode (mB 14) 5 = .ok (.iload_n 0, 1) := by decide +kernel
theorem q14_6 : cfB 14 6 12 13 0 4 1 = true := by decide +kernel
theorem q14_9 : decode (mB 14) 9 = .ok (.iload_n 1, 1) := by decide +kernel
theorem q14_10 : decode (mB 14) 10 = .ok (.ishr, 1) := by decide +kernel
theorem q14_11 : decode (mB 14) 11 = .ok (.iconst 1, 1) := by decide +kernel
theorem q14_12 : decode (mB 14) 12 = .ok (.iand, 1) := by decide +kernel
theorem q14_13 : decode (mB 14) 13 = .ok (.ifCond .eq 7, 3) := by decide +kernel
theorem q14_16 : decode (mB 14) 16 = .ok (.iconst 1, 1) := by decide +kernel
theorem q14_17 : decode (mB 14) 17 = .ok (.goto 4, 3) := by decide +kernel
theorem q14_20 : decode (mB 14) 20 = .ok (.iconst 0, 1) := by decide +kernel
theorem q14_21 : decode (mB 14) 21 = .ok (.ireturn, 1) := by decide +kernel
theorem q15_0 : decode (mB 15) 0 = .ok (.iconst 0, 1) := by decide +kernel
theorem q15_1 : decode (mB 15) 1 = .ok (.istore_n 1, 1) := by decide +kernel
theorem q15_2 : decode (mB 15) 2 = .ok (.iconst 0, 1) := by decide +kernel
theorem q15_3 : decode (mB 15) 3 = .ok (.istore_n 2, 1) := by decide +kernel
theorem q15_4 : decode (mB 15) 4 = .ok (.iload_n 2, 1) := by decide +kernel
theorem q15_5 : decode (mB 15) 5 = .ok (.iconst 4, 1) := by decide +kernel
theorem q15_6 : decode (mB 15) 6 = .ok (.if_icmp .ge 42, 3) := by decide +kernel
theorem q15_9 : decode (mB 15) 9 = .ok (.iload_n 0, 1) := by decide +kernel
theorem q15_10 : decode (mB 15) 10 = .ok (.iload_n 2, 1) := by decide +kernel
theorem q15_11 : cfB 15 11 16 11 0 4 2 = true := by decide +kernel
theorem q15_14 : decode (mB 15) 14 = .ok (.istore_n 3, 1) := by decide +kernel
theorem q15_15 : decode (mB 15) 15 = .ok (.iload_n 3, 1) := by decide +kernel
theorem q15_16 : decode (mB 15) 16 = .ok (.iconst (-1), 1) := by decide +kernel
theorem q15_17 : decode (mB 15) 17 = .ok (.if_icmp .eq 25, 3) := by decide +kernel
theorem q15_20 : decode (mB 15) 20 = .ok (.iload_n 3, 1) := by decide +kernel
theorem q15_21 : decode (mB 15) 21 = .ok (.bipush 6, 2) := by decide +kernel
theorem q15_23 : decode (mB 15) 23 = .ok (.if_icmp .ge 11, 3) := by decide +kernel
theorem q15_26 : decode (mB 15) 26 = .ok (.iload_n 1, 1) := by decide +kernel
theorem q15_27 : decode (mB 15) 27 = .ok (.iload_n 3, 1) := by decide +kernel
theorem q15_28 : decode (mB 15) 28 = .ok (.ishr, 1) := by decide +kernel
theorem q15_29 : decode (mB 15) 29 = .ok (.iconst 1, 1) := by decide +kernel
theorem q15_30 : decode (mB 15) 30 = .ok (.iand, 1) := by decide +kernel
theorem q15_31 : decode (mB 15) 31 = .ok (.ifCond .eq 5, 3) := by decide +kernel
theorem q15_34 : decode (mB 15) 34 = .ok (.iconst 0, 1) := by decide +kernel
theorem q15_35 : decode (mB 15) 35 = .ok (.ireturn, 1) := by decide +kernel
theorem q15_36 : decode (mB 15) 36 = .ok (.iload_n 1, 1) := by decide +kernel
theorem q15_37 : decode (mB 15) 37 = .ok (.iconst 1, 1) := by decide +kernel
theorem q15_38 : decode (mB 15) 38 = .ok (.iload_n 3, 1) := by decide +kernel
theorem q15_39 : decode (mB 15) 39 = .ok (.ishl, 1) := by decide +kernel
theorem q15_40 : decode (mB 15) 40 = .ok (.ior, 1) := by decide +kernel
theorem q15_41 : decode (mB 15) 41 = .ok (.istore_n 1, 1) := by decide +kernel
theorem q15_42 : decode (mB 15) 42 = .ok (.iinc 2 1, 3) := by decide +kernel
theorem q15_45 : decode (mB 15) 45 = .ok (.goto (-41), 3) := by decide +kernel
theorem q15_48 : decode (mB 15) 48 = .ok (.iconst 1, 1) := by decide +kernel
theorem q15_49 : decode (mB 15) 49 = .ok (.ireturn, 1) := by decide +kernel
theorem q16_0 : decode (mB 16) 0 = .ok (.aload_n 0, 1) := by decide +kernel
theorem q16_1 : (decide (16 < 152) && decide (decode (mB 16) 1 = .ok (.invokespecial 3, 3)) && (lks (mD 16)).contains (3, 2, 0, 0) && decide (1 ≤ mV 16)) = true := by decide +kernel
theorem q16_4 : decode (mB 16) 4 = .ok (.aload_n 0, 1) := by decide +kernel
theorem q16_5 : decode (mB 16) 5 = .ok (.aload_n 1, 1) := by decide +kernel
theorem q16_6 : pfB 16 6 9 1 0 = true := by decide +kernel
theorem q16_9 : decode (mB 16) 9 = .ok (.aload_n 0, 1) := by decide +kernel
theorem q16_10 : gsB 16 10 15 1 1 = true := by decide +kernel
theorem q16_13 : (decide (16 < 152) && decide (decode (mB 16) 13 = .ok (.invokevirtual 19, 3)) && (lks (mD 16)).contains (19, 3, 0, 0) && decide (1 ≤ mV 16) && decide (mA 16 = 1)) = true := by decide +kernel
theorem q16_16 : (decide (16 < 152) && decide (decode (mB 16) 16 = .ok (.checkcast 20, 3)) && decide (Cond.classLink (mY 16).cls 20 "[I" ∈ tables_1)) = true := by decide +kernel
theorem q16_19 : pfB 16 19 24 1 1 = true := by decide +kernel
theorem q16_22 : decode (mB 16) 22 = .ok (.return_, 1) := by decide +kernel
theorem q17_0 : decode (mB 17) 0 = .ok (.iload_n 1, 1) := by decide +kernel
theorem q17_1 : decode (mB 17) 1 = .ok (.ifCond .lt 16, 3) := by decide +kernel
theorem q17_4 : decode (mB 17) 4 = .ok (.iload_n 1, 1) := by decide +kernel
theorem q17_5 : decode (mB 17) 5 = .ok (.aload_n 0, 1) := by decide +kernel
theorem q17_6 : gfB 17 6 24 1 1 = true := by decide +kernel
theorem q17_9 : decode (mB 17) 9 = .ok (.arraylength, 1) := by decide +kernel
theorem q17_10 : decode (mB 17) 10 = .ok (.if_icmp .ge 7, 3) := by decide +kernel
theorem q17_13 : decode (mB 17) 13 = .ok (.iconst 1, 1) := by decide +kernel
theorem q17_14 : decode (mB 17) 14 = .ok (.goto 4, 3) := by decide +kernel
theorem q17_17 : decode (mB 17) 17 = .ok (.iconst 0, 1) := by decide +kernel
theorem q17_18 : decode (mB 17) 18 = .ok (.ireturn, 1) := by decide +kernel
theorem q18_0 : decode (mB 18) 0 = .ok (.aload_n 0, 1) := by decide +kernel
theorem q18_1 : decode (mB 18) 1 = .ok (.iload_n 1, 1) := by decide +kernel
theorem q18_2 : cfB 18 2 27 17 1 4 1 = true := by decide +kernel
theorem q18_5 : decode (mB 18) 5 = .ok (.ifCond .ne 5, 3) := by decide +kernel
theorem q18_8 : decode (mB 18) 8 = .ok (.iconst 0, 1) := by decide +kernel
theorem q18_9 : decode (mB 18) 9 = .ok (.ireturn, 1) := by decide +kernel
theorem q18_10 : decode (mB 18) 10 = .ok (.aload_n 0, 1) := by decide +kernel
theorem q18_11 : gfB 18 11 24 1 1 = true := by decide +kernel
theorem q18_14 : decode (mB 18) 14 = .ok (.iload_n 1, 1) := by decide +kernel
theorem q18_15 : decode (mB 18) 15 = .ok (.iaload, 1) := by decide +kernel
theorem q18_16 : decode (mB 18) 16 = .ok (.istore_n 3, 1) := by decide +kernel
theorem q18_17 : decode (mB 18) 17 = .ok (.aload_n 0, 1) := by decide +kernel
theorem q18_18 : gfB 18 18 24 1 1 = true := by decide +kernel
theorem q18_21 : decode (mB 18) 21 = .ok (.iload_n 1, 1) := by decide +kernel
theorem q18_22 : decode (mB 18) 22 = .ok (.iload_n 2, 1) := by decide +kernel
theorem q18_23 : decode (mB 18) 23 = .ok (.iastore, 1) := by decide +kernel
theorem q18_24 : decode (mB 18) 24 = .ok (.iload_n 3, 1) := by decide +kernel
theorem q18_25 : decode (mB 18) 25 = .ok (.ireturn, 1) := by decide +kernel
theorem q19_0 : decode (mB 19) 0 = .ok (.iconst 0, 1) := by decide +kernel
theorem q19_1 : decode (mB 19) 1 = .ok (.istore_n 2, 1) := by decide +kernel
theorem q19_2 : decode (mB 19) 2 = .ok (.lconst 0, 1) := by decide +kernel
theorem q19_3 : decode (mB 19) 3 = .ok (.lstore_n 3, 1) := by decide +kernel
theorem q19_4 : decode (mB 19) 4 = .ok (.iconst 0, 1) := by decide +kernel
theorem q19_5 : decode (mB 19) 5 = .ok (.istore 5, 2) := by decide +kernel
theorem q19_7 : decode (mB 19) 7 = .ok (.iload 5, 2) := by decide +kernel
theorem q19_9 : decode (mB 19) 9 = .ok (.iconst 4, 1) := by decide +kernel
theorem q19_10 : decode (mB 19) 10 = .ok (.if_icmp .ge 46, 3) := by decide +kernel
theorem q19_13 : decode (mB 19) 13 = .ok (.iload_n 1, 1) := by decide +kernel
theorem q19_14 : decode (mB 19) 14 = .ok (.iload 5, 2) := by decide +kernel
theorem q19_16 : cfB 19 16 31 11 0 4 2 = true := by decide +kernel
theorem q19_19 : decode (mB 19) 19 = .ok (.istore 6, 2) := by decide +kernel
theorem q19_21 : decode (mB 19) 21 = .ok (.iload_n 2, 1) := by decide +kernel
theorem q19_22 : decode (mB 19) 22 = .ok (.aload_n 0, 1) := by decide +kernel
theorem q19_23 : gfB 19 23 9 1 0 = true := by decide +kernel
theorem q19_26 : decode (mB 19) 26 = .ok (.iload 6, 2) := by decide +kernel
theorem q19_28 : cfB 19 28 37 47 1 4 1 = true := by decide +kernel
theorem q19_31 : decode (mB 19) 31 = .ok (.iload 5, 2) := by decide +kernel
theorem q19_33 : cfB 19 33 43 22 0 4 2 = true := by decide +kernel
theorem q19_36 : decode (mB 19) 36 = .ok (.iadd, 1) := by decide +kernel
theorem q19_37 : decode (mB 19) 37 = .ok (.istore_n 2, 1) := by decide +kernel
theorem q19_38 : decode (mB 19) 38 = .ok (.lload_n 3, 1) := by decide +kernel
theorem q19_39 : decode (mB 19) 39 = .ok (.aload_n 0, 1) := by decide +kernel
theorem q19_40 : gfB 19 40 9 1 0 = true := by decide +kernel
theorem q19_43 : decode (mB 19) 43 = .ok (.iload 6, 2) := by decide +kernel
theorem q19_45 : cfB 19 45 46 52 1 4 1 = true := by decide +kernel
theorem q19_48 : decode (mB 19) 48 = .ok (.lor, 1) := by decide +kernel
theorem q19_49 : decode (mB 19) 49 = .ok (.lstore_n 3, 1) := by decide +kernel
theorem q19_50 : decode (mB 19) 50 = .ok (.iinc 5 1, 3) := by decide +kernel
theorem q19_53 : decode (mB 19) 53 = .ok (.goto (-46), 3) := by decide +kernel
theorem q19_56 : decode (mB 19) 56 = .ok (.iload_n 2, 1) := by decide +kernel
theorem q19_57 : decode (mB 19) 57 = .ok (.lload_n 3, 1) := by decide +kernel
theorem q19_58 : cfB 19 58 50 107 0 4 1 = true := by decide +kernel
theorem q19_61 : decode (mB 19) 61 = .ok (.iconst 5, 1) := by decide +kernel
theorem q19_62 : decode (mB 19) 62 = .ok (.idiv, 1) := by decide +kernel
theorem q19_63 : decode (mB 19) 63 = .ok (.iadd, 1) := by decide +kernel
theorem q19_64 : decode (mB 19) 64 = .ok (.istore_n 2, 1) := by decide +kernel
theorem q19_65 : decode (mB 19) 65 = .ok (.aload_n 0, 1) := by decide +kernel
theorem q19_66 : decode (mB 19) 66 = .ok (.iload_n 1, 1) := by decide +kernel
theorem q19_67 : cfB 19 67 56 20 1 4 1 = true := by decide +kernel
theorem q19_70 : decode (mB 19) 70 = .ok (.istore 5, 2) := by decide +kernel
theorem q19_72 : decode (mB 19) 72 = .ok (.iconst 0, 1) := by decide +kernel
theorem q19_73 : decode (mB 19) 73 = .ok (.istore 6, 2) := by decide +kernel
theorem q19_75 : decode (mB 19) 75 = .ok (.iload 6, 2) := by decide +kernel
theorem q19_77 : decode (mB 19) 77 = .ok (.aload_n 0, 1) := by decide +kernel
theorem q19_78 : gfB 19 78 24 1 1 = true := by decide +kernel
theorem q19_81 : decode (mB 19) 81 = .ok (.arraylength, 1) := by decide +kernel
theorem q19_82 : decode (mB 19) 82 = .ok (.if_icmp .ge 29, 3) := by decide +kernel
theorem q19_85 : decode (mB 19) 85 = .ok (.iload 5, 2) := by decide +kernel
theorem q19_87 : decode (mB 19) 87 = .ok (.iload 6, 2) := by decide +kernel
theorem q19_89 : decode (mB 19) 89 = .ok (.ishr, 1) := by decide +kernel
theorem q19_90 : decode (mB 19) 90 = .ok (.iconst 1, 1) := by decide +kernel
theorem q19_91 : decode (mB 19) 91 = .ok (.iand, 1) := by decide +kernel
theorem q19_92 : decode (mB 19) 92 = .ok (.ifCond .eq 13, 3) := by decide +kernel
theorem q19_95 : decode (mB 19) 95 = .ok (.iload_n 2, 1) := by decide +kernel
theorem q19_96 : decode (mB 19) 96 = .ok (.aload_n 0, 1) := by decide +kernel
theorem q19_97 : gfB 19 97 24 1 1 = true := by decide +kernel
theorem q19_100 : decode (mB 19) 100 = .ok (.iload 6, 2) := by decide +kernel
theorem q19_102 : decode (mB 19) 102 = .ok (.iaload, 1) := by decide +kernel
theorem q19_103 : decode (mB 19) 103 = .ok (.iadd, 1) := by decide +kernel
theorem q19_104 : decode (mB 19) 104 = .ok (.istore_n 2, 1) := by decide +kernel
theorem q19_105 : decode (mB 19) 105 = .ok (.iinc 6 1, 3) := by decide +kernel
theorem q19_108 : decode (mB 19) 108 = .ok (.goto (-33), 3) := by decide +kernel
theorem q19_111 : decode (mB 19) 111 = .ok (.iload_n 2, 1) := by decide +kernel
theorem q19_112 : decode (mB 19) 112 = .ok (.ireturn, 1) := by decide +kernel
theorem q20_0 : decode (mB 20) 0 = .ok (.iload_n 1, 1) := by decide +kernel
theorem q20_1 : cfB 20 1 59 9 0 4 1 = true := by decide +kernel
theorem q20_4 : decode (mB 20) 4 = .ok (.istore_n 2, 1) := by decide +kernel
theorem q20_5 : decode (mB 20) 5 = .ok (.iload_n 1, 1) := by decide +kernel
theorem q20_6 : cfB 20 6 63 10 0 4 1 = true := by decide +kernel
theorem q20_9 : decode (mB 20) 9 = .ok (.ifCond .ne 7, 3) := by decide +kernel
theorem q20_12 : decode (mB 20) 12 = .ok (.iconst 1, 1) := by decide +kernel
theorem q20_13 : decode (mB 20) 13 = .ok (.goto 4, 3) := by decide +kernel
theorem q20_16 : decode (mB 20) 16 = .ok (.iconst 0, 1) := by decide +kernel
theorem q20_17 : decode (mB 20) 17 = .ok (.istore_n 3, 1) := by decide +kernel
theorem q20_18 : decode (mB 20) 18 = .ok (.aload_n 0, 1) := by decide +kernel
theorem q20_19 : gfB 20 19 9 1 0 = true := by decide +kernel
theorem q20_22 : decode (mB 20) 22 = .ok (.iload_n 1, 1) := by decide +kernel
theorem q20_23 : decode (mB 20) 23 = .ok (.iconst 0, 1) := by decide +kernel
theorem q20_24 : cfB 20 24 31 11 0 4 2 = true := by decide +kernel
theorem q20_27 : cfB 20 27 37 47 1 4 1 = true := by decide +kernel
theorem q20_30 : decode (mB 20) 30 = .ok (.istore 4, 2) := by decide +kernel
theorem q20_32 : decode (mB 20) 32 = .ok (.aload_n 0, 1) := by decide +kernel
theorem q20_33 : gfB 20 33 9 1 0 = true := by decide +kernel
theorem q20_36 : decode (mB 20) 36 = .ok (.iload_n 1, 1) := by decide +kernel
theorem q20_37 : decode (mB 20) 37 = .ok (.iconst 1, 1) := by decide +kernel
theorem q20_38 : cfB 20 38 31 11 0 4 2 = true := by decide +kernel
theorem q20_41 : cfB 20 41 37 47 1 4 1 = true := by decide +kernel
theorem q20_44 : decode (mB 20) 44 = .ok (.istore 5, 2) := by decide +kernel
theorem q20_46 : decode (mB 20) 46 = .ok (.iload_n 1, 1) := by decide +kernel
theorem q20_47 : decode (mB 20) 47 = .ok (.iconst 2, 1) := by decide +kernel
theorem q20_48 : cfB 20 48 31 11 0 4 2 = true := by decide +kernel
theorem q20_51 : decode (mB 20) 51 = .ok (.istore 6, 2) := by decide +kernel
theorem q20_53 : decode (mB 20) 53 = .ok (.aload_n 0, 1) := by decide +kernel
theorem q20_54 : gfB 20 54 9 1 0 = true := by decide +kernel
theorem q20_57 : decode (mB 20) 57 = .ok (.iload 6, 2) := by decide +kernel
theorem q20_59 : cfB 20 59 37 47 1 4 1 = true := by decide +kernel
theorem q20_62 : decode (mB 20) 62 = .ok (.istore 7, 2) := by decide +kernel
theorem q20_64 : decode (mB 20) 64 = .ok (.iload_n 1, 1) := by decide +kernel
theorem q20_65 : cfB 20 65 66 13 0 4 1 = true := by decide +kernel
theorem q20_68 : cfB 20 68 69 106 0 4 1 = true := by decide +kernel
theorem q20_71 : decode (mB 20) 71 = .ok (.istore 8, 2) := by decide +kernel
theorem q20_73 : decode (mB 20) 73 = .ok (.iconst 0, 1) := by decide +kernel
theorem q20_74 : decode (mB 20) 74 = .ok (.istore 9, 2) := by decide +kernel
theorem q20_76 : decode (mB 20) 76 = .ok (.iload 9, 2) := by decide +kernel
theorem q20_78 : decode (mB 20) 78 = .ok (.iconst 0, 1) := by decide +kernel
theorem q20_79 : decode (mB 20) 79 = .ok (.iload_n 2, 1) := by decide +kernel
theorem q20_80 : decode (mB 20) 80 = .ok (.bipush 98, 2) := by decide +kernel
theorem q20_82 : decode (mB 20) 82 = .ok (.if_icmp .ne 11, 3) := by decide +kernel
theorem q20_85 : decode (mB 20) 85 = .ok (.iload_n 3, 1) := by decide +kernel
theorem q20_86 : decode (mB 20) 86 = .ok (.ifCond .eq 7, 3) := by decide +kernel
theorem q20_89 : decode (mB 20) 89 = .ok (.iconst 1, 1) := by decide +kernel
theorem q20_90 : decode (mB 20) 90 = .ok (.goto 4, 3) := by decide +kernel
theorem q20_93 : decode (mB 20) 93 = .ok (.iconst 0, 1) := by decide +kernel
theorem q20_94 : cfB 20 94 73 21 0 4 2 = true := by decide +kernel
theorem q20_97 : decode (mB 20) 97 = .ok (.ior, 1) := by decide +kernel
theorem q20_98 : decode (mB 20) 98 = .ok (.istore 9, 2) := by decide +kernel
theorem q20_100 : decode (mB 20) 100 = .ok (.iload 9, 2) := by decide +kernel
theorem q20_102 : decode (mB 20) 102 = .ok (.iconst 1, 1) := by decide +kernel
theorem q20_103 : decode (mB 20) 103 = .ok (.iload 4, 2) := by decide +kernel
theorem q20_105 : decode (mB 20) 105 = .ok (.iconst 3, 1) := by decide +kernel
theorem q20_106 : decode (mB 20) 106 = .ok (.if_icmp .ne 13, 3) := by decide +kernel
theorem q20_109 : decode (mB 20) 109 = .ok (.iload 5, 2) := by decide +kernel
theorem q20_111 : decode (mB 20) 111 = .ok (.iconst 3, 1) := by decide +kernel
theorem q20_112 : decode (mB 20) 112 = .ok (.if_icmp .ne 7, 3) := by decide +kernel
theorem q20_115 : decode (mB 20) 115 = .ok (.iconst 1, 1) := by decide +kernel
theorem q20_116 : decode (mB 20) 116 = .ok (.goto 4, 3) := by decide +kernel
theorem q20_119 : decode (mB 20) 119 = .ok (.iconst 0, 1) := by decide +kernel
theorem q20_120 : cfB 20 120 73 21 0 4 2 = true := by decide +kernel
theorem q20_123 : decode (mB 20) 123 = .ok (.ior, 1) := by decide +kernel
theorem q20_124 : decode (mB 20) 124 = .ok (.istore 9, 2) := by decide +kernel
theorem q20_126 : decode (mB 20) 126 = .ok (.iload 9, 2) := by decide +kernel
theorem q20_128 : decode (mB 20) 128 = .ok (.iconst 2, 1) := by decide +kernel
theorem q20_129 : decode (mB 20) 129 = .ok (.iload 7, 2) := by decide +kernel
theorem q20_131 : decode (mB 20) 131 = .ok (.iconst 4, 1) := by decide +kernel
theorem q20_132 : decode (mB 20) 132 = .ok (.if_icmp .ne 7, 3) := by decide +kernel
theorem q20_135 : decode (mB 20) 135 = .ok (.iconst 1, 1) := by decide +kernel
theorem q20_136 : decode (mB 20) 136 = .ok (.goto 4, 3) := by decide +kernel
theorem q20_139 : decode (mB 20) 139 = .ok (.iconst 0, 1) := by decide +kernel
theorem q20_140 : cfB 20 140 73 21 0 4 2 = true := by decide +kernel
theorem q20_143 : decode (mB 20) 143 = .ok (.ior, 1) := by decide +kernel
theorem q20_144 : decode (mB 20) 144 = .ok (.istore 9, 2) := by decide +kernel
theorem q20_146 : decode (mB 20) 146 = .ok (.iload 9, 2) := by decide +kernel
theorem q20_148 : decode (mB 20) 148 = .ok (.iconst 3, 1) := by decide +kernel
theorem q20_149 : decode (mB 20) 149 = .ok (.iload_n 2, 1) := by decide +kernel
theorem q20_150 : decode (mB 20) 150 = .ok (.bipush 112, 2) := by decide +kernel
theorem q20_152 : decode (mB 20) 152 = .ok (.if_icmp .ne 23, 3) := by decide +kernel
theorem q20_155 : decode (mB 20) 155 = .ok (.iload_n 3, 1) := by decide +kernel
theorem q20_156 : decode (mB 20) 156 = .ok (.ifCond .eq 19, 3) := by decide +kernel
theorem q20_159 : decode (mB 20) 159 = .ok (.aload_n 0, 1) := by decide +kernel
theorem q20_160 : gfB 20 160 9 1 0 = true := by decide +kernel
theorem q20_163 : cfB 20 163 77 44 1 4 0 = true := by decide +kernel
theorem q20_166 : decode (mB 20) 166 = .ok (.bipush 20, 2) := by decide +kernel
theorem q20_168 : decode (mB 20) 168 = .ok (.if_icmp .le 7, 3) := by decide +kernel
theorem q20_171 : decode (mB 20) 171 = .ok (.iconst 1, 1) := by decide +kernel
theorem q20_172 : decode (mB 20) 172 = .ok (.goto 4, 3) := by decide +kernel
theorem q20_175 : decode (mB 20) 175 = .ok (.iconst 0, 1) := by decide +kernel
theorem q20_176 : cfB 20 176 73 21 0 4 2 = true := by decide +kernel
theorem q20_179 : decode (mB 20) 179 = .ok (.ior, 1) := by decide +kernel
theorem q20_180 : decode (mB 20) 180 = .ok (.istore 9, 2) := by decide +kernel
theorem q20_182 : decode (mB 20) 182 = .ok (.iload 9, 2) := by decide +kernel
theorem q20_184 : decode (mB 20) 184 = .ok (.iconst 4, 1) := by decide +kernel
theorem q20_185 : decode (mB 20) 185 = .ok (.iload_n 2, 1) := by decide +kernel
theorem q20_186 : decode (mB 20) 186 = .ok (.bipush 112, 2) := by decide +kernel
theorem q20_188 : decode (mB 20) 188 = .ok (.if_icmp .ne 11, 3) := by decide +kernel
theorem q20_191 : decode (mB 20) 191 = .ok (.iload_n 3, 1) := by decide +kernel
theorem q20_192 : decode (mB 20) 192 = .ok (.ifCond .ne 7, 3) := by decide +kernel
theorem q20_195 : decode (mB 20) 195 = .ok (.iconst 1, 1) := by decide +kernel
theorem q20_196 : decode (mB 20) 196 = .ok (.goto 4, 3) := by decide +kernel
theorem q20_199 : decode (mB 20) 199 = .ok (.iconst 0, 1) := by decide +kernel
theorem q20_200 : cfB 20 200 73 21 0 4 2 = true := by decide +kernel
theorem q20_203 : decode (mB 20) 203 = .ok (.ior, 1) := by decide +kernel
theorem q20_204 : decode (mB 20) 204 = .ok (.istore 9, 2) := by decide +kernel
theorem q20_206 : decode (mB 20) 206 = .ok (.iload 9, 2) := by decide +kernel
theorem q20_208 : decode (mB 20) 208 = .ok (.iconst 5, 1) := by decide +kernel
theorem q20_209 : decode (mB 20) 209 = .ok (.iload 8, 2) := by decide +kernel
theorem q20_211 : decode (mB 20) 211 = .ok (.iconst 3, 1) := by decide +kernel
theorem q20_212 : decode (mB 20) 212 = .ok (.if_icmp .lt 7, 3) := by decide +kernel
theorem q20_215 : decode (mB 20) 215 = .ok (.iconst 1, 1) := by decide +kernel
theorem q20_216 : decode (mB 20) 216 = .ok (.goto 4, 3) := by decide +kernel
theorem q20_219 : decode (mB 20) 219 = .ok (.iconst 0, 1) := by decide +kernel
theorem q20_220 : cfB 20 220 73 21 0 4 2 = true := by decide +kernel
theorem q20_223 : decode (mB 20) 223 = .ok (.ior, 1) := by decide +kernel
theorem q20_224 : decode (mB 20) 224 = .ok (.istore 9, 2) := by decide +kernel
theorem q20_226 : decode (mB 20) 226 = .ok (.iload 9, 2) := by decide +kernel
theorem q20_228 : decode (mB 20) 228 = .ok (.bipush 6, 2) := by decide +kernel
theorem q20_230 : decode (mB 20) 230 = .ok (.iload 7, 2) := by decide +kernel
theorem q20_232 : decode (mB 20) 232 = .ok (.iconst 3, 1) := by decide +kernel
theorem q20_233 : decode (mB 20) 233 = .ok (.if_icmp .ne 20, 3) := by decide +kernel
theorem q20_236 : decode (mB 20) 236 = .ok (.aload_n 0, 1) := by decide +kernel
theorem q20_237 : gfB 20 237 9 1 0 = true := by decide +kernel
theorem q20_240 : decode (mB 20) 240 = .ok (.iload 6, 2) := by decide +kernel
theorem q20_242 : cfB 20 242 81 50 1 4 1 = true := by decide +kernel
theorem q20_245 : decode (mB 20) 245 = .ok (.iconst 4, 1) := by decide +kernel
theorem q20_246 : decode (mB 20) 246 = .ok (.if_icmp .le 7, 3) := by decide +kernel
theorem q20_249 : decode (mB 20) 249 = .ok (.iconst 1, 1) := by decide +kernel
theorem q20_250 : decode (mB 20) 250 = .ok (.goto 4, 3) := by decide +kernel
theorem q20_253 : decode (mB 20) 253 = .ok (.iconst 0, 1) := by decide +kernel
theorem q20_254 : cfB 20 254 73 21 0 4 2 = true := by decide +kernel
theorem q20_257 : decode (mB 20) 257 = .ok (.ior, 1) := by decide +kernel
theorem q20_258 : decode (mB 20) 258 = .ok (.istore 9, 2) := by decide +kernel
theorem q20_260 : decode (mB 20) 260 = .ok (.iload 9, 2) := by decide +kernel
theorem q20_262 : decode (mB 20) 262 = .ok (.bipush 7, 2) := by decide +kernel
theorem q20_264 : decode (mB 20) 264 = .ok (.iload 4, 2) := by decide +kernel
theorem q20_266 : decode (mB 20) 266 = .ok (.iconst (-1), 1) := by decide +kernel
theorem q20_267 : decode (mB 20) 267 = .ok (.if_icmp .eq 9, 3) := by decide +kernel
theorem q20_270 : decode (mB 20) 270 = .ok (.iload 5, 2) := by decide +kernel
theorem q20_272 : decode (mB 20) 272 = .ok (.iconst (-1), 1) := by decide +kernel
theorem q20_273 : decode (mB 20) 273 = .ok (.if_icmp .ne 7, 3) := by decide +kernel
theorem q20_276 : decode (mB 20) 276 = .ok (.iconst 1, 1) := by decide +kernel
theorem q20_277 : decode (mB 20) 277 = .ok (.goto 4, 3) := by decide +kernel
theorem q20_280 : decode (mB 20) 280 = .ok (.iconst 0, 1) := by decide +kernel
theorem q20_281 : cfB 20 281 73 21 0 4 2 = true := by decide +kernel
theorem q20_284 : decode (mB 20) 284 = .ok (.ior, 1) := by decide +kernel
theorem q20_285 : decode (mB 20) 285 = .ok (.istore 9, 2) := by decide +kernel
theorem q20_287 : decode (mB 20) 287 = .ok (.iload 9, 2) := by decide +kernel
theorem q20_289 : decode (mB 20) 289 = .ok (.ireturn, 1) := by decide +kernel
theorem q21_0 : decode (mB 21) 0 = .ok (.iload_n 1, 1) := by decide +kernel
theorem q21_1 : decode (mB 21) 1 = .ok (.ifCond .eq 9, 3) := by decide +kernel
theorem q21_4 : decode (mB 21) 4 = .ok (.iconst 1, 1) := by decide +kernel
theorem q21_5 : decode (mB 21) 5 = .ok (.iload_n 0, 1) := by decide +kernel
theorem q21_6 : decode (mB 21) 6 = .ok (.ishl, 1) := by decide +kernel
theorem q21_7 : decode (mB 21) 7 = .ok (.goto 4, 3) := by decide +kernel
theorem q21_10 : decode (mB 21) 10 = .ok (.iconst 0, 1) := by decide +kernel
theorem q21_11 : decode (mB 21) 11 = .ok (.ireturn, 1) := by decide +kernel
theorem q22_0 : decode (mB 22) 0 = .ok (.iload_n 0, 1) := by decide +kernel
theorem q22_1 : decode (mB 22) 1 = .ok (.iconst 2, 1) := by decide +kernel
theorem q22_2 : decode (mB 22) 2 = .ok (.isub, 1) := by decide +kernel
theorem q22_3 : decode (mB 22) 3 = .ok (.iconst 4, 1) := by decide +kernel
theorem q22_4 : decode (mB 22) 4 = .ok (.imul, 1) := by decide +kernel
theorem q22_5 : decode (mB 22) 5 = .ok (.iload_n 1, 1) := by decide +kernel
theorem q22_6 : decode (mB 22) 6 = .ok (.iadd, 1) := by decide +kernel
theorem q22_7 : decode (mB 22) 7 = .ok (.istore_n 2, 1) := by decide +kernel
theorem q22_8 : decode (mB 22) 8 = .ok (.iload_n 2, 1) := by decide +kernel
theorem q22_9 : decode (mB 22) 9 = .ok (.ifCond .lt 19, 3) := by decide +kernel
theorem q22_12 : decode (mB 22) 12 = .ok (.iload_n 2, 1) := by decide +kernel
theorem q22_13 : gsB 22 13 84 2 1 = true := by decide +kernel
theorem q22_16 : decode (mB 22) 16 = .ok (.arraylength, 1) := by decide +kernel
theorem q22_17 : decode (mB 22) 17 = .ok (.if_icmp .ge 11, 3) := by decide +kernel
theorem q22_20 : gsB 22 20 84 2 1 = true := by decide +kernel
theorem q22_23 : decode (mB 22) 23 = .ok (.iload_n 2, 1) := by decide +kernel
theorem q22_24 : decode (mB 22) 24 = .ok (.iaload, 1) := by decide +kernel
theorem q22_25 : decode (mB 22) 25 = .ok (.goto 4, 3) := by decide +kernel
theorem q22_28 : decode (mB 22) 28 = .ok (.iconst 0, 1) := by decide +kernel
theorem q22_29 : decode (mB 22) 29 = .ok (.ireturn, 1) := by decide +kernel
theorem q23_0 : decode (mB 23) 0 = .ok (.aload_n 0, 1) := by decide +kernel
theorem q23_1 : (decide (23 < 152) && decide (decode (mB 23) 1 = .ok (.invokespecial 3, 3)) && (lks (mD 23)).contains (3, 2, 0, 0) && decide (1 ≤ mV 23)) = true := by decide +kernel
theorem q23_4 : decode (mB 23) 4 = .ok (.aload_n 0, 1) := by decide +kernel
theorem q23_5 : decode (mB 23) 5 = .ok (.aload_n 1, 1) := by decide +kernel
theorem q23_6 : pfB 23 6 9 2 0 = true := by decide +kernel
theorem q23_9 : decode (mB 23) 9 = .ok (.aload_n 0, 1) := by decide +kernel
theorem q23_10 : decode (mB 23) 10 = .ok (.bipush 45, 2) := by decide +kernel
theorem q23_12 : pfB 23 12 15 2 2 = true := by decide +kernel
theorem q23_15 : decode (mB 23) 15 = .ok (.return_, 1) := by decide +kernel
theorem q24_0 : decode (mB 24) 0 = .ok (.iconst 1, 1) := by decide +kernel
theorem q24_1 : decode (mB 24) 1 = .ok (.iload_n 1, 1) := by decide +kernel
theorem q24_2 : decode (mB 24) 2 = .ok (.ishl, 1) := by decide +kernel
theorem q24_3 : decode (mB 24) 3 = .ok (.istore_n 3, 1) := by decide +kernel
theorem q24_4 : decode (mB 24) 4 = .ok (.aload_n 0, 1) := by decide +kernel
theorem q24_5 : decode (mB 24) 5 = .ok (.iload_n 2, 1) := by decide +kernel
theorem q24_6 : decode (mB 24) 6 = .ok (.ifCond .eq 12, 3) := by decide +kernel
theorem q24_9 : decode (mB 24) 9 = .ok (.aload_n 0, 1) := by decide +kernel
theorem q24_10 : gfB 24 10 19 2 1 = true := by decide +kernel
theorem q24_13 : decode (mB 24) 13 = .ok (.iload_n 3, 1) := by decide +kernel
theorem q24_14 : decode (mB 24) 14 = .ok (.ior, 1) := by decide +kernel
theorem q24_15 : decode (mB 24) 15 = .ok (.goto 11, 3) := by decide +kernel
theorem q24_18 : decode (mB 24) 18 = .ok (.aload_n 0, 1) := by decide +kernel
theorem q24_19 : gfB 24 19 19 2 1 = true := by decide +kernel
theorem q24_22 : decode (mB 24) 22 = .ok (.iload_n 3, 1) := by decide +kernel
theorem q24_23 : decode (mB 24) 23 = .ok (.iconst (-1), 1) := by decide +kernel
theorem q24_24 : decode (mB 24) 24 = .ok (.ixor, 1) := by decide +kernel
theorem q24_25 : decode (mB 24) 25 = .ok (.iand, 1) := by decide +kernel
theorem q24_26 : pfB 24 26 19 2 1 = true := by decide +kernel
theorem q24_29 : decode (mB 24) 29 = .ok (.aload_n 0, 1) := by decide +kernel
theorem q24_30 : gfB 24 30 19 2 1 = true := by decide +kernel
theorem q24_33 : cfB 24 33 23 106 0 4 1 = true := by decide +kernel
theorem q24_36 : decode (mB 24) 36 = .ok (.ireturn, 1) := by decide +kernel
theorem q25_0 : decode (mB 25) 0 = .ok (.aload_n 0, 1) := by decide +kernel
theorem q25_1 : gfB 25 1 15 2 2 = true := by decide +kernel
theorem q25_4 : decode (mB 25) 4 = .ok (.istore_n 2, 1) := by decide +kernel
theorem q25_5 : decode (mB 25) 5 = .ok (.aload_n 0, 1) := by decide +kernel
theorem q25_6 : decode (mB 25) 6 = .ok (.iload_n 1, 1) := by decide +kernel
theorem q25_7 : pfB 25 7 15 2 2 = true := by decide +kernel
theorem q25_10 : decode (mB 25) 10 = .ok (.iload_n 2, 1) := by decide +kernel
theorem q25_11 : decode (mB 25) 11 = .ok (.ireturn, 1) := by decide +kernel
theorem q26_0 : decode (mB 26) 0 = .ok (.iload_n 1, 1) := by decide +kernel
theorem q26_1 : decode (mB 26) 1 = .ok (.iconst (-1), 1) := by decide +kernel
theorem q26_2 : decode (mB 26) 2 = .ok (.if_icmp .eq 22, 3) := by decide +kernel
theorem q26_5 : decode (mB 26) 5 = .ok (.aload_n 0, 1) := by decide +kernel
theorem q26_6 : gfB 26 6 29 2 3 = true := by decide +kernel
theorem q26_9 : decode (mB 26) 9 = .ok (.iload_n 1, 1) := by decide +kernel
theorem q26_10 : decode (mB 26) 10 = .ok (.iconst 4, 1) := by decide +kernel
theorem q26_11 : decode (mB 26) 11 = .ok (.imul, 1) := by decide +kernel
theorem q26_12 : decode (mB 26) 12 = .ok (.iload_n 2, 1) := by decide +kernel
theorem q26_13 : decode (mB 26) 13 = .ok (.iadd, 1) := by decide +kernel
theorem q26_14 : decode (mB 26) 14 = .ok (.ishr, 1) := by decide +kernel
theorem q26_15 : decode (mB 26) 15 = .ok (.iconst 1, 1) := by decide +kernel
theorem q26_16 : decode (mB 26) 16 = .ok (.iand, 1) := by decide +kernel
theorem q26_17 : decode (mB 26) 17 = .ok (.ifCond .eq 7, 3) := by decide +kernel
theorem q26_20 : decode (mB 26) 20 = .ok (.iconst 1, 1) := by decide +kernel
theorem q26_21 : decode (mB 26) 21 = .ok (.goto 4, 3) := by decide +kernel
theorem q26_24 : decode (mB 26) 24 = .ok (.iconst 0, 1) := by decide +kernel
theorem q26_25 : decode (mB 26) 25 = .ok (.ireturn, 1) := by decide +kernel
theorem q27_0 : decode (mB 27) 0 = .ok (.aload_n 0, 1) := by decide +kernel
theorem q27_1 : decode (mB 27) 1 = .ok (.dup, 1) := by decide +kernel
theorem q27_2 : gfB 27 2 29 2 3 = true := by decide +kernel
theorem q27_5 : decode (mB 27) 5 = .ok (.iconst 1, 1) := by decide +kernel
theorem q27_6 : decode (mB 27) 6 = .ok (.iload_n 1, 1) := by decide +kernel
theorem q27_7 : decode (mB 27) 7 = .ok (.iconst 4, 1) := by decide +kernel
theorem q27_8 : decode (mB 27) 8 = .ok (.imul, 1) := by decide +kernel
theorem q27_9 : decode (mB 27) 9 = .ok (.iload_n 2, 1) := by decide +kernel
theorem q27_10 : decode (mB 27) 10 = .ok (.iadd, 1) := by decide +kernel
theorem q27_11 : decode (mB 27) 11 = .ok (.ishl, 1) := by decide +kernel
theorem q27_12 : decode (mB 27) 12 = .ok (.ixor, 1) := by decide +kernel
theorem q27_13 : pfB 27 13 29 2 3 = true := by decide +kernel
theorem q27_16 : decode (mB 27) 16 = .ok (.aload_n 0, 1) := by decide +kernel
theorem q27_17 : gfB 27 17 29 2 3 = true := by decide +kernel
theorem q27_20 : cfB 27 20 23 106 0 4 1 = true := by decide +kernel
theorem q27_23 : decode (mB 27) 23 = .ok (.ireturn, 1) := by decide +kernel
theorem q28_0 : decode (mB 28) 0 = .ok (.aload_n 0, 1) := by decide +kernel
theorem q28_1 : decode (mB 28) 1 = .ok (.iload_n 1, 1) := by decide +kernel
theorem q28_2 : cfB 28 2 32 29 1 4 1 = true := by decide +kernel
theorem q28_5 : decode (mB 28) 5 = .ok (.ifCond .ne 7, 3) := by decide +kernel
theorem q28_8 : decode (mB 28) 8 = .ok (.iconst 1, 1) := by decide +kernel
theorem q28_9 : decode (mB 28) 9 = .ok (.goto 4, 3) := by decide +kernel
theorem q28_12 : decode (mB 28) 12 = .ok (.iconst 0, 1) := by decide +kernel
theorem q28_13 : decode (mB 28) 13 = .ok (.ireturn, 1) := by decide +kernel
theorem q29_0 : decode (mB 29) 0 = .ok (.iload_n 1, 1) := by decide +kernel
theorem q29_1 : cfB 29 1 35 9 0 4 1 = true := by decide +kernel
theorem q29_4 : decode (mB 29) 4 = .ok (.istore_n 2, 1) := by decide +kernel
theorem q29_5 : decode (mB 29) 5 = .ok (.iload_n 1, 1) := by decide +kernel
theorem q29_6 : cfB 29 6 41 10 0 4 1 = true := by decide +kernel
theorem q29_9 : decode (mB 29) 9 = .ok (.istore_n 3, 1) := by decide +kernel
theorem q29_10 : decode (mB 29) 10 = .ok (.aload_n 0, 1) := by decide +kernel
theorem q29_11 : gfB 29 11 9 2 0 = true := by decide +kernel
theorem q29_14 : decode (mB 29) 14 = .ok (.iload_n 1, 1) := by decide +kernel
theorem q29_15 : decode (mB 29) 15 = .ok (.iconst 0, 1) := by decide +kernel
theorem q29_16 : cfB 29 16 44 11 0 4 2 = true := by decide +kernel
theorem q29_19 : cfB 29 19 48 47 1 4 1 = true := by decide +kernel
theorem q29_22 : decode (mB 29) 22 = .ok (.istore 4, 2) := by decide +kernel
theorem q29_24 : decode (mB 29) 24 = .ok (.aload_n 0, 1) := by decide +kernel
theorem q29_25 : gfB 29 25 9 2 0 = true := by decide +kernel
theorem q29_28 : decode (mB 29) 28 = .ok (.iload_n 1, 1) := by decide +kernel
theorem q29_29 : decode (mB 29) 29 = .ok (.iconst 1, 1) := by decide +kernel
theorem q29_30 : cfB 29 30 44 11 0 4 2 = true := by decide +kernel
theorem q29_33 : cfB 29 33 48 47 1 4 1 = true := by decide +kernel
theorem q29_36 : decode (mB 29) 36 = .ok (.istore 5, 2) := by decide +kernel
theorem q29_38 : decode (mB 29) 38 = .ok (.aload_n 0, 1) := by decide +kernel
theorem q29_39 : gfB 29 39 9 2 0 = true := by decide +kernel
theorem q29_42 : decode (mB 29) 42 = .ok (.iload_n 1, 1) := by decide +kernel
theorem q29_43 : decode (mB 29) 43 = .ok (.iconst 3, 1) := by decide +kernel
theorem q29_44 : cfB 29 44 44 11 0 4 2 = true := by decide +kernel
theorem q29_47 : cfB 29 47 48 47 1 4 1 = true := by decide +kernel
theorem q29_50 : decode (mB 29) 50 = .ok (.istore 6, 2) := by decide +kernel
theorem q29_52 : decode (mB 29) 52 = .ok (.iload 5, 2) := by decide +kernel
theorem q29_54 : decode (mB 29) 54 = .ok (.iconst 4, 1) := by decide +kernel
theorem q29_55 : decode (mB 29) 55 = .ok (.if_icmp .eq 8, 3) := by decide +kernel
theorem q29_58 : decode (mB 29) 58 = .ok (.iload_n 3, 1) := by decide +kernel
theorem q29_59 : decode (mB 29) 59 = .ok (.iconst 1, 1) := by decide +kernel
theorem q29_60 : decode (mB 29) 60 = .ok (.if_icmp .ne 7, 3) := by decide +kernel
theorem q29_63 : decode (mB 29) 63 = .ok (.iconst 1, 1) := by decide +kernel
theorem q29_64 : decode (mB 29) 64 = .ok (.goto 4, 3) := by decide +kernel
theorem q29_67 : decode (mB 29) 67 = .ok (.iconst 0, 1) := by decide +kernel
theorem q29_68 : decode (mB 29) 68 = .ok (.istore 7, 2) := by decide +kernel
theorem q29_70 : decode (mB 29) 70 = .ok (.iload 4, 2) := by decide +kernel
theorem q29_72 : decode (mB 29) 72 = .ok (.iconst (-1), 1) := by decide +kernel
theorem q29_73 : decode (mB 29) 73 = .ok (.if_icmp .ne 11, 3) := by decide +kernel
theorem q29_76 : decode (mB 29) 76 = .ok (.iload 5, 2) := by decide +kernel
theorem q29_78 : decode (mB 29) 78 = .ok (.iconst (-1), 1) := by decide +kernel
theorem q29_79 : decode (mB 29) 79 = .ok (.if_icmp .ne 5, 3) := by decide +kernel
theorem q29_82 : decode (mB 29) 82 = .ok (.iconst 1, 1) := by decide +kernel
theorem q29_83 : decode (mB 29) 83 = .ok (.ireturn, 1) := by decide +kernel
theorem q29_84 : decode (mB 29) 84 = .ok (.aload_n 0, 1) := by decide +kernel
theorem q29_85 : decode (mB 29) 85 = .ok (.iload_n 1, 1) := by decide +kernel
theorem q29_86 : cfB 29 86 53 30 1 4 1 = true := by decide +kernel
theorem q29_89 : decode (mB 29) 89 = .ok (.ifCond .eq 5, 3) := by decide +kernel
theorem q29_92 : decode (mB 29) 92 = .ok (.iconst 2, 1) := by decide +kernel
theorem q29_93 : decode (mB 29) 93 = .ok (.ireturn, 1) := by decide +kernel
theorem q29_94 : decode (mB 29) 94 = .ok (.iload 6, 2) := by decide +kernel
theorem q29_96 : decode (mB 29) 96 = .ok (.iconst (-1), 1) := by decide +kernel
theorem q29_97 : decode (mB 29) 97 = .ok (.if_icmp .eq 17, 3) := by decide +kernel
theorem q29_100 : decode (mB 29) 100 = .ok (.iload 6, 2) := by decide +kernel
theorem q29_102 : decode (mB 29) 102 = .ok (.iconst 4, 1) := by decide +kernel
theorem q29_103 : decode (mB 29) 103 = .ok (.if_icmp .ne 9, 3) := by decide +kernel
theorem q29_106 : decode (mB 29) 106 = .ok (.iload_n 2, 1) := by decide +kernel
theorem q29_107 : decode (mB 29) 107 = .ok (.bipush 112, 2) := by decide +kernel
theorem q29_109 : decode (mB 29) 109 = .ok (.if_icmp .eq 5, 3) := by decide +kernel
theorem q29_112 : decode (mB 29) 112 = .ok (.iconst 3, 1) := by decide +kernel
theorem q29_113 : decode (mB 29) 113 = .ok (.ireturn, 1) := by decide +kernel
theorem q29_114 : decode (mB 29) 114 = .ok (.iload_n 2, 1) := by decide +kernel
theorem q29_115 : decode (mB 29) 115 = .ok (.bipush 98, 2) := by decide +kernel
theorem q29_117 : decode (mB 29) 117 = .ok (.if_icmp .ne 22, 3) := by decide +kernel
theorem q29_120 : decode (mB 29) 120 = .ok (.iload 4, 2) := by decide +kernel
theorem q29_122 : decode (mB 29) 122 = .ok (.iconst 3, 1) := by decide +kernel
theorem q29_123 : decode (mB 29) 123 = .ok (.if_icmp .eq 9, 3) := by decide +kernel
theorem q29_126 : decode (mB 29) 126 = .ok (.iload 4, 2) := by decide +kernel
theorem q29_128 : decode (mB 29) 128 = .ok (.iconst 2, 1) := by decide +kernel
theorem q29_129 : decode (mB 29) 129 = .ok (.if_icmp .ne 8, 3) := by decide +kernel
theorem q29_132 : decode (mB 29) 132 = .ok (.iload 7, 2) := by decide +kernel
theorem q29_134 : decode (mB 29) 134 = .ok (.ifCond .ne 5, 3) := by decide +kernel
theorem q29_137 : decode (mB 29) 137 = .ok (.iconst 4, 1) := by decide +kernel
theorem q29_138 : decode (mB 29) 138 = .ok (.ireturn, 1) := by decide +kernel
theorem q29_139 : decode (mB 29) 139 = .ok (.iload_n 2, 1) := by decide +kernel
theorem q29_140 : decode (mB 29) 140 = .ok (.bipush 108, 2) := by decide +kernel
theorem q29_142 : decode (mB 29) 142 = .ok (.if_icmp .ne 22, 3) := by decide +kernel
theorem q29_145 : decode (mB 29) 145 = .ok (.iload 4, 2) := by decide +kernel
theorem q29_147 : decode (mB 29) 147 = .ok (.iconst 2, 1) := by decide +kernel
theorem q29_148 : decode (mB 29) 148 = .ok (.if_icmp .eq 9, 3) := by decide +kernel
theorem q29_151 : decode (mB 29) 151 = .ok (.iload 4, 2) := by decide +kernel
theorem q29_153 : decode (mB 29) 153 = .ok (.iconst 4, 1) := by decide +kernel
theorem q29_154 : decode (mB 29) 154 = .ok (.if_icmp .ne 8, 3) := by decide +kernel
theorem q29_157 : decode (mB 29) 157 = .ok (.iload 7, 2) := by decide +kernel
theorem q29_159 : decode (mB 29) 159 = .ok (.ifCond .ne 5, 3) := by decide +kernel
theorem q29_162 : decode (mB 29) 162 = .ok (.iconst 5, 1) := by decide +kernel
theorem q29_163 : decode (mB 29) 163 = .ok (.ireturn, 1) := by decide +kernel
theorem q29_164 : decode (mB 29) 164 = .ok (.iload_n 3, 1) := by decide +kernel
theorem q29_165 : decode (mB 29) 165 = .ok (.iconst 1, 1) := by decide +kernel
theorem q29_166 : decode (mB 29) 166 = .ok (.if_icmp .ne 12, 3) := by decide +kernel
theorem q29_169 : decode (mB 29) 169 = .ok (.iload 5, 2) := by decide +kernel
theorem q29_171 : decode (mB 29) 171 = .ok (.iconst (-1), 1) := by decide +kernel
theorem q29_172 : decode (mB 29) 172 = .ok (.if_icmp .eq 6, 3) := by decide +kernel
theorem q29_175 : decode (mB 29) 175 = .ok (.bipush 6, 2) := by decide +kernel
theorem q29_177 : decode (mB 29) 177 = .ok (.ireturn, 1) := by decide +kernel
theorem q29_178 : decode (mB 29) 178 = .ok (.iload_n 3, 1) := by decide +kernel
theorem q29_179 : decode (mB 29) 179 = .ok (.iconst 2, 1) := by decide +kernel
theorem q29_180 : decode (mB 29) 180 = .ok (.if_icmp .ne 24, 3) := by decide +kernel
theorem q29_183 : decode (mB 29) 183 = .ok (.iload 5, 2) := by decide +kernel
theorem q29_185 : decode (mB 29) 185 = .ok (.iconst 4, 1) := by decide +kernel
theorem q29_186 : decode (mB 29) 186 = .ok (.if_icmp .ne 15, 3) := by decide +kernel
theorem q29_189 : decode (mB 29) 189 = .ok (.iload 4, 2) := by decide +kernel
theorem q29_191 : decode (mB 29) 191 = .ok (.iconst 3, 1) := by decide +kernel
theorem q29_192 : decode (mB 29) 192 = .ok (.if_icmp .eq 12, 3) := by decide +kernel
theorem q29_195 : decode (mB 29) 195 = .ok (.iload 4, 2) := by decide +kernel
theorem q29_197 : decode (mB 29) 197 = .ok (.iconst 2, 1) := by decide +kernel
theorem q29_198 : decode (mB 29) 198 = .ok (.if_icmp .eq 6, 3) := by decide +kernel
theorem q29_201 : decode (mB 29) 201 = .ok (.bipush 7, 2) := by decide +kernel
theorem q29_203 : decode (mB 29) 203 = .ok (.ireturn, 1) := by decide +kernel
theorem q29_204 : decode (mB 29) 204 = .ok (.aload_n 0, 1) := by decide +kernel
theorem q29_205 : decode (mB 29) 205 = .ok (.iload_n 1, 1) := by decide +kernel
theorem q29_206 : cfB 29 206 57 31 1 4 1 = true := by decide +kernel
theorem q29_209 : decode (mB 29) 209 = .ok (.ifCond .eq 6, 3) := by decide +kernel
theorem q29_212 : decode (mB 29) 212 = .ok (.bipush 8, 2) := by decide +kernel
theorem q29_214 : decode (mB 29) 214 = .ok (.ireturn, 1) := by decide +kernel
theorem q29_215 : decode (mB 29) 215 = .ok (.aload_n 0, 1) := by decide +kernel
theorem q29_216 : decode (mB 29) 216 = .ok (.iload_n 1, 1) := by decide +kernel
theorem q29_217 : cfB 29 217 60 32 1 4 1 = true := by decide +kernel
theorem q29_220 : decode (mB 29) 220 = .ok (.ifCond .eq 7, 3) := by decide +kernel
theorem q29_223 : decode (mB 29) 223 = .ok (.iconst 0, 1) := by decide +kernel
theorem q29_224 : decode (mB 29) 224 = .ok (.goto 5, 3) := by decide +kernel
theorem q29_227 : decode (mB 29) 227 = .ok (.bipush 9, 2) := by decide +kernel
theorem q29_229 : decode (mB 29) 229 = .ok (.ireturn, 1) := by decide +kernel
theorem q30_0 : decode (mB 30) 0 = .ok (.iconst 0, 1) := by decide +kernel
theorem q30_1 : decode (mB 30) 1 = .ok (.istore_n 2, 1) := by decide +kernel
theorem q30_2 : decode (mB 30) 2 = .ok (.iload_n 2, 1) := by decide +kernel
theorem q30_3 : decode (mB 30) 3 = .ok (.iconst 4, 1) := by decide +kernel
theorem q30_4 : decode (mB 30) 4 = .ok (.if_icmp .ge 29, 3) := by decide +kernel
theorem q30_7 : decode (mB 30) 7 = .ok (.aload_n 0, 1) := by decide +kernel
theorem q30_8 : gfB 30 8 9 2 0 = true := by decide +kernel
theorem q30_11 : decode (mB 30) 11 = .ok (.iload_n 1, 1) := by decide +kernel
theorem q30_12 : decode (mB 30) 12 = .ok (.iload_n 2, 1) := by decide +kernel
theorem q30_13 : cfB 30 13 44 11 0 4 2 = true := by decide +kernel
theorem q30_16 : cfB 30 16 48 47 1 4 1 = true := by decide +kernel
theorem q30_19 : cfB 30 19 63 53 0 4 1 = true := by decide +kernel
theorem q30_22 : decode (mB 30) 22 = .ok (.ifCond .eq 5, 3) := by decide +kernel
theorem q30_25 : decode (mB 30) 25 = .ok (.iconst 1, 1) := by decide +kernel
theorem q30_26 : decode (mB 30) 26 = .ok (.ireturn, 1) := by decide +kernel
theorem q30_27 : decode (mB 30) 27 = .ok (.iinc 2 1, 3) := by decide +kernel
theorem q30_30 : decode (mB 30) 30 = .ok (.goto (-28), 3) := by decide +kernel
theorem q30_33 : decode (mB 30) 33 = .ok (.iconst 0, 1) := by decide +kernel
theorem q30_34 : decode (mB 30) 34 = .ok (.ireturn, 1) := by decide +kernel
theorem q31_0 : decode (mB 31) 0 = .ok (.iconst 0, 1) := by decide +kernel
theorem q31_1 : decode (mB 31) 1 = .ok (.istore_n 2, 1) := by decide +kernel
theorem q31_2 : decode (mB 31) 2 = .ok (.iload_n 2, 1) := by decide +kernel
theorem q31_3 : decode (mB 31) 3 = .ok (.iconst 4, 1) := by decide +kernel
theorem q31_4 : decode (mB 31) 4 = .ok (.if_icmp .ge 24, 3) := by decide +kernel
theorem q31_7 : decode (mB 31) 7 = .ok (.aload_n 0, 1) := by decide +kernel
theorem q31_8 : decode (mB 31) 8 = .ok (.iload_n 1, 1) := by decide +kernel
theorem q31_9 : decode (mB 31) 9 = .ok (.iload_n 2, 1) := by decide +kernel
theorem q31_10 : cfB 31 10 44 11 0 4 2 = true := by decide +kernel
theorem q31_13 : decode (mB 31) 13 = .ok (.iload_n 2, 1) := by decide +kernel
theorem q31_14 : cfB 31 14 66 26 1 4 2 = true := by decide +kernel
theorem q31_17 : decode (mB 31) 17 = .ok (.ifCond .eq 5, 3) := by decide +kernel
theorem q31_20 : decode (mB 31) 20 = .ok (.iconst 1, 1) := by decide +kernel
theorem q31_21 : decode (mB 31) 21 = .ok (.ireturn, 1) := by decide +kernel
theorem q31_22 : decode (mB 31) 22 = .ok (.iinc 2 1, 3) := by decide +kernel
theorem q31_25 : decode (mB 31) 25 = .ok (.goto (-23), 3) := by decide +kernel
theorem q31_28 : decode (mB 31) 28 = .ok (.iconst 0, 1) := by decide +kernel
theorem q31_29 : decode (mB 31) 29 = .ok (.ireturn, 1) := by decide +kernel
theorem q32_0 : decode (mB 32) 0 = .ok (.aload_n 0, 1) := by decide +kernel
theorem q32_1 : gfB 32 1 15 2 2 = true := by decide +kernel
theorem q32_4 : decode (mB 32) 4 = .ok (.bipush 45, 2) := by decide +kernel
theorem q32_6 : decode (mB 32) 6 = .ok (.if_icmp .eq 14, 3) := by decide +kernel
theorem q32_9 : decode (mB 32) 9 = .ok (.aload_n 0, 1) := by decide +kernel
theorem q32_10 : gfB 32 10 15 2 2 = true := by decide +kernel
theorem q32_13 : decode (mB 32) 13 = .ok (.iload_n 1, 1) := by decide +kernel
theorem q32_14 : cfB 32 14 35 9 0 4 1 = true := by decide +kernel
theorem q32_17 : decode (mB 32) 17 = .ok (.if_icmp .ne 7, 3) := by decide +kernel
theorem q32_20 : decode (mB 32) 20 = .ok (.iconst 1, 1) := by decide +kernel
theorem q32_21 : decode (mB 32) 21 = .ok (.goto 4, 3) := by decide +kernel
theorem q32_24 : decode (mB 32) 24 = .ok (.iconst 0, 1) := by decide +kernel
theorem q32_25 : decode (mB 32) 25 = .ok (.istore_n 2, 1) := by decide +kernel
theorem q32_26 : decode (mB 32) 26 = .ok (.iload_n 2, 1) := by decide +kernel
theorem q32_27 : decode (mB 32) 27 = .ok (.ifCond .eq 21, 3) := by decide +kernel
theorem q32_30 : decode (mB 32) 30 = .ok (.aload_n 0, 1) := by decide +kernel
theorem q32_31 : gfB 32 31 19 2 1 = true := by decide +kernel
theorem q32_34 : decode (mB 32) 34 = .ok (.iload_n 1, 1) := by decide +kernel
theorem q32_35 : cfB 32 35 70 13 0 4 1 = true := by decide +kernel
theorem q32_38 : decode (mB 32) 38 = .ok (.iconst (-1), 1) := by decide +kernel
theorem q32_39 : decode (mB 32) 39 = .ok (.ixor, 1) := by decide +kernel
theorem q32_40 : decode (mB 32) 40 = .ok (.iand, 1) := by decide +kernel
theorem q32_41 : decode (mB 32) 41 = .ok (.ifCond .ne 7, 3) := by decide +kernel
theorem q32_44 : decode (mB 32) 44 = .ok (.iconst 1, 1) := by decide +kernel
theorem q32_45 : decode (mB 32) 45 = .ok (.goto 4, 3) := by decide +kernel
theorem q32_48 : decode (mB 32) 48 = .ok (.iconst 0, 1) := by decide +kernel
theorem q32_49 : decode (mB 32) 49 = .ok (.ireturn, 1) := by decide +kernel
theorem q33_0 : decode (mB 33) 0 = .ok (.aload_n 0, 1) := by decide +kernel
theorem q33_1 : (decide (33 < 152) && decide (decode (mB 33) 1 = .ok (.invokespecial 3, 3)) && (lks (mD 33)).contains (3, 2, 0, 0) && decide (1 ≤ mV 33)) = true := by decide +kernel
theorem q33_4 : decode (mB 33) 4 = .ok (.aload_n 0, 1) := by decide +kernel
theorem q33_5 : decode (mB 33) 5 = .ok (.iconst 4, 1) := by decide +kernel
theorem q33_6 : naB 33 6 0 = true := by decide +kernel
theorem q33_8 : pfB 33 8 11 3 0 = true := by decide +kernel
theorem q33_11 : decode (mB 33) 11 = .ok (.aload_n 0, 1) := by decide +kernel
theorem q33_12 : decode (mB 33) 12 = .ok (.iconst (-1), 1) := by decide +kernel
theorem q33_13 : pfB 33 13 15 3 2 = true := by decide +kernel
theorem q33_16 : decode (mB 33) 16 = .ok (.return_, 1) := by decide +kernel
theorem q34_0 : decode (mB 34) 0 = .ok (.iload_n 0, 1) := by decide +kernel
theorem q34_1 : decode (mB 34) 1 = .ok (.i2l, 1) := by decide +kernel
theorem q34_2 : decode (mB 34) 2 = .ok (.bipush 24, 2) := by decide +kernel
theorem q34_4 : decode (mB 34) 4 = .ok (.lshl, 1) := by decide +kernel
theorem q34_5 : decode (mB 34) 5 = .ok (.iload_n 1, 1) := by decide +kernel
theorem q34_6 : decode (mB 34) 6 = .ok (.i2l, 1) := by decide +kernel
theorem q34_7 : decode (mB 34) 7 = .ok (.lor, 1) := by decide +kernel
theorem q34_8 : decode (mB 34) 8 = .ok (.lreturn, 1) := by decide +kernel
theorem q35_0 : decode (mB 35) 0 = .ok (.lload_n 0, 1) := by decide +kernel
theorem q35_1 : decode (mB 35) 1 = .ok (.bipush 24, 2) := by decide +kernel
theorem q35_3 : decode (mB 35) 3 = .ok (.lshr, 1) := by decide +kernel
theorem q35_4 : decode (mB 35) 4 = .ok (.l2i, 1) := by decide +kernel
theorem q35_5 : decode (mB 35) 5 = .ok (.ireturn, 1) := by decide +kernel
theorem q36_0 : decode (mB 36) 0 = .ok (.lload_n 0, 1) := by decide +kernel
theorem q36_1 : (decide (36 < 152) && decide (decode (mB 36) 1 = .ok (.ldc2_w 9, 3)) && (lks (mD 36)).contains (9, 7, 16777215, 0)) = true := by decide +kernel
theorem q36_4 : decode (mB 36) 4 = .ok (.land, 1) := by decide +kernel
theorem q36_5 : decode (mB 36) 5 = .ok (.l2i, 1) := by decide +kernel
theorem q36_6 : decode (mB 36) 6 = .ok (.ireturn, 1) := by decide +kernel
theorem q37_0 : decode (mB 37) 0 = .ok (.aload_n 0, 1) := by decide +kernel
theorem q37_1 : (decide (37 < 152) && decide (decode (mB 37) 1 = .ok (.invokespecial 3, 3)) && (lks (mD 37)).contains (3, 2, 0, 0) && decide (1 ≤ mV 37)) = true := by decide +kernel
theorem q37_4 : decode (mB 37) 4 = .ok (.aload_n 0, 1) := by decide +kernel
theorem q37_5 : nwB 37 5 9 0 = true := by decide +kernel
theorem q37_8 : decode (mB 37) 8 = .ok (.dup, 1) := by decide +kernel
theorem q37_9 : cfB 37 9 11 0 2 4 0 = true := by decide +kernel
theorem q37_12 : pfB 37 12 12 4 2 = true := by decide +kernel
theorem q37_15 : decode (mB 37) 15 = .ok (.aload_n 0, 1) := by decide +kernel
theorem q37_16 : decode (mB 37) 16 = .ok (.iconst 1, 1) := by decide +kernel
theorem q37_17 : pfB 37 17 18 4 3 = true := by decide +kernel
theorem q37_20 : decode (mB 37) 20 = .ok (.aload_n 0, 1) := by decide +kernel
theorem q37_21 : decode (mB 37) 21 = .ok (.aload_n 1, 1) := by decide +kernel
theorem q37_22 : pfB 37 22 22 4 0 = true := by decide +kernel
theorem q37_25 : decode (mB 37) 25 = .ok (.aload_n 0, 1) := by decide +kernel
theorem q37_26 : decode (mB 37) 26 = .ok (.aload_n 2, 1) := by decide +kernel
theorem q37_27 : pfB 37 27 26 4 1 = true := by decide +kernel
theorem q37_30 : decode (mB 37) 30 = .ok (.return_, 1) := by decide +kernel
theorem q38_0 : decode (mB 38) 0 = .ok (.aload_n 0, 1) := by decide +kernel
theorem q38_1 : decode (mB 38) 1 = .ok (.iconst 1, 1) := by decide +kernel
theorem q38_2 : pfB 38 2 18 4 3 = true := by decide +kernel
theorem q38_5 : decode (mB 38) 5 = .ok (.return_, 1) := by decide +kernel
theorem q39_0 : decode (mB 39) 0 = .ok (.aload_n 0, 1) := by decide +kernel
theorem q39_1 : gfB 39 1 18 4 3 = true := by decide +kernel
theorem q39_4 : decode (mB 39) 4 = .ok (.ifCond .eq 66, 3) := by decide +kernel
theorem q39_7 : decode (mB 39) 7 = .ok (.aload_n 0, 1) := by decide +kernel
theorem q39_8 : gfB 39 8 12 4 2 = true := by decide +kernel
theorem q39_11 : cfB 39 11 30 5 1 4 0 = true := by decide +kernel
theorem q39_14 : gsB 39 14 33 0 8 = true := by decide +kernel
theorem q39_17 : decode (mB 39) 17 = .ok (.astore_n 1, 1) := by decide +kernel
theorem q39_18 : decode (mB 39) 18 = .ok (.aload_n 1, 1) := by decide +kernel
theorem q39_19 : decode (mB 39) 19 = .ok (.arraylength, 1) := by decide +kernel
theorem q39_20 : decode (mB 39) 20 = .ok (.istore_n 2, 1) := by decide +kernel
theorem q39_21 : decode (mB 39) 21 = .ok (.iconst 0, 1) := by decide +kernel
theorem q39_22 : decode (mB 39) 22 = .ok (.istore_n 3, 1) := by decide +kernel
theorem q39_23 : decode (mB 39) 23 = .ok (.iload_n 3, 1) := by decide +kernel
theorem q39_24 : decode (mB 39) 24 = .ok (.iload_n 2, 1) := by decide +kernel
theorem q39_25 : decode (mB 39) 25 = .ok (.if_icmp .ge 40, 3) := by decide +kernel
theorem q39_28 : decode (mB 39) 28 = .ok (.aload_n 1, 1) := by decide +kernel
theorem q39_29 : decode (mB 39) 29 = .ok (.iload_n 3, 1) := by decide +kernel
theorem q39_30 : decode (mB 39) 30 = .ok (.caload, 1) := by decide +kernel
theorem q39_31 : decode (mB 39) 31 = .ok (.istore 4, 2) := by decide +kernel
theorem q39_33 : decode (mB 39) 33 = .ok (.iconst 0, 1) := by decide +kernel
theorem q39_34 : decode (mB 39) 34 = .ok (.istore 5, 2) := by decide +kernel
theorem q39_36 : decode (mB 39) 36 = .ok (.iload 5, 2) := by decide +kernel
theorem q39_38 : decode (mB 39) 38 = .ok (.iconst 2, 1) := by decide +kernel
theorem q39_39 : decode (mB 39) 39 = .ok (.if_icmp .gt 20, 3) := by decide +kernel
theorem q39_42 : decode (mB 39) 42 = .ok (.aload_n 0, 1) := by decide +kernel
theorem q39_43 : decode (mB 39) 43 = .ok (.iload 4, 2) := by decide +kernel
theorem q39_45 : decode (mB 39) 45 = .ok (.iload 5, 2) := by decide +kernel
theorem q39_47 : cfB 39 47 37 8 0 4 2 = true := by decide +kernel
theorem q39_50 : cfB 39 50 43 40 1 4 1 = true := by decide +kernel
theorem q39_53 : decode (mB 39) 53 = .ok (.iinc 5 1, 3) := by decide +kernel
theorem q39_56 : decode (mB 39) 56 = .ok (.goto (-20), 3) := by decide +kernel
theorem q39_59 : decode (mB 39) 59 = .ok (.iinc 3 1, 3) := by decide +kernel
theorem q39_62 : decode (mB 39) 62 = .ok (.goto (-39), 3) := by decide +kernel
theorem q39_65 : decode (mB 39) 65 = .ok (.aload_n 0, 1) := by decide +kernel
theorem q39_66 : decode (mB 39) 66 = .ok (.iconst 0, 1) := by decide +kernel
theorem q39_67 : pfB 39 67 18 4 3 = true := by decide +kernel
theorem q39_70 : decode (mB 39) 70 = .ok (.aload_n 0, 1) := by decide +kernel
theorem q39_71 : gfB 39 71 12 4 2 = true := by decide +kernel
theorem q39_74 : decode (mB 39) 74 = .ok (.areturn, 1) := by decide +kernel
theorem q40_0 : decode (mB 40) 0 = .ok (.iconst (-1), 1) := by decide +kernel
theorem q40_1 : decode (mB 40) 1 = .ok (.istore_n 2, 1) := by decide +kernel
theorem q40_2 : decode (mB 40) 2 = .ok (.iload_n 2, 1) := by decide +kernel
theorem q40_3 : decode (mB 40) 3 = .ok (.bipush 6, 2) := by decide +kernel
theorem q40_5 : decode (mB 40) 5 = .ok (.if_icmp .ge 110, 3) := by decide +kernel
theorem q40_8 : decode (mB 40) 8 = .ok (.iload_n 1, 1) := by decide +kernel
theorem q40_9 : decode (mB 40) 9 = .ok (.iconst 0, 1) := by decide +kernel
theorem q40_10 : decode (mB 40) 10 = .ok (.iload_n 2, 1) := by decide +kernel
theorem q40_11 : cfB 40 11 47 12 0 4 3 = true := by decide +kernel
theorem q40_14 : decode (mB 40) 14 = .ok (.istore_n 3, 1) := by decide +kernel
theorem q40_15 : decode (mB 40) 15 = .ok (.iconst (-1), 1) := by decide +kernel
theorem q40_16 : decode (mB 40) 16 = .ok (.istore 4, 2) := by decide +kernel
theorem q40_18 : decode (mB 40) 18 = .ok (.iload 4, 2) := by decide +kernel
theorem q40_20 : decode (mB 40) 20 = .ok (.bipush 6, 2) := by decide +kernel
theorem q40_22 : decode (mB 40) 22 = .ok (.if_icmp .ge 87, 3) := by decide +kernel
theorem q40_25 : decode (mB 40) 25 = .ok (.iload_n 3, 1) := by decide +kernel
theorem q40_26 : decode (mB 40) 26 = .ok (.iconst 1, 1) := by decide +kernel
theorem q40_27 : decode (mB 40) 27 = .ok (.iload 4, 2) := by decide +kernel
theorem q40_29 : cfB 40 29 47 12 0 4 3 = true := by decide +kernel
theorem q40_32 : decode (mB 40) 32 = .ok (.istore 5, 2) := by decide +kernel
theorem q40_34 : decode (mB 40) 34 = .ok (.iload_n 2, 1) := by decide +kernel
theorem q40_35 : decode (mB 40) 35 = .ok (.iload 4, 2) := by decide +kernel
theorem q40_37 : decode (mB 40) 37 = .ok (.if_icmp .eq 66, 3) := by decide +kernel
theorem q40_40 : decode (mB 40) 40 = .ok (.aload_n 0, 1) := by decide +kernel
theorem q40_41 : decode (mB 40) 41 = .ok (.iload 5, 2) := by decide +kernel
theorem q40_43 : cfB 40 43 51 42 1 4 1 = true := by decide +kernel
theorem q40_46 : decode (mB 40) 46 = .ok (.ifCond .eq 6, 3) := by decide +kernel
theorem q40_49 : decode (mB 40) 49 = .ok (.goto 54, 3) := by decide +kernel
theorem q40_52 : decode (mB 40) 52 = .ok (.iconst (-1), 1) := by decide +kernel
theorem q40_53 : decode (mB 40) 53 = .ok (.istore 6, 2) := by decide +kernel
theorem q40_55 : decode (mB 40) 55 = .ok (.iload 6, 2) := by decide +kernel
theorem q40_57 : decode (mB 40) 57 = .ok (.bipush 6, 2) := by decide +kernel
theorem q40_59 : decode (mB 40) 59 = .ok (.if_icmp .ge 44, 3) := by decide +kernel
theorem q40_62 : decode (mB 40) 62 = .ok (.iload 5, 2) := by decide +kernel
theorem q40_64 : decode (mB 40) 64 = .ok (.iconst 2, 1) := by decide +kernel
theorem q40_65 : decode (mB 40) 65 = .ok (.iload 6, 2) := by decide +kernel
theorem q40_67 : cfB 40 67 47 12 0 4 3 = true := by decide +kernel
theorem q40_70 : decode (mB 40) 70 = .ok (.istore 7, 2) := by decide +kernel
theorem q40_72 : decode (mB 40) 72 = .ok (.iload 5, 2) := by decide +kernel
theorem q40_74 : decode (mB 40) 74 = .ok (.iload 6, 2) := by decide +kernel
theorem q40_76 : cfB 40 76 55 14 0 4 2 = true := by decide +kernel
theorem q40_79 : decode (mB 40) 79 = .ok (.ifCond .ne 18, 3) := by decide +kernel
theorem q40_82 : decode (mB 40) 82 = .ok (.aload_n 0, 1) := by decide +kernel
theorem q40_83 : decode (mB 40) 83 = .ok (.iload 7, 2) := by decide +kernel
theorem q40_85 : cfB 40 85 51 42 1 4 1 = true := by decide +kernel
theorem q40_88 : decode (mB 40) 88 = .ok (.ifCond .ne 9, 3) := by decide +kernel
theorem q40_91 : decode (mB 40) 91 = .ok (.aload_n 0, 1) := by decide +kernel
theorem q40_92 : decode (mB 40) 92 = .ok (.iload 7, 2) := by decide +kernel
theorem q40_94 : cfB 40 94 59 41 1 4 1 = true := by decide +kernel
theorem q40_97 : decode (mB 40) 97 = .ok (.iinc 6 1, 3) := by decide +kernel
theorem q40_100 : decode (mB 40) 100 = .ok (.goto (-45), 3) := by decide +kernel
theorem q40_103 : decode (mB 40) 103 = .ok (.iinc 4 1, 3) := by decide +kernel
theorem q40_106 : decode (mB 40) 106 = .ok (.goto (-88), 3) := by decide +kernel
theorem q40_109 : decode (mB 40) 109 = .ok (.iinc 2 1, 3) := by decide +kernel
theorem q40_112 : decode (mB 40) 112 = .ok (.goto (-110), 3) := by decide +kernel
theorem q40_115 : decode (mB 40) 115 = .ok (.return_, 1) := by decide +kernel
theorem q41_0 : decode (mB 41) 0 = .ok (.iconst (-1), 1) := by decide +kernel
theorem q41_1 : decode (mB 41) 1 = .ok (.istore_n 2, 1) := by decide +kernel
theorem q41_2 : decode (mB 41) 2 = .ok (.iload_n 2, 1) := by decide +kernel
theorem q41_3 : decode (mB 41) 3 = .ok (.bipush 6, 2) := by decide +kernel
theorem q41_5 : decode (mB 41) 5 = .ok (.if_icmp .ge 54, 3) := by decide +kernel
theorem q41_8 : decode (mB 41) 8 = .ok (.iload_n 1, 1) := by decide +kernel
theorem q41_9 : decode (mB 41) 9 = .ok (.iconst 3, 1) := by decide +kernel
theorem q41_10 : decode (mB 41) 10 = .ok (.iload_n 2, 1) := by decide +kernel
theorem q41_11 : cfB 41 11 47 12 0 4 3 = true := by decide +kernel
theorem q41_14 : decode (mB 41) 14 = .ok (.istore_n 3, 1) := by decide +kernel
theorem q41_15 : decode (mB 41) 15 = .ok (.iload_n 1, 1) := by decide +kernel
theorem q41_16 : decode (mB 41) 16 = .ok (.iload_n 2, 1) := by decide +kernel
theorem q41_17 : cfB 41 17 55 14 0 4 2 = true := by decide +kernel
theorem q41_20 : decode (mB 41) 20 = .ok (.ifCond .ne 33, 3) := by decide +kernel
theorem q41_23 : decode (mB 41) 23 = .ok (.aload_n 0, 1) := by decide +kernel
theorem q41_24 : gfB 41 24 22 4 0 = true := by decide +kernel
theorem q41_27 : decode (mB 41) 27 = .ok (.iload_n 3, 1) := by decide +kernel
theorem q41_28 : cfB 41 28 62 29 1 4 1 = true := by decide +kernel
theorem q41_31 : decode (mB 41) 31 = .ok (.ifCond .ne 22, 3) := by decide +kernel
theorem q41_34 : decode (mB 41) 34 = .ok (.aload_n 0, 1) := by decide +kernel
theorem q41_35 : gfB 41 35 12 4 2 = true := by decide +kernel
theorem q41_38 : decode (mB 41) 38 = .ok (.aload_n 0, 1) := by decide +kernel
theorem q41_39 : gfB 41 39 26 4 1 = true := by decide +kernel
theorem q41_42 : decode (mB 41) 42 = .ok (.iload_n 3, 1) := by decide +kernel
theorem q41_43 : cfB 41 43 68 19 1 4 1 = true := by decide +kernel
theorem q41_46 : decode (mB 41) 46 = .ok (.iload_n 3, 1) := by decide +kernel
theorem q41_47 : cfB 41 47 73 34 0 4 2 = true := by decide +kernel
theorem q41_50 : cfB 41 50 79 7 1 4 1 = true := by decide +kernel
theorem q41_53 : decode (mB 41) 53 = .ok (.iinc 2 1, 3) := by decide +kernel
theorem q41_56 : decode (mB 41) 56 = .ok (.goto (-54), 3) := by decide +kernel
theorem q41_59 : decode (mB 41) 59 = .ok (.return_, 1) := by decide +kernel
theorem q42_0 : decode (mB 42) 0 = .ok (.aload_n 0, 1) := by decide +kernel
theorem q42_1 : gfB 42 1 22 4 0 = true := by decide +kernel
theorem q42_4 : decode (mB 42) 4 = .ok (.iload_n 1, 1) := by decide +kernel
theorem q42_5 : cfB 42 5 62 29 1 4 1 = true := by decide +kernel
theorem q42_8 : decode (mB 42) 8 = .ok (.istore_n 2, 1) := by decide +kernel
theorem q42_9 : decode (mB 42) 9 = .ok (.iload_n 2, 1) := by decide +kernel
theorem q42_10 : decode (mB 42) 10 = .ok (.ifCond .eq 11, 3) := by decide +kernel
theorem q42_13 : decode (mB 42) 13 = .ok (.iload_n 2, 1) := by decide +kernel
theorem q42_14 : decode (mB 42) 14 = .ok (.bipush 9, 2) := by decide +kernel
theorem q42_16 : decode (mB 42) 16 = .ok (.if_icmp .eq 5, 3) := by decide +kernel
theorem q42_19 : decode (mB 42) 19 = .ok (.iconst 1, 1) := by decide +kernel
theorem q42_20 : decode (mB 42) 20 = .ok (.ireturn, 1) := by decide +kernel
theorem q42_21 : decode (mB 42) 21 = .ok (.aload_n 0, 1) := by decide +kernel
theorem q42_22 : gfB 42 22 12 4 2 = true := by decide +kernel
theorem q42_25 : decode (mB 42) 25 = .ok (.aload_n 0, 1) := by decide +kernel
theorem q42_26 : gfB 42 26 26 4 1 = true := by decide +kernel
theorem q42_29 : decode (mB 42) 29 = .ok (.iload_n 1, 1) := by decide +kernel
theorem q42_30 : cfB 42 30 68 19 1 4 1 = true := by decide +kernel
theorem q42_33 : decode (mB 42) 33 = .ok (.iload_n 1, 1) := by decide +kernel
theorem q42_34 : cfB 42 34 73 34 0 4 2 = true := by decide +kernel
theorem q42_37 : cfB 42 37 83 6 1 4 1 = true := by decide +kernel
theorem q42_40 : decode (mB 42) 40 = .ok (.ireturn, 1) := by decide +kernel
theorem q43_0 : decode (mB 43) 0 = .ok (.aload_n 0, 1) := by decide +kernel
theorem q43_1 : (decide (43 < 152) && decide (decode (mB 43) 1 = .ok (.invokespecial 3, 3)) && (lks (mD 43)).contains (3, 2, 0, 0) && decide (1 ≤ mV 43)) = true := by decide +kernel
theorem q43_4 : decode (mB 43) 4 = .ok (.aload_n 0, 1) := by decide +kernel
theorem q43_5 : decode (mB 43) 5 = .ok (.sipush 240, 3) := by decide +kernel
theorem q43_8 : naB 43 8 0 = true := by decide +kernel
theorem q43_10 : pfB 43 10 9 5 0 = true := by decide +kernel
theorem q43_13 : decode (mB 43) 13 = .ok (.aload_n 0, 1) := by decide +kernel
theorem q43_14 : decode (mB 43) 14 = .ok (.bipush 6, 2) := by decide +kernel
theorem q43_16 : naB 43 16 0 = true := by decide +kernel
theorem q43_18 : pfB 43 18 15 5 1 = true := by decide +kernel
theorem q43_21 : decode (mB 43) 21 = .ok (.aload_n 0, 1) := by decide +kernel
theorem q43_22 : decode (mB 43) 22 = .ok (.bipush 6, 2) := by decide +kernel
theorem q43_24 : naB 43 24 0 = true := by decide +kernel
theorem q43_26 : pfB 43 26 18 5 2 = true := by decide +kernel
theorem q43_29 : decode (mB 43) 29 = .ok (.aload_n 0, 1) := by decide +kernel
theorem q43_30 : decode (mB 43) 30 = .ok (.bipush 6, 2) := by decide +kernel
theorem q43_32 : naB 43 32 0 = true := by decide +kernel
theorem q43_34 : pfB 43 34 21 5 3 = true := by decide +kernel
theorem q43_37 : decode (mB 43) 37 = .ok (.aload_n 0, 1) := by decide +kernel
theorem q43_38 : decode (mB 43) 38 = .ok (.bipush 6, 2) := by decide +kernel
theorem q43_40 : naB 43 40 0 = true := by decide +kernel
theorem q43_42 : pfB 43 42 24 5 4 = true := by decide +kernel
theorem q43_45 : decode (mB 43) 45 = .ok (.aload_n 0, 1) := by decide +kernel
theorem q43_46 : decode (mB 43) 46 = .ok (.bipush 6, 2) := by decide +kernel
theorem q43_48 : naB 43 48 1 = true := by decide +kernel
theorem q43_50 : pfB 43 50 27 5 5 = true := by decide +kernel
theorem q43_53 : decode (mB 43) 53 = .ok (.aload_n 0, 1) := by decide +kernel
theorem q43_54 : decode (mB 43) 54 = .ok (.bipush 6, 2) := by decide +kernel
theorem q43_56 : naB 43 56 1 = true := by decide +kernel
theorem q43_58 : pfB 43 58 31 5 6 = true := by decide +kernel
theorem q43_61 : decode (mB 43) 61 = .ok (.iconst 0, 1) := by decide +kernel
theorem q43_62 : decode (mB 43) 62 = .ok (.istore_n 1, 1) := by decide +kernel
theorem q43_63 : decode (mB 43) 63 = .ok (.iload_n 1, 1) := by decide +kernel
theorem q43_64 : decode (mB 43) 64 = .ok (.bipush 6, 2) := by decide +kernel
theorem q43_66 : decode (mB 43) 66 = .ok (.if_icmp .ge 23, 3) := by decide +kernel
theorem q43_69 : decode (mB 43) 69 = .ok (.aload_n 0, 1) := by decide +kernel
theorem q43_70 : gfB 43 70 15 5 1 = true := by decide +kernel
theorem q43_73 : decode (mB 43) 73 = .ok (.iload_n 1, 1) := by decide +kernel
theorem q43_74 : decode (mB 43) 74 = .ok (.iconst (-1), 1) := by decide +kernel
theorem q43_75 : decode (mB 43) 75 = .ok (.iastore, 1) := by decide +kernel
theorem q43_76 : decode (mB 43) 76 = .ok (.aload_n 0, 1) := by decide +kernel
theorem q43_77 : gfB 43 77 18 5 2 = true := by decide +kernel
theorem q43_80 : decode (mB 43) 80 = .ok (.iload_n 1, 1) := by decide +kernel
theorem q43_81 : decode (mB 43) 81 = .ok (.iconst 0, 1) := by decide +kernel
theorem q43_82 : decode (mB 43) 82 = .ok (.iastore, 1) := by decide +kernel
theorem q43_83 : decode (mB 43) 83 = .ok (.iinc 1 1, 3) := by decide +kernel
theorem q43_86 : decode (mB 43) 86 = .ok (.goto (-23), 3) := by decide +kernel
theorem q43_89 : decode (mB 43) 89 = .ok (.return_, 1) := by decide +kernel
theorem q44_0 : decode (mB 44) 0 = .ok (.aload_n 0, 1) := by decide +kernel
theorem q44_1 : gfB 44 1 34 5 7 = true := by decide +kernel
theorem q44_4 : decode (mB 44) 4 = .ok (.ireturn, 1) := by decide +kernel
theorem q45_0 : decode (mB 45) 0 = .ok (.iload_n 1, 1) := by decide +kernel
theorem q45_1 : decode (mB 45) 1 = .ok (.ifCond .lt 21, 3) := by decide +kernel
theorem q45_4 : decode (mB 45) 4 = .ok (.iload_n 1, 1) := by decide +kernel
theorem q45_5 : decode (mB 45) 5 = .ok (.aload_n 0, 1) := by decide +kernel
theorem q45_6 : gfB 45 6 34 5 7 = true := by decide +kernel
theorem q45_9 : decode (mB 45) 9 = .ok (.if_icmp .ge 13, 3) := by decide +kernel
theorem q45_12 : decode (mB 45) 12 = .ok (.iload_n 1, 1) := by decide +kernel
theorem q45_13 : decode (mB 45) 13 = .ok (.bipush 40, 2) := by decide +kernel
theorem q45_15 : decode (mB 45) 15 = .ok (.if_icmp .ge 7, 3) := by decide +kernel
theorem q45_18 : decode (mB 45) 18 = .ok (.iconst 1, 1) := by decide +kernel
theorem q45_19 : decode (mB 45) 19 = .ok (.goto 4, 3) := by decide +kernel
theorem q45_22 : decode (mB 45) 22 = .ok (.iconst 0, 1) := by decide +kernel
theorem q45_23 : decode (mB 45) 23 = .ok (.ireturn, 1) := by decide +kernel
theorem q46_0 : decode (mB 46) 0 = .ok (.aload_n 0, 1) := by decide +kernel
theorem q46_1 : decode (mB 46) 1 = .ok (.iload_n 1, 1) := by decide +kernel
theorem q46_2 : cfB 46 2 38 45 1 4 1 = true := by decide +kernel
theorem q46_5 : decode (mB 46) 5 = .ok (.ifCond .eq 24, 3) := by decide +kernel
theorem q46_8 : decode (mB 46) 8 = .ok (.iload_n 2, 1) := by decide +kernel
theorem q46_9 : cfB 46 9 42 96 0 9 1 = true := by decide +kernel
theorem q46_12 : decode (mB 46) 12 = .ok (.ifCond .eq 17, 3) := by decide +kernel
theorem q46_15 : decode (mB 46) 15 = .ok (.aload_n 0, 1) := by decide +kernel
theorem q46_16 : gfB 46 16 9 5 0 = true := by decide +kernel
theorem q46_19 : decode (mB 46) 19 = .ok (.iload_n 2, 1) := by decide +kernel
theorem q46_20 : decode (mB 46) 20 = .ok (.bipush 40, 2) := by decide +kernel
theorem q46_22 : decode (mB 46) 22 = .ok (.imul, 1) := by decide +kernel
theorem q46_23 : decode (mB 46) 23 = .ok (.iload_n 1, 1) := by decide +kernel
theorem q46_24 : decode (mB 46) 24 = .ok (.iadd, 1) := by decide +kernel
theorem q46_25 : decode (mB 46) 25 = .ok (.iaload, 1) := by decide +kernel
theorem q46_26 : decode (mB 46) 26 = .ok (.goto 6, 3) := by decide +kernel
theorem q46_29 : decode (mB 46) 29 = .ok (.sipush (-10000), 3) := by decide +kernel
theorem q46_32 : decode (mB 46) 32 = .ok (.ireturn, 1) := by decide +kernel
theorem q47_0 : decode (mB 47) 0 = .ok (.iload_n 1, 1) := by decide +kernel
theorem q47_1 : decode (mB 47) 1 = .ok (.ifCond .lt 18, 3) := by decide +kernel
theorem q47_4 : decode (mB 47) 4 = .ok (.iload_n 1, 1) := by decide +kernel
theorem q47_5 : decode (mB 47) 5 = .ok (.bipush 6, 2) := by decide +kernel
theorem q47_7 : decode (mB 47) 7 = .ok (.if_icmp .ge 12, 3) := by decide +kernel
theorem q47_10 : decode (mB 47) 10 = .ok (.aload_n 0, 1) := by decide +kernel
theorem q47_11 : gfB 47 11 18 5 2 = true := by decide +kernel
theorem q47_14 : decode (mB 47) 14 = .ok (.iload_n 1, 1) := by decide +kernel
theorem q47_15 : decode (mB 47) 15 = .ok (.iaload, 1) := by decide +kernel
theorem q47_16 : decode (mB 47) 16 = .ok (.goto 4, 3) := by decide +kernel
theorem q47_19 : decode (mB 47) 19 = .ok (.iconst (-1), 1) := by decide +kernel
theorem q47_20 : decode (mB 47) 20 = .ok (.ireturn, 1) := by decide +kernel
theorem q48_0 : decode (mB 48) 0 = .ok (.iload_n 1, 1) := by decide +kernel
theorem q48_1 : cfB 48 1 42 96 0 9 1 = true := by decide +kernel
theorem q48_4 : decode (mB 48) 4 = .ok (.ifCond .eq 12, 3) := by decide +kernel
theorem q48_7 : decode (mB 48) 7 = .ok (.aload_n 0, 1) := by decide +kernel
theorem q48_8 : gfB 48 8 15 5 1 = true := by decide +kernel
theorem q48_11 : decode (mB 48) 11 = .ok (.iload_n 1, 1) := by decide +kernel
theorem q48_12 : decode (mB 48) 12 = .ok (.iaload, 1) := by decide +kernel
theorem q48_13 : decode (mB 48) 13 = .ok (.goto 4, 3) := by decide +kernel
theorem q48_16 : decode (mB 48) 16 = .ok (.iconst (-1), 1) := by decide +kernel
theorem q48_17 : decode (mB 48) 17 = .ok (.ireturn, 1) := by decide +kernel
theorem q49_0 : decode (mB 49) 0 = .ok (.iload_n 1, 1) := by decide +kernel
theorem q49_1 : cfB 49 1 42 96 0 9 1 = true := by decide +kernel
theorem q49_4 : decode (mB 49) 4 = .ok (.ifCond .eq 12, 3) := by decide +kernel
theorem q49_7 : decode (mB 49) 7 = .ok (.aload_n 0, 1) := by decide +kernel
theorem q49_8 : gfB 49 8 21 5 3 = true := by decide +kernel
theorem q49_11 : decode (mB 49) 11 = .ok (.iload_n 1, 1) := by decide +kernel
theorem q49_12 : decode (mB 49) 12 = .ok (.iaload, 1) := by decide +kernel
theorem q49_13 : decode (mB 49) 13 = .ok (.goto 4, 3) := by decide +kernel
theorem q49_16 : decode (mB 49) 16 = .ok (.iconst 0, 1) := by decide +kernel
theorem q49_17 : decode (mB 49) 17 = .ok (.ireturn, 1) := by decide +kernel
theorem q50_0 : decode (mB 50) 0 = .ok (.iload_n 1, 1) := by decide +kernel
theorem q50_1 : cfB 50 1 42 96 0 9 1 = true := by decide +kernel
theorem q50_4 : decode (mB 50) 4 = .ok (.ifCond .eq 12, 3) := by decide +kernel
theorem q50_7 : decode (mB 50) 7 = .ok (.aload_n 0, 1) := by decide +kernel
theorem q50_8 : gfB 50 8 24 5 4 = true := by decide +kernel
theorem q50_11 : decode (mB 50) 11 = .ok (.iload_n 1, 1) := by decide +kernel
theorem q50_12 : decode (mB 50) 12 = .ok (.iaload, 1) := by decide +kernel
theorem q50_13 : decode (mB 50) 13 = .ok (.goto 4, 3) := by decide +kernel
theorem q50_16 : decode (mB 50) 16 = .ok (.iconst 0, 1) := by decide +kernel
theorem q50_17 : decode (mB 50) 17 = .ok (.ireturn, 1) := by decide +kernel
theorem q51_0 : decode (mB 51) 0 = .ok (.iload_n 1, 1) := by decide +kernel
theorem q51_1 : cfB 51 1 42 96 0 9 1 = true := by decide +kernel
theorem q51_4 : decode (mB 51) 4 = .ok (.ifCond .eq 12, 3) := by decide +kernel
theorem q51_7 : decode (mB 51) 7 = .ok (.aload_n 0, 1) := by decide +kernel
theorem q51_8 : gfB 51 8 27 5 5 = true := by decide +kernel
theorem q51_11 : decode (mB 51) 11 = .ok (.iload_n 1, 1) := by decide +kernel
theorem q51_12 : decode (mB 51) 12 = .ok (.laload, 1) := by decide +kernel
theorem q51_13 : decode (mB 51) 13 = .ok (.goto 4, 3) := by decide +kernel
theorem q51_16 : decode (mB 51) 16 = .ok (.lconst 0, 1) := by decide +kernel
theorem q51_17 : decode (mB 51) 17 = .ok (.lreturn, 1) := by decide +kernel
theorem q52_0 : decode (mB 52) 0 = .ok (.iload_n 1, 1) := by decide +kernel
theorem q52_1 : cfB 52 1 42 96 0 9 1 = true := by decide +kernel
theorem q52_4 : decode (mB 52) 4 = .ok (.ifCond .eq 12, 3) := by decide +kernel
theorem q52_7 : decode (mB 52) 7 = .ok (.aload_n 0, 1) := by decide +kernel
theorem q52_8 : gfB 52 8 31 5 6 = true := by decide +kernel
theorem q52_11 : decode (mB 52) 11 = .ok (.iload_n 1, 1) := by decide +kernel
theorem q52_12 : decode (mB 52) 12 = .ok (.laload, 1) := by decide +kernel
theorem q52_13 : decode (mB 52) 13 = .ok (.goto 4, 3) := by decide +kernel
theorem q52_16 : decode (mB 52) 16 = .ok (.lconst 0, 1) := by decide +kernel
theorem q52_17 : decode (mB 52) 17 = .ok (.lreturn, 1) := by decide +kernel
theorem q53_0 : decode (mB 53) 0 = .ok (.iload_n 0, 1) := by decide +kernel
theorem q53_1 : decode (mB 53) 1 = .ok (.ifCond .eq 8, 3) := by decide +kernel
theorem q53_4 : decode (mB 53) 4 = .ok (.iload_n 0, 1) := by decide +kernel
theorem q53_5 : decode (mB 53) 5 = .ok (.iconst 1, 1) := by decide +kernel
theorem q53_6 : decode (mB 53) 6 = .ok (.if_icmp .ne 7, 3) := by decide +kernel
theorem q53_9 : decode (mB 53) 9 = .ok (.iconst 1, 1) := by decide +kernel
theorem q53_10 : decode (mB 53) 10 = .ok (.goto 4, 3) := by decide +kernel
theorem q53_13 : decode (mB 53) 13 = .ok (.iconst 0, 1) := by decide +kernel
theorem q53_14 : decode (mB 53) 14 = .ok (.ireturn, 1) := by decide +kernel
theorem q54_0 : decode (mB 54) 0 = .ok (.iconst 0, 1) := by decide +kernel
theorem q54_1 : decode (mB 54) 1 = .ok (.istore_n 1, 1) := by decide +kernel
theorem q54_2 : decode (mB 54) 2 = .ok (.iconst 0, 1) := by decide +kernel
theorem q54_3 : decode (mB 54) 3 = .ok (.istore_n 2, 1) := by decide +kernel
theorem q54_4 : decode (mB 54) 4 = .ok (.iload_n 2, 1) := by decide +kernel
theorem q54_5 : decode (mB 54) 5 = .ok (.bipush 6, 2) := by decide +kernel
theorem q54_7 : decode (mB 54) 7 = .ok (.if_icmp .ge 24, 3) := by decide +kernel
theorem q54_10 : decode (mB 54) 10 = .ok (.aload_n 0, 1) := by decide +kernel
theorem q54_11 : gfB 54 11 18 5 2 = true := by decide +kernel
theorem q54_14 : decode (mB 54) 14 = .ok (.iload_n 2, 1) := by decide +kernel
theorem q54_15 : decode (mB 54) 15 = .ok (.iaload, 1) := by decide +kernel
theorem q54_16 : cfB 54 16 45 53 0 4 1 = true := by decide +kernel
theorem q54_19 : decode (mB 54) 19 = .ok (.ifCond .ne 6, 3) := by decide +kernel
theorem q54_22 : decode (mB 54) 22 = .ok (.iinc 1 1, 3) := by decide +kernel
theorem q54_25 : decode (mB 54) 25 = .ok (.iinc 2 1, 3) := by decide +kernel
theorem q54_28 : decode (mB 54) 28 = .ok (.goto (-24), 3) := by decide +kernel
theorem q54_31 : decode (mB 54) 31 = .ok (.iload_n 1, 1) := by decide +kernel
theorem q54_32 : decode (mB 54) 32 = .ok (.ireturn, 1) := by decide +kernel
theorem q55_0 : decode (mB 55) 0 = .ok (.aload_n 0, 1) := by decide +kernel
theorem q55_1 : gfB 55 1 34 5 7 = true := by decide +kernel
theorem q55_4 : decode (mB 55) 4 = .ok (.bipush 40, 2) := by decide +kernel
theorem q55_6 : decode (mB 55) 6 = .ok (.if_icmp .lt 4, 3) := by decide +kernel
theorem q55_9 : decode (mB 55) 9 = .ok (.return_, 1) := by decide +kernel
theorem q55_10 : decode (mB 55) 10 = .ok (.aload_n 0, 1) := by decide +kernel
theorem q55_11 : gfB 55 11 34 5 7 = true := by decide +kernel
theorem q55_14 : decode (mB 55) 14 = .ok (.istore 7, 2) := by decide +kernel
theorem q55_16 : decode (mB 55) 16 = .ok (.aload_n 0, 1) := by decide +kernel
theorem q55_17 : decode (mB 55) 17 = .ok (.dup, 1) := by decide +kernel
theorem q55_18 : gfB 55 18 34 5 7 = true := by decide +kernel
theorem q55_21 : decode (mB 55) 21 = .ok (.iconst 1, 1) := by decide +kernel
theorem q55_22 : decode (mB 55) 22 = .ok (.iadd, 1) := by decide +kernel
theorem q55_23 : pfB 55 23 34 5 7 = true := by decide +kernel
theorem q55_26 : decode (mB 55) 26 = .ok (.aload_n 0, 1) := by decide +kernel
theorem q55_27 : decode (mB 55) 27 = .ok (.iload 7, 2) := by decide +kernel
theorem q55_29 : decode (mB 55) 29 = .ok (.iconst 0, 1) := by decide +kernel
theorem q55_30 : decode (mB 55) 30 = .ok (.iload_n 1, 1) := by decide +kernel
theorem q55_31 : cfB 55 31 48 59 1 4 3 = true := by decide +kernel
theorem q55_34 : decode (mB 55) 34 = .ok (.aload_n 0, 1) := by decide +kernel
theorem q55_35 : decode (mB 55) 35 = .ok (.iload 7, 2) := by decide +kernel
theorem q55_37 : decode (mB 55) 37 = .ok (.iconst 1, 1) := by decide +kernel
theorem q55_38 : decode (mB 55) 38 = .ok (.iload_n 2, 1) := by decide +kernel
theorem q55_39 : cfB 55 39 48 59 1 4 3 = true := by decide +kernel
theorem q55_42 : decode (mB 55) 42 = .ok (.aload_n 0, 1) := by decide +kernel
theorem q55_43 : decode (mB 55) 43 = .ok (.iload 7, 2) := by decide +kernel
theorem q55_45 : decode (mB 55) 45 = .ok (.iconst 2, 1) := by decide +kernel
theorem q55_46 : decode (mB 55) 46 = .ok (.iload_n 3, 1) := by decide +kernel
theorem q55_47 : cfB 55 47 48 59 1 4 3 = true := by decide +kernel
theorem q55_50 : decode (mB 55) 50 = .ok (.aload_n 0, 1) := by decide +kernel
theorem q55_51 : decode (mB 55) 51 = .ok (.iload 7, 2) := by decide +kernel
theorem q55_53 : decode (mB 55) 53 = .ok (.iconst 3, 1) := by decide +kernel
theorem q55_54 : decode (mB 55) 54 = .ok (.iload 4, 2) := by decide +kernel
theorem q55_56 : cfB 55 56 48 59 1 4 3 = true := by decide +kernel
theorem q55_59 : decode (mB 55) 59 = .ok (.aload_n 0, 1) := by decide +kernel
theorem q55_60 : decode (mB 55) 60 = .ok (.iload 7, 2) := by decide +kernel
theorem q55_62 : decode (mB 55) 62 = .ok (.iconst 4, 1) := by decide +kernel
theorem q55_63 : decode (mB 55) 63 = .ok (.iload 5, 2) := by decide +kernel
theorem q55_65 : cfB 55 65 48 59 1 4 3 = true := by decide +kernel
theorem q55_68 : decode (mB 55) 68 = .ok (.aload_n 0, 1) := by decide +kernel
theorem q55_69 : decode (mB 55) 69 = .ok (.iload 7, 2) := by decide +kernel
theorem q55_71 : decode (mB 55) 71 = .ok (.iconst 5, 1) := by decide +kernel
theorem q55_72 : decode (mB 55) 72 = .ok (.iload 6, 2) := by decide +kernel
theorem q55_74 : cfB 55 74 48 59 1 4 3 = true := by decide +kernel
theorem q55_77 : decode (mB 55) 77 = .ok (.aload_n 0, 1) := by decide +kernel
theorem q55_78 : cfB 55 78 52 60 1 4 0 = true := by decide +kernel
theorem q55_81 : decode (mB 55) 81 = .ok (.return_, 1) := by decide +kernel
theorem q56_0 : decode (mB 56) 0 = .ok (.aload_n 0, 1) := by decide +kernel
theorem q56_1 : decode (mB 56) 1 = .ok (.iload_n 1, 1) := by decide +kernel
theorem q56_2 : cfB 56 2 38 45 1 4 1 = true := by decide +kernel
theorem q56_5 : decode (mB 56) 5 = .ok (.ifCond .ne 4, 3) := by decide +kernel
theorem q56_8 : decode (mB 56) 8 = .ok (.return_, 1) := by decide +kernel
theorem q56_9 : decode (mB 56) 9 = .ok (.iconst 0, 1) := by decide +kernel
theorem q56_10 : decode (mB 56) 10 = .ok (.istore_n 2, 1) := by decide +kernel
theorem q56_11 : decode (mB 56) 11 = .ok (.iload_n 2, 1) := by decide +kernel
theorem q56_12 : decode (mB 56) 12 = .ok (.bipush 6, 2) := by decide +kernel
theorem q56_14 : decode (mB 56) 14 = .ok (.if_icmp .ge 41, 3) := by decide +kernel
theorem q56_17 : decode (mB 56) 17 = .ok (.iload_n 1, 1) := by decide +kernel
theorem q56_18 : decode (mB 56) 18 = .ok (.istore_n 3, 1) := by decide +kernel
theorem q56_19 : decode (mB 56) 19 = .ok (.iload_n 3, 1) := by decide +kernel
theorem q56_20 : decode (mB 56) 20 = .ok (.aload_n 0, 1) := by decide +kernel
theorem q56_21 : gfB 56 21 34 5 7 = true := by decide +kernel
theorem q56_24 : decode (mB 56) 24 = .ok (.iconst 1, 1) := by decide +kernel
theorem q56_25 : decode (mB 56) 25 = .ok (.isub, 1) := by decide +kernel
theorem q56_26 : decode (mB 56) 26 = .ok (.if_icmp .ge 23, 3) := by decide +kernel
theorem q56_29 : decode (mB 56) 29 = .ok (.aload_n 0, 1) := by decide +kernel
theorem q56_30 : decode (mB 56) 30 = .ok (.iload_n 3, 1) := by decide +kernel
theorem q56_31 : decode (mB 56) 31 = .ok (.iload_n 2, 1) := by decide +kernel
theorem q56_32 : decode (mB 56) 32 = .ok (.aload_n 0, 1) := by decide +kernel
theorem q56_33 : decode (mB 56) 33 = .ok (.iload_n 3, 1) := by decide +kernel
theorem q56_34 : decode (mB 56) 34 = .ok (.iconst 1, 1) := by decide +kernel
theorem q56_35 : decode (mB 56) 35 = .ok (.iadd, 1) := by decide +kernel
theorem q56_36 : decode (mB 56) 36 = .ok (.iload_n 2, 1) := by decide +kernel
theorem q56_37 : cfB 56 37 55 46 1 4 2 = true := by decide +kernel
theorem q56_40 : cfB 56 40 48 59 1 4 3 = true := by decide +kernel
theorem q56_43 : decode (mB 56) 43 = .ok (.iinc 3 1, 3) := by decide +kernel
theorem q56_46 : decode (mB 56) 46 = .ok (.goto (-27), 3) := by decide +kernel
theorem q56_49 : decode (mB 56) 49 = .ok (.iinc 2 1, 3) := by decide +kernel
theorem q56_52 : decode (mB 56) 52 = .ok (.goto (-41), 3) := by decide +kernel
theorem q56_55 : decode (mB 56) 55 = .ok (.aload_n 0, 1) := by decide +kernel
theorem q56_56 : decode (mB 56) 56 = .ok (.dup, 1) := by decide +kernel
theorem q56_57 : gfB 56 57 34 5 7 = true := by decide +kernel
theorem q56_60 : decode (mB 56) 60 = .ok (.iconst 1, 1) := by decide +kernel
theorem q56_61 : decode (mB 56) 61 = .ok (.isub, 1) := by decide +kernel
theorem q56_62 : pfB 56 62 34 5 7 = true := by decide +kernel
theorem q56_65 : decode (mB 56) 65 = .ok (.aload_n 0, 1) := by decide +kernel
theorem q56_66 : cfB 56 66 52 60 1 4 0 = true := by decide +kernel
theorem q56_69 : decode (mB 56) 69 = .ok (.return_, 1) := by decide +kernel
theorem q57_0 : decode (mB 57) 0 = .ok (.aload_n 0, 1) := by decide +kernel
theorem q57_1 : decode (mB 57) 1 = .ok (.iload_n 1, 1) := by decide +kernel
theorem q57_2 : decode (mB 57) 2 = .ok (.iload_n 2, 1) := by decide +kernel
theorem q57_3 : decode (mB 57) 3 = .ok (.iload_n 3, 1) := by decide +kernel
theorem q57_4 : cfB 57 4 48 59 1 4 3 = true := by decide +kernel
theorem q57_7 : decode (mB 57) 7 = .ok (.aload_n 0, 1) := by decide +kernel
theorem q57_8 : decode (mB 57) 8 = .ok (.iload_n 2, 1) := by decide +kernel
theorem q57_9 : cfB 57 9 59 61 1 4 1 = true := by decide +kernel
theorem q57_12 : decode (mB 57) 12 = .ok (.return_, 1) := by decide +kernel
theorem q58_0 : decode (mB 58) 0 = .ok (.iload_n 1, 1) := by decide +kernel
theorem q58_1 : cfB 58 1 42 96 0 9 1 = true := by decide +kernel
theorem q58_4 : decode (mB 58) 4 = .ok (.ifCond .eq 15, 3) := by decide +kernel
theorem q58_7 : decode (mB 58) 7 = .ok (.aload_n 0, 1) := by decide +kernel
theorem q58_8 : gfB 58 8 15 5 1 = true := by decide +kernel
theorem q58_11 : decode (mB 58) 11 = .ok (.iload_n 1, 1) := by decide +kernel
theorem q58_12 : decode (mB 58) 12 = .ok (.iload_n 2, 1) := by decide +kernel
theorem q58_13 : decode (mB 58) 13 = .ok (.iastore, 1) := by decide +kernel
theorem q58_14 : decode (mB 58) 14 = .ok (.aload_n 0, 1) := by decide +kernel
theorem q58_15 : decode (mB 58) 15 = .ok (.iload_n 1, 1) := by decide +kernel
theorem q58_16 : cfB 58 16 59 61 1 4 1 = true := by decide +kernel
theorem q58_19 : decode (mB 58) 19 = .ok (.return_, 1) := by decide +kernel
theorem q59_0 : decode (mB 59) 0 = .ok (.aload_n 0, 1) := by decide +kernel
theorem q59_1 : decode (mB 59) 1 = .ok (.iload_n 1, 1) := by decide +kernel
theorem q59_2 : cfB 59 2 38 45 1 4 1 = true := by decide +kernel
theorem q59_5 : decode (mB 59) 5 = .ok (.ifCond .eq 22, 3) := by decide +kernel
theorem q59_8 : decode (mB 59) 8 = .ok (.iload_n 2, 1) := by decide +kernel
theorem q59_9 : cfB 59 9 42 96 0 9 1 = true := by decide +kernel
theorem q59_12 : decode (mB 59) 12 = .ok (.ifCond .eq 15, 3) := by decide +kernel
theorem q59_15 : decode (mB 59) 15 = .ok (.aload_n 0, 1) := by decide +kernel
theorem q59_16 : gfB 59 16 9 5 0 = true := by decide +kernel
theorem q59_19 : decode (mB 59) 19 = .ok (.iload_n 2, 1) := by decide +kernel
theorem q59_20 : decode (mB 59) 20 = .ok (.bipush 40, 2) := by decide +kernel
theorem q59_22 : decode (mB 59) 22 = .ok (.imul, 1) := by decide +kernel
theorem q59_23 : decode (mB 59) 23 = .ok (.iload_n 1, 1) := by decide +kernel
theorem q59_24 : decode (mB 59) 24 = .ok (.iadd, 1) := by decide +kernel
theorem q59_25 : decode (mB 59) 25 = .ok (.iload_n 3, 1) := by decide +kernel
theorem q59_26 : decode (mB 59) 26 = .ok (.iastore, 1) := by decide +kernel
theorem q59_27 : decode (mB 59) 27 = .ok (.return_, 1) := by decide +kernel
