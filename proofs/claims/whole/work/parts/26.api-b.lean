/-! the class's own methods, second half -/
/-- the ranking's row, as it is after asking for it -/
def rkB (I : Nat → Int32) (A : Nat → Nat → Int32) (L : Nat → Nat → Int64) : BT := if I 6 = 0 then ((I 7).toNatClampNeg, L 14) else sAll (f_fb I A) (f_cost I A L) (0, L 14)
theorem rkB_le {I : Nat → Int32} {A : Nat → Nat → Int32} {L : Nat → Nat → Int64} {k : Nat} (hk : I 7 = nI k) (hk5 : k ≤ 5) : (rkB I A L).1 ≤ 5 := by
  unfold rkB; split
  · show (I 7).toNatClampNeg ≤ 5
    rw [hk, nI_clamp (by omega)]; exact hk5
  · exact sAll_le _ (Nat.zero_le 5)
abbrev hpR (I : Nat → Int32) (A : Nat → Nat → Int32) (L : Nat → Nat → Int64) (O : Nat → UInt64) : AH := hpB (va_up I 6 0) A L O (rkB I A L)
theorem c_X6_ranking' {X : XS} {I : Nat → Int32} {A : Nat → Nat → Int32} {L : Nat → Nat → Int64} {O : Nat → UInt64} {Q : AO → AH → Prop} {k : Nat} (hk : I 7 = nI k) (hk5 : k ≤ 5) (hq : Q (.inl (some (.ref 13))) (hpR I A L O)) : Call X 48 [.ref 12] (hp I A L O) Q := by
  refine c_X6_ranking (fun h => ?_) (fun h => ?_)
  · have e1 : va_up (va_up I 6 0) 7 (nI (rkB I A L).1) = I := by
      have e2 : (rkB I A L).1 = k := by rw [rkB, if_pos h]; show (I 7).toNatClampNeg = k; rw [hk, nI_clamp (by omega)]
      rw [e2, ← h, va_self, ← hk, va_self]
    have e3 : va_up L 14 (rkB I A L).2 = L := by rw [rkB, if_pos h]; exact va_self L 14
    unfold hpR hpB at hq; rw [e1, e3] at hq; exact hq
  · have e : rkB I A L = sAll (f_fb I A) (f_cost I A L) (0, L 14) := if_neg h
    unfold hpR at hq; rw [e] at hq; exact hq
theorem c_X9_cost {X : XS} {I : Nat → Int32} {A : Nat → Nat → Int32} {L : Nat → Nat → Int64} {O : Nat → UInt64} {Q : AO → AH → Prop} {r : Int32} {k : Nat} (hk : I 7 = nI k) (hk5 : k ≤ 5) (h1 : ¬ isRk (nI (rkB I A L).1) r → Q (.inr 4) (hpR I A L O)) (h0 : isRk (nI (rkB I A L).1) r → Q (.inl (some (.int (p_cost (f_place (nI (rkB I A L).1) (rkB I A L).2 r))))) (hpR I A L O)) : Call X 99 [.ref 0, .int r] (hp I A L O) Q := by
  refine call_of (by decide) rfl rfl ?_
  refine a_aload_n (i := 0) q99_0 rfl rfl ?_
  refine a_getfield q99_1 rfl rfl ?_
  refine a_cv0 q99_4 rfl rfl ⟨rfl, rfl⟩ rfl ?_
  refine c_X6_ranking' hk hk5 ?_
  refine ck_r ?_
  refine a_astore_n (i := 2) (lv' := [(0, _), (1, _), (2, _)]) q99_7 rfl rfl rfl ?_
  refine a_aload_n (i := 2) q99_8 rfl rfl ?_
  refine a_iload_n (i := 1) q99_9 rfl rfl ?_
  refine a_cs2 q99_10 rfl ⟨rfl, rfl⟩ rfl ?_
  refine c_X9_requireRank_1 (fun zrk => ?_) (fun zn => ck_x rfl (h1 zn))
  refine ck_v ?_
  refine a_aload_n (i := 2) q99_13 rfl rfl ?_
  refine a_iload_n (i := 1) q99_14 rfl rfl ?_
  refine a_cv1 q99_15 rfl rfl ⟨rfl, rfl⟩ rfl ?_
  refine c_X0_placeAt_1 ?_
  refine ck_r ?_
  refine a_cs1 q99_18 rfl ⟨rfl, rfl⟩ rfl ?_
  refine c_X5_costOf ?_
  refine ck_r ?_
  refine a_ireturn q99_21 (nr_int rfl _) ?_
  exact h0 zrk

theorem c_X9_mark {X : XS} {I : Nat → Int32} {A : Nat → Nat → Int32} {L : Nat → Nat → Int64} {O : Nat → UInt64} {Q : AO → AH → Prop} {r : Int32} {k : Nat} (hk : I 7 = nI k) (hk5 : k ≤ 5) (h1 : ¬ isRk (nI (rkB I A L).1) r → Q (.inr 4) (hpR I A L O)) (h0 : isRk (nI (rkB I A L).1) r → Q (.inl (some (.int (g_mark (p_chart (f_place (nI (rkB I A L).1) (rkB I A L).2 r)))))) (hpR I A L O)) : Call X 101 [.ref 0, .int r] (hp I A L O) Q := by
  refine call_of (by decide) rfl rfl ?_
  refine a_aload_n (i := 0) q101_0 rfl rfl ?_
  refine a_getfield q101_1 rfl rfl ?_
  refine a_cv0 q101_4 rfl rfl ⟨rfl, rfl⟩ rfl ?_
  refine c_X6_ranking' hk hk5 ?_
  refine ck_r ?_
  refine a_astore_n (i := 2) (lv' := [(0, _), (1, _), (2, _)]) q101_7 rfl rfl rfl ?_
  refine a_aload_n (i := 2) q101_8 rfl rfl ?_
  refine a_iload_n (i := 1) q101_9 rfl rfl ?_
  refine a_cs2 q101_10 rfl ⟨rfl, rfl⟩ rfl ?_
  refine c_X9_requireRank_1 (fun zrk => ?_) (fun zn => ck_x rfl (h1 zn))
  refine ck_v ?_
  refine a_aload_n (i := 2) q101_13 rfl rfl ?_
  refine a_iload_n (i := 1) q101_14 rfl rfl ?_
  refine a_cv1 q101_15 rfl rfl ⟨rfl, rfl⟩ rfl ?_
  refine c_X0_chartAt_1 ?_
  refine ck_r ?_
  refine a_cs1 q101_18 rfl ⟨rfl, rfl⟩ rfl ?_
  refine c_X1_markOf ?_
  refine ck_r ?_
  refine a_ireturn q101_21 (nr_char rfl (pk_nc _)) ?_
  exact h0 zrk

theorem c_X9_aggregate {X : XS} {I : Nat → Int32} {A : Nat → Nat → Int32} {L : Nat → Nat → Int64} {O : Nat → UInt64} {Q : AO → AH → Prop} {r : Int32} {k : Nat} (hk : I 7 = nI k) (hk5 : k ≤ 5) (h1 : ¬ isRk (nI (rkB I A L).1) r → Q (.inr 4) (hpR I A L O)) (h0 : isRk (nI (rkB I A L).1) r → Q (.inl (some (.int (g_agg (p_chart (f_place (nI (rkB I A L).1) (rkB I A L).2 r)))))) (hpR I A L O)) : Call X 102 [.ref 0, .int r] (hp I A L O) Q := by
  refine call_of (by decide) rfl rfl ?_
  refine a_aload_n (i := 0) q102_0 rfl rfl ?_
  refine a_getfield q102_1 rfl rfl ?_
  refine a_cv0 q102_4 rfl rfl ⟨rfl, rfl⟩ rfl ?_
  refine c_X6_ranking' hk hk5 ?_
  refine ck_r ?_
  refine a_astore_n (i := 2) (lv' := [(0, _), (1, _), (2, _)]) q102_7 rfl rfl rfl ?_
  refine a_aload_n (i := 2) q102_8 rfl rfl ?_
  refine a_iload_n (i := 1) q102_9 rfl rfl ?_
  refine a_cs2 q102_10 rfl ⟨rfl, rfl⟩ rfl ?_
  refine c_X9_requireRank_1 (fun zrk => ?_) (fun zn => ck_x rfl (h1 zn))
  refine ck_v ?_
  refine a_aload_n (i := 2) q102_13 rfl rfl ?_
  refine a_iload_n (i := 1) q102_14 rfl rfl ?_
  refine a_cv1 q102_15 rfl rfl ⟨rfl, rfl⟩ rfl ?_
  refine c_X0_chartAt_1 ?_
  refine ck_r ?_
  refine a_cs1 q102_18 rfl ⟨rfl, rfl⟩ rfl ?_
  refine c_X1_aggregateOf ?_
  refine ck_r ?_
  refine a_ireturn q102_21 (nr_int rfl _) ?_
  exact h0 zrk

theorem c_X9_column {X : XS} {I : Nat → Int32} {A : Nat → Nat → Int32} {L : Nat → Nat → Int64} {O : Nat → UInt64} {Q : AO → AH → Prop} {r c : Int32} {k : Nat} (hk : I 7 = nI k) (hk5 : k ≤ 5) (h1 : ¬ isRk (nI (rkB I A L).1) r → Q (.inr 4) (hpR I A L O)) (h2 : isRk (nI (rkB I A L).1) r → ¬ isChan c → Q (.inr 2) (hpR I A L O)) (h0 : isRk (nI (rkB I A L).1) r → isChan c → Q (.inl (some (.int (g_col (p_chart (f_place (nI (rkB I A L).1) (rkB I A L).2 r)) c)))) (hpR I A L O)) : Call X 103 [.ref 0, .int r, .int c] (hp I A L O) Q := by
  refine call_of (by decide) rfl rfl ?_
  refine a_aload_n (i := 0) q103_0 rfl rfl ?_
  refine a_getfield q103_1 rfl rfl ?_
  refine a_cv0 q103_4 rfl rfl ⟨rfl, rfl⟩ rfl ?_
  refine c_X6_ranking' hk hk5 ?_
  refine ck_r ?_
  refine a_astore_n (i := 3) (lv' := [(0, _), (1, _), (2, _), (3, _)]) q103_7 rfl rfl rfl ?_
  refine a_aload_n (i := 3) q103_8 rfl rfl ?_
  refine a_iload_n (i := 1) q103_9 rfl rfl ?_
  refine a_cs2 q103_10 rfl ⟨rfl, rfl⟩ rfl ?_
  refine c_X9_requireRank_1 (fun zrk => ?_) (fun zn => ck_x rfl (h1 zn))
  refine ck_v ?_
  refine a_iload_n (i := 2) q103_13 rfl rfl ?_
  refine a_cs1 q103_14 rfl ⟨rfl, rfl⟩ rfl ?_
  refine c_X9_requireChannel (fun zch => ?_) (fun zn => ck_x rfl (h2 zrk zn))
  refine ck_v ?_
  refine a_aload_n (i := 3) q103_17 rfl rfl ?_
  refine a_iload_n (i := 1) q103_18 rfl rfl ?_
  refine a_cv1 q103_19 rfl rfl ⟨rfl, rfl⟩ rfl ?_
  refine c_X0_chartAt_1 ?_
  refine ck_r ?_
  refine a_iload_n (i := 2) q103_22 rfl rfl ?_
  refine a_cs2 q103_23 rfl ⟨rfl, rfl⟩ rfl ?_
  refine c_X1_columnIn ?_
  refine ck_r ?_
  refine a_ireturn q103_26 (nr_int rfl _) ?_
  exact h0 zrk zch

theorem c_X9_allowed {X : XS} {I : Nat → Int32} {A : Nat → Nat → Int32} {L : Nat → Nat → Int64} {O : Nat → UInt64} {Q : AO → AH → Prop}  (hq : Q (.inl (some (.int (tAll I A L 0).2.1))) (hpT I A L O (tAll I A L 0))) : Call X 98 [.ref 0] (hp I A L O) Q := by
  refine call_of (by decide) rfl rfl ?_
  refine a_aload_n (i := 0) q98_0 rfl rfl ?_
  refine a_getfield q98_1 rfl rfl ?_
  refine a_cv0 q98_4 rfl rfl ⟨rfl, rfl⟩ rfl ?_
  refine c_X8_run ?_
  refine ck_v ?_
  refine a_aload_n (i := 0) q98_7 rfl rfl ?_
  refine a_getfield q98_8 rfl rfl ?_
  refine a_cv0 q98_11 rfl rfl ⟨rfl, rfl⟩ rfl ?_
  refine c_X8_allowedCount ?_
  refine ck_r ?_
  refine a_ireturn q98_14 (nr_int rfl _) ?_
  exact lfi hq rfl

theorem c_X9_costByTrying {X : XS} {I : Nat → Int32} {A : Nat → Nat → Int32} {L : Nat → Nat → Int64} {O : Nat → UInt64} {Q : AO → AH → Prop} {r : Int32} (h1 : ¬ usC (A 4) 6 ≤ 3 → Q (.inr 5) (hp I A L O)) (h2 : usC (A 4) 6 ≤ 3 → ¬ isRk (nI (tAll I A L 0).1.1) r → Q (.inr 4) (hpT I A L O (tAll I A L 0))) (h0 : usC (A 4) 6 ≤ 3 → isRk (nI (tAll I A L 0).1.1) r → Q (.inl (some (.int (p_cost (f_place (nI (tAll I A L 0).1.1) (tAll I A L 0).1.2 r))))) (hpT I A L O (tAll I A L 0))) : Call X 100 [.ref 0, .int r] (hp I A L O) Q := by
  refine call_of (by decide) rfl rfl ?_
  refine a_aload_n (i := 0) q100_0 rfl rfl ?_
  refine a_getfield q100_1 rfl rfl ?_
  refine a_cv0 q100_4 rfl rfl ⟨rfl, rfl⟩ rfl ?_
  refine c_X7_usableColumns ?_
  refine ck_r ?_
  refine a_iconst (v := 3) q100_7 (by decide) ?_
  refine a_icmp_le (tgt := 21) q100_8 (by decide) (fun zc8 => ?_) (fun zc8 => ?_)
  · skip
    refine a_aload_n (i := 0) q100_21 rfl rfl ?_
    refine a_getfield q100_22 rfl rfl ?_
    refine a_cv0 q100_25 rfl rfl ⟨rfl, rfl⟩ rfl ?_
    refine c_X8_run ?_
    refine ck_v ?_
    refine a_aload_n (i := 0) q100_28 rfl rfl ?_
    refine a_getfield q100_29 rfl rfl ?_
    refine a_cv0 q100_32 rfl rfl ⟨rfl, rfl⟩ rfl ?_
    refine c_X8_ranking ?_
    refine ck_r ?_
    refine a_astore_n (i := 2) (lv' := [(0, _), (1, _), (2, _)]) q100_35 rfl rfl rfl ?_
    refine a_aload_n (i := 2) q100_36 rfl rfl ?_
    refine a_iload_n (i := 1) q100_37 rfl rfl ?_
    refine a_cs2 q100_38 rfl ⟨rfl, rfl⟩ rfl ?_
    refine c_X9_requireRank_2 (fun zrk => ?_) (fun zn => ck_x rfl (h2 zc8 zn))
    refine ck_v ?_
    refine a_aload_n (i := 2) q100_41 rfl rfl ?_
    refine a_iload_n (i := 1) q100_42 rfl rfl ?_
    refine a_cv1 q100_43 rfl rfl ⟨rfl, rfl⟩ rfl ?_
    refine c_X0_placeAt_2 ?_
    refine ck_r ?_
    refine a_cs1 q100_46 rfl ⟨rfl, rfl⟩ rfl ?_
    refine c_X5_costOf ?_
    refine ck_r ?_
    refine a_ireturn q100_49 (nr_int rfl _) ?_
    exact h0 zc8 zrk
  · skip
    refine a_throw q100_11 ⟨by decide, by decide⟩ (by decide) ?_
    exact h1 zc8

theorem c_X9_setMargin {X : XS} {I : Nat → Int32} {A : Nat → Nat → Int32} {L : Nat → Nat → Int64} {O : Nat → UInt64} {Q : AO → AH → Prop} {m : Int32} (h1 : ¬ (0 ≤ m ∧ m ≤ 99) → Q (.inr 0) (hp I A L O)) (h0 : (0 ≤ m ∧ m ≤ 99) → Q (.inl (some (.int (I 0)))) (hp (va_up I 0 m) A L O)) : Call X 104 [.ref 0, .int m] (hp I A L O) Q := by
  refine call_of (by decide) rfl rfl ?_
  refine a_iload_n (i := 1) q104_0 rfl rfl ?_
  refine a_if_lt (tgt := 10) q104_1 (by decide) (fun zc1 => ?_) (fun zc1 => ?_)
  · skip
    refine a_throw q104_10 ⟨by decide, by decide⟩ (by decide) ?_
    exact h1 (fun zz => absurd zz.1 (i_nle.mpr zc1))
  · skip
    refine a_iload_n (i := 1) q104_4 rfl rfl ?_
    refine a_bipush (v := 99) q104_5 (by decide) ?_
    refine a_icmp_le (tgt := 20) q104_7 (by decide) (fun zc7 => ?_) (fun zc7 => ?_)
    · skip
      refine a_aload_n (i := 0) q104_20 rfl rfl ?_
      refine a_getfield q104_21 rfl rfl ?_
      refine a_istore_n (i := 2) (lv' := [(0, _), (1, _), (2, _)]) q104_24 rfl rfl rfl ?_
      refine a_aload_n (i := 0) q104_25 rfl rfl ?_
      refine a_iload_n (i := 1) q104_26 rfl rfl ?_
      refine a_putfield q104_27 rfl rfl rfl rfl ?_
      refine AW.hp (h' := hp (va_up I 0 m) A L O) rfl ?_
      refine a_iload_n (i := 2) q104_30 rfl rfl ?_
      refine a_ireturn q104_31 (nr_int rfl _) ?_
      exact h0 ⟨i_nlt.mp zc1, zc7⟩
    · skip
      refine a_throw q104_10 ⟨by decide, by decide⟩ (by decide) ?_
      exact h1 (fun zz => zc7 zz.2)

theorem c_X9_pickMark {X : XS} {I : Nat → Int32} {A : Nat → Nat → Int32} {L : Nat → Nat → Int64} {O : Nat → UInt64} {Q : AO → AH → Prop}  (h1 : ¬ ¬ I 12 = -1 → Q (.inr 1) (hp I A L O)) (h0 : ¬ I 12 = -1 → Q (.inl (some (.int (g_mark (I 12))))) (hp I A L O)) : Call X 106 [.ref 0] (hp I A L O) Q := by
  refine call_of (by decide) rfl rfl ?_
  refine a_aload_n (i := 0) q106_0 rfl rfl ?_
  refine a_cv0 q106_1 rfl rfl ⟨rfl, rfl⟩ rfl ?_
  refine c_X9_requirePick (fun zp => ?_) (fun zn => ck_x rfl (h1 zn))
  refine ck_v ?_
  refine a_aload_n (i := 0) q106_4 rfl rfl ?_
  refine a_getfield q106_5 rfl rfl ?_
  refine a_cv0 q106_8 rfl rfl ⟨rfl, rfl⟩ rfl ?_
  refine c_X4_present ?_
  refine ck_r ?_
  refine a_cs1 q106_11 rfl ⟨rfl, rfl⟩ rfl ?_
  refine c_X1_markOf ?_
  refine ck_r ?_
  refine a_ireturn q106_14 (nr_char rfl (pk_nc _)) ?_
  exact h0 zp

theorem c_X9_pickAggregate {X : XS} {I : Nat → Int32} {A : Nat → Nat → Int32} {L : Nat → Nat → Int64} {O : Nat → UInt64} {Q : AO → AH → Prop}  (h1 : ¬ ¬ I 12 = -1 → Q (.inr 1) (hp I A L O)) (h0 : ¬ I 12 = -1 → Q (.inl (some (.int (g_agg (I 12))))) (hp I A L O)) : Call X 107 [.ref 0] (hp I A L O) Q := by
  refine call_of (by decide) rfl rfl ?_
  refine a_aload_n (i := 0) q107_0 rfl rfl ?_
  refine a_cv0 q107_1 rfl rfl ⟨rfl, rfl⟩ rfl ?_
  refine c_X9_requirePick (fun zp => ?_) (fun zn => ck_x rfl (h1 zn))
  refine ck_v ?_
  refine a_aload_n (i := 0) q107_4 rfl rfl ?_
  refine a_getfield q107_5 rfl rfl ?_
  refine a_cv0 q107_8 rfl rfl ⟨rfl, rfl⟩ rfl ?_
  refine c_X4_present ?_
  refine ck_r ?_
  refine a_cs1 q107_11 rfl ⟨rfl, rfl⟩ rfl ?_
  refine c_X1_aggregateOf ?_
  refine ck_r ?_
  refine a_ireturn q107_14 (nr_int rfl _) ?_
  exact h0 zp

theorem c_X9_pickColumn {X : XS} {I : Nat → Int32} {A : Nat → Nat → Int32} {L : Nat → Nat → Int64} {O : Nat → UInt64} {Q : AO → AH → Prop} {c : Int32} (h2 : ¬ isChan c → Q (.inr 2) (hp I A L O)) (h1 : isChan c → ¬ ¬ I 12 = -1 → Q (.inr 1) (hp I A L O)) (h0 : isChan c → ¬ I 12 = -1 → Q (.inl (some (.int (g_col (I 12) c)))) (hp I A L O)) : Call X 108 [.ref 0, .int c] (hp I A L O) Q := by
  refine call_of (by decide) rfl rfl ?_
  refine a_iload_n (i := 1) q108_0 rfl rfl ?_
  refine a_cs1 q108_1 rfl ⟨rfl, rfl⟩ rfl ?_
  refine c_X9_requireChannel (fun zch => ?_) (fun zn => ck_x rfl (h2 zn))
  refine ck_v ?_
  refine a_aload_n (i := 0) q108_4 rfl rfl ?_
  refine a_cv0 q108_5 rfl rfl ⟨rfl, rfl⟩ rfl ?_
  refine c_X9_requirePick (fun zp => ?_) (fun zn => ck_x rfl (h1 zch zn))
  refine ck_v ?_
  refine a_aload_n (i := 0) q108_8 rfl rfl ?_
  refine a_getfield q108_9 rfl rfl ?_
  refine a_cv0 q108_12 rfl rfl ⟨rfl, rfl⟩ rfl ?_
  refine c_X4_present ?_
  refine ck_r ?_
  refine a_iload_n (i := 1) q108_15 rfl rfl ?_
  refine a_cs2 q108_16 rfl ⟨rfl, rfl⟩ rfl ?_
  refine c_X1_columnIn ?_
  refine ck_r ?_
  refine a_ireturn q108_19 (nr_int rfl _) ?_
  exact h0 zch zp

theorem c_X9_formerPicks {X : XS} {I : Nat → Int32} {A : Nat → Nat → Int32} {L : Nat → Nat → Int64} {O : Nat → UInt64} {Q : AO → AH → Prop}  (hq : Q (.inl (some (.int (I 11)))) (hp I A L O)) : Call X 109 [.ref 0] (hp I A L O) Q := by
  refine call_of (by decide) rfl rfl ?_
  refine a_aload_n (i := 0) q109_0 rfl rfl ?_
  refine a_getfield q109_1 rfl rfl ?_
  refine a_cv0 q109_4 rfl rfl ⟨rfl, rfl⟩ rfl ?_
  refine c_X4_formerCount ?_
  refine ck_r ?_
  refine a_ireturn q109_7 (nr_int rfl _) ?_
  exact hq

theorem c_X9_unpick {X : XS} {I : Nat → Int32} {A : Nat → Nat → Int32} {L : Nat → Nat → Int64} {O : Nat → UInt64} {Q : AO → AH → Prop} {k : Nat} (hn : I 11 = nI k) (hk : k ≤ 4) (h1 : k = 0 → Q (.inr 1) (hp I A L O)) (h0 : ∀ j, k = j + 1 → Q (.inl (some (.int (nI j)))) (hp (va_up (va_up I 12 (A 20 0)) 11 (nI j)) (va_up A 20 (shD (A 20) 0 j)) L O)) : Call X 110 [.ref 0] (hp I A L O) Q := by
  refine call_of (by decide) rfl rfl ?_
  refine a_aload_n (i := 0) q110_0 rfl rfl ?_
  refine a_getfield q110_1 rfl rfl ?_
  refine a_cv0 q110_4 rfl rfl ⟨rfl, rfl⟩ rfl ?_
  refine c_X4_formerCount ?_
  refine ck_r ?_
  refine a_if_ne (tgt := 21) q110_7 (by decide) (fun zc7 => ?_) (fun zc7 => ?_)
  · skip
    obtain ⟨j, zj⟩ : ∃ j, k = j + 1 := ⟨k - 1, by
      have : ¬ k = 0 := fun zz => zc7 (by rw [hn, zz]; rfl)
      omega⟩
    subst zj
    refine a_aload_n (i := 0) q110_21 rfl rfl ?_
    refine a_getfield q110_22 rfl rfl ?_
    refine a_cv0 q110_25 rfl rfl ⟨rfl, rfl⟩ rfl ?_
    refine c_X4_goBack hn (by omega) ?_
    refine ck_v ?_
    refine a_aload_n (i := 0) q110_28 rfl rfl ?_
    refine a_getfield q110_29 rfl rfl ?_
    refine a_cv0 q110_32 rfl rfl ⟨rfl, rfl⟩ rfl ?_
    refine c_X4_formerCount ?_
    refine ck_r ?_
    refine a_ireturn q110_35 (nr_int rfl _) ?_
    exact lfi (h0 j rfl) rfl
  · skip
    refine a_throw q110_10 ⟨by decide, by decide⟩ (by decide) ?_
    exact h1 (Nat.eq_zero_of_not_pos (fun zz => nI_ne0 zz (by omega) (by rw [← hn]; exact zc7)))

theorem c_X9_forget {X : XS} {I : Nat → Int32} {A : Nat → Nat → Int32} {L : Nat → Nat → Int64} {O : Nat → UInt64} {Q : AO → AH → Prop} {k : Nat} (hn : I 11 = nI k) (hk : k ≤ 4) (hq : Q (.inl (some (.int (nI k - nI (drF (okC I A) (A 20) 0 0 k).2)))) (hp (va_up I 11 (nI (drF (okC I A) (A 20) 0 0 k).2)) (va_up A 20 (drF (okC I A) (A 20) 0 0 k).1) L O)) : Call X 111 [.ref 0] (hp I A L O) Q := by
  refine call_of (by decide) rfl rfl ?_
  refine a_aload_n (i := 0) q111_0 rfl rfl ?_
  refine a_getfield q111_1 rfl rfl ?_
  refine a_aload_n (i := 0) q111_4 rfl rfl ?_
  refine a_getfield q111_5 rfl rfl ?_
  refine a_cv1 q111_8 rfl rfl ⟨rfl, rfl⟩ rfl ?_
  refine c_X4_dropForbidden hn hk ?_
  refine ck_r ?_
  refine a_ireturn q111_11 (nr_int rfl _) ?_
  exact hq

theorem c_X9_draftMark {X : XS} {I : Nat → Int32} {A : Nat → Nat → Int32} {L : Nat → Nat → Int64} {O : Nat → UInt64} {Q : AO → AH → Prop} {m : Int32} (h1 : ¬ isMk m → Q (.inr 0) (hp I A L O)) (h0 : isMk m → Q (.inl (some (.int (g_mark (I 1))))) (hp (va_up I 1 (g_wMark (I 1) m)) A L O)) : Call X 112 [.ref 0, .int m] (hp I A L O) Q := by
  refine call_of (by decide) rfl rfl ?_
  refine a_iload_n (i := 1) q112_0 rfl rfl ?_
  refine a_cs1 q112_1 rfl ⟨rfl, rfl⟩ rfl ?_
  refine c_X9_isMark ?_
  refine ck_r ?_
  refine a_if_ne (tgt := 17) q112_4 (by decide) (fun zc4 => ?_) (fun zc4 => ?_)
  · skip
    refine a_aload_n (i := 0) q112_17 rfl rfl ?_
    refine a_getfield q112_18 rfl rfl ?_
    refine a_cs1 q112_21 rfl ⟨rfl, rfl⟩ rfl ?_
    refine c_X1_markOf ?_
    refine ck_r ?_
    refine a_istore_n (i := 2) (lv' := [(0, _), (1, _), (2, _)]) q112_24 rfl rfl rfl ?_
    refine a_aload_n (i := 0) q112_25 rfl rfl ?_
    refine a_aload_n (i := 0) q112_26 rfl rfl ?_
    refine a_getfield q112_27 rfl rfl ?_
    refine a_iload_n (i := 1) q112_30 rfl rfl ?_
    refine a_cs2 q112_31 rfl ⟨rfl, rfl⟩ rfl ?_
    refine c_X1_withMark ?_
    refine ck_r ?_
    refine a_putfield q112_34 rfl rfl rfl rfl ?_
    refine AW.hp (h' := hp (va_up I 1 (g_wMark (I 1) m)) A L O) rfl ?_
    refine a_iload_n (i := 2) q112_37 rfl rfl ?_
    refine a_ireturn q112_38 (nr_char rfl (pk_nc _)) ?_
    exact h0 (b2i_nz.mp zc4)
  · skip
    refine a_throw q112_7 ⟨by decide, by decide⟩ (by decide) ?_
    exact h1 (b2i_z.mp zc4)

theorem c_X9_draftAggregate {X : XS} {I : Nat → Int32} {A : Nat → Nat → Int32} {L : Nat → Nat → Int64} {O : Nat → UInt64} {Q : AO → AH → Prop} {a : Int32} (h1 : ¬ (a = 0 ∨ a = 1 ∨ a = 2) → Q (.inr 0) (hp I A L O)) (h0 : (a = 0 ∨ a = 1 ∨ a = 2) → Q (.inl (some (.int (g_agg (I 1))))) (hp (va_up I 1 (g_wAgg (I 1) a)) A L O)) : Call X 113 [.ref 0, .int a] (hp I A L O) Q := by
  refine call_of (by decide) rfl rfl ?_
  refine a_iload_n (i := 1) q113_0 rfl rfl ?_
  refine a_if_eq (tgt := 25) q113_1 (by decide) (fun zc1 => ?_) (fun zc1 => ?_)
  · skip
    refine a_aload_n (i := 0) q113_25 rfl rfl ?_
    refine a_getfield q113_26 rfl rfl ?_
    refine a_cs1 q113_29 rfl ⟨rfl, rfl⟩ rfl ?_
    refine c_X1_aggregateOf ?_
    refine ck_r ?_
    refine a_istore_n (i := 2) (lv' := [(0, _), (1, _), (2, _)]) q113_32 rfl rfl rfl ?_
    refine a_aload_n (i := 0) q113_33 rfl rfl ?_
    refine a_aload_n (i := 0) q113_34 rfl rfl ?_
    refine a_getfield q113_35 rfl rfl ?_
    refine a_iload_n (i := 1) q113_38 rfl rfl ?_
    refine a_cs2 q113_39 rfl ⟨rfl, rfl⟩ rfl ?_
    refine c_X1_withAggregate ?_
    refine ck_r ?_
    refine a_putfield q113_42 rfl rfl rfl rfl ?_
    refine AW.hp (h' := hp (va_up I 1 (g_wAgg (I 1) a)) A L O) rfl ?_
    refine a_iload_n (i := 2) q113_45 rfl rfl ?_
    refine a_ireturn q113_46 (nr_int rfl _) ?_
    exact h0 (Or.inl zc1)
  · skip
    refine a_iload_n (i := 1) q113_4 rfl rfl ?_
    refine a_iconst (v := 1) q113_5 (by decide) ?_
    refine a_icmp_eq (tgt := 25) q113_6 (by decide) (fun zc6 => ?_) (fun zc6 => ?_)
    · skip
      refine a_aload_n (i := 0) q113_25 rfl rfl ?_
      refine a_getfield q113_26 rfl rfl ?_
      refine a_cs1 q113_29 rfl ⟨rfl, rfl⟩ rfl ?_
      refine c_X1_aggregateOf ?_
      refine ck_r ?_
      refine a_istore_n (i := 2) (lv' := [(0, _), (1, _), (2, _)]) q113_32 rfl rfl rfl ?_
      refine a_aload_n (i := 0) q113_33 rfl rfl ?_
      refine a_aload_n (i := 0) q113_34 rfl rfl ?_
      refine a_getfield q113_35 rfl rfl ?_
      refine a_iload_n (i := 1) q113_38 rfl rfl ?_
      refine a_cs2 q113_39 rfl ⟨rfl, rfl⟩ rfl ?_
      refine c_X1_withAggregate ?_
      refine ck_r ?_
      refine a_putfield q113_42 rfl rfl rfl rfl ?_
      refine AW.hp (h' := hp (va_up I 1 (g_wAgg (I 1) a)) A L O) rfl ?_
      refine a_iload_n (i := 2) q113_45 rfl rfl ?_
      refine a_ireturn q113_46 (nr_int rfl _) ?_
      exact h0 (Or.inr (Or.inl zc6))
    · skip
      refine a_iload_n (i := 1) q113_9 rfl rfl ?_
      refine a_iconst (v := 2) q113_10 (by decide) ?_
      refine a_icmp_eq (tgt := 25) q113_11 (by decide) (fun zc11 => ?_) (fun zc11 => ?_)
      · skip
        refine a_aload_n (i := 0) q113_25 rfl rfl ?_
        refine a_getfield q113_26 rfl rfl ?_
        refine a_cs1 q113_29 rfl ⟨rfl, rfl⟩ rfl ?_
        refine c_X1_aggregateOf ?_
        refine ck_r ?_
        refine a_istore_n (i := 2) (lv' := [(0, _), (1, _), (2, _)]) q113_32 rfl rfl rfl ?_
        refine a_aload_n (i := 0) q113_33 rfl rfl ?_
        refine a_aload_n (i := 0) q113_34 rfl rfl ?_
        refine a_getfield q113_35 rfl rfl ?_
        refine a_iload_n (i := 1) q113_38 rfl rfl ?_
        refine a_cs2 q113_39 rfl ⟨rfl, rfl⟩ rfl ?_
        refine c_X1_withAggregate ?_
        refine ck_r ?_
        refine a_putfield q113_42 rfl rfl rfl rfl ?_
        refine AW.hp (h' := hp (va_up I 1 (g_wAgg (I 1) a)) A L O) rfl ?_
        refine a_iload_n (i := 2) q113_45 rfl rfl ?_
        refine a_ireturn q113_46 (nr_int rfl _) ?_
        exact h0 (Or.inr (Or.inr zc11))
      · skip
        refine a_throw q113_14 ⟨by decide, by decide⟩ (by decide) ?_
        exact h1 (by simp [zc1, zc6, zc11])

theorem c_X9_draftColumn {X : XS} {I : Nat → Int32} {A : Nat → Nat → Int32} {L : Nat → Nat → Int64} {O : Nat → UInt64} {Q : AO → AH → Prop} {k c : Int32} (h1 : ¬ (isChan k ∧ (c = -1 ∨ isCol c)) → Q (.inr 2) (hp I A L O)) (h2 : isChan k → (c = -1 ∨ isCol c) → (¬ c = g_col (I 1) k ∧ g_holds (I 1) c) → Q (.inr 1) (hp I A L O)) (h0 : isChan k → (c = -1 ∨ isCol c) → ¬ (¬ c = g_col (I 1) k ∧ g_holds (I 1) c) → Q (.inl (some (.int (g_col (I 1) k)))) (hp (va_up I 1 (g_wCol (I 1) k c)) A L O)) : Call X 114 [.ref 0, .int k, .int c] (hp I A L O) Q := by
  refine call_of (by decide) rfl rfl ?_
  refine a_iload_n (i := 1) q114_0 rfl rfl ?_
  refine a_cs1 q114_1 rfl ⟨rfl, rfl⟩ rfl ?_
  refine c_X9_requireChannel (fun zch => ?_) (fun zn => ck_x rfl (h1 (fun zz => zn zz.1)))
  refine ck_v ?_
  refine a_iload_n (i := 2) q114_4 rfl rfl ?_
  refine a_iconst (v := (-1)) q114_5 (by decide) ?_
  refine a_icmp_eq (tgt := 13) q114_6 (by decide) (fun zc6 => ?_) (fun zc6 => ?_)
  · skip
    refine a_aload_n (i := 0) q114_13 rfl rfl ?_
    refine a_getfield q114_14 rfl rfl ?_
    refine a_iload_n (i := 1) q114_17 rfl rfl ?_
    refine a_cs2 q114_18 rfl ⟨rfl, rfl⟩ rfl ?_
    refine c_X1_columnIn ?_
    refine ck_r ?_
    refine a_istore_n (i := 3) (lv' := [(0, _), (1, _), (2, _), (3, _)]) q114_21 rfl rfl rfl ?_
    refine a_iload_n (i := 2) q114_22 rfl rfl ?_
    refine a_iload_n (i := 3) q114_23 rfl rfl ?_
    refine a_icmp_eq (tgt := 49) q114_24 (by decide) (fun zc24 => ?_) (fun zc24 => ?_)
    · skip
      refine a_aload_n (i := 0) q114_49 rfl rfl ?_
      refine a_aload_n (i := 0) q114_50 rfl rfl ?_
      refine a_getfield q114_51 rfl rfl ?_
      refine a_iload_n (i := 1) q114_54 rfl rfl ?_
      refine a_iload_n (i := 2) q114_55 rfl rfl ?_
      refine a_cs3 q114_56 rfl ⟨rfl, rfl⟩ rfl ?_
      refine c_X1_withColumn ?_
      refine ck_r ?_
      refine a_putfield q114_59 rfl rfl rfl rfl ?_
      refine AW.hp (h' := hp (va_up I 1 (g_wCol (I 1) k c)) A L O) rfl ?_
      refine a_iload_n (i := 3) q114_62 rfl rfl ?_
      refine a_ireturn q114_63 (nr_int rfl _) ?_
      exact h0 zch (Or.inl zc6) (fun zz => zz.1 zc24)
    · skip
      refine a_aload_n (i := 0) q114_27 rfl rfl ?_
      refine a_getfield q114_28 rfl rfl ?_
      refine a_iload_n (i := 2) q114_31 rfl rfl ?_
      refine a_cs2 q114_32 rfl ⟨rfl, rfl⟩ rfl ?_
      refine c_X1_holds ?_
      refine ck_r ?_
      refine a_if_eq (tgt := 49) q114_35 (by decide) (fun zc35 => ?_) (fun zc35 => ?_)
      · skip
        refine a_aload_n (i := 0) q114_49 rfl rfl ?_
        refine a_aload_n (i := 0) q114_50 rfl rfl ?_
        refine a_getfield q114_51 rfl rfl ?_
        refine a_iload_n (i := 1) q114_54 rfl rfl ?_
        refine a_iload_n (i := 2) q114_55 rfl rfl ?_
        refine a_cs3 q114_56 rfl ⟨rfl, rfl⟩ rfl ?_
        refine c_X1_withColumn ?_
        refine ck_r ?_
        refine a_putfield q114_59 rfl rfl rfl rfl ?_
        refine AW.hp (h' := hp (va_up I 1 (g_wCol (I 1) k c)) A L O) rfl ?_
        refine a_iload_n (i := 3) q114_62 rfl rfl ?_
        refine a_ireturn q114_63 (nr_int rfl _) ?_
        exact h0 zch (Or.inl zc6) (fun zz => b2i_z.mp zc35 zz.2)
      · skip
        refine a_throw q114_38 ⟨by decide, by decide⟩ (by decide) ?_
        exact h2 zch (Or.inl zc6) ⟨zc24, b2i_nz.mp zc35⟩
  · skip
    refine a_iload_n (i := 2) q114_9 rfl rfl ?_
    refine a_cs1 q114_10 rfl ⟨rfl, rfl⟩ rfl ?_
    refine c_X9_requireColumn (fun zcol => ?_) (fun zn => ck_x rfl (h1 (fun zz => zz.2.elim zc6 zn)))
    refine ck_v ?_
    refine a_aload_n (i := 0) q114_13 rfl rfl ?_
    refine a_getfield q114_14 rfl rfl ?_
    refine a_iload_n (i := 1) q114_17 rfl rfl ?_
    refine a_cs2 q114_18 rfl ⟨rfl, rfl⟩ rfl ?_
    refine c_X1_columnIn ?_
    refine ck_r ?_
    refine a_istore_n (i := 3) (lv' := [(0, _), (1, _), (2, _), (3, _)]) q114_21 rfl rfl rfl ?_
    refine a_iload_n (i := 2) q114_22 rfl rfl ?_
    refine a_iload_n (i := 3) q114_23 rfl rfl ?_
    refine a_icmp_eq (tgt := 49) q114_24 (by decide) (fun zc24 => ?_) (fun zc24 => ?_)
    · skip
      refine a_aload_n (i := 0) q114_49 rfl rfl ?_
      refine a_aload_n (i := 0) q114_50 rfl rfl ?_
      refine a_getfield q114_51 rfl rfl ?_
      refine a_iload_n (i := 1) q114_54 rfl rfl ?_
      refine a_iload_n (i := 2) q114_55 rfl rfl ?_
      refine a_cs3 q114_56 rfl ⟨rfl, rfl⟩ rfl ?_
      refine c_X1_withColumn ?_
      refine ck_r ?_
      refine a_putfield q114_59 rfl rfl rfl rfl ?_
      refine AW.hp (h' := hp (va_up I 1 (g_wCol (I 1) k c)) A L O) rfl ?_
      refine a_iload_n (i := 3) q114_62 rfl rfl ?_
      refine a_ireturn q114_63 (nr_int rfl _) ?_
      exact h0 zch (Or.inr zcol) (fun zz => zz.1 zc24)
    · skip
      refine a_aload_n (i := 0) q114_27 rfl rfl ?_
      refine a_getfield q114_28 rfl rfl ?_
      refine a_iload_n (i := 2) q114_31 rfl rfl ?_
      refine a_cs2 q114_32 rfl ⟨rfl, rfl⟩ rfl ?_
      refine c_X1_holds ?_
      refine ck_r ?_
      refine a_if_eq (tgt := 49) q114_35 (by decide) (fun zc35 => ?_) (fun zc35 => ?_)
      · skip
        refine a_aload_n (i := 0) q114_49 rfl rfl ?_
        refine a_aload_n (i := 0) q114_50 rfl rfl ?_
        refine a_getfield q114_51 rfl rfl ?_
        refine a_iload_n (i := 1) q114_54 rfl rfl ?_
        refine a_iload_n (i := 2) q114_55 rfl rfl ?_
        refine a_cs3 q114_56 rfl ⟨rfl, rfl⟩ rfl ?_
        refine c_X1_withColumn ?_
        refine ck_r ?_
        refine a_putfield q114_59 rfl rfl rfl rfl ?_
        refine AW.hp (h' := hp (va_up I 1 (g_wCol (I 1) k c)) A L O) rfl ?_
        refine a_iload_n (i := 3) q114_62 rfl rfl ?_
        refine a_ireturn q114_63 (nr_int rfl _) ?_
        exact h0 zch (Or.inr zcol) (fun zz => b2i_z.mp zc35 zz.2)
      · skip
        refine a_throw q114_38 ⟨by decide, by decide⟩ (by decide) ?_
        exact h2 zch (Or.inr zcol) ⟨zc24, b2i_nz.mp zc35⟩

theorem c_X9_brokenRule {X : XS} {I : Nat → Int32} {A : Nat → Nat → Int32} {L : Nat → Nat → Int64} {O : Nat → UInt64} {Q : AO → AH → Prop}  (hq : Q (.inl (some (.int (f_fb I A (I 1))))) (hp I A L O)) : Call X 115 [.ref 0] (hp I A L O) Q := by
  refine call_of (by decide) rfl rfl ?_
  refine a_aload_n (i := 0) q115_0 rfl rfl ?_
  refine a_getfield q115_1 rfl rfl ?_
  refine a_aload_n (i := 0) q115_4 rfl rfl ?_
  refine a_getfield q115_5 rfl rfl ?_
  refine a_cv1 q115_8 rfl rfl ⟨rfl, rfl⟩ rfl ?_
  refine c_X3_firstBroken ?_
  refine ck_r ?_
  refine a_ireturn q115_11 (nr_int rfl _) ?_
  exact hq

theorem c_X9_softRules {X : XS} {I : Nat → Int32} {A : Nat → Nat → Int32} {L : Nat → Nat → Int64} {O : Nat → UInt64} {Q : AO → AH → Prop}  (hq : Q (.inl (some (.int (f_soft I A (I 1))))) (hp I A L O)) : Call X 116 [.ref 0] (hp I A L O) Q := by
  refine call_of (by decide) rfl rfl ?_
  refine a_aload_n (i := 0) q116_0 rfl rfl ?_
  refine a_getfield q116_1 rfl rfl ?_
  refine a_aload_n (i := 0) q116_4 rfl rfl ?_
  refine a_getfield q116_5 rfl rfl ?_
  refine a_cv1 q116_8 rfl rfl ⟨rfl, rfl⟩ rfl ?_
  refine c_X2_brokenSoftRules ?_
  refine ck_r ?_
  refine a_ireturn q116_11 (nr_int rfl _) ?_
  exact hq

theorem c_X9_draftCost {X : XS} {I : Nat → Int32} {A : Nat → Nat → Int32} {L : Nat → Nat → Int64} {O : Nat → UInt64} {Q : AO → AH → Prop}  (h1 : ¬ okC I A (I 1) → Q (.inr 1) (hp I A L O)) (h0 : okC I A (I 1) → Q (.inl (some (.int (f_cost I A L (I 1))))) (hp I A L O)) : Call X 117 [.ref 0] (hp I A L O) Q := by
  refine call_of (by decide) rfl rfl ?_
  refine a_aload_n (i := 0) q117_0 rfl rfl ?_
  refine a_cv0 q117_1 rfl rfl ⟨rfl, rfl⟩ rfl ?_
  refine c_X9_requireAllowedDraft (fun zok => ?_) (fun zn => ck_x rfl (h1 zn))
  refine ck_v ?_
  refine a_aload_n (i := 0) q117_4 rfl rfl ?_
  refine a_getfield q117_5 rfl rfl ?_
  refine a_aload_n (i := 0) q117_8 rfl rfl ?_
  refine a_getfield q117_9 rfl rfl ?_
  refine a_cv1 q117_12 rfl rfl ⟨rfl, rfl⟩ rfl ?_
  refine c_X2_costOf ?_
  refine ck_r ?_
  refine a_ireturn q117_15 (nr_int rfl _) ?_
  exact h0 zok

theorem c_X9_draftRank {X : XS} {I : Nat → Int32} {A : Nat → Nat → Int32} {L : Nat → Nat → Int64} {O : Nat → UInt64} {Q : AO → AH → Prop}  (h1 : ¬ okC I A (I 1) → Q (.inr 1) (hp I A L O)) (h0 : okC I A (I 1) → Q (.inl (some (.int (tAll I A L (p_of (f_cost I A L (I 1)) (I 1))).2.2))) (hpT I A L O (tAll I A L (p_of (f_cost I A L (I 1)) (I 1))))) : Call X 118 [.ref 0] (hp I A L O) Q := by
  refine call_of (by decide) rfl rfl ?_
  refine a_aload_n (i := 0) q118_0 rfl rfl ?_
  refine a_cv0 q118_1 rfl rfl ⟨rfl, rfl⟩ rfl ?_
  refine c_X9_requireAllowedDraft (fun zok => ?_) (fun zn => ck_x rfl (h1 zn))
  refine ck_v ?_
  refine a_aload_n (i := 0) q118_4 rfl rfl ?_
  refine a_getfield q118_5 rfl rfl ?_
  refine a_aload_n (i := 0) q118_8 rfl rfl ?_
  refine a_getfield q118_9 rfl rfl ?_
  refine a_cv1 q118_12 rfl rfl ⟨rfl, rfl⟩ rfl ?_
  refine c_X8_countBetterThan ?_
  refine ck_r ?_
  refine a_ireturn q118_15 (nr_int rfl _) ?_
  exact h0 zok
