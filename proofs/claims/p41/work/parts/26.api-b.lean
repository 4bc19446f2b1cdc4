/-! the class's own methods, second half -/
/-- the ranking's row, as it is after asking for it -/
def rkB (I : Nat → Int32) (A : Nat → Nat → Int32) (L : Nat → Nat → Int64) : BT := if I 6 = 0 then ((I 7).toNatClampNeg, L 14) else sAll (f_fb I A) (f_cost I A L) (0, L 14)
theorem rkB_le {I : Nat → Int32} {A : Nat → Nat → Int32} {L : Nat → Nat → Int64} {k : Nat} (hk : I 7 = nI k) (hk5 : k ≤ 5) : (rkB I A L).1 ≤ 5 := by
  unfold rkB; split
  · show (I 7).toNatClampNeg ≤ 5
    rw [hk, nI_clamp (by omega)]; exact hk5
  · exact sAll_le _ (Nat.zero_le 5)
abbrev hpR (I : Nat → Int32) (A : Nat → Nat → Int32) (L : Nat → Nat → Int64) (O : AH) : AH := hpB (va_up I 6 0) A L O (rkB I A L)
theorem c_X6_ranking' {X : XS} {I : Nat → Int32} {A : Nat → Nat → Int32} {L : Nat → Nat → Int64} {O : AH} {Q : AO → AH → Prop} {k : Nat} (hk : I 7 = nI k) (hk5 : k ≤ 5) (hq : Q (.inl (some (.ref 14))) (hpR I A L O)) : Call X 39 [.ref 13] (hp I A L O) Q := by
  refine c_X6_ranking (fun h => ?_) (fun h => ?_)
  · have e1 : va_up (va_up I 6 0) 7 (nI (rkB I A L).1) = I := by
      have e2 : (rkB I A L).1 = k := by rw [rkB, if_pos h]; show (I 7).toNatClampNeg = k; rw [hk, nI_clamp (by omega)]
      rw [e2, ← h, va_self, ← hk, va_self]
    have e3 : va_up L 14 (rkB I A L).2 = L := by rw [rkB, if_pos h]; exact va_self L 14
    unfold hpR hpB at hq; rw [e1, e3] at hq; exact hq
  · have e : rkB I A L = sAll (f_fb I A) (f_cost I A L) (0, L 14) := if_neg h
    unfold hpR at hq; rw [e] at hq; exact hq
theorem c_X9_cost {X : XS} {I : Nat → Int32} {A : Nat → Nat → Int32} {L : Nat → Nat → Int64} {O : AH} {Q : AO → AH → Prop} {r : Int32} {k : Nat} (hk : I 7 = nI k) (hk5 : k ≤ 5) (h1 : ¬ isRk (nI (rkB I A L).1) r → Q (.inr 4) (hpR I A L O)) (h0 : isRk (nI (rkB I A L).1) r → Q (.inl (some (.int (p_cost (f_place (nI (rkB I A L).1) (rkB I A L).2 r))))) (hpR I A L O)) : Call X 89 [.ref 1, .int r] (hp I A L O) Q := by
  refine call_of (by decide) rfl rfl ?_
  refine a_aload_n (i := 0) q89_0 rfl rfl ?_
  refine a_getfield q89_1 rfl rfl ?_
  refine a_cv0 q89_4 rfl rfl ⟨rfl, rfl⟩ rfl ?_
  refine c_X6_ranking' hk hk5 ?_
  refine ck_r ?_
  refine a_astore_n (i := 2) (lv' := [(0, _), (1, _), (2, _)]) q89_7 rfl rfl rfl ?_
  refine a_aload_n (i := 2) q89_8 rfl rfl ?_
  refine a_iload_n (i := 1) q89_9 rfl rfl ?_
  refine a_cs2 q89_10 rfl ⟨rfl, rfl⟩ rfl ?_
  refine c_X9_requireRank_1 (fun zrk => ?_) (fun zn => ck_x rfl (h1 zn))
  refine ck_v ?_
  refine a_aload_n (i := 2) q89_13 rfl rfl ?_
  refine a_iload_n (i := 1) q89_14 rfl rfl ?_
  refine a_cv1 q89_15 rfl rfl ⟨rfl, rfl⟩ rfl ?_
  refine c_X0_placeAt_1 ?_
  refine ck_r ?_
  refine a_cs1 q89_18 rfl ⟨rfl, rfl⟩ rfl ?_
  refine c_X5_costOf ?_
  refine ck_r ?_
  refine a_ireturn q89_21 (nr_int rfl _) ?_
  exact h0 zrk

theorem c_X9_mark {X : XS} {I : Nat → Int32} {A : Nat → Nat → Int32} {L : Nat → Nat → Int64} {O : AH} {Q : AO → AH → Prop} {r : Int32} {k : Nat} (hk : I 7 = nI k) (hk5 : k ≤ 5) (h1 : ¬ isRk (nI (rkB I A L).1) r → Q (.inr 4) (hpR I A L O)) (h0 : isRk (nI (rkB I A L).1) r → Q (.inl (some (.int (g_mark (p_chart (f_place (nI (rkB I A L).1) (rkB I A L).2 r)))))) (hpR I A L O)) : Call X 91 [.ref 1, .int r] (hp I A L O) Q := by
  refine call_of (by decide) rfl rfl ?_
  refine a_aload_n (i := 0) q91_0 rfl rfl ?_
  refine a_getfield q91_1 rfl rfl ?_
  refine a_cv0 q91_4 rfl rfl ⟨rfl, rfl⟩ rfl ?_
  refine c_X6_ranking' hk hk5 ?_
  refine ck_r ?_
  refine a_astore_n (i := 2) (lv' := [(0, _), (1, _), (2, _)]) q91_7 rfl rfl rfl ?_
  refine a_aload_n (i := 2) q91_8 rfl rfl ?_
  refine a_iload_n (i := 1) q91_9 rfl rfl ?_
  refine a_cs2 q91_10 rfl ⟨rfl, rfl⟩ rfl ?_
  refine c_X9_requireRank_1 (fun zrk => ?_) (fun zn => ck_x rfl (h1 zn))
  refine ck_v ?_
  refine a_aload_n (i := 2) q91_13 rfl rfl ?_
  refine a_iload_n (i := 1) q91_14 rfl rfl ?_
  refine a_cv1 q91_15 rfl rfl ⟨rfl, rfl⟩ rfl ?_
  refine c_X0_chartAt_1 ?_
  refine ck_r ?_
  refine a_cs1 q91_18 rfl ⟨rfl, rfl⟩ rfl ?_
  refine c_X1_markOf ?_
  refine ck_r ?_
  refine a_ireturn q91_21 (nr_char rfl (pk_nc _)) ?_
  exact h0 zrk

theorem c_X9_aggregate {X : XS} {I : Nat → Int32} {A : Nat → Nat → Int32} {L : Nat → Nat → Int64} {O : AH} {Q : AO → AH → Prop} {r : Int32} {k : Nat} (hk : I 7 = nI k) (hk5 : k ≤ 5) (h1 : ¬ isRk (nI (rkB I A L).1) r → Q (.inr 4) (hpR I A L O)) (h0 : isRk (nI (rkB I A L).1) r → Q (.inl (some (.int (g_agg (p_chart (f_place (nI (rkB I A L).1) (rkB I A L).2 r)))))) (hpR I A L O)) : Call X 92 [.ref 1, .int r] (hp I A L O) Q := by
  refine call_of (by decide) rfl rfl ?_
  refine a_aload_n (i := 0) q92_0 rfl rfl ?_
  refine a_getfield q92_1 rfl rfl ?_
  refine a_cv0 q92_4 rfl rfl ⟨rfl, rfl⟩ rfl ?_
  refine c_X6_ranking' hk hk5 ?_
  refine ck_r ?_
  refine a_astore_n (i := 2) (lv' := [(0, _), (1, _), (2, _)]) q92_7 rfl rfl rfl ?_
  refine a_aload_n (i := 2) q92_8 rfl rfl ?_
  refine a_iload_n (i := 1) q92_9 rfl rfl ?_
  refine a_cs2 q92_10 rfl ⟨rfl, rfl⟩ rfl ?_
  refine c_X9_requireRank_1 (fun zrk => ?_) (fun zn => ck_x rfl (h1 zn))
  refine ck_v ?_
  refine a_aload_n (i := 2) q92_13 rfl rfl ?_
  refine a_iload_n (i := 1) q92_14 rfl rfl ?_
  refine a_cv1 q92_15 rfl rfl ⟨rfl, rfl⟩ rfl ?_
  refine c_X0_chartAt_1 ?_
  refine ck_r ?_
  refine a_cs1 q92_18 rfl ⟨rfl, rfl⟩ rfl ?_
  refine c_X1_aggregateOf ?_
  refine ck_r ?_
  refine a_ireturn q92_21 (nr_int rfl _) ?_
  exact h0 zrk

theorem c_X9_column {X : XS} {I : Nat → Int32} {A : Nat → Nat → Int32} {L : Nat → Nat → Int64} {O : AH} {Q : AO → AH → Prop} {r c : Int32} {k : Nat} (hk : I 7 = nI k) (hk5 : k ≤ 5) (h1 : ¬ isRk (nI (rkB I A L).1) r → Q (.inr 4) (hpR I A L O)) (h2 : isRk (nI (rkB I A L).1) r → ¬ isChan c → Q (.inr 2) (hpR I A L O)) (h0 : isRk (nI (rkB I A L).1) r → isChan c → Q (.inl (some (.int (g_col (p_chart (f_place (nI (rkB I A L).1) (rkB I A L).2 r)) c)))) (hpR I A L O)) : Call X 93 [.ref 1, .int r, .int c] (hp I A L O) Q := by
  refine call_of (by decide) rfl rfl ?_
  refine a_aload_n (i := 0) q93_0 rfl rfl ?_
  refine a_getfield q93_1 rfl rfl ?_
  refine a_cv0 q93_4 rfl rfl ⟨rfl, rfl⟩ rfl ?_
  refine c_X6_ranking' hk hk5 ?_
  refine ck_r ?_
  refine a_astore_n (i := 3) (lv' := [(0, _), (1, _), (2, _), (3, _)]) q93_7 rfl rfl rfl ?_
  refine a_aload_n (i := 3) q93_8 rfl rfl ?_
  refine a_iload_n (i := 1) q93_9 rfl rfl ?_
  refine a_cs2 q93_10 rfl ⟨rfl, rfl⟩ rfl ?_
  refine c_X9_requireRank_1 (fun zrk => ?_) (fun zn => ck_x rfl (h1 zn))
  refine ck_v ?_
  refine a_iload_n (i := 2) q93_13 rfl rfl ?_
  refine a_cs1 q93_14 rfl ⟨rfl, rfl⟩ rfl ?_
  refine c_X9_requireChannel (fun zch => ?_) (fun zn => ck_x rfl (h2 zrk zn))
  refine ck_v ?_
  refine a_aload_n (i := 3) q93_17 rfl rfl ?_
  refine a_iload_n (i := 1) q93_18 rfl rfl ?_
  refine a_cv1 q93_19 rfl rfl ⟨rfl, rfl⟩ rfl ?_
  refine c_X0_chartAt_1 ?_
  refine ck_r ?_
  refine a_iload_n (i := 2) q93_22 rfl rfl ?_
  refine a_cs2 q93_23 rfl ⟨rfl, rfl⟩ rfl ?_
  refine c_X1_columnIn ?_
  refine ck_r ?_
  refine a_ireturn q93_26 (nr_int rfl _) ?_
  exact h0 zrk zch

theorem c_X9_allowed {X : XS} {I : Nat → Int32} {A : Nat → Nat → Int32} {L : Nat → Nat → Int64} {O : AH} {Q : AO → AH → Prop}  (hq : Q (.inl (some (.int (tAll I A L 0).2.1))) (hpT I A L O (tAll I A L 0))) : Call X 88 [.ref 1] (hp I A L O) Q := by
  refine call_of (by decide) rfl rfl ?_
  refine a_aload_n (i := 0) q88_0 rfl rfl ?_
  refine a_getfield q88_1 rfl rfl ?_
  refine a_cv0 q88_4 rfl rfl ⟨rfl, rfl⟩ rfl ?_
  refine c_X8_run ?_
  refine ck_v ?_
  refine a_aload_n (i := 0) q88_7 rfl rfl ?_
  refine a_getfield q88_8 rfl rfl ?_
  refine a_cv0 q88_11 rfl rfl ⟨rfl, rfl⟩ rfl ?_
  refine c_X8_allowedCount ?_
  refine ck_r ?_
  refine a_ireturn q88_14 (nr_int rfl _) ?_
  exact lfi hq rfl

theorem c_X9_costByTrying {X : XS} {I : Nat → Int32} {A : Nat → Nat → Int32} {L : Nat → Nat → Int64} {O : AH} {Q : AO → AH → Prop} {r : Int32} (h1 : ¬ usC (A 4) 6 ≤ 3 → Q (.inr 5) (hp I A L O)) (h2 : usC (A 4) 6 ≤ 3 → ¬ isRk (nI (tAll I A L 0).1.1) r → Q (.inr 4) (hpT I A L O (tAll I A L 0))) (h0 : usC (A 4) 6 ≤ 3 → isRk (nI (tAll I A L 0).1.1) r → Q (.inl (some (.int (p_cost (f_place (nI (tAll I A L 0).1.1) (tAll I A L 0).1.2 r))))) (hpT I A L O (tAll I A L 0))) : Call X 90 [.ref 1, .int r] (hp I A L O) Q := by
  refine call_of (by decide) rfl rfl ?_
  refine a_aload_n (i := 0) q90_0 rfl rfl ?_
  refine a_getfield q90_1 rfl rfl ?_
  refine a_cv0 q90_4 rfl rfl ⟨rfl, rfl⟩ rfl ?_
  refine c_X7_usableColumns ?_
  refine ck_r ?_
  refine a_iconst (v := 3) q90_7 (by decide) ?_
  refine a_icmp_le (tgt := 21) q90_8 (by decide) (fun zc8 => ?_) (fun zc8 => ?_)
  · skip
    refine a_aload_n (i := 0) q90_21 rfl rfl ?_
    refine a_getfield q90_22 rfl rfl ?_
    refine a_cv0 q90_25 rfl rfl ⟨rfl, rfl⟩ rfl ?_
    refine c_X8_run ?_
    refine ck_v ?_
    refine a_aload_n (i := 0) q90_28 rfl rfl ?_
    refine a_getfield q90_29 rfl rfl ?_
    refine a_cv0 q90_32 rfl rfl ⟨rfl, rfl⟩ rfl ?_
    refine c_X8_ranking ?_
    refine ck_r ?_
    refine a_astore_n (i := 2) (lv' := [(0, _), (1, _), (2, _)]) q90_35 rfl rfl rfl ?_
    refine a_aload_n (i := 2) q90_36 rfl rfl ?_
    refine a_iload_n (i := 1) q90_37 rfl rfl ?_
    refine a_cs2 q90_38 rfl ⟨rfl, rfl⟩ rfl ?_
    refine c_X9_requireRank_2 (fun zrk => ?_) (fun zn => ck_x rfl (h2 zc8 zn))
    refine ck_v ?_
    refine a_aload_n (i := 2) q90_41 rfl rfl ?_
    refine a_iload_n (i := 1) q90_42 rfl rfl ?_
    refine a_cv1 q90_43 rfl rfl ⟨rfl, rfl⟩ rfl ?_
    refine c_X0_placeAt_2 ?_
    refine ck_r ?_
    refine a_cs1 q90_46 rfl ⟨rfl, rfl⟩ rfl ?_
    refine c_X5_costOf ?_
    refine ck_r ?_
    refine a_ireturn q90_49 (nr_int rfl _) ?_
    exact h0 zc8 zrk
  · skip
    refine a_throw q90_11 ⟨by decide, by decide⟩ (by decide) ?_
    exact h1 zc8
