/-! picking, soundness, means -/
theorem f_place_n {f : Nat → Int64} {k i : Nat} (hi : i < k) (hk : k ≤ 5) : f_place (nI k) f (nI i) = f i := by
  rw [f_place, if_pos (show isRk (nI k) (nI i) from ⟨nI_pos' (by omega), nI_lt hi (by omega), nI_lt (show i < 5 by omega) (by decide)⟩), nI_cl (n := 5) (by omega) (by decide)]
theorem l_rkAll (m : Nat) : ∀ {X : XS} {I : Nat → Int32} {A : Nat → Nat → Int32} {L : Nat → Nat → Int64} {O : AH} {Q : AO → AH → Prop} {i k : Nat} (hk : I 7 = nI k) (hk5 : k ≤ 5) (hm : i + m = k) (ha : ∀ z, z < k → okC I A (p_chart (L 14 z))) (hq : Q (.inl (some (.int 1))) (hp I A L O)), AW X 103 2 [(0, .ref 1), (1, .ref 14), (2, .int (nI i))] [] (hp I A L O) 0 0 Q := by
  induction m with
  | zero =>
    intro X I A L O Q i k hk hk5 hm ha hq
    refine a_iload_n (i := 2) q103_2 rfl rfl ?_
    refine a_aload_n (i := 1) q103_3 rfl rfl ?_
    refine a_cv0 q103_4 rfl rfl ⟨rfl, rfl⟩ rfl ?_
    refine c_X0_size_1 ?_
    refine ck_r ?_
    refine AW.ti hk ?_
    refine a_icmp_ge (tgt := 33) q103_7 (by decide) (fun zc7 => ?_) (fun zc7 => absurd (nI_le (show k ≤ i by omega) (by omega)) zc7)
    refine a_iconst (v := 1) q103_33 (by decide) ?_
    refine a_ireturn q103_34 (nr_bool rfl (by decide)) ?_
    exact hq
  | succ m ih =>
    intro X I A L O Q i k hk hk5 hm ha hq
    refine a_iload_n (i := 2) q103_2 rfl rfl ?_
    refine a_aload_n (i := 1) q103_3 rfl rfl ?_
    refine a_cv0 q103_4 rfl rfl ⟨rfl, rfl⟩ rfl ?_
    refine c_X0_size_1 ?_
    refine ck_r ?_
    refine AW.ti hk ?_
    refine a_icmp_ge (tgt := 33) q103_7 (by decide) (fun zc7 => absurd zc7 (nI_ge (show i < k by omega) (by omega))) (fun zc7 => ?_)
    refine a_aload_n (i := 0) q103_10 rfl rfl ?_
    refine a_getfield q103_11 rfl rfl ?_
    refine a_aload_n (i := 1) q103_14 rfl rfl ?_
    refine a_iload_n (i := 2) q103_15 rfl rfl ?_
    refine a_cv1 q103_16 rfl rfl ⟨rfl, rfl⟩ rfl ?_
    refine c_X0_chartAt_1 ?_
    refine ck_r ?_
    refine a_cv1 q103_19 rfl rfl ⟨rfl, rfl⟩ rfl ?_
    refine c_X3_allows ?_
    refine ck_r ?_
    refine a_if_ne (tgt := 27) q103_22 (by decide) (fun zc22 => ?_) (fun zc22 => absurd zc22 (b2i_nz.mpr (show okC I A (p_chart (f_place (I 7) (L 14) (nI i))) by rw [hk, f_place_n (by omega) hk5]; exact ha i (by omega))))
    refine a_iinc (v := nI (i + 1)) (lv' := [(0, _), (1, _), (2, _)]) q103_27 rfl rfl (nI_1 (i)) rfl ?_
    refine a_goto (tgt := 2) q103_30 (by decide) ?_
    exact ih hk hk5 (show i + 1 + m = k by omega) ha hq

theorem c_X9_isRankingAllowed {X : XS} {I : Nat → Int32} {A : Nat → Nat → Int32} {L : Nat → Nat → Int64} {O : AH} {Q : AO → AH → Prop} {k : Nat} (hk : I 7 = nI k) (hk5 : k ≤ 5) (ha : ∀ z, z < k → okC I A (p_chart (L 14 z))) (hq : Q (.inl (some (.int (1)))) (hp I A L O)) : Call X 103 [.ref 1, .ref 14] (hp I A L O) Q := by
  refine call_of (by decide) rfl rfl ?_
  refine a_iconst (v := 0) q103_0 (by decide) ?_
  refine a_istore_n (i := 2) (lv' := [(0, _), (1, _), (2, _)]) q103_1 rfl rfl rfl ?_
  exact l_rkAll k (i := 0) hk hk5 (Nat.zero_add k) ha hq

theorem l_rkOrd (m : Nat) : ∀ {X : XS} {I : Nat → Int32} {A : Nat → Nat → Int32} {L : Nat → Nat → Int64} {O : AH} {Q : AO → AH → Prop} {i k : Nat} (hk : I 7 = nI k) (hk5 : k ≤ 5) (hm : k ≤ i + m) (hi : 0 < i) (ho : ∀ z, z + 1 < k → ¬ (p_of (f_cost I A L (p_chart (L 14 (z + 1)))) (p_chart (L 14 (z + 1)))) < (p_of (f_cost I A L (p_chart (L 14 z))) (p_chart (L 14 z)))) (hi6 : i < 7) (hq : Q (.inl (some (.int 1))) (hp I A L O)), AW X 104 2 [(0, .ref 1), (1, .ref 14), (2, .int (nI i))] [] (hp I A L O) 0 0 Q := by
  induction m with
  | zero =>
    intro X I A L O Q i k hk hk5 hm hi ho hi6 hq
    refine a_iload_n (i := 2) q104_2 rfl rfl ?_
    refine a_aload_n (i := 1) q104_3 rfl rfl ?_
    refine a_cv0 q104_4 rfl rfl ⟨rfl, rfl⟩ rfl ?_
    refine c_X0_size_1 ?_
    refine ck_r ?_
    refine AW.ti hk ?_
    refine a_icmp_ge (tgt := 63) q104_7 (by decide) (fun zc7 => ?_) (fun zc7 => absurd (nI_le (show k ≤ i by omega) (by omega)) zc7)
    refine a_iconst (v := 1) q104_63 (by decide) ?_
    refine a_ireturn q104_64 (nr_bool rfl (by decide)) ?_
    exact hq
  | succ m ih =>
    intro X I A L O Q i k hk hk5 hm hi ho hi6 hq
    refine a_iload_n (i := 2) q104_2 rfl rfl ?_
    refine a_aload_n (i := 1) q104_3 rfl rfl ?_
    refine a_cv0 q104_4 rfl rfl ⟨rfl, rfl⟩ rfl ?_
    refine c_X0_size_1 ?_
    refine ck_r ?_
    refine AW.ti hk ?_
    refine a_icmp_ge (tgt := 63) q104_7 (by decide) (fun zc7 => ?_) (fun zc7 => ?_)
    · skip
      refine a_iconst (v := 1) q104_63 (by decide) ?_
      refine a_ireturn q104_64 (nr_bool rfl (by decide)) ?_
      exact hq
    · skip
      refine a_aload_n (i := 1) q104_10 rfl rfl ?_
      refine a_iload_n (i := 2) q104_11 rfl rfl ?_
      refine a_cv1 q104_12 rfl rfl ⟨rfl, rfl⟩ rfl ?_
      refine c_X0_chartAt_1 ?_
      refine ck_r ?_
      have zik : i < k := Nat.lt_of_not_le (fun zz => zc7 (nI_le zz (by omega)))
      refine AW.ti (show _ = p_chart (L 14 i) by rw [hk, f_place_n zik hk5]) ?_
      refine a_istore_n (i := 3) (lv' := [(0, _), (1, _), (2, _), (3, _)]) q104_15 rfl rfl rfl ?_
      refine a_aload_n (i := 1) q104_16 rfl rfl ?_
      refine a_iload_n (i := 2) q104_17 rfl rfl ?_
      refine a_iconst (v := 1) q104_18 (by decide) ?_
      refine a_isub q104_19 ?_
      refine AW.ti (show nI i - 1 = nI (i - 1) by obtain ⟨z, rfl⟩ : ∃ z, i = z + 1 := ⟨i - 1, by omega⟩; exact nI_pred z) ?_
      refine a_cv1 q104_20 rfl rfl ⟨rfl, rfl⟩ rfl ?_
      refine c_X0_chartAt_1 ?_
      refine ck_r ?_
      refine AW.ti (show _ = p_chart (L 14 (i - 1)) by rw [hk, f_place_n (by omega) hk5]) ?_
      refine a_istore (i := 4) (lv' := [(0, _), (1, _), (2, _), (3, _), (4, _)]) q104_23 rfl rfl ?_
      refine a_aload_n (i := 0) q104_25 rfl rfl ?_
      refine a_getfield q104_26 rfl rfl ?_
      refine a_iload_n (i := 3) q104_29 rfl rfl ?_
      refine a_cv1 q104_30 rfl rfl ⟨rfl, rfl⟩ rfl ?_
      refine c_X2_costOf ?_
      refine ck_r ?_
      refine a_iload_n (i := 3) q104_33 rfl rfl ?_
      refine a_cs2 q104_34 rfl ⟨rfl, rfl⟩ rfl ?_
      refine c_X5_of ?_
      refine ck_r ?_
      refine a_aload_n (i := 0) q104_37 rfl rfl ?_
      refine a_getfield q104_38 rfl rfl ?_
      refine a_iload q104_41 rfl ?_
      refine a_cv1 q104_43 rfl rfl ⟨rfl, rfl⟩ rfl ?_
      refine c_X2_costOf ?_
      refine ck_r ?_
      refine a_iload q104_46 rfl ?_
      refine a_cs2 q104_48 rfl ⟨rfl, rfl⟩ rfl ?_
      refine c_X5_of ?_
      refine ck_r ?_
      refine a_lcmp q104_51 ?_
      refine a_if_ge (tgt := 57) q104_52 (by decide) (fun zc52 => ?_) (fun zc52 => absurd ((lg_cmp_ge _ _).mpr (Int64.not_lt.mp (by have := ho (i - 1) (by omega); rw [show i - 1 + 1 = i by omega] at this; exact this))) zc52)
      refine a_iinc (v := nI (i + 1)) (lv' := [(0, _), (1, _), (2, _), (3, _), (4, _)]) q104_57 rfl rfl (nI_1 (i)) rfl ?_
      refine a_goto (tgt := 2) q104_60 (by decide) ?_
      refine AW.pop_less (x := (4, _)) (lv' := [(0, _), (1, _), (2, _), (3, _)]) ?_
      refine AW.pop_less (x := (3, _)) (lv' := [(0, _), (1, _), (2, _)]) ?_
      exact ih hk hk5 (show k ≤ i + 1 + m by omega) (Nat.succ_pos i) ho (by omega) hq

theorem c_X9_isRankingInOrder {X : XS} {I : Nat → Int32} {A : Nat → Nat → Int32} {L : Nat → Nat → Int64} {O : AH} {Q : AO → AH → Prop} {k : Nat} (hk : I 7 = nI k) (hk5 : k ≤ 5) (ho : ∀ z, z + 1 < k → ¬ (p_of (f_cost I A L (p_chart (L 14 (z + 1)))) (p_chart (L 14 (z + 1)))) < (p_of (f_cost I A L (p_chart (L 14 z))) (p_chart (L 14 z)))) (hq : Q (.inl (some (.int (1)))) (hp I A L O)) : Call X 104 [.ref 1, .ref 14] (hp I A L O) Q := by
  refine call_of (by decide) rfl rfl ?_
  refine a_iconst (v := 1) q104_0 (by decide) ?_
  refine a_istore_n (i := 2) (lv' := [(0, _), (1, _), (2, _)]) q104_1 rfl rfl rfl ?_
  exact l_rkOrd k (i := 1) hk hk5 (by omega) (by decide) ho (by decide) hq

theorem c_X9_isFirstConfirmed {X : XS} {I : Nat → Int32} {A : Nat → Nat → Int32} {L : Nat → Nat → Int64} {O : AH} {Q : AO → AH → Prop} (hf : (¬ isRk (I 7) 0 ∧ ¬ isRk (I 10) 0) ∨ (isRk (I 7) 0 ∧ isRk (I 10) 0 ∧ f_cost I A L (p_chart (f_place (I 7) (L 14) 0)) = p_cost (f_place (I 10) (L 17) 0))) (hq : Q (.inl (some (.int (1)))) (hp I A L O)) : Call X 105 [.ref 1, .ref 14, .ref 17] (hp I A L O) Q := by
  refine call_of (by decide) rfl rfl ?_
  refine a_aload_n (i := 1) q105_0 rfl rfl ?_
  refine a_iconst (v := 0) q105_1 (by decide) ?_
  refine a_cv1 q105_2 rfl rfl ⟨rfl, rfl⟩ rfl ?_
  refine c_X0_hasRank_1 ?_
  refine ck_r ?_
  refine a_if_ne (tgt := 22) q105_5 (by decide) (fun zc5 => ?_) (fun zc5 => ?_)
  · skip
    refine a_aload_n (i := 2) q105_22 rfl rfl ?_
    refine a_iconst (v := 0) q105_23 (by decide) ?_
    refine a_cv1 q105_24 rfl rfl ⟨rfl, rfl⟩ rfl ?_
    refine c_X0_hasRank_2 ?_
    refine ck_r ?_
    refine a_if_eq (tgt := 57) q105_27 (by decide) (fun zc27 => ?_) (fun zc27 => ?_)
    · skip
      refine a_iconst (v := 0) q105_57 (by decide) ?_
      refine a_ireturn q105_58 (nr_bool rfl (by decide)) ?_
      first | exact hq | (exfalso; simp only [b2i_z, b2i_nz] at *; simp_all)
    · skip
      refine a_aload_n (i := 0) q105_30 rfl rfl ?_
      refine a_getfield q105_31 rfl rfl ?_
      refine a_aload_n (i := 1) q105_34 rfl rfl ?_
      refine a_iconst (v := 0) q105_35 (by decide) ?_
      refine a_cv1 q105_36 rfl rfl ⟨rfl, rfl⟩ rfl ?_
      refine c_X0_chartAt_1 ?_
      refine ck_r ?_
      refine a_cv1 q105_39 rfl rfl ⟨rfl, rfl⟩ rfl ?_
      refine c_X2_costOf ?_
      refine ck_r ?_
      refine a_aload_n (i := 2) q105_42 rfl rfl ?_
      refine a_iconst (v := 0) q105_43 (by decide) ?_
      refine a_cv1 q105_44 rfl rfl ⟨rfl, rfl⟩ rfl ?_
      refine c_X0_placeAt_2 ?_
      refine ck_r ?_
      refine a_cs1 q105_47 rfl ⟨rfl, rfl⟩ rfl ?_
      refine c_X5_costOf ?_
      refine ck_r ?_
      refine a_icmp_ne (tgt := 57) q105_50 (by decide) (fun zc50 => ?_) (fun zc50 => ?_)
      · skip
        refine a_iconst (v := 0) q105_57 (by decide) ?_
        refine a_ireturn q105_58 (nr_bool rfl (by decide)) ?_
        first | exact hq | (exfalso; simp only [b2i_z, b2i_nz] at *; simp_all)
      · skip
        refine a_iconst (v := 1) q105_53 (by decide) ?_
        refine a_goto (tgt := 58) q105_54 (by decide) ?_
        refine a_ireturn q105_58 (nr_bool rfl (by decide)) ?_
        first | exact hq | (exfalso; simp only [b2i_z, b2i_nz] at *; simp_all)
  · skip
    refine a_aload_n (i := 2) q105_8 rfl rfl ?_
    refine a_iconst (v := 0) q105_9 (by decide) ?_
    refine a_cv1 q105_10 rfl rfl ⟨rfl, rfl⟩ rfl ?_
    refine c_X0_hasRank_2 ?_
    refine ck_r ?_
    refine a_if_ne (tgt := 20) q105_13 (by decide) (fun zc13 => ?_) (fun zc13 => ?_)
    · skip
      refine a_iconst (v := 0) q105_20 (by decide) ?_
      refine a_ireturn q105_21 (nr_bool rfl (by decide)) ?_
      first | exact hq | (exfalso; simp only [b2i_z, b2i_nz] at *; simp_all)
    · skip
      refine a_iconst (v := 1) q105_16 (by decide) ?_
      refine a_goto (tgt := 21) q105_17 (by decide) ?_
      refine a_ireturn q105_21 (nr_bool rfl (by decide)) ?_
      exact hq

theorem c_X9_meanOf {X : XS} {I : Nat → Int32} {A : Nat → Nat → Int32} {L : Nat → Nat → Int64} {O : AH} {Q : AO → AH → Prop} {c : Int32} (h1 : ¬ isCol c → Q (.inr 2) (hp I A L O)) (h2 : isCol c → f_countIn A c = 0 → Q (.inr 3) (hp I A L O)) (hne : isCol c → ¬ f_countIn A c = 0 → vf_n64 (FP.ddiv (FP.l2d (f_sumIn L c)) (FP.i2d (f_countIn A c)))) (h0 : isCol c → ¬ f_countIn A c = 0 → Q (.inl (some (.double (FP.ddiv (FP.l2d (f_sumIn L c)) (FP.i2d (f_countIn A c)))))) (hp I A L O)) : Call X 78 [.ref 1, .int c] (hp I A L O) Q := by
  refine call_of (by decide) rfl rfl ?_
  refine a_iload_n (i := 1) q78_0 rfl rfl ?_
  refine a_cs1 q78_1 rfl ⟨rfl, rfl⟩ rfl ?_
  refine c_X9_requireColumn (fun zcol => ?_) (fun zn => ck_x rfl (h1 zn))
  refine ck_v ?_
  refine a_aload_n (i := 0) q78_4 rfl rfl ?_
  refine a_getfield q78_5 rfl rfl ?_
  refine a_iload_n (i := 1) q78_8 rfl rfl ?_
  refine a_cv1 q78_9 rfl rfl ⟨rfl, rfl⟩ rfl ?_
  refine c_X7_countIn ?_
  refine ck_r ?_
  refine a_istore_n (i := 2) (lv' := [(0, _), (1, _), (2, _)]) q78_12 rfl rfl rfl ?_
  refine a_iload_n (i := 2) q78_13 rfl rfl ?_
  refine a_if_ne (tgt := 27) q78_14 (by decide) (fun zc14 => ?_) (fun zc14 => ?_)
  · skip
    refine a_aload_n (i := 0) q78_27 rfl rfl ?_
    refine a_getfield q78_28 rfl rfl ?_
    refine a_iload_n (i := 1) q78_31 rfl rfl ?_
    refine a_cv1 q78_32 rfl rfl ⟨rfl, rfl⟩ rfl ?_
    refine c_X7_sumIn ?_
    refine ck_r ?_
    refine a_l2d q78_35 ?_
    refine a_iload_n (i := 2) q78_36 rfl rfl ?_
    refine a_i2d q78_37 ?_
    refine a_ddiv q78_38 (hne zcol zc14) ?_
    refine a_dreturn q78_39 rfl ?_
    exact h0 zcol zc14
  · skip
    refine a_throw q78_17 ⟨by decide, by decide⟩ (by decide) ?_
    exact h2 zcol zc14

theorem c_X9_filled {X : XS} {I : Nat → Int32} {A : Nat → Nat → Int32} {L : Nat → Nat → Int64} {O : AH} {Q : AO → AH → Prop} {c : Int32} (h1 : ¬ isCol c → Q (.inr 2) (hp I A L O)) (h2 : isCol c → I 2 = 0 → Q (.inr 3) (hp I A L O)) (hne : isCol c → ¬ I 2 = 0 → vf_n32 (FP.fdiv (FP.i2f (f_countIn A c)) (FP.i2f (I 2)))) (h0 : isCol c → ¬ I 2 = 0 → Q (.inl (some (.float (FP.fdiv (FP.i2f (f_countIn A c)) (FP.i2f (I 2)))))) (hp I A L O)) : Call X 79 [.ref 1, .int c] (hp I A L O) Q := by
  refine call_of (by decide) rfl rfl ?_
  refine a_iload_n (i := 1) q79_0 rfl rfl ?_
  refine a_cs1 q79_1 rfl ⟨rfl, rfl⟩ rfl ?_
  refine c_X9_requireColumn (fun zcol => ?_) (fun zn => ck_x rfl (h1 zn))
  refine ck_v ?_
  refine a_aload_n (i := 0) q79_4 rfl rfl ?_
  refine a_getfield q79_5 rfl rfl ?_
  refine a_cv0 q79_8 rfl rfl ⟨rfl, rfl⟩ rfl ?_
  refine c_X7_rowCount ?_
  refine ck_r ?_
  refine a_istore_n (i := 2) (lv' := [(0, _), (1, _), (2, _)]) q79_11 rfl rfl rfl ?_
  refine a_iload_n (i := 2) q79_12 rfl rfl ?_
  refine a_if_ne (tgt := 26) q79_13 (by decide) (fun zc13 => ?_) (fun zc13 => ?_)
  · skip
    refine a_aload_n (i := 0) q79_26 rfl rfl ?_
    refine a_getfield q79_27 rfl rfl ?_
    refine a_iload_n (i := 1) q79_30 rfl rfl ?_
    refine a_cv1 q79_31 rfl rfl ⟨rfl, rfl⟩ rfl ?_
    refine c_X7_countIn ?_
    refine ck_r ?_
    refine a_i2f q79_34 ?_
    refine a_iload_n (i := 2) q79_35 rfl rfl ?_
    refine a_i2f q79_36 ?_
    refine a_fdiv q79_37 (hne zcol zc13) ?_
    refine a_freturn q79_38 rfl ?_
    exact h0 zcol zc13
  · skip
    refine a_throw q79_16 ⟨by decide, by decide⟩ (by decide) ?_
    exact h2 zcol zc13
