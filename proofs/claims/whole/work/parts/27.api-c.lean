/-! picking, soundness, means -/
theorem c_X9_isGoodEnough {X : XS} {I : Nat → Int32} {A : Nat → Nat → Int32} {L : Nat → Nat → Int64} {O : Nat → UInt64} {Q : AO → AH → Prop} {b : BT} {c : Int32} (hq : Q (.inl (some (.int (b2i (okC I A c ∧ f_cost I A L c ≤ p_cost (f_place (nI b.1) b.2 0) + I 0))))) (hpB I A L O b)) : Call X 130 [.ref 0, .int c, .ref 13] (hpB I A L O b) Q := by
  refine call_of (by decide) rfl rfl ?_
  refine a_aload_n (i := 0) q130_0 rfl rfl ?_
  refine a_getfield q130_1 rfl rfl ?_
  refine a_iload_n (i := 1) q130_4 rfl rfl ?_
  refine a_cv1 q130_5 rfl rfl ⟨rfl, rfl⟩ rfl ?_
  refine c_X3_allows (lfi (x := b2i (okC I A c)) ?_ rfl)
  refine ck_r ?_
  refine a_if_eq (tgt := 39) q130_8 (by decide) (fun zc8 => ?_) (fun zc8 => ?_)
  · skip
    refine a_iconst (v := 0) q130_39 (by decide) ?_
    refine a_ireturn q130_40 (nr_bool rfl (by decide)) ?_
    exact lfi hq (b2i_f (p := (okC I A c ∧ f_cost I A L c ≤ p_cost (f_place (nI b.1) b.2 0) + I 0)) (fun zz => b2i_z.mp zc8 zz.1)).symm
  · skip
    refine a_aload_n (i := 0) q130_11 rfl rfl ?_
    refine a_getfield q130_12 rfl rfl ?_
    refine a_iload_n (i := 1) q130_15 rfl rfl ?_
    refine a_cv1 q130_16 rfl rfl ⟨rfl, rfl⟩ rfl ?_
    refine c_X2_costOf_1 ?_
    refine ck_r ?_
    refine a_aload_n (i := 2) q130_19 rfl rfl ?_
    refine a_iconst (v := 0) q130_20 (by decide) ?_
    refine a_cv1 q130_21 rfl rfl ⟨rfl, rfl⟩ rfl ?_
    refine c_X0_placeAt_1 ?_
    refine ck_r ?_
    refine a_cs1 q130_24 rfl ⟨rfl, rfl⟩ rfl ?_
    refine c_X5_costOf ?_
    refine ck_r ?_
    refine a_aload_n (i := 0) q130_27 rfl rfl ?_
    refine a_getfield q130_28 rfl rfl ?_
    refine a_iadd q130_31 ?_
    refine a_icmp_gt (tgt := 39) q130_32 (by decide) (fun zc32 => ?_) (fun zc32 => ?_)
    · skip
      refine a_iconst (v := 0) q130_39 (by decide) ?_
      refine a_ireturn q130_40 (nr_bool rfl (by decide)) ?_
      exact lfi hq (b2i_f (p := (okC I A c ∧ f_cost I A L c ≤ p_cost (f_place (nI b.1) b.2 0) + I 0)) (fun zz => absurd zc32 (i_nlt.mpr zz.2))).symm
    · skip
      refine a_iconst (v := 1) q130_35 (by decide) ?_
      refine a_goto (tgt := 40) q130_36 (by decide) ?_
      refine a_ireturn q130_40 (nr_bool rfl (by decide)) ?_
      exact lfi hq (b2i_t (p := (okC I A c ∧ f_cost I A L c ≤ p_cost (f_place (nI b.1) b.2 0) + I 0)) ⟨b2i_nz.mp zc8, i_nlt.mp zc32⟩).symm

theorem c_X9_pick {X : XS} {I : Nat → Int32} {A : Nat → Nat → Int32} {L : Nat → Nat → Int64} {O : Nat → UInt64} {Q : AO → AH → Prop} {k : Nat} (hk : I 7 = nI k) (hk5 : k ≤ 5) {j : Nat} (hn : I 11 = nI j) (hj : j ≤ 4) (h1 : ¬ isRk (nI (rkB I A L).1) 0 → Q (.inr 4) (hpR I A L O)) (h2 : isRk (nI (rkB I A L).1) 0 → ¬ I 12 = -1 → (okC I A (I 12) ∧ f_cost I A L (I 12) ≤ p_cost (f_place (nI (rkB I A L).1) (rkB I A L).2 0) + I 0) → Q (.inl (some (.int 0))) (hpR I A L O)) (h3 : isRk (nI (rkB I A L).1) 0 → I 12 = -1 → Q (.inl (some (.int 1))) (hp (va_up (va_up (va_up I 6 0) 7 (nI (rkB I A L).1)) 12 (p_chart (f_place (nI (rkB I A L).1) (rkB I A L).2 0))) A (va_up L 14 (rkB I A L).2) O)) (h4 : isRk (nI (rkB I A L).1) 0 → ¬ I 12 = -1 → ¬ (okC I A (I 12) ∧ f_cost I A L (I 12) ≤ p_cost (f_place (nI (rkB I A L).1) (rkB I A L).2 0) + I 0) → Q (.inl (some (.int 1))) (hp (va_up (va_up (va_up (va_up I 6 0) 7 (nI (rkB I A L).1)) 11 (nI (kpN j))) 12 (p_chart (f_place (nI (rkB I A L).1) (rkB I A L).2 0))) (va_up A 20 (kpF (A 20) j (I 12))) (va_up L 14 (rkB I A L).2) O)) : Call X 105 [.ref 0] (hp I A L O) Q := by
  refine call_of (by decide) rfl rfl ?_
  refine a_aload_n (i := 0) q105_0 rfl rfl ?_
  refine a_getfield q105_1 rfl rfl ?_
  refine a_cv0 q105_4 rfl rfl ⟨rfl, rfl⟩ rfl ?_
  refine c_X6_ranking' hk hk5 ?_
  refine ck_r ?_
  refine a_astore_n (i := 1) (lv' := [(0, _), (1, _)]) q105_7 rfl rfl rfl ?_
  refine a_aload_n (i := 1) q105_8 rfl rfl ?_
  refine a_iconst (v := 0) q105_9 (by decide) ?_
  refine a_cv1 q105_10 rfl rfl ⟨rfl, rfl⟩ rfl ?_
  refine c_X0_hasRank_1 ?_
  refine ck_r ?_
  refine a_if_ne (tgt := 26) q105_13 (by decide) (fun zc13 => ?_) (fun zc13 => ?_)
  · skip
    refine a_aload_n (i := 0) q105_26 rfl rfl ?_
    refine a_getfield q105_27 rfl rfl ?_
    refine a_cv0 q105_30 rfl rfl ⟨rfl, rfl⟩ rfl ?_
    refine c_X4_hasPresent ?_
    refine ck_r ?_
    refine a_if_eq (tgt := 53) q105_33 (by decide) (fun zc33 => ?_) (fun zc33 => ?_)
    · skip
      refine a_aload_n (i := 0) q105_53 rfl rfl ?_
      refine a_getfield q105_54 rfl rfl ?_
      refine a_aload_n (i := 1) q105_57 rfl rfl ?_
      refine a_iconst (v := 0) q105_58 (by decide) ?_
      refine a_cv1 q105_59 rfl rfl ⟨rfl, rfl⟩ rfl ?_
      refine c_X0_chartAt_1 ?_
      refine ck_r ?_
      refine a_cv1 q105_62 rfl rfl ⟨rfl, rfl⟩ rfl ?_
      refine c_X4_become hn hj (fun zp => ck_v ?_) (fun zp => ck_v ?_)
      · skip
        refine a_iconst (v := 1) q105_65 (by decide) ?_
        refine a_ireturn q105_66 (nr_bool rfl (by decide)) ?_
        exact lfh (h3 (b2i_nz.mp zc13) zp) rfl
      · skip
        refine a_iconst (v := 1) q105_65 (by decide) ?_
        refine a_ireturn q105_66 (nr_bool rfl (by decide)) ?_
        exact lfh (h4 (b2i_nz.mp zc13) zp (absurd (Classical.not_not.mp (b2i_z.mp zc33)) zp)) rfl
    · skip
      refine a_aload_n (i := 0) q105_36 rfl rfl ?_
      refine a_aload_n (i := 0) q105_37 rfl rfl ?_
      refine a_getfield q105_38 rfl rfl ?_
      refine a_cv0 q105_41 rfl rfl ⟨rfl, rfl⟩ rfl ?_
      refine c_X4_present ?_
      refine ck_r ?_
      refine a_aload_n (i := 1) q105_44 rfl rfl ?_
      refine a_cv2 q105_45 rfl rfl ⟨rfl, rfl⟩ rfl ?_
      refine c_X9_isGoodEnough (I := va_up I 6 0) (b := rkB I A L) (lfi (x := b2i (okC I A (I 12) ∧ f_cost I A L (I 12) ≤ p_cost (f_place (nI (rkB I A L).1) (rkB I A L).2 0) + I 0)) ?_ rfl)
      refine ck_r ?_
      refine a_if_eq (tgt := 53) q105_48 (by decide) (fun zc48 => ?_) (fun zc48 => ?_)
      · skip
        refine a_aload_n (i := 0) q105_53 rfl rfl ?_
        refine a_getfield q105_54 rfl rfl ?_
        refine a_aload_n (i := 1) q105_57 rfl rfl ?_
        refine a_iconst (v := 0) q105_58 (by decide) ?_
        refine a_cv1 q105_59 rfl rfl ⟨rfl, rfl⟩ rfl ?_
        refine c_X0_chartAt_1 ?_
        refine ck_r ?_
        refine a_cv1 q105_62 rfl rfl ⟨rfl, rfl⟩ rfl ?_
        refine c_X4_become hn hj (fun zp => ck_v ?_) (fun zp => ck_v ?_)
        · skip
          refine a_iconst (v := 1) q105_65 (by decide) ?_
          refine a_ireturn q105_66 (nr_bool rfl (by decide)) ?_
          exact lfh (h3 (b2i_nz.mp zc13) zp) rfl
        · skip
          refine a_iconst (v := 1) q105_65 (by decide) ?_
          refine a_ireturn q105_66 (nr_bool rfl (by decide)) ?_
          exact lfh (h4 (b2i_nz.mp zc13) zp (b2i_z.mp zc48)) rfl
      · skip
        refine a_iconst (v := 0) q105_51 (by decide) ?_
        refine a_ireturn q105_52 (nr_bool rfl (by decide)) ?_
        exact h2 (b2i_nz.mp zc13) (b2i_nz.mp zc33) (b2i_nz.mp zc48)
  · skip
    refine a_throw q105_16 ⟨by decide, by decide⟩ (by decide) ?_
    exact h1 (b2i_z.mp zc13)

theorem f_place_n {f : Nat → Int64} {k i : Nat} (hi : i < k) (hk : k ≤ 5) : f_place (nI k) f (nI i) = f i := by
  rw [f_place, if_pos (show isRk (nI k) (nI i) from ⟨nI_pos' (by omega), nI_lt hi (by omega), nI_lt (show i < 5 by omega) (by decide)⟩), nI_cl (n := 5) (by omega) (by decide)]
theorem l_rkAll (m : Nat) : ∀ {X : XS} {I : Nat → Int32} {A : Nat → Nat → Int32} {L : Nat → Nat → Int64} {O : Nat → UInt64} {Q : AO → AH → Prop} {i k : Nat} (hk : I 7 = nI k) (hk5 : k ≤ 5) (hm : i + m = k) (ha : ∀ z, z < k → okC I A (p_chart (L 14 z))) (hq : Q (.inl (some (.int 1))) (hp I A L O)), AW X 131 2 [(0, .ref 0), (1, .ref 13), (2, .int (nI i))] [] (hp I A L O) 0 0 Q := by
  induction m with
  | zero =>
    intro X I A L O Q i k hk hk5 hm ha hq
    refine a_iload_n (i := 2) q131_2 rfl rfl ?_
    refine a_aload_n (i := 1) q131_3 rfl rfl ?_
    refine a_cv0 q131_4 rfl rfl ⟨rfl, rfl⟩ rfl ?_
    refine c_X0_size_1 ?_
    refine ck_r ?_
    refine AW.ti hk ?_
    refine a_icmp_ge (tgt := 33) q131_7 (by decide) (fun zc7 => ?_) (fun zc7 => absurd (nI_le (show k ≤ i by omega) (by omega)) zc7)
    refine a_iconst (v := 1) q131_33 (by decide) ?_
    refine a_ireturn q131_34 (nr_bool rfl (by decide)) ?_
    exact hq
  | succ m ih =>
    intro X I A L O Q i k hk hk5 hm ha hq
    refine a_iload_n (i := 2) q131_2 rfl rfl ?_
    refine a_aload_n (i := 1) q131_3 rfl rfl ?_
    refine a_cv0 q131_4 rfl rfl ⟨rfl, rfl⟩ rfl ?_
    refine c_X0_size_1 ?_
    refine ck_r ?_
    refine AW.ti hk ?_
    refine a_icmp_ge (tgt := 33) q131_7 (by decide) (fun zc7 => absurd zc7 (nI_ge (show i < k by omega) (by omega))) (fun zc7 => ?_)
    refine a_aload_n (i := 0) q131_10 rfl rfl ?_
    refine a_getfield q131_11 rfl rfl ?_
    refine a_aload_n (i := 1) q131_14 rfl rfl ?_
    refine a_iload_n (i := 2) q131_15 rfl rfl ?_
    refine a_cv1 q131_16 rfl rfl ⟨rfl, rfl⟩ rfl ?_
    refine c_X0_chartAt_1 ?_
    refine ck_r ?_
    refine a_cv1 q131_19 rfl rfl ⟨rfl, rfl⟩ rfl ?_
    refine c_X3_allows ?_
    refine ck_r ?_
    refine a_if_ne (tgt := 27) q131_22 (by decide) (fun zc22 => ?_) (fun zc22 => absurd zc22 (b2i_nz.mpr (show okC I A (p_chart (f_place (I 7) (L 14) (nI i))) by rw [hk, f_place_n (by omega) hk5]; exact ha i (by omega))))
    refine a_iinc (v := nI (i + 1)) (lv' := [(0, _), (1, _), (2, _)]) q131_27 rfl rfl (nI_1 (i)) rfl ?_
    refine a_goto (tgt := 2) q131_30 (by decide) ?_
    exact ih hk hk5 (show i + 1 + m = k by omega) ha hq

theorem c_X9_isRankingAllowed {X : XS} {I : Nat → Int32} {A : Nat → Nat → Int32} {L : Nat → Nat → Int64} {O : Nat → UInt64} {Q : AO → AH → Prop} {k : Nat} (hk : I 7 = nI k) (hk5 : k ≤ 5) (ha : ∀ z, z < k → okC I A (p_chart (L 14 z))) (hq : Q (.inl (some (.int (1)))) (hp I A L O)) : Call X 131 [.ref 0, .ref 13] (hp I A L O) Q := by
  refine call_of (by decide) rfl rfl ?_
  refine a_iconst (v := 0) q131_0 (by decide) ?_
  refine a_istore_n (i := 2) (lv' := [(0, _), (1, _), (2, _)]) q131_1 rfl rfl rfl ?_
  exact l_rkAll k (i := 0) hk hk5 (Nat.zero_add k) ha hq

theorem l_rkOrd (m : Nat) : ∀ {X : XS} {I : Nat → Int32} {A : Nat → Nat → Int32} {L : Nat → Nat → Int64} {O : Nat → UInt64} {Q : AO → AH → Prop} {i k : Nat} (hk : I 7 = nI k) (hk5 : k ≤ 5) (hm : k ≤ i + m) (hi : 0 < i) (ho : ∀ z, z + 1 < k → ¬ (p_of (f_cost I A L (p_chart (L 14 (z + 1)))) (p_chart (L 14 (z + 1)))) < (p_of (f_cost I A L (p_chart (L 14 z))) (p_chart (L 14 z)))) (hi6 : i < 7) (hq : Q (.inl (some (.int 1))) (hp I A L O)), AW X 132 2 [(0, .ref 0), (1, .ref 13), (2, .int (nI i))] [] (hp I A L O) 0 0 Q := by
  induction m with
  | zero =>
    intro X I A L O Q i k hk hk5 hm hi ho hi6 hq
    refine a_iload_n (i := 2) q132_2 rfl rfl ?_
    refine a_aload_n (i := 1) q132_3 rfl rfl ?_
    refine a_cv0 q132_4 rfl rfl ⟨rfl, rfl⟩ rfl ?_
    refine c_X0_size_1 ?_
    refine ck_r ?_
    refine AW.ti hk ?_
    refine a_icmp_ge (tgt := 63) q132_7 (by decide) (fun zc7 => ?_) (fun zc7 => absurd (nI_le (show k ≤ i by omega) (by omega)) zc7)
    refine a_iconst (v := 1) q132_63 (by decide) ?_
    refine a_ireturn q132_64 (nr_bool rfl (by decide)) ?_
    exact hq
  | succ m ih =>
    intro X I A L O Q i k hk hk5 hm hi ho hi6 hq
    refine a_iload_n (i := 2) q132_2 rfl rfl ?_
    refine a_aload_n (i := 1) q132_3 rfl rfl ?_
    refine a_cv0 q132_4 rfl rfl ⟨rfl, rfl⟩ rfl ?_
    refine c_X0_size_1 ?_
    refine ck_r ?_
    refine AW.ti hk ?_
    refine a_icmp_ge (tgt := 63) q132_7 (by decide) (fun zc7 => ?_) (fun zc7 => ?_)
    · skip
      refine a_iconst (v := 1) q132_63 (by decide) ?_
      refine a_ireturn q132_64 (nr_bool rfl (by decide)) ?_
      exact hq
    · skip
      refine a_aload_n (i := 1) q132_10 rfl rfl ?_
      refine a_iload_n (i := 2) q132_11 rfl rfl ?_
      refine a_cv1 q132_12 rfl rfl ⟨rfl, rfl⟩ rfl ?_
      refine c_X0_chartAt_1 ?_
      refine ck_r ?_
      have zik : i < k := Nat.lt_of_not_le (fun zz => zc7 (nI_le zz (by omega)))
      refine AW.ti (show _ = p_chart (L 14 i) by rw [hk, f_place_n zik hk5]) ?_
      refine a_istore_n (i := 3) (lv' := [(0, _), (1, _), (2, _), (3, _)]) q132_15 rfl rfl rfl ?_
      refine a_aload_n (i := 1) q132_16 rfl rfl ?_
      refine a_iload_n (i := 2) q132_17 rfl rfl ?_
      refine a_iconst (v := 1) q132_18 (by decide) ?_
      refine a_isub q132_19 ?_
      refine AW.ti (show nI i - 1 = nI (i - 1) by obtain ⟨z, rfl⟩ : ∃ z, i = z + 1 := ⟨i - 1, by omega⟩; exact nI_pred z) ?_
      refine a_cv1 q132_20 rfl rfl ⟨rfl, rfl⟩ rfl ?_
      refine c_X0_chartAt_1 ?_
      refine ck_r ?_
      refine AW.ti (show _ = p_chart (L 14 (i - 1)) by rw [hk, f_place_n (by omega) hk5]) ?_
      refine a_istore (i := 4) (lv' := [(0, _), (1, _), (2, _), (3, _), (4, _)]) q132_23 rfl rfl ?_
      refine a_aload_n (i := 0) q132_25 rfl rfl ?_
      refine a_getfield q132_26 rfl rfl ?_
      refine a_iload_n (i := 3) q132_29 rfl rfl ?_
      refine a_cv1 q132_30 rfl rfl ⟨rfl, rfl⟩ rfl ?_
      refine c_X2_costOf ?_
      refine ck_r ?_
      refine a_iload_n (i := 3) q132_33 rfl rfl ?_
      refine a_cs2 q132_34 rfl ⟨rfl, rfl⟩ rfl ?_
      refine c_X5_of ?_
      refine ck_r ?_
      refine a_aload_n (i := 0) q132_37 rfl rfl ?_
      refine a_getfield q132_38 rfl rfl ?_
      refine a_iload q132_41 rfl ?_
      refine a_cv1 q132_43 rfl rfl ⟨rfl, rfl⟩ rfl ?_
      refine c_X2_costOf ?_
      refine ck_r ?_
      refine a_iload q132_46 rfl ?_
      refine a_cs2 q132_48 rfl ⟨rfl, rfl⟩ rfl ?_
      refine c_X5_of ?_
      refine ck_r ?_
      refine a_lcmp q132_51 ?_
      refine a_if_ge (tgt := 57) q132_52 (by decide) (fun zc52 => ?_) (fun zc52 => absurd ((lg_cmp_ge _ _).mpr (Int64.not_lt.mp (by have := ho (i - 1) (by omega); rw [show i - 1 + 1 = i by omega] at this; exact this))) zc52)
      refine a_iinc (v := nI (i + 1)) (lv' := [(0, _), (1, _), (2, _), (3, _), (4, _)]) q132_57 rfl rfl (nI_1 (i)) rfl ?_
      refine a_goto (tgt := 2) q132_60 (by decide) ?_
      refine AW.pop_less (x := (4, _)) (lv' := [(0, _), (1, _), (2, _), (3, _)]) ?_
      refine AW.pop_less (x := (3, _)) (lv' := [(0, _), (1, _), (2, _)]) ?_
      exact ih hk hk5 (show k ≤ i + 1 + m by omega) (Nat.succ_pos i) ho (by omega) hq

theorem c_X9_isRankingInOrder {X : XS} {I : Nat → Int32} {A : Nat → Nat → Int32} {L : Nat → Nat → Int64} {O : Nat → UInt64} {Q : AO → AH → Prop} {k : Nat} (hk : I 7 = nI k) (hk5 : k ≤ 5) (ho : ∀ z, z + 1 < k → ¬ (p_of (f_cost I A L (p_chart (L 14 (z + 1)))) (p_chart (L 14 (z + 1)))) < (p_of (f_cost I A L (p_chart (L 14 z))) (p_chart (L 14 z)))) (hq : Q (.inl (some (.int (1)))) (hp I A L O)) : Call X 132 [.ref 0, .ref 13] (hp I A L O) Q := by
  refine call_of (by decide) rfl rfl ?_
  refine a_iconst (v := 1) q132_0 (by decide) ?_
  refine a_istore_n (i := 2) (lv' := [(0, _), (1, _), (2, _)]) q132_1 rfl rfl rfl ?_
  exact l_rkOrd k (i := 1) hk hk5 (by omega) (by decide) ho (by decide) hq

theorem c_X9_isFirstConfirmed {X : XS} {I : Nat → Int32} {A : Nat → Nat → Int32} {L : Nat → Nat → Int64} {O : Nat → UInt64} {Q : AO → AH → Prop} (hf : (¬ isRk (I 7) 0 ∧ ¬ isRk (I 10) 0) ∨ (isRk (I 7) 0 ∧ isRk (I 10) 0 ∧ f_cost I A L (p_chart (f_place (I 7) (L 14) 0)) = p_cost (f_place (I 10) (L 17) 0))) (hq : Q (.inl (some (.int (1)))) (hp I A L O)) : Call X 133 [.ref 0, .ref 13, .ref 16] (hp I A L O) Q := by
  refine call_of (by decide) rfl rfl ?_
  refine a_aload_n (i := 1) q133_0 rfl rfl ?_
  refine a_iconst (v := 0) q133_1 (by decide) ?_
  refine a_cv1 q133_2 rfl rfl ⟨rfl, rfl⟩ rfl ?_
  refine c_X0_hasRank_1 ?_
  refine ck_r ?_
  refine a_if_ne (tgt := 22) q133_5 (by decide) (fun zc5 => ?_) (fun zc5 => ?_)
  · skip
    refine a_aload_n (i := 2) q133_22 rfl rfl ?_
    refine a_iconst (v := 0) q133_23 (by decide) ?_
    refine a_cv1 q133_24 rfl rfl ⟨rfl, rfl⟩ rfl ?_
    refine c_X0_hasRank_2 ?_
    refine ck_r ?_
    refine a_if_eq (tgt := 57) q133_27 (by decide) (fun zc27 => ?_) (fun zc27 => ?_)
    · skip
      refine a_iconst (v := 0) q133_57 (by decide) ?_
      refine a_ireturn q133_58 (nr_bool rfl (by decide)) ?_
      first | exact hq | (exfalso; simp only [b2i_z, b2i_nz] at *; simp_all)
    · skip
      refine a_aload_n (i := 0) q133_30 rfl rfl ?_
      refine a_getfield q133_31 rfl rfl ?_
      refine a_aload_n (i := 1) q133_34 rfl rfl ?_
      refine a_iconst (v := 0) q133_35 (by decide) ?_
      refine a_cv1 q133_36 rfl rfl ⟨rfl, rfl⟩ rfl ?_
      refine c_X0_chartAt_1 ?_
      refine ck_r ?_
      refine a_cv1 q133_39 rfl rfl ⟨rfl, rfl⟩ rfl ?_
      refine c_X2_costOf ?_
      refine ck_r ?_
      refine a_aload_n (i := 2) q133_42 rfl rfl ?_
      refine a_iconst (v := 0) q133_43 (by decide) ?_
      refine a_cv1 q133_44 rfl rfl ⟨rfl, rfl⟩ rfl ?_
      refine c_X0_placeAt_2 ?_
      refine ck_r ?_
      refine a_cs1 q133_47 rfl ⟨rfl, rfl⟩ rfl ?_
      refine c_X5_costOf ?_
      refine ck_r ?_
      refine a_icmp_ne (tgt := 57) q133_50 (by decide) (fun zc50 => ?_) (fun zc50 => ?_)
      · skip
        refine a_iconst (v := 0) q133_57 (by decide) ?_
        refine a_ireturn q133_58 (nr_bool rfl (by decide)) ?_
        first | exact hq | (exfalso; simp only [b2i_z, b2i_nz] at *; simp_all)
      · skip
        refine a_iconst (v := 1) q133_53 (by decide) ?_
        refine a_goto (tgt := 58) q133_54 (by decide) ?_
        refine a_ireturn q133_58 (nr_bool rfl (by decide)) ?_
        first | exact hq | (exfalso; simp only [b2i_z, b2i_nz] at *; simp_all)
  · skip
    refine a_aload_n (i := 2) q133_8 rfl rfl ?_
    refine a_iconst (v := 0) q133_9 (by decide) ?_
    refine a_cv1 q133_10 rfl rfl ⟨rfl, rfl⟩ rfl ?_
    refine c_X0_hasRank_2 ?_
    refine ck_r ?_
    refine a_if_ne (tgt := 20) q133_13 (by decide) (fun zc13 => ?_) (fun zc13 => ?_)
    · skip
      refine a_iconst (v := 0) q133_20 (by decide) ?_
      refine a_ireturn q133_21 (nr_bool rfl (by decide)) ?_
      first | exact hq | (exfalso; simp only [b2i_z, b2i_nz] at *; simp_all)
    · skip
      refine a_iconst (v := 1) q133_16 (by decide) ?_
      refine a_goto (tgt := 21) q133_17 (by decide) ?_
      refine a_ireturn q133_21 (nr_bool rfl (by decide)) ?_
      exact hq

theorem c_X9_meanOf {X : XS} {I : Nat → Int32} {A : Nat → Nat → Int32} {L : Nat → Nat → Int64} {O : Nat → UInt64} {Q : AO → AH → Prop} {c : Int32} (h1 : ¬ isCol c → Q (.inr 2) (hp I A L O)) (h2 : isCol c → f_countIn A c = 0 → Q (.inr 3) (hp I A L O)) (hne : isCol c → ¬ f_countIn A c = 0 → vf_n64 (FP.ddiv (FP.l2d (f_sumIn L c)) (FP.i2d (f_countIn A c)))) (h0 : isCol c → ¬ f_countIn A c = 0 → Q (.inl (some (.double (FP.ddiv (FP.l2d (f_sumIn L c)) (FP.i2d (f_countIn A c)))))) (hp I A L O)) : Call X 88 [.ref 0, .int c] (hp I A L O) Q := by
  refine call_of (by decide) rfl rfl ?_
  refine a_iload_n (i := 1) q88_0 rfl rfl ?_
  refine a_cs1 q88_1 rfl ⟨rfl, rfl⟩ rfl ?_
  refine c_X9_requireColumn (fun zcol => ?_) (fun zn => ck_x rfl (h1 zn))
  refine ck_v ?_
  refine a_aload_n (i := 0) q88_4 rfl rfl ?_
  refine a_getfield q88_5 rfl rfl ?_
  refine a_iload_n (i := 1) q88_8 rfl rfl ?_
  refine a_cv1 q88_9 rfl rfl ⟨rfl, rfl⟩ rfl ?_
  refine c_X7_countIn ?_
  refine ck_r ?_
  refine a_istore_n (i := 2) (lv' := [(0, _), (1, _), (2, _)]) q88_12 rfl rfl rfl ?_
  refine a_iload_n (i := 2) q88_13 rfl rfl ?_
  refine a_if_ne (tgt := 27) q88_14 (by decide) (fun zc14 => ?_) (fun zc14 => ?_)
  · skip
    refine a_aload_n (i := 0) q88_27 rfl rfl ?_
    refine a_getfield q88_28 rfl rfl ?_
    refine a_iload_n (i := 1) q88_31 rfl rfl ?_
    refine a_cv1 q88_32 rfl rfl ⟨rfl, rfl⟩ rfl ?_
    refine c_X7_sumIn ?_
    refine ck_r ?_
    refine a_l2d q88_35 ?_
    refine a_iload_n (i := 2) q88_36 rfl rfl ?_
    refine a_i2d q88_37 ?_
    refine a_ddiv q88_38 (hne zcol zc14) ?_
    refine a_dreturn q88_39 rfl ?_
    exact h0 zcol zc14
  · skip
    refine a_throw q88_17 ⟨by decide, by decide⟩ (by decide) ?_
    exact h2 zcol zc14

theorem c_X9_filled {X : XS} {I : Nat → Int32} {A : Nat → Nat → Int32} {L : Nat → Nat → Int64} {O : Nat → UInt64} {Q : AO → AH → Prop} {c : Int32} (h1 : ¬ isCol c → Q (.inr 2) (hp I A L O)) (h2 : isCol c → I 2 = 0 → Q (.inr 3) (hp I A L O)) (hne : isCol c → ¬ I 2 = 0 → vf_n32 (FP.fdiv (FP.i2f (f_countIn A c)) (FP.i2f (I 2)))) (h0 : isCol c → ¬ I 2 = 0 → Q (.inl (some (.float (FP.fdiv (FP.i2f (f_countIn A c)) (FP.i2f (I 2)))))) (hp I A L O)) : Call X 89 [.ref 0, .int c] (hp I A L O) Q := by
  refine call_of (by decide) rfl rfl ?_
  refine a_iload_n (i := 1) q89_0 rfl rfl ?_
  refine a_cs1 q89_1 rfl ⟨rfl, rfl⟩ rfl ?_
  refine c_X9_requireColumn (fun zcol => ?_) (fun zn => ck_x rfl (h1 zn))
  refine ck_v ?_
  refine a_aload_n (i := 0) q89_4 rfl rfl ?_
  refine a_getfield q89_5 rfl rfl ?_
  refine a_cv0 q89_8 rfl rfl ⟨rfl, rfl⟩ rfl ?_
  refine c_X7_rowCount ?_
  refine ck_r ?_
  refine a_istore_n (i := 2) (lv' := [(0, _), (1, _), (2, _)]) q89_11 rfl rfl rfl ?_
  refine a_iload_n (i := 2) q89_12 rfl rfl ?_
  refine a_if_ne (tgt := 26) q89_13 (by decide) (fun zc13 => ?_) (fun zc13 => ?_)
  · skip
    refine a_aload_n (i := 0) q89_26 rfl rfl ?_
    refine a_getfield q89_27 rfl rfl ?_
    refine a_iload_n (i := 1) q89_30 rfl rfl ?_
    refine a_cv1 q89_31 rfl rfl ⟨rfl, rfl⟩ rfl ?_
    refine c_X7_countIn ?_
    refine ck_r ?_
    refine a_i2f q89_34 ?_
    refine a_iload_n (i := 2) q89_35 rfl rfl ?_
    refine a_i2f q89_36 ?_
    refine a_fdiv q89_37 (hne zcol zc13) ?_
    refine a_freturn q89_38 rfl ?_
    exact h0 zcol zc13
  · skip
    refine a_throw q89_16 ⟨by decide, by decide⟩ (by decide) ?_
    exact h2 zcol zc13
