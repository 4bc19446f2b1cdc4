/-! the class's own look at its ranking -/
theorem c_X9_isSound {X : XS} {I : Nat → Int32} {A : Nat → Nat → Int32} {L : Nat → Nat → Int64} {O : AH} {Q : AO → AH → Prop} {k : Nat} (hk : I 7 = nI k) (hk5 : k ≤ 5) (ha : ∀ z, z < (rkB I A L).1 → okC I A (p_chart ((rkB I A L).2 z))) (ho : ∀ z, z + 1 < (rkB I A L).1 → ¬ (p_of (f_cost I A L (p_chart ((rkB I A L).2 (z + 1)))) (p_chart ((rkB I A L).2 (z + 1)))) < (p_of (f_cost I A L (p_chart ((rkB I A L).2 z))) (p_chart ((rkB I A L).2 z)))) (hf : (¬ isRk ((va_up (va_up (va_up (va_up (va_up I 6 0) 7 (nI (rkB I A L).1)) 10 (nI (tAll (va_up (va_up I 6 0) 7 (nI (rkB I A L).1)) A (va_up L 14 (rkB I A L).2) 0).1.1)) 8 (tAll (va_up (va_up I 6 0) 7 (nI (rkB I A L).1)) A (va_up L 14 (rkB I A L).2) 0).2.1) 9 (tAll (va_up (va_up I 6 0) 7 (nI (rkB I A L).1)) A (va_up L 14 (rkB I A L).2) 0).2.2) 7) 0 ∧ ¬ isRk ((va_up (va_up (va_up (va_up (va_up I 6 0) 7 (nI (rkB I A L).1)) 10 (nI (tAll (va_up (va_up I 6 0) 7 (nI (rkB I A L).1)) A (va_up L 14 (rkB I A L).2) 0).1.1)) 8 (tAll (va_up (va_up I 6 0) 7 (nI (rkB I A L).1)) A (va_up L 14 (rkB I A L).2) 0).2.1) 9 (tAll (va_up (va_up I 6 0) 7 (nI (rkB I A L).1)) A (va_up L 14 (rkB I A L).2) 0).2.2) 10) 0) ∨ (isRk ((va_up (va_up (va_up (va_up (va_up I 6 0) 7 (nI (rkB I A L).1)) 10 (nI (tAll (va_up (va_up I 6 0) 7 (nI (rkB I A L).1)) A (va_up L 14 (rkB I A L).2) 0).1.1)) 8 (tAll (va_up (va_up I 6 0) 7 (nI (rkB I A L).1)) A (va_up L 14 (rkB I A L).2) 0).2.1) 9 (tAll (va_up (va_up I 6 0) 7 (nI (rkB I A L).1)) A (va_up L 14 (rkB I A L).2) 0).2.2) 7) 0 ∧ isRk ((va_up (va_up (va_up (va_up (va_up I 6 0) 7 (nI (rkB I A L).1)) 10 (nI (tAll (va_up (va_up I 6 0) 7 (nI (rkB I A L).1)) A (va_up L 14 (rkB I A L).2) 0).1.1)) 8 (tAll (va_up (va_up I 6 0) 7 (nI (rkB I A L).1)) A (va_up L 14 (rkB I A L).2) 0).2.1) 9 (tAll (va_up (va_up I 6 0) 7 (nI (rkB I A L).1)) A (va_up L 14 (rkB I A L).2) 0).2.2) 10) 0 ∧ f_cost (va_up (va_up (va_up (va_up (va_up I 6 0) 7 (nI (rkB I A L).1)) 10 (nI (tAll (va_up (va_up I 6 0) 7 (nI (rkB I A L).1)) A (va_up L 14 (rkB I A L).2) 0).1.1)) 8 (tAll (va_up (va_up I 6 0) 7 (nI (rkB I A L).1)) A (va_up L 14 (rkB I A L).2) 0).2.1) 9 (tAll (va_up (va_up I 6 0) 7 (nI (rkB I A L).1)) A (va_up L 14 (rkB I A L).2) 0).2.2) A (va_up (va_up L 14 (rkB I A L).2) 17 (tAll (va_up (va_up I 6 0) 7 (nI (rkB I A L).1)) A (va_up L 14 (rkB I A L).2) 0).1.2) (p_chart (f_place ((va_up (va_up (va_up (va_up (va_up I 6 0) 7 (nI (rkB I A L).1)) 10 (nI (tAll (va_up (va_up I 6 0) 7 (nI (rkB I A L).1)) A (va_up L 14 (rkB I A L).2) 0).1.1)) 8 (tAll (va_up (va_up I 6 0) 7 (nI (rkB I A L).1)) A (va_up L 14 (rkB I A L).2) 0).2.1) 9 (tAll (va_up (va_up I 6 0) 7 (nI (rkB I A L).1)) A (va_up L 14 (rkB I A L).2) 0).2.2) 7) ((va_up (va_up L 14 (rkB I A L).2) 17 (tAll (va_up (va_up I 6 0) 7 (nI (rkB I A L).1)) A (va_up L 14 (rkB I A L).2) 0).1.2) 14) 0)) = p_cost (f_place ((va_up (va_up (va_up (va_up (va_up I 6 0) 7 (nI (rkB I A L).1)) 10 (nI (tAll (va_up (va_up I 6 0) 7 (nI (rkB I A L).1)) A (va_up L 14 (rkB I A L).2) 0).1.1)) 8 (tAll (va_up (va_up I 6 0) 7 (nI (rkB I A L).1)) A (va_up L 14 (rkB I A L).2) 0).2.1) 9 (tAll (va_up (va_up I 6 0) 7 (nI (rkB I A L).1)) A (va_up L 14 (rkB I A L).2) 0).2.2) 10) ((va_up (va_up L 14 (rkB I A L).2) 17 (tAll (va_up (va_up I 6 0) 7 (nI (rkB I A L).1)) A (va_up L 14 (rkB I A L).2) 0).1.2) 17) 0))) (hq : Q (.inl (some (.int 1))) (hpT (va_up (va_up I 6 0) 7 (nI (rkB I A L).1)) A (va_up L 14 (rkB I A L).2) O (tAll (va_up (va_up I 6 0) 7 (nI (rkB I A L).1)) A (va_up L 14 (rkB I A L).2) 0))) : Call X 94 [.ref 1] (hp I A L O) Q := by
  refine call_of (by decide) rfl rfl ?_
  refine a_aload_n (i := 0) q94_0 rfl rfl ?_
  refine a_getfield q94_1 rfl rfl ?_
  refine a_cv0 q94_4 rfl rfl ⟨rfl, rfl⟩ rfl ?_
  refine c_X6_ranking' hk hk5 ?_
  refine ck_r ?_
  refine a_astore_n (i := 1) (lv' := [(0, _), (1, _)]) q94_7 rfl rfl rfl ?_
  refine a_aload_n (i := 0) q94_8 rfl rfl ?_
  refine a_getfield q94_9 rfl rfl ?_
  refine a_cv0 q94_12 rfl rfl ⟨rfl, rfl⟩ rfl ?_
  refine c_X8_run ?_
  refine ck_v ?_
  refine a_aload_n (i := 0) q94_15 rfl rfl ?_
  refine a_aload_n (i := 1) q94_16 rfl rfl ?_
  refine a_cv1 q94_17 rfl rfl ⟨rfl, rfl⟩ rfl ?_
  refine c_X9_isRankingAllowed (k := (rkB I A L).1) rfl (rkB_le hk hk5) ha ?_
  refine ck_r ?_
  refine a_if_eq (tgt := 50) q94_20 (by decide) (fun zc20 => absurd zc20 (by decide)) (fun zc20 => ?_)
  refine a_aload_n (i := 0) q94_23 rfl rfl ?_
  refine a_aload_n (i := 1) q94_24 rfl rfl ?_
  refine a_cv1 q94_25 rfl rfl ⟨rfl, rfl⟩ rfl ?_
  refine c_X9_isRankingInOrder (k := (rkB I A L).1) rfl (rkB_le hk hk5) ho ?_
  refine ck_r ?_
  refine a_if_eq (tgt := 50) q94_28 (by decide) (fun zc28 => absurd zc28 (by decide)) (fun zc28 => ?_)
  refine a_aload_n (i := 0) q94_31 rfl rfl ?_
  refine a_aload_n (i := 1) q94_32 rfl rfl ?_
  refine a_aload_n (i := 0) q94_33 rfl rfl ?_
  refine a_getfield q94_34 rfl rfl ?_
  refine a_cv0 q94_37 rfl rfl ⟨rfl, rfl⟩ rfl ?_
  refine c_X8_ranking ?_
  refine ck_r ?_
  refine a_cv2 q94_40 rfl rfl ⟨rfl, rfl⟩ rfl ?_
  refine c_X9_isFirstConfirmed hf ?_
  refine ck_r ?_
  refine a_if_eq (tgt := 50) q94_43 (by decide) (fun zc43 => absurd zc43 (by decide)) (fun zc43 => ?_)
  refine a_iconst (v := 1) q94_46 (by decide) ?_
  refine a_goto (tgt := 51) q94_47 (by decide) ?_
  refine a_ireturn q94_51 (nr_bool rfl (by decide)) ?_
  exact lfh hq rfl
